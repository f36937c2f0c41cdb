/-! the reference: a day -/
set_option maxRecDepth 100000 in
set_option maxHeartbeats 4000000 in
theorem t9_dayC {T : TC} {I J : MI} {G : MG} {b : Nat × Nat} (d : Nat) {M : Nat} (hM : MSh T G M) (x1 x2 : Int32) (hJ : Fr (Pd M) I J) (hW : WfG (J (M + 1))) (hfin : dayD (dayC (J (M + 1))) = dayG (I (M + 1))) : Ex T RX9 cX9_day 4 (d + 4) (fm T "day" none (fun v I' G' => v = none ∧ I' (M + 1) = dayG (I (M + 1)) ∧ Fr (Pd M) I I' ∧ G' = G)) 92 [some (.ref M), some (.int x1), some (.int x2), none] [] J G b := by
  have hn8 := hW.2.1
  have hn1 := hW.1
  generalize hg : J (M + 1) = g at hW hfin hn8 hn1
  generalize hnn : nS g = n at hn8 hn1
  refine Ex_aload_n dX9_day_92 rfl ?_
  refine Ex_V0i dX9_day_93 sX9_155 hM.1 (Nat.le_of_ble_eq_true rfl) (c9_draw (d + 3) hM) ?_
  rintro r _ _ ⟨rfl, rfl, rfl⟩
  rw [hg]
  refine Ex_bipush (v := nI 100) dX9_day_96 (by rfl) ?_
  refine Ex_iremN (dw_lt _) (by omega) (by omega) dX9_day_98 ?_
  refine Ex_aload_n dX9_day_99 rfl ?_
  refine Ex_getr dX9_day_100 fX9_9 hM.1 (mF0 hM).1 ?_
  refine Ex_iconst (v := nI 4) dX9_day_103 (by rfl) ?_
  refine Ex_iald dX9_day_104 (mF0 hM).2.1 rfl (by rw [(mF0 hM).2.2]; omega) (by rw [(mF0 hM).2.2]; decide) ?_
  refine Ex_top (show _ = g 4 by rw [rowI_s, drawG_n (by omega)]) ?_
  refine Ex_icmp_ge (tgt := 112) dX9_day_105 (by decide) (fun h105 => ?_) (fun h105 => ?_)
  · refine Ex_iconst (v := nI 0) dX9_day_112 (by rfl) ?_
    refine Ex_istore_n dX9_day_113 (by decide) rfl ?_
    simp only [st_n0, st_n1, st_n2, st_n3, List.set_cons_zero, List.set_cons_succ]
    refine Ex_iload_n dX9_day_114 rfl ?_
    refine Ex_if_eq (tgt := 143) dX9_day_115 (by decide) (fun h115 => ?_) (fun h115 => ?_)
    · refine Ex_aload_n dX9_day_143 rfl ?_
      refine Ex_getr dX9_day_144 fX9_9 hM.1 (mF0 hM).1 ?_
      refine Ex_iconst (v := nI 2) dX9_day_147 (by rfl) ?_
      refine Ex_dup2 dX9_day_148 rfl rfl ?_
      refine Ex_iald dX9_day_149 (mF0 hM).2.1 rfl (by rw [(mF0 hM).2.2]; omega) (by rw [(mF0 hM).2.2]; decide) ?_
      rw [rowI_s]
      refine Ex_iconst (v := nI 1) dX9_day_150 (by rfl) ?_
      first | with_reducible refine Ex_iaddN dX9_day_151 ?_ | refine Ex_iadd dX9_day_151 ?_
      refine Ex_iast dX9_day_152 (mF0 hM).2.1 rfl (by rw [(mF0 hM).2.2]; omega) (by rw [(mF0 hM).2.2]; decide) ?_
      rw [setI_row, rowI_r, rowI_s]
      refine Ex_vret dX9_day_153 ?_
      exact ⟨rfl, (by rw [rowI_s, ← hfin]; unfold dayC; rw [if_neg (fun q => absurd q.1 (Int32.not_lt.mpr h105))]; rfl), hJ.trans (Fr.row (Or.inl rfl)), rfl⟩
    · exact absurd (rfl : nI 0 = 0) h115
  · refine Ex_iconst (v := nI 1) dX9_day_108 (by rfl) ?_
    refine Ex_goto (tgt := 113) dX9_day_109 (by decide) ?_
    refine Ex_istore_n dX9_day_113 (by decide) rfl ?_
    simp only [st_n0, st_n1, st_n2, st_n3, List.set_cons_zero, List.set_cons_succ]
    refine Ex_iload_n dX9_day_114 rfl ?_
    refine Ex_if_eq (tgt := 143) dX9_day_115 (by decide) (fun h115 => ?_) (fun h115 => ?_)
    · exact absurd h115 (by decide)
    · refine Ex_aload_n dX9_day_118 rfl ?_
      refine Ex_getr dX9_day_119 fX9_9 hM.1 (mF0 hM).1 ?_
      refine Ex_iconst (v := nI 1) dX9_day_122 (by rfl) ?_
      refine Ex_iald dX9_day_123 (mF0 hM).2.1 rfl (by rw [(mF0 hM).2.2]; omega) (by rw [(mF0 hM).2.2]; decide) ?_
      refine Ex_top (show _ = nI n by rw [rowI_s, drawG_n (by omega)]; exact hn1) ?_
      refine Ex_iconst (v := nI 1) dX9_day_124 (by rfl) ?_
      refine Ex_icmp_leN (by omega) (by omega) (tgt := 143) dX9_day_125 (by decide) (fun h125 => ?_) (fun h125 => ?_)
      · refine Ex_aload_n dX9_day_143 rfl ?_
        refine Ex_getr dX9_day_144 fX9_9 hM.1 (mF0 hM).1 ?_
        refine Ex_iconst (v := nI 2) dX9_day_147 (by rfl) ?_
        refine Ex_dup2 dX9_day_148 rfl rfl ?_
        refine Ex_iald dX9_day_149 (mF0 hM).2.1 rfl (by rw [(mF0 hM).2.2]; omega) (by rw [(mF0 hM).2.2]; decide) ?_
        rw [rowI_s]
        refine Ex_iconst (v := nI 1) dX9_day_150 (by rfl) ?_
        first | with_reducible refine Ex_iaddN dX9_day_151 ?_ | refine Ex_iadd dX9_day_151 ?_
        refine Ex_iast dX9_day_152 (mF0 hM).2.1 rfl (by rw [(mF0 hM).2.2]; omega) (by rw [(mF0 hM).2.2]; decide) ?_
        rw [setI_row, rowI_r, rowI_s]
        refine Ex_vret dX9_day_153 ?_
        exact ⟨rfl, (by rw [rowI_s, ← hfin]; unfold dayC; rw [if_neg (fun q => absurd q.2 (by rw [hnn]; omega))]; rfl), hJ.trans (Fr.row (Or.inl rfl)), rfl⟩
      · refine Ex_aload_n dX9_day_128 rfl ?_
        refine Ex_aload_n dX9_day_129 rfl ?_
        refine Ex_V0i dX9_day_130 sX9_155 hM.1 (Nat.le_of_ble_eq_true rfl) (c9_draw (d + 3) hM) ?_
        rintro r _ _ ⟨rfl, rfl, rfl⟩
        rw [rowI_r, rowI_s]
        refine Ex_aload_n dX9_day_133 rfl ?_
        refine Ex_getr dX9_day_134 fX9_9 hM.1 (mF0 hM).1 ?_
        refine Ex_iconst (v := nI 1) dX9_day_137 (by rfl) ?_
        refine Ex_iald dX9_day_138 (mF0 hM).2.1 rfl (by rw [(mF0 hM).2.2]; omega) (by rw [(mF0 hM).2.2]; decide) ?_
        refine Ex_top (show _ = nI n by rw [rowI_s, drawG_n (by omega), drawG_n (by omega)]; exact hn1) ?_
        refine Ex_iremN (dw_lt _) (by omega) (by omega) dX9_day_139 ?_
        refine Ex_V1v dX9_day_140 sX9_159 hM.1 (Nat.le_of_ble_eq_true rfl) (c9_blows d hM (dw (drawG g 0) % n) n (by rw [rowI_s]; exact WfG_draw (WfG_draw hW)) (Nat.mod_lt _ (by omega)) (by rw [rowI_s, drawG_n (by omega), drawG_n (by omega)]; exact hn1) hn8) ?_
        rintro _ _ ⟨rfl, rfl⟩
        rw [rowI_r, rowI_s]
        refine Ex_aload_n dX9_day_143 rfl ?_
        refine Ex_getr dX9_day_144 fX9_9 hM.1 (mF0 hM).1 ?_
        refine Ex_iconst (v := nI 2) dX9_day_147 (by rfl) ?_
        refine Ex_dup2 dX9_day_148 rfl rfl ?_
        refine Ex_iald dX9_day_149 (mF0 hM).2.1 rfl (by rw [(mF0 hM).2.2]; omega) (by rw [(mF0 hM).2.2]; decide) ?_
        rw [rowI_s]
        refine Ex_iconst (v := nI 1) dX9_day_150 (by rfl) ?_
        first | with_reducible refine Ex_iaddN dX9_day_151 ?_ | refine Ex_iadd dX9_day_151 ?_
        refine Ex_iast dX9_day_152 (mF0 hM).2.1 rfl (by rw [(mF0 hM).2.2]; omega) (by rw [(mF0 hM).2.2]; decide) ?_
        rw [setI_row, rowI_r, rowI_s]
        refine Ex_vret dX9_day_153 ?_
        exact ⟨rfl, (by rw [rowI_s, ← hfin]; unfold dayC; rw [if_pos ⟨(Int32.not_le.mp h105), by rw [hnn]; omega⟩, hnn]; rfl), hJ.trans (Fr.row (Or.inl rfl)), rfl⟩
set_option maxRecDepth 100000 in
set_option maxHeartbeats 4000000 in
theorem t9_dayB {T : TC} {I J : MI} {G : MG} {b : Nat × Nat} (d : Nat) {M : Nat} (hM : MSh T G M) (x1 x2 : Int32) (hJ : Fr (Pd M) I J) (hW : WfG (J (M + 1))) (hfin : dayD (dayC (dayB (J (M + 1)))) = dayG (I (M + 1))) : Ex T RX9 cX9_day 4 (d + 4) (fm T "day" none (fun v I' G' => v = none ∧ I' (M + 1) = dayG (I (M + 1)) ∧ Fr (Pd M) I I' ∧ G' = G)) 41 [some (.ref M), some (.int x1), some (.int x2), none] [] J G b := by
  have hn8 := hW.2.1
  have hn1 := hW.1
  generalize hg : J (M + 1) = g at hW hfin hn8 hn1
  generalize hnn : nS g = n at hn8 hn1
  refine Ex_aload_n dX9_day_41 rfl ?_
  refine Ex_V0i dX9_day_42 sX9_155 hM.1 (Nat.le_of_ble_eq_true rfl) (c9_draw (d + 3) hM) ?_
  rintro r _ _ ⟨rfl, rfl, rfl⟩
  rw [hg]
  refine Ex_bipush (v := nI 100) dX9_day_45 (by rfl) ?_
  refine Ex_iremN (dw_lt _) (by omega) (by omega) dX9_day_47 ?_
  refine Ex_aload_n dX9_day_48 rfl ?_
  refine Ex_getr dX9_day_49 fX9_9 hM.1 (mF0 hM).1 ?_
  refine Ex_iconst (v := nI 3) dX9_day_52 (by rfl) ?_
  refine Ex_iald dX9_day_53 (mF0 hM).2.1 rfl (by rw [(mF0 hM).2.2]; omega) (by rw [(mF0 hM).2.2]; decide) ?_
  refine Ex_top (show _ = g 3 by rw [rowI_s, drawG_n (by omega)]) ?_
  refine Ex_icmp_ge (tgt := 61) dX9_day_54 (by decide) (fun h54 => ?_) (fun h54 => ?_)
  · refine Ex_iconst (v := nI 0) dX9_day_61 (by rfl) ?_
    refine Ex_istore_n dX9_day_62 (by decide) rfl ?_
    simp only [st_n0, st_n1, st_n2, st_n3, List.set_cons_zero, List.set_cons_succ]
    refine Ex_iload_n dX9_day_63 rfl ?_
    refine Ex_if_eq (tgt := 92) dX9_day_64 (by decide) (fun h64 => ?_) (fun h64 => ?_)
    · have eB : dayB g = drawG g := if_neg (fun q => absurd q.1 (Int32.not_lt.mpr h54))
      exact t9_dayC d hM _ _ (hJ.trans (Fr.row (Or.inl rfl))) (by rw [rowI_s]; exact WfG_draw hW) (by rw [rowI_s, ← eB]; exact hfin)
    · exact absurd (rfl : nI 0 = 0) h64
  · refine Ex_iconst (v := nI 1) dX9_day_57 (by rfl) ?_
    refine Ex_goto (tgt := 62) dX9_day_58 (by decide) ?_
    refine Ex_istore_n dX9_day_62 (by decide) rfl ?_
    simp only [st_n0, st_n1, st_n2, st_n3, List.set_cons_zero, List.set_cons_succ]
    refine Ex_iload_n dX9_day_63 rfl ?_
    refine Ex_if_eq (tgt := 92) dX9_day_64 (by decide) (fun h64 => ?_) (fun h64 => ?_)
    · exact absurd h64 (by decide)
    · refine Ex_aload_n dX9_day_67 rfl ?_
      refine Ex_getr dX9_day_68 fX9_9 hM.1 (mF0 hM).1 ?_
      refine Ex_iconst (v := nI 1) dX9_day_71 (by rfl) ?_
      refine Ex_iald dX9_day_72 (mF0 hM).2.1 rfl (by rw [(mF0 hM).2.2]; omega) (by rw [(mF0 hM).2.2]; decide) ?_
      refine Ex_top (show _ = nI n by rw [rowI_s, drawG_n (by omega)]; exact hn1) ?_
      refine Ex_if_le (tgt := 92) dX9_day_73 (by decide) (fun h73 => ?_) (fun h73 => ?_)
      · have eB : dayB g = drawG g := if_neg (fun q => absurd q.2 (by rw [hnn, nI_le0 (by omega) h73]; omega))
        exact t9_dayC d hM _ _ (hJ.trans (Fr.row (Or.inl rfl))) (by rw [rowI_s]; exact WfG_draw hW) (by rw [rowI_s, ← eB]; exact hfin)
      · have hn0 : 0 < n := by
          rcases Nat.eq_zero_or_pos n with e | e
          · exact absurd (show nI n ≤ 0 by rw [e]; decide) h73
          · exact e
        refine Ex_aload_n dX9_day_76 rfl ?_
        refine Ex_aload_n dX9_day_77 rfl ?_
        refine Ex_V0i dX9_day_78 sX9_155 hM.1 (Nat.le_of_ble_eq_true rfl) (c9_draw (d + 3) hM) ?_
        rintro r _ _ ⟨rfl, rfl, rfl⟩
        rw [rowI_r, rowI_s]
        refine Ex_aload_n dX9_day_81 rfl ?_
        refine Ex_getr dX9_day_82 fX9_9 hM.1 (mF0 hM).1 ?_
        refine Ex_iconst (v := nI 1) dX9_day_85 (by rfl) ?_
        refine Ex_iald dX9_day_86 (mF0 hM).2.1 rfl (by rw [(mF0 hM).2.2]; omega) (by rw [(mF0 hM).2.2]; decide) ?_
        refine Ex_top (show _ = nI n by rw [rowI_s, drawG_n (by omega), drawG_n (by omega)]; exact hn1) ?_
        refine Ex_iremN (dw_lt _) (by omega) (by omega) dX9_day_87 ?_
        have hsn := Nat.mod_lt (dw (drawG g 0)) (show n > 0 by omega)
        refine Ex_V1i dX9_day_88 sX9_151 hM.1 (Nat.le_of_ble_eq_true rfl) (c9_sweepsOff d hM (dw (drawG g 0) % n) (by rw [rowI_s]; exact WfG_draw (WfG_draw hW)) (by omega)) ?_
        rintro r I2 _ ⟨rfl, hs2, hF2, rfl⟩
        rw [rowI_s] at hs2
        refine Ex_istore_n dX9_day_91 (by decide) rfl ?_
        simp only [st_n0, st_n1, st_n2, st_n3, List.set_cons_zero, List.set_cons_succ]
        refine Ex_drop 3 ?_
        simp only [List.set_cons_zero, List.set_cons_succ]
        have eB : dayB g = sweepG (drawG (drawG g)) (dw (drawG g 0) % n) := by unfold dayB; rw [hnn]; exact if_pos ⟨Int32.not_le.mp h54, by omega⟩
        exact t9_dayC d hM _ _ ((hJ.trans (Fr.row (Or.inl rfl))).trans hF2) (by rw [hs2]; exact WfG_sweep (by omega) (WfG_draw (WfG_draw hW))) (by rw [hs2, ← eB]; exact hfin)
set_option maxRecDepth 100000 in
set_option maxHeartbeats 4000000 in
theorem l9_dayA {T : TC} {I : MI} {G : MG} {F : FinT} {b : Nat × Nat} (d : Nat) {M : Nat} (hM : MSh T G M) (g : Nat → Int32) (hW : WfG g) (k : Nat) (hk : k < 10) (n : Nat) (hn1 : g 1 = nI n) (hn8 : n ≤ 8) (kx : Ex T RX9 cX9_day 4 (d + 4) F 10 [some (.ref M), some (.int (nI k)), some (.int (nI n)), none] [] (rowI I (M + 1) (catchG (nI k) g n)) G b) : ∀ i s0, s0 + i = n  → Ex T RX9 cX9_day 4 (d + 4) F 10 [some (.ref M), some (.int (nI k)), some (.int (nI s0)), none] [] (rowI I (M + 1) (catchG (nI k) g s0)) G b := by
  intro i
  induction i with
  | zero => intro s0 h0; have e0 : s0 = n := by omega
            subst e0; exact kx
  | succ i ih0 =>
    intro s0 h0
    have ih := ih0 (s0 + 1)
    refine Ex_iload_n dX9_day_10 rfl ?_
    refine Ex_aload_n dX9_day_11 rfl ?_
    refine Ex_getr dX9_day_12 fX9_9 hM.1 (mF0 hM).1 ?_
    refine Ex_iconst (v := nI 1) dX9_day_15 (by rfl) ?_
    refine Ex_iald dX9_day_16 (mF0 hM).2.1 rfl (by rw [(mF0 hM).2.2]; omega) (by rw [(mF0 hM).2.2]; decide) ?_
    refine Ex_top (show _ = nI n by rw [rowI_s, catch_oW hW hk (by omega) (by omega)]; exact hn1) ?_
    refine Ex_icmp_geN (by omega) (by omega) (tgt := 41) dX9_day_17 (by decide) (fun h17 => ?_) (fun h17 => ?_)
    · omega
    · refine Ex_aload_n dX9_day_20 rfl ?_
      refine Ex_iload_n dX9_day_21 rfl ?_
      refine Ex_iload_n dX9_day_22 rfl ?_
      refine Ex_V2p dX9_day_23 sX9_123 hM.1 (Nat.le_of_ble_eq_true rfl) (c9_doesCatch (d + 2) hM s0 (nI k) (by omega)) ?_
      rw [rowI_s]
      refine Ex_if_eq (tgt := 35) dX9_day_26 (by decide) (fun h26 => ?_) (fun h26 => ?_)
      · first | refine Ex_iincN (m := 1) dX9_day_35 rfl rfl (by decide) rfl ?_ | refine Ex_iinc dX9_day_35 rfl rfl (by decide) rfl ?_
        simp only [List.set_cons_zero, List.set_cons_succ]
        refine Ex_goto (tgt := 10) dX9_day_38 (by decide) ?_
        have ec : catchG (nI k) g (s0 + 1) = catchG (nI k) g s0 := if_pos h26
        have key := ih (by omega)
        rw [ec] at key
        exact key
      · refine Ex_aload_n dX9_day_29 rfl ?_
        refine Ex_iload_n dX9_day_30 rfl ?_
        refine Ex_iload_n dX9_day_31 rfl ?_
        refine Ex_V2v dX9_day_32 sX9_147 hM.1 (Nat.le_of_ble_eq_true rfl) (c9_settlesOn (d + 1) hM s0 (mN (catchG (nI k) g s0) s0) (nI k) (by rw [rowI_s]; exact ((WfG_catch hW hk s0 (by omega)).2.2.1 s0 (by omega)).1) (by omega) ((WfG_catch hW hk s0 (by omega)).2.2.1 s0 (by omega)).2.1) ?_
        rintro _ _ ⟨rfl, rfl⟩
        rw [rowI_r, rowI_s]
        first | refine Ex_iincN (m := 1) dX9_day_35 rfl rfl (by decide) rfl ?_ | refine Ex_iinc dX9_day_35 rfl rfl (by decide) rfl ?_
        simp only [List.set_cons_zero, List.set_cons_succ]
        refine Ex_goto (tgt := 10) dX9_day_38 (by decide) ?_
        have ec : catchG (nI k) g (s0 + 1) = settleG (catchG (nI k) g s0) s0 (mN (catchG (nI k) g s0) s0) (nI k) := if_neg h26
        have key := ih (by omega)
        rw [ec] at key
        exact key
set_option maxRecDepth 100000 in
set_option maxHeartbeats 4000000 in
theorem c9_day {T : TC} {I : MI} {G : MG} (d : Nat) {M : Nat} (hM : MSh T G M) (hW0 : WfG (I (M + 1))) : OkV T mX9_day (d + 4) [.ref M] I G (fun I' G' => I' (M + 1) = dayG (I (M + 1)) ∧ Fr (Pd M) I I' ∧ G' = G) := by
  refine Ok_of (own := RX9) (by decide) rfl (cat1 rfl) (Nat.le_of_ble_eq_true rfl) ?_
  show Ex T RX9 cX9_day 4 (d + 4) _ 0 [some (.ref M), none, none, none] [] I G (0, 0)
  refine Ex_aload_n dX9_day_0 rfl ?_
  refine Ex_V0i dX9_day_1 sX9_155 hM.1 (Nat.le_of_ble_eq_true rfl) (c9_draw (d + 3) hM) ?_
  rintro r _ _ ⟨rfl, rfl, rfl⟩
  refine Ex_bipush (v := nI 10) dX9_day_4 (by rfl) ?_
  refine Ex_iremN (dw_lt _) (by omega) (by omega) dX9_day_6 ?_
  refine Ex_istore_n dX9_day_7 (by decide) rfl ?_
  simp only [st_n0, st_n1, st_n2, st_n3, List.set_cons_zero, List.set_cons_succ]
  refine Ex_iconst (v := nI 0) dX9_day_8 (by rfl) ?_
  refine Ex_istore_n dX9_day_9 (by decide) rfl ?_
  simp only [st_n0, st_n1, st_n2, st_n3, List.set_cons_zero, List.set_cons_succ]
  have hn8 := hW0.2.1
  have hn1 : drawG (I (M + 1)) 1 = nI (nS (I (M + 1))) := (drawG_n (by omega)).trans hW0.1
  generalize hnn : nS (I (M + 1)) = n at hn8 hn1
  have hW := WfG_draw hW0
  have hk : dw (I (M + 1) 0) % 10 < 10 := Nat.mod_lt _ (by omega)
  refine l9_dayA d hM (drawG (I (M + 1))) hW _ hk n hn1 hn8 ?_ n 0 (by omega)
  refine Ex_iload_n dX9_day_10 rfl ?_
  refine Ex_aload_n dX9_day_11 rfl ?_
  refine Ex_getr dX9_day_12 fX9_9 hM.1 (mF0 hM).1 ?_
  refine Ex_iconst (v := nI 1) dX9_day_15 (by rfl) ?_
  refine Ex_iald dX9_day_16 (mF0 hM).2.1 rfl (by rw [(mF0 hM).2.2]; omega) (by rw [(mF0 hM).2.2]; decide) ?_
  refine Ex_top (show _ = nI n by rw [rowI_s, catch_oW hW hk (by omega) (by omega)]; exact hn1) ?_
  refine Ex_icmp_geN (by omega) (by omega) (tgt := 41) dX9_day_17 (by decide) (fun h17 => ?_) (fun h17 => ?_)
  · have eA : catchG (nI (dw (I (M + 1) 0) % 10)) (drawG (I (M + 1))) n = dayA (I (M + 1)) := by unfold dayA; rw [hnn]
    rw [eA]
    exact t9_dayB d hM _ _ (Fr.row (Or.inl rfl)) (by rw [rowI_s]; exact WfG_dayA hW0) (by rw [rowI_s]; rfl)
  · omega
set_option maxRecDepth 100000 in
set_option maxHeartbeats 4000000 in
theorem l9_goesOn {T : TC} {I : MI} {G : MG} {F : FinT} {b : Nat × Nat} (d : Nat) {M : Nat} (hM : MSh T G M) (g : Nat → Int32) (hW : WfG g) (n : Nat) (hn : n < 2 ^ 31) (kx : ∀ J, J (M + 1) = daysG g n → Fr (Pd M) I J → Ex T RX9 cX9_goesOn 3 (d + 5) F 2 [some (.ref M), some (.int (nI n)), some (.int (nI n))] [] J G b) : ∀ i k J, k + i = n → J (M + 1) = daysG g k → Fr (Pd M) I J → Ex T RX9 cX9_goesOn 3 (d + 5) F 2 [some (.ref M), some (.int (nI n)), some (.int (nI k))] [] J G b := by
  intro i
  induction i with
  | zero => intro k J h0 h1 h2; have e0 : k = n := by omega
            subst e0; exact kx J h1 h2
  | succ i ih =>
    intro k J h0 h1 h2
    refine Ex_iload_n dX9_goesOn_2 rfl ?_
    refine Ex_iload_n dX9_goesOn_3 rfl ?_
    refine Ex_icmp_geN (by omega) (by omega) (tgt := 17) dX9_goesOn_4 (by decide) (fun h4 => ?_) (fun h4 => ?_)
    · omega
    · refine Ex_aload_n dX9_goesOn_7 rfl ?_
      refine Ex_V0v dX9_goesOn_8 sX9_163 hM.1 (Nat.le_of_ble_eq_true rfl) (c9_day d hM (by rw [h1]; exact WfG_days hW k)) ?_
      rintro J2 _ ⟨hj, hf, rfl⟩
      first | refine Ex_iincN (m := 1) dX9_goesOn_11 rfl rfl (by decide) rfl ?_ | refine Ex_iinc dX9_goesOn_11 rfl rfl (by decide) rfl ?_
      simp only [List.set_cons_zero, List.set_cons_succ]
      refine Ex_goto (tgt := 2) dX9_goesOn_14 (by decide) ?_
      exact ih (k + 1) J2 (by omega) (by rw [hj, h1]; rfl) (h2.trans hf)
set_option maxRecDepth 100000 in
set_option maxHeartbeats 4000000 in
theorem c9_goesOn {T : TC} {I : MI} {G : MG} (d : Nat) {M : Nat} (hM : MSh T G M) (n : Nat) (hW : WfG (I (M + 1))) (hn : n < 2 ^ 31) : OkV T mX9_goesOn (d + 5) [.ref M, .int (nI n)] I G (fun I' G' => I' (M + 1) = daysG (I (M + 1)) n ∧ Fr (Pd M) I I' ∧ G' = G) := by
  refine Ok_of (own := RX9) (by decide) rfl (cat1 rfl) (Nat.le_of_ble_eq_true rfl) ?_
  show Ex T RX9 cX9_goesOn 3 (d + 5) _ 0 [some (.ref M), some (.int (nI n)), none] [] I G (0, 0)
  refine Ex_iconst (v := nI 0) dX9_goesOn_0 (by rfl) ?_
  refine Ex_istore_n dX9_goesOn_1 (by decide) rfl ?_
  simp only [st_n0, st_n1, st_n2, st_n3, List.set_cons_zero, List.set_cons_succ]
  refine l9_goesOn d hM (I (M + 1)) hW n hn ?_ n 0 I (by omega) rfl Fr.refl
  intro J hJ1 hJ2
  refine Ex_iload_n dX9_goesOn_2 rfl ?_
  refine Ex_iload_n dX9_goesOn_3 rfl ?_
  refine Ex_icmp_geN (by omega) (by omega) (tgt := 17) dX9_goesOn_4 (by decide) (fun h4 => ?_) (fun h4 => ?_)
  · refine Ex_vret dX9_goesOn_17 ?_
    exact ⟨rfl, hJ1, hJ2, rfl⟩
  · omega
def sumG (g : Nat → Int32) (w : Nat) : Nat → Int32
  | 0 => nI 0
  | s + 1 => sumG g w s + g (8 + 17 * s + w)
set_option maxRecDepth 100000 in
set_option maxHeartbeats 4000000 in
theorem l9_sumOf {T : TC} {I : MI} {G : MG} {F : FinT} {b : Nat × Nat} (d : Nat) {M : Nat} (hM : MSh T G M) (n w : Nat) (hn1 : I (M + 1) 1 = nI n) (hn8 : n ≤ 8) (hw : w < 17) (kx : Ex T RX9 cX9_sumOf 4 (d + 1) F 4 [some (.ref M), some (.int (nI w)), some (.int (sumG (I (M + 1)) w n)), some (.int (nI n))] [] I G b) : ∀ i s0, s0 + i = n  → Ex T RX9 cX9_sumOf 4 (d + 1) F 4 [some (.ref M), some (.int (nI w)), some (.int (sumG (I (M + 1)) w s0)), some (.int (nI s0))] [] I G b := by
  intro i
  induction i with
  | zero => intro s0 h0; have e0 : s0 = n := by omega
            subst e0; exact kx
  | succ i ih0 =>
    intro s0 h0
    have ih := ih0 (s0 + 1)
    refine Ex_iload_n dX9_sumOf_4 rfl ?_
    refine Ex_aload_n dX9_sumOf_5 rfl ?_
    refine Ex_getr dX9_sumOf_6 fX9_9 hM.1 (mF0 hM).1 ?_
    refine Ex_iconst (v := nI 1) dX9_sumOf_9 (by rfl) ?_
    refine Ex_iald dX9_sumOf_10 (mF0 hM).2.1 rfl (by rw [(mF0 hM).2.2]; omega) (by rw [(mF0 hM).2.2]; decide) ?_
    refine Ex_top hn1 ?_
    refine Ex_icmp_geN (by omega) (by omega) (tgt := 29) dX9_sumOf_11 (by decide) (fun h11 => ?_) (fun h11 => ?_)
    · omega
    · refine Ex_iload_n dX9_sumOf_14 rfl ?_
      refine Ex_aload_n dX9_sumOf_15 rfl ?_
      refine Ex_iload_n dX9_sumOf_16 rfl ?_
      refine Ex_iload_n dX9_sumOf_17 rfl ?_
      refine Ex_V2p dX9_sumOf_18 sX9_105 hM.1 (Nat.le_of_ble_eq_true rfl) (c9_of d hM s0 w (by omega)) ?_
      first | with_reducible refine Ex_iaddN dX9_sumOf_21 ?_ | refine Ex_iadd dX9_sumOf_21 ?_
      refine Ex_istore_n dX9_sumOf_22 (by decide) rfl ?_
      simp only [st_n0, st_n1, st_n2, st_n3, List.set_cons_zero, List.set_cons_succ]
      first | refine Ex_iincN (m := 1) dX9_sumOf_23 rfl rfl (by decide) rfl ?_ | refine Ex_iinc dX9_sumOf_23 rfl rfl (by decide) rfl ?_
      simp only [List.set_cons_zero, List.set_cons_succ]
      refine Ex_goto (tgt := 4) dX9_sumOf_26 (by decide) ?_
      exact ih (by omega)
set_option maxRecDepth 100000 in
set_option maxHeartbeats 4000000 in
theorem c9_sumOf {T : TC} {I : MI} {G : MG} (d : Nat) {M : Nat} (hM : MSh T G M) (n w : Nat) (hn1 : I (M + 1) 1 = nI n) (hn8 : n ≤ 8) (hw : w < 17) : OkP T mX9_sumOf (d + 1) [.ref M, .int (nI w)] I G (sumG (I (M + 1)) w n) := by
  refine Ok_of (own := RX9) (by decide) rfl (cat1 rfl) (Nat.le_of_ble_eq_true rfl) ?_
  show Ex T RX9 cX9_sumOf 4 (d + 1) _ 0 [some (.ref M), some (.int (nI w)), none, none] [] I G (0, 0)
  refine Ex_iconst (v := nI 0) dX9_sumOf_0 (by rfl) ?_
  refine Ex_istore_n dX9_sumOf_1 (by decide) rfl ?_
  simp only [st_n0, st_n1, st_n2, st_n3, List.set_cons_zero, List.set_cons_succ]
  refine Ex_iconst (v := nI 0) dX9_sumOf_2 (by rfl) ?_
  refine Ex_istore_n dX9_sumOf_3 (by decide) rfl ?_
  simp only [st_n0, st_n1, st_n2, st_n3, List.set_cons_zero, List.set_cons_succ]
  refine l9_sumOf d hM n w hn1 hn8 hw ?_ n 0 (by omega)
  refine Ex_iload_n dX9_sumOf_4 rfl ?_
  refine Ex_aload_n dX9_sumOf_5 rfl ?_
  refine Ex_getr dX9_sumOf_6 fX9_9 hM.1 (mF0 hM).1 ?_
  refine Ex_iconst (v := nI 1) dX9_sumOf_9 (by rfl) ?_
  refine Ex_iald dX9_sumOf_10 (mF0 hM).2.1 rfl (by rw [(mF0 hM).2.2]; omega) (by rw [(mF0 hM).2.2]; decide) ?_
  refine Ex_top hn1 ?_
  refine Ex_icmp_geN (by omega) (by omega) (tgt := 29) dX9_sumOf_11 (by decide) (fun h11 => ?_) (fun h11 => ?_)
  · refine Ex_iload_n dX9_sumOf_29 rfl ?_
    refine Ex_iret dX9_sumOf_30 (by first | rfl | exact narrow_bI) ?_
    exact ⟨_, rfl, rfl, rfl, rfl⟩
  · omega
/-- the first n places out of f, the rest g's own -/
def preF (f g : Nat → Int32) (n : Nat) : Nat → Int32 := fun j => if j < n then f j else g j
theorem preF_s {f g : Nat → Int32} {n : Nat} : upd (preF f g n) n (f n) = preF f g (n + 1) := by
  funext j
  unfold preF
  by_cases e : j = n
  · subst e; rw [upd_s, if_pos (by omega)]
  · rw [upd_n e]
    by_cases h : j < n
    · rw [if_pos h, if_pos (by omega)]
    · rw [if_neg h, if_neg (by omega)]
theorem preF_0 {f g : Nat → Int32} : preF f g 0 = g := by
  funext j
  exact if_neg (by omega)
set_option maxRecDepth 100000 in
set_option maxHeartbeats 4000000 in
theorem l9_thinks {T : TC} {I : MI} {G : MG} {F : FinT} {b : Nat × Nat} (d : Nat) {M : Nat} (hM : MSh T G M) (kx : Ex T RX9 cX9_thinks 2 (d) F 2 [some (.ref M), some (.int (nI 144))] [] (rowI I (M + 8) (preF (I (M + 1)) (I (M + 8)) 144)) G b) : ∀ i k, k + i = 144  → Ex T RX9 cX9_thinks 2 (d) F 2 [some (.ref M), some (.int (nI k))] [] (rowI I (M + 8) (preF (I (M + 1)) (I (M + 8)) k)) G b := by
  intro i
  induction i with
  | zero => intro k h0; have e0 : k = 144 := by omega
            subst e0; exact kx
  | succ i ih0 =>
    intro k h0
    have ih := ih0 (k + 1)
    refine Ex_iload_n dX9_thinks_2 rfl ?_
    refine Ex_sipush (v := nI 144) dX9_thinks_3 (by rfl) ?_
    refine Ex_icmp_geN (by omega) (by omega) (tgt := 27) dX9_thinks_6 (by decide) (fun h6 => ?_) (fun h6 => ?_)
    · omega
    · refine Ex_aload_n dX9_thinks_9 rfl ?_
      refine Ex_getr dX9_thinks_10 fX9_31 hM.1 (mF9 hM).1 ?_
      refine Ex_iload_n dX9_thinks_13 rfl ?_
      refine Ex_aload_n dX9_thinks_14 rfl ?_
      refine Ex_getr dX9_thinks_15 fX9_9 hM.1 (mF0 hM).1 ?_
      refine Ex_iload_n dX9_thinks_18 rfl ?_
      refine Ex_iald dX9_thinks_19 (mF0 hM).2.1 rfl (by rw [(mF0 hM).2.2]; omega) (by rw [(mF0 hM).2.2]; decide) ?_
      refine Ex_top (show _ = I (M + 1) k by rw [rowI_n (by omega)]) ?_
      refine Ex_iast dX9_thinks_20 (mF9 hM).2.1 rfl (by rw [(mF9 hM).2.2]; omega) (by rw [(mF9 hM).2.2]; decide) ?_
      rw [setI_row, rowI_r, rowI_s, preF_s]
      first | refine Ex_iincN (m := 1) dX9_thinks_21 rfl rfl (by decide) rfl ?_ | refine Ex_iinc dX9_thinks_21 rfl rfl (by decide) rfl ?_
      simp only [List.set_cons_zero, List.set_cons_succ]
      refine Ex_goto (tgt := 2) dX9_thinks_24 (by decide) ?_
      exact ih (by omega)
set_option maxRecDepth 100000 in
set_option maxHeartbeats 4000000 in
theorem c9_thinks {T : TC} {I : MI} {G : MG} (d : Nat) {M : Nat} (hM : MSh T G M)  : OkV T mX9_thinks (d) [.ref M] I G (fun I' G' => I' = rowI I (M + 8) (preF (I (M + 1)) (I (M + 8)) 144) ∧ G' = G) := by
  refine Ok_of (own := RX9) (by decide) rfl (cat1 rfl) (Nat.le_of_ble_eq_true rfl) ?_
  show Ex T RX9 cX9_thinks 2 (d) _ 0 [some (.ref M), none] [] I G (0, 0)
  refine Ex_iconst (v := nI 0) dX9_thinks_0 (by rfl) ?_
  refine Ex_istore_n dX9_thinks_1 (by decide) rfl ?_
  simp only [st_n0, st_n1, st_n2, st_n3, List.set_cons_zero, List.set_cons_succ]
  refine Ex_eqI (show _ = rowI I (M + 8) (preF (I (M + 1)) (I (M + 8)) 0) by rw [preF_0, rowI_self]) ?_
  refine l9_thinks d hM ?_ 144 0 (by omega)
  refine Ex_iload_n dX9_thinks_2 rfl ?_
  refine Ex_sipush (v := nI 144) dX9_thinks_3 (by rfl) ?_
  refine Ex_icmp_geN (by omega) (by omega) (tgt := 27) dX9_thinks_6 (by decide) (fun h6 => ?_) (fun h6 => ?_)
  · refine Ex_vret dX9_thinks_27 ?_
    exact ⟨rfl, rfl, rfl⟩
  · omega
set_option maxRecDepth 100000 in
set_option maxHeartbeats 4000000 in
theorem l9_putsBack {T : TC} {I : MI} {G : MG} {F : FinT} {b : Nat × Nat} (d : Nat) {M : Nat} (hM : MSh T G M) (kx : Ex T RX9 cX9_putsBack 2 (d) F 2 [some (.ref M), some (.int (nI 144))] [] (rowI I (M + 1) (preF (I (M + 8)) (I (M + 1)) 144)) G b) : ∀ i k, k + i = 144  → Ex T RX9 cX9_putsBack 2 (d) F 2 [some (.ref M), some (.int (nI k))] [] (rowI I (M + 1) (preF (I (M + 8)) (I (M + 1)) k)) G b := by
  intro i
  induction i with
  | zero => intro k h0; have e0 : k = 144 := by omega
            subst e0; exact kx
  | succ i ih0 =>
    intro k h0
    have ih := ih0 (k + 1)
    refine Ex_iload_n dX9_putsBack_2 rfl ?_
    refine Ex_sipush (v := nI 144) dX9_putsBack_3 (by rfl) ?_
    refine Ex_icmp_geN (by omega) (by omega) (tgt := 27) dX9_putsBack_6 (by decide) (fun h6 => ?_) (fun h6 => ?_)
    · omega
    · refine Ex_aload_n dX9_putsBack_9 rfl ?_
      refine Ex_getr dX9_putsBack_10 fX9_9 hM.1 (mF0 hM).1 ?_
      refine Ex_iload_n dX9_putsBack_13 rfl ?_
      refine Ex_aload_n dX9_putsBack_14 rfl ?_
      refine Ex_getr dX9_putsBack_15 fX9_31 hM.1 (mF9 hM).1 ?_
      refine Ex_iload_n dX9_putsBack_18 rfl ?_
      refine Ex_iald dX9_putsBack_19 (mF9 hM).2.1 rfl (by rw [(mF9 hM).2.2]; omega) (by rw [(mF9 hM).2.2]; decide) ?_
      refine Ex_top (show _ = I (M + 8) k by rw [rowI_n (by omega)]) ?_
      refine Ex_iast dX9_putsBack_20 (mF0 hM).2.1 rfl (by rw [(mF0 hM).2.2]; omega) (by rw [(mF0 hM).2.2]; decide) ?_
      rw [setI_row, rowI_r, rowI_s, preF_s]
      first | refine Ex_iincN (m := 1) dX9_putsBack_21 rfl rfl (by decide) rfl ?_ | refine Ex_iinc dX9_putsBack_21 rfl rfl (by decide) rfl ?_
      simp only [List.set_cons_zero, List.set_cons_succ]
      refine Ex_goto (tgt := 2) dX9_putsBack_24 (by decide) ?_
      exact ih (by omega)
set_option maxRecDepth 100000 in
set_option maxHeartbeats 4000000 in
theorem c9_putsBack {T : TC} {I : MI} {G : MG} (d : Nat) {M : Nat} (hM : MSh T G M)  : OkV T mX9_putsBack (d) [.ref M] I G (fun I' G' => I' = rowI I (M + 1) (preF (I (M + 8)) (I (M + 1)) 144) ∧ G' = G) := by
  refine Ok_of (own := RX9) (by decide) rfl (cat1 rfl) (Nat.le_of_ble_eq_true rfl) ?_
  show Ex T RX9 cX9_putsBack 2 (d) _ 0 [some (.ref M), none] [] I G (0, 0)
  refine Ex_iconst (v := nI 0) dX9_putsBack_0 (by rfl) ?_
  refine Ex_istore_n dX9_putsBack_1 (by decide) rfl ?_
  simp only [st_n0, st_n1, st_n2, st_n3, List.set_cons_zero, List.set_cons_succ]
  refine Ex_eqI (show _ = rowI I (M + 1) (preF (I (M + 8)) (I (M + 1)) 0) by rw [preF_0, rowI_self]) ?_
  refine l9_putsBack d hM ?_ 144 0 (by omega)
  refine Ex_iload_n dX9_putsBack_2 rfl ?_
  refine Ex_sipush (v := nI 144) dX9_putsBack_3 (by rfl) ?_
  refine Ex_icmp_geN (by omega) (by omega) (tgt := 27) dX9_putsBack_6 (by decide) (fun h6 => ?_) (fun h6 => ?_)
  · refine Ex_vret dX9_putsBack_27 ?_
    exact ⟨rfl, rfl, rfl⟩
  · omega
set_option maxRecDepth 100000 in
set_option maxHeartbeats 4000000 in
theorem l9_copyAll {T : TC} {I : MI} {G : MG} {F : FinT} {b : Nat × Nat} (d : Nat) {a1 a2 : Nat} (h1 : Is T G a1 10) (h2 : Is T G a2 10) (hne : a1 ≠ a2) (hl1 : gN G a1 = 1516) (hl2 : gN G a2 = 1516) (kx : Ex T RX9 cX9_copyAll 3 (d) F 2 [some (.ref a1), some (.ref a2), some (.int (nI 1516))] [] (rowI I a2 (preF (I a1) (I a2) 1516)) G b) : ∀ i k, k + i = 1516  → Ex T RX9 cX9_copyAll 3 (d) F 2 [some (.ref a1), some (.ref a2), some (.int (nI k))] [] (rowI I a2 (preF (I a1) (I a2) k)) G b := by
  intro i
  induction i with
  | zero => intro k h0; have e0 : k = 1516 := by omega
            subst e0; exact kx
  | succ i ih0 =>
    intro k h0
    have ih := ih0 (k + 1)
    refine Ex_iload_n dX9_copyAll_2 rfl ?_
    refine Ex_sipush (v := nI 1516) dX9_copyAll_3 (by rfl) ?_
    refine Ex_icmp_geN (by omega) (by omega) (tgt := 21) dX9_copyAll_6 (by decide) (fun h6 => ?_) (fun h6 => ?_)
    · omega
    · refine Ex_aload_n dX9_copyAll_9 rfl ?_
      refine Ex_iload_n dX9_copyAll_10 rfl ?_
      refine Ex_aload_n dX9_copyAll_11 rfl ?_
      refine Ex_iload_n dX9_copyAll_12 rfl ?_
      refine Ex_iald dX9_copyAll_13 h1 rfl (by omega) (by omega) ?_
      refine Ex_top (show _ = I a1 k by rw [rowI_n hne]) ?_
      refine Ex_iast dX9_copyAll_14 h2 rfl (by omega) (by omega) ?_
      rw [setI_row, rowI_r, rowI_s, preF_s]
      first | refine Ex_iincN (m := 1) dX9_copyAll_15 rfl rfl (by decide) rfl ?_ | refine Ex_iinc dX9_copyAll_15 rfl rfl (by decide) rfl ?_
      simp only [List.set_cons_zero, List.set_cons_succ]
      refine Ex_goto (tgt := 2) dX9_copyAll_18 (by decide) ?_
      exact ih (by omega)
set_option maxRecDepth 100000 in
set_option maxHeartbeats 4000000 in
theorem c9_copyAll {T : TC} {I : MI} {G : MG} (d : Nat) {a1 a2 : Nat} (h1 : Is T G a1 10) (h2 : Is T G a2 10) (hne : a1 ≠ a2) (hl1 : gN G a1 = 1516) (hl2 : gN G a2 = 1516)  : OkV T mX9_copyAll (d) [.ref a1, .ref a2] I G (fun I' G' => I' = rowI I a2 (preF (I a1) (I a2) 1516) ∧ G' = G) := by
  refine Ok_of (own := RX9) (by decide) rfl (cat1 rfl) (Nat.le_of_ble_eq_true rfl) ?_
  show Ex T RX9 cX9_copyAll 3 (d) _ 0 [some (.ref a1), some (.ref a2), none] [] I G (0, 0)
  refine Ex_iconst (v := nI 0) dX9_copyAll_0 (by rfl) ?_
  refine Ex_istore_n dX9_copyAll_1 (by decide) rfl ?_
  simp only [st_n0, st_n1, st_n2, st_n3, List.set_cons_zero, List.set_cons_succ]
  refine Ex_eqI (show _ = rowI I a2 (preF (I a1) (I a2) 0) by rw [preF_0, rowI_self]) ?_
  refine l9_copyAll d h1 h2 hne hl1 hl2 ?_ 1516 0 (by omega)
  refine Ex_iload_n dX9_copyAll_2 rfl ?_
  refine Ex_sipush (v := nI 1516) dX9_copyAll_3 (by rfl) ?_
  refine Ex_icmp_geN (by omega) (by omega) (tgt := 21) dX9_copyAll_6 (by decide) (fun h6 => ?_) (fun h6 => ?_)
  · refine Ex_vret dX9_copyAll_21 ?_
    exact ⟨rfl, rfl, rfl⟩
  · omega
