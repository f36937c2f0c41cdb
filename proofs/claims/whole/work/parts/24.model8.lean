/-! deal -/
theorem comes_1 {g : Nat → Int32} {n : Nat} {a b : Int32} : comesG g n a b 1 = nI (n + 1) := by
  unfold comesG
  rw [if_neg (by omega), if_neg (by omega), if_neg (by omega), if_pos rfl]
theorem deal_1 {g : Nat → Int32} (h1 : g 1 = nI (nS g)) (h8 : nS g ≤ 8) : ∀ k, nS g + k ≤ 8 → dealG g k 1 = nI (nS g + k)
  | 0, _ => h1
  | k + 1, h => by
    have ih := deal_1 h1 h8 k (by omega)
    have e : nS (dealG g k) = nS g + k := nS_of ih (by omega)
    show dealS (dealG g k) 1 = _
    unfold dealS
    rw [comes_1, e]
    congr 1
set_option maxRecDepth 100000 in
set_option maxHeartbeats 4000000 in
theorem l9_deal {T : TC} {I : MI} {G : MG} {F : FinT} {b : Nat × Nat} (d : Nat) {M : Nat} (hM : MSh T G M) (g : Nat → Int32) (h1 : g 1 = nI (nS g)) (n N : Nat) (hn : n ≤ 8) (hN : N ≤ n) (h8 : nS g + N ≤ 8) (kx : Ex T RX9 cX9_deal 5 (d + 2) F 15 [some (.ref M), some (.int (nI n)), some (.int (nI N)), none, none] [] (rowI I (M + 1) (dealG g N)) G b) : ∀ i k, k + i = N  → Ex T RX9 cX9_deal 5 (d + 2) F 15 [some (.ref M), some (.int (nI n)), some (.int (nI k)), none, none] [] (rowI I (M + 1) (dealG g k)) G b := by
  intro i
  induction i with
  | zero => intro k h0; have e0 : k = N := by omega
            subst e0; exact kx
  | succ i ih0 =>
    intro k h0
    have ih := ih0 (k + 1)
    refine Ex_iload_n dX9_deal_15 rfl ?_
    refine Ex_iload_n dX9_deal_16 rfl ?_
    refine Ex_icmp_geN (by omega) (by omega) (tgt := 59) dX9_deal_17 (by decide) (fun h17 => ?_) (fun h17 => ?_)
    · omega
    · refine Ex_aload_n dX9_deal_20 rfl ?_
      refine Ex_getr dX9_deal_21 fX9_9 hM.1 (mF0 hM).1 ?_
      refine Ex_iconst (v := nI 1) dX9_deal_24 (by rfl) ?_
      refine Ex_iald dX9_deal_25 (mF0 hM).2.1 rfl (by rw [(mF0 hM).2.2]; omega) (by rw [(mF0 hM).2.2]; decide) ?_
      refine Ex_top (show _ = nI (nS g + k) by rw [rowI_s]; exact deal_1 h1 (by omega) k (by omega)) ?_
      refine Ex_bipush (v := nI 8) dX9_deal_26 (by rfl) ?_
      refine Ex_icmp_geN (by omega) (by omega) (tgt := 59) dX9_deal_28 (by decide) (fun h28 => ?_) (fun h28 => ?_)
      · omega
      · refine Ex_aload_n dX9_deal_31 rfl ?_
        refine Ex_V0i dX9_deal_32 sX9_155 hM.1 (Nat.le_of_ble_eq_true rfl) (c9_draw (d + 1) hM) ?_
        rintro r _ _ ⟨rfl, rfl, rfl⟩
        rw [rowI_r, rowI_s]
        refine Ex_bipush (v := nI 6) dX9_deal_35 (by rfl) ?_
        refine Ex_iremN (dw_lt _) (by omega) (by omega) dX9_deal_37 ?_
        refine Ex_istore_n dX9_deal_38 (by decide) rfl ?_
        simp only [st_n0, st_n1, st_n2, st_n3, List.set_cons_zero, List.set_cons_succ]
        refine Ex_aload_n dX9_deal_39 rfl ?_
        refine Ex_iload_n dX9_deal_40 rfl ?_
        refine Ex_aload_n dX9_deal_41 rfl ?_
        refine Ex_V0i dX9_deal_42 sX9_155 hM.1 (Nat.le_of_ble_eq_true rfl) (c9_draw (d + 1) hM) ?_
        rintro r _ _ ⟨rfl, rfl, rfl⟩
        rw [rowI_r, rowI_s]
        refine Ex_bipush (v := nI 10) dX9_deal_45 (by rfl) ?_
        refine Ex_iremN (dw_lt _) (by omega) (by omega) dX9_deal_47 ?_
        refine Ex_V2i dX9_deal_48 sX9_101 hM.1 (Nat.le_of_ble_eq_true rfl) (c9_comes d hM _ _ (nS g + k) (by rw [rowI_s, drawG_n (by omega), drawG_n (by omega)]; exact deal_1 h1 (by omega) k (by omega)) (by omega)) ?_
        rintro r _ _ ⟨rfl, rfl, rfl⟩
        rw [rowI_r, rowI_s]
        refine Ex_istore dX9_deal_51 (by decide) rfl ?_
        simp only [List.set_cons_zero, List.set_cons_succ]
        first | refine Ex_iincN (m := 1) dX9_deal_53 rfl rfl (by decide) rfl ?_ | refine Ex_iinc dX9_deal_53 rfl rfl (by decide) rfl ?_
        simp only [List.set_cons_zero, List.set_cons_succ]
        refine Ex_goto (tgt := 15) dX9_deal_56 (by decide) ?_
        refine Ex_drop 3 ?_
        refine Ex_drop 4 ?_
        simp only [st_n0, st_n1, st_n2, st_n3, List.set_cons_zero, List.set_cons_succ]
        have es : dealG g (k + 1) = comesG (drawG (drawG (dealG g k))) (nS g + k) (nI (dw (dealG g k 0) % 6)) (nI (dw (drawG (dealG g k) 0) % 10)) := by
          show dealS (dealG g k) = _
          unfold dealS
          rw [nS_of (deal_1 h1 (by omega) k (by omega)) (by omega)]
        have key := ih (by omega)
        rw [es] at key
        exact key
set_option maxRecDepth 100000 in
set_option maxHeartbeats 4000000 in
theorem C9_deal {T : TC} {I : MI} {G : MG} (d : Nat) {M : Nat} (hM : MSh T G M) (hW : WfG (I (M + 1))) (n : Int32)  : OkI T mX9_deal (d + 2) [.ref M, .int n] I G (fun r I' G' => r = r_deal (I (M + 1)) n ∧ I' (M + 1) = g_deal (I (M + 1)) n ∧ Fr (Pd M) I I' ∧ G' = G) := by
  refine Ok_of (own := RX9) (by decide) rfl (cat1 rfl) (Nat.le_of_ble_eq_true rfl) ?_
  show Ex T RX9 cX9_deal 5 (d + 2) _ 0 [some (.ref M), some (.int n), none, none, none] [] I G (0, 0)
  refine Ex_iload_n dX9_deal_0 rfl ?_
  refine Ex_iconst (v := nI 1) dX9_deal_1 (by rfl) ?_
  refine Ex_bipush (v := nI 8) dX9_deal_2 (by rfl) ?_
  refine Ex_S3p dX9_deal_4 sX9_91  (Nat.le_of_ble_eq_true rfl) (c9_in (d + 1) _ _ _) ?_
  refine Ex_if_neB (tgt := 13) dX9_deal_7 (by decide) (fun h7 => ?_) (fun h7 => ?_)
  · refine Ex_iconst (v := nI 0) dX9_deal_13 (by rfl) ?_
    refine Ex_istore_n dX9_deal_14 (by decide) rfl ?_
    simp only [st_n0, st_n1, st_n2, st_n3, List.set_cons_zero, List.set_cons_succ]
    have h7' : in1 n 8 := h7
    obtain ⟨n', hn0, hn', e7⟩ := (in1_k (by omega)).mp h7'
    have hcl : cl (nI n') = n' := cl_nI (by omega)
    subst e7
    have h1 := hW.1
    have h8 := hW.2.1
    generalize hg : I (M + 1) = g at h1 h8
    have hNe : dealN g n' = if n' ≤ 8 - nS g then n' else 8 - nS g := rfl
    have hN1 : dealN g n' ≤ n' := by rw [hNe]; split <;> omega
    have hN2 : nS g + dealN g n' ≤ 8 := by rw [hNe]; split <;> omega
    have hN3 : dealN g n' = n' ∨ nS g + dealN g n' = 8 := by rw [hNe]; split <;> omega
    generalize hN : dealN g n' = N at hN1 hN2 hN3
    refine Ex_eqI (show _ = rowI I (M + 1) (dealG g 0) by show I = rowI I (M + 1) g; rw [← hg, rowI_self]) ?_
    refine l9_deal d hM g h1 n' N hn' hN1 hN2 ?_ N 0 (by omega)
    refine Ex_iload_n dX9_deal_15 rfl ?_
    refine Ex_iload_n dX9_deal_16 rfl ?_
    refine Ex_icmp_geN (by omega) (by omega) (tgt := 59) dX9_deal_17 (by decide) (fun h17 => ?_) (fun h17 => ?_)
    · refine Ex_iload_n dX9_deal_59 rfl ?_
      refine Ex_iret dX9_deal_60 (by first | rfl | exact narrow_bI) ?_
      exact ⟨_, rfl, (by unfold r_deal; rw [if_pos h7, hcl]; exact congrArg nI hN.symm), (by unfold g_deal; rw [if_pos h7, hcl, rowI_s]; exact congrArg (dealG g) hN.symm), Fr.row (Or.inl rfl), rfl⟩
    · refine Ex_aload_n dX9_deal_20 rfl ?_
      refine Ex_getr dX9_deal_21 fX9_9 hM.1 (mF0 hM).1 ?_
      refine Ex_iconst (v := nI 1) dX9_deal_24 (by rfl) ?_
      refine Ex_iald dX9_deal_25 (mF0 hM).2.1 rfl (by rw [(mF0 hM).2.2]; omega) (by rw [(mF0 hM).2.2]; decide) ?_
      refine Ex_top (show _ = nI (nS g + N) by rw [rowI_s]; exact deal_1 h1 (by omega) N (by omega)) ?_
      refine Ex_bipush (v := nI 8) dX9_deal_26 (by rfl) ?_
      refine Ex_icmp_geN (by omega) (by omega) (tgt := 59) dX9_deal_28 (by decide) (fun h28 => ?_) (fun h28 => ?_)
      · refine Ex_iload_n dX9_deal_59 rfl ?_
        refine Ex_iret dX9_deal_60 (by first | rfl | exact narrow_bI) ?_
        exact ⟨_, rfl, (by unfold r_deal; rw [if_pos h7, hcl]; exact congrArg nI hN.symm), (by unfold g_deal; rw [if_pos h7, hcl, rowI_s]; exact congrArg (dealG g) hN.symm), Fr.row (Or.inl rfl), rfl⟩
      · (exfalso; omega)
  · refine Ex_ldc dX9_deal_10 kX9_99 ?_
    refine Ex_iret dX9_deal_12 (by first | rfl | exact narrow_bI) ?_
    exact ⟨_, rfl, (by unfold r_deal; rw [if_neg h7]), (by unfold g_deal; rw [if_neg h7]), Fr.refl, rfl⟩
theorem wth_days {g : Nat → Int32} {n : Nat} (hD : DyOk g) (hn : n ≤ 100) : wth (nI 9999 - g 2) (nI 0) (nI n) = nI (daysN g n) := by
  obtain ⟨h1, h2⟩ := hD
  unfold daysN
  generalize hc : cl (g 2) = c at h1 h2
  rw [h1, pk_sub h2]
  unfold wth
  rw [if_neg (nI_nlt (by omega) (by omega))]
  by_cases h : n ≤ 9999 - c
  · rw [if_pos h]
    by_cases h3 : n = 9999 - c
    · rw [if_neg (nI_nlt (by omega) (by omega))]; rw [h3]
    · rw [if_pos (nI_lt (by omega) (by omega))]
  · rw [if_neg h, if_neg (nI_nlt (by omega) (by omega))]
set_option maxRecDepth 100000 in
set_option maxHeartbeats 4000000 in
theorem C9_days {T : TC} {I : MI} {G : MG} (d : Nat) {M : Nat} (hM : MSh T G M) (hW : WfG (I (M + 1))) (hD : DyOk (I (M + 1))) (n : Int32)  : OkI T mX9_days (d + 6) [.ref M, .int n] I G (fun r I' G' => r = r_days (I (M + 1)) n ∧ I' (M + 1) = g_days (I (M + 1)) n ∧ Fr (Pd M) I I' ∧ G' = G) := by
  refine Ok_of (own := RX9) (by decide) rfl (cat1 rfl) (Nat.le_of_ble_eq_true rfl) ?_
  show Ex T RX9 cX9_days 3 (d + 6) _ 0 [some (.ref M), some (.int n), none] [] I G (0, 0)
  refine Ex_iload_n dX9_days_0 rfl ?_
  refine Ex_iconst (v := nI 1) dX9_days_1 (by rfl) ?_
  refine Ex_bipush (v := nI 100) dX9_days_2 (by rfl) ?_
  refine Ex_S3p dX9_days_4 sX9_91  (Nat.le_of_ble_eq_true rfl) (c9_in (d + 5) _ _ _) ?_
  refine Ex_if_neB (tgt := 13) dX9_days_7 (by decide) (fun h7 => ?_) (fun h7 => ?_)
  · have h7' : in1 n 100 := h7
    obtain ⟨n', hn0, hn', e7⟩ := (in1_k (by omega)).mp h7'
    have hcl : cl (nI n') = n' := cl_nI (by omega)
    subst e7
    have hdn : daysN (I (M + 1)) n' ≤ n' := by unfold daysN; split <;> omega
    refine Ex_aload_n dX9_days_13 rfl ?_
    refine Ex_getr dX9_days_14 fX9_9 hM.1 (mF0 hM).1 ?_
    refine Ex_iconst (v := nI 5) dX9_days_17 (by rfl) ?_
    refine Ex_iald dX9_days_18 (mF0 hM).2.1 rfl (by rw [(mF0 hM).2.2]; omega) (by rw [(mF0 hM).2.2]; decide) ?_
    refine Ex_istore_n dX9_days_19 (by decide) rfl ?_
    simp only [st_n0, st_n1, st_n2, st_n3, List.set_cons_zero, List.set_cons_succ]
    refine Ex_aload_n dX9_days_20 rfl ?_
    refine Ex_sipush (v := nI 9999) dX9_days_21 (by rfl) ?_
    refine Ex_aload_n dX9_days_24 rfl ?_
    refine Ex_getr dX9_days_25 fX9_9 hM.1 (mF0 hM).1 ?_
    refine Ex_iconst (v := nI 2) dX9_days_28 (by rfl) ?_
    refine Ex_iald dX9_days_29 (mF0 hM).2.1 rfl (by rw [(mF0 hM).2.2]; omega) (by rw [(mF0 hM).2.2]; decide) ?_
    refine Ex_isub dX9_days_30 ?_
    refine Ex_iconst (v := nI 0) dX9_days_31 (by rfl) ?_
    refine Ex_iload_n dX9_days_32 rfl ?_
    refine Ex_S3p dX9_days_33 sX9_115  (Nat.le_of_ble_eq_true rfl) (c9_within (d + 5) _ _ _) ?_
    refine Ex_top (wth_days hD hn') ?_
    refine Ex_V1v dX9_days_36 sX9_166 hM.1 (Nat.le_of_ble_eq_true rfl) (c9_goesOn d hM _ hW (by omega)) ?_
    rintro J _ ⟨hJ1, hJ2, rfl⟩
    refine Ex_aload_n dX9_days_39 rfl ?_
    refine Ex_getr dX9_days_40 fX9_9 hM.1 (mF0 hM).1 ?_
    refine Ex_iconst (v := nI 5) dX9_days_43 (by rfl) ?_
    refine Ex_iald dX9_days_44 (mF0 hM).2.1 rfl (by rw [(mF0 hM).2.2]; omega) (by rw [(mF0 hM).2.2]; decide) ?_
    refine Ex_iload_n dX9_days_45 rfl ?_
    refine Ex_isub dX9_days_46 ?_
    refine Ex_iret dX9_days_47 (by first | rfl | exact narrow_bI) ?_
    exact ⟨_, rfl, (by unfold r_days; rw [if_pos h7, hcl, hJ1]), (by unfold g_days; rw [if_pos h7, hcl, hJ1]), hJ2, rfl⟩
  · refine Ex_ldc dX9_days_10 kX9_99 ?_
    refine Ex_iret dX9_days_12 (by first | rfl | exact narrow_bI) ?_
    exact ⟨_, rfl, (by unfold r_days; rw [if_neg h7]), (by unfold g_days; rw [if_neg h7]), Fr.refl, rfl⟩
set_option maxRecDepth 100000 in
set_option maxHeartbeats 4000000 in
theorem l9_hall {T : TC} {I : MI} {G : MG} {F : FinT} {b : Nat × Nat} (d : Nat) {M : Nat} (hM : MSh T G M) (n : Nat) (hn1 : I (M + 1) 1 = nI n) (hn8 : n ≤ 8) (w : Int32) (kx : Ex T RX9 cX9_hall 4 (d + 1) F 59 [some (.ref M), some (.int w), some (.int (bareG (I (M + 1)) n)), some (.int (nI n))] [] I G b) : ∀ i s0, s0 + i = n  → Ex T RX9 cX9_hall 4 (d + 1) F 59 [some (.ref M), some (.int w), some (.int (bareG (I (M + 1)) s0)), some (.int (nI s0))] [] I G b := by
  intro i
  induction i with
  | zero => intro s0 h0; have e0 : s0 = n := by omega
            subst e0; exact kx
  | succ i ih0 =>
    intro s0 h0
    have ih := ih0 (s0 + 1)
    refine Ex_iload_n dX9_hall_59 rfl ?_
    refine Ex_aload_n dX9_hall_60 rfl ?_
    refine Ex_getr dX9_hall_61 fX9_9 hM.1 (mF0 hM).1 ?_
    refine Ex_iconst (v := nI 1) dX9_hall_64 (by rfl) ?_
    refine Ex_iald dX9_hall_65 (mF0 hM).2.1 rfl (by rw [(mF0 hM).2.2]; omega) (by rw [(mF0 hM).2.2]; decide) ?_
    refine Ex_top hn1 ?_
    refine Ex_icmp_geN (by omega) (by omega) (tgt := 94) dX9_hall_66 (by decide) (fun h66 => ?_) (fun h66 => ?_)
    · omega
    · refine Ex_iload_n dX9_hall_69 rfl ?_
      refine Ex_aload_n dX9_hall_70 rfl ?_
      refine Ex_iload_n dX9_hall_71 rfl ?_
      refine Ex_iconst (v := nI 2) dX9_hall_72 (by rfl) ?_
      refine Ex_V2p dX9_hall_73 sX9_105 hM.1 (Nat.le_of_ble_eq_true rfl) (c9_of d hM s0 2 (by omega)) ?_
      refine Ex_if_ne (tgt := 85) dX9_hall_76 (by decide) (fun h76 => ?_) (fun h76 => ?_)
      · refine Ex_iconst (v := nI 0) dX9_hall_85 (by rfl) ?_
        refine Ex_ior dX9_hall_86 ?_
        refine Ex_istore_n dX9_hall_87 (by decide) rfl ?_
        simp only [st_n0, st_n1, st_n2, st_n3, List.set_cons_zero, List.set_cons_succ]
        first | refine Ex_iincN (m := 1) dX9_hall_88 rfl rfl (by decide) rfl ?_ | refine Ex_iinc dX9_hall_88 rfl rfl (by decide) rfl ?_
        simp only [List.set_cons_zero, List.set_cons_succ]
        refine Ex_goto (tgt := 59) dX9_hall_91 (by decide) ?_
        have ec : bareG (I (M + 1)) (s0 + 1) = bareG (I (M + 1)) s0 ||| nI 0 := by show bareG _ s0 ||| _ = _; rw [if_neg h76]
        have key := ih (by omega)
        rw [ec] at key
        exact key
      · refine Ex_iconst (v := nI 1) dX9_hall_79 (by rfl) ?_
        refine Ex_iload_n dX9_hall_80 rfl ?_
        refine Ex_ishl dX9_hall_81 ?_
        refine Ex_goto (tgt := 86) dX9_hall_82 (by decide) ?_
        refine Ex_ior dX9_hall_86 ?_
        refine Ex_istore_n dX9_hall_87 (by decide) rfl ?_
        simp only [st_n0, st_n1, st_n2, st_n3, List.set_cons_zero, List.set_cons_succ]
        first | refine Ex_iincN (m := 1) dX9_hall_88 rfl rfl (by decide) rfl ?_ | refine Ex_iinc dX9_hall_88 rfl rfl (by decide) rfl ?_
        simp only [List.set_cons_zero, List.set_cons_succ]
        refine Ex_goto (tgt := 59) dX9_hall_91 (by decide) ?_
        have ec : bareG (I (M + 1)) (s0 + 1) = bareG (I (M + 1)) s0 ||| (nI 1 <<< (nI s0 &&& 31)) := by show bareG _ s0 ||| _ = _; rw [if_pos h76]
        have key := ih (by omega)
        rw [ec] at key
        exact key
set_option maxRecDepth 100000 in
set_option maxHeartbeats 4000000 in
theorem C9_hall {T : TC} {I : MI} {G : MG} (d : Nat) {M : Nat} (hM : MSh T G M) (hW : WfG (I (M + 1))) (w : Int32)  : OkI T mX9_hall (d + 2) [.ref M, .int w] I G (fun r I' G' => r = r_hall (I (M + 1)) w ∧ I' (M + 1) = (I (M + 1)) ∧ Fr (Pd M) I I' ∧ G' = G) := by
  refine Ok_of (own := RX9) (by decide) rfl (cat1 rfl) (Nat.le_of_ble_eq_true rfl) ?_
  show Ex T RX9 cX9_hall 4 (d + 2) _ 0 [some (.ref M), some (.int w), none, none] [] I G (0, 0)
  refine Ex_iconst (v := nI 0) dX9_hall_0 (by rfl) ?_
  refine Ex_istore_n dX9_hall_1 (by decide) rfl ?_
  simp only [st_n0, st_n1, st_n2, st_n3, List.set_cons_zero, List.set_cons_succ]
  refine Ex_iload_n dX9_hall_2 rfl ?_
  rcases sw_cases (w) (0) (4) (by decide) (by decide) with ⟨k3, hk3, hl3, hx3⟩ | hx3
  · rcases (show k3 = 0 ∨ k3 = 1 ∨ k3 = 2 ∨ k3 = 3 ∨ k3 = 4 by omega) with rfl | rfl | rfl | rfl | rfl
    · have hx3 : w = nI 0 := hx3
      refine Ex_tabIn (tgt := 36) dX9_hall_3 (by rw [hx3]; decide) (by rw [hx3]; decide) (off := 33) (by rw [hx3]; rfl) (by decide) ?_
      have hw' := hx3
      subst hw'
      refine Ex_aload_n dX9_hall_36 rfl ?_
      refine Ex_getr dX9_hall_37 fX9_9 hM.1 (mF0 hM).1 ?_
      refine Ex_iconst (v := nI 5) dX9_hall_40 (by rfl) ?_
      refine Ex_iload_n dX9_hall_41 rfl ?_
      first | with_reducible refine Ex_iaddN dX9_hall_42 ?_ | refine Ex_iadd dX9_hall_42 ?_
      refine Ex_iald dX9_hall_43 (mF0 hM).2.1 rfl (by rw [(mF0 hM).2.2]; omega) (by rw [(mF0 hM).2.2]; decide) ?_
      refine Ex_iret dX9_hall_44 (by first | rfl | exact narrow_bI) ?_
      exact ⟨_, rfl, (by unfold r_hall; rw [if_pos rfl]), rfl, Fr.refl, rfl⟩
    · have hx3 : w = nI 1 := hx3
      refine Ex_tabIn (tgt := 36) dX9_hall_3 (by rw [hx3]; decide) (by rw [hx3]; decide) (off := 33) (by rw [hx3]; rfl) (by decide) ?_
      have hw' := hx3
      subst hw'
      refine Ex_aload_n dX9_hall_36 rfl ?_
      refine Ex_getr dX9_hall_37 fX9_9 hM.1 (mF0 hM).1 ?_
      refine Ex_iconst (v := nI 5) dX9_hall_40 (by rfl) ?_
      refine Ex_iload_n dX9_hall_41 rfl ?_
      first | with_reducible refine Ex_iaddN dX9_hall_42 ?_ | refine Ex_iadd dX9_hall_42 ?_
      refine Ex_iald dX9_hall_43 (mF0 hM).2.1 rfl (by rw [(mF0 hM).2.2]; omega) (by rw [(mF0 hM).2.2]; decide) ?_
      refine Ex_iret dX9_hall_44 (by first | rfl | exact narrow_bI) ?_
      exact ⟨_, rfl, (by unfold r_hall; rw [if_neg (by decide), if_pos rfl]), rfl, Fr.refl, rfl⟩
    · have hx3 : w = nI 2 := hx3
      refine Ex_tabIn (tgt := 45) dX9_hall_3 (by rw [hx3]; decide) (by rw [hx3]; decide) (off := 42) (by rw [hx3]; rfl) (by decide) ?_
      have hw' := hx3
      subst hw'
      refine Ex_aload_n dX9_hall_45 rfl ?_
      refine Ex_iconst (v := nI 3) dX9_hall_46 (by rfl) ?_
      refine Ex_V1p dX9_hall_47 sX9_169 hM.1 (Nat.le_of_ble_eq_true rfl) (c9_sumOf d hM _ 3 hW.1 hW.2.1 (by omega)) ?_
      refine Ex_iret dX9_hall_50 (by first | rfl | exact narrow_bI) ?_
      exact ⟨_, rfl, (by unfold r_hall; rw [if_neg (by decide), if_neg (by decide), if_pos rfl]), rfl, Fr.refl, rfl⟩
    · have hx3 : w = nI 3 := hx3
      refine Ex_tabIn (tgt := 51) dX9_hall_3 (by rw [hx3]; decide) (by rw [hx3]; decide) (off := 48) (by rw [hx3]; rfl) (by decide) ?_
      have hw' := hx3
      subst hw'
      refine Ex_aload_n dX9_hall_51 rfl ?_
      refine Ex_iconst (v := nI 2) dX9_hall_52 (by rfl) ?_
      refine Ex_V1p dX9_hall_53 sX9_169 hM.1 (Nat.le_of_ble_eq_true rfl) (c9_sumOf d hM _ 2 hW.1 hW.2.1 (by omega)) ?_
      refine Ex_iret dX9_hall_56 (by first | rfl | exact narrow_bI) ?_
      exact ⟨_, rfl, (by unfold r_hall; rw [if_neg (by decide), if_neg (by decide), if_neg (by decide), if_pos rfl]), rfl, Fr.refl, rfl⟩
    · have hx3 : w = nI 4 := hx3
      refine Ex_tabIn (tgt := 57) dX9_hall_3 (by rw [hx3]; decide) (by rw [hx3]; decide) (off := 54) (by rw [hx3]; rfl) (by decide) ?_
      have hw' := hx3
      subst hw'
      refine Ex_iconst (v := nI 0) dX9_hall_57 (by rfl) ?_
      refine Ex_istore_n dX9_hall_58 (by decide) rfl ?_
      simp only [st_n0, st_n1, st_n2, st_n3, List.set_cons_zero, List.set_cons_succ]
      have hn1 := hW.1
      have hn8 := hW.2.1
      generalize hnn : nS (I (M + 1)) = n at hn1 hn8
      refine l9_hall (d + 1) hM n hn1 hn8 _ ?_ n 0 (by omega)
      refine Ex_iload_n dX9_hall_59 rfl ?_
      refine Ex_aload_n dX9_hall_60 rfl ?_
      refine Ex_getr dX9_hall_61 fX9_9 hM.1 (mF0 hM).1 ?_
      refine Ex_iconst (v := nI 1) dX9_hall_64 (by rfl) ?_
      refine Ex_iald dX9_hall_65 (mF0 hM).2.1 rfl (by rw [(mF0 hM).2.2]; omega) (by rw [(mF0 hM).2.2]; decide) ?_
      refine Ex_top hn1 ?_
      refine Ex_icmp_geN (by omega) (by omega) (tgt := 94) dX9_hall_66 (by decide) (fun h66 => ?_) (fun h66 => ?_)
      · refine Ex_iload_n dX9_hall_94 rfl ?_
        refine Ex_iret dX9_hall_95 (by first | rfl | exact narrow_bI) ?_
        exact ⟨_, rfl, (by unfold r_hall; rw [if_neg (by decide), if_neg (by decide), if_neg (by decide), if_neg (by decide), if_pos rfl, hnn]), rfl, Fr.refl, rfl⟩
      · omega
  · refine Ex_tabOut (tgt := 96) dX9_hall_3 hx3 (by decide) ?_
    refine Ex_ldc dX9_hall_96 kX9_99 ?_
    refine Ex_iret dX9_hall_98 (by first | rfl | exact narrow_bI) ?_
    exact ⟨_, rfl, (by unfold r_hall; rw [if_neg (swn hx3 (by decide) (by decide)), if_neg (swn hx3 (by decide) (by decide)), if_neg (swn hx3 (by decide) (by decide)), if_neg (swn hx3 (by decide) (by decide)), if_neg (swn hx3 (by decide) (by decide))]), rfl, Fr.refl, rfl⟩
def r_count (g : Nat → Int32) (waits taped w : Int32) : Int32 := if w = nI 0 then g 1 else if w = nI 1 then g 2 else if w = nI 2 then g 3 else if w = nI 3 then g 4 else if w = nI 4 then g 7 else if w = nI 5 then waits else if w = nI 6 then taped else if w = nI 7 then g 0 else cBAD
set_option maxRecDepth 100000 in
set_option maxHeartbeats 4000000 in
theorem C9_count {T : TC} {I : MI} {G : MG} (d : Nat) {M : Nat} (hM : MSh T G M) (w : Int32)  : OkP T mX9_count (d) [.ref M, .int w] I G (r_count (I (M + 1)) (I M 38) (I M 12) w) := by
  refine Ok_of (own := RX9) (by decide) rfl (cat1 rfl) (Nat.le_of_ble_eq_true rfl) ?_
  show Ex T RX9 cX9_count 2 (d) _ 0 [some (.ref M), some (.int w)] [] I G (0, 0)
  refine Ex_iload_n dX9_count_0 rfl ?_
  rcases sw_cases (w) (0) (7) (by decide) (by decide) with ⟨k1, hk1, hl1, hx1⟩ | hx1
  · rcases (show k1 = 0 ∨ k1 = 1 ∨ k1 = 2 ∨ k1 = 3 ∨ k1 = 4 ∨ k1 = 5 ∨ k1 = 6 ∨ k1 = 7 by omega) with rfl | rfl | rfl | rfl | rfl | rfl | rfl | rfl
    · have hx1 : w = nI 0 := hx1
      refine Ex_tabIn (tgt := 48) dX9_count_1 (by rw [hx1]; decide) (by rw [hx1]; decide) (off := 47) (by rw [hx1]; rfl) (by decide) ?_
      refine Ex_aload_n dX9_count_48 rfl ?_
      refine Ex_getr dX9_count_49 fX9_9 hM.1 (mF0 hM).1 ?_
      refine Ex_iconst (v := nI 1) dX9_count_52 (by rfl) ?_
      refine Ex_iald dX9_count_53 (mF0 hM).2.1 rfl (by rw [(mF0 hM).2.2]; omega) (by rw [(mF0 hM).2.2]; decide) ?_
      refine Ex_iret dX9_count_54 (by first | rfl | exact narrow_bI) ?_
      exact ⟨_, rfl, (by unfold r_count; rw [hx1, if_pos rfl]), rfl, rfl⟩
    · have hx1 : w = nI 1 := hx1
      refine Ex_tabIn (tgt := 55) dX9_count_1 (by rw [hx1]; decide) (by rw [hx1]; decide) (off := 54) (by rw [hx1]; rfl) (by decide) ?_
      refine Ex_aload_n dX9_count_55 rfl ?_
      refine Ex_getr dX9_count_56 fX9_9 hM.1 (mF0 hM).1 ?_
      refine Ex_iconst (v := nI 2) dX9_count_59 (by rfl) ?_
      refine Ex_iald dX9_count_60 (mF0 hM).2.1 rfl (by rw [(mF0 hM).2.2]; omega) (by rw [(mF0 hM).2.2]; decide) ?_
      refine Ex_iret dX9_count_61 (by first | rfl | exact narrow_bI) ?_
      exact ⟨_, rfl, (by unfold r_count; rw [hx1, if_neg (by decide), if_pos rfl]), rfl, rfl⟩
    · have hx1 : w = nI 2 := hx1
      refine Ex_tabIn (tgt := 62) dX9_count_1 (by rw [hx1]; decide) (by rw [hx1]; decide) (off := 61) (by rw [hx1]; rfl) (by decide) ?_
      refine Ex_aload_n dX9_count_62 rfl ?_
      refine Ex_getr dX9_count_63 fX9_9 hM.1 (mF0 hM).1 ?_
      refine Ex_iconst (v := nI 3) dX9_count_66 (by rfl) ?_
      refine Ex_iald dX9_count_67 (mF0 hM).2.1 rfl (by rw [(mF0 hM).2.2]; omega) (by rw [(mF0 hM).2.2]; decide) ?_
      refine Ex_iret dX9_count_68 (by first | rfl | exact narrow_bI) ?_
      exact ⟨_, rfl, (by unfold r_count; rw [hx1, if_neg (by decide), if_neg (by decide), if_pos rfl]), rfl, rfl⟩
    · have hx1 : w = nI 3 := hx1
      refine Ex_tabIn (tgt := 69) dX9_count_1 (by rw [hx1]; decide) (by rw [hx1]; decide) (off := 68) (by rw [hx1]; rfl) (by decide) ?_
      refine Ex_aload_n dX9_count_69 rfl ?_
      refine Ex_getr dX9_count_70 fX9_9 hM.1 (mF0 hM).1 ?_
      refine Ex_iconst (v := nI 4) dX9_count_73 (by rfl) ?_
      refine Ex_iald dX9_count_74 (mF0 hM).2.1 rfl (by rw [(mF0 hM).2.2]; omega) (by rw [(mF0 hM).2.2]; decide) ?_
      refine Ex_iret dX9_count_75 (by first | rfl | exact narrow_bI) ?_
      exact ⟨_, rfl, (by unfold r_count; rw [hx1, if_neg (by decide), if_neg (by decide), if_neg (by decide), if_pos rfl]), rfl, rfl⟩
    · have hx1 : w = nI 4 := hx1
      refine Ex_tabIn (tgt := 76) dX9_count_1 (by rw [hx1]; decide) (by rw [hx1]; decide) (off := 75) (by rw [hx1]; rfl) (by decide) ?_
      refine Ex_aload_n dX9_count_76 rfl ?_
      refine Ex_getr dX9_count_77 fX9_9 hM.1 (mF0 hM).1 ?_
      refine Ex_bipush (v := nI 7) dX9_count_80 (by rfl) ?_
      refine Ex_iald dX9_count_82 (mF0 hM).2.1 rfl (by rw [(mF0 hM).2.2]; omega) (by rw [(mF0 hM).2.2]; decide) ?_
      refine Ex_iret dX9_count_83 (by first | rfl | exact narrow_bI) ?_
      exact ⟨_, rfl, (by unfold r_count; rw [hx1, if_neg (by decide), if_neg (by decide), if_neg (by decide), if_neg (by decide), if_pos rfl]), rfl, rfl⟩
    · have hx1 : w = nI 5 := hx1
      refine Ex_tabIn (tgt := 84) dX9_count_1 (by rw [hx1]; decide) (by rw [hx1]; decide) (off := 83) (by rw [hx1]; rfl) (by decide) ?_
      refine Ex_aload_n dX9_count_84 rfl ?_
      refine Ex_geti dX9_count_85 fX9_285 hM.1 ?_
      refine Ex_iret dX9_count_88 (by first | rfl | exact narrow_bI) ?_
      exact ⟨_, rfl, (by unfold r_count; rw [hx1, if_neg (by decide), if_neg (by decide), if_neg (by decide), if_neg (by decide), if_neg (by decide), if_pos rfl]), rfl, rfl⟩
    · have hx1 : w = nI 6 := hx1
      refine Ex_tabIn (tgt := 89) dX9_count_1 (by rw [hx1]; decide) (by rw [hx1]; decide) (off := 88) (by rw [hx1]; rfl) (by decide) ?_
      refine Ex_aload_n dX9_count_89 rfl ?_
      refine Ex_geti dX9_count_90 fX9_211 hM.1 ?_
      refine Ex_iret dX9_count_93 (by first | rfl | exact narrow_bI) ?_
      exact ⟨_, rfl, (by unfold r_count; rw [hx1, if_neg (by decide), if_neg (by decide), if_neg (by decide), if_neg (by decide), if_neg (by decide), if_neg (by decide), if_pos rfl]), rfl, rfl⟩
    · have hx1 : w = nI 7 := hx1
      refine Ex_tabIn (tgt := 94) dX9_count_1 (by rw [hx1]; decide) (by rw [hx1]; decide) (off := 93) (by rw [hx1]; rfl) (by decide) ?_
      refine Ex_aload_n dX9_count_94 rfl ?_
      refine Ex_getr dX9_count_95 fX9_9 hM.1 (mF0 hM).1 ?_
      refine Ex_iconst (v := nI 0) dX9_count_98 (by rfl) ?_
      refine Ex_iald dX9_count_99 (mF0 hM).2.1 rfl (by rw [(mF0 hM).2.2]; omega) (by rw [(mF0 hM).2.2]; decide) ?_
      refine Ex_iret dX9_count_100 (by first | rfl | exact narrow_bI) ?_
      exact ⟨_, rfl, (by unfold r_count; rw [hx1, if_neg (by decide), if_neg (by decide), if_neg (by decide), if_neg (by decide), if_neg (by decide), if_neg (by decide), if_neg (by decide), if_pos rfl]), rfl, rfl⟩
  · refine Ex_tabOut (tgt := 101) dX9_count_1 hx1 (by decide) ?_
    refine Ex_ldc dX9_count_101 kX9_99 ?_
    refine Ex_iret dX9_count_103 (by first | rfl | exact narrow_bI) ?_
    exact ⟨_, rfl, (by unfold r_count; rw [if_neg (swn hx1 (by decide) (by decide)), if_neg (swn hx1 (by decide) (by decide)), if_neg (swn hx1 (by decide) (by decide)), if_neg (swn hx1 (by decide) (by decide)), if_neg (swn hx1 (by decide) (by decide)), if_neg (swn hx1 (by decide) (by decide)), if_neg (swn hx1 (by decide) (by decide)), if_neg (swn hx1 (by decide) (by decide))]), rfl, rfl⟩
def r_trim (tp : Nat) (n : Int32) : Int32 := if inR n (tp + 1) then n else cBAD
def n_trim (tp : Nat) (n : Int32) : Int32 := if inR n (tp + 1) then n else nI tp
set_option maxRecDepth 100000 in
set_option maxHeartbeats 4000000 in
theorem C9_trim {T : TC} {I : MI} {G : MG} (d : Nat) {M : Nat} (hM : MSh T G M) (tp : Nat) (n : Int32) (ht : I M 12 = nI tp) (h96 : tp ≤ 96) : OkI T mX9_trim (d + 1) [.ref M, .int n] I G (fun r I' G' => r = r_trim tp n ∧ I' = rowI I M (upd (I M) 12 (n_trim tp n)) ∧ G' = G) := by
  refine Ok_of (own := RX9) (by decide) rfl (cat1 rfl) (Nat.le_of_ble_eq_true rfl) ?_
  show Ex T RX9 cX9_trim 2 (d + 1) _ 0 [some (.ref M), some (.int n)] [] I G (0, 0)
  refine Ex_iload_n dX9_trim_0 rfl ?_
  refine Ex_iconst (v := nI 0) dX9_trim_1 (by rfl) ?_
  refine Ex_aload_n dX9_trim_2 rfl ?_
  refine Ex_geti dX9_trim_3 fX9_211 hM.1 ?_
  refine Ex_top ht ?_
  refine Ex_S3p dX9_trim_6 sX9_91  (Nat.le_of_ble_eq_true rfl) (c9_inR d _ tp (by omega)) ?_
  refine Ex_if_neB (tgt := 15) dX9_trim_9 (by decide) (fun h9 => ?_) (fun h9 => ?_)
  · refine Ex_aload_n dX9_trim_15 rfl ?_
    refine Ex_iload_n dX9_trim_16 rfl ?_
    refine Ex_puti dX9_trim_17 fX9_211 rfl rfl rfl hM.1 ?_
    refine Ex_iload_n dX9_trim_20 rfl ?_
    refine Ex_iret dX9_trim_21 (by first | rfl | exact narrow_bI) ?_
    exact ⟨_, rfl, (by unfold r_trim; rw [if_pos h9]), (by unfold n_trim; rw [if_pos h9, setI_row]), rfl⟩
  · refine Ex_ldc dX9_trim_12 kX9_99 ?_
    refine Ex_iret dX9_trim_14 (by first | rfl | exact narrow_bI) ?_
    exact ⟨_, rfl, (by unfold r_trim; rw [if_neg h9]), (by unfold n_trim; rw [if_neg h9, upd_same ht, rowI_self]), rfl⟩
def r_tell (w : Nat) : Int32 := if w = 60 then cFULL else nI (w + 1)
set_option maxRecDepth 100000 in
set_option maxHeartbeats 4000000 in
theorem C9_tell {T : TC} {I : MI} {G : MG} (d : Nat) {M : Nat} (hM : MSh T G M) (w : Nat) (v : Int32) (hw : I M 38 = nI w) (h60 : w ≤ 60) : OkI T mX9_tell (d) [.ref M, .int v] I G (fun r I' G' => r = r_tell w ∧ I' = (if w = 60 then I else rowI (rowI I (M + 26) (upd (I (M + 26)) w v)) M (upd (I M) 38 (nI (w + 1)))) ∧ G' = G) := by
  refine Ok_of (own := RX9) (by decide) rfl (cat1 rfl) (Nat.le_of_ble_eq_true rfl) ?_
  show Ex T RX9 cX9_tell 2 (d) _ 0 [some (.ref M), some (.int v)] [] I G (0, 0)
  refine Ex_aload_n dX9_tell_0 rfl ?_
  refine Ex_geti dX9_tell_1 fX9_285 hM.1 ?_
  refine Ex_top hw ?_
  refine Ex_bipush (v := nI 60) dX9_tell_4 (by rfl) ?_
  refine Ex_icmp_neN (by omega) (by omega) (tgt := 12) dX9_tell_6 (by decide) (fun h6 => ?_) (fun h6 => ?_)
  · refine Ex_aload_n dX9_tell_12 rfl ?_
    refine Ex_getr dX9_tell_13 fX9_88 hM.1 (mF37 hM).1 ?_
    refine Ex_aload_n dX9_tell_16 rfl ?_
    refine Ex_geti dX9_tell_17 fX9_285 hM.1 ?_
    refine Ex_top hw ?_
    refine Ex_iload_n dX9_tell_20 rfl ?_
    refine Ex_iast dX9_tell_21 (mF37 hM).2.1 rfl (by rw [(mF37 hM).2.2]; omega) (by rw [(mF37 hM).2.2]; decide) ?_
    rw [setI_row]
    refine Ex_aload_n dX9_tell_22 rfl ?_
    refine Ex_dup dX9_tell_23 rfl ?_
    refine Ex_geti dX9_tell_24 fX9_285 hM.1 ?_
    refine Ex_top (show _ = nI w by rw [rowI_n (by omega)]; exact hw) ?_
    refine Ex_iconst (v := nI 1) dX9_tell_27 (by rfl) ?_
    first | with_reducible refine Ex_iaddN dX9_tell_28 ?_ | refine Ex_iadd dX9_tell_28 ?_
    refine Ex_puti dX9_tell_29 fX9_285 rfl rfl rfl hM.1 ?_
    rw [setI_row, rowI_n (show M ≠ M + 26 by omega)]
    refine Ex_aload_n dX9_tell_32 rfl ?_
    refine Ex_geti dX9_tell_33 fX9_285 hM.1 ?_
    refine Ex_top (show _ = nI (w + 1) by rw [rowI_s, upd_s]) ?_
    refine Ex_iret dX9_tell_36 (by first | rfl | exact narrow_bI) ?_
    exact ⟨_, rfl, (by unfold r_tell; rw [if_neg h6]), (by rw [if_neg h6]), rfl⟩
  · refine Ex_ldc dX9_tell_9 kX9_100 ?_
    refine Ex_iret dX9_tell_11 (by first | rfl | exact narrow_bI) ?_
    exact ⟨_, rfl, (by unfold r_tell; rw [if_pos h6]), (by rw [if_pos h6]), rfl⟩
set_option maxRecDepth 100000 in
set_option maxHeartbeats 4000000 in
theorem c9_isSlot {T : TC} {I : MI} {G : MG} (d : Nat) (v : Int32)  : OkP T mX9_isSlot (d + 1) [.int v] I G (bI (inR v 5)) := by
  refine Ok_of (own := RX9) (by decide) rfl (cat1 rfl) (Nat.le_of_ble_eq_true rfl) ?_
  show Ex T RX9 cX9_isSlot 1 (d + 1) _ 0 [some (.int v)] [] I G (0, 0)
  refine Ex_iload_n dX9_isSlot_0 rfl ?_
  refine Ex_iconst (v := nI 0) dX9_isSlot_1 (by rfl) ?_
  refine Ex_iconst (v := nI 4) dX9_isSlot_2 (by rfl) ?_
  refine Ex_S3p dX9_isSlot_3 sX9_91  (Nat.le_of_ble_eq_true rfl) (c9_inR d _ 4 (by omega)) ?_
  refine Ex_iret dX9_isSlot_6 (by first | rfl | exact narrow_bI) ?_
  exact ⟨_, rfl, rfl, rfl, rfl⟩
set_option maxRecDepth 100000 in
set_option maxHeartbeats 4000000 in
theorem c9_isSheet {T : TC} {I : MI} {G : MG} (d : Nat) (v : Int32)  : OkP T mX9_isSheet (d + 1) [.int v] I G (bI (inR v 4)) := by
  refine Ok_of (own := RX9) (by decide) rfl (cat1 rfl) (Nat.le_of_ble_eq_true rfl) ?_
  show Ex T RX9 cX9_isSheet 1 (d + 1) _ 0 [some (.int v)] [] I G (0, 0)
  refine Ex_iload_n dX9_isSheet_0 rfl ?_
  refine Ex_iconst (v := nI 0) dX9_isSheet_1 (by rfl) ?_
  refine Ex_iconst (v := nI 3) dX9_isSheet_2 (by rfl) ?_
  refine Ex_S3p dX9_isSheet_3 sX9_91  (Nat.le_of_ble_eq_true rfl) (c9_inR d _ 3 (by omega)) ?_
  refine Ex_iret dX9_isSheet_6 (by first | rfl | exact narrow_bI) ?_
  exact ⟨_, rfl, rfl, rfl, rfl⟩
def r_rest (th num : Nat → Int32) (s n : Int32) : Int32 := if inR s 5 then (if th (cl s) = 0 then cNOTHING else if th (cl s) = nI 3 then (if n = 0 then cNO else if n = (-1) then nI 0 else num (cl s) - num (cl s) / n * n) else cKIND) else cBAD
def r_ask (th kd wo : Nat → Int32) (s k : Int32) : Int32 := if inR s 5 ∧ inR k 6 then (if th (cl s) = 0 then cNOTHING else if th (cl s) = nI 1 ∧ undP (kd (cl s)) k then wo (cl s) else cKIND) else cBAD
def r_item (th : Nat → Int32) (sz : Nat → Nat) (ce : Nat → Nat → Int32) (s p : Int32) : Int32 := if inR s 5 then (if th (cl s) = 0 then cNOTHING else if th (cl s) = nI 2 then (if inR p (sz (cl s)) then (if ce (cl s) (cl p) = cNONE then cKIND else ce (cl s) (cl p)) else cINDEX) else cKIND) else cBAD
set_option maxRecDepth 100000 in
set_option maxHeartbeats 4000000 in
theorem C9_rest {T : TC} {I : MI} {G : MG} (d : Nat) {M : Nat} (hM : MSh T G M) (s n : Int32)  : OkP T mX9_rest (d + 2) [.ref M, .int s, .int n] I G (r_rest (I (M + 21)) (I (M + 22)) s n) := by
  refine Ok_of (own := RX9) (by decide) rfl (cat1 rfl) (Nat.le_of_ble_eq_true rfl) ?_
  show Ex T RX9 cX9_rest 3 (d + 2) _ 0 [some (.ref M), some (.int s), some (.int n)] [] I G (0, 0)
  refine Ex_iload_n dX9_rest_0 rfl ?_
  refine Ex_S1p dX9_rest_1 sX9_281  (Nat.le_of_ble_eq_true rfl) (c9_isSlot d _) ?_
  refine Ex_if_neB (tgt := 10) dX9_rest_4 (by decide) (fun h4 => ?_) (fun h4 => ?_)
  · obtain ⟨s', hs', e4⟩ := (rng_k (by omega)).mp h4
    have hcl : cl (nI s') = s' := cl_nI (by omega)
    subst e4
    refine Ex_aload_n dX9_rest_10 rfl ?_
    refine Ex_getr dX9_rest_11 fX9_73 hM.1 (mF32 hM).1 ?_
    refine Ex_iload_n dX9_rest_14 rfl ?_
    refine Ex_iald dX9_rest_15 (mF32 hM).2.1 rfl (by rw [(mF32 hM).2.2]; omega) (by rw [(mF32 hM).2.2]; decide) ?_
    refine Ex_if_ne (tgt := 22) dX9_rest_16 (by decide) (fun h16 => ?_) (fun h16 => ?_)
    · refine Ex_aload_n dX9_rest_22 rfl ?_
      refine Ex_getr dX9_rest_23 fX9_73 hM.1 (mF32 hM).1 ?_
      refine Ex_iload_n dX9_rest_26 rfl ?_
      refine Ex_iald dX9_rest_27 (mF32 hM).2.1 rfl (by rw [(mF32 hM).2.2]; omega) (by rw [(mF32 hM).2.2]; decide) ?_
      refine Ex_iconst (v := nI 3) dX9_rest_28 (by rfl) ?_
      refine Ex_icmp_eq (tgt := 35) dX9_rest_29 (by decide) (fun h29 => ?_) (fun h29 => ?_)
      · refine Ex_iload_n dX9_rest_35 rfl ?_
        refine Ex_if_ne (tgt := 45) dX9_rest_36 (by decide) (fun h36 => ?_) (fun h36 => ?_)
        · refine Ex_iload_n dX9_rest_45 rfl ?_
          refine Ex_iconst (v := (-1)) dX9_rest_46 (by rfl) ?_
          refine Ex_icmp_ne (tgt := 54) dX9_rest_47 (by decide) (fun h47 => ?_) (fun h47 => ?_)
          · refine Ex_aload_n dX9_rest_54 rfl ?_
            refine Ex_getr dX9_rest_55 fX9_76 hM.1 (mF33 hM).1 ?_
            refine Ex_iload_n dX9_rest_58 rfl ?_
            refine Ex_iald dX9_rest_59 (mF33 hM).2.1 rfl (by rw [(mF33 hM).2.2]; omega) (by rw [(mF33 hM).2.2]; decide) ?_
            refine Ex_iload_n dX9_rest_60 rfl ?_
            refine Ex_irem dX9_rest_61 h36 ?_
            refine Ex_iret dX9_rest_62 (by first | rfl | exact narrow_bI) ?_
            exact ⟨_, rfl, (by unfold r_rest; rw [if_pos h4, hcl, if_neg h16, if_pos h29, if_neg h36, if_neg h47]), rfl, rfl⟩
          · refine Ex_iconst (v := nI 0) dX9_rest_50 (by rfl) ?_
            refine Ex_goto (tgt := 62) dX9_rest_51 (by decide) ?_
            refine Ex_iret dX9_rest_62 (by first | rfl | exact narrow_bI) ?_
            exact ⟨_, rfl, (by unfold r_rest; rw [if_pos h4, hcl, if_neg h16, if_pos h29, if_neg h36, if_pos h47]), rfl, rfl⟩
        · refine Ex_ldc_w dX9_rest_39 kX9_284 ?_
          refine Ex_goto (tgt := 62) dX9_rest_42 (by decide) ?_
          refine Ex_iret dX9_rest_62 (by first | rfl | exact narrow_bI) ?_
          exact ⟨_, rfl, (by unfold r_rest; rw [if_pos h4, hcl, if_neg h16, if_pos h29, if_pos h36]), rfl, rfl⟩
      · refine Ex_ldc dX9_rest_32 kX9_137 ?_
        refine Ex_iret dX9_rest_34 (by first | rfl | exact narrow_bI) ?_
        exact ⟨_, rfl, (by unfold r_rest; rw [if_pos h4, hcl, if_neg h16, if_neg h29]), rfl, rfl⟩
    · refine Ex_ldc dX9_rest_19 kX9_182 ?_
      refine Ex_iret dX9_rest_21 (by first | rfl | exact narrow_bI) ?_
      exact ⟨_, rfl, (by unfold r_rest; rw [if_pos h4, hcl, if_pos h16]), rfl, rfl⟩
  · refine Ex_ldc dX9_rest_7 kX9_99 ?_
    refine Ex_iret dX9_rest_9 (by first | rfl | exact narrow_bI) ?_
    exact ⟨_, rfl, (by unfold r_rest; rw [if_neg h4]), rfl, rfl⟩
set_option maxRecDepth 100000 in
set_option maxHeartbeats 4000000 in
theorem C9_ask {T : TC} {I : MI} {G : MG} (d : Nat) {M : Nat} (hM : MSh T G M) (s n : Int32)  : OkP T mX9_ask (d + 2) [.ref M, .int s, .int n] I G (r_ask (I (M + 21)) (I (M + 22)) (I (M + 23)) s n) := by
  refine Ok_of (own := RX9) (by decide) rfl (cat1 rfl) (Nat.le_of_ble_eq_true rfl) ?_
  show Ex T RX9 cX9_ask 3 (d + 2) _ 0 [some (.ref M), some (.int s), some (.int n)] [] I G (0, 0)
  refine Ex_iload_n dX9_ask_0 rfl ?_
  refine Ex_S1p dX9_ask_1 sX9_281  (Nat.le_of_ble_eq_true rfl) (c9_isSlot d _) ?_
  refine Ex_if_eqB (tgt := 16) dX9_ask_4 (by decide) (fun h4 => ?_) (fun h4 => ?_)
  · refine Ex_ldc dX9_ask_16 kX9_99 ?_
    refine Ex_iret dX9_ask_18 (by first | rfl | exact narrow_bI) ?_
    exact ⟨_, rfl, (by unfold r_ask; rw [if_neg (fun q => h4 q.1)]), rfl, rfl⟩
  · refine Ex_iload_n dX9_ask_7 rfl ?_
    refine Ex_iconst (v := nI 0) dX9_ask_8 (by rfl) ?_
    refine Ex_iconst (v := nI 5) dX9_ask_9 (by rfl) ?_
    refine Ex_S3p dX9_ask_10 sX9_91  (Nat.le_of_ble_eq_true rfl) (c9_inR (d + 1) _ 5 (by omega)) ?_
    refine Ex_if_neB (tgt := 19) dX9_ask_13 (by decide) (fun h13 => ?_) (fun h13 => ?_)
    · obtain ⟨s', hs', e4⟩ := (rng_k (by omega)).mp h4
      have hcl : cl (nI s') = s' := cl_nI (by omega)
      subst e4
      refine Ex_aload_n dX9_ask_19 rfl ?_
      refine Ex_getr dX9_ask_20 fX9_73 hM.1 (mF32 hM).1 ?_
      refine Ex_iload_n dX9_ask_23 rfl ?_
      refine Ex_iald dX9_ask_24 (mF32 hM).2.1 rfl (by rw [(mF32 hM).2.2]; omega) (by rw [(mF32 hM).2.2]; decide) ?_
      refine Ex_if_ne (tgt := 31) dX9_ask_25 (by decide) (fun h25 => ?_) (fun h25 => ?_)
      · refine Ex_aload_n dX9_ask_31 rfl ?_
        refine Ex_getr dX9_ask_32 fX9_73 hM.1 (mF32 hM).1 ?_
        refine Ex_iload_n dX9_ask_35 rfl ?_
        refine Ex_iald dX9_ask_36 (mF32 hM).2.1 rfl (by rw [(mF32 hM).2.2]; omega) (by rw [(mF32 hM).2.2]; decide) ?_
        refine Ex_iconst (v := nI 1) dX9_ask_37 (by rfl) ?_
        refine Ex_icmp_ne (tgt := 63) dX9_ask_38 (by decide) (fun h38 => ?_) (fun h38 => ?_)
        · refine Ex_ldc dX9_ask_63 kX9_137 ?_
          refine Ex_iret dX9_ask_65 (by first | rfl | exact narrow_bI) ?_
          exact ⟨_, rfl, (by unfold r_ask; rw [if_pos ⟨h4, h13⟩, hcl, if_neg h25, if_neg (fun q => h38 q.1)]), rfl, rfl⟩
        · refine Ex_aload_n dX9_ask_41 rfl ?_
          refine Ex_getr dX9_ask_42 fX9_76 hM.1 (mF33 hM).1 ?_
          refine Ex_iload_n dX9_ask_45 rfl ?_
          refine Ex_iald dX9_ask_46 (mF33 hM).2.1 rfl (by rw [(mF33 hM).2.2]; omega) (by rw [(mF33 hM).2.2]; decide) ?_
          refine Ex_iload_n dX9_ask_47 rfl ?_
          refine Ex_S2p dX9_ask_48 sX9_134  (Nat.le_of_ble_eq_true rfl) (c9_isUnder (d + 1) _ _) ?_
          refine Ex_if_eqB (tgt := 63) dX9_ask_51 (by decide) (fun h51 => ?_) (fun h51 => ?_)
          · refine Ex_ldc dX9_ask_63 kX9_137 ?_
            refine Ex_iret dX9_ask_65 (by first | rfl | exact narrow_bI) ?_
            exact ⟨_, rfl, (by unfold r_ask; rw [if_pos ⟨h4, h13⟩, hcl, if_neg h25, if_neg (fun q => h51 q.2)]), rfl, rfl⟩
          · refine Ex_aload_n dX9_ask_54 rfl ?_
            refine Ex_getr dX9_ask_55 fX9_79 hM.1 (mF34 hM).1 ?_
            refine Ex_iload_n dX9_ask_58 rfl ?_
            refine Ex_iald dX9_ask_59 (mF34 hM).2.1 rfl (by rw [(mF34 hM).2.2]; omega) (by rw [(mF34 hM).2.2]; decide) ?_
            refine Ex_goto (tgt := 65) dX9_ask_60 (by decide) ?_
            refine Ex_iret dX9_ask_65 (by first | rfl | exact narrow_bI) ?_
            exact ⟨_, rfl, (by unfold r_ask; rw [if_pos ⟨h4, h13⟩, hcl, if_neg h25, if_pos ⟨h38, h51⟩]), rfl, rfl⟩
      · refine Ex_ldc dX9_ask_28 kX9_182 ?_
        refine Ex_iret dX9_ask_30 (by first | rfl | exact narrow_bI) ?_
        exact ⟨_, rfl, (by unfold r_ask; rw [if_pos ⟨h4, h13⟩, hcl, if_pos h25]), rfl, rfl⟩
    · refine Ex_ldc dX9_ask_16 kX9_99 ?_
      refine Ex_iret dX9_ask_18 (by first | rfl | exact narrow_bI) ?_
      exact ⟨_, rfl, (by unfold r_ask; rw [if_neg (fun q => h13 q.2)]), rfl, rfl⟩
theorem isS_iff2 {s : Int32} {n : Nat} (h : n ≤ 100) : (nI 0 ≤ s ∧ s ≤ nI n - nI 1) ↔ inR s n := by
  have e : (nI n - nI 1).toInt = (n : Int) - 1 := by rw [pk_sub_toInt (by omega) (by omega)]; rfl
  have e0 : (nI 0).toInt = 0 := rfl
  have en : (nI n).toInt = (n : Int) := nI_toInt (by omega)
  show _ ↔ (0 ≤ s ∧ s < nI n)
  rw [i_le, i_le, i_le, i_lt, e, e0, en, iz_0]
  omega
set_option maxRecDepth 100000 in
set_option maxHeartbeats 4000000 in
theorem C9_item {T : TC} {I : MI} {G : MG} (d : Nat) {M : Nat} (hM : MSh T G M) (sz : Nat → Nat) (s p : Int32) (hz : ∀ i, i < 5 → I (M + 21) i = nI 2 → I (M + 22) i = nI (sz i) ∧ sz i ≤ 24) : OkP T mX9_item (d + 2) [.ref M, .int s, .int p] I G (r_item (I (M + 21)) sz (fun i j => I (M + 24) (24 * i + j)) s p) := by
  refine Ok_of (own := RX9) (by decide) rfl (cat1 rfl) (Nat.le_of_ble_eq_true rfl) ?_
  show Ex T RX9 cX9_item 4 (d + 2) _ 0 [some (.ref M), some (.int s), some (.int p), none] [] I G (0, 0)
  refine Ex_iload_n dX9_item_0 rfl ?_
  refine Ex_S1p dX9_item_1 sX9_281  (Nat.le_of_ble_eq_true rfl) (c9_isSlot d _) ?_
  refine Ex_if_neB (tgt := 10) dX9_item_4 (by decide) (fun h4 => ?_) (fun h4 => ?_)
  · obtain ⟨s', hs', e4⟩ := (rng_k (by omega)).mp h4
    have hcl : cl (nI s') = s' := cl_nI (by omega)
    subst e4
    refine Ex_aload_n dX9_item_10 rfl ?_
    refine Ex_getr dX9_item_11 fX9_73 hM.1 (mF32 hM).1 ?_
    refine Ex_iload_n dX9_item_14 rfl ?_
    refine Ex_iald dX9_item_15 (mF32 hM).2.1 rfl (by rw [(mF32 hM).2.2]; omega) (by rw [(mF32 hM).2.2]; decide) ?_
    refine Ex_if_ne (tgt := 22) dX9_item_16 (by decide) (fun h16 => ?_) (fun h16 => ?_)
    · refine Ex_aload_n dX9_item_22 rfl ?_
      refine Ex_getr dX9_item_23 fX9_73 hM.1 (mF32 hM).1 ?_
      refine Ex_iload_n dX9_item_26 rfl ?_
      refine Ex_iald dX9_item_27 (mF32 hM).2.1 rfl (by rw [(mF32 hM).2.2]; omega) (by rw [(mF32 hM).2.2]; decide) ?_
      refine Ex_iconst (v := nI 2) dX9_item_28 (by rfl) ?_
      refine Ex_icmp_eq (tgt := 35) dX9_item_29 (by decide) (fun h29 => ?_) (fun h29 => ?_)
      · obtain ⟨hz1, hz2⟩ := hz s' hs' h29
        refine Ex_iload_n dX9_item_35 rfl ?_
        refine Ex_iconst (v := nI 0) dX9_item_36 (by rfl) ?_
        refine Ex_aload_n dX9_item_37 rfl ?_
        refine Ex_getr dX9_item_38 fX9_76 hM.1 (mF33 hM).1 ?_
        refine Ex_iload_n dX9_item_41 rfl ?_
        refine Ex_iald dX9_item_42 (mF33 hM).2.1 rfl (by rw [(mF33 hM).2.2]; omega) (by rw [(mF33 hM).2.2]; decide) ?_
        refine Ex_top hz1 ?_
        refine Ex_iconst (v := nI 1) dX9_item_43 (by rfl) ?_
        refine Ex_isub dX9_item_44 ?_
        refine Ex_S3p dX9_item_45 sX9_91  (Nat.le_of_ble_eq_true rfl) ((c9_in (d + 1) _ _ _).of (bI_congr (isS_iff2 (by omega)))) ?_
        refine Ex_if_neB (tgt := 55) dX9_item_48 (by decide) (fun h48 => ?_) (fun h48 => ?_)
        · obtain ⟨p', hp', e48⟩ := (rng_k (by omega)).mp h48
          have hcp : cl (nI p') = p' := cl_nI (by omega)
          subst e48
          refine Ex_aload_n dX9_item_55 rfl ?_
          refine Ex_getr dX9_item_56 fX9_82 hM.1 (mF35 hM).1 ?_
          refine Ex_bipush (v := nI 24) dX9_item_59 (by rfl) ?_
          refine Ex_iload_n dX9_item_61 rfl ?_
          first | with_reducible refine Ex_imulN dX9_item_62 ?_ | refine Ex_imul dX9_item_62 ?_
          refine Ex_iload_n dX9_item_63 rfl ?_
          first | with_reducible refine Ex_iaddN dX9_item_64 ?_ | refine Ex_iadd dX9_item_64 ?_
          refine Ex_iald dX9_item_65 (mF35 hM).2.1 rfl (by rw [(mF35 hM).2.2]; omega) (by rw [(mF35 hM).2.2]; decide) ?_
          refine Ex_istore_n dX9_item_66 (by decide) rfl ?_
          simp only [st_n0, st_n1, st_n2, st_n3, List.set_cons_zero, List.set_cons_succ]
          refine Ex_iload_n dX9_item_67 rfl ?_
          refine Ex_ldc dX9_item_68 kX9_133 ?_
          refine Ex_icmp_ne (tgt := 78) dX9_item_70 (by decide) (fun h70 => ?_) (fun h70 => ?_)
          · refine Ex_iload_n dX9_item_78 rfl ?_
            refine Ex_iret dX9_item_79 (by first | rfl | exact narrow_bI) ?_
            exact ⟨_, rfl, (by unfold r_item; rw [if_pos h4, hcl, if_neg h16, if_pos h29, if_pos h48, hcp, if_neg h70]), rfl, rfl⟩
          · refine Ex_ldc dX9_item_73 kX9_137 ?_
            refine Ex_goto (tgt := 79) dX9_item_75 (by decide) ?_
            refine Ex_iret dX9_item_79 (by first | rfl | exact narrow_bI) ?_
            exact ⟨_, rfl, (by unfold r_item; rw [if_pos h4, hcl, if_neg h16, if_pos h29, if_pos h48, hcp, if_pos h70]), rfl, rfl⟩
        · refine Ex_ldc_w dX9_item_51 kX9_278 ?_
          refine Ex_iret dX9_item_54 (by first | rfl | exact narrow_bI) ?_
          exact ⟨_, rfl, (by unfold r_item; rw [if_pos h4, hcl, if_neg h16, if_pos h29, if_neg h48]), rfl, rfl⟩
      · refine Ex_ldc dX9_item_32 kX9_137 ?_
        refine Ex_iret dX9_item_34 (by first | rfl | exact narrow_bI) ?_
        exact ⟨_, rfl, (by unfold r_item; rw [if_pos h4, hcl, if_neg h16, if_neg h29]), rfl, rfl⟩
    · refine Ex_ldc dX9_item_19 kX9_182 ?_
      refine Ex_iret dX9_item_21 (by first | rfl | exact narrow_bI) ?_
      exact ⟨_, rfl, (by unfold r_item; rw [if_pos h4, hcl, if_pos h16]), rfl, rfl⟩
  · refine Ex_ldc dX9_item_7 kX9_99 ?_
    refine Ex_iret dX9_item_9 (by first | rfl | exact narrow_bI) ?_
    exact ⟨_, rfl, (by unfold r_item; rw [if_neg h4]), rfl, rfl⟩
def r_fee (g : Nat → Int32) : Int32 := match cntF g (nI 1) (tN g) with
  | none => g 5
  | some t => evF g t (fct (g 5) (g 6) 0)
def r_fine' (g : Nat → Int32) (s : Nat) : Int32 := match cntF g (nI 2) (tN g) with
  | none => g (8 + 17 * s + 2)
  | some t => evF g t (fct (g (8 + 17 * s + 2)) (g (8 + 17 * s + 3)) 0)
def r_fine (g : Nat → Int32) (s : Int32) : Int32 := if inR s (nS g) then r_fine' g (cl s) else cBAD
set_option maxRecDepth 100000 in
set_option maxHeartbeats 4000000 in
theorem C9_fee {T : TC} {I : MI} {G : MG} (d : Nat) {M : Nat} (hM : MSh T G M) (hW : WfG (I (M + 1)))  : OkI T mX9_fee (d + 2) [.ref M] I G (fun r I' G' => r = r_fee (I (M + 1)) ∧ I' (M + 1) = (I (M + 1)) ∧ Fr (Pd M) I I' ∧ G' = G) := by
  refine Ok_of (own := RX9) (by decide) rfl (cat1 rfl) (Nat.le_of_ble_eq_true rfl) ?_
  show Ex T RX9 cX9_fee 2 (d + 2) _ 0 [some (.ref M), none] [] I G (0, 0)
  refine Ex_aload_n dX9_fee_0 rfl ?_
  refine Ex_iconst (v := nI 1) dX9_fee_1 (by rfl) ?_
  refine Ex_V1p dX9_fee_2 sX9_108 hM.1 (Nat.le_of_ble_eq_true rfl) (c9_counts (d + 1) hM (nI 1) _ hW.2.2.2.1 hW.2.2.2.2.1) ?_
  refine Ex_istore_n dX9_fee_5 (by decide) rfl ?_
  simp only [st_n0, st_n1, st_n2, st_n3, List.set_cons_zero, List.set_cons_succ]
  refine Ex_aload_n dX9_fee_6 rfl ?_
  refine Ex_getr dX9_fee_7 fX9_61 hM.1 (mF28 hM).1 ?_
  refine Ex_iconst (v := nI 0) dX9_fee_10 (by rfl) ?_
  refine Ex_aload_n dX9_fee_11 rfl ?_
  refine Ex_getr dX9_fee_12 fX9_9 hM.1 (mF0 hM).1 ?_
  refine Ex_iconst (v := nI 5) dX9_fee_15 (by rfl) ?_
  refine Ex_iald dX9_fee_16 (mF0 hM).2.1 rfl (by rw [(mF0 hM).2.2]; omega) (by rw [(mF0 hM).2.2]; decide) ?_
  refine Ex_iast dX9_fee_17 (mF28 hM).2.1 rfl (by rw [(mF28 hM).2.2]; omega) (by rw [(mF28 hM).2.2]; decide) ?_
  rw [setI_row]
  refine Ex_aload_n dX9_fee_18 rfl ?_
  refine Ex_getr dX9_fee_19 fX9_61 hM.1 (mF28 hM).1 ?_
  refine Ex_iconst (v := nI 1) dX9_fee_22 (by rfl) ?_
  refine Ex_aload_n dX9_fee_23 rfl ?_
  refine Ex_getr dX9_fee_24 fX9_9 hM.1 (mF0 hM).1 ?_
  refine Ex_bipush (v := nI 6) dX9_fee_27 (by rfl) ?_
  refine Ex_iald dX9_fee_29 (mF0 hM).2.1 rfl (by rw [(mF0 hM).2.2]; omega) (by rw [(mF0 hM).2.2]; decide) ?_
  refine Ex_top (show _ = I (M + 1) 6 by rw [rowI_n (by omega)]) ?_
  refine Ex_iast dX9_fee_30 (mF28 hM).2.1 rfl (by rw [(mF28 hM).2.2]; omega) (by rw [(mF28 hM).2.2]; decide) ?_
  rw [setI_row, rowI_r, rowI_s]
  have hJ1 : (rowI I (M + 17) (upd (upd (I (M + 17)) 0 (I (M + 1) 5)) 1 (I (M + 1) 6))) (M + 1) = I (M + 1) := rowI_n (by omega)
  have hFr1 : Fr (Pd M) I (rowI I (M + 17) (upd (upd (I (M + 17)) 0 (I (M + 1) 5)) 1 (I (M + 1) 6))) := Fr.row (Or.inr (Or.inr rfl))
  cases hcn : cntF (I (M + 1)) (nI 1) (tN (I (M + 1))) with
  | none =>
    refine Ex_iload_n dX9_fee_31 rfl ?_
    refine Ex_if_ge (tgt := 44) dX9_fee_32 (by decide) (fun h32 => ?_) (fun h32 => ?_)
    · exact absurd h32 (by decide)
    · refine Ex_aload_n dX9_fee_35 rfl ?_
      refine Ex_getr dX9_fee_36 fX9_9 hM.1 (mF0 hM).1 ?_
      refine Ex_iconst (v := nI 5) dX9_fee_39 (by rfl) ?_
      refine Ex_iald dX9_fee_40 (mF0 hM).2.1 rfl (by rw [(mF0 hM).2.2]; omega) (by rw [(mF0 hM).2.2]; decide) ?_
      refine Ex_goto (tgt := 49) dX9_fee_41 (by decide) ?_
      refine Ex_iret dX9_fee_49 (by first | rfl | exact narrow_bI) ?_
      exact ⟨_, rfl, (by unfold r_fee; rw [hcn, hJ1]), hJ1, hFr1, rfl⟩
  | some t =>
    obtain ⟨ht1, ht2⟩ := cntF_lt hcn
    have h14 := hW.2.2.2.2.1
    have hTx := hW.2.2.2.2.2 t ht1
    have hky : kyN (I (M + 1)) t = 1 := ky_of hTx (by omega) ht2
    have hfc : ∀ i, i < nmOf (kyN (I (M + 1)) t) → (fct (I (M + 1) 5) (I (M + 1) 6) 0) (nI (10000 + i)) = (rowI I (M + 17) (upd (upd (I (M + 17)) 0 (I (M + 1) 5)) 1 (I (M + 1) 6))) (M + 17) i := by
      intro i hi
      rw [hky] at hi
      have hi : i < 2 := hi
      rw [rowI_s]
      rcases (show i = 0 ∨ i = 1 by omega) with rfl | rfl
      · rw [upd_n (by omega), upd_s]; rfl
      · rw [upd_s]; unfold fct; rw [if_neg (by decide), if_pos rfl]
    refine Ex_iload_n dX9_fee_31 rfl ?_
    refine Ex_if_ge (tgt := 44) dX9_fee_32 (by decide) (fun h32 => ?_) (fun h32 => ?_)
    · refine Ex_aload_n dX9_fee_44 rfl ?_
      refine Ex_iload_n dX9_fee_45 rfl ?_
      refine Ex_V1i dX9_fee_46 sX9_112 hM.1 (Nat.le_of_ble_eq_true rfl) (c9_worksOut d hM (I (M + 1)) t (fct (I (M + 1) 5) (I (M + 1) 6) 0) hJ1 (by omega) hTx hfc) ?_
      rintro r I2 G2 ⟨rfl, hFr2, rfl⟩
      refine Ex_iret dX9_fee_49 (by first | rfl | exact narrow_bI) ?_
      exact ⟨_, rfl, (by unfold r_fee; rw [hcn]), (by rw [hFr2 _ (by omega)]; exact hJ1), hFr1.trans (hFr2.mono (fun a h => Or.inr (Or.inl h))), rfl⟩
    · exact absurd (nI_pos' (by omega)) h32
set_option maxRecDepth 100000 in
set_option maxHeartbeats 4000000 in
theorem C9_fine {T : TC} {I : MI} {G : MG} (d : Nat) {M : Nat} (hM : MSh T G M) (hW : WfG (I (M + 1))) (s : Int32)  : OkI T mX9_fine (d + 2) [.ref M, .int s] I G (fun r I' G' => r = r_fine (I (M + 1)) s ∧ I' (M + 1) = (I (M + 1)) ∧ Fr (Pd M) I I' ∧ G' = G) := by
  refine Ok_of (own := RX9) (by decide) rfl (cat1 rfl) (Nat.le_of_ble_eq_true rfl) ?_
  show Ex T RX9 cX9_fine 3 (d + 2) _ 0 [some (.ref M), some (.int s), none] [] I G (0, 0)
  refine Ex_aload_n dX9_fine_0 rfl ?_
  refine Ex_iload_n dX9_fine_1 rfl ?_
  refine Ex_V1p dX9_fine_2 sX9_119 hM.1 (Nat.le_of_ble_eq_true rfl) (c9_isS d hM hW s) ?_
  refine Ex_if_neB (tgt := 11) dX9_fine_5 (by decide) (fun h5 => ?_) (fun h5 => ?_)
  · obtain ⟨s', hs', e5⟩ := (rng_k (by have := hW.2.1; omega)).mp h5
    have hcl : cl (nI s') = s' := cl_nI (by have := hW.2.1; omega)
    have hs8 : s' < 8 := by have := hW.2.1; omega
    subst e5
    refine Ex_aload_n dX9_fine_11 rfl ?_
    refine Ex_iconst (v := nI 2) dX9_fine_12 (by rfl) ?_
    refine Ex_V1p dX9_fine_13 sX9_108 hM.1 (Nat.le_of_ble_eq_true rfl) (c9_counts (d + 1) hM (nI 2) _ hW.2.2.2.1 hW.2.2.2.2.1) ?_
    refine Ex_istore_n dX9_fine_16 (by decide) rfl ?_
    simp only [st_n0, st_n1, st_n2, st_n3, List.set_cons_zero, List.set_cons_succ]
    refine Ex_aload_n dX9_fine_17 rfl ?_
    refine Ex_getr dX9_fine_18 fX9_61 hM.1 (mF28 hM).1 ?_
    refine Ex_iconst (v := nI 0) dX9_fine_21 (by rfl) ?_
    refine Ex_aload_n dX9_fine_22 rfl ?_
    refine Ex_iload_n dX9_fine_23 rfl ?_
    refine Ex_iconst (v := nI 2) dX9_fine_24 (by rfl) ?_
    refine Ex_V2p dX9_fine_25 sX9_105 hM.1 (Nat.le_of_ble_eq_true rfl) (c9_of (d + 1) hM s' 2 (by omega)) ?_
    refine Ex_iast dX9_fine_28 (mF28 hM).2.1 rfl (by rw [(mF28 hM).2.2]; omega) (by rw [(mF28 hM).2.2]; decide) ?_
    rw [setI_row]
    refine Ex_aload_n dX9_fine_29 rfl ?_
    refine Ex_getr dX9_fine_30 fX9_61 hM.1 (mF28 hM).1 ?_
    refine Ex_iconst (v := nI 1) dX9_fine_33 (by rfl) ?_
    refine Ex_aload_n dX9_fine_34 rfl ?_
    refine Ex_iload_n dX9_fine_35 rfl ?_
    refine Ex_iconst (v := nI 3) dX9_fine_36 (by rfl) ?_
    refine Ex_V2p dX9_fine_37 sX9_105 hM.1 (Nat.le_of_ble_eq_true rfl) (c9_of (d + 1) hM s' 3 (by omega)) ?_
    refine Ex_top (show _ = I (M + 1) (8 + 17 * s' + 3) by rw [rowI_n (by omega)]) ?_
    refine Ex_iast dX9_fine_40 (mF28 hM).2.1 rfl (by rw [(mF28 hM).2.2]; omega) (by rw [(mF28 hM).2.2]; decide) ?_
    rw [setI_row, rowI_r, rowI_s]
    have hJ1 : (rowI I (M + 17) (upd (upd (I (M + 17)) 0 (I (M + 1) (8 + 17 * s' + 2))) 1 (I (M + 1) (8 + 17 * s' + 3)))) (M + 1) = I (M + 1) := rowI_n (by omega)
    have hFr1 : Fr (Pd M) I (rowI I (M + 17) (upd (upd (I (M + 17)) 0 (I (M + 1) (8 + 17 * s' + 2))) 1 (I (M + 1) (8 + 17 * s' + 3)))) := Fr.row (Or.inr (Or.inr rfl))
    cases hcn : cntF (I (M + 1)) (nI 2) (tN (I (M + 1))) with
    | none =>
      refine Ex_iload_n dX9_fine_41 rfl ?_
      refine Ex_if_ge (tgt := 54) dX9_fine_42 (by decide) (fun h42 => ?_) (fun h42 => ?_)
      · exact absurd h42 (by decide)
      · refine Ex_aload_n dX9_fine_45 rfl ?_
        refine Ex_iload_n dX9_fine_46 rfl ?_
        refine Ex_iconst (v := nI 2) dX9_fine_47 (by rfl) ?_
        refine Ex_V2p dX9_fine_48 sX9_105 hM.1 (Nat.le_of_ble_eq_true rfl) (c9_of (d + 1) hM s' 2 (by omega)) ?_
        refine Ex_goto (tgt := 59) dX9_fine_51 (by decide) ?_
        refine Ex_iret dX9_fine_59 (by first | rfl | exact narrow_bI) ?_
        exact ⟨_, rfl, (by unfold r_fine r_fine'; rw [if_pos h5, hcl, hcn, hJ1]), hJ1, hFr1, rfl⟩
    | some t =>
      obtain ⟨ht1, ht2⟩ := cntF_lt hcn
      have h14 := hW.2.2.2.2.1
      have hTx := hW.2.2.2.2.2 t ht1
      have hky : kyN (I (M + 1)) t = 2 := ky_of hTx (by omega) ht2
      have hfc : ∀ i, i < nmOf (kyN (I (M + 1)) t) → (fct (I (M + 1) (8 + 17 * s' + 2)) (I (M + 1) (8 + 17 * s' + 3)) 0) (nI (10000 + i)) = (rowI I (M + 17) (upd (upd (I (M + 17)) 0 (I (M + 1) (8 + 17 * s' + 2))) 1 (I (M + 1) (8 + 17 * s' + 3)))) (M + 17) i := by
        intro i hi
        rw [hky] at hi
        have hi : i < 2 := hi
        rw [rowI_s]
        rcases (show i = 0 ∨ i = 1 by omega) with rfl | rfl
        · rw [upd_n (by omega), upd_s]; rfl
        · rw [upd_s]; unfold fct; rw [if_neg (by decide), if_pos rfl]
      refine Ex_iload_n dX9_fine_41 rfl ?_
      refine Ex_if_ge (tgt := 54) dX9_fine_42 (by decide) (fun h42 => ?_) (fun h42 => ?_)
      · refine Ex_aload_n dX9_fine_54 rfl ?_
        refine Ex_iload_n dX9_fine_55 rfl ?_
        refine Ex_V1i dX9_fine_56 sX9_112 hM.1 (Nat.le_of_ble_eq_true rfl) (c9_worksOut d hM (I (M + 1)) t (fct (I (M + 1) (8 + 17 * s' + 2)) (I (M + 1) (8 + 17 * s' + 3)) 0) hJ1 (by omega) hTx hfc) ?_
        rintro r I2 G2 ⟨rfl, hFr2, rfl⟩
        refine Ex_iret dX9_fine_59 (by first | rfl | exact narrow_bI) ?_
        exact ⟨_, rfl, (by unfold r_fine r_fine'; rw [if_pos h5, hcl, hcn]), (by rw [hFr2 _ (by omega)]; exact hJ1), hFr1.trans (hFr2.mono (fun a h => Or.inr (Or.inl h))), rfl⟩
      · exact absurd (nI_pos' (by omega)) h42
  · refine Ex_ldc dX9_fine_8 kX9_99 ?_
    refine Ex_iret dX9_fine_10 (by first | rfl | exact narrow_bI) ?_
    exact ⟨_, rfl, (by unfold r_fine; rw [if_neg h5]), rfl, Fr.refl, rfl⟩
def r_why (g : Nat → Int32) (k : Int32) : Int32 := if inR k 3 then (match cntF g k (tN g) with | none => cNONE | some t => nI t) else cBAD
def r_textTold (g : Nat → Int32) (t w : Int32) : Int32 := if inR t (tN g) ∧ inR w 2 then (if w = 0 then nI (kyN g (cl t)) else g (144 + 2 * cl t + 1)) else cBAD
set_option maxRecDepth 100000 in
set_option maxHeartbeats 4000000 in
theorem C9_why {T : TC} {I : MI} {G : MG} (d : Nat) {M : Nat} (hM : MSh T G M) (hW : WfG (I (M + 1))) (k : Int32)  : OkP T mX9_why (d + 1) [.ref M, .int k] I G (r_why (I (M + 1)) k) := by
  refine Ok_of (own := RX9) (by decide) rfl (cat1 rfl) (Nat.le_of_ble_eq_true rfl) ?_
  show Ex T RX9 cX9_why 3 (d + 1) _ 0 [some (.ref M), some (.int k), none] [] I G (0, 0)
  refine Ex_iload_n dX9_why_0 rfl ?_
  refine Ex_iconst (v := nI 0) dX9_why_1 (by rfl) ?_
  refine Ex_iconst (v := nI 2) dX9_why_2 (by rfl) ?_
  refine Ex_S3p dX9_why_3 sX9_91  (Nat.le_of_ble_eq_true rfl) (c9_inR d _ 2 (by omega)) ?_
  refine Ex_if_neB (tgt := 12) dX9_why_6 (by decide) (fun h6 => ?_) (fun h6 => ?_)
  · refine Ex_aload_n dX9_why_12 rfl ?_
    refine Ex_iload_n dX9_why_13 rfl ?_
    refine Ex_V1p dX9_why_14 sX9_108 hM.1 (Nat.le_of_ble_eq_true rfl) (c9_counts d hM k _ hW.2.2.2.1 hW.2.2.2.2.1) ?_
    refine Ex_istore_n dX9_why_17 (by decide) rfl ?_
    simp only [st_n0, st_n1, st_n2, st_n3, List.set_cons_zero, List.set_cons_succ]
    have h14 := hW.2.2.2.2.1
    cases hcn : cntF (I (M + 1)) k (tN (I (M + 1))) with
    | none =>
      refine Ex_iload_n dX9_why_18 rfl ?_
      refine Ex_if_ge (tgt := 27) dX9_why_19 (by decide) (fun h19 => ?_) (fun h19 => ?_)
      · exact absurd h19 (by decide)
      · refine Ex_ldc dX9_why_22 kX9_133 ?_
        refine Ex_goto (tgt := 28) dX9_why_24 (by decide) ?_
        refine Ex_iret dX9_why_28 (by first | rfl | exact narrow_bI) ?_
        exact ⟨_, rfl, (by unfold r_why; rw [if_pos h6, hcn]), rfl, rfl⟩
    | some t =>
      have ht1 := (cntF_lt hcn).1
      refine Ex_iload_n dX9_why_18 rfl ?_
      refine Ex_if_ge (tgt := 27) dX9_why_19 (by decide) (fun h19 => ?_) (fun h19 => ?_)
      · refine Ex_iload_n dX9_why_27 rfl ?_
        refine Ex_iret dX9_why_28 (by first | rfl | exact narrow_bI) ?_
        exact ⟨_, rfl, (by unfold r_why; rw [if_pos h6, hcn]; rfl), rfl, rfl⟩
      · exact absurd (nI_pos' (by omega)) h19
  · refine Ex_ldc dX9_why_9 kX9_99 ?_
    refine Ex_iret dX9_why_11 (by first | rfl | exact narrow_bI) ?_
    exact ⟨_, rfl, (by unfold r_why; rw [if_neg h6]), rfl, rfl⟩
set_option maxRecDepth 100000 in
set_option maxHeartbeats 4000000 in
theorem C9_textTold {T : TC} {I : MI} {G : MG} (d : Nat) {M : Nat} (hM : MSh T G M) (hW : WfG (I (M + 1))) (t w : Int32)  : OkP T mX9_textTold (d + 1) [.ref M, .int t, .int w] I G (r_textTold (I (M + 1)) t w) := by
  refine Ok_of (own := RX9) (by decide) rfl (cat1 rfl) (Nat.le_of_ble_eq_true rfl) ?_
  show Ex T RX9 cX9_textTold 3 (d + 1) _ 0 [some (.ref M), some (.int t), some (.int w)] [] I G (0, 0)
  have h14t := hW.2.2.2.2.1
  refine Ex_iload_n dX9_textTold_0 rfl ?_
  refine Ex_iconst (v := nI 0) dX9_textTold_1 (by rfl) ?_
  refine Ex_aload_n dX9_textTold_2 rfl ?_
  refine Ex_getr dX9_textTold_3 fX9_9 hM.1 (mF0 hM).1 ?_
  refine Ex_bipush (v := nI 7) dX9_textTold_6 (by rfl) ?_
  refine Ex_iald dX9_textTold_8 (mF0 hM).2.1 rfl (by rw [(mF0 hM).2.2]; omega) (by rw [(mF0 hM).2.2]; decide) ?_
  refine Ex_top hW.2.2.2.1 ?_
  refine Ex_iconst (v := nI 1) dX9_textTold_9 (by rfl) ?_
  refine Ex_isub dX9_textTold_10 ?_
  refine Ex_S3p dX9_textTold_11 sX9_91  (Nat.le_of_ble_eq_true rfl) ((c9_in d _ _ _).of (bI_congr (isS_iff2 (by omega)))) ?_
  refine Ex_if_eqB (tgt := 26) dX9_textTold_14 (by decide) (fun h14 => ?_) (fun h14 => ?_)
  · refine Ex_ldc dX9_textTold_26 kX9_99 ?_
    refine Ex_iret dX9_textTold_28 (by first | rfl | exact narrow_bI) ?_
    exact ⟨_, rfl, (by unfold r_textTold; rw [if_neg (fun q => h14 q.1)]), rfl, rfl⟩
  · refine Ex_iload_n dX9_textTold_17 rfl ?_
    refine Ex_iconst (v := nI 0) dX9_textTold_18 (by rfl) ?_
    refine Ex_iconst (v := nI 1) dX9_textTold_19 (by rfl) ?_
    refine Ex_S3p dX9_textTold_20 sX9_91  (Nat.le_of_ble_eq_true rfl) (c9_inR d _ 1 (by omega)) ?_
    refine Ex_if_neB (tgt := 29) dX9_textTold_23 (by decide) (fun h23 => ?_) (fun h23 => ?_)
    · obtain ⟨t', ht', e14⟩ := (rng_k (by omega)).mp h14
      have hcl : cl (nI t') = t' := cl_nI (by omega)
      subst e14
      obtain ⟨hk3, hc96, he, -⟩ := hW.2.2.2.2.2 t' ht'
      refine Ex_iload_n dX9_textTold_29 rfl ?_
      refine Ex_if_ne (tgt := 52) dX9_textTold_30 (by decide) (fun h30 => ?_) (fun h30 => ?_)
      · refine Ex_aload_n dX9_textTold_52 rfl ?_
        refine Ex_getr dX9_textTold_53 fX9_9 hM.1 (mF0 hM).1 ?_
        refine Ex_sipush (v := nI 144) dX9_textTold_56 (by rfl) ?_
        refine Ex_iconst (v := nI 2) dX9_textTold_59 (by rfl) ?_
        refine Ex_iload_n dX9_textTold_60 rfl ?_
        first | with_reducible refine Ex_imulN dX9_textTold_61 ?_ | refine Ex_imul dX9_textTold_61 ?_
        first | with_reducible refine Ex_iaddN dX9_textTold_62 ?_ | refine Ex_iadd dX9_textTold_62 ?_
        refine Ex_iconst (v := nI 1) dX9_textTold_63 (by rfl) ?_
        first | with_reducible refine Ex_iaddN dX9_textTold_64 ?_ | refine Ex_iadd dX9_textTold_64 ?_
        refine Ex_iald dX9_textTold_65 (mF0 hM).2.1 rfl (by rw [(mF0 hM).2.2]; omega) (by rw [(mF0 hM).2.2]; decide) ?_
        refine Ex_iret dX9_textTold_66 (by first | rfl | exact narrow_bI) ?_
        exact ⟨_, rfl, (by unfold r_textTold; rw [if_pos ⟨h14, h23⟩, hcl, if_neg h30]), rfl, rfl⟩
      · refine Ex_aload_n dX9_textTold_33 rfl ?_
        refine Ex_getr dX9_textTold_34 fX9_9 hM.1 (mF0 hM).1 ?_
        refine Ex_sipush (v := nI 144) dX9_textTold_37 (by rfl) ?_
        refine Ex_iconst (v := nI 2) dX9_textTold_40 (by rfl) ?_
        refine Ex_iload_n dX9_textTold_41 rfl ?_
        first | with_reducible refine Ex_imulN dX9_textTold_42 ?_ | refine Ex_imul dX9_textTold_42 ?_
        first | with_reducible refine Ex_iaddN dX9_textTold_43 ?_ | refine Ex_iadd dX9_textTold_43 ?_
        refine Ex_iald dX9_textTold_44 (mF0 hM).2.1 rfl (by rw [(mF0 hM).2.2]; omega) (by rw [(mF0 hM).2.2]; decide) ?_
        refine Ex_top he ?_
        refine Ex_sipush (v := nI 1000) dX9_textTold_45 (by rfl) ?_
        refine Ex_idiv dX9_textTold_48 (by decide) ?_
        refine Ex_top (show _ = nI (kyN (I (M + 1)) t') by rw [pk_div (by omega) (by omega) (by omega)]; congr 1; omega) ?_
        refine Ex_goto (tgt := 66) dX9_textTold_49 (by decide) ?_
        refine Ex_iret dX9_textTold_66 (by first | rfl | exact narrow_bI) ?_
        exact ⟨_, rfl, (by unfold r_textTold; rw [if_pos ⟨h14, h23⟩, hcl, if_pos h30]), rfl, rfl⟩
    · refine Ex_ldc dX9_textTold_26 kX9_99 ?_
      refine Ex_iret dX9_textTold_28 (by first | rfl | exact narrow_bI) ?_
      exact ⟨_, rfl, (by unfold r_textTold; rw [if_neg (fun q => h23 q.2)]), rfl, rfl⟩
def fdB (a b c : Int32) (k : Nat) : Int32 := (if k < 4 then a else if k < 8 then b else c) >>> ((nI 24 - nI (8 * (k % 4))) &&& 31) &&& nI 255
def fdT (tape : Nat → Int32) (tp : Nat) (a b c : Int32) (n : Nat) : Nat → Int32 := fun j => if tp ≤ j ∧ j < tp + n then fdB a b c (j - tp) else tape j
theorem fdT_s {tape : Nat → Int32} {tp n : Nat} {a b c : Int32} : upd (fdT tape tp a b c n) (tp + n) (fdB a b c n) = fdT tape tp a b c (n + 1) := by
  funext j
  unfold fdT
  by_cases e : j = tp + n
  · subst e
    rw [upd_s, if_pos (by omega)]
    congr 1; omega
  · rw [upd_n e]
    by_cases h : tp ≤ j ∧ j < tp + n
    · rw [if_pos h, if_pos (by omega)]
    · rw [if_neg h, if_neg (by omega)]
theorem fdT_0 {tape : Nat → Int32} {tp : Nat} {a b c : Int32} : fdT tape tp a b c 0 = tape := by
  funext j
  exact if_neg (by omega)
set_option maxRecDepth 100000 in
set_option maxHeartbeats 4000000 in
theorem l9_feed {T : TC} {I : MI} {G : MG} {F : FinT} {b : Nat × Nat} (d : Nat) {M : Nat} (hM : MSh T G M) (tp : Nat) (ht : I M 12 = nI tp) (h84 : tp ≤ 84) (a q c : Int32) (kx : Ex T RX9 cX9_feed 6 (d) F 18 [some (.ref M), some (.int a), some (.int q), some (.int c), some (.int (nI 12)), none] [] (rowI I (M + 10) (fdT (I (M + 10)) tp a q c 12)) G b) : ∀ i k, k + i = 12  → Ex T RX9 cX9_feed 6 (d) F 18 [some (.ref M), some (.int a), some (.int q), some (.int c), some (.int (nI k)), none] [] (rowI I (M + 10) (fdT (I (M + 10)) tp a q c k)) G b := by
  intro i
  induction i with
  | zero => intro k h0; have e0 : k = 12 := by omega
            subst e0; exact kx
  | succ i ih0 =>
    intro k h0
    have ih := ih0 (k + 1)
    refine Ex_iload dX9_feed_18 rfl ?_
    refine Ex_bipush (v := nI 12) dX9_feed_20 (by rfl) ?_
    refine Ex_icmp_geN (by omega) (by omega) (tgt := 84) dX9_feed_22 (by decide) (fun h22 => ?_) (fun h22 => ?_)
    · omega
    · refine Ex_iload dX9_feed_25 rfl ?_
      refine Ex_iconst (v := nI 4) dX9_feed_27 (by rfl) ?_
      refine Ex_icmp_geN (by omega) (by omega) (tgt := 35) dX9_feed_28 (by decide) (fun h28 => ?_) (fun h28 => ?_)
      · refine Ex_iload dX9_feed_35 rfl ?_
        refine Ex_bipush (v := nI 8) dX9_feed_37 (by rfl) ?_
        refine Ex_icmp_geN (by omega) (by omega) (tgt := 46) dX9_feed_39 (by decide) (fun h39 => ?_) (fun h39 => ?_)
        · refine Ex_iload_n dX9_feed_46 rfl ?_
          refine Ex_istore dX9_feed_47 (by decide) rfl ?_
          simp only [List.set_cons_zero, List.set_cons_succ]
          refine Ex_aload_n dX9_feed_49 rfl ?_
          refine Ex_getr dX9_feed_50 fX9_38 hM.1 (mF11 hM).1 ?_
          refine Ex_aload_n dX9_feed_53 rfl ?_
          refine Ex_geti dX9_feed_54 fX9_211 hM.1 ?_
          refine Ex_top (show _ = nI tp by rw [rowI_n (by omega)]; exact ht) ?_
          refine Ex_iload dX9_feed_57 rfl ?_
          first | with_reducible refine Ex_iaddN dX9_feed_59 ?_ | refine Ex_iadd dX9_feed_59 ?_
          refine Ex_iload dX9_feed_60 rfl ?_
          refine Ex_bipush (v := nI 24) dX9_feed_62 (by rfl) ?_
          refine Ex_bipush (v := nI 8) dX9_feed_64 (by rfl) ?_
          refine Ex_iload dX9_feed_66 rfl ?_
          refine Ex_iconst (v := nI 4) dX9_feed_68 (by rfl) ?_
          refine Ex_iremN (by omega) (by omega) (by omega) dX9_feed_69 ?_
          first | with_reducible refine Ex_imulN dX9_feed_70 ?_ | refine Ex_imul dX9_feed_70 ?_
          refine Ex_isub dX9_feed_71 ?_
          refine Ex_ishr dX9_feed_72 ?_
          refine Ex_sipush (v := nI 255) dX9_feed_73 (by rfl) ?_
          refine Ex_iand dX9_feed_76 ?_
          refine Ex_top (show _ = fdB a q c k by unfold fdB; rw [if_neg (by omega), if_neg (by omega)]) ?_
          refine Ex_iast dX9_feed_77 (mF11 hM).2.1 rfl (by rw [(mF11 hM).2.2]; omega) (by rw [(mF11 hM).2.2]; decide) ?_
          rw [setI_row, rowI_r, rowI_s]
          first | refine Ex_iincN (m := 1) dX9_feed_78 rfl rfl (by decide) rfl ?_ | refine Ex_iinc dX9_feed_78 rfl rfl (by decide) rfl ?_
          simp only [List.set_cons_zero, List.set_cons_succ]
          refine Ex_goto (tgt := 18) dX9_feed_81 (by decide) ?_
          refine Ex_drop 5 ?_
          simp only [st_n0, st_n1, st_n2, st_n3, List.set_cons_zero, List.set_cons_succ]
          rw [fdT_s]
          exact ih (by omega)
        · refine Ex_iload_n dX9_feed_42 rfl ?_
          refine Ex_goto (tgt := 47) dX9_feed_43 (by decide) ?_
          refine Ex_istore dX9_feed_47 (by decide) rfl ?_
          simp only [List.set_cons_zero, List.set_cons_succ]
          refine Ex_aload_n dX9_feed_49 rfl ?_
          refine Ex_getr dX9_feed_50 fX9_38 hM.1 (mF11 hM).1 ?_
          refine Ex_aload_n dX9_feed_53 rfl ?_
          refine Ex_geti dX9_feed_54 fX9_211 hM.1 ?_
          refine Ex_top (show _ = nI tp by rw [rowI_n (by omega)]; exact ht) ?_
          refine Ex_iload dX9_feed_57 rfl ?_
          first | with_reducible refine Ex_iaddN dX9_feed_59 ?_ | refine Ex_iadd dX9_feed_59 ?_
          refine Ex_iload dX9_feed_60 rfl ?_
          refine Ex_bipush (v := nI 24) dX9_feed_62 (by rfl) ?_
          refine Ex_bipush (v := nI 8) dX9_feed_64 (by rfl) ?_
          refine Ex_iload dX9_feed_66 rfl ?_
          refine Ex_iconst (v := nI 4) dX9_feed_68 (by rfl) ?_
          refine Ex_iremN (by omega) (by omega) (by omega) dX9_feed_69 ?_
          first | with_reducible refine Ex_imulN dX9_feed_70 ?_ | refine Ex_imul dX9_feed_70 ?_
          refine Ex_isub dX9_feed_71 ?_
          refine Ex_ishr dX9_feed_72 ?_
          refine Ex_sipush (v := nI 255) dX9_feed_73 (by rfl) ?_
          refine Ex_iand dX9_feed_76 ?_
          refine Ex_top (show _ = fdB a q c k by unfold fdB; rw [if_neg (by omega), if_pos (by omega)]) ?_
          refine Ex_iast dX9_feed_77 (mF11 hM).2.1 rfl (by rw [(mF11 hM).2.2]; omega) (by rw [(mF11 hM).2.2]; decide) ?_
          rw [setI_row, rowI_r, rowI_s]
          first | refine Ex_iincN (m := 1) dX9_feed_78 rfl rfl (by decide) rfl ?_ | refine Ex_iinc dX9_feed_78 rfl rfl (by decide) rfl ?_
          simp only [List.set_cons_zero, List.set_cons_succ]
          refine Ex_goto (tgt := 18) dX9_feed_81 (by decide) ?_
          refine Ex_drop 5 ?_
          simp only [st_n0, st_n1, st_n2, st_n3, List.set_cons_zero, List.set_cons_succ]
          rw [fdT_s]
          exact ih (by omega)
      · refine Ex_iload_n dX9_feed_31 rfl ?_
        refine Ex_goto (tgt := 47) dX9_feed_32 (by decide) ?_
        refine Ex_istore dX9_feed_47 (by decide) rfl ?_
        simp only [List.set_cons_zero, List.set_cons_succ]
        refine Ex_aload_n dX9_feed_49 rfl ?_
        refine Ex_getr dX9_feed_50 fX9_38 hM.1 (mF11 hM).1 ?_
        refine Ex_aload_n dX9_feed_53 rfl ?_
        refine Ex_geti dX9_feed_54 fX9_211 hM.1 ?_
        refine Ex_top (show _ = nI tp by rw [rowI_n (by omega)]; exact ht) ?_
        refine Ex_iload dX9_feed_57 rfl ?_
        first | with_reducible refine Ex_iaddN dX9_feed_59 ?_ | refine Ex_iadd dX9_feed_59 ?_
        refine Ex_iload dX9_feed_60 rfl ?_
        refine Ex_bipush (v := nI 24) dX9_feed_62 (by rfl) ?_
        refine Ex_bipush (v := nI 8) dX9_feed_64 (by rfl) ?_
        refine Ex_iload dX9_feed_66 rfl ?_
        refine Ex_iconst (v := nI 4) dX9_feed_68 (by rfl) ?_
        refine Ex_iremN (by omega) (by omega) (by omega) dX9_feed_69 ?_
        first | with_reducible refine Ex_imulN dX9_feed_70 ?_ | refine Ex_imul dX9_feed_70 ?_
        refine Ex_isub dX9_feed_71 ?_
        refine Ex_ishr dX9_feed_72 ?_
        refine Ex_sipush (v := nI 255) dX9_feed_73 (by rfl) ?_
        refine Ex_iand dX9_feed_76 ?_
        refine Ex_top (show _ = fdB a q c k by unfold fdB; rw [if_pos (by omega)]) ?_
        refine Ex_iast dX9_feed_77 (mF11 hM).2.1 rfl (by rw [(mF11 hM).2.2]; omega) (by rw [(mF11 hM).2.2]; decide) ?_
        rw [setI_row, rowI_r, rowI_s]
        first | refine Ex_iincN (m := 1) dX9_feed_78 rfl rfl (by decide) rfl ?_ | refine Ex_iinc dX9_feed_78 rfl rfl (by decide) rfl ?_
        simp only [List.set_cons_zero, List.set_cons_succ]
        refine Ex_goto (tgt := 18) dX9_feed_81 (by decide) ?_
        refine Ex_drop 5 ?_
        simp only [st_n0, st_n1, st_n2, st_n3, List.set_cons_zero, List.set_cons_succ]
        rw [fdT_s]
        exact ih (by omega)
set_option maxRecDepth 100000 in
set_option maxHeartbeats 4000000 in
theorem C9_feed {T : TC} {I : MI} {G : MG} (d : Nat) {M : Nat} (hM : MSh T G M) (tp : Nat) (a q c : Int32) (ht : I M 12 = nI tp) (h96 : tp ≤ 96) : OkI T mX9_feed (d) [.ref M, .int a, .int q, .int c] I G (fun r I' G' => r = (if tp ≤ 84 then nI (tp + 12) else cFULL) ∧ I' = (if tp ≤ 84 then rowI (rowI I (M + 10) (fdT (I (M + 10)) tp a q c 12)) M (upd (I M) 12 (nI (tp + 12))) else I) ∧ G' = G) := by
  refine Ok_of (own := RX9) (by decide) rfl (cat1 rfl) (Nat.le_of_ble_eq_true rfl) ?_
  show Ex T RX9 cX9_feed 6 (d) _ 0 [some (.ref M), some (.int a), some (.int q), some (.int c), none, none] [] I G (0, 0)
  refine Ex_aload_n dX9_feed_0 rfl ?_
  refine Ex_geti dX9_feed_1 fX9_211 hM.1 ?_
  refine Ex_top ht ?_
  refine Ex_bipush (v := nI 12) dX9_feed_4 (by rfl) ?_
  first | with_reducible refine Ex_iaddN dX9_feed_6 ?_ | refine Ex_iadd dX9_feed_6 ?_
  refine Ex_bipush (v := nI 96) dX9_feed_7 (by rfl) ?_
  refine Ex_icmp_leN (by omega) (by omega) (tgt := 15) dX9_feed_9 (by decide) (fun h9 => ?_) (fun h9 => ?_)
  · refine Ex_iconst (v := nI 0) dX9_feed_15 (by rfl) ?_
    refine Ex_istore dX9_feed_16 (by decide) rfl ?_
    simp only [List.set_cons_zero, List.set_cons_succ]
    refine Ex_eqI (show _ = rowI I (M + 10) (fdT (I (M + 10)) tp a q c 0) by rw [fdT_0, rowI_self]) ?_
    refine l9_feed d hM tp ht (by omega) a q c ?_ 12 0 (by omega)
    refine Ex_iload dX9_feed_18 rfl ?_
    refine Ex_bipush (v := nI 12) dX9_feed_20 (by rfl) ?_
    refine Ex_icmp_geN (by omega) (by omega) (tgt := 84) dX9_feed_22 (by decide) (fun h22 => ?_) (fun h22 => ?_)
    · refine Ex_aload_n dX9_feed_84 rfl ?_
      refine Ex_dup dX9_feed_85 rfl ?_
      refine Ex_geti dX9_feed_86 fX9_211 hM.1 ?_
      refine Ex_top (show _ = nI tp by rw [rowI_n (by omega)]; exact ht) ?_
      refine Ex_bipush (v := nI 12) dX9_feed_89 (by rfl) ?_
      first | with_reducible refine Ex_iaddN dX9_feed_91 ?_ | refine Ex_iadd dX9_feed_91 ?_
      refine Ex_puti dX9_feed_92 fX9_211 rfl rfl rfl hM.1 ?_
      rw [setI_row, rowI_n (show M ≠ M + 10 by omega)]
      refine Ex_aload_n dX9_feed_95 rfl ?_
      refine Ex_geti dX9_feed_96 fX9_211 hM.1 ?_
      refine Ex_top (show _ = nI (tp + 12) by rw [rowI_s, upd_s]) ?_
      refine Ex_iret dX9_feed_99 (by first | rfl | exact narrow_bI) ?_
      exact ⟨_, rfl, (by rw [if_pos (by omega)]), (by rw [if_pos (by omega)]), rfl⟩
    · omega
  · refine Ex_ldc dX9_feed_12 kX9_100 ?_
    refine Ex_iret dX9_feed_14 (by first | rfl | exact narrow_bI) ?_
    exact ⟨_, rfl, (by rw [if_neg (by omega)]), (by rw [if_neg (by omega)]), rfl⟩
set_option maxRecDepth 100000 in
set_option maxHeartbeats 4000000 in
theorem C9_keep {T : TC} {I : MI} {G : MG} (d : Nat) {M : Nat} (hM : MSh T G M)  : OkI T mX9_keep (d + 1) [.ref M] I G (fun r I' G' => r = I (M + 1) 1 ∧ I' = rowI (rowI I (M + 2) (preF (I (M + 1)) (I (M + 2)) 1516)) M (upd (I M) 3 (nI 1)) ∧ G' = G) := by
  refine Ok_of (own := RX9) (by decide) rfl (cat1 rfl) (Nat.le_of_ble_eq_true rfl) ?_
  show Ex T RX9 cX9_keep 1 (d + 1) _ 0 [some (.ref M)] [] I G (0, 0)
  refine Ex_aload_n dX9_keep_0 rfl ?_
  refine Ex_getr dX9_keep_1 fX9_9 hM.1 (mF0 hM).1 ?_
  refine Ex_aload_n dX9_keep_4 rfl ?_
  refine Ex_getr dX9_keep_5 fX9_13 hM.1 (mF1 hM).1 ?_
  refine Ex_S2v dX9_keep_8 sX9_292  (Nat.le_of_ble_eq_true rfl) (c9_copyAll d (mF0 hM).2.1 (mF1 hM).2.1 (by omega) (mF0 hM).2.2 (mF1 hM).2.2) ?_
  rintro _ _ ⟨rfl, rfl⟩
  refine Ex_aload_n dX9_keep_11 rfl ?_
  refine Ex_iconst (v := nI 1) dX9_keep_12 (by rfl) ?_
  refine Ex_puti dX9_keep_13 fX9_288 rfl rfl rfl hM.1 ?_
  rw [setI_row, rowI_n (show M ≠ M + 2 by omega)]
  refine Ex_aload_n dX9_keep_16 rfl ?_
  refine Ex_getr dX9_keep_17 fX9_9 hM.1 (mF0 hM).1 ?_
  refine Ex_iconst (v := nI 1) dX9_keep_20 (by rfl) ?_
  refine Ex_iald dX9_keep_21 (mF0 hM).2.1 rfl (by rw [(mF0 hM).2.2]; omega) (by rw [(mF0 hM).2.2]; decide) ?_
  refine Ex_top (show _ = I (M + 1) 1 by rw [rowI_n (by omega), rowI_n (by omega)]) ?_
  refine Ex_iret dX9_keep_22 (by first | rfl | exact narrow_bI) ?_
  exact ⟨_, rfl, rfl, rfl, rfl⟩
set_option maxRecDepth 100000 in
set_option maxHeartbeats 4000000 in
theorem C9_back {T : TC} {I : MI} {G : MG} (d : Nat) {M : Nat} (hM : MSh T G M)  : OkI T mX9_back (d + 1) [.ref M] I G (fun r I' G' => r = (if I M 3 = 0 then cNO else I (M + 2) 1) ∧ I' = (if I M 3 = 0 then I else rowI I (M + 1) (preF (I (M + 2)) (I (M + 1)) 1516)) ∧ G' = G) := by
  refine Ok_of (own := RX9) (by decide) rfl (cat1 rfl) (Nat.le_of_ble_eq_true rfl) ?_
  show Ex T RX9 cX9_back 1 (d + 1) _ 0 [some (.ref M)] [] I G (0, 0)
  refine Ex_aload_n dX9_back_0 rfl ?_
  refine Ex_geti dX9_back_1 fX9_288 hM.1 ?_
  refine Ex_if_ne (tgt := 11) dX9_back_4 (by decide) (fun h4 => ?_) (fun h4 => ?_)
  · refine Ex_aload_n dX9_back_11 rfl ?_
    refine Ex_getr dX9_back_12 fX9_13 hM.1 (mF1 hM).1 ?_
    refine Ex_aload_n dX9_back_15 rfl ?_
    refine Ex_getr dX9_back_16 fX9_9 hM.1 (mF0 hM).1 ?_
    refine Ex_S2v dX9_back_19 sX9_292  (Nat.le_of_ble_eq_true rfl) (c9_copyAll d (mF1 hM).2.1 (mF0 hM).2.1 (by omega) (mF1 hM).2.2 (mF0 hM).2.2) ?_
    rintro _ _ ⟨rfl, rfl⟩
    refine Ex_aload_n dX9_back_22 rfl ?_
    refine Ex_getr dX9_back_23 fX9_9 hM.1 (mF0 hM).1 ?_
    refine Ex_iconst (v := nI 1) dX9_back_26 (by rfl) ?_
    refine Ex_iald dX9_back_27 (mF0 hM).2.1 rfl (by rw [(mF0 hM).2.2]; omega) (by rw [(mF0 hM).2.2]; decide) ?_
    refine Ex_top (show _ = I (M + 2) 1 by rw [rowI_s]; exact if_pos (by omega)) ?_
    refine Ex_iret dX9_back_28 (by first | rfl | exact narrow_bI) ?_
    exact ⟨_, rfl, (by rw [if_neg h4]), (by rw [if_neg h4]), rfl⟩
  · refine Ex_ldc_w dX9_back_7 kX9_284 ?_
    refine Ex_iret dX9_back_10 (by first | rfl | exact narrow_bI) ?_
    exact ⟨_, rfl, (by rw [if_pos h4]), (by rw [if_pos h4]), rfl⟩
