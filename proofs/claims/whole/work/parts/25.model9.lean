/-! sheets, slots -/
def SzR (I : MI) (M : Nat) (sz : Nat → Nat) : Prop := ∀ s, s < 4 → I (M + 19) s = nI (sz s) ∧ sz s ≤ 24
abbrev srtP (x : Int32) : Prop := (-1) ≤ x ∧ x ≤ nI 1
def r_sheet (s sort n : Int32) : Int32 := if inR s 4 ∧ srtP sort ∧ ¬ (0 ≤ sort ∧ nI 24 < n) then (if 0 ≤ sort ∧ n < 0 then cSIZE else if sort < 0 then nI 0 else n) else cBAD
/-- whether sheet() makes a sheet -/
abbrev mkP (s sort n : Int32) : Prop := inR s 4 ∧ srtP sort ∧ ¬ (0 ≤ sort ∧ nI 24 < n) ∧ ¬ (0 ≤ sort ∧ n < 0)
def zc (c : Nat → Int32) (s n : Nat) : Nat → Int32 := fun j => if 24 * s ≤ j ∧ j < 24 * s + n then nI 0 else c j
theorem zc_s {c : Nat → Int32} {s n : Nat} : upd (zc c s n) (24 * s + n) (nI 0) = zc c s (n + 1) := by
  funext j
  unfold zc
  by_cases e : j = 24 * s + n
  · subst e; rw [upd_s, if_pos (by omega)]
  · rw [upd_n e]
    by_cases h : 24 * s ≤ j ∧ j < 24 * s + n
    · rw [if_pos h, if_pos (by omega)]
    · rw [if_neg h, if_neg (by omega)]
theorem zc_0 {c : Nat → Int32} {s : Nat} : zc c s 0 = c := by
  funext j
  exact if_neg (by omega)
def i_sheet (I : MI) (M : Nat) (s sort n : Int32) : MI := if mkP s sort n then rowI (rowI (rowI I (M + 18) (upd (I (M + 18)) (cl s) sort)) (M + 19) (upd (I (M + 19)) (cl s) (if sort < 0 then nI 0 else n))) (M + 20) (zc (I (M + 20)) (cl s) 24) else I
set_option maxRecDepth 100000 in
set_option maxHeartbeats 4000000 in
theorem l9_sheet {T : TC} {I : MI} {G : MG} {F : FinT} {b : Nat × Nat} (d : Nat) {M : Nat} (hM : MSh T G M) (s : Nat) (hs : s < 4) (x2 x3 : Int32) (c : Nat → Int32) (kx : Ex T RX9 cX9_sheet 5 (d) F 65 [some (.ref M), some (.int (nI s)), some (.int x2), some (.int x3), some (.int (nI 24))] [] (rowI I (M + 20) (zc c s 24)) G b) : ∀ i k, k + i = 24  → Ex T RX9 cX9_sheet 5 (d) F 65 [some (.ref M), some (.int (nI s)), some (.int x2), some (.int x3), some (.int (nI k))] [] (rowI I (M + 20) (zc c s k)) G b := by
  intro i
  induction i with
  | zero => intro k h0; have e0 : k = 24 := by omega
            subst e0; exact kx
  | succ i ih0 =>
    intro k h0
    have ih := ih0 (k + 1)
    refine Ex_iload dX9_sheet_65 rfl ?_
    refine Ex_bipush (v := nI 24) dX9_sheet_67 (by rfl) ?_
    refine Ex_icmp_geN (by omega) (by omega) (tgt := 91) dX9_sheet_69 (by decide) (fun h69 => ?_) (fun h69 => ?_)
    · omega
    · refine Ex_aload_n dX9_sheet_72 rfl ?_
      refine Ex_getr dX9_sheet_73 fX9_70 hM.1 (mF31 hM).1 ?_
      refine Ex_bipush (v := nI 24) dX9_sheet_76 (by rfl) ?_
      refine Ex_iload_n dX9_sheet_78 rfl ?_
      first | with_reducible refine Ex_imulN dX9_sheet_79 ?_ | refine Ex_imul dX9_sheet_79 ?_
      refine Ex_iload dX9_sheet_80 rfl ?_
      first | with_reducible refine Ex_iaddN dX9_sheet_82 ?_ | refine Ex_iadd dX9_sheet_82 ?_
      refine Ex_iconst (v := nI 0) dX9_sheet_83 (by rfl) ?_
      refine Ex_iast dX9_sheet_84 (mF31 hM).2.1 rfl (by rw [(mF31 hM).2.2]; omega) (by rw [(mF31 hM).2.2]; decide) ?_
      rw [setI_row, rowI_r, rowI_s, zc_s]
      first | refine Ex_iincN (m := 1) dX9_sheet_85 rfl rfl (by decide) rfl ?_ | refine Ex_iinc dX9_sheet_85 rfl rfl (by decide) rfl ?_
      simp only [List.set_cons_zero, List.set_cons_succ]
      refine Ex_goto (tgt := 65) dX9_sheet_88 (by decide) ?_
      exact ih (by omega)
set_option maxRecDepth 100000 in
set_option maxHeartbeats 4000000 in
theorem C9_sheet {T : TC} {I : MI} {G : MG} (d : Nat) {M : Nat} (hM : MSh T G M) (s sort n : Int32)  : OkI T mX9_sheet (d + 2) [.ref M, .int s, .int sort, .int n] I G (fun r I' G' => r = r_sheet s sort n ∧ I' = i_sheet I M s sort n ∧ G' = G) := by
  refine Ok_of (own := RX9) (by decide) rfl (cat1 rfl) (Nat.le_of_ble_eq_true rfl) ?_
  show Ex T RX9 cX9_sheet 5 (d + 2) _ 0 [some (.ref M), some (.int s), some (.int sort), some (.int n), none] [] I G (0, 0)
  refine Ex_iload_n dX9_sheet_0 rfl ?_
  refine Ex_S1p dX9_sheet_1 sX9_179  (Nat.le_of_ble_eq_true rfl) (c9_isSheet d _) ?_
  refine Ex_if_eqB (tgt := 26) dX9_sheet_4 (by decide) (fun h4 => ?_) (fun h4 => ?_)
  · refine Ex_ldc dX9_sheet_26 kX9_99 ?_
    refine Ex_iret dX9_sheet_28 (by first | rfl | exact narrow_bI) ?_
    exact ⟨_, rfl, (by unfold r_sheet; rw [if_neg (fun q => h4 q.1)]), (by unfold i_sheet; rw [if_neg (fun q => h4 q.1)]), rfl⟩
  · refine Ex_iload_n dX9_sheet_7 rfl ?_
    refine Ex_iconst (v := (-1)) dX9_sheet_8 (by rfl) ?_
    refine Ex_iconst (v := nI 1) dX9_sheet_9 (by rfl) ?_
    refine Ex_S3p dX9_sheet_10 sX9_91  (Nat.le_of_ble_eq_true rfl) (c9_in (d + 1) _ _ _) ?_
    refine Ex_if_eqB (tgt := 26) dX9_sheet_13 (by decide) (fun h13 => ?_) (fun h13 => ?_)
    · refine Ex_ldc dX9_sheet_26 kX9_99 ?_
      refine Ex_iret dX9_sheet_28 (by first | rfl | exact narrow_bI) ?_
      exact ⟨_, rfl, (by unfold r_sheet; rw [if_neg (fun q => h13 q.2.1)]), (by unfold i_sheet; rw [if_neg (fun q => h13 q.2.1)]), rfl⟩
    · refine Ex_iload_n dX9_sheet_16 rfl ?_
      refine Ex_if_lt (tgt := 29) dX9_sheet_17 (by decide) (fun h17 => ?_) (fun h17 => ?_)
      · refine Ex_iload_n dX9_sheet_29 rfl ?_
        refine Ex_if_lt (tgt := 40) dX9_sheet_30 (by decide) (fun h30 => ?_) (fun h30 => ?_)
        · obtain ⟨s', hs', e4⟩ := (rng_k (by omega)).mp h4
          have hcl : cl (nI s') = s' := cl_nI (by omega)
          subst e4
          refine Ex_aload_n dX9_sheet_40 rfl ?_
          refine Ex_getr dX9_sheet_41 fX9_64 hM.1 (mF29 hM).1 ?_
          refine Ex_iload_n dX9_sheet_44 rfl ?_
          refine Ex_iload_n dX9_sheet_45 rfl ?_
          refine Ex_iast dX9_sheet_46 (mF29 hM).2.1 rfl (by rw [(mF29 hM).2.2]; omega) (by rw [(mF29 hM).2.2]; decide) ?_
          refine Ex_aload_n dX9_sheet_47 rfl ?_
          refine Ex_getr dX9_sheet_48 fX9_67 hM.1 (mF30 hM).1 ?_
          refine Ex_iload_n dX9_sheet_51 rfl ?_
          refine Ex_iload_n dX9_sheet_52 rfl ?_
          refine Ex_if_ge (tgt := 60) dX9_sheet_53 (by decide) (fun h53 => ?_) (fun h53 => ?_)
          · exact absurd h53 (Int32.not_le.mpr h17)
          · refine Ex_iconst (v := nI 0) dX9_sheet_56 (by rfl) ?_
            refine Ex_goto (tgt := 61) dX9_sheet_57 (by decide) ?_
            refine Ex_iast dX9_sheet_61 (mF30 hM).2.1 rfl (by rw [(mF30 hM).2.2]; omega) (by rw [(mF30 hM).2.2]; decide) ?_
            refine Ex_iconst (v := nI 0) dX9_sheet_62 (by rfl) ?_
            refine Ex_istore dX9_sheet_63 (by decide) rfl ?_
            simp only [List.set_cons_zero, List.set_cons_succ]
            rw [setI_row, setI_row, rowI_n (show M + 19 ≠ M + 18 by omega)]
            refine Ex_eqI (show _ = rowI (rowI (rowI I (M + 18) (upd (I (M + 18)) s' sort)) (M + 19) (upd (I (M + 19)) s' (nI 0))) (M + 20) (zc (I (M + 20)) s' 0) by rw [zc_0]; exact (rowI_0 (by rw [rowI_n (by omega), rowI_n (by omega)])).symm) ?_
            refine l9_sheet (d + 2) hM s' hs' sort n (I (M + 20)) ?_ 24 0 (by omega)
            refine Ex_iload dX9_sheet_65 rfl ?_
            refine Ex_bipush (v := nI 24) dX9_sheet_67 (by rfl) ?_
            refine Ex_icmp_geN (by omega) (by omega) (tgt := 91) dX9_sheet_69 (by decide) (fun h69 => ?_) (fun h69 => ?_)
            · refine Ex_aload_n dX9_sheet_91 rfl ?_
              refine Ex_getr dX9_sheet_92 fX9_67 hM.1 (mF30 hM).1 ?_
              refine Ex_iload_n dX9_sheet_95 rfl ?_
              refine Ex_iald dX9_sheet_96 (mF30 hM).2.1 rfl (by rw [(mF30 hM).2.2]; omega) (by rw [(mF30 hM).2.2]; decide) ?_
              refine Ex_top (show _ = nI 0 by rw [rowI_n (by omega), rowI_s, upd_s]) ?_
              refine Ex_iret dX9_sheet_97 (by first | rfl | exact narrow_bI) ?_
              exact ⟨_, rfl, (by unfold r_sheet; rw [if_pos ⟨h4, h13, (fun q => absurd q.1 (Int32.not_le.mpr h17))⟩, if_neg (fun q => absurd q.1 (Int32.not_le.mpr h17)), if_pos h17]), (by unfold i_sheet; rw [if_pos ⟨h4, h13, (fun q => absurd q.1 (Int32.not_le.mpr h17)), (fun q => absurd q.1 (Int32.not_le.mpr h17))⟩, hcl, if_pos h17]), rfl⟩
            · omega
        · exact absurd h17 h30
      · refine Ex_iload_n dX9_sheet_20 rfl ?_
        refine Ex_bipush (v := nI 24) dX9_sheet_21 (by rfl) ?_
        refine Ex_icmp_le (tgt := 29) dX9_sheet_23 (by decide) (fun h23 => ?_) (fun h23 => ?_)
        · refine Ex_iload_n dX9_sheet_29 rfl ?_
          refine Ex_if_lt (tgt := 40) dX9_sheet_30 (by decide) (fun h30 => ?_) (fun h30 => ?_)
          · exact absurd h30 h17
          · refine Ex_iload_n dX9_sheet_33 rfl ?_
            refine Ex_if_ge (tgt := 40) dX9_sheet_34 (by decide) (fun h34 => ?_) (fun h34 => ?_)
            · obtain ⟨s', hs', e4⟩ := (rng_k (by omega)).mp h4
              have hcl : cl (nI s') = s' := cl_nI (by omega)
              subst e4
              refine Ex_aload_n dX9_sheet_40 rfl ?_
              refine Ex_getr dX9_sheet_41 fX9_64 hM.1 (mF29 hM).1 ?_
              refine Ex_iload_n dX9_sheet_44 rfl ?_
              refine Ex_iload_n dX9_sheet_45 rfl ?_
              refine Ex_iast dX9_sheet_46 (mF29 hM).2.1 rfl (by rw [(mF29 hM).2.2]; omega) (by rw [(mF29 hM).2.2]; decide) ?_
              refine Ex_aload_n dX9_sheet_47 rfl ?_
              refine Ex_getr dX9_sheet_48 fX9_67 hM.1 (mF30 hM).1 ?_
              refine Ex_iload_n dX9_sheet_51 rfl ?_
              refine Ex_iload_n dX9_sheet_52 rfl ?_
              refine Ex_if_ge (tgt := 60) dX9_sheet_53 (by decide) (fun h53 => ?_) (fun h53 => ?_)
              · refine Ex_iload_n dX9_sheet_60 rfl ?_
                refine Ex_iast dX9_sheet_61 (mF30 hM).2.1 rfl (by rw [(mF30 hM).2.2]; omega) (by rw [(mF30 hM).2.2]; decide) ?_
                refine Ex_iconst (v := nI 0) dX9_sheet_62 (by rfl) ?_
                refine Ex_istore dX9_sheet_63 (by decide) rfl ?_
                simp only [List.set_cons_zero, List.set_cons_succ]
                rw [setI_row, setI_row, rowI_n (show M + 19 ≠ M + 18 by omega)]
                refine Ex_eqI (show _ = rowI (rowI (rowI I (M + 18) (upd (I (M + 18)) s' sort)) (M + 19) (upd (I (M + 19)) s' (n))) (M + 20) (zc (I (M + 20)) s' 0) by rw [zc_0]; exact (rowI_0 (by rw [rowI_n (by omega), rowI_n (by omega)])).symm) ?_
                refine l9_sheet (d + 2) hM s' hs' sort n (I (M + 20)) ?_ 24 0 (by omega)
                refine Ex_iload dX9_sheet_65 rfl ?_
                refine Ex_bipush (v := nI 24) dX9_sheet_67 (by rfl) ?_
                refine Ex_icmp_geN (by omega) (by omega) (tgt := 91) dX9_sheet_69 (by decide) (fun h69 => ?_) (fun h69 => ?_)
                · refine Ex_aload_n dX9_sheet_91 rfl ?_
                  refine Ex_getr dX9_sheet_92 fX9_67 hM.1 (mF30 hM).1 ?_
                  refine Ex_iload_n dX9_sheet_95 rfl ?_
                  refine Ex_iald dX9_sheet_96 (mF30 hM).2.1 rfl (by rw [(mF30 hM).2.2]; omega) (by rw [(mF30 hM).2.2]; decide) ?_
                  refine Ex_top (show _ = n by rw [rowI_n (by omega), rowI_s, upd_s]) ?_
                  refine Ex_iret dX9_sheet_97 (by first | rfl | exact narrow_bI) ?_
                  exact ⟨_, rfl, (by unfold r_sheet; rw [if_pos ⟨h4, h13, (fun q => absurd q.2 (Int32.not_lt.mpr h23))⟩, if_neg (fun q => absurd q.2 (Int32.not_lt.mpr h34)), if_neg h17]), (by unfold i_sheet; rw [if_pos ⟨h4, h13, (fun q => absurd q.2 (Int32.not_lt.mpr h23)), (fun q => absurd q.2 (Int32.not_lt.mpr h34))⟩, hcl, if_neg h17]), rfl⟩
                · omega
              · exact absurd (Int32.not_lt.mp h17) h53
            · refine Ex_ldc dX9_sheet_37 kX9_186 ?_
              refine Ex_iret dX9_sheet_39 (by first | rfl | exact narrow_bI) ?_
              exact ⟨_, rfl, (by unfold r_sheet; rw [if_pos ⟨h4, h13, fun q => absurd q.2 (Int32.not_lt.mpr h23)⟩, if_pos ⟨Int32.not_lt.mp h17, Int32.not_le.mp h34⟩]), (by unfold i_sheet; rw [if_neg (fun q => q.2.2.2 ⟨Int32.not_lt.mp h17, Int32.not_le.mp h34⟩)]), rfl⟩
        · refine Ex_ldc dX9_sheet_26 kX9_99 ?_
          refine Ex_iret dX9_sheet_28 (by first | rfl | exact narrow_bI) ?_
          exact ⟨_, rfl, (by unfold r_sheet; rw [if_neg (fun q => q.2.2 ⟨Int32.not_lt.mp h17, Int32.not_le.mp h23⟩)]), (by unfold i_sheet; rw [if_neg (fun q => q.2.2.1 ⟨Int32.not_lt.mp h17, Int32.not_le.mp h23⟩)]), rfl⟩
abbrev flP (v : Int32) : Prop := (-99999) ≤ v ∧ v ≤ 99999
def r_mark (so : Nat → Int32) (sz : Nat → Nat) (s p v : Int32) : Int32 := if inR s 4 then (if so (cl s) < 0 then cNOTHING else if inR p (sz (cl s)) then (if so (cl s) = 0 ∧ v = cNONE then cKIND else if so (cl s) = nI 1 ∧ v ≠ cNONE ∧ ¬ flP v then cBAD else nI 1) else cINDEX) else cBAD
abbrev mrP (so : Nat → Int32) (sz : Nat → Nat) (s p v : Int32) : Prop := inR s 4 ∧ ¬ so (cl s) < 0 ∧ inR p (sz (cl s)) ∧ ¬ (so (cl s) = 0 ∧ v = cNONE) ∧ ¬ (so (cl s) = nI 1 ∧ v ≠ cNONE ∧ ¬ flP v)
def i_mark (I : MI) (M : Nat) (sz : Nat → Nat) (s p v : Int32) : MI := if mrP (I (M + 18)) sz s p v then rowI I (M + 20) (upd (I (M + 20)) (24 * cl s + cl p) (if I (M + 18) (cl s) = 0 then v.toInt16.toInt32 else v)) else I
set_option maxRecDepth 100000 in
set_option maxHeartbeats 4000000 in
theorem C9_mark {T : TC} {I : MI} {G : MG} (d : Nat) {M : Nat} (hM : MSh T G M) (sz : Nat → Nat) (hz : SzR I M sz) (s p v : Int32)  : OkI T mX9_mark (d + 2) [.ref M, .int s, .int p, .int v] I G (fun r I' G' => r = r_mark (I (M + 18)) sz s p v ∧ I' = i_mark I M sz s p v ∧ G' = G) := by
  refine Ok_of (own := RX9) (by decide) rfl (cat1 rfl) (Nat.le_of_ble_eq_true rfl) ?_
  show Ex T RX9 cX9_mark 4 (d + 2) _ 0 [some (.ref M), some (.int s), some (.int p), some (.int v)] [] I G (0, 0)
  refine Ex_iload_n dX9_mark_0 rfl ?_
  refine Ex_S1p dX9_mark_1 sX9_179  (Nat.le_of_ble_eq_true rfl) (c9_isSheet d _) ?_
  refine Ex_if_neB (tgt := 10) dX9_mark_4 (by decide) (fun h4 => ?_) (fun h4 => ?_)
  · obtain ⟨s', hs', e4⟩ := (rng_k (by omega)).mp h4
    have hcl : cl (nI s') = s' := cl_nI (by omega)
    subst e4
    refine Ex_aload_n dX9_mark_10 rfl ?_
    refine Ex_getr dX9_mark_11 fX9_64 hM.1 (mF29 hM).1 ?_
    refine Ex_iload_n dX9_mark_14 rfl ?_
    refine Ex_iald dX9_mark_15 (mF29 hM).2.1 rfl (by rw [(mF29 hM).2.2]; omega) (by rw [(mF29 hM).2.2]; decide) ?_
    refine Ex_if_ge (tgt := 22) dX9_mark_16 (by decide) (fun h16 => ?_) (fun h16 => ?_)
    · obtain ⟨hz1, hz2⟩ := hz s' hs'
      refine Ex_iload_n dX9_mark_22 rfl ?_
      refine Ex_iconst (v := nI 0) dX9_mark_23 (by rfl) ?_
      refine Ex_aload_n dX9_mark_24 rfl ?_
      refine Ex_getr dX9_mark_25 fX9_67 hM.1 (mF30 hM).1 ?_
      refine Ex_iload_n dX9_mark_28 rfl ?_
      refine Ex_iald dX9_mark_29 (mF30 hM).2.1 rfl (by rw [(mF30 hM).2.2]; omega) (by rw [(mF30 hM).2.2]; decide) ?_
      refine Ex_top hz1 ?_
      refine Ex_iconst (v := nI 1) dX9_mark_30 (by rfl) ?_
      refine Ex_isub dX9_mark_31 ?_
      refine Ex_S3p dX9_mark_32 sX9_91  (Nat.le_of_ble_eq_true rfl) ((c9_in (d + 1) _ _ _).of (bI_congr (isS_iff2 (by omega)))) ?_
      refine Ex_if_neB (tgt := 42) dX9_mark_35 (by decide) (fun h35 => ?_) (fun h35 => ?_)
      · refine Ex_aload_n dX9_mark_42 rfl ?_
        refine Ex_getr dX9_mark_43 fX9_64 hM.1 (mF29 hM).1 ?_
        refine Ex_iload_n dX9_mark_46 rfl ?_
        refine Ex_iald dX9_mark_47 (mF29 hM).2.1 rfl (by rw [(mF29 hM).2.2]; omega) (by rw [(mF29 hM).2.2]; decide) ?_
        refine Ex_if_ne (tgt := 60) dX9_mark_48 (by decide) (fun h48 => ?_) (fun h48 => ?_)
        · refine Ex_aload_n dX9_mark_60 rfl ?_
          refine Ex_getr dX9_mark_61 fX9_64 hM.1 (mF29 hM).1 ?_
          refine Ex_iload_n dX9_mark_64 rfl ?_
          refine Ex_iald dX9_mark_65 (mF29 hM).2.1 rfl (by rw [(mF29 hM).2.2]; omega) (by rw [(mF29 hM).2.2]; decide) ?_
          refine Ex_iconst (v := nI 1) dX9_mark_66 (by rfl) ?_
          refine Ex_icmp_ne (tgt := 92) dX9_mark_67 (by decide) (fun h67 => ?_) (fun h67 => ?_)
          · obtain ⟨p', hp', e35⟩ := (rng_k (by omega)).mp h35
            have hcp : cl (nI p') = p' := cl_nI (by omega)
            subst e35
            refine Ex_aload_n dX9_mark_92 rfl ?_
            refine Ex_getr dX9_mark_93 fX9_70 hM.1 (mF31 hM).1 ?_
            refine Ex_bipush (v := nI 24) dX9_mark_96 (by rfl) ?_
            refine Ex_iload_n dX9_mark_98 rfl ?_
            first | with_reducible refine Ex_imulN dX9_mark_99 ?_ | refine Ex_imul dX9_mark_99 ?_
            refine Ex_iload_n dX9_mark_100 rfl ?_
            first | with_reducible refine Ex_iaddN dX9_mark_101 ?_ | refine Ex_iadd dX9_mark_101 ?_
            refine Ex_aload_n dX9_mark_102 rfl ?_
            refine Ex_getr dX9_mark_103 fX9_64 hM.1 (mF29 hM).1 ?_
            refine Ex_iload_n dX9_mark_106 rfl ?_
            refine Ex_iald dX9_mark_107 (mF29 hM).2.1 rfl (by rw [(mF29 hM).2.2]; omega) (by rw [(mF29 hM).2.2]; decide) ?_
            refine Ex_if_ne (tgt := 116) dX9_mark_108 (by decide) (fun h108 => ?_) (fun h108 => ?_)
            · refine Ex_iload_n dX9_mark_116 rfl ?_
              refine Ex_iast dX9_mark_117 (mF31 hM).2.1 rfl (by rw [(mF31 hM).2.2]; omega) (by rw [(mF31 hM).2.2]; decide) ?_
              refine Ex_iconst (v := nI 1) dX9_mark_118 (by rfl) ?_
              refine Ex_iret dX9_mark_119 (by first | rfl | exact narrow_bI) ?_
              exact ⟨_, rfl, (by unfold r_mark; rw [if_pos h4, hcl, if_neg (Int32.not_lt.mpr h16), if_pos h35, if_neg (fun q => h48 q.1), if_neg (fun q => h67 q.1)]), (by unfold i_mark; rw [if_pos (show mrP (I (M + 18)) sz (nI s') (nI p') v by unfold mrP; rw [hcl]; exact ⟨h4, Int32.not_lt.mpr h16, h35, (fun q => h48 q.1), (fun q => h67 q.1)⟩), hcl, hcp, if_neg h108, setI_row]), rfl⟩
            · refine Ex_iload_n dX9_mark_111 rfl ?_
              refine Ex_i2s dX9_mark_112 ?_
              refine Ex_goto (tgt := 117) dX9_mark_113 (by decide) ?_
              refine Ex_iast dX9_mark_117 (mF31 hM).2.1 rfl (by rw [(mF31 hM).2.2]; omega) (by rw [(mF31 hM).2.2]; decide) ?_
              refine Ex_iconst (v := nI 1) dX9_mark_118 (by rfl) ?_
              refine Ex_iret dX9_mark_119 (by first | rfl | exact narrow_bI) ?_
              exact ⟨_, rfl, (by unfold r_mark; rw [if_pos h4, hcl, if_neg (Int32.not_lt.mpr h16), if_pos h35, if_neg (fun q => h48 q.1), if_neg (fun q => h67 q.1)]), (by unfold i_mark; rw [if_pos (show mrP (I (M + 18)) sz (nI s') (nI p') v by unfold mrP; rw [hcl]; exact ⟨h4, Int32.not_lt.mpr h16, h35, (fun q => h48 q.1), (fun q => h67 q.1)⟩), hcl, hcp, if_pos h108, setI_row]), rfl⟩
          · refine Ex_iload_n dX9_mark_70 rfl ?_
            refine Ex_ldc dX9_mark_71 kX9_133 ?_
            refine Ex_icmp_eq (tgt := 92) dX9_mark_73 (by decide) (fun h73 => ?_) (fun h73 => ?_)
            · obtain ⟨p', hp', e35⟩ := (rng_k (by omega)).mp h35
              have hcp : cl (nI p') = p' := cl_nI (by omega)
              subst e35
              refine Ex_aload_n dX9_mark_92 rfl ?_
              refine Ex_getr dX9_mark_93 fX9_70 hM.1 (mF31 hM).1 ?_
              refine Ex_bipush (v := nI 24) dX9_mark_96 (by rfl) ?_
              refine Ex_iload_n dX9_mark_98 rfl ?_
              first | with_reducible refine Ex_imulN dX9_mark_99 ?_ | refine Ex_imul dX9_mark_99 ?_
              refine Ex_iload_n dX9_mark_100 rfl ?_
              first | with_reducible refine Ex_iaddN dX9_mark_101 ?_ | refine Ex_iadd dX9_mark_101 ?_
              refine Ex_aload_n dX9_mark_102 rfl ?_
              refine Ex_getr dX9_mark_103 fX9_64 hM.1 (mF29 hM).1 ?_
              refine Ex_iload_n dX9_mark_106 rfl ?_
              refine Ex_iald dX9_mark_107 (mF29 hM).2.1 rfl (by rw [(mF29 hM).2.2]; omega) (by rw [(mF29 hM).2.2]; decide) ?_
              refine Ex_if_ne (tgt := 116) dX9_mark_108 (by decide) (fun h108 => ?_) (fun h108 => ?_)
              · refine Ex_iload_n dX9_mark_116 rfl ?_
                refine Ex_iast dX9_mark_117 (mF31 hM).2.1 rfl (by rw [(mF31 hM).2.2]; omega) (by rw [(mF31 hM).2.2]; decide) ?_
                refine Ex_iconst (v := nI 1) dX9_mark_118 (by rfl) ?_
                refine Ex_iret dX9_mark_119 (by first | rfl | exact narrow_bI) ?_
                exact ⟨_, rfl, (by unfold r_mark; rw [if_pos h4, hcl, if_neg (Int32.not_lt.mpr h16), if_pos h35, if_neg (fun q => h48 q.1), if_neg (fun q => q.2.1 h73)]), (by unfold i_mark; rw [if_pos (show mrP (I (M + 18)) sz (nI s') (nI p') v by unfold mrP; rw [hcl]; exact ⟨h4, Int32.not_lt.mpr h16, h35, (fun q => h48 q.1), (fun q => q.2.1 h73)⟩), hcl, hcp, if_neg h108, setI_row]), rfl⟩
              · refine Ex_iload_n dX9_mark_111 rfl ?_
                refine Ex_i2s dX9_mark_112 ?_
                refine Ex_goto (tgt := 117) dX9_mark_113 (by decide) ?_
                refine Ex_iast dX9_mark_117 (mF31 hM).2.1 rfl (by rw [(mF31 hM).2.2]; omega) (by rw [(mF31 hM).2.2]; decide) ?_
                refine Ex_iconst (v := nI 1) dX9_mark_118 (by rfl) ?_
                refine Ex_iret dX9_mark_119 (by first | rfl | exact narrow_bI) ?_
                exact ⟨_, rfl, (by unfold r_mark; rw [if_pos h4, hcl, if_neg (Int32.not_lt.mpr h16), if_pos h35, if_neg (fun q => h48 q.1), if_neg (fun q => q.2.1 h73)]), (by unfold i_mark; rw [if_pos (show mrP (I (M + 18)) sz (nI s') (nI p') v by unfold mrP; rw [hcl]; exact ⟨h4, Int32.not_lt.mpr h16, h35, (fun q => h48 q.1), (fun q => q.2.1 h73)⟩), hcl, hcp, if_pos h108, setI_row]), rfl⟩
            · refine Ex_iload_n dX9_mark_76 rfl ?_
              refine Ex_ldc_w dX9_mark_77 kX9_279 ?_
              refine Ex_ldc_w dX9_mark_80 kX9_280 ?_
              refine Ex_S3p dX9_mark_83 sX9_91  (Nat.le_of_ble_eq_true rfl) (c9_in (d + 1) _ _ _) ?_
              refine Ex_if_neB (tgt := 92) dX9_mark_86 (by decide) (fun h86 => ?_) (fun h86 => ?_)
              · obtain ⟨p', hp', e35⟩ := (rng_k (by omega)).mp h35
                have hcp : cl (nI p') = p' := cl_nI (by omega)
                subst e35
                refine Ex_aload_n dX9_mark_92 rfl ?_
                refine Ex_getr dX9_mark_93 fX9_70 hM.1 (mF31 hM).1 ?_
                refine Ex_bipush (v := nI 24) dX9_mark_96 (by rfl) ?_
                refine Ex_iload_n dX9_mark_98 rfl ?_
                first | with_reducible refine Ex_imulN dX9_mark_99 ?_ | refine Ex_imul dX9_mark_99 ?_
                refine Ex_iload_n dX9_mark_100 rfl ?_
                first | with_reducible refine Ex_iaddN dX9_mark_101 ?_ | refine Ex_iadd dX9_mark_101 ?_
                refine Ex_aload_n dX9_mark_102 rfl ?_
                refine Ex_getr dX9_mark_103 fX9_64 hM.1 (mF29 hM).1 ?_
                refine Ex_iload_n dX9_mark_106 rfl ?_
                refine Ex_iald dX9_mark_107 (mF29 hM).2.1 rfl (by rw [(mF29 hM).2.2]; omega) (by rw [(mF29 hM).2.2]; decide) ?_
                refine Ex_if_ne (tgt := 116) dX9_mark_108 (by decide) (fun h108 => ?_) (fun h108 => ?_)
                · refine Ex_iload_n dX9_mark_116 rfl ?_
                  refine Ex_iast dX9_mark_117 (mF31 hM).2.1 rfl (by rw [(mF31 hM).2.2]; omega) (by rw [(mF31 hM).2.2]; decide) ?_
                  refine Ex_iconst (v := nI 1) dX9_mark_118 (by rfl) ?_
                  refine Ex_iret dX9_mark_119 (by first | rfl | exact narrow_bI) ?_
                  exact ⟨_, rfl, (by unfold r_mark; rw [if_pos h4, hcl, if_neg (Int32.not_lt.mpr h16), if_pos h35, if_neg (fun q => h48 q.1), if_neg (fun q => q.2.2 h86)]), (by unfold i_mark; rw [if_pos (show mrP (I (M + 18)) sz (nI s') (nI p') v by unfold mrP; rw [hcl]; exact ⟨h4, Int32.not_lt.mpr h16, h35, (fun q => h48 q.1), (fun q => q.2.2 h86)⟩), hcl, hcp, if_neg h108, setI_row]), rfl⟩
                · refine Ex_iload_n dX9_mark_111 rfl ?_
                  refine Ex_i2s dX9_mark_112 ?_
                  refine Ex_goto (tgt := 117) dX9_mark_113 (by decide) ?_
                  refine Ex_iast dX9_mark_117 (mF31 hM).2.1 rfl (by rw [(mF31 hM).2.2]; omega) (by rw [(mF31 hM).2.2]; decide) ?_
                  refine Ex_iconst (v := nI 1) dX9_mark_118 (by rfl) ?_
                  refine Ex_iret dX9_mark_119 (by first | rfl | exact narrow_bI) ?_
                  exact ⟨_, rfl, (by unfold r_mark; rw [if_pos h4, hcl, if_neg (Int32.not_lt.mpr h16), if_pos h35, if_neg (fun q => h48 q.1), if_neg (fun q => q.2.2 h86)]), (by unfold i_mark; rw [if_pos (show mrP (I (M + 18)) sz (nI s') (nI p') v by unfold mrP; rw [hcl]; exact ⟨h4, Int32.not_lt.mpr h16, h35, (fun q => h48 q.1), (fun q => q.2.2 h86)⟩), hcl, hcp, if_pos h108, setI_row]), rfl⟩
              · refine Ex_ldc dX9_mark_89 kX9_99 ?_
                refine Ex_iret dX9_mark_91 (by first | rfl | exact narrow_bI) ?_
                exact ⟨_, rfl, (by unfold r_mark; rw [if_pos h4, hcl, if_neg (Int32.not_lt.mpr h16), if_pos h35, if_neg (fun q => h48 q.1), if_pos ⟨h67, h73, h86⟩]), (by unfold i_mark; rw [if_neg (fun q => q.2.2.2.2 (by rw [hcl]; exact ⟨h67, h73, h86⟩))]), rfl⟩
        · refine Ex_iload_n dX9_mark_51 rfl ?_
          refine Ex_ldc dX9_mark_52 kX9_133 ?_
          refine Ex_icmp_ne (tgt := 60) dX9_mark_54 (by decide) (fun h54 => ?_) (fun h54 => ?_)
          · refine Ex_aload_n dX9_mark_60 rfl ?_
            refine Ex_getr dX9_mark_61 fX9_64 hM.1 (mF29 hM).1 ?_
            refine Ex_iload_n dX9_mark_64 rfl ?_
            refine Ex_iald dX9_mark_65 (mF29 hM).2.1 rfl (by rw [(mF29 hM).2.2]; omega) (by rw [(mF29 hM).2.2]; decide) ?_
            refine Ex_iconst (v := nI 1) dX9_mark_66 (by rfl) ?_
            refine Ex_icmp_ne (tgt := 92) dX9_mark_67 (by decide) (fun h67 => ?_) (fun h67 => ?_)
            · obtain ⟨p', hp', e35⟩ := (rng_k (by omega)).mp h35
              have hcp : cl (nI p') = p' := cl_nI (by omega)
              subst e35
              refine Ex_aload_n dX9_mark_92 rfl ?_
              refine Ex_getr dX9_mark_93 fX9_70 hM.1 (mF31 hM).1 ?_
              refine Ex_bipush (v := nI 24) dX9_mark_96 (by rfl) ?_
              refine Ex_iload_n dX9_mark_98 rfl ?_
              first | with_reducible refine Ex_imulN dX9_mark_99 ?_ | refine Ex_imul dX9_mark_99 ?_
              refine Ex_iload_n dX9_mark_100 rfl ?_
              first | with_reducible refine Ex_iaddN dX9_mark_101 ?_ | refine Ex_iadd dX9_mark_101 ?_
              refine Ex_aload_n dX9_mark_102 rfl ?_
              refine Ex_getr dX9_mark_103 fX9_64 hM.1 (mF29 hM).1 ?_
              refine Ex_iload_n dX9_mark_106 rfl ?_
              refine Ex_iald dX9_mark_107 (mF29 hM).2.1 rfl (by rw [(mF29 hM).2.2]; omega) (by rw [(mF29 hM).2.2]; decide) ?_
              refine Ex_if_ne (tgt := 116) dX9_mark_108 (by decide) (fun h108 => ?_) (fun h108 => ?_)
              · refine Ex_iload_n dX9_mark_116 rfl ?_
                refine Ex_iast dX9_mark_117 (mF31 hM).2.1 rfl (by rw [(mF31 hM).2.2]; omega) (by rw [(mF31 hM).2.2]; decide) ?_
                refine Ex_iconst (v := nI 1) dX9_mark_118 (by rfl) ?_
                refine Ex_iret dX9_mark_119 (by first | rfl | exact narrow_bI) ?_
                exact ⟨_, rfl, (by unfold r_mark; rw [if_pos h4, hcl, if_neg (Int32.not_lt.mpr h16), if_pos h35, if_neg (fun q => h54 q.2), if_neg (fun q => h67 q.1)]), (by unfold i_mark; rw [if_pos (show mrP (I (M + 18)) sz (nI s') (nI p') v by unfold mrP; rw [hcl]; exact ⟨h4, Int32.not_lt.mpr h16, h35, (fun q => h54 q.2), (fun q => h67 q.1)⟩), hcl, hcp, if_neg h108, setI_row]), rfl⟩
              · refine Ex_iload_n dX9_mark_111 rfl ?_
                refine Ex_i2s dX9_mark_112 ?_
                refine Ex_goto (tgt := 117) dX9_mark_113 (by decide) ?_
                refine Ex_iast dX9_mark_117 (mF31 hM).2.1 rfl (by rw [(mF31 hM).2.2]; omega) (by rw [(mF31 hM).2.2]; decide) ?_
                refine Ex_iconst (v := nI 1) dX9_mark_118 (by rfl) ?_
                refine Ex_iret dX9_mark_119 (by first | rfl | exact narrow_bI) ?_
                exact ⟨_, rfl, (by unfold r_mark; rw [if_pos h4, hcl, if_neg (Int32.not_lt.mpr h16), if_pos h35, if_neg (fun q => h54 q.2), if_neg (fun q => h67 q.1)]), (by unfold i_mark; rw [if_pos (show mrP (I (M + 18)) sz (nI s') (nI p') v by unfold mrP; rw [hcl]; exact ⟨h4, Int32.not_lt.mpr h16, h35, (fun q => h54 q.2), (fun q => h67 q.1)⟩), hcl, hcp, if_pos h108, setI_row]), rfl⟩
            · refine Ex_iload_n dX9_mark_70 rfl ?_
              refine Ex_ldc dX9_mark_71 kX9_133 ?_
              refine Ex_icmp_eq (tgt := 92) dX9_mark_73 (by decide) (fun h73 => ?_) (fun h73 => ?_)
              · obtain ⟨p', hp', e35⟩ := (rng_k (by omega)).mp h35
                have hcp : cl (nI p') = p' := cl_nI (by omega)
                subst e35
                refine Ex_aload_n dX9_mark_92 rfl ?_
                refine Ex_getr dX9_mark_93 fX9_70 hM.1 (mF31 hM).1 ?_
                refine Ex_bipush (v := nI 24) dX9_mark_96 (by rfl) ?_
                refine Ex_iload_n dX9_mark_98 rfl ?_
                first | with_reducible refine Ex_imulN dX9_mark_99 ?_ | refine Ex_imul dX9_mark_99 ?_
                refine Ex_iload_n dX9_mark_100 rfl ?_
                first | with_reducible refine Ex_iaddN dX9_mark_101 ?_ | refine Ex_iadd dX9_mark_101 ?_
                refine Ex_aload_n dX9_mark_102 rfl ?_
                refine Ex_getr dX9_mark_103 fX9_64 hM.1 (mF29 hM).1 ?_
                refine Ex_iload_n dX9_mark_106 rfl ?_
                refine Ex_iald dX9_mark_107 (mF29 hM).2.1 rfl (by rw [(mF29 hM).2.2]; omega) (by rw [(mF29 hM).2.2]; decide) ?_
                refine Ex_if_ne (tgt := 116) dX9_mark_108 (by decide) (fun h108 => ?_) (fun h108 => ?_)
                · refine Ex_iload_n dX9_mark_116 rfl ?_
                  refine Ex_iast dX9_mark_117 (mF31 hM).2.1 rfl (by rw [(mF31 hM).2.2]; omega) (by rw [(mF31 hM).2.2]; decide) ?_
                  refine Ex_iconst (v := nI 1) dX9_mark_118 (by rfl) ?_
                  refine Ex_iret dX9_mark_119 (by first | rfl | exact narrow_bI) ?_
                  exact ⟨_, rfl, (by unfold r_mark; rw [if_pos h4, hcl, if_neg (Int32.not_lt.mpr h16), if_pos h35, if_neg (fun q => h54 q.2), if_neg (fun q => q.2.1 h73)]), (by unfold i_mark; rw [if_pos (show mrP (I (M + 18)) sz (nI s') (nI p') v by unfold mrP; rw [hcl]; exact ⟨h4, Int32.not_lt.mpr h16, h35, (fun q => h54 q.2), (fun q => q.2.1 h73)⟩), hcl, hcp, if_neg h108, setI_row]), rfl⟩
                · refine Ex_iload_n dX9_mark_111 rfl ?_
                  refine Ex_i2s dX9_mark_112 ?_
                  refine Ex_goto (tgt := 117) dX9_mark_113 (by decide) ?_
                  refine Ex_iast dX9_mark_117 (mF31 hM).2.1 rfl (by rw [(mF31 hM).2.2]; omega) (by rw [(mF31 hM).2.2]; decide) ?_
                  refine Ex_iconst (v := nI 1) dX9_mark_118 (by rfl) ?_
                  refine Ex_iret dX9_mark_119 (by first | rfl | exact narrow_bI) ?_
                  exact ⟨_, rfl, (by unfold r_mark; rw [if_pos h4, hcl, if_neg (Int32.not_lt.mpr h16), if_pos h35, if_neg (fun q => h54 q.2), if_neg (fun q => q.2.1 h73)]), (by unfold i_mark; rw [if_pos (show mrP (I (M + 18)) sz (nI s') (nI p') v by unfold mrP; rw [hcl]; exact ⟨h4, Int32.not_lt.mpr h16, h35, (fun q => h54 q.2), (fun q => q.2.1 h73)⟩), hcl, hcp, if_pos h108, setI_row]), rfl⟩
              · refine Ex_iload_n dX9_mark_76 rfl ?_
                refine Ex_ldc_w dX9_mark_77 kX9_279 ?_
                refine Ex_ldc_w dX9_mark_80 kX9_280 ?_
                refine Ex_S3p dX9_mark_83 sX9_91  (Nat.le_of_ble_eq_true rfl) (c9_in (d + 1) _ _ _) ?_
                refine Ex_if_neB (tgt := 92) dX9_mark_86 (by decide) (fun h86 => ?_) (fun h86 => ?_)
                · obtain ⟨p', hp', e35⟩ := (rng_k (by omega)).mp h35
                  have hcp : cl (nI p') = p' := cl_nI (by omega)
                  subst e35
                  refine Ex_aload_n dX9_mark_92 rfl ?_
                  refine Ex_getr dX9_mark_93 fX9_70 hM.1 (mF31 hM).1 ?_
                  refine Ex_bipush (v := nI 24) dX9_mark_96 (by rfl) ?_
                  refine Ex_iload_n dX9_mark_98 rfl ?_
                  first | with_reducible refine Ex_imulN dX9_mark_99 ?_ | refine Ex_imul dX9_mark_99 ?_
                  refine Ex_iload_n dX9_mark_100 rfl ?_
                  first | with_reducible refine Ex_iaddN dX9_mark_101 ?_ | refine Ex_iadd dX9_mark_101 ?_
                  refine Ex_aload_n dX9_mark_102 rfl ?_
                  refine Ex_getr dX9_mark_103 fX9_64 hM.1 (mF29 hM).1 ?_
                  refine Ex_iload_n dX9_mark_106 rfl ?_
                  refine Ex_iald dX9_mark_107 (mF29 hM).2.1 rfl (by rw [(mF29 hM).2.2]; omega) (by rw [(mF29 hM).2.2]; decide) ?_
                  refine Ex_if_ne (tgt := 116) dX9_mark_108 (by decide) (fun h108 => ?_) (fun h108 => ?_)
                  · refine Ex_iload_n dX9_mark_116 rfl ?_
                    refine Ex_iast dX9_mark_117 (mF31 hM).2.1 rfl (by rw [(mF31 hM).2.2]; omega) (by rw [(mF31 hM).2.2]; decide) ?_
                    refine Ex_iconst (v := nI 1) dX9_mark_118 (by rfl) ?_
                    refine Ex_iret dX9_mark_119 (by first | rfl | exact narrow_bI) ?_
                    exact ⟨_, rfl, (by unfold r_mark; rw [if_pos h4, hcl, if_neg (Int32.not_lt.mpr h16), if_pos h35, if_neg (fun q => h54 q.2), if_neg (fun q => q.2.2 h86)]), (by unfold i_mark; rw [if_pos (show mrP (I (M + 18)) sz (nI s') (nI p') v by unfold mrP; rw [hcl]; exact ⟨h4, Int32.not_lt.mpr h16, h35, (fun q => h54 q.2), (fun q => q.2.2 h86)⟩), hcl, hcp, if_neg h108, setI_row]), rfl⟩
                  · refine Ex_iload_n dX9_mark_111 rfl ?_
                    refine Ex_i2s dX9_mark_112 ?_
                    refine Ex_goto (tgt := 117) dX9_mark_113 (by decide) ?_
                    refine Ex_iast dX9_mark_117 (mF31 hM).2.1 rfl (by rw [(mF31 hM).2.2]; omega) (by rw [(mF31 hM).2.2]; decide) ?_
                    refine Ex_iconst (v := nI 1) dX9_mark_118 (by rfl) ?_
                    refine Ex_iret dX9_mark_119 (by first | rfl | exact narrow_bI) ?_
                    exact ⟨_, rfl, (by unfold r_mark; rw [if_pos h4, hcl, if_neg (Int32.not_lt.mpr h16), if_pos h35, if_neg (fun q => h54 q.2), if_neg (fun q => q.2.2 h86)]), (by unfold i_mark; rw [if_pos (show mrP (I (M + 18)) sz (nI s') (nI p') v by unfold mrP; rw [hcl]; exact ⟨h4, Int32.not_lt.mpr h16, h35, (fun q => h54 q.2), (fun q => q.2.2 h86)⟩), hcl, hcp, if_pos h108, setI_row]), rfl⟩
                · refine Ex_ldc dX9_mark_89 kX9_99 ?_
                  refine Ex_iret dX9_mark_91 (by first | rfl | exact narrow_bI) ?_
                  exact ⟨_, rfl, (by unfold r_mark; rw [if_pos h4, hcl, if_neg (Int32.not_lt.mpr h16), if_pos h35, if_neg (fun q => h54 q.2), if_pos ⟨h67, h73, h86⟩]), (by unfold i_mark; rw [if_neg (fun q => q.2.2.2.2 (by rw [hcl]; exact ⟨h67, h73, h86⟩))]), rfl⟩
          · refine Ex_ldc dX9_mark_57 kX9_137 ?_
            refine Ex_iret dX9_mark_59 (by first | rfl | exact narrow_bI) ?_
            exact ⟨_, rfl, (by unfold r_mark; rw [if_pos h4, hcl, if_neg (Int32.not_lt.mpr h16), if_pos h35, if_pos ⟨h48, h54⟩]), (by unfold i_mark; rw [if_neg (fun q => q.2.2.2.1 (by rw [hcl]; exact ⟨h48, h54⟩))]), rfl⟩
      · refine Ex_ldc_w dX9_mark_38 kX9_278 ?_
        refine Ex_iret dX9_mark_41 (by first | rfl | exact narrow_bI) ?_
        exact ⟨_, rfl, (by unfold r_mark; rw [if_pos h4, hcl, if_neg (Int32.not_lt.mpr h16), if_neg h35]), (by unfold i_mark; rw [if_neg (fun q => h35 (by have := q.2.2.1; rw [hcl] at this; exact this))]), rfl⟩
    · refine Ex_ldc dX9_mark_19 kX9_182 ?_
      refine Ex_iret dX9_mark_21 (by first | rfl | exact narrow_bI) ?_
      exact ⟨_, rfl, (by unfold r_mark; rw [if_pos h4, hcl, if_pos (Int32.not_le.mp h16)]), (by unfold i_mark; rw [if_neg (fun q => q.2.1 (by rw [hcl]; exact Int32.not_le.mp h16))]), rfl⟩
  · refine Ex_ldc dX9_mark_7 kX9_99 ?_
    refine Ex_iret dX9_mark_9 (by first | rfl | exact narrow_bI) ?_
    exact ⟨_, rfl, (by unfold r_mark; rw [if_neg h4]), (by unfold i_mark; rw [if_neg (fun q => h4 q.1)]), rfl⟩
def toF (g : Nat → Int32) (row : Nat → Int32) (s : Nat) : Int32 := if row s = cNONE then g (8 + 17 * s + 1) else wth (row s) (nI 0) (nI 9)
def pG (g row : Nat → Int32) : Nat → (Nat → Int32)
  | 0 => g
  | s + 1 => upd (pG g row s) (8 + 17 * s + 1) (toF (pG g row s) row s)
def pC (g row : Nat → Int32) : Nat → Int32
  | 0 => nI 0
  | s + 1 => pC g row s + (if pG g row s (8 + 17 * s + 1) = toF (pG g row s) row s then nI 0 else nI 1)
def pN (g : Nat → Int32) (n : Nat) : Nat := if n ≤ nS g then n else nS g
def r_pour (g so : Nat → Int32) (sz : Nat → Nat) (ce : Nat → Nat → Int32) (s : Int32) : Int32 := if inR s 4 then (if so (cl s) < 0 then cNOTHING else pC g (ce (cl s)) (pN g (sz (cl s)))) else cBAD
def g_pour (g so : Nat → Int32) (sz : Nat → Nat) (ce : Nat → Nat → Int32) (s : Int32) : Nat → Int32 := if inR s 4 ∧ ¬ so (cl s) < 0 then pG g (ce (cl s)) (pN g (sz (cl s))) else g
theorem pG_o {g row : Nat → Int32} {j : Nat} : ∀ {n : Nat}, (∀ s, s < n → j ≠ 8 + 17 * s + 1) → pG g row n j = g j
  | 0, _ => rfl
  | n + 1, h => by
    show upd (pG g row n) _ _ j = g j
    rw [upd_n (h n (by omega))]
    exact pG_o (fun s hs => h s (by omega))
set_option maxRecDepth 100000 in
set_option maxHeartbeats 4000000 in
theorem l9_pour {T : TC} {I : MI} {G : MG} {F : FinT} {b : Nat × Nat} (d : Nat) {M : Nat} (hM : MSh T G M) (g : Nat → Int32) (n z N s : Nat) (hn1 : g 1 = nI n) (hn8 : n ≤ 8) (hz1 : I (M + 19) s = nI z) (hz2 : z ≤ 24) (hs : s < 4) (hN1 : N ≤ n) (hN2 : N ≤ z) (kx : Ex T RX9 cX9_pour 6 (d + 2) F 26 [some (.ref M), some (.int (nI s)), some (.int (pC g (fun k => I (M + 20) (24 * s + k)) N)), some (.int (nI N)), none, none] [] (rowI I (M + 1) (pG g (fun k => I (M + 20) (24 * s + k)) N)) G b) : ∀ i k, k + i = N  → Ex T RX9 cX9_pour 6 (d + 2) F 26 [some (.ref M), some (.int (nI s)), some (.int (pC g (fun k => I (M + 20) (24 * s + k)) k)), some (.int (nI k)), none, none] [] (rowI I (M + 1) (pG g (fun k => I (M + 20) (24 * s + k)) k)) G b := by
  intro i
  induction i with
  | zero => intro k h0; have e0 : k = N := by omega
            subst e0; exact kx
  | succ i ih0 =>
    intro k h0
    have ih := ih0 (k + 1)
    refine Ex_iload_n dX9_pour_26 rfl ?_
    refine Ex_aload_n dX9_pour_27 rfl ?_
    refine Ex_getr dX9_pour_28 fX9_67 hM.1 (mF30 hM).1 ?_
    refine Ex_iload_n dX9_pour_31 rfl ?_
    refine Ex_iald dX9_pour_32 (mF30 hM).2.1 rfl (by rw [(mF30 hM).2.2]; omega) (by rw [(mF30 hM).2.2]; decide) ?_
    refine Ex_top (show _ = nI z by rw [rowI_n (by omega)]; exact hz1) ?_
    refine Ex_icmp_geN (by omega) (by omega) (tgt := 119) dX9_pour_33 (by decide) (fun h33 => ?_) (fun h33 => ?_)
    · omega
    · refine Ex_iload_n dX9_pour_36 rfl ?_
      refine Ex_aload_n dX9_pour_37 rfl ?_
      refine Ex_getr dX9_pour_38 fX9_9 hM.1 (mF0 hM).1 ?_
      refine Ex_iconst (v := nI 1) dX9_pour_41 (by rfl) ?_
      refine Ex_iald dX9_pour_42 (mF0 hM).2.1 rfl (by rw [(mF0 hM).2.2]; omega) (by rw [(mF0 hM).2.2]; decide) ?_
      refine Ex_top (show _ = nI n by rw [rowI_s, pG_o (by omega)]; exact hn1) ?_
      refine Ex_icmp_geN (by omega) (by omega) (tgt := 119) dX9_pour_43 (by decide) (fun h43 => ?_) (fun h43 => ?_)
      · omega
      · refine Ex_aload_n dX9_pour_46 rfl ?_
        refine Ex_getr dX9_pour_47 fX9_70 hM.1 (mF31 hM).1 ?_
        refine Ex_bipush (v := nI 24) dX9_pour_50 (by rfl) ?_
        refine Ex_iload_n dX9_pour_52 rfl ?_
        first | with_reducible refine Ex_imulN dX9_pour_53 ?_ | refine Ex_imul dX9_pour_53 ?_
        refine Ex_iload_n dX9_pour_54 rfl ?_
        first | with_reducible refine Ex_iaddN dX9_pour_55 ?_ | refine Ex_iadd dX9_pour_55 ?_
        refine Ex_iald dX9_pour_56 (mF31 hM).2.1 rfl (by rw [(mF31 hM).2.2]; omega) (by rw [(mF31 hM).2.2]; decide) ?_
        refine Ex_top (show _ = I (M + 20) (24 * s + k) by rw [rowI_n (by omega)]) ?_
        refine Ex_istore dX9_pour_57 (by decide) rfl ?_
        simp only [List.set_cons_zero, List.set_cons_succ]
        refine Ex_iload dX9_pour_59 rfl ?_
        refine Ex_ldc dX9_pour_61 kX9_133 ?_
        refine Ex_icmp_ne (tgt := 75) dX9_pour_63 (by decide) (fun h63 => ?_) (fun h63 => ?_)
        · refine Ex_iload dX9_pour_75 rfl ?_
          refine Ex_iconst (v := nI 0) dX9_pour_77 (by rfl) ?_
          refine Ex_bipush (v := nI 9) dX9_pour_78 (by rfl) ?_
          refine Ex_S3p dX9_pour_80 sX9_115  (Nat.le_of_ble_eq_true rfl) (c9_within (d + 1) _ _ _) ?_
          refine Ex_top (show _ = toF (pG g (fun k => I (M + 20) (24 * s + k)) k) (fun k => I (M + 20) (24 * s + k)) k by unfold toF; rw [if_neg h63]) ?_
          refine Ex_istore dX9_pour_83 (by decide) rfl ?_
          simp only [List.set_cons_zero, List.set_cons_succ]
          refine Ex_iload_n dX9_pour_85 rfl ?_
          refine Ex_aload_n dX9_pour_86 rfl ?_
          refine Ex_bipush (v := nI 8) dX9_pour_87 (by rfl) ?_
          refine Ex_bipush (v := nI 17) dX9_pour_89 (by rfl) ?_
          refine Ex_iload_n dX9_pour_91 rfl ?_
          first | with_reducible refine Ex_imulN dX9_pour_92 ?_ | refine Ex_imul dX9_pour_92 ?_
          first | with_reducible refine Ex_iaddN dX9_pour_93 ?_ | refine Ex_iadd dX9_pour_93 ?_
          refine Ex_iconst (v := nI 1) dX9_pour_94 (by rfl) ?_
          first | with_reducible refine Ex_iaddN dX9_pour_95 ?_ | refine Ex_iadd dX9_pour_95 ?_
          refine Ex_iload dX9_pour_96 rfl ?_
          refine Ex_V2i dX9_pour_98 sX9_138 hM.1 (Nat.le_of_ble_eq_true rfl) (c9_swaps (d + 1) hM (8 + 17 * k + 1) _ (by omega)) ?_
          rintro r _ _ ⟨rfl, rfl, rfl⟩
          rw [rowI_r, rowI_s]
          refine Ex_iload dX9_pour_101 rfl ?_
          refine Ex_icmp_ne (tgt := 110) dX9_pour_103 (by decide) (fun h103 => ?_) (fun h103 => ?_)
          · refine Ex_iconst (v := nI 1) dX9_pour_110 (by rfl) ?_
            first | with_reducible refine Ex_iaddN dX9_pour_111 ?_ | refine Ex_iadd dX9_pour_111 ?_
            refine Ex_istore_n dX9_pour_112 (by decide) rfl ?_
            simp only [st_n0, st_n1, st_n2, st_n3, List.set_cons_zero, List.set_cons_succ]
            first | refine Ex_iincN (m := 1) dX9_pour_113 rfl rfl (by decide) rfl ?_ | refine Ex_iinc dX9_pour_113 rfl rfl (by decide) rfl ?_
            simp only [List.set_cons_zero, List.set_cons_succ]
            refine Ex_goto (tgt := 26) dX9_pour_116 (by decide) ?_
            refine Ex_drop 4 ?_
            refine Ex_drop 5 ?_
            simp only [st_n0, st_n1, st_n2, st_n3, List.set_cons_zero, List.set_cons_succ]
            have ec : pC g (fun k => I (M + 20) (24 * s + k)) (k + 1) = pC g (fun k => I (M + 20) (24 * s + k)) k + nI 1 := by show pC _ _ k + _ = _; rw [if_neg h103]
            have key := ih (by omega)
            rw [ec] at key
            exact key
          · refine Ex_iconst (v := nI 0) dX9_pour_106 (by rfl) ?_
            refine Ex_goto (tgt := 111) dX9_pour_107 (by decide) ?_
            first | with_reducible refine Ex_iaddN dX9_pour_111 ?_ | refine Ex_iadd dX9_pour_111 ?_
            refine Ex_istore_n dX9_pour_112 (by decide) rfl ?_
            simp only [st_n0, st_n1, st_n2, st_n3, List.set_cons_zero, List.set_cons_succ]
            first | refine Ex_iincN (m := 1) dX9_pour_113 rfl rfl (by decide) rfl ?_ | refine Ex_iinc dX9_pour_113 rfl rfl (by decide) rfl ?_
            simp only [List.set_cons_zero, List.set_cons_succ]
            refine Ex_goto (tgt := 26) dX9_pour_116 (by decide) ?_
            refine Ex_drop 4 ?_
            refine Ex_drop 5 ?_
            simp only [st_n0, st_n1, st_n2, st_n3, List.set_cons_zero, List.set_cons_succ]
            have ec : pC g (fun k => I (M + 20) (24 * s + k)) (k + 1) = pC g (fun k => I (M + 20) (24 * s + k)) k + nI 0 := by show pC _ _ k + _ = _; rw [if_pos h103]
            have key := ih (by omega)
            rw [ec] at key
            exact key
        · refine Ex_aload_n dX9_pour_66 rfl ?_
          refine Ex_iload_n dX9_pour_67 rfl ?_
          refine Ex_iconst (v := nI 1) dX9_pour_68 (by rfl) ?_
          refine Ex_V2p dX9_pour_69 sX9_105 hM.1 (Nat.le_of_ble_eq_true rfl) (c9_of (d + 1) hM k 1 (by omega)) ?_
          refine Ex_top (show _ = (pG g (fun k => I (M + 20) (24 * s + k)) k) (8 + 17 * k + 1) by rw [rowI_s]) ?_
          refine Ex_goto (tgt := 83) dX9_pour_72 (by decide) ?_
          refine Ex_top (show _ = toF (pG g (fun k => I (M + 20) (24 * s + k)) k) (fun k => I (M + 20) (24 * s + k)) k by unfold toF; rw [if_pos h63]) ?_
          refine Ex_istore dX9_pour_83 (by decide) rfl ?_
          simp only [List.set_cons_zero, List.set_cons_succ]
          refine Ex_iload_n dX9_pour_85 rfl ?_
          refine Ex_aload_n dX9_pour_86 rfl ?_
          refine Ex_bipush (v := nI 8) dX9_pour_87 (by rfl) ?_
          refine Ex_bipush (v := nI 17) dX9_pour_89 (by rfl) ?_
          refine Ex_iload_n dX9_pour_91 rfl ?_
          first | with_reducible refine Ex_imulN dX9_pour_92 ?_ | refine Ex_imul dX9_pour_92 ?_
          first | with_reducible refine Ex_iaddN dX9_pour_93 ?_ | refine Ex_iadd dX9_pour_93 ?_
          refine Ex_iconst (v := nI 1) dX9_pour_94 (by rfl) ?_
          first | with_reducible refine Ex_iaddN dX9_pour_95 ?_ | refine Ex_iadd dX9_pour_95 ?_
          refine Ex_iload dX9_pour_96 rfl ?_
          refine Ex_V2i dX9_pour_98 sX9_138 hM.1 (Nat.le_of_ble_eq_true rfl) (c9_swaps (d + 1) hM (8 + 17 * k + 1) _ (by omega)) ?_
          rintro r _ _ ⟨rfl, rfl, rfl⟩
          rw [rowI_r, rowI_s]
          refine Ex_iload dX9_pour_101 rfl ?_
          refine Ex_icmp_ne (tgt := 110) dX9_pour_103 (by decide) (fun h103 => ?_) (fun h103 => ?_)
          · refine Ex_iconst (v := nI 1) dX9_pour_110 (by rfl) ?_
            first | with_reducible refine Ex_iaddN dX9_pour_111 ?_ | refine Ex_iadd dX9_pour_111 ?_
            refine Ex_istore_n dX9_pour_112 (by decide) rfl ?_
            simp only [st_n0, st_n1, st_n2, st_n3, List.set_cons_zero, List.set_cons_succ]
            first | refine Ex_iincN (m := 1) dX9_pour_113 rfl rfl (by decide) rfl ?_ | refine Ex_iinc dX9_pour_113 rfl rfl (by decide) rfl ?_
            simp only [List.set_cons_zero, List.set_cons_succ]
            refine Ex_goto (tgt := 26) dX9_pour_116 (by decide) ?_
            refine Ex_drop 4 ?_
            refine Ex_drop 5 ?_
            simp only [st_n0, st_n1, st_n2, st_n3, List.set_cons_zero, List.set_cons_succ]
            have ec : pC g (fun k => I (M + 20) (24 * s + k)) (k + 1) = pC g (fun k => I (M + 20) (24 * s + k)) k + nI 1 := by show pC _ _ k + _ = _; rw [if_neg h103]
            have key := ih (by omega)
            rw [ec] at key
            exact key
          · refine Ex_iconst (v := nI 0) dX9_pour_106 (by rfl) ?_
            refine Ex_goto (tgt := 111) dX9_pour_107 (by decide) ?_
            first | with_reducible refine Ex_iaddN dX9_pour_111 ?_ | refine Ex_iadd dX9_pour_111 ?_
            refine Ex_istore_n dX9_pour_112 (by decide) rfl ?_
            simp only [st_n0, st_n1, st_n2, st_n3, List.set_cons_zero, List.set_cons_succ]
            first | refine Ex_iincN (m := 1) dX9_pour_113 rfl rfl (by decide) rfl ?_ | refine Ex_iinc dX9_pour_113 rfl rfl (by decide) rfl ?_
            simp only [List.set_cons_zero, List.set_cons_succ]
            refine Ex_goto (tgt := 26) dX9_pour_116 (by decide) ?_
            refine Ex_drop 4 ?_
            refine Ex_drop 5 ?_
            simp only [st_n0, st_n1, st_n2, st_n3, List.set_cons_zero, List.set_cons_succ]
            have ec : pC g (fun k => I (M + 20) (24 * s + k)) (k + 1) = pC g (fun k => I (M + 20) (24 * s + k)) k + nI 0 := by show pC _ _ k + _ = _; rw [if_pos h103]
            have key := ih (by omega)
            rw [ec] at key
            exact key
set_option maxRecDepth 100000 in
set_option maxHeartbeats 4000000 in
theorem C9_pour {T : TC} {I : MI} {G : MG} (d : Nat) {M : Nat} (hM : MSh T G M) (hW : WfG (I (M + 1))) (sz : Nat → Nat) (hz : SzR I M sz) (s : Int32)  : OkI T mX9_pour (d + 2) [.ref M, .int s] I G (fun r I' G' => r = r_pour (I (M + 1)) (I (M + 18)) sz (fun s k => I (M + 20) (24 * s + k)) s ∧ I' (M + 1) = g_pour (I (M + 1)) (I (M + 18)) sz (fun s k => I (M + 20) (24 * s + k)) s ∧ Fr (Pd M) I I' ∧ G' = G) := by
  refine Ok_of (own := RX9) (by decide) rfl (cat1 rfl) (Nat.le_of_ble_eq_true rfl) ?_
  show Ex T RX9 cX9_pour 6 (d + 2) _ 0 [some (.ref M), some (.int s), none, none, none, none] [] I G (0, 0)
  refine Ex_iload_n dX9_pour_0 rfl ?_
  refine Ex_S1p dX9_pour_1 sX9_179  (Nat.le_of_ble_eq_true rfl) (c9_isSheet d _) ?_
  refine Ex_if_neB (tgt := 10) dX9_pour_4 (by decide) (fun h4 => ?_) (fun h4 => ?_)
  · obtain ⟨s', hs', e4⟩ := (rng_k (by omega)).mp h4
    have hcl : cl (nI s') = s' := cl_nI (by omega)
    subst e4
    refine Ex_aload_n dX9_pour_10 rfl ?_
    refine Ex_getr dX9_pour_11 fX9_64 hM.1 (mF29 hM).1 ?_
    refine Ex_iload_n dX9_pour_14 rfl ?_
    refine Ex_iald dX9_pour_15 (mF29 hM).2.1 rfl (by rw [(mF29 hM).2.2]; omega) (by rw [(mF29 hM).2.2]; decide) ?_
    refine Ex_if_ge (tgt := 22) dX9_pour_16 (by decide) (fun h16 => ?_) (fun h16 => ?_)
    · obtain ⟨hz1, hz2⟩ := hz s' hs'
      refine Ex_iconst (v := nI 0) dX9_pour_22 (by rfl) ?_
      refine Ex_istore_n dX9_pour_23 (by decide) rfl ?_
      simp only [st_n0, st_n1, st_n2, st_n3, List.set_cons_zero, List.set_cons_succ]
      refine Ex_iconst (v := nI 0) dX9_pour_24 (by rfl) ?_
      refine Ex_istore_n dX9_pour_25 (by decide) rfl ?_
      simp only [st_n0, st_n1, st_n2, st_n3, List.set_cons_zero, List.set_cons_succ]
      have hn1 := hW.1
      have hn8 := hW.2.1
      generalize hg : I (M + 1) = g at hn1 hn8
      have hNe : pN g (sz s') = if sz s' ≤ nS g then sz s' else nS g := rfl
      have hN1 : pN g (sz s') ≤ nS g := by rw [hNe]; split <;> omega
      have hN2 : pN g (sz s') ≤ sz s' := by rw [hNe]; split <;> omega
      have hN3 : pN g (sz s') = nS g ∨ pN g (sz s') = sz s' := by rw [hNe]; split <;> omega
      generalize hN : pN g (sz s') = N at hN1 hN2 hN3
      generalize hnn : nS g = n at hn1 hn8 hN1 hN3
      refine Ex_eqI (show _ = rowI I (M + 1) (pG g (fun k => I (M + 20) (24 * s' + k)) 0) by show I = rowI I (M + 1) g; rw [← hg, rowI_self]) ?_
      refine l9_pour d hM g n (sz s') N s' hn1 hn8 hz1 hz2 hs' hN1 hN2 ?_ N 0 (by omega)
      refine Ex_iload_n dX9_pour_26 rfl ?_
      refine Ex_aload_n dX9_pour_27 rfl ?_
      refine Ex_getr dX9_pour_28 fX9_67 hM.1 (mF30 hM).1 ?_
      refine Ex_iload_n dX9_pour_31 rfl ?_
      refine Ex_iald dX9_pour_32 (mF30 hM).2.1 rfl (by rw [(mF30 hM).2.2]; omega) (by rw [(mF30 hM).2.2]; decide) ?_
      refine Ex_top (show _ = nI (sz s') by rw [rowI_n (by omega)]; exact hz1) ?_
      refine Ex_icmp_geN (by omega) (by omega) (tgt := 119) dX9_pour_33 (by decide) (fun h33 => ?_) (fun h33 => ?_)
      · refine Ex_iload_n dX9_pour_119 rfl ?_
        refine Ex_iret dX9_pour_120 (by first | rfl | exact narrow_bI) ?_
        exact ⟨_, rfl, (by unfold r_pour; rw [if_pos h4, hcl, if_neg (Int32.not_lt.mpr h16)]; exact congrArg (pC g _) hN.symm), (by unfold g_pour; rw [if_pos ⟨h4, by rw [hcl]; exact Int32.not_lt.mpr h16⟩, hcl, rowI_s]; exact congrArg (pG g _) hN.symm), Fr.row (Or.inl rfl), rfl⟩
      · refine Ex_iload_n dX9_pour_36 rfl ?_
        refine Ex_aload_n dX9_pour_37 rfl ?_
        refine Ex_getr dX9_pour_38 fX9_9 hM.1 (mF0 hM).1 ?_
        refine Ex_iconst (v := nI 1) dX9_pour_41 (by rfl) ?_
        refine Ex_iald dX9_pour_42 (mF0 hM).2.1 rfl (by rw [(mF0 hM).2.2]; omega) (by rw [(mF0 hM).2.2]; decide) ?_
        refine Ex_top (show _ = nI n by rw [rowI_s, pG_o (by omega)]; exact hn1) ?_
        refine Ex_icmp_geN (by omega) (by omega) (tgt := 119) dX9_pour_43 (by decide) (fun h43 => ?_) (fun h43 => ?_)
        · refine Ex_iload_n dX9_pour_119 rfl ?_
          refine Ex_iret dX9_pour_120 (by first | rfl | exact narrow_bI) ?_
          exact ⟨_, rfl, (by unfold r_pour; rw [if_pos h4, hcl, if_neg (Int32.not_lt.mpr h16)]; exact congrArg (pC g _) hN.symm), (by unfold g_pour; rw [if_pos ⟨h4, by rw [hcl]; exact Int32.not_lt.mpr h16⟩, hcl, rowI_s]; exact congrArg (pG g _) hN.symm), Fr.row (Or.inl rfl), rfl⟩
        · (exfalso; omega)
    · refine Ex_ldc dX9_pour_19 kX9_182 ?_
      refine Ex_iret dX9_pour_21 (by first | rfl | exact narrow_bI) ?_
      exact ⟨_, rfl, (by unfold r_pour; rw [if_pos h4, hcl, if_pos (Int32.not_le.mp h16)]), (by unfold g_pour; rw [if_neg (fun q => q.2 (by rw [hcl]; exact Int32.not_le.mp h16))]), Fr.refl, rfl⟩
  · refine Ex_ldc dX9_pour_7 kX9_99 ?_
    refine Ex_iret dX9_pour_9 (by first | rfl | exact narrow_bI) ?_
    exact ⟨_, rfl, (by unfold r_pour; rw [if_neg h4]), (by unfold g_pour; rw [if_neg (fun q => h4 q.1)]), Fr.refl, rfl⟩
/-- the first of i places from k on -/
def fsI (p : Nat → Bool) : Nat → Nat → Int32
  | 0, _ => cNONE
  | i + 1, k => if p k = true then nI k else fsI p i (k + 1)
def rdP (g row : Nat → Int32) (k : Nat) : Bool := decide (¬ row k = cNONE ∧ (¬ k < nS g ∨ ¬ row k = g (8 + 17 * k + 2)))
def r_reads (g so : Nat → Int32) (sz : Nat → Nat) (ce : Nat → Nat → Int32) (s : Int32) : Int32 := if inR s 4 then (if so (cl s) < 0 then cNOTHING else fsI (rdP g (ce (cl s))) (sz (cl s)) 0) else cBAD
theorem inR_n {k n : Nat} (hk : k < 2 ^ 31) (hn : n < 2 ^ 31) : inR (nI k) n ↔ k < n := by
  show (0 ≤ nI k ∧ nI k < nI n) ↔ _
  exact ⟨fun h => (nI_ltI hk hn).mp h.2, fun h => ⟨nI_pos' hk, nI_lt h hn⟩⟩
set_option maxRecDepth 100000 in
set_option maxHeartbeats 4000000 in
theorem l9_reads {T : TC} {I : MI} {G : MG} {Q : Option Value → MI → MG → Prop} {b : Nat × Nat} (d : Nat) {M : Nat} (hM : MSh T G M) (hW : WfG (I (M + 1))) (z s : Nat) (hz1 : I (M + 19) s = nI z) (hz2 : z ≤ 24) (hs : s < 4) : ∀ i k, k + i = z → Q (some (.int (fsI (rdP (I (M + 1)) (fun k => I (M + 20) (24 * s + k))) i k))) I G → Ex T RX9 cX9_reads 4 (d + 2) (fm T "reads" (some .int) Q) 24 [some (.ref M), some (.int (nI s)), some (.int (nI k)), none] [] I G b := by
  intro i
  induction i with
  | zero =>
    intro k h0 hq
    refine Ex_iload_n dX9_reads_24 rfl ?_
    refine Ex_aload_n dX9_reads_25 rfl ?_
    refine Ex_getr dX9_reads_26 fX9_67 hM.1 (mF30 hM).1 ?_
    refine Ex_iload_n dX9_reads_29 rfl ?_
    refine Ex_iald dX9_reads_30 (mF30 hM).2.1 rfl (by rw [(mF30 hM).2.2]; omega) (by rw [(mF30 hM).2.2]; decide) ?_
    refine Ex_top hz1 ?_
    refine Ex_icmp_geN (by omega) (by omega) (tgt := 78) dX9_reads_31 (by decide) (fun h31 => ?_) (fun h31 => ?_)
    · refine Ex_ldc dX9_reads_78 kX9_133 ?_
      refine Ex_iret dX9_reads_80 (by first | rfl | exact narrow_bI) ?_
      exact hq
    · omega
  | succ i ih =>
    intro k h0 hq
    have hn8 := hW.2.1
    have ef : fsI (rdP (I (M + 1)) (fun k => I (M + 20) (24 * s + k))) (i + 1) k = if (rdP (I (M + 1)) (fun k => I (M + 20) (24 * s + k))) k = true then nI k else fsI (rdP (I (M + 1)) (fun k => I (M + 20) (24 * s + k))) i (k + 1) := rfl
    refine Ex_iload_n dX9_reads_24 rfl ?_
    refine Ex_aload_n dX9_reads_25 rfl ?_
    refine Ex_getr dX9_reads_26 fX9_67 hM.1 (mF30 hM).1 ?_
    refine Ex_iload_n dX9_reads_29 rfl ?_
    refine Ex_iald dX9_reads_30 (mF30 hM).2.1 rfl (by rw [(mF30 hM).2.2]; omega) (by rw [(mF30 hM).2.2]; decide) ?_
    refine Ex_top hz1 ?_
    refine Ex_icmp_geN (by omega) (by omega) (tgt := 78) dX9_reads_31 (by decide) (fun h31 => ?_) (fun h31 => ?_)
    · omega
    · refine Ex_aload_n dX9_reads_34 rfl ?_
      refine Ex_getr dX9_reads_35 fX9_70 hM.1 (mF31 hM).1 ?_
      refine Ex_bipush (v := nI 24) dX9_reads_38 (by rfl) ?_
      refine Ex_iload_n dX9_reads_40 rfl ?_
      first | with_reducible refine Ex_imulN dX9_reads_41 ?_ | refine Ex_imul dX9_reads_41 ?_
      refine Ex_iload_n dX9_reads_42 rfl ?_
      first | with_reducible refine Ex_iaddN dX9_reads_43 ?_ | refine Ex_iadd dX9_reads_43 ?_
      refine Ex_iald dX9_reads_44 (mF31 hM).2.1 rfl (by rw [(mF31 hM).2.2]; omega) (by rw [(mF31 hM).2.2]; decide) ?_
      refine Ex_istore_n dX9_reads_45 (by decide) rfl ?_
      simp only [st_n0, st_n1, st_n2, st_n3, List.set_cons_zero, List.set_cons_succ]
      refine Ex_iload_n dX9_reads_46 rfl ?_
      refine Ex_ldc dX9_reads_47 kX9_133 ?_
      refine Ex_icmp_eq (tgt := 72) dX9_reads_49 (by decide) (fun h49 => ?_) (fun h49 => ?_)
      · first | refine Ex_iincN (m := 1) dX9_reads_72 rfl rfl (by decide) rfl ?_ | refine Ex_iinc dX9_reads_72 rfl rfl (by decide) rfl ?_
        simp only [List.set_cons_zero, List.set_cons_succ]
        refine Ex_goto (tgt := 24) dX9_reads_75 (by decide) ?_
        refine Ex_drop 3 ?_
        simp only [st_n0, st_n1, st_n2, st_n3, List.set_cons_zero, List.set_cons_succ]
        refine ih (k + 1) (by omega) ?_
        rw [ef, if_neg (fun q => (of_decide_eq_true q).1 h49)] at hq
        exact hq
      · refine Ex_aload_n dX9_reads_52 rfl ?_
        refine Ex_iload_n dX9_reads_53 rfl ?_
        refine Ex_V1p dX9_reads_54 sX9_119 hM.1 (Nat.le_of_ble_eq_true rfl) (c9_isS d hM hW _) ?_
        refine Ex_if_eqB (tgt := 70) dX9_reads_57 (by decide) (fun h57 => ?_) (fun h57 => ?_)
        · refine Ex_iload_n dX9_reads_70 rfl ?_
          refine Ex_iret dX9_reads_71 (by first | rfl | exact narrow_bI) ?_
          rw [ef, if_pos (show (rdP (I (M + 1)) (fun k => I (M + 20) (24 * s + k))) k = true from decide_eq_true ⟨h49, Or.inl (fun w => h57 ((inR_n (by omega) (by omega)).mpr w))⟩)] at hq
          exact hq
        · refine Ex_iload_n dX9_reads_60 rfl ?_
          refine Ex_aload_n dX9_reads_61 rfl ?_
          refine Ex_iload_n dX9_reads_62 rfl ?_
          refine Ex_iconst (v := nI 2) dX9_reads_63 (by rfl) ?_
          refine Ex_V2p dX9_reads_64 sX9_105 hM.1 (Nat.le_of_ble_eq_true rfl) (c9_of (d + 1) hM k 2 (by have := (inR_n (by omega) (by omega)).mp h57; omega)) ?_
          refine Ex_icmp_eq (tgt := 72) dX9_reads_67 (by decide) (fun h67 => ?_) (fun h67 => ?_)
          · first | refine Ex_iincN (m := 1) dX9_reads_72 rfl rfl (by decide) rfl ?_ | refine Ex_iinc dX9_reads_72 rfl rfl (by decide) rfl ?_
            simp only [List.set_cons_zero, List.set_cons_succ]
            refine Ex_goto (tgt := 24) dX9_reads_75 (by decide) ?_
            refine Ex_drop 3 ?_
            simp only [st_n0, st_n1, st_n2, st_n3, List.set_cons_zero, List.set_cons_succ]
            refine ih (k + 1) (by omega) ?_
            rw [ef, if_neg (fun q => (of_decide_eq_true q).2.elim (fun w => w ((inR_n (by omega) (by omega)).mp h57)) (fun w => w h67))] at hq
            exact hq
          · refine Ex_iload_n dX9_reads_70 rfl ?_
            refine Ex_iret dX9_reads_71 (by first | rfl | exact narrow_bI) ?_
            rw [ef, if_pos (show (rdP (I (M + 1)) (fun k => I (M + 20) (24 * s + k))) k = true from decide_eq_true ⟨h49, Or.inr h67⟩)] at hq
            exact hq
set_option maxRecDepth 100000 in
set_option maxHeartbeats 4000000 in
theorem C9_reads {T : TC} {I : MI} {G : MG} (d : Nat) {M : Nat} (hM : MSh T G M) (hW : WfG (I (M + 1))) (sz : Nat → Nat) (hz : SzR I M sz) (s : Int32)  : OkP T mX9_reads (d + 2) [.ref M, .int s] I G (r_reads (I (M + 1)) (I (M + 18)) sz (fun s k => I (M + 20) (24 * s + k)) s) := by
  refine Ok_of (own := RX9) (by decide) rfl (cat1 rfl) (Nat.le_of_ble_eq_true rfl) ?_
  show Ex T RX9 cX9_reads 4 (d + 2) _ 0 [some (.ref M), some (.int s), none, none] [] I G (0, 0)
  refine Ex_iload_n dX9_reads_0 rfl ?_
  refine Ex_S1p dX9_reads_1 sX9_179  (Nat.le_of_ble_eq_true rfl) (c9_isSheet d _) ?_
  refine Ex_if_neB (tgt := 10) dX9_reads_4 (by decide) (fun h4 => ?_) (fun h4 => ?_)
  · obtain ⟨s', hs', e4⟩ := (rng_k (by omega)).mp h4
    have hcl : cl (nI s') = s' := cl_nI (by omega)
    subst e4
    refine Ex_aload_n dX9_reads_10 rfl ?_
    refine Ex_getr dX9_reads_11 fX9_64 hM.1 (mF29 hM).1 ?_
    refine Ex_iload_n dX9_reads_14 rfl ?_
    refine Ex_iald dX9_reads_15 (mF29 hM).2.1 rfl (by rw [(mF29 hM).2.2]; omega) (by rw [(mF29 hM).2.2]; decide) ?_
    refine Ex_if_ge (tgt := 22) dX9_reads_16 (by decide) (fun h16 => ?_) (fun h16 => ?_)
    · obtain ⟨hz1, hz2⟩ := hz s' hs'
      refine Ex_iconst (v := nI 0) dX9_reads_22 (by rfl) ?_
      refine Ex_istore_n dX9_reads_23 (by decide) rfl ?_
      simp only [st_n0, st_n1, st_n2, st_n3, List.set_cons_zero, List.set_cons_succ]
      refine l9_reads d hM hW _ s' hz1 hz2 hs' (sz s') 0 (by omega) ⟨_, rfl, ?_, rfl, rfl⟩
      unfold r_reads
      rw [if_pos h4, hcl, if_neg (Int32.not_lt.mpr h16)]
    · refine Ex_ldc dX9_reads_19 kX9_182 ?_
      refine Ex_iret dX9_reads_21 (by first | rfl | exact narrow_bI) ?_
      exact ⟨_, rfl, (by unfold r_reads; rw [if_pos h4, hcl, if_pos (Int32.not_le.mp h16)]), rfl, rfl⟩
  · refine Ex_ldc dX9_reads_7 kX9_99 ?_
    refine Ex_iret dX9_reads_9 (by first | rfl | exact narrow_bI) ?_
    exact ⟨_, rfl, (by unfold r_reads; rw [if_neg h4]), rfl, rfl⟩
