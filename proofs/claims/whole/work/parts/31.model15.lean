/-! what will be -/
def Pt (M : Nat) : Nat → Prop := fun a => a = M + 1 ∨ a = M + 8 ∨ a = M + 16 ∨ a = M + 17
/-- while something is thought: g lies by -/
def Th (M : Nat) (g : Nat → Int32) (I J : MI) : Prop := (∀ j, j < 144 → J (M + 8) j = g j) ∧ Fr (Pt M) I J
theorem Th_of {M : Nat} {I : MI} : Th M (I (M + 1)) I (rowI I (M + 8) (preF (I (M + 1)) (I (M + 8)) 144)) := ⟨fun j hj => by rw [rowI_s]; exact if_pos hj, Fr.row (Or.inr (Or.inl rfl))⟩
theorem Th.step {M : Nat} {g : Nat → Int32} {I J K : MI} (h : Th M g I J) (hf : Fr (Pd M) J K) : Th M g I K := ⟨fun j hj => by rw [hf _ (by unfold Pd; omega)]; exact h.1 j hj, h.2.trans (hf.mono (fun a ha => ha.elim Or.inl (fun ha => Or.inr (Or.inr ha))))⟩
theorem Th.row {M : Nat} {g f : Nat → Int32} {I J : MI} (h : Th M g I J) : Th M g I (rowI J (M + 1) f) := h.step (Fr.row (Or.inl rfl))
theorem back_eq {g x o : Nat → Int32} (ho : ∀ j, j < 144 → o j = g j) (hx : ∀ j, 144 ≤ j → x j = g j) : preF o x 144 = g := by
  funext j
  unfold preF
  by_cases h : j < 144
  · rw [if_pos h]; exact ho j h
  · rw [if_neg h]; exact hx j (by omega)
def r_behind (g : Nat → Int32) (n w : Int32) : Int32 := if inR n 101 ∧ inR w (3 + nS g) then (if w = 0 then daysG g (cl n) 5 else if w = nI 1 then daysG g (cl n) 6 else if w = nI 2 then sumG (daysG g (cl n)) 3 (nS g) else daysG g (cl n) (8 + 17 * (cl w - 3) + 2)) else cBAD
set_option maxRecDepth 100000 in
set_option maxHeartbeats 4000000 in
theorem C9_behind {T : TC} {I : MI} {G : MG} (d : Nat) {M : Nat} (hM : MSh T G M) (hW : WfG (I (M + 1))) (n w : Int32)  : OkI T mX9_behind (d + 6) [.ref M, .int n, .int w] I G (fun r I' G' => r = r_behind (I (M + 1)) n w ∧ I' (M + 1) = I (M + 1) ∧ Fr (Pt M) I I' ∧ G' = G) := by
  refine Ok_of (own := RX9) (by decide) rfl (cat1 rfl) (Nat.le_of_ble_eq_true rfl) ?_
  show Ex T RX9 cX9_behind 4 (d + 6) _ 0 [some (.ref M), some (.int n), some (.int w), none] [] I G (0, 0)
  refine Ex_iload_n dX9_behind_0 rfl ?_
  refine Ex_iconst (v := nI 0) dX9_behind_1 (by rfl) ?_
  refine Ex_bipush (v := nI 100) dX9_behind_2 (by rfl) ?_
  refine Ex_S3p dX9_behind_4 sX9_91  (Nat.le_of_ble_eq_true rfl) (c9_inR (d + 5) _ 100 (by omega)) ?_
  refine Ex_if_eqB (tgt := 29) dX9_behind_7 (by decide) (fun h7 => ?_) (fun h7 => ?_)
  · refine Ex_ldc dX9_behind_29 kX9_99 ?_
    refine Ex_iret dX9_behind_31 (by first | rfl | exact narrow_bI) ?_
    exact ⟨_, rfl, (by unfold r_behind; rw [if_neg (fun q => h7 q.1)]), rfl, Fr.refl, rfl⟩
  · refine Ex_iload_n dX9_behind_10 rfl ?_
    refine Ex_if_lt (tgt := 29) dX9_behind_11 (by decide) (fun h11 => ?_) (fun h11 => ?_)
    · refine Ex_ldc dX9_behind_29 kX9_99 ?_
      refine Ex_iret dX9_behind_31 (by first | rfl | exact narrow_bI) ?_
      exact ⟨_, rfl, (by unfold r_behind; rw [if_neg (fun q => absurd q.2.1 (Int32.not_le.mpr h11))]), rfl, Fr.refl, rfl⟩
    · refine Ex_iload_n dX9_behind_14 rfl ?_
      refine Ex_iconst (v := nI 2) dX9_behind_15 (by rfl) ?_
      refine Ex_icmp_le (tgt := 32) dX9_behind_16 (by decide) (fun h16 => ?_) (fun h16 => ?_)
      · have hn8 := hW.2.1
        obtain ⟨n', hn', en⟩ := (rng_k (by omega)).mp h7
        have hcn : cl (nI n') = n' := cl_nI (by omega)
        subst en
        obtain ⟨w', hw', ew⟩ := nI_of h11
        subst ew
        have hcw : cl (nI w') = w' := cl_nI hw'
        have hwb : w' ≤ 2 := (nI_leI hw' (by omega)).mp h16
        have hyes : inR (nI w') (3 + nS (I (M + 1))) := (inR_n hw' (by omega)).mpr (by omega)
        refine Ex_aload_n dX9_behind_32 rfl ?_
        refine Ex_V0v dX9_behind_33 sX9_202 hM.1 (Nat.le_of_ble_eq_true rfl) (c9_thinks (d + 5) hM) ?_
        rintro _ _ ⟨rfl, rfl⟩
        have hT0 := Th_of (M := M) (I := I)
        have hg0 : rowI I (M + 8) (preF (I (M + 1)) (I (M + 8)) 144) (M + 1) = I (M + 1) := rowI_n (by omega)
        generalize rowI I (M + 8) (preF (I (M + 1)) (I (M + 8)) 144) = J0 at hT0 hg0 ⊢
        refine Ex_aload_n dX9_behind_36 rfl ?_
        refine Ex_iload_n dX9_behind_37 rfl ?_
        refine Ex_V1v dX9_behind_38 sX9_166 hM.1 (Nat.le_of_ble_eq_true rfl) (c9_goesOn d hM (n') (by rw [hg0]; exact hW) (by omega)) ?_
        rintro J _ ⟨hj1, hj2, rfl⟩
        rw [hg0] at hj1
        have hT1 := hT0.step hj2
        have hx144 : ∀ j, 144 ≤ j → J (M + 1) j = I (M + 1) j := fun j hj => by rw [hj1]; exact days_o hW (by omega) (by omega) (by omega) (by omega) (by omega) _
        refine Ex_iload_n dX9_behind_41 rfl ?_
        refine Ex_if_ne (tgt := 54) dX9_behind_42 (by decide) (fun h42 => ?_) (fun h42 => ?_)
        · refine Ex_iload_n dX9_behind_54 rfl ?_
          refine Ex_iconst (v := nI 1) dX9_behind_55 (by rfl) ?_
          refine Ex_icmp_ne (tgt := 69) dX9_behind_56 (by decide) (fun h56 => ?_) (fun h56 => ?_)
          · refine Ex_iload_n dX9_behind_69 rfl ?_
            refine Ex_iconst (v := nI 2) dX9_behind_70 (by rfl) ?_
            refine Ex_icmp_ne (tgt := 82) dX9_behind_71 (by decide) (fun h71 => ?_) (fun h71 => ?_)
            · exact absurd (show nI w' = nI 2 by congr 1; have h1 : ¬ w' = 0 := fun e => h42 (by rw [e]; rfl); have h2 : ¬ w' = 1 := fun e => h56 (by rw [e]); omega) h71
            · refine Ex_aload_n dX9_behind_74 rfl ?_
              refine Ex_iconst (v := nI 3) dX9_behind_75 (by rfl) ?_
              refine Ex_V1p dX9_behind_76 sX9_169 hM.1 (Nat.le_of_ble_eq_true rfl) (c9_sumOf (d + 4) hM _ 3 (by rw [hj1, days_o hW (by omega) (by omega) (by omega) (by omega) (by omega)]; exact hW.1) hn8 (by omega)) ?_
              rw [hj1]
              refine Ex_goto (tgt := 90) dX9_behind_79 (by decide) ?_
              refine Ex_istore_n dX9_behind_90 (by decide) rfl ?_
              simp only [st_n0, st_n1, st_n2, st_n3, List.set_cons_zero, List.set_cons_succ]
              refine Ex_aload_n dX9_behind_91 rfl ?_
              refine Ex_V0v dX9_behind_92 sX9_205 hM.1 (Nat.le_of_ble_eq_true rfl) (c9_putsBack (d + 5) hM) ?_
              rintro _ _ ⟨rfl, rfl⟩
              rw [back_eq hT1.1 hx144]
              refine Ex_iload_n dX9_behind_95 rfl ?_
              refine Ex_iret dX9_behind_96 (by first | rfl | exact narrow_bI) ?_
              exact ⟨_, rfl, (by unfold r_behind; rw [if_pos ⟨h7, hyes⟩, hcn, if_neg h42, if_neg h56, if_pos h71]), rowI_s, hT1.2.trans (Fr.row (Or.inl rfl)), rfl⟩
          · refine Ex_aload_n dX9_behind_59 rfl ?_
            refine Ex_getr dX9_behind_60 fX9_9 hM.1 (mF0 hM).1 ?_
            refine Ex_bipush (v := nI 6) dX9_behind_63 (by rfl) ?_
            refine Ex_iald dX9_behind_65 (mF0 hM).2.1 rfl (by rw [(mF0 hM).2.2]; omega) (by rw [(mF0 hM).2.2]; decide) ?_
            rw [hj1]
            refine Ex_goto (tgt := 90) dX9_behind_66 (by decide) ?_
            refine Ex_istore_n dX9_behind_90 (by decide) rfl ?_
            simp only [st_n0, st_n1, st_n2, st_n3, List.set_cons_zero, List.set_cons_succ]
            refine Ex_aload_n dX9_behind_91 rfl ?_
            refine Ex_V0v dX9_behind_92 sX9_205 hM.1 (Nat.le_of_ble_eq_true rfl) (c9_putsBack (d + 5) hM) ?_
            rintro _ _ ⟨rfl, rfl⟩
            rw [back_eq hT1.1 hx144]
            refine Ex_iload_n dX9_behind_95 rfl ?_
            refine Ex_iret dX9_behind_96 (by first | rfl | exact narrow_bI) ?_
            exact ⟨_, rfl, (by unfold r_behind; rw [if_pos ⟨h7, hyes⟩, hcn, if_neg h42, if_pos h56]), rowI_s, hT1.2.trans (Fr.row (Or.inl rfl)), rfl⟩
        · refine Ex_aload_n dX9_behind_45 rfl ?_
          refine Ex_getr dX9_behind_46 fX9_9 hM.1 (mF0 hM).1 ?_
          refine Ex_iconst (v := nI 5) dX9_behind_49 (by rfl) ?_
          refine Ex_iald dX9_behind_50 (mF0 hM).2.1 rfl (by rw [(mF0 hM).2.2]; omega) (by rw [(mF0 hM).2.2]; decide) ?_
          rw [hj1]
          refine Ex_goto (tgt := 90) dX9_behind_51 (by decide) ?_
          refine Ex_istore_n dX9_behind_90 (by decide) rfl ?_
          simp only [st_n0, st_n1, st_n2, st_n3, List.set_cons_zero, List.set_cons_succ]
          refine Ex_aload_n dX9_behind_91 rfl ?_
          refine Ex_V0v dX9_behind_92 sX9_205 hM.1 (Nat.le_of_ble_eq_true rfl) (c9_putsBack (d + 5) hM) ?_
          rintro _ _ ⟨rfl, rfl⟩
          rw [back_eq hT1.1 hx144]
          refine Ex_iload_n dX9_behind_95 rfl ?_
          refine Ex_iret dX9_behind_96 (by first | rfl | exact narrow_bI) ?_
          exact ⟨_, rfl, (by unfold r_behind; rw [if_pos ⟨h7, hyes⟩, hcn, if_pos h42]), rowI_s, hT1.2.trans (Fr.row (Or.inl rfl)), rfl⟩
      · refine Ex_aload_n dX9_behind_19 rfl ?_
        refine Ex_iload_n dX9_behind_20 rfl ?_
        refine Ex_iconst (v := nI 3) dX9_behind_21 (by rfl) ?_
        refine Ex_isub dX9_behind_22 ?_
        refine Ex_V1p dX9_behind_23 sX9_119 hM.1 (Nat.le_of_ble_eq_true rfl) (c9_isS (d + 4) hM hW _) ?_
        refine Ex_if_neB (tgt := 32) dX9_behind_26 (by decide) (fun h26 => ?_) (fun h26 => ?_)
        · have hn8 := hW.2.1
          obtain ⟨n', hn', en⟩ := (rng_k (by omega)).mp h7
          have hcn : cl (nI n') = n' := cl_nI (by omega)
          subst en
          obtain ⟨w', hw', ew⟩ := nI_of h11
          subst ew
          have hcw : cl (nI w') = w' := cl_nI hw'
          have hwb : ¬ w' ≤ 2 := fun c => h16 (nI_le c (by omega))
          have hsb : w' - 3 < nS (I (M + 1)) := by
            have h := h26
            rw [pk_sub (by omega)] at h
            exact (inR_n (by omega) (by omega)).mp h
          have hyes : inR (nI w') (3 + nS (I (M + 1))) := (inR_n hw' (by omega)).mpr (by omega)
          refine Ex_aload_n dX9_behind_32 rfl ?_
          refine Ex_V0v dX9_behind_33 sX9_202 hM.1 (Nat.le_of_ble_eq_true rfl) (c9_thinks (d + 5) hM) ?_
          rintro _ _ ⟨rfl, rfl⟩
          have hT0 := Th_of (M := M) (I := I)
          have hg0 : rowI I (M + 8) (preF (I (M + 1)) (I (M + 8)) 144) (M + 1) = I (M + 1) := rowI_n (by omega)
          generalize rowI I (M + 8) (preF (I (M + 1)) (I (M + 8)) 144) = J0 at hT0 hg0 ⊢
          refine Ex_aload_n dX9_behind_36 rfl ?_
          refine Ex_iload_n dX9_behind_37 rfl ?_
          refine Ex_V1v dX9_behind_38 sX9_166 hM.1 (Nat.le_of_ble_eq_true rfl) (c9_goesOn d hM (n') (by rw [hg0]; exact hW) (by omega)) ?_
          rintro J _ ⟨hj1, hj2, rfl⟩
          rw [hg0] at hj1
          have hT1 := hT0.step hj2
          have hx144 : ∀ j, 144 ≤ j → J (M + 1) j = I (M + 1) j := fun j hj => by rw [hj1]; exact days_o hW (by omega) (by omega) (by omega) (by omega) (by omega) _
          refine Ex_iload_n dX9_behind_41 rfl ?_
          refine Ex_if_ne (tgt := 54) dX9_behind_42 (by decide) (fun h42 => ?_) (fun h42 => ?_)
          · refine Ex_iload_n dX9_behind_54 rfl ?_
            refine Ex_iconst (v := nI 1) dX9_behind_55 (by rfl) ?_
            refine Ex_icmp_ne (tgt := 69) dX9_behind_56 (by decide) (fun h56 => ?_) (fun h56 => ?_)
            · refine Ex_iload_n dX9_behind_69 rfl ?_
              refine Ex_iconst (v := nI 2) dX9_behind_70 (by rfl) ?_
              refine Ex_icmp_ne (tgt := 82) dX9_behind_71 (by decide) (fun h71 => ?_) (fun h71 => ?_)
              · refine Ex_aload_n dX9_behind_82 rfl ?_
                refine Ex_iload_n dX9_behind_83 rfl ?_
                refine Ex_iconst (v := nI 3) dX9_behind_84 (by rfl) ?_
                refine Ex_isub dX9_behind_85 ?_
                refine Ex_top (pk_sub (by omega)) ?_
                refine Ex_iconst (v := nI 2) dX9_behind_86 (by rfl) ?_
                refine Ex_V2p dX9_behind_87 sX9_105 hM.1 (Nat.le_of_ble_eq_true rfl) (c9_of (d + 5) hM (w' - 3) 2 (by omega)) ?_
                rw [hj1]
                refine Ex_istore_n dX9_behind_90 (by decide) rfl ?_
                simp only [st_n0, st_n1, st_n2, st_n3, List.set_cons_zero, List.set_cons_succ]
                refine Ex_aload_n dX9_behind_91 rfl ?_
                refine Ex_V0v dX9_behind_92 sX9_205 hM.1 (Nat.le_of_ble_eq_true rfl) (c9_putsBack (d + 5) hM) ?_
                rintro _ _ ⟨rfl, rfl⟩
                rw [back_eq hT1.1 hx144]
                refine Ex_iload_n dX9_behind_95 rfl ?_
                refine Ex_iret dX9_behind_96 (by first | rfl | exact narrow_bI) ?_
                exact ⟨_, rfl, (by unfold r_behind; rw [if_pos ⟨h7, hyes⟩, hcn, if_neg h42, if_neg h56, if_neg h71, hcw]), rowI_s, hT1.2.trans (Fr.row (Or.inl rfl)), rfl⟩
              · exact absurd ((nI_eq hw' (by omega)).mp h71) (by omega)
            · exact absurd ((nI_eq hw' (by omega)).mp h56) (by omega)
          · exact absurd ((nI_eq (b := 0) hw' (by omega)).mp h42) (by omega)
        · refine Ex_ldc dX9_behind_29 kX9_99 ?_
          refine Ex_iret dX9_behind_31 (by first | rfl | exact narrow_bI) ?_
          have hno : ¬ inR w (3 + nS (I (M + 1))) := fun q => by
            have hn8 := hW.2.1
            obtain ⟨w', hw', ew⟩ := (rng_k (by omega)).mp q
            have h3 : ¬ w' ≤ 2 := fun c => h16 (by rw [ew]; exact nI_le c (by omega))
            refine h26 ?_
            rw [ew, pk_sub (by omega)]
            exact (inR_n (by omega) (by omega)).mpr (by omega)
          exact ⟨_, rfl, (by unfold r_behind; rw [if_neg (fun q => hno q.2)]), rfl, Fr.refl, rfl⟩
/-- the first day from k on, of i, behind which a row doesn't lie -/
def gn (g row : Nat → Int32) (z s : Nat) : Nat → Nat → Nat
  | 0, k => k
  | i + 1, k => if prF (daysG g k) row z s = z then gn g row z s i (k + 1) else k
def gnF (g row : Nat → Int32) (z s : Nat) : Nat := gn g row z s 201 0
theorem gn_le {g row : Nat → Int32} {z s : Nat} : ∀ i k, gn g row z s i k ≤ k + i
  | 0, _ => Nat.le_refl _
  | i + 1, k => by
    have := gn_le (g := g) (row := row) (z := z) (s := s) i (k + 1)
    unfold gn
    split <;> omega
set_option maxRecDepth 100000 in
set_option maxHeartbeats 4000000 in
theorem l9_goneFrom {T : TC} {I : MI} {G : MG} {b : Nat × Nat} (d : Nat) {M : Nat} (hM : MSh T G M) (g g1 row : Nat → Int32) (hW1 : WfG g1) (hx : ∀ j, 144 ≤ j → g1 j = g j) (s z : Nat) (hs : s < 8) (hz : z ≤ 24) : ∀ i k J, k + i = 201 → J (M + 1) = daysG g1 k → Th M g I J → RwI J M row z → gn g1 row z s i k = gnF g1 row z s → Ex T RX9 cX9_goneFrom 3 (d + 5) (fm T "goneFrom" (some .int) (fun v I' G' => ∃ r, v = some (.int r) ∧ r = nI (gnF g1 row z s) ∧ I' (M + 1) = g ∧ Th M g I I' ∧ RwI I' M row z ∧ G' = G)) 2 [some (.ref M), some (.int (nI s)), some (.int (nI k))] [] J G b := by
  intro i
  induction i with
  | zero =>
    intro k J h0 h1 hT hR hgn
    have hgn : k = gnF g1 row z s := hgn
    refine Ex_iload_n dX9_goneFrom_2 rfl ?_
    refine Ex_sipush (v := nI 200) dX9_goneFrom_3 (by rfl) ?_
    refine Ex_icmp_gtN (by omega) (by omega) (tgt := 27) dX9_goneFrom_6 (by decide) (fun h6 => ?_) (fun h6 => ?_)
    · refine Ex_aload_n dX9_goneFrom_27 rfl ?_
      refine Ex_V0v dX9_goneFrom_28 sX9_205 hM.1 (Nat.le_of_ble_eq_true rfl) (c9_putsBack (d + 4) hM) ?_
      rintro _ _ ⟨rfl, rfl⟩
      rw [back_eq hT.1 (fun j hj => by rw [h1, days_o hW1 (by omega) (by omega) (by omega) (by omega) (by omega)]; exact hx j hj)]
      refine Ex_iload_n dX9_goneFrom_31 rfl ?_
      refine Ex_iret dX9_goneFrom_32 (by first | rfl | exact narrow_bI) ?_
      exact ⟨_, rfl, (by rw [hgn]), rowI_s, hT.row, ⟨by rw [rowI_n (by omega)]; exact hR.1, fun q hq => by rw [rowI_n (by omega)]; exact hR.2 q hq⟩, rfl⟩
    · omega
  | succ i ih =>
    intro k J h0 h1 hT hR hgn
    have hgs : gn g1 row z s (i + 1) k = if prF (daysG g1 k) row z s = z then gn g1 row z s i (k + 1) else k := rfl
    obtain ⟨hm1, hm2, -, -⟩ := (WfG_days hW1 k).2.2.1 s hs
    refine Ex_iload_n dX9_goneFrom_2 rfl ?_
    refine Ex_sipush (v := nI 200) dX9_goneFrom_3 (by rfl) ?_
    refine Ex_icmp_gtN (by omega) (by omega) (tgt := 27) dX9_goneFrom_6 (by decide) (fun h6 => ?_) (fun h6 => ?_)
    · omega
    · refine Ex_aload_n dX9_goneFrom_9 rfl ?_
      refine Ex_iload_n dX9_goneFrom_10 rfl ?_
      refine Ex_V1p dX9_goneFrom_11 sX9_187 hM.1 (Nat.le_of_ble_eq_true rfl) (c9_doesLie (d + 2) hM s z (mN (daysG g1 k) s) hs hR.1 hz (by rw [h1]; exact hm1) hm2) ?_
      refine Ex_if_eqB (tgt := 27) dX9_goneFrom_14 (by decide) (fun h14 => ?_) (fun h14 => ?_)
      · rw [hgs, if_neg (by rw [← prF_eq hR h1 rfl]; exact h14)] at hgn
        refine Ex_aload_n dX9_goneFrom_27 rfl ?_
        refine Ex_V0v dX9_goneFrom_28 sX9_205 hM.1 (Nat.le_of_ble_eq_true rfl) (c9_putsBack (d + 4) hM) ?_
        rintro _ _ ⟨rfl, rfl⟩
        rw [back_eq hT.1 (fun j hj => by rw [h1, days_o hW1 (by omega) (by omega) (by omega) (by omega) (by omega)]; exact hx j hj)]
        refine Ex_iload_n dX9_goneFrom_31 rfl ?_
        refine Ex_iret dX9_goneFrom_32 (by first | rfl | exact narrow_bI) ?_
        exact ⟨_, rfl, (by rw [hgn]), rowI_s, hT.row, ⟨by rw [rowI_n (by omega)]; exact hR.1, fun q hq => by rw [rowI_n (by omega)]; exact hR.2 q hq⟩, rfl⟩
      · refine Ex_aload_n dX9_goneFrom_17 rfl ?_
        refine Ex_V0v dX9_goneFrom_18 sX9_163 hM.1 (Nat.le_of_ble_eq_true rfl) (c9_day d hM (by rw [h1]; exact WfG_days hW1 k)) ?_
        rintro J2 _ ⟨hj, hf, rfl⟩
        first | refine Ex_iincN (m := 1) dX9_goneFrom_21 rfl rfl (by decide) rfl ?_ | refine Ex_iinc dX9_goneFrom_21 rfl rfl (by decide) rfl ?_
        simp only [List.set_cons_zero, List.set_cons_succ]
        refine Ex_goto (tgt := 2) dX9_goneFrom_24 (by decide) ?_
        refine ih (k + 1) J2 (by omega) (by rw [hj, h1]; rfl) (hT.step hf) ⟨by rw [hf _ (by unfold Pd; omega)]; exact hR.1, fun q hq => by rw [hf _ (by unfold Pd; omega)]; exact hR.2 q hq⟩ ?_
        rw [hgs, if_pos (by rw [← prF_eq hR h1 rfl]; exact h14)] at hgn
        exact hgn
set_option maxRecDepth 100000 in
set_option maxHeartbeats 4000000 in
theorem c9_goneFrom {T : TC} {I : MI} {G : MG} (d : Nat) {I0 : MI} {M : Nat} (hM : MSh T G M) (g g1 row : Nat → Int32) (s z : Nat) (hW1 : WfG g1) (hg1 : I (M + 1) = g1) (hx : ∀ j, 144 ≤ j → g1 j = g j) (hT : Th M g I0 I) (hR : RwI I M row z) (hs : s < 8) (hz : z ≤ 24) : OkI T mX9_goneFrom (d + 5) [.ref M, .int (nI s)] I G (fun r I' G' => r = nI (gnF g1 row z s) ∧ I' (M + 1) = g ∧ Th M g I0 I' ∧ RwI I' M row z ∧ G' = G) := by
  refine Ok_of (own := RX9) (by decide) rfl (cat1 rfl) (Nat.le_of_ble_eq_true rfl) ?_
  show Ex T RX9 cX9_goneFrom 3 (d + 5) _ 0 [some (.ref M), some (.int (nI s)), none] [] I G (0, 0)
  refine Ex_iconst (v := nI 0) dX9_goneFrom_0 (by rfl) ?_
  refine Ex_istore_n dX9_goneFrom_1 (by decide) rfl ?_
  simp only [st_n0, st_n1, st_n2, st_n3, List.set_cons_zero, List.set_cons_succ]
  exact l9_goneFrom d hM g g1 row hW1 hx s z hs hz 201 0 I (by omega) hg1 hT hR rfl
def r_gone (g so : Nat → Int32) (sz : Nat → Nat) (ce : Nat → Nat → Int32) (s u : Int32) : Int32 := if inR s 4 ∧ inR u (nS g) then (if so (cl s) < 0 then cNOTHING else if rowP (ce (cl s)) (sz (cl s)) then (if gnF g (ce (cl s)) (sz (cl s)) (cl u) ≤ 200 then nI (gnF g (ce (cl s)) (sz (cl s)) (cl u)) else cNONE) else cSIZE) else cBAD
theorem Kr_Th {M : Nat} {g : Nat → Int32} {I J K : MI} (hK : Kr M (fun _ => False) I J) (hT : Th M g J K) : Kr M (Pt M) I K :=
  ⟨fun j hj => by rw [hT.2 _ (by unfold Pt; omega)]; exact hK.1 j hj, (hK.2.mono (fun a h => h.elim Or.inl (fun h => Or.inr (h.elim Or.inl (fun h => h.elim))))).trans (hT.2.mono (fun a h => Or.inr (Or.inr h)))⟩
theorem Kr_w {M : Nat} {I J : MI} (hK : Kr M (fun _ => False) I J) {P : Nat → Prop} : Kr M P I J := ⟨hK.1, hK.2.mono (fun a h => h.elim Or.inl (fun h => Or.inr (h.elim Or.inl (fun h => h.elim))))⟩
set_option maxRecDepth 100000 in
set_option maxHeartbeats 4000000 in
theorem C9_gone {T : TC} {I : MI} {G : MG} (d : Nat) {M : Nat} (hM : MSh T G M) (hW : WfG (I (M + 1))) (sz : Nat → Nat) (hz : SzR I M sz) (s u : Int32)  : OkI T mX9_gone (d + 6) [.ref M, .int s, .int u] I G (fun r I' G' => r = r_gone (I (M + 1)) (I (M + 18)) sz (fun s k => I (M + 20) (24 * s + k)) s u ∧ I' (M + 1) = I (M + 1) ∧ Kr M (Pt M) I I' ∧ G' = G) := by
  refine Ok_of (own := RX9) (by decide) rfl (cat1 rfl) (Nat.le_of_ble_eq_true rfl) ?_
  show Ex T RX9 cX9_gone 4 (d + 6) _ 0 [some (.ref M), some (.int s), some (.int u), none] [] I G (0, 0)
  refine Ex_iload_n dX9_gone_0 rfl ?_
  refine Ex_S1p dX9_gone_1 sX9_179  (Nat.le_of_ble_eq_true rfl) (c9_isSheet (d + 4) _) ?_
  refine Ex_if_eqB (tgt := 15) dX9_gone_4 (by decide) (fun h4 => ?_) (fun h4 => ?_)
  · refine Ex_ldc dX9_gone_15 kX9_99 ?_
    refine Ex_iret dX9_gone_17 (by first | rfl | exact narrow_bI) ?_
    exact ⟨_, rfl, (by unfold r_gone; rw [if_neg (fun q => h4 q.1)]), rfl, Kr.refl, rfl⟩
  · refine Ex_aload_n dX9_gone_7 rfl ?_
    refine Ex_iload_n dX9_gone_8 rfl ?_
    refine Ex_V1p dX9_gone_9 sX9_119 hM.1 (Nat.le_of_ble_eq_true rfl) (c9_isS (d + 4) hM hW _) ?_
    refine Ex_if_neB (tgt := 18) dX9_gone_12 (by decide) (fun h12 => ?_) (fun h12 => ?_)
    · obtain ⟨s', hs', e4⟩ := (rng_k (by omega)).mp h4
      have hcl : cl (nI s') = s' := cl_nI (by omega)
      subst e4
      refine Ex_aload_n dX9_gone_18 rfl ?_
      refine Ex_getr dX9_gone_19 fX9_64 hM.1 (mF29 hM).1 ?_
      refine Ex_iload_n dX9_gone_22 rfl ?_
      refine Ex_iald dX9_gone_23 (mF29 hM).2.1 rfl (by rw [(mF29 hM).2.2]; omega) (by rw [(mF29 hM).2.2]; decide) ?_
      refine Ex_if_ge (tgt := 30) dX9_gone_24 (by decide) (fun h24 => ?_) (fun h24 => ?_)
      · obtain ⟨hz1, hz2⟩ := hz s' hs'
        refine Ex_aload_n dX9_gone_30 rfl ?_
        refine Ex_iload_n dX9_gone_31 rfl ?_
        refine Ex_V1i dX9_gone_32 sX9_183 hM.1 (Nat.le_of_ble_eq_true rfl) (c9_isRowOf (d + 3) hM s' (sz s') hs' hz1 hz2) ?_
        rintro r J _ ⟨rfl, hJ, rfl⟩
        have hR : RwI J M (fun k => I (M + 20) (24 * s' + k)) (sz s') := by rw [hJ]; exact RwI_of
        have hg : J (M + 1) = I (M + 1) := by rw [hJ, rowI_n (by omega), rowI_n (by omega)]
        have hK : Kr M (fun _ => False) I J := by rw [hJ]; exact Kr_row
        refine Ex_if_neB (tgt := 41) dX9_gone_35 (by decide) (fun h35 => ?_) (fun h35 => ?_)
        · obtain ⟨u', hu', eu⟩ := (rng_k (by have := hW.2.1; omega)).mp h12
          have hcu : cl (nI u') = u' := cl_nI (by have := hW.2.1; omega)
          subst eu
          have hu8 : u' < 8 := by have := hW.2.1; omega
          obtain ⟨hm1, hm2, -, -⟩ := hW.2.2.1 u' hu8
          have hgb : gnF (I (M + 1)) (fun k => I (M + 20) (24 * s' + k)) (sz s') u' ≤ 201 := gn_le 201 0
          refine Ex_aload_n dX9_gone_41 rfl ?_
          refine Ex_V0v dX9_gone_42 sX9_202 hM.1 (Nat.le_of_ble_eq_true rfl) (c9_thinks (d + 5) hM) ?_
          rintro _ _ ⟨rfl, rfl⟩
          have hT0 := Th_of (M := M) (I := J)
          have hg0 : rowI J (M + 8) (preF (J (M + 1)) (J (M + 8)) 144) (M + 1) = I (M + 1) := (rowI_n (by omega)).trans hg
          have hR0 : RwI (rowI J (M + 8) (preF (J (M + 1)) (J (M + 8)) 144)) M (fun k => I (M + 20) (24 * s' + k)) (sz s') := ⟨by rw [rowI_n (by omega)]; exact hR.1, fun q hq => by rw [rowI_n (by omega)]; exact hR.2 q hq⟩
          generalize rowI J (M + 8) (preF (J (M + 1)) (J (M + 8)) 144) = J0 at hT0 hg0 hR0 ⊢
          rw [hg] at hT0
          refine Ex_aload_n dX9_gone_45 rfl ?_
          refine Ex_iload_n dX9_gone_46 rfl ?_
          refine Ex_V1i dX9_gone_47 sX9_208 hM.1 (Nat.le_of_ble_eq_true rfl) (c9_goneFrom d hM (I (M + 1)) (I (M + 1)) _ u' (sz s') hW hg0 (fun _ _ => rfl) hT0 hR0 hu8 hz2) ?_
          rintro r J3 _ ⟨rfl, hg3, hT3, hR3, rfl⟩
          refine Ex_istore_n dX9_gone_50 (by decide) rfl ?_
          simp only [st_n0, st_n1, st_n2, st_n3, List.set_cons_zero, List.set_cons_succ]
          refine Ex_iload_n dX9_gone_51 rfl ?_
          refine Ex_sipush (v := nI 200) dX9_gone_52 (by rfl) ?_
          refine Ex_icmp_leN (by omega) (by omega) (tgt := 63) dX9_gone_55 (by decide) (fun h55 => ?_) (fun h55 => ?_)
          · refine Ex_iload_n dX9_gone_63 rfl ?_
            refine Ex_iret dX9_gone_64 (by first | rfl | exact narrow_bI) ?_
            exact ⟨_, rfl, (by unfold r_gone; rw [if_pos ⟨h4, h12⟩, hcl, if_neg (Int32.not_lt.mpr h24), if_pos h35, hcu, if_pos (by omega)]), hg3, Kr_Th hK hT3, rfl⟩
          · refine Ex_ldc dX9_gone_58 kX9_133 ?_
            refine Ex_goto (tgt := 64) dX9_gone_60 (by decide) ?_
            refine Ex_iret dX9_gone_64 (by first | rfl | exact narrow_bI) ?_
            exact ⟨_, rfl, (by unfold r_gone; rw [if_pos ⟨h4, h12⟩, hcl, if_neg (Int32.not_lt.mpr h24), if_pos h35, hcu, if_neg (by omega)]), hg3, Kr_Th hK hT3, rfl⟩
        · refine Ex_ldc dX9_gone_38 kX9_186 ?_
          refine Ex_iret dX9_gone_40 (by first | rfl | exact narrow_bI) ?_
          exact ⟨_, rfl, (by unfold r_gone; rw [if_pos ⟨h4, h12⟩, hcl, if_neg (Int32.not_lt.mpr h24), if_neg h35]), hg, Kr_w hK, rfl⟩
      · refine Ex_ldc dX9_gone_27 kX9_182 ?_
        refine Ex_iret dX9_gone_29 (by first | rfl | exact narrow_bI) ?_
        exact ⟨_, rfl, (by unfold r_gone; rw [if_pos ⟨h4, h12⟩, hcl, if_pos (Int32.not_le.mp h24)]), rfl, Kr.refl, rfl⟩
    · refine Ex_ldc dX9_gone_15 kX9_99 ?_
      refine Ex_iret dX9_gone_17 (by first | rfl | exact narrow_bI) ?_
      exact ⟨_, rfl, (by unfold r_gone; rw [if_neg (fun q => h12 q.2)]), rfl, Kr.refl, rfl⟩
def stG (g : Nat → Int32) (s : Nat) (row : Nat → Int32) : Nat → (Nat → Int32)
  | 0 => g
  | k + 1 => settleG (stG g s row k) s (mN (stG g s row k) s) (row k)
def sfB (g row : Nat → Int32) (z : Nat) : Nat → Int32 × Int32
  | 0 => ((-1), (-1))
  | s + 1 => if (sfB g row z s).2 < nI (gnF (stG g s row z) row z s) then (nI s, nI (gnF (stG g s row z) row z s)) else sfB g row z s
def r_safe (g so : Nat → Int32) (sz : Nat → Nat) (ce : Nat → Nat → Int32) (s w : Int32) : Int32 := if inR s 4 ∧ inR w 2 then (if so (cl s) < 0 then cNOTHING else if rowP (ce (cl s)) (sz (cl s)) ∧ sz (cl s) ≤ 12 then (if (sfB g (ce (cl s)) (sz (cl s)) (nS g)).1 < 0 then cNONE else if w = 0 then (sfB g (ce (cl s)) (sz (cl s)) (nS g)).1 else (sfB g (ce (cl s)) (sz (cl s)) (nS g)).2) else cSIZE) else cBAD
theorem WfG_st {g row : Nat → Int32} {s z : Nat} (hs : s < 8) (hw : WfG g) (hr : rowP row z) : ∀ k, k ≤ z → WfG (stG g s row k)
  | 0, _ => hw
  | k + 1, h => by
    have ih := WfG_st hs hw hr k (by omega)
    obtain ⟨e, he, hre⟩ := (rng_k (by omega)).mp (hr k (by omega))
    show WfG (settleG (stG g s row k) s (mN (stG g s row k) s) (row k))
    rw [hre]
    exact WfG_settle hs ih he
theorem st_o {g row : Nat → Int32} {s z j : Nat} (hs : s < 8) (hw : WfG g) (hr : rowP row z) (hj : j < 8 ∨ 144 ≤ j) : ∀ k, k ≤ z → stG g s row k j = g j
  | 0, _ => rfl
  | k + 1, h => by
    show settleG (stG g s row k) s (mN (stG g s row k) s) (row k) j = g j
    rw [settle_o (by omega) ((WfG_st hs hw hr k (by omega)).2.2.1 s hs).2.1]
    exact st_o hs hw hr hj k (by omega)
set_option maxRecDepth 100000 in
set_option maxHeartbeats 4000000 in
theorem l9_safe1 {T : TC} {I : MI} {G : MG} {F : FinT} {b : Nat × Nat} (d : Nat) {M : Nat} (hM : MSh T G M) (g row : Nat → Int32) (hW : WfG g) (z n : Nat) (hz : z ≤ 12) (hr : rowP row z) (hn1 : g 1 = nI n) (hn8 : n ≤ 8) (x1 w : Int32) (s : Nat) (hs : s < n) (bst : Int32 × Int32) (kx : ∀ J, J (M + 1) = stG g s row z → Th M g I J → RwI J M row z → Ex T RX9 cX9_safe 7 (d + 6) F 77 [some (.ref M), some (.int x1), some (.int w), some (.int bst.1), some (.int bst.2), some (.int (nI s)), some (.int (nI z))] [] J G b) : ∀ t k J, k + t = z → J (M + 1) = stG g s row k → Th M g I J → RwI J M row z → Ex T RX9 cX9_safe 7 (d + 6) F 77 [some (.ref M), some (.int x1), some (.int w), some (.int bst.1), some (.int bst.2), some (.int (nI s)), some (.int (nI k))] [] J G b := by
  intro t
  induction t with
  | zero => intro k J h0 h1 hT hR; have e0 : k = z := by omega
            subst e0; exact kx J h1 hT hR
  | succ t ih =>
    intro k J h0 h1 hT hR
    obtain ⟨hm1, hm2, -, -⟩ := (WfG_st (by omega : s < 8) hW hr k (by omega)).2.2.1 s (by omega)
    refine Ex_iload dX9_safe_77 rfl ?_
    refine Ex_aload_n dX9_safe_79 rfl ?_
    refine Ex_geti dX9_safe_80 fX9_172 hM.1 ?_
    refine Ex_top hR.1 ?_
    refine Ex_icmp_geN (by omega) (by omega) (tgt := 105) dX9_safe_83 (by decide) (fun h83 => ?_) (fun h83 => ?_)
    · omega
    · refine Ex_aload_n dX9_safe_86 rfl ?_
      refine Ex_iload dX9_safe_87 rfl ?_
      refine Ex_aload_n dX9_safe_89 rfl ?_
      refine Ex_getr dX9_safe_90 fX9_19 hM.1 (mF4 hM).1 ?_
      refine Ex_iload dX9_safe_93 rfl ?_
      refine Ex_iald dX9_safe_95 (mF4 hM).2.1 rfl (by rw [(mF4 hM).2.2]; omega) (by rw [(mF4 hM).2.2]; decide) ?_
      refine Ex_top (hR.2 k (by omega)) ?_
      refine Ex_V2v dX9_safe_96 sX9_147 hM.1 (Nat.le_of_ble_eq_true rfl) (c9_settlesOn (d + 3) hM s (mN (stG g s row k) s) (row k) (by rw [h1]; exact hm1) (by omega) hm2) ?_
      rintro _ _ ⟨rfl, rfl⟩
      rw [h1]
      first | refine Ex_iincN (m := 1) dX9_safe_99 rfl rfl (by decide) rfl ?_ | refine Ex_iinc dX9_safe_99 rfl rfl (by decide) rfl ?_
      simp only [List.set_cons_zero, List.set_cons_succ]
      refine Ex_goto (tgt := 77) dX9_safe_102 (by decide) ?_
      exact ih (k + 1) _ (by omega) (by rw [rowI_s]; rfl) hT.row ⟨by rw [rowI_n (by omega)]; exact hR.1, fun q hq => by rw [rowI_n (by omega)]; exact hR.2 q hq⟩
set_option maxRecDepth 100000 in
set_option maxHeartbeats 4000000 in
theorem l9_safe2 {T : TC} {I : MI} {G : MG} {F : FinT} {b : Nat × Nat} (d : Nat) {M : Nat} (hM : MSh T G M) (g row : Nat → Int32) (hW : WfG g) (z n : Nat) (hz : z ≤ 12) (hr : rowP row z) (hn1 : g 1 = nI n) (hn8 : n ≤ 8) (x1 w : Int32) (kx : ∀ J, J (M + 1) = g → Th M g I J → RwI J M row z → Ex T RX9 cX9_safe 7 (d + 6) F 63 [some (.ref M), some (.int x1), some (.int w), some (.int (sfB g row z n).1), some (.int (sfB g row z n).2), some (.int (nI n)), none] [] J G b) : ∀ t s J, s + t = n → J (M + 1) = g → Th M g I J → RwI J M row z → Ex T RX9 cX9_safe 7 (d + 6) F 63 [some (.ref M), some (.int x1), some (.int w), some (.int (sfB g row z s).1), some (.int (sfB g row z s).2), some (.int (nI s)), none] [] J G b := by
  intro t
  induction t with
  | zero => intro s J h0 h1 hT hR; have e0 : s = n := by omega
            subst e0; exact kx J h1 hT hR
  | succ t ih =>
    intro s J h0 h1 hT hR
    have es : sfB g row z (s + 1) = if (sfB g row z s).2 < nI (gnF (stG g s row z) row z s) then (nI s, nI (gnF (stG g s row z) row z s)) else sfB g row z s := rfl
    refine Ex_iload dX9_safe_63 rfl ?_
    refine Ex_aload_n dX9_safe_65 rfl ?_
    refine Ex_getr dX9_safe_66 fX9_9 hM.1 (mF0 hM).1 ?_
    refine Ex_iconst (v := nI 1) dX9_safe_69 (by rfl) ?_
    refine Ex_iald dX9_safe_70 (mF0 hM).2.1 rfl (by rw [(mF0 hM).2.2]; omega) (by rw [(mF0 hM).2.2]; decide) ?_
    refine Ex_top (show _ = nI n by rw [h1]; exact hn1) ?_
    refine Ex_icmp_geN (by omega) (by omega) (tgt := 149) dX9_safe_71 (by decide) (fun h71 => ?_) (fun h71 => ?_)
    · omega
    · refine Ex_iconst (v := nI 0) dX9_safe_74 (by rfl) ?_
      refine Ex_istore dX9_safe_75 (by decide) rfl ?_
      simp only [List.set_cons_zero, List.set_cons_succ]
      refine l9_safe1 d hM g row hW z n hz hr hn1 hn8 x1 w s (by omega) (sfB g row z s) ?_ z 0 J (by omega) h1 hT hR
      intro J2 h12 hT2 hR2
      refine Ex_iload dX9_safe_77 rfl ?_
      refine Ex_aload_n dX9_safe_79 rfl ?_
      refine Ex_geti dX9_safe_80 fX9_172 hM.1 ?_
      refine Ex_top hR2.1 ?_
      refine Ex_icmp_geN (by omega) (by omega) (tgt := 105) dX9_safe_83 (by decide) (fun h83 => ?_) (fun h83 => ?_)
      · refine Ex_aload_n dX9_safe_105 rfl ?_
        refine Ex_iload dX9_safe_106 rfl ?_
        refine Ex_V1i dX9_safe_108 sX9_208 hM.1 (Nat.le_of_ble_eq_true rfl) (c9_goneFrom d hM g (stG g s row z) row s z (WfG_st (by omega) hW hr z (Nat.le_refl _)) h12 (fun j hj => st_o (by omega) hW hr (by omega) z (Nat.le_refl _)) hT2 hR2 (by omega) (by omega)) ?_
        rintro r J3 _ ⟨rfl, hg3, hT3, hR3, rfl⟩
        refine Ex_istore dX9_safe_111 (by decide) rfl ?_
        simp only [List.set_cons_zero, List.set_cons_succ]
        refine Ex_iload dX9_safe_113 rfl ?_
        refine Ex_iload dX9_safe_115 rfl ?_
        refine Ex_icmp_le (tgt := 125) dX9_safe_117 (by decide) (fun h117 => ?_) (fun h117 => ?_)
        · refine Ex_iload_n dX9_safe_125 rfl ?_
          refine Ex_istore_n dX9_safe_126 (by decide) rfl ?_
          simp only [st_n0, st_n1, st_n2, st_n3, List.set_cons_zero, List.set_cons_succ]
          refine Ex_iload dX9_safe_127 rfl ?_
          refine Ex_iload dX9_safe_129 rfl ?_
          refine Ex_icmp_le (tgt := 139) dX9_safe_131 (by decide) (fun h131 => ?_) (fun h131 => ?_)
          · refine Ex_iload dX9_safe_139 rfl ?_
            refine Ex_istore dX9_safe_141 (by decide) rfl ?_
            simp only [List.set_cons_zero, List.set_cons_succ]
            first | refine Ex_iincN (m := 1) dX9_safe_143 rfl rfl (by decide) rfl ?_ | refine Ex_iinc dX9_safe_143 rfl rfl (by decide) rfl ?_
            simp only [List.set_cons_zero, List.set_cons_succ]
            refine Ex_goto (tgt := 63) dX9_safe_146 (by decide) ?_
            refine Ex_drop 6 ?_
            simp only [st_n0, st_n1, st_n2, st_n3, List.set_cons_zero, List.set_cons_succ]
            have key := ih (s + 1) J3 (by omega) hg3 hT3 hR3
            rw [es, if_neg (Int32.not_lt.mpr h117)] at key
            exact key
          · exact absurd h117 h131
        · refine Ex_iload dX9_safe_120 rfl ?_
          refine Ex_goto (tgt := 126) dX9_safe_122 (by decide) ?_
          refine Ex_istore_n dX9_safe_126 (by decide) rfl ?_
          simp only [st_n0, st_n1, st_n2, st_n3, List.set_cons_zero, List.set_cons_succ]
          refine Ex_iload dX9_safe_127 rfl ?_
          refine Ex_iload dX9_safe_129 rfl ?_
          refine Ex_icmp_le (tgt := 139) dX9_safe_131 (by decide) (fun h131 => ?_) (fun h131 => ?_)
          · exact absurd h131 h117
          · refine Ex_iload dX9_safe_134 rfl ?_
            refine Ex_goto (tgt := 141) dX9_safe_136 (by decide) ?_
            refine Ex_istore dX9_safe_141 (by decide) rfl ?_
            simp only [List.set_cons_zero, List.set_cons_succ]
            first | refine Ex_iincN (m := 1) dX9_safe_143 rfl rfl (by decide) rfl ?_ | refine Ex_iinc dX9_safe_143 rfl rfl (by decide) rfl ?_
            simp only [List.set_cons_zero, List.set_cons_succ]
            refine Ex_goto (tgt := 63) dX9_safe_146 (by decide) ?_
            refine Ex_drop 6 ?_
            simp only [st_n0, st_n1, st_n2, st_n3, List.set_cons_zero, List.set_cons_succ]
            have key := ih (s + 1) J3 (by omega) hg3 hT3 hR3
            rw [es, if_pos (Int32.not_le.mp h117)] at key
            exact key
      · omega
set_option maxRecDepth 100000 in
set_option maxHeartbeats 4000000 in
theorem C9_safe {T : TC} {I : MI} {G : MG} (d : Nat) {M : Nat} (hM : MSh T G M) (hW : WfG (I (M + 1))) (sz : Nat → Nat) (hz : SzR I M sz) (s w : Int32)  : OkI T mX9_safe (d + 6) [.ref M, .int s, .int w] I G (fun r I' G' => r = r_safe (I (M + 1)) (I (M + 18)) sz (fun s k => I (M + 20) (24 * s + k)) s w ∧ I' (M + 1) = I (M + 1) ∧ Kr M (Pt M) I I' ∧ G' = G) := by
  refine Ok_of (own := RX9) (by decide) rfl (cat1 rfl) (Nat.le_of_ble_eq_true rfl) ?_
  show Ex T RX9 cX9_safe 7 (d + 6) _ 0 [some (.ref M), some (.int s), some (.int w), none, none, none, none] [] I G (0, 0)
  refine Ex_iload_n dX9_safe_0 rfl ?_
  refine Ex_S1p dX9_safe_1 sX9_179  (Nat.le_of_ble_eq_true rfl) (c9_isSheet (d + 4) _) ?_
  refine Ex_if_eqB (tgt := 16) dX9_safe_4 (by decide) (fun h4 => ?_) (fun h4 => ?_)
  · refine Ex_ldc dX9_safe_16 kX9_99 ?_
    refine Ex_iret dX9_safe_18 (by first | rfl | exact narrow_bI) ?_
    exact ⟨_, rfl, (by unfold r_safe; rw [if_neg (fun q => h4 q.1)]), rfl, Kr.refl, rfl⟩
  · refine Ex_iload_n dX9_safe_7 rfl ?_
    refine Ex_iconst (v := nI 0) dX9_safe_8 (by rfl) ?_
    refine Ex_iconst (v := nI 1) dX9_safe_9 (by rfl) ?_
    refine Ex_S3p dX9_safe_10 sX9_91  (Nat.le_of_ble_eq_true rfl) (c9_inR (d + 5) _ 1 (by omega)) ?_
    refine Ex_if_neB (tgt := 19) dX9_safe_13 (by decide) (fun h13 => ?_) (fun h13 => ?_)
    · obtain ⟨s', hs', e4⟩ := (rng_k (by omega)).mp h4
      have hcl : cl (nI s') = s' := cl_nI (by omega)
      subst e4
      refine Ex_aload_n dX9_safe_19 rfl ?_
      refine Ex_getr dX9_safe_20 fX9_64 hM.1 (mF29 hM).1 ?_
      refine Ex_iload_n dX9_safe_23 rfl ?_
      refine Ex_iald dX9_safe_24 (mF29 hM).2.1 rfl (by rw [(mF29 hM).2.2]; omega) (by rw [(mF29 hM).2.2]; decide) ?_
      refine Ex_if_ge (tgt := 31) dX9_safe_25 (by decide) (fun h25 => ?_) (fun h25 => ?_)
      · obtain ⟨hz1, hz2⟩ := hz s' hs'
        have hn8 := hW.2.1
        refine Ex_aload_n dX9_safe_31 rfl ?_
        refine Ex_iload_n dX9_safe_32 rfl ?_
        refine Ex_V1i dX9_safe_33 sX9_183 hM.1 (Nat.le_of_ble_eq_true rfl) (c9_isRowOf (d + 3) hM s' (sz s') hs' hz1 hz2) ?_
        rintro r J _ ⟨rfl, hJ, rfl⟩
        have hR : RwI J M (fun k => I (M + 20) (24 * s' + k)) (sz s') := by rw [hJ]; exact RwI_of
        have hg : J (M + 1) = I (M + 1) := by rw [hJ, rowI_n (by omega), rowI_n (by omega)]
        have hK : Kr M (fun _ => False) I J := by rw [hJ]; exact Kr_row
        refine Ex_if_eqB (tgt := 48) dX9_safe_36 (by decide) (fun h36 => ?_) (fun h36 => ?_)
        · refine Ex_ldc dX9_safe_48 kX9_186 ?_
          refine Ex_iret dX9_safe_50 (by first | rfl | exact narrow_bI) ?_
          exact ⟨_, rfl, (by unfold r_safe; rw [if_pos ⟨h4, h13⟩, hcl, if_neg (Int32.not_lt.mpr h25), if_neg (fun q => h36 q.1)]), hg, Kr_w hK, rfl⟩
        · refine Ex_aload_n dX9_safe_39 rfl ?_
          refine Ex_geti dX9_safe_40 fX9_172 hM.1 ?_
          refine Ex_top hR.1 ?_
          refine Ex_bipush (v := nI 12) dX9_safe_43 (by rfl) ?_
          refine Ex_icmp_leN (by omega) (by omega) (tgt := 51) dX9_safe_45 (by decide) (fun h45 => ?_) (fun h45 => ?_)
          · refine Ex_aload_n dX9_safe_51 rfl ?_
            refine Ex_V0v dX9_safe_52 sX9_202 hM.1 (Nat.le_of_ble_eq_true rfl) (c9_thinks (d + 5) hM) ?_
            rintro _ _ ⟨rfl, rfl⟩
            have hT0 := Th_of (M := M) (I := J)
            have hg0 : rowI J (M + 8) (preF (J (M + 1)) (J (M + 8)) 144) (M + 1) = I (M + 1) := (rowI_n (by omega)).trans hg
            have hR0 : RwI (rowI J (M + 8) (preF (J (M + 1)) (J (M + 8)) 144)) M (fun k => I (M + 20) (24 * s' + k)) (sz s') := ⟨by rw [rowI_n (by omega)]; exact hR.1, fun q hq => by rw [rowI_n (by omega)]; exact hR.2 q hq⟩
            generalize rowI J (M + 8) (preF (J (M + 1)) (J (M + 8)) 144) = J0 at hT0 hg0 hR0 ⊢
            rw [hg] at hT0
            refine Ex_iconst (v := (-1)) dX9_safe_55 (by rfl) ?_
            refine Ex_istore_n dX9_safe_56 (by decide) rfl ?_
            simp only [st_n0, st_n1, st_n2, st_n3, List.set_cons_zero, List.set_cons_succ]
            refine Ex_iconst (v := (-1)) dX9_safe_57 (by rfl) ?_
            refine Ex_istore dX9_safe_58 (by decide) rfl ?_
            simp only [List.set_cons_zero, List.set_cons_succ]
            refine Ex_iconst (v := nI 0) dX9_safe_60 (by rfl) ?_
            refine Ex_istore dX9_safe_61 (by decide) rfl ?_
            simp only [List.set_cons_zero, List.set_cons_succ]
            refine l9_safe2 d hM (I (M + 1)) (fun k => I (M + 20) (24 * s' + k)) hW (sz s') (nS (I (M + 1))) h45 h36 hW.1 hn8 _ w ?_ (nS (I (M + 1))) 0 J0 (by omega) hg0 hT0 hR0
            intro J3 g1 g2 g3
            refine Ex_iload dX9_safe_63 rfl ?_
            refine Ex_aload_n dX9_safe_65 rfl ?_
            refine Ex_getr dX9_safe_66 fX9_9 hM.1 (mF0 hM).1 ?_
            refine Ex_iconst (v := nI 1) dX9_safe_69 (by rfl) ?_
            refine Ex_iald dX9_safe_70 (mF0 hM).2.1 rfl (by rw [(mF0 hM).2.2]; omega) (by rw [(mF0 hM).2.2]; decide) ?_
            refine Ex_top (show _ = nI (nS (I (M + 1))) by rw [g1]; exact hW.1) ?_
            refine Ex_icmp_geN (by omega) (by omega) (tgt := 149) dX9_safe_71 (by decide) (fun h71 => ?_) (fun h71 => ?_)
            · refine Ex_iload_n dX9_safe_149 rfl ?_
              refine Ex_if_ge (tgt := 158) dX9_safe_150 (by decide) (fun h150 => ?_) (fun h150 => ?_)
              · refine Ex_iload_n dX9_safe_158 rfl ?_
                refine Ex_if_ne (tgt := 166) dX9_safe_159 (by decide) (fun h159 => ?_) (fun h159 => ?_)
                · refine Ex_iload dX9_safe_166 rfl ?_
                  refine Ex_iret dX9_safe_168 (by first | rfl | exact narrow_bI) ?_
                  exact ⟨_, rfl, (by unfold r_safe; rw [if_pos ⟨h4, h13⟩, hcl, if_neg (Int32.not_lt.mpr h25), if_pos ⟨h36, h45⟩, if_neg (Int32.not_lt.mpr h150), if_neg h159]), g1, Kr_Th hK g2, rfl⟩
                · refine Ex_iload_n dX9_safe_162 rfl ?_
                  refine Ex_goto (tgt := 168) dX9_safe_163 (by decide) ?_
                  refine Ex_iret dX9_safe_168 (by first | rfl | exact narrow_bI) ?_
                  exact ⟨_, rfl, (by unfold r_safe; rw [if_pos ⟨h4, h13⟩, hcl, if_neg (Int32.not_lt.mpr h25), if_pos ⟨h36, h45⟩, if_neg (Int32.not_lt.mpr h150), if_pos h159]), g1, Kr_Th hK g2, rfl⟩
              · refine Ex_ldc dX9_safe_153 kX9_133 ?_
                refine Ex_goto (tgt := 168) dX9_safe_155 (by decide) ?_
                refine Ex_iret dX9_safe_168 (by first | rfl | exact narrow_bI) ?_
                exact ⟨_, rfl, (by unfold r_safe; rw [if_pos ⟨h4, h13⟩, hcl, if_neg (Int32.not_lt.mpr h25), if_pos ⟨h36, h45⟩, if_pos (Int32.not_le.mp h150)]), g1, Kr_Th hK g2, rfl⟩
            · omega
          · refine Ex_ldc dX9_safe_48 kX9_186 ?_
            refine Ex_iret dX9_safe_50 (by first | rfl | exact narrow_bI) ?_
            exact ⟨_, rfl, (by unfold r_safe; rw [if_pos ⟨h4, h13⟩, hcl, if_neg (Int32.not_lt.mpr h25), if_neg (fun q => h45 q.2)]), hg, Kr_w hK, rfl⟩
      · refine Ex_ldc dX9_safe_28 kX9_182 ?_
        refine Ex_iret dX9_safe_30 (by first | rfl | exact narrow_bI) ?_
        exact ⟨_, rfl, (by unfold r_safe; rw [if_pos ⟨h4, h13⟩, hcl, if_pos (Int32.not_le.mp h25)]), rfl, Kr.refl, rfl⟩
    · refine Ex_ldc dX9_safe_16 kX9_99 ?_
      refine Ex_iret dX9_safe_18 (by first | rfl | exact narrow_bI) ?_
      exact ⟨_, rfl, (by unfold r_safe; rw [if_neg (fun q => h13 q.2)]), rfl, Kr.refl, rfl⟩
def bcV (g : Nat → Int32) (s n k : Nat) : Int32 := daysG (upd g (8 + 17 * s + 0) (nI k)) n (8 + 17 * s + 2)
def bcB (g : Nat → Int32) (s n : Nat) : Nat → Int32 × Int32
  | 0 => (nI 0, (-1))
  | k + 1 => if (bcB g s n k).2 < bcV g s n k then (nI k, bcV g s n k) else bcB g s n k
def r_becomes (g : Nat → Int32) (s n w : Int32) : Int32 := if inR s (nS g) ∧ in1 n 60 ∧ inR w 2 then (if w = 0 then (bcB g (cl s) (cl n) 6).1 else (bcB g (cl s) (cl n) 6).2) else cBAD
theorem WfG_kind {g : Nat → Int32} {s k : Nat} (hs : s < 8) (hk : k < 6) (hw : WfG g) : WfG (upd g (8 + 17 * s + 0) (nI k)) := by
  refine WfG_surf hs (fun j h _ => upd_n (by omega)) ?_ hw
  obtain ⟨h1, h2, h3, -⟩ := hw.2.2.1 s hs
  have e : mN (upd g (8 + 17 * s + 0) (nI k)) s = mN g s := by unfold mN; rw [upd_n (by omega)]
  refine ⟨by rw [e, upd_n (by omega)]; exact h1, by rw [e]; exact h2, fun i hi => ?_, k, hk, upd_s⟩
  rw [e] at hi
  rw [upd_n (by omega)]
  exact h3 i hi
def kpV (g : Nat → Int32) (n k : Nat) : Int32 := sumG (daysG (upd g 3 (nI (10 * k))) n) 2 (nS g)
def kpB (g : Nat → Int32) (n : Nat) : Nat → Int32 × Int32
  | 0 => (nI 0, (-1))
  | k + 1 => if (kpB g n k).2 < kpV g n k then (nI (10 * k), kpV g n k) else kpB g n k
def r_kept (g : Nat → Int32) (n w : Int32) : Int32 := if in1 n 60 ∧ inR w 2 then (if w = 0 then (kpB g (cl n) 11).1 else (kpB g (cl n) 11).2) else cBAD
set_option maxRecDepth 100000 in
set_option maxHeartbeats 4000000 in
theorem l9_becomes {T : TC} {I : MI} {G : MG} {F : FinT} {b : Nat × Nat} (d : Nat) {M : Nat} (hM : MSh T G M) (g : Nat → Int32) (hW : WfG g) (s n : Nat) (hs : s < 8) (hn : n ≤ 60) (w : Int32) (kx : ∀ J, J (M + 1) = g → Th M g I J → Ex T RX9 cX9_becomes 8 (d + 6) F 43 [some (.ref M), some (.int (nI s)), some (.int (nI n)), some (.int w), some (.int (bcB g s n 6).1), some (.int (bcB g s n 6).2), some (.int (nI 6)), none] [] J G b) : ∀ t k J, k + t = 6 → J (M + 1) = g → Th M g I J → Ex T RX9 cX9_becomes 8 (d + 6) F 43 [some (.ref M), some (.int (nI s)), some (.int (nI n)), some (.int w), some (.int (bcB g s n k).1), some (.int (bcB g s n k).2), some (.int (nI k)), none] [] J G b := by
  intro t
  induction t with
  | zero => intro k J h0 h1 hT; have e0 : k = 6 := by omega
            subst e0; exact kx J h1 hT
  | succ t ih =>
    intro k J h0 h1 hT
    have es : bcB g s n (k + 1) = if (bcB g s n k).2 < bcV g s n k then (nI k, bcV g s n k) else bcB g s n k := rfl
    have hWk := WfG_kind (k := k) hs (by omega) hW
    refine Ex_iload dX9_becomes_43 rfl ?_
    refine Ex_bipush (v := nI 6) dX9_becomes_45 (by rfl) ?_
    refine Ex_icmp_geN (by omega) (by omega) (tgt := 113) dX9_becomes_47 (by decide) (fun h47 => ?_) (fun h47 => ?_)
    · omega
    · refine Ex_aload_n dX9_becomes_50 rfl ?_
      refine Ex_iload_n dX9_becomes_51 rfl ?_
      refine Ex_iconst (v := nI 0) dX9_becomes_52 (by rfl) ?_
      refine Ex_iload dX9_becomes_53 rfl ?_
      refine Ex_V3v dX9_becomes_55 sX9_95 hM.1 (Nat.le_of_ble_eq_true rfl) (c9_put (d + 5) hM s 0 _ (by omega)) ?_
      rintro _ _ ⟨rfl, rfl⟩
      rw [h1]
      refine Ex_aload_n dX9_becomes_58 rfl ?_
      refine Ex_iload_n dX9_becomes_59 rfl ?_
      refine Ex_V1v dX9_becomes_60 sX9_166 hM.1 (Nat.le_of_ble_eq_true rfl) (c9_goesOn d hM n (by rw [rowI_s]; exact hWk) (by omega)) ?_
      rintro J2 _ ⟨hj1, hj2, rfl⟩
      rw [rowI_s] at hj1
      have hT2 := (hT.row (f := upd g (8 + 17 * s + 0) (nI k))).step hj2
      have hx144 : ∀ j, 144 ≤ j → J2 (M + 1) j = g j := fun j hj => by rw [hj1, days_o hWk (by omega) (by omega) (by omega) (by omega) (by omega), upd_n (by omega)]
      refine Ex_aload_n dX9_becomes_63 rfl ?_
      refine Ex_iload_n dX9_becomes_64 rfl ?_
      refine Ex_iconst (v := nI 2) dX9_becomes_65 (by rfl) ?_
      refine Ex_V2p dX9_becomes_66 sX9_105 hM.1 (Nat.le_of_ble_eq_true rfl) (c9_of (d + 5) hM s 2 (by omega)) ?_
      refine Ex_top (show _ = bcV g s n k by rw [hj1]; rfl) ?_
      refine Ex_istore dX9_becomes_69 (by decide) rfl ?_
      simp only [List.set_cons_zero, List.set_cons_succ]
      refine Ex_aload_n dX9_becomes_71 rfl ?_
      refine Ex_V0v dX9_becomes_72 sX9_205 hM.1 (Nat.le_of_ble_eq_true rfl) (c9_putsBack (d + 5) hM) ?_
      rintro _ _ ⟨rfl, rfl⟩
      rw [back_eq hT2.1 hx144]
      refine Ex_iload dX9_becomes_75 rfl ?_
      refine Ex_iload dX9_becomes_77 rfl ?_
      refine Ex_icmp_le (tgt := 87) dX9_becomes_79 (by decide) (fun h79 => ?_) (fun h79 => ?_)
      · refine Ex_iload dX9_becomes_87 rfl ?_
        refine Ex_istore dX9_becomes_89 (by decide) rfl ?_
        simp only [List.set_cons_zero, List.set_cons_succ]
        refine Ex_iload dX9_becomes_91 rfl ?_
        refine Ex_iload dX9_becomes_93 rfl ?_
        refine Ex_icmp_le (tgt := 103) dX9_becomes_95 (by decide) (fun h95 => ?_) (fun h95 => ?_)
        · refine Ex_iload dX9_becomes_103 rfl ?_
          refine Ex_istore dX9_becomes_105 (by decide) rfl ?_
          simp only [List.set_cons_zero, List.set_cons_succ]
          first | refine Ex_iincN (m := 1) dX9_becomes_107 rfl rfl (by decide) rfl ?_ | refine Ex_iinc dX9_becomes_107 rfl rfl (by decide) rfl ?_
          simp only [List.set_cons_zero, List.set_cons_succ]
          refine Ex_goto (tgt := 43) dX9_becomes_110 (by decide) ?_
          refine Ex_drop 7 ?_
          simp only [st_n0, st_n1, st_n2, st_n3, List.set_cons_zero, List.set_cons_succ]
          have key := ih (k + 1) _ (by omega) rowI_s hT2.row
          rw [es, if_neg (Int32.not_lt.mpr h79)] at key
          exact key
        · exact absurd h79 h95
      · refine Ex_iload dX9_becomes_82 rfl ?_
        refine Ex_goto (tgt := 89) dX9_becomes_84 (by decide) ?_
        refine Ex_istore dX9_becomes_89 (by decide) rfl ?_
        simp only [List.set_cons_zero, List.set_cons_succ]
        refine Ex_iload dX9_becomes_91 rfl ?_
        refine Ex_iload dX9_becomes_93 rfl ?_
        refine Ex_icmp_le (tgt := 103) dX9_becomes_95 (by decide) (fun h95 => ?_) (fun h95 => ?_)
        · exact absurd h95 h79
        · refine Ex_iload dX9_becomes_98 rfl ?_
          refine Ex_goto (tgt := 105) dX9_becomes_100 (by decide) ?_
          refine Ex_istore dX9_becomes_105 (by decide) rfl ?_
          simp only [List.set_cons_zero, List.set_cons_succ]
          first | refine Ex_iincN (m := 1) dX9_becomes_107 rfl rfl (by decide) rfl ?_ | refine Ex_iinc dX9_becomes_107 rfl rfl (by decide) rfl ?_
          simp only [List.set_cons_zero, List.set_cons_succ]
          refine Ex_goto (tgt := 43) dX9_becomes_110 (by decide) ?_
          refine Ex_drop 7 ?_
          simp only [st_n0, st_n1, st_n2, st_n3, List.set_cons_zero, List.set_cons_succ]
          have key := ih (k + 1) _ (by omega) rowI_s hT2.row
          rw [es, if_pos (Int32.not_le.mp h79)] at key
          exact key
set_option maxRecDepth 100000 in
set_option maxHeartbeats 4000000 in
theorem C9_becomes {T : TC} {I : MI} {G : MG} (d : Nat) {M : Nat} (hM : MSh T G M) (hW : WfG (I (M + 1))) (s n w : Int32)  : OkI T mX9_becomes (d + 6) [.ref M, .int s, .int n, .int w] I G (fun r I' G' => r = r_becomes (I (M + 1)) s n w ∧ I' (M + 1) = I (M + 1) ∧ Fr (Pt M) I I' ∧ G' = G) := by
  refine Ok_of (own := RX9) (by decide) rfl (cat1 rfl) (Nat.le_of_ble_eq_true rfl) ?_
  show Ex T RX9 cX9_becomes 8 (d + 6) _ 0 [some (.ref M), some (.int s), some (.int n), some (.int w), none, none, none, none] [] I G (0, 0)
  refine Ex_aload_n dX9_becomes_0 rfl ?_
  refine Ex_iload_n dX9_becomes_1 rfl ?_
  refine Ex_V1p dX9_becomes_2 sX9_119 hM.1 (Nat.le_of_ble_eq_true rfl) (c9_isS (d + 4) hM hW _) ?_
  refine Ex_if_eqB (tgt := 27) dX9_becomes_5 (by decide) (fun h5 => ?_) (fun h5 => ?_)
  · refine Ex_ldc dX9_becomes_27 kX9_99 ?_
    refine Ex_iret dX9_becomes_29 (by first | rfl | exact narrow_bI) ?_
    exact ⟨_, rfl, (by unfold r_becomes; rw [if_neg (fun q => h5 q.1)]), rfl, Fr.refl, rfl⟩
  · refine Ex_iload_n dX9_becomes_8 rfl ?_
    refine Ex_iconst (v := nI 1) dX9_becomes_9 (by rfl) ?_
    refine Ex_bipush (v := nI 60) dX9_becomes_10 (by rfl) ?_
    refine Ex_S3p dX9_becomes_12 sX9_91  (Nat.le_of_ble_eq_true rfl) (c9_in (d + 5) _ _ _) ?_
    refine Ex_if_eqB (tgt := 27) dX9_becomes_15 (by decide) (fun h15 => ?_) (fun h15 => ?_)
    · refine Ex_ldc dX9_becomes_27 kX9_99 ?_
      refine Ex_iret dX9_becomes_29 (by first | rfl | exact narrow_bI) ?_
      exact ⟨_, rfl, (by unfold r_becomes; rw [if_neg (fun q => h15 q.2.1)]), rfl, Fr.refl, rfl⟩
    · refine Ex_iload_n dX9_becomes_18 rfl ?_
      refine Ex_iconst (v := nI 0) dX9_becomes_19 (by rfl) ?_
      refine Ex_iconst (v := nI 1) dX9_becomes_20 (by rfl) ?_
      refine Ex_S3p dX9_becomes_21 sX9_91  (Nat.le_of_ble_eq_true rfl) (c9_inR (d + 5) _ 1 (by omega)) ?_
      refine Ex_if_neB (tgt := 30) dX9_becomes_24 (by decide) (fun h24 => ?_) (fun h24 => ?_)
      · obtain ⟨s', hs', e5⟩ := (rng_k (by have := hW.2.1; omega)).mp h5
        have hcl : cl (nI s') = s' := cl_nI (by have := hW.2.1; omega)
        have hs8 : s' < 8 := by have := hW.2.1; omega
        subst e5
        obtain ⟨n', hn0, hn', en⟩ := (in1_k (by omega)).mp (show in1 n 60 from h15)
        have hcn : cl (nI n') = n' := cl_nI (by omega)
        subst en
        refine Ex_aload_n dX9_becomes_30 rfl ?_
        refine Ex_V0v dX9_becomes_31 sX9_202 hM.1 (Nat.le_of_ble_eq_true rfl) (c9_thinks (d + 5) hM) ?_
        rintro _ _ ⟨rfl, rfl⟩
        have hT0 := Th_of (M := M) (I := I)
        have hg0 : rowI I (M + 8) (preF (I (M + 1)) (I (M + 8)) 144) (M + 1) = I (M + 1) := rowI_n (by omega)
        generalize rowI I (M + 8) (preF (I (M + 1)) (I (M + 8)) 144) = J0 at hT0 hg0 ⊢
        refine Ex_iconst (v := nI 0) dX9_becomes_34 (by rfl) ?_
        refine Ex_istore dX9_becomes_35 (by decide) rfl ?_
        simp only [List.set_cons_zero, List.set_cons_succ]
        refine Ex_iconst (v := (-1)) dX9_becomes_37 (by rfl) ?_
        refine Ex_istore dX9_becomes_38 (by decide) rfl ?_
        simp only [List.set_cons_zero, List.set_cons_succ]
        refine Ex_iconst (v := nI 0) dX9_becomes_40 (by rfl) ?_
        refine Ex_istore dX9_becomes_41 (by decide) rfl ?_
        simp only [List.set_cons_zero, List.set_cons_succ]
        refine l9_becomes d hM (I (M + 1)) hW s' n' hs8 hn' w ?_ 6 0 J0 (by omega) hg0 hT0
        intro J3 g1 g2
        refine Ex_iload dX9_becomes_43 rfl ?_
        refine Ex_bipush (v := nI 6) dX9_becomes_45 (by rfl) ?_
        refine Ex_icmp_geN (by omega) (by omega) (tgt := 113) dX9_becomes_47 (by decide) (fun h47 => ?_) (fun h47 => ?_)
        · refine Ex_iload_n dX9_becomes_113 rfl ?_
          refine Ex_if_ne (tgt := 122) dX9_becomes_114 (by decide) (fun h114 => ?_) (fun h114 => ?_)
          · refine Ex_iload dX9_becomes_122 rfl ?_
            refine Ex_iret dX9_becomes_124 (by first | rfl | exact narrow_bI) ?_
            exact ⟨_, rfl, (by unfold r_becomes; rw [if_pos ⟨h5, h15, h24⟩, hcl, hcn, if_neg h114]), g1, g2.2, rfl⟩
          · refine Ex_iload dX9_becomes_117 rfl ?_
            refine Ex_goto (tgt := 124) dX9_becomes_119 (by decide) ?_
            refine Ex_iret dX9_becomes_124 (by first | rfl | exact narrow_bI) ?_
            exact ⟨_, rfl, (by unfold r_becomes; rw [if_pos ⟨h5, h15, h24⟩, hcl, hcn, if_pos h114]), g1, g2.2, rfl⟩
        · omega
      · refine Ex_ldc dX9_becomes_27 kX9_99 ?_
        refine Ex_iret dX9_becomes_29 (by first | rfl | exact narrow_bI) ?_
        exact ⟨_, rfl, (by unfold r_becomes; rw [if_neg (fun q => h24 q.2.2)]), rfl, Fr.refl, rfl⟩
set_option maxRecDepth 100000 in
set_option maxHeartbeats 4000000 in
theorem l9_kept {T : TC} {I : MI} {G : MG} {F : FinT} {b : Nat × Nat} (d : Nat) {M : Nat} (hM : MSh T G M) (g : Nat → Int32) (hW : WfG g) (n : Nat) (hn : n ≤ 60) (w : Int32) (kx : ∀ J, J (M + 1) = g → Th M g I J → Ex T RX9 cX9_kept 7 (d + 6) F 34 [some (.ref M), some (.int (nI n)), some (.int w), some (.int (kpB g n 11).1), some (.int (kpB g n 11).2), some (.int (nI (10 * 11))), none] [] J G b) : ∀ t k J, k + t = 11 → J (M + 1) = g → Th M g I J → Ex T RX9 cX9_kept 7 (d + 6) F 34 [some (.ref M), some (.int (nI n)), some (.int w), some (.int (kpB g n k).1), some (.int (kpB g n k).2), some (.int (nI (10 * k))), none] [] J G b := by
  intro t
  induction t with
  | zero => intro k J h0 h1 hT; have e0 : k = 11 := by omega
            subst e0; exact kx J h1 hT
  | succ t ih =>
    intro k J h0 h1 hT
    have es : kpB g n (k + 1) = if (kpB g n k).2 < kpV g n k then (nI (10 * k), kpV g n k) else kpB g n k := rfl
    have hWk : WfG (upd g 3 (nI (10 * k))) := WfG_congr (fun j hj => upd_n (by omega)) hW
    have hnk : nS (upd g 3 (nI (10 * k))) = nS g := by unfold nS; rw [upd_n (by omega)]
    have hn8 := hW.2.1
    refine Ex_iload dX9_kept_34 rfl ?_
    refine Ex_bipush (v := nI 100) dX9_kept_36 (by rfl) ?_
    refine Ex_icmp_gtN (by omega) (by omega) (tgt := 101) dX9_kept_38 (by decide) (fun h38 => ?_) (fun h38 => ?_)
    · omega
    · refine Ex_aload_n dX9_kept_41 rfl ?_
      refine Ex_getr dX9_kept_42 fX9_9 hM.1 (mF0 hM).1 ?_
      refine Ex_iconst (v := nI 3) dX9_kept_45 (by rfl) ?_
      refine Ex_iload dX9_kept_46 rfl ?_
      refine Ex_iast dX9_kept_48 (mF0 hM).2.1 rfl (by rw [(mF0 hM).2.2]; omega) (by rw [(mF0 hM).2.2]; decide) ?_
      rw [setI_row, h1]
      refine Ex_aload_n dX9_kept_49 rfl ?_
      refine Ex_iload_n dX9_kept_50 rfl ?_
      refine Ex_V1v dX9_kept_51 sX9_166 hM.1 (Nat.le_of_ble_eq_true rfl) (c9_goesOn d hM n (by rw [rowI_s]; exact hWk) (by omega)) ?_
      rintro J2 _ ⟨hj1, hj2, rfl⟩
      rw [rowI_s] at hj1
      have hT2 := (hT.row (f := upd g 3 (nI (10 * k)))).step hj2
      have hx144 : ∀ j, 144 ≤ j → J2 (M + 1) j = g j := fun j hj => by rw [hj1, days_o hWk (by omega) (by omega) (by omega) (by omega) (by omega), upd_n (by omega)]
      refine Ex_aload_n dX9_kept_54 rfl ?_
      refine Ex_iconst (v := nI 2) dX9_kept_55 (by rfl) ?_
      refine Ex_V1p dX9_kept_56 sX9_169 hM.1 (Nat.le_of_ble_eq_true rfl) (c9_sumOf (d + 4) hM (nS g) 2 (by rw [hj1, days_o hWk (by omega) (by omega) (by omega) (by omega) (by omega), upd_n (by omega)]; exact hW.1) hn8 (by omega)) ?_
      refine Ex_top (show _ = kpV g n k by rw [hj1]; rfl) ?_
      refine Ex_istore dX9_kept_59 (by decide) rfl ?_
      simp only [List.set_cons_zero, List.set_cons_succ]
      refine Ex_aload_n dX9_kept_61 rfl ?_
      refine Ex_V0v dX9_kept_62 sX9_205 hM.1 (Nat.le_of_ble_eq_true rfl) (c9_putsBack (d + 5) hM) ?_
      rintro _ _ ⟨rfl, rfl⟩
      rw [back_eq hT2.1 hx144]
      refine Ex_iload dX9_kept_65 rfl ?_
      refine Ex_iload dX9_kept_67 rfl ?_
      refine Ex_icmp_le (tgt := 77) dX9_kept_69 (by decide) (fun h69 => ?_) (fun h69 => ?_)
      · refine Ex_iload_n dX9_kept_77 rfl ?_
        refine Ex_istore_n dX9_kept_78 (by decide) rfl ?_
        simp only [st_n0, st_n1, st_n2, st_n3, List.set_cons_zero, List.set_cons_succ]
        refine Ex_iload dX9_kept_79 rfl ?_
        refine Ex_iload dX9_kept_81 rfl ?_
        refine Ex_icmp_le (tgt := 91) dX9_kept_83 (by decide) (fun h83 => ?_) (fun h83 => ?_)
        · refine Ex_iload dX9_kept_91 rfl ?_
          refine Ex_istore dX9_kept_93 (by decide) rfl ?_
          simp only [List.set_cons_zero, List.set_cons_succ]
          first | refine Ex_iincN (m := 10) dX9_kept_95 rfl rfl (by decide) rfl ?_ | refine Ex_iinc dX9_kept_95 rfl rfl (by decide) rfl ?_
          simp only [List.set_cons_zero, List.set_cons_succ]
          refine Ex_goto (tgt := 34) dX9_kept_98 (by decide) ?_
          refine Ex_drop 6 ?_
          simp only [st_n0, st_n1, st_n2, st_n3, List.set_cons_zero, List.set_cons_succ]
          have key := ih (k + 1) _ (by omega) rowI_s hT2.row
          rw [es, if_neg (Int32.not_lt.mpr h69), show 10 * (k + 1) = 10 * k + 10 by omega] at key
          exact key
        · exact absurd h69 h83
      · refine Ex_iload dX9_kept_72 rfl ?_
        refine Ex_goto (tgt := 78) dX9_kept_74 (by decide) ?_
        refine Ex_istore_n dX9_kept_78 (by decide) rfl ?_
        simp only [st_n0, st_n1, st_n2, st_n3, List.set_cons_zero, List.set_cons_succ]
        refine Ex_iload dX9_kept_79 rfl ?_
        refine Ex_iload dX9_kept_81 rfl ?_
        refine Ex_icmp_le (tgt := 91) dX9_kept_83 (by decide) (fun h83 => ?_) (fun h83 => ?_)
        · exact absurd h83 h69
        · refine Ex_iload dX9_kept_86 rfl ?_
          refine Ex_goto (tgt := 93) dX9_kept_88 (by decide) ?_
          refine Ex_istore dX9_kept_93 (by decide) rfl ?_
          simp only [List.set_cons_zero, List.set_cons_succ]
          first | refine Ex_iincN (m := 10) dX9_kept_95 rfl rfl (by decide) rfl ?_ | refine Ex_iinc dX9_kept_95 rfl rfl (by decide) rfl ?_
          simp only [List.set_cons_zero, List.set_cons_succ]
          refine Ex_goto (tgt := 34) dX9_kept_98 (by decide) ?_
          refine Ex_drop 6 ?_
          simp only [st_n0, st_n1, st_n2, st_n3, List.set_cons_zero, List.set_cons_succ]
          have key := ih (k + 1) _ (by omega) rowI_s hT2.row
          rw [es, if_pos (Int32.not_le.mp h69), show 10 * (k + 1) = 10 * k + 10 by omega] at key
          exact key
set_option maxRecDepth 100000 in
set_option maxHeartbeats 4000000 in
theorem C9_kept {T : TC} {I : MI} {G : MG} (d : Nat) {M : Nat} (hM : MSh T G M) (hW : WfG (I (M + 1))) (n w : Int32)  : OkI T mX9_kept (d + 6) [.ref M, .int n, .int w] I G (fun r I' G' => r = r_kept (I (M + 1)) n w ∧ I' (M + 1) = I (M + 1) ∧ Fr (Pt M) I I' ∧ G' = G) := by
  refine Ok_of (own := RX9) (by decide) rfl (cat1 rfl) (Nat.le_of_ble_eq_true rfl) ?_
  show Ex T RX9 cX9_kept 7 (d + 6) _ 0 [some (.ref M), some (.int n), some (.int w), none, none, none, none] [] I G (0, 0)
  refine Ex_iload_n dX9_kept_0 rfl ?_
  refine Ex_iconst (v := nI 1) dX9_kept_1 (by rfl) ?_
  refine Ex_bipush (v := nI 60) dX9_kept_2 (by rfl) ?_
  refine Ex_S3p dX9_kept_4 sX9_91  (Nat.le_of_ble_eq_true rfl) (c9_in (d + 5) _ _ _) ?_
  refine Ex_if_eqB (tgt := 19) dX9_kept_7 (by decide) (fun h7 => ?_) (fun h7 => ?_)
  · refine Ex_ldc dX9_kept_19 kX9_99 ?_
    refine Ex_iret dX9_kept_21 (by first | rfl | exact narrow_bI) ?_
    exact ⟨_, rfl, (by unfold r_kept; rw [if_neg (fun q => h7 q.1)]), rfl, Fr.refl, rfl⟩
  · refine Ex_iload_n dX9_kept_10 rfl ?_
    refine Ex_iconst (v := nI 0) dX9_kept_11 (by rfl) ?_
    refine Ex_iconst (v := nI 1) dX9_kept_12 (by rfl) ?_
    refine Ex_S3p dX9_kept_13 sX9_91  (Nat.le_of_ble_eq_true rfl) (c9_inR (d + 5) _ 1 (by omega)) ?_
    refine Ex_if_neB (tgt := 22) dX9_kept_16 (by decide) (fun h16 => ?_) (fun h16 => ?_)
    · obtain ⟨n', hn0, hn', en⟩ := (in1_k (by omega)).mp (show in1 n 60 from h7)
      have hcn : cl (nI n') = n' := cl_nI (by omega)
      subst en
      refine Ex_aload_n dX9_kept_22 rfl ?_
      refine Ex_V0v dX9_kept_23 sX9_202 hM.1 (Nat.le_of_ble_eq_true rfl) (c9_thinks (d + 5) hM) ?_
      rintro _ _ ⟨rfl, rfl⟩
      have hT0 := Th_of (M := M) (I := I)
      have hg0 : rowI I (M + 8) (preF (I (M + 1)) (I (M + 8)) 144) (M + 1) = I (M + 1) := rowI_n (by omega)
      generalize rowI I (M + 8) (preF (I (M + 1)) (I (M + 8)) 144) = J0 at hT0 hg0 ⊢
      refine Ex_iconst (v := nI 0) dX9_kept_26 (by rfl) ?_
      refine Ex_istore_n dX9_kept_27 (by decide) rfl ?_
      simp only [st_n0, st_n1, st_n2, st_n3, List.set_cons_zero, List.set_cons_succ]
      refine Ex_iconst (v := (-1)) dX9_kept_28 (by rfl) ?_
      refine Ex_istore dX9_kept_29 (by decide) rfl ?_
      simp only [List.set_cons_zero, List.set_cons_succ]
      refine Ex_iconst (v := nI 0) dX9_kept_31 (by rfl) ?_
      refine Ex_istore dX9_kept_32 (by decide) rfl ?_
      simp only [List.set_cons_zero, List.set_cons_succ]
      refine l9_kept d hM (I (M + 1)) hW n' hn' w ?_ 11 0 J0 (by omega) hg0 hT0
      intro J3 g1 g2
      refine Ex_iload dX9_kept_34 rfl ?_
      refine Ex_bipush (v := nI 100) dX9_kept_36 (by rfl) ?_
      refine Ex_icmp_gtN (by omega) (by omega) (tgt := 101) dX9_kept_38 (by decide) (fun h38 => ?_) (fun h38 => ?_)
      · refine Ex_iload_n dX9_kept_101 rfl ?_
        refine Ex_if_ne (tgt := 109) dX9_kept_102 (by decide) (fun h102 => ?_) (fun h102 => ?_)
        · refine Ex_iload dX9_kept_109 rfl ?_
          refine Ex_iret dX9_kept_111 (by first | rfl | exact narrow_bI) ?_
          exact ⟨_, rfl, (by unfold r_kept; rw [if_pos ⟨h7, h16⟩, hcn, if_neg h102]), g1, g2.2, rfl⟩
        · refine Ex_iload_n dX9_kept_105 rfl ?_
          refine Ex_goto (tgt := 111) dX9_kept_106 (by decide) ?_
          refine Ex_iret dX9_kept_111 (by first | rfl | exact narrow_bI) ?_
          exact ⟨_, rfl, (by unfold r_kept; rw [if_pos ⟨h7, h16⟩, hcn, if_pos h102]), g1, g2.2, rfl⟩
      · omega
    · refine Ex_ldc dX9_kept_19 kX9_99 ?_
      refine Ex_iret dX9_kept_21 (by first | rfl | exact narrow_bI) ?_
      exact ⟨_, rfl, (by unfold r_kept; rw [if_neg (fun q => h16 q.2)]), rfl, Fr.refl, rfl⟩
