/-! the reference: lifts, sweeps, days -/
def Pd (M : Nat) : Nat → Prop := fun a => a = M + 1 ∨ a = M + 16 ∨ a = M + 17
theorem cntF_lt {g : Nat → Int32} {key : Int32} : ∀ {n t : Nat}, cntF g key n = some t → t < n ∧ g (144 + 2 * t) / nI 1000 = key
  | 0, t, h => by cases h
  | n + 1, t, h => by
    unfold cntF at h
    split at h
    · rename_i hk; cases h; exact ⟨by omega, hk⟩
    · obtain ⟨h1, h2⟩ := cntF_lt h; exact ⟨by omega, h2⟩
theorem ky_of {g : Nat → Int32} {t k : Nat} (hT : TxOk g t) (hk : k < 3) (h : g (144 + 2 * t) / nI 1000 = nI k) : kyN g t = k := by
  obtain ⟨h1, h2, h3, -⟩ := hT
  rw [h3, pk_div (by omega) (by omega) (by omega), nI_eq (by omega) (by omega)] at h
  omega
theorem liftK_1 {p : Int32} : liftK (nI 1) p = if p = 0 then nI 0 else p - nI 1 := if_pos rfl
theorem liftK_2 {p : Int32} : liftK (nI 2) p = nI 2 * p := by unfold liftK; rw [if_neg (by decide), if_pos rfl]
theorem liftK_3 {p : Int32} : liftK (nI 3) p = nI 0 := by unfold liftK; rw [if_neg (by decide), if_neg (by decide), if_pos rfl]
theorem liftK_4 {p : Int32} : liftK (nI 4) p = nI 2 * p + nI 1 := by unfold liftK; rw [if_neg (by decide), if_neg (by decide), if_neg (by decide), if_pos rfl]
theorem liftK_5 {p : Int32} : liftK (nI 5) p = nI 0 := by unfold liftK; rw [if_neg (by decide), if_neg (by decide), if_neg (by decide), if_neg (by decide), if_pos rfl]
theorem liftK_d {x p : Int32} (h : x.toInt < 1 ∨ 5 < x.toInt) : liftK x p = p := by
  unfold liftK
  rw [if_neg (swn h (by decide) (by decide)), if_neg (swn h (by decide) (by decide)), if_neg (swn h (by decide) (by decide)), if_neg (swn h (by decide) (by decide)), if_neg (swn h (by decide) (by decide))]
set_option maxRecDepth 100000 in
set_option maxHeartbeats 4000000 in
theorem t9_liftsOf {T : TC} {I J : MI} {G : MG} {b : Nat × Nat} (d : Nat) {M : Nat} (hM : MSh T G M) (s : Nat) (hs : s < 8) (x : Int32) (hg0 : J (M + 1) = I (M + 1)) (hFr : Fr (fun a => a = M + 16 ∨ a = M + 17) I J) : Ex T RX9 cX9_liftsOf 4 (d + 2) (fm T "liftsOf" (some .int) (fun v I' G' => ∃ r, v = some (.int r) ∧ r = liftF (I (M + 1)) s ∧ Fr (fun a => a = M + 16 ∨ a = M + 17) I I' ∧ G' = G)) 61 [some (.ref M), some (.int (nI s)), some (.int x), none] [.int (plainF (I (M + 1)) s)] J G b := by
  have hpl : plainF (I (M + 1)) s = plainF (J (M + 1)) s := by rw [hg0]
  rw [hpl]
  refine Ex_istore_n dX9_liftsOf_61 (by decide) rfl ?_
  simp only [st_n0, st_n1, st_n2, st_n3, List.set_cons_zero, List.set_cons_succ]
  refine Ex_aload_n dX9_liftsOf_62 rfl ?_
  refine Ex_iload_n dX9_liftsOf_63 rfl ?_
  refine Ex_iconst (v := nI 0) dX9_liftsOf_64 (by rfl) ?_
  refine Ex_V2p dX9_liftsOf_65 sX9_105 hM.1 (Nat.le_of_ble_eq_true rfl) (c9_of (d + 1) hM s 0 (by omega)) ?_
  rcases sw_cases (J (M + 1) (8 + 17 * s + 0)) (1) (5) (by decide) (by decide) with ⟨k68, hk68, hl68, hx68⟩ | hx68
  · rcases (show k68 = 1 ∨ k68 = 2 ∨ k68 = 3 ∨ k68 = 4 ∨ k68 = 5 by omega) with rfl | rfl | rfl | rfl | rfl
    · have hx68 : J (M + 1) (8 + 17 * s + 0) = nI 1 := hx68
      refine Ex_tabIn (tgt := 104) dX9_liftsOf_68 (by rw [hx68]; decide) (by rw [hx68]; decide) (off := 36) (by rw [hx68]; rfl) (by decide) ?_
      refine Ex_iload_n dX9_liftsOf_104 rfl ?_
      refine Ex_if_ne (tgt := 112) dX9_liftsOf_105 (by decide) (fun h105 => ?_) (fun h105 => ?_)
      · refine Ex_iload_n dX9_liftsOf_112 rfl ?_
        refine Ex_iconst (v := nI 1) dX9_liftsOf_113 (by rfl) ?_
        refine Ex_isub dX9_liftsOf_114 ?_
        refine Ex_iret dX9_liftsOf_115 (by first | rfl | exact narrow_bI) ?_
        exact ⟨_, rfl, (by unfold liftF; rw [← hg0, hx68, liftK_1, if_neg h105]), hFr, rfl⟩
      · refine Ex_iconst (v := nI 0) dX9_liftsOf_108 (by rfl) ?_
        refine Ex_goto (tgt := 115) dX9_liftsOf_109 (by decide) ?_
        refine Ex_iret dX9_liftsOf_115 (by first | rfl | exact narrow_bI) ?_
        exact ⟨_, rfl, (by unfold liftF; rw [← hg0, hx68, liftK_1, if_pos h105]), hFr, rfl⟩
    · have hx68 : J (M + 1) (8 + 17 * s + 0) = nI 2 := hx68
      refine Ex_tabIn (tgt := 116) dX9_liftsOf_68 (by rw [hx68]; decide) (by rw [hx68]; decide) (off := 48) (by rw [hx68]; rfl) (by decide) ?_
      refine Ex_iconst (v := nI 2) dX9_liftsOf_116 (by rfl) ?_
      refine Ex_iload_n dX9_liftsOf_117 rfl ?_
      first | with_reducible refine Ex_imulN dX9_liftsOf_118 ?_ | refine Ex_imul dX9_liftsOf_118 ?_
      refine Ex_iret dX9_liftsOf_119 (by first | rfl | exact narrow_bI) ?_
      exact ⟨_, rfl, (by unfold liftF; rw [← hg0, hx68, liftK_2]), hFr, rfl⟩
    · have hx68 : J (M + 1) (8 + 17 * s + 0) = nI 3 := hx68
      refine Ex_tabIn (tgt := 126) dX9_liftsOf_68 (by rw [hx68]; decide) (by rw [hx68]; decide) (off := 58) (by rw [hx68]; rfl) (by decide) ?_
      refine Ex_iconst (v := nI 0) dX9_liftsOf_126 (by rfl) ?_
      refine Ex_iret dX9_liftsOf_127 (by first | rfl | exact narrow_bI) ?_
      exact ⟨_, rfl, (by unfold liftF; rw [← hg0, hx68, liftK_3]), hFr, rfl⟩
    · have hx68 : J (M + 1) (8 + 17 * s + 0) = nI 4 := hx68
      refine Ex_tabIn (tgt := 120) dX9_liftsOf_68 (by rw [hx68]; decide) (by rw [hx68]; decide) (off := 52) (by rw [hx68]; rfl) (by decide) ?_
      refine Ex_iconst (v := nI 2) dX9_liftsOf_120 (by rfl) ?_
      refine Ex_iload_n dX9_liftsOf_121 rfl ?_
      first | with_reducible refine Ex_imulN dX9_liftsOf_122 ?_ | refine Ex_imul dX9_liftsOf_122 ?_
      refine Ex_iconst (v := nI 1) dX9_liftsOf_123 (by rfl) ?_
      first | with_reducible refine Ex_iaddN dX9_liftsOf_124 ?_ | refine Ex_iadd dX9_liftsOf_124 ?_
      refine Ex_iret dX9_liftsOf_125 (by first | rfl | exact narrow_bI) ?_
      exact ⟨_, rfl, (by unfold liftF; rw [← hg0, hx68, liftK_4]), hFr, rfl⟩
    · have hx68 : J (M + 1) (8 + 17 * s + 0) = nI 5 := hx68
      refine Ex_tabIn (tgt := 126) dX9_liftsOf_68 (by rw [hx68]; decide) (by rw [hx68]; decide) (off := 58) (by rw [hx68]; rfl) (by decide) ?_
      refine Ex_iconst (v := nI 0) dX9_liftsOf_126 (by rfl) ?_
      refine Ex_iret dX9_liftsOf_127 (by first | rfl | exact narrow_bI) ?_
      exact ⟨_, rfl, (by unfold liftF; rw [← hg0, hx68, liftK_5]), hFr, rfl⟩
  · refine Ex_tabOut (tgt := 128) dX9_liftsOf_68 hx68 (by decide) ?_
    refine Ex_iload_n dX9_liftsOf_128 rfl ?_
    refine Ex_iret dX9_liftsOf_129 (by first | rfl | exact narrow_bI) ?_
    exact ⟨_, rfl, (by unfold liftF; rw [← hg0, liftK_d hx68]), hFr, rfl⟩
set_option maxRecDepth 100000 in
set_option maxHeartbeats 4000000 in
theorem c9_liftsOf {T : TC} {I : MI} {G : MG} (d : Nat) {M : Nat} (hM : MSh T G M) (s : Nat) (hW : WfG (I (M + 1))) (hs : s < 8) : OkI T mX9_liftsOf (d + 2) [.ref M, .int (nI s)] I G (fun r I' G' => r = liftF (I (M + 1)) s ∧ Fr (fun a => a = M + 16 ∨ a = M + 17) I I' ∧ G' = G) := by
  refine Ok_of (own := RX9) (by decide) rfl (cat1 rfl) (Nat.le_of_ble_eq_true rfl) ?_
  show Ex T RX9 cX9_liftsOf 4 (d + 2) _ 0 [some (.ref M), some (.int (nI s)), none, none] [] I G (0, 0)
  refine Ex_aload_n dX9_liftsOf_0 rfl ?_
  refine Ex_iconst (v := nI 0) dX9_liftsOf_1 (by rfl) ?_
  refine Ex_V1p dX9_liftsOf_2 sX9_108 hM.1 (Nat.le_of_ble_eq_true rfl) (c9_counts (d + 1) hM (nI 0) _ hW.2.2.2.1 hW.2.2.2.2.1) ?_
  refine Ex_istore_n dX9_liftsOf_5 (by decide) rfl ?_
  simp only [st_n0, st_n1, st_n2, st_n3, List.set_cons_zero, List.set_cons_succ]
  refine Ex_aload_n dX9_liftsOf_6 rfl ?_
  refine Ex_getr dX9_liftsOf_7 fX9_61 hM.1 (mF28 hM).1 ?_
  refine Ex_iconst (v := nI 0) dX9_liftsOf_10 (by rfl) ?_
  refine Ex_aload_n dX9_liftsOf_11 rfl ?_
  refine Ex_iload_n dX9_liftsOf_12 rfl ?_
  refine Ex_iconst (v := nI 2) dX9_liftsOf_13 (by rfl) ?_
  refine Ex_V2p dX9_liftsOf_14 sX9_105 hM.1 (Nat.le_of_ble_eq_true rfl) (c9_of (d + 1) hM s 2 (by omega)) ?_
  refine Ex_iast dX9_liftsOf_17 (mF28 hM).2.1 rfl (by rw [(mF28 hM).2.2]; omega) (by rw [(mF28 hM).2.2]; decide) ?_
  rw [setI_row]
  refine Ex_aload_n dX9_liftsOf_18 rfl ?_
  refine Ex_getr dX9_liftsOf_19 fX9_61 hM.1 (mF28 hM).1 ?_
  refine Ex_iconst (v := nI 1) dX9_liftsOf_22 (by rfl) ?_
  refine Ex_aload_n dX9_liftsOf_23 rfl ?_
  refine Ex_iload_n dX9_liftsOf_24 rfl ?_
  refine Ex_iconst (v := nI 1) dX9_liftsOf_25 (by rfl) ?_
  refine Ex_V2p dX9_liftsOf_26 sX9_105 hM.1 (Nat.le_of_ble_eq_true rfl) (c9_of (d + 1) hM s 1 (by omega)) ?_
  refine Ex_top (show _ = I (M + 1) (8 + 17 * s + 1) by rw [rowI_n (by omega)]) ?_
  refine Ex_iast dX9_liftsOf_29 (mF28 hM).2.1 rfl (by rw [(mF28 hM).2.2]; omega) (by rw [(mF28 hM).2.2]; decide) ?_
  rw [setI_row, rowI_r, rowI_s]
  refine Ex_aload_n dX9_liftsOf_30 rfl ?_
  refine Ex_getr dX9_liftsOf_31 fX9_61 hM.1 (mF28 hM).1 ?_
  refine Ex_iconst (v := nI 2) dX9_liftsOf_34 (by rfl) ?_
  refine Ex_aload_n dX9_liftsOf_35 rfl ?_
  refine Ex_getr dX9_liftsOf_36 fX9_9 hM.1 (mF0 hM).1 ?_
  refine Ex_iconst (v := nI 2) dX9_liftsOf_39 (by rfl) ?_
  refine Ex_iald dX9_liftsOf_40 (mF0 hM).2.1 rfl (by rw [(mF0 hM).2.2]; omega) (by rw [(mF0 hM).2.2]; decide) ?_
  refine Ex_top (show _ = I (M + 1) 2 by rw [rowI_n (by omega)]) ?_
  refine Ex_iast dX9_liftsOf_41 (mF28 hM).2.1 rfl (by rw [(mF28 hM).2.2]; omega) (by rw [(mF28 hM).2.2]; decide) ?_
  rw [setI_row, rowI_r, rowI_s]
  have hJ1 : (rowI I (M + 17) (upd (upd (upd (I (M + 17)) 0 (I (M + 1) (8 + 17 * s + 2))) 1 (I (M + 1) (8 + 17 * s + 1))) 2 (I (M + 1) 2))) (M + 1) = I (M + 1) := rowI_n (by omega)
  have hFr1 : Fr (fun a => a = M + 16 ∨ a = M + 17) I (rowI I (M + 17) (upd (upd (upd (I (M + 17)) 0 (I (M + 1) (8 + 17 * s + 2))) 1 (I (M + 1) (8 + 17 * s + 1))) 2 (I (M + 1) 2))) := Fr.row (Or.inr rfl)
  cases hcn : cntF (I (M + 1)) (nI 0) (tN (I (M + 1))) with
  | none =>
    refine Ex_iload_n dX9_liftsOf_42 rfl ?_
    refine Ex_if_ge (tgt := 50) dX9_liftsOf_43 (by decide) (fun h43 => ?_) (fun h43 => ?_)
    · exact absurd h43 (by decide)
    · refine Ex_iconst (v := nI 2) dX9_liftsOf_46 (by rfl) ?_
      refine Ex_goto (tgt := 61) dX9_liftsOf_47 (by decide) ?_
      have hp : plainF (I (M + 1)) s = nI 2 := by unfold plainF; rw [hcn]
      rw [← hp]
      exact t9_liftsOf d hM s hs _ hJ1 hFr1
  | some t =>
    obtain ⟨ht1, ht2⟩ := cntF_lt hcn
    have h14 := hW.2.2.2.2.1
    have hTx := hW.2.2.2.2.2 t ht1
    have hky : kyN (I (M + 1)) t = 0 := ky_of hTx (by omega) ht2
    have hfc : ∀ i, i < nmOf (kyN (I (M + 1)) t) → (fct (I (M + 1) (8 + 17 * s + 2)) (I (M + 1) (8 + 17 * s + 1)) (I (M + 1) 2)) (nI (10000 + i)) = (rowI I (M + 17) (upd (upd (upd (I (M + 17)) 0 (I (M + 1) (8 + 17 * s + 2))) 1 (I (M + 1) (8 + 17 * s + 1))) 2 (I (M + 1) 2))) (M + 17) i := by
      intro i hi
      rw [hky] at hi
      have hi : i < 3 := hi
      rw [rowI_s]
      rcases (show i = 0 ∨ i = 1 ∨ i = 2 by omega) with rfl | rfl | rfl
      · rw [upd_n (by omega), upd_n (by omega), upd_s]; rfl
      · rw [upd_n (by omega), upd_s]; unfold fct; rw [if_neg (by decide), if_pos rfl]
      · rw [upd_s]; unfold fct; rw [if_neg (by decide), if_neg (by decide)]
    refine Ex_iload_n dX9_liftsOf_42 rfl ?_
    refine Ex_if_ge (tgt := 50) dX9_liftsOf_43 (by decide) (fun h43 => ?_) (fun h43 => ?_)
    · refine Ex_aload_n dX9_liftsOf_50 rfl ?_
      refine Ex_iload_n dX9_liftsOf_51 rfl ?_
      refine Ex_V1i dX9_liftsOf_52 sX9_112 hM.1 (Nat.le_of_ble_eq_true rfl) (c9_worksOut d hM (I (M + 1)) t (fct (I (M + 1) (8 + 17 * s + 2)) (I (M + 1) (8 + 17 * s + 1)) (I (M + 1) 2)) hJ1 (by omega) hTx hfc) ?_
      rintro r I2 G2 ⟨rfl, hFr2, rfl⟩
      refine Ex_iconst (v := nI 0) dX9_liftsOf_55 (by rfl) ?_
      refine Ex_bipush (v := nI 12) dX9_liftsOf_56 (by rfl) ?_
      refine Ex_S3p dX9_liftsOf_58 sX9_115  (Nat.le_of_ble_eq_true rfl) (c9_within (d + 1) _ _ _) ?_
      have hp : plainF (I (M + 1)) s = wth (evF (I (M + 1)) t (fct (I (M + 1) (8 + 17 * s + 2)) (I (M + 1) (8 + 17 * s + 1)) (I (M + 1) 2))) (nI 0) (nI 12) := by unfold plainF; rw [hcn]
      rw [← hp]
      exact t9_liftsOf d hM s hs _ (by rw [hFr2 _ (by omega)]; exact hJ1) (hFr1.trans (hFr2.mono (fun a h => Or.inl h)))
    · exact absurd (nI_pos' (by omega)) h43
set_option maxRecDepth 100000 in
set_option maxHeartbeats 4000000 in
theorem c9_sweepsOff {T : TC} {I : MI} {G : MG} (d : Nat) {M : Nat} (hM : MSh T G M) (s : Nat) (hW : WfG (I (M + 1))) (hs : s < 8) : OkI T mX9_sweepsOff (d + 3) [.ref M, .int (nI s)] I G (fun r I' G' => r = goneF (I (M + 1)) s ∧ I' (M + 1) = sweepG (I (M + 1)) s ∧ Fr (Pd M) I I' ∧ G' = G) := by
  refine Ok_of (own := RX9) (by decide) rfl (cat1 rfl) (Nat.le_of_ble_eq_true rfl) ?_
  show Ex T RX9 cX9_sweepsOff 3 (d + 3) _ 0 [some (.ref M), some (.int (nI s)), none] [] I G (0, 0)
  refine Ex_aload_n dX9_sweepsOff_0 rfl ?_
  refine Ex_iload_n dX9_sweepsOff_1 rfl ?_
  refine Ex_V1i dX9_sweepsOff_2 sX9_127 hM.1 (Nat.le_of_ble_eq_true rfl) (c9_liftsOf d hM s hW hs) ?_
  rintro r I1 G1 ⟨rfl, hF1, rfl⟩
  have hg1 : I1 (M + 1) = I (M + 1) := hF1 _ (by omega)
  refine Ex_iconst (v := nI 0) dX9_sweepsOff_5 (by rfl) ?_
  refine Ex_aload_n dX9_sweepsOff_6 rfl ?_
  refine Ex_iload_n dX9_sweepsOff_7 rfl ?_
  refine Ex_iconst (v := nI 2) dX9_sweepsOff_8 (by rfl) ?_
  refine Ex_V2p dX9_sweepsOff_9 sX9_105 hM.1 (Nat.le_of_ble_eq_true rfl) (c9_of (d + 2) hM s 2 (by omega)) ?_
  refine Ex_top (show _ = I (M + 1) (8 + 17 * s + 2) by rw [hg1]) ?_
  refine Ex_S3p dX9_sweepsOff_12 sX9_115  (Nat.le_of_ble_eq_true rfl) (c9_within (d + 2) _ _ _) ?_
  refine Ex_top (show _ = goneF (I (M + 1)) s from rfl) ?_
  refine Ex_istore_n dX9_sweepsOff_15 (by decide) rfl ?_
  simp only [st_n0, st_n1, st_n2, st_n3, List.set_cons_zero, List.set_cons_succ]
  refine Ex_aload_n dX9_sweepsOff_16 rfl ?_
  refine Ex_iload_n dX9_sweepsOff_17 rfl ?_
  refine Ex_iconst (v := nI 2) dX9_sweepsOff_18 (by rfl) ?_
  refine Ex_aload_n dX9_sweepsOff_19 rfl ?_
  refine Ex_iload_n dX9_sweepsOff_20 rfl ?_
  refine Ex_iconst (v := nI 2) dX9_sweepsOff_21 (by rfl) ?_
  refine Ex_V2p dX9_sweepsOff_22 sX9_105 hM.1 (Nat.le_of_ble_eq_true rfl) (c9_of (d + 2) hM s 2 (by omega)) ?_
  refine Ex_top (show _ = I (M + 1) (8 + 17 * s + 2) by rw [hg1]) ?_
  refine Ex_iload_n dX9_sweepsOff_25 rfl ?_
  refine Ex_isub dX9_sweepsOff_26 ?_
  refine Ex_V3v dX9_sweepsOff_27 sX9_95 hM.1 (Nat.le_of_ble_eq_true rfl) (c9_put (d + 2) hM s 2 _ (by omega)) ?_
  rintro _ _ ⟨rfl, rfl⟩
  rw [hg1]
  refine Ex_aload_n dX9_sweepsOff_30 rfl ?_
  refine Ex_getr dX9_sweepsOff_31 fX9_9 hM.1 (mF0 hM).1 ?_
  refine Ex_iconst (v := nI 5) dX9_sweepsOff_34 (by rfl) ?_
  refine Ex_dup2 dX9_sweepsOff_35 rfl rfl ?_
  refine Ex_iald dX9_sweepsOff_36 (mF0 hM).2.1 rfl (by rw [(mF0 hM).2.2]; omega) (by rw [(mF0 hM).2.2]; decide) ?_
  refine Ex_top (show _ = I (M + 1) 5 by rw [rowI_s, upd_n (by omega)]) ?_
  refine Ex_iload_n dX9_sweepsOff_37 rfl ?_
  first | with_reducible refine Ex_iaddN dX9_sweepsOff_38 ?_ | refine Ex_iadd dX9_sweepsOff_38 ?_
  refine Ex_iast dX9_sweepsOff_39 (mF0 hM).2.1 rfl (by rw [(mF0 hM).2.2]; omega) (by rw [(mF0 hM).2.2]; decide) ?_
  rw [setI_row, rowI_r, rowI_s]
  refine Ex_iload_n dX9_sweepsOff_40 rfl ?_
  refine Ex_iret dX9_sweepsOff_41 (by first | rfl | exact narrow_bI) ?_
  exact ⟨_, rfl, rfl, (by rw [rowI_s]; rfl), (hF1.mono (fun a h => Or.inr h)).trans (Fr.row (Or.inl rfl)), rfl⟩
theorem mN_of {g : Nat → Int32} {s m : Nat} (h : g (8 + 17 * s + 2) = nI m) (hm : m < 2 ^ 31) : mN g s = m := by unfold mN; rw [h]; exact cl_nI hm
theorem take_2 {g : Nat → Int32} {s m k : Nat} : takeG g s m k (8 + 17 * s + 2) = nI (m - 1) := if_pos rfl
theorem take_o {g : Nat → Int32} {s m k j : Nat} (h : j < 8 + 17 * s ∨ 8 + 17 * s + 17 ≤ j) (hm : m ≤ 13) : takeG g s m k j = g j := by
  unfold takeG takeK
  rw [if_neg (by omega), if_neg (by omega)]
theorem setl_o {g : Nat → Int32} {s m j : Nat} {e : Int32} (h : j < 8 + 17 * s ∨ 8 + 17 * s + 17 ≤ j) (hm : m ≤ 12) : setlG g s m e j = g j := by
  unfold setlG
  rw [upd_n (by omega), upd_n (by omega)]
theorem settle_o {g : Nat → Int32} {s m j : Nat} {e : Int32} (h : j < 8 + 17 * s ∨ 8 + 17 * s + 17 ≤ j) (hm : m ≤ 12) : settleG g s m e j = g j := by
  unfold settleG
  split
  · exact setl_o h hm
  · rw [upd_n (by omega), take_o h (by omega), setl_o h hm]
theorem nI_le0 {m : Nat} (h : m < 2 ^ 31) (h0 : nI m ≤ 0) : m = 0 := by
  rw [i_le, nI_toInt h, iz_0] at h0
  omega
set_option maxRecDepth 100000 in
set_option maxHeartbeats 4000000 in
theorem c9_blows {T : TC} {I : MI} {G : MG} (d : Nat) {M : Nat} (hM : MSh T G M) (s n : Nat) (hW : WfG (I (M + 1))) (hs : s < n) (hn : I (M + 1) 1 = nI n) (hn8 : n ≤ 8) : OkV T mX9_blows (d + 3) [.ref M, .int (nI s)] I G (fun I' G' => I' = rowI I (M + 1) (blowG (I (M + 1)) s n) ∧ G' = G) := by
  refine Ok_of (own := RX9) (by decide) rfl (cat1 rfl) (Nat.le_of_ble_eq_true rfl) ?_
  show Ex T RX9 cX9_blows 3 (d + 3) _ 0 [some (.ref M), some (.int (nI s)), none] [] I G (0, 0)
  obtain ⟨hm1, hm2, -, -⟩ := hW.2.2.1 s (by omega)
  have hr8 : (s + 1) % n < n := Nat.mod_lt _ (by omega)
  obtain ⟨hp1, hp2, -, -⟩ := hW.2.2.1 ((s + 1) % n) (by omega)
  generalize hmm : mN (I (M + 1)) s = m at hm1 hm2
  refine Ex_aload_n dX9_blows_0 rfl ?_
  refine Ex_iload_n dX9_blows_1 rfl ?_
  refine Ex_iconst (v := nI 2) dX9_blows_2 (by rfl) ?_
  refine Ex_V2p dX9_blows_3 sX9_105 hM.1 (Nat.le_of_ble_eq_true rfl) (c9_of (d + 2) hM s 2 (by omega)) ?_
  refine Ex_top hm1 ?_
  refine Ex_if_le (tgt := 49) dX9_blows_6 (by decide) (fun h6 => ?_) (fun h6 => ?_)
  · refine Ex_vret dX9_blows_49 ?_
    exact ⟨rfl, by unfold blowG; rw [hmm, if_pos (nI_le0 (by omega) h6)]; exact (rowI_self).symm, rfl⟩
  · have hm0 : ¬ m = 0 := fun e => h6 (by rw [e]; decide)
    refine Ex_aload_n dX9_blows_9 rfl ?_
    refine Ex_iload_n dX9_blows_10 rfl ?_
    refine Ex_aload_n dX9_blows_11 rfl ?_
    refine Ex_iload_n dX9_blows_12 rfl ?_
    refine Ex_iconst (v := nI 2) dX9_blows_13 (by rfl) ?_
    refine Ex_V2p dX9_blows_14 sX9_105 hM.1 (Nat.le_of_ble_eq_true rfl) (c9_of (d + 2) hM s 2 (by omega)) ?_
    refine Ex_top hm1 ?_
    refine Ex_iconst (v := nI 1) dX9_blows_17 (by rfl) ?_
    refine Ex_isubN (by omega) dX9_blows_18 ?_
    refine Ex_V2i dX9_blows_19 sX9_141 hM.1 (Nat.le_of_ble_eq_true rfl) (c9_takesOut (d + 1) hM s m (m - 1) hm1 (by omega) (by omega) (by omega)) ?_
    rintro r _ _ ⟨rfl, rfl, rfl⟩
    refine Ex_istore_n dX9_blows_22 (by decide) rfl ?_
    simp only [st_n0, st_n1, st_n2, st_n3, List.set_cons_zero, List.set_cons_succ]
    refine Ex_aload_n dX9_blows_23 rfl ?_
    refine Ex_iload_n dX9_blows_24 rfl ?_
    refine Ex_iconst (v := nI 1) dX9_blows_25 (by rfl) ?_
    first | with_reducible refine Ex_iaddN dX9_blows_26 ?_ | refine Ex_iadd dX9_blows_26 ?_
    refine Ex_aload_n dX9_blows_27 rfl ?_
    refine Ex_getr dX9_blows_28 fX9_9 hM.1 (mF0 hM).1 ?_
    refine Ex_iconst (v := nI 1) dX9_blows_31 (by rfl) ?_
    refine Ex_iald dX9_blows_32 (mF0 hM).2.1 rfl (by rw [(mF0 hM).2.2]; omega) (by rw [(mF0 hM).2.2]; decide) ?_
    refine Ex_top (show _ = nI n by rw [rowI_s, take_o (by omega) (by omega)]; exact hn) ?_
    refine Ex_iremN (by omega) (by omega) (by omega) dX9_blows_33 ?_
    have hq : takeG (I (M + 1)) s m (m - 1) (8 + 17 * ((s + 1) % n) + 2) = nI (mN (takeG (I (M + 1)) s m (m - 1)) ((s + 1) % n)) ∧ mN (takeG (I (M + 1)) s m (m - 1)) ((s + 1) % n) ≤ 12 := by
      by_cases e : (s + 1) % n = s
      · rw [e]
        have h2 : takeG (I (M + 1)) s m (m - 1) (8 + 17 * s + 2) = nI (m - 1) := take_2
        rw [mN_of h2 (by omega)]
        exact ⟨h2, by omega⟩
      · have h2 : takeG (I (M + 1)) s m (m - 1) (8 + 17 * ((s + 1) % n) + 2) = I (M + 1) (8 + 17 * ((s + 1) % n) + 2) := take_o (by omega) (by omega)
        rw [mN_of (h2.trans hp1) (by omega)]
        exact ⟨h2.trans hp1, hp2⟩
    obtain ⟨hq1, hq2⟩ := hq
    refine Ex_iload_n dX9_blows_34 rfl ?_
    refine Ex_V2v dX9_blows_35 sX9_147 hM.1 (Nat.le_of_ble_eq_true rfl) (c9_settlesOn d hM ((s + 1) % n) (mN (takeG (I (M + 1)) s m (m - 1)) ((s + 1) % n)) _ (by rw [rowI_s]; exact hq1) (by omega) hq2) ?_
    rintro _ _ ⟨rfl, rfl⟩
    rw [rowI_r, rowI_s]
    refine Ex_aload_n dX9_blows_38 rfl ?_
    refine Ex_getr dX9_blows_39 fX9_9 hM.1 (mF0 hM).1 ?_
    refine Ex_bipush (v := nI 6) dX9_blows_42 (by rfl) ?_
    refine Ex_dup2 dX9_blows_44 rfl rfl ?_
    refine Ex_iald dX9_blows_45 (mF0 hM).2.1 rfl (by rw [(mF0 hM).2.2]; omega) (by rw [(mF0 hM).2.2]; decide) ?_
    refine Ex_top (show _ = I (M + 1) 6 by rw [rowI_s, settle_o (by omega) hq2, take_o (by omega) (by omega)]) ?_
    refine Ex_iconst (v := nI 1) dX9_blows_46 (by rfl) ?_
    first | with_reducible refine Ex_iaddN dX9_blows_47 ?_ | refine Ex_iadd dX9_blows_47 ?_
    refine Ex_iast dX9_blows_48 (mF0 hM).2.1 rfl (by rw [(mF0 hM).2.2]; omega) (by rw [(mF0 hM).2.2]; decide) ?_
    rw [setI_row, rowI_r, rowI_s]
    refine Ex_vret dX9_blows_49 ?_
    exact ⟨rfl, by unfold blowG; rw [hmm, if_neg hm0], rfl⟩
