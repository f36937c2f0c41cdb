/-! the class: the key, the whole tape -/
theorem kw_s : ∀ w, w < 3 → lS (3 + w) = ka (w + 1) - ka w ∧ ka w + lS (3 + w) ≤ 11 ∧ ∀ j, j < lS (3 + w) → cS (3 + w) j = nI (kc (ka w + j)) := by decide +kernel
def kyC (tb : Nat → Nat) (N f : Nat) : Option Nat := if cT tb N f = 1 then kyF tb f (gE tb N f - f) 3 0 else none
def kyR (x : Option Nat) : Int32 := match x with
  | none => (-1)
  | some w => nI w
theorem kyC_eq {tb : Nat → Nat} {N f : Nat} : kyC tb N f = if cT tb N f = 1 ∧ kwP tb f (gE tb N f - f) 0 then some 0 else if cT tb N f = 1 ∧ kwP tb f (gE tb N f - f) 1 then some 1 else if cT tb N f = 1 ∧ kwP tb f (gE tb N f - f) 2 then some 2 else none := by
  unfold kyC
  by_cases h : cT tb N f = 1
  · rw [if_pos h]
    show (if kwP tb f (gE tb N f - f) 0 then some 0 else if kwP tb f (gE tb N f - f) 1 then some 1 else if kwP tb f (gE tb N f - f) 2 then some 2 else none) = _
    by_cases h0 : kwP tb f (gE tb N f - f) 0
    · rw [if_pos h0, if_pos ⟨h, h0⟩]
    · rw [if_neg h0, if_neg (show ¬ (cT tb N f = 1 ∧ kwP tb f (gE tb N f - f) 0) from fun z => h0 z.2)]
      by_cases h1 : kwP tb f (gE tb N f - f) 1
      · rw [if_pos h1, if_pos ⟨h, h1⟩]
      · rw [if_neg h1, if_neg (show ¬ (cT tb N f = 1 ∧ kwP tb f (gE tb N f - f) 1) from fun z => h1 z.2)]
        by_cases h2 : kwP tb f (gE tb N f - f) 2
        · rw [if_pos h2, if_pos ⟨h, h2⟩]
        · rw [if_neg h2, if_neg (show ¬ (cT tb N f = 1 ∧ kwP tb f (gE tb N f - f) 2) from fun z => h2 z.2)]
  · rw [if_neg h, if_neg (fun z => h z.1), if_neg (fun z => h z.1), if_neg (fun z => h z.1)]
theorem kyC_3 {tb : Nat → Nat} {N f w : Nat} (h : kyC tb N f = some w) : w < 3 := by
  rw [kyC_eq] at h
  repeat' (split at h)
  · rw [← Option.some.inj h]; decide
  · rw [← Option.some.inj h]; decide
  · rw [← Option.some.inj h]; decide
  · cases h
set_option maxRecDepth 100000 in
set_option maxHeartbeats 4000000 in
theorem l0_isWord {T : TC} {I : MI} {G : MG} (d : Nat) {D NN : Nat} (hD : DS T G D NN) {tb : Nat → Nat} {N : Nat} (hT : TpC I D tb N) {ky : Int32} {f a : Nat} {q : List Int32} (hG : GrR I D tb N ky f q a) (hf : f ≤ N) (w : Nat) (hw : w < 3) (h1 : cT tb N f = 1) (hl : gE tb N f - f = lS (3 + w)) : ∀ i k, k + i = lS (3 + w) → (∀ j, j < k → tb (f + j) = kc (ka w + j)) → Ex T RX0 cX0_isWord 3 (d + 4) (fm T "isWord" (some .boolean) (fun v I' G' => ∃ r, v = some (.int r) ∧ r = (bI (cT tb N f = 1 ∧ kwP tb f (gE tb N f - f) w)) ∧ I' = I ∧ G' = G)) 28 [some (.ref (D + 61)), some (.ref (tK T (3 + w))), some (.int (nI k))] [] I G (0, 0) := by
  have h96 := hT.1
  have hge := gE_le (tb := tb) hf
  obtain ⟨hs1, hs2, hs3⟩ := kw_s w hw
  have h4 := (lS_4 (show 3 + w < 6 by omega)).2
  intro i
  induction i with
  | zero =>
    intro k h0 hj
    refine Ex_iload_n dX0_isWord_28 rfl ?_
    refine Ex_aload_n dX0_isWord_29 rfl ?_
    refine Ex_T0p (show 3 + w < 6 by omega) rfl dX0_isWord_30 sX0_115 (Nat.le_of_ble_eq_true rfl) (cS_length (d + 2) (show 3 + w < 6 by omega)) ?_
    refine Ex_icmp_geN (by omega) (by omega) (tgt := 66) dX0_isWord_33 (by decide) (fun h33 => ?_) (fun h33 => ?_)
    · refine Ex_iconst (v := nI 1) dX0_isWord_66 (by rfl) ?_
      refine Ex_iret dX0_isWord_67 (by first | rfl | exact narrow_bI) ?_
      exact ⟨_, rfl, (bI_t ⟨h1, by omega, fun j hj2 => hj j (by omega)⟩).symm, rfl, rfl⟩
    · omega
  | succ i ih =>
    intro k h0 hj
    obtain ⟨hb1, hb2⟩ := hT.2.2 (f + k) (by omega)
    have hkc := kc_lt (ka w + k) (by omega)
    refine Ex_iload_n dX0_isWord_28 rfl ?_
    refine Ex_aload_n dX0_isWord_29 rfl ?_
    refine Ex_T0p (show 3 + w < 6 by omega) rfl dX0_isWord_30 sX0_115 (Nat.le_of_ble_eq_true rfl) (cS_length (d + 2) (show 3 + w < 6 by omega)) ?_
    refine Ex_icmp_geN (by omega) (by omega) (tgt := 66) dX0_isWord_33 (by decide) (fun h33 => ?_) (fun h33 => ?_)
    · omega
    · refine Ex_aload_n dX0_isWord_36 rfl ?_
      refine Ex_getr dX0_isWord_37 fX0_15 (ds_g hD).1 (ds_g hD).2.1 ?_
      refine Ex_getr dX0_isWord_40 fX0_65 (ds_tp hD).1 (ds_tp hD).2.1 ?_
      refine Ex_aload_n dX0_isWord_43 rfl ?_
      refine Ex_geti dX0_isWord_44 fX0_70 (ds_g hD).1 ?_
      refine Ex_top hG.2.2.2.1 ?_
      refine Ex_iload_n dX0_isWord_47 rfl ?_
      first | with_reducible refine Ex_iaddN dX0_isWord_48 ?_ | refine Ex_iadd dX0_isWord_48 ?_
      refine Ex_iald dX0_isWord_49 (ds_tp hD).2.2.1 rfl (by rw [(ds_tp hD).2.2.2]; omega) (by rw [(ds_tp hD).2.2.2]; decide) ?_
      refine Ex_top hb1 ?_
      refine Ex_aload_n dX0_isWord_50 rfl ?_
      refine Ex_iload_n dX0_isWord_51 rfl ?_
      refine Ex_T1p (show 3 + w < 6 by omega) rfl dX0_isWord_52 sX0_117 (Nat.le_of_ble_eq_true rfl) (cS_charAt d (show 3 + w < 6 by omega) k (by omega)) ?_
      refine Ex_top (hs3 k (by omega)) ?_
      refine Ex_icmp_eqN (by omega) (by omega) (tgt := 60) dX0_isWord_55 (by decide) (fun h55 => ?_) (fun h55 => ?_)
      · first | refine Ex_iincN (m := 1) dX0_isWord_60 rfl rfl (by decide) rfl ?_ | refine Ex_iinc dX0_isWord_60 rfl rfl (by decide) rfl ?_
        simp only [List.set_cons_zero, List.set_cons_succ]
        refine Ex_goto (tgt := 28) dX0_isWord_63 (by decide) ?_
        refine ih (k + 1) (by omega) (fun j hj2 => ?_)
        rcases Nat.lt_or_ge j k with z | z
        · exact hj j z
        · rw [show j = k by omega]; exact h55
      · refine Ex_iconst (v := nI 0) dX0_isWord_58 (by rfl) ?_
        refine Ex_iret dX0_isWord_59 (by first | rfl | exact narrow_bI) ?_
        exact ⟨_, rfl, (bI_f (fun z => h55 (z.2.2 k (by omega)))).symm, rfl, rfl⟩
set_option maxRecDepth 100000 in
set_option maxHeartbeats 4000000 in
theorem c0_isWord {T : TC} {I : MI} {G : MG} (d : Nat) {D NN : Nat} (hD : DS T G D NN) {tb : Nat → Nat} {N : Nat} (hT : TpC I D tb N) {ky : Int32} {f a : Nat} {q : List Int32} (hG : GrR I D tb N ky f q a) (hf : f ≤ N) (w : Nat) (hw : w < 3) : OkP T mX0_isWord (d + 4) [.ref (D + 61), .ref (tK T (3 + w))] I G (bI (cT tb N f = 1 ∧ kwP tb f (gE tb N f - f) w)) := by
  refine Ok_of (own := RX0) (by decide) rfl (cat1 rfl) (Nat.le_of_ble_eq_true rfl) ?_
  show Ex T RX0 cX0_isWord 3 (d + 4) _ 0 [some (.ref (D + 61)), some (.ref (tK T (3 + w))), none] [] I G (0, 0)
  have h96 := hT.1
  have hge := gE_le (tb := tb) hf
  have hcl := cT_le3 (tb := tb) (N := N) f
  obtain ⟨hs1, hs2, hs3⟩ := kw_s w hw
  have h4 := (lS_4 (show 3 + w < 6 by omega)).2
  refine Ex_aload_n dX0_isWord_0 rfl ?_
  refine Ex_geti dX0_isWord_1 fX0_43 (ds_g hD).1 ?_
  refine Ex_top hG.2.2.2.2.2.1 ?_
  refine Ex_iconst (v := nI 1) dX0_isWord_4 (by rfl) ?_
  refine Ex_icmp_neN (by omega) (by omega) (tgt := 24) dX0_isWord_5 (by decide) (fun h5 => ?_) (fun h5 => ?_)
  · refine Ex_iconst (v := nI 0) dX0_isWord_24 (by rfl) ?_
    refine Ex_iret dX0_isWord_25 (by first | rfl | exact narrow_bI) ?_
    exact ⟨_, rfl, (bI_f (fun z => h5 z.1)).symm, rfl, rfl⟩
  · refine Ex_aload_n dX0_isWord_8 rfl ?_
    refine Ex_geti dX0_isWord_9 fX0_26 (ds_g hD).1 ?_
    refine Ex_top hG.2.2.2.2.1 ?_
    refine Ex_aload_n dX0_isWord_12 rfl ?_
    refine Ex_geti dX0_isWord_13 fX0_70 (ds_g hD).1 ?_
    refine Ex_top hG.2.2.2.1 ?_
    refine Ex_isubN (by omega) dX0_isWord_16 ?_
    refine Ex_aload_n dX0_isWord_17 rfl ?_
    refine Ex_T0p (show 3 + w < 6 by omega) rfl dX0_isWord_18 sX0_115 (Nat.le_of_ble_eq_true rfl) (cS_length (d + 2) (show 3 + w < 6 by omega)) ?_
    refine Ex_icmp_eqN (by omega) (by omega) (tgt := 26) dX0_isWord_21 (by decide) (fun h21 => ?_) (fun h21 => ?_)
    · refine Ex_iconst (v := nI 0) dX0_isWord_26 (by rfl) ?_
      refine Ex_istore_n dX0_isWord_27 (by decide) rfl ?_
      simp only [st_n0, st_n1, st_n2, st_n3, List.set_cons_zero, List.set_cons_succ]
      exact l0_isWord d hD hT hG hf w hw h5 h21 (lS (3 + w)) 0 (by omega) (fun j hj => by omega)
    · refine Ex_iconst (v := nI 0) dX0_isWord_24 (by rfl) ?_
      refine Ex_iret dX0_isWord_25 (by first | rfl | exact narrow_bI) ?_
      exact ⟨_, rfl, (bI_f (fun z => h21 (by have := z.2.1; omega))).symm, rfl, rfl⟩
set_option maxRecDepth 100000 in
set_option maxHeartbeats 4000000 in
theorem c0_keyHere {T : TC} {I : MI} {G : MG} (d : Nat) {D NN : Nat} (hD : DS T G D NN) {tb : Nat → Nat} {N : Nat} (hT : TpC I D tb N) {ky : Int32} {f a : Nat} {q : List Int32} (hG : GrR I D tb N ky f q a) (hf : f ≤ N)  : OkP T mX0_keyHere (d + 5) [.ref (D + 61)] I G (kyR (kyC tb N f)) := by
  refine Ok_of (own := RX0) (by decide) rfl (cat1 rfl) (Nat.le_of_ble_eq_true rfl) ?_
  show Ex T RX0 cX0_keyHere 1 (d + 5) _ 0 [some (.ref (D + 61))] [] I G (0, 0)
  refine Ex_aload_n dX0_keyHere_0 rfl ?_
  refine Ex_ldcS (i := 3) (by omega) rfl dX0_keyHere_1 ?_
  refine Ex_V1p dX0_keyHere_3 sX0_107 (ds_g hD).1 (Nat.le_of_ble_eq_true rfl) (c0_isWord d hD hT hG hf 0 (by omega)) ?_
  refine Ex_if_eqB (tgt := 13) dX0_keyHere_6 (by decide) (fun h6 => ?_) (fun h6 => ?_)
  · refine Ex_aload_n dX0_keyHere_13 rfl ?_
    refine Ex_ldcS (i := 4) (by omega) rfl dX0_keyHere_14 ?_
    refine Ex_V1p dX0_keyHere_16 sX0_107 (ds_g hD).1 (Nat.le_of_ble_eq_true rfl) (c0_isWord d hD hT hG hf 1 (by omega)) ?_
    refine Ex_if_eqB (tgt := 26) dX0_keyHere_19 (by decide) (fun h19 => ?_) (fun h19 => ?_)
    · refine Ex_aload_n dX0_keyHere_26 rfl ?_
      refine Ex_ldcS (i := 5) (by omega) rfl dX0_keyHere_27 ?_
      refine Ex_V1p dX0_keyHere_29 sX0_107 (ds_g hD).1 (Nat.le_of_ble_eq_true rfl) (c0_isWord d hD hT hG hf 2 (by omega)) ?_
      refine Ex_if_eqB (tgt := 39) dX0_keyHere_32 (by decide) (fun h32 => ?_) (fun h32 => ?_)
      · refine Ex_iconst (v := (-1)) dX0_keyHere_39 (by rfl) ?_
        refine Ex_iret dX0_keyHere_40 (by first | rfl | exact narrow_bI) ?_
        exact ⟨_, rfl, (by rw [kyC_eq, if_neg h6, if_neg h19, if_neg h32]; rfl), rfl, rfl⟩
      · refine Ex_iconst (v := nI 2) dX0_keyHere_35 (by rfl) ?_
        refine Ex_goto (tgt := 40) dX0_keyHere_36 (by decide) ?_
        refine Ex_iret dX0_keyHere_40 (by first | rfl | exact narrow_bI) ?_
        exact ⟨_, rfl, (by rw [kyC_eq, if_neg h6, if_neg h19, if_pos h32]; rfl), rfl, rfl⟩
    · refine Ex_iconst (v := nI 1) dX0_keyHere_22 (by rfl) ?_
      refine Ex_goto (tgt := 40) dX0_keyHere_23 (by decide) ?_
      refine Ex_iret dX0_keyHere_40 (by first | rfl | exact narrow_bI) ?_
      exact ⟨_, rfl, (by rw [kyC_eq, if_neg h6, if_pos h19]; rfl), rfl, rfl⟩
  · refine Ex_iconst (v := nI 0) dX0_keyHere_9 (by rfl) ?_
    refine Ex_goto (tgt := 40) dX0_keyHere_10 (by decide) ?_
    refine Ex_iret dX0_keyHere_40 (by first | rfl | exact narrow_bI) ?_
    exact ⟨_, rfl, (by rw [kyC_eq, if_pos h6]; rfl), rfl, rfl⟩
def rcW (tb : Nat → Nat) (N w : Nat) : Bool × Nat × List Int32 × Nat := rcd tb N (nI w) (mes N 0 (nx tb N (gF tb N 0))) 0 none 0 0 (nx tb N (gF tb N 0)) [] 0
def ptC (tb : Nat → Nat) (N : Nat) : Option Nat × Bool × Nat × List Int32 × Nat := match kyC tb N (gF tb N 0) with
  | none => (none, false, gF tb N 0, [], 0)
  | some w => (some w, decide ((rcW tb N w).1 = true ∧ (rcW tb N w).2.1 = N), (rcW tb N w).2)
theorem ptC_n {tb : Nat → Nat} {N : Nat} (h : kyC tb N (gF tb N 0) = none) : ptC tb N = (none, false, gF tb N 0, [], 0) := by unfold ptC; rw [h]
theorem ptC_s {tb : Nat → Nat} {N w : Nat} (h : kyC tb N (gF tb N 0) = some w) : ptC tb N = (some w, decide ((rcW tb N w).1 = true ∧ (rcW tb N w).2.1 = N), (rcW tb N w).2) := by unfold ptC; rw [h]
theorem GrR.key {I : MI} {D N f a : Nat} {tb : Nat → Nat} {ky ky' : Int32} {q : List Int32} (h : GrR I D tb N ky f q a) : GrR (setI I (D + 61) 4 ky') D tb N ky' f q a := by
  obtain ⟨h1, h2, h3, h4, h5, h6, h7⟩ := h
  exact ⟨by rw [setI_n (by omega)]; exact h1, by rw [setI_n (by omega)]; exact h2, setI_s, by rw [setI_n (by omega)]; exact h4, by rw [setI_n (by omega)]; exact h5, by rw [setI_n (by omega)]; exact h6, by rw [setI_a (by omega)]; exact h7⟩
def PtQ (I : MI) (D : Nat) (tb : Nat → Nat) (N : Nat) (r : Int32) (I' : MI) : Prop := r = bI ((ptC tb N).2.1 = true) ∧ (∀ w, (ptC tb N).1 = some w → (ptC tb N).2.1 = true → GrR I' D tb N (nI w) N (ptC tb N).2.2.2.1 (ptC tb N).2.2.2.2) ∧ ((ptC tb N).2.1 = false → I' (D + 61) 5 = nI (ptC tb N).2.2.1) ∧ Fr (PG D) I I' 
set_option maxRecDepth 100000 in
set_option maxHeartbeats 4000000 in
theorem c0_parseTape {T : TC} {I : MI} {G : MG} (d : Nat) {D NN : Nat} (hD : DS T G D NN) {tb : Nat → Nat} {N : Nat} (hT : TpC I D tb N)  : OkI T mX0_parseTape (d + 90) [.ref (D + 61)] I G (fun r I' G' => PtQ I D tb N r I' ∧ G' = G) := by
  refine Ok_of (own := RX0) (by decide) rfl (cat1 rfl) (Nat.le_of_ble_eq_true rfl) ?_
  show Ex T RX0 cX0_parseTape 1 (d + 90) _ 0 [some (.ref (D + 61))] [] I G (0, 0)
  have h96 := hT.1
  refine Ex_aload_n dX0_parseTape_0 rfl ?_
  refine Ex_iconst (v := nI 0) dX0_parseTape_1 (by rfl) ?_
  refine Ex_puti dX0_parseTape_2 fX0_19 rfl rfl rfl (ds_g hD).1 ?_
  refine Ex_aload_n dX0_parseTape_5 rfl ?_
  refine Ex_iconst (v := nI 0) dX0_parseTape_6 (by rfl) ?_
  refine Ex_puti dX0_parseTape_7 fX0_23 rfl rfl rfl (ds_g hD).1 ?_
  refine Ex_aload_n dX0_parseTape_10 rfl ?_
  refine Ex_iconst (v := nI 0) dX0_parseTape_11 (by rfl) ?_
  refine Ex_puti dX0_parseTape_12 fX0_26 rfl rfl rfl (ds_g hD).1 ?_
  have f0 : Fr (PG D) I (setI (setI (setI I (D + 61) 2 (nI 0)) (D + 61) 3 (nI 0)) (D + 61) 6 (nI 0)) := ((Fr.refl.si (Or.inl rfl)).si (Or.inl rfl)).si (Or.inl rfl)
  have t0 := hT.fr f0
  have hgl := gF_le (tb := tb) (Nat.zero_le N)
  refine Ex_aload_n dX0_parseTape_15 rfl ?_
  refine Ex_V0v dX0_parseTape_16 sX0_29 (ds_g hD).1 (Nat.le_of_ble_eq_true rfl) (c0_advance (d + 88) hD t0 0 setI_s (Nat.zero_le N)) ?_
  rintro _ _ ⟨rfl, rfl⟩
  have g0 : GrR (setI (setI (setI I (D + 61) 2 (nI 0)) (D + 61) 3 (nI 0)) (D + 61) 6 (nI 0)) D tb N (I (D + 61) 4) 0 [] 0 → True := fun _ => trivial
  have g1 : GrR (rowI (setI (setI (setI I (D + 61) 2 (nI 0)) (D + 61) 3 (nI 0)) (D + 61) 6 (nI 0)) (D + 61) (g3 ((setI (setI (setI I (D + 61) 2 (nI 0)) (D + 61) 3 (nI 0)) (D + 61) 6 (nI 0)) (D + 61)) (nI (gF tb N 0)) (nI (gE tb N (gF tb N 0))) (nI (cT tb N (gF tb N 0))))) D tb N (I (D + 61) 4) (gF tb N 0) [] 0 := ⟨by rw [rowI_s]; show (setI (setI (setI I (D + 61) 2 (nI 0)) (D + 61) 3 (nI 0)) (D + 61) 6 (nI 0)) (D + 61) 2 = _; rw [setI_n (by omega), setI_n (by omega), setI_s]; rfl, by rw [rowI_s]; show (setI (setI (setI I (D + 61) 2 (nI 0)) (D + 61) 3 (nI 0)) (D + 61) 6 (nI 0)) (D + 61) 3 = _; rw [setI_n (by omega), setI_s], by rw [rowI_s]; show (setI (setI (setI I (D + 61) 2 (nI 0)) (D + 61) 3 (nI 0)) (D + 61) 6 (nI 0)) (D + 61) 4 = _; rw [setI_n (by omega), setI_n (by omega), setI_n (by omega)], by rw [rowI_s]; rfl, by rw [rowI_s]; rfl, by rw [rowI_s]; rfl, trivial⟩
  have f1 := f0.trans (Fr.row (f := g3 ((setI (setI (setI I (D + 61) 2 (nI 0)) (D + 61) 3 (nI 0)) (D + 61) 6 (nI 0)) (D + 61)) (nI (gF tb N 0)) (nI (gE tb N (gF tb N 0))) (nI (cT tb N (gF tb N 0)))) (show PG D (D + 61) from Or.inl rfl))
  clear g0
  have t1 := hT.fr f1
  generalize rowI (setI (setI (setI I (D + 61) 2 (nI 0)) (D + 61) 3 (nI 0)) (D + 61) 6 (nI 0)) (D + 61) (g3 ((setI (setI (setI I (D + 61) 2 (nI 0)) (D + 61) 3 (nI 0)) (D + 61) 6 (nI 0)) (D + 61)) (nI (gF tb N 0)) (nI (gE tb N (gF tb N 0))) (nI (cT tb N (gF tb N 0)))) = J1 at g1 f1 t1 ⊢
  refine Ex_aload_n dX0_parseTape_19 rfl ?_
  refine Ex_aload_n dX0_parseTape_20 rfl ?_
  refine Ex_V0p dX0_parseTape_21 sX0_32 (ds_g hD).1 (Nat.le_of_ble_eq_true rfl) (c0_keyHere (d + 84) hD t1 g1 hgl.2) ?_
  refine Ex_puti dX0_parseTape_24 fX0_36 rfl rfl rfl (ds_g hD).1 ?_
  have g2 := g1.key (ky' := kyR (kyC tb N (gF tb N 0)))
  have f2 := f1.si (j := 4) (v := kyR (kyC tb N (gF tb N 0))) (show PG D (D + 61) from Or.inl rfl)
  have t2 := hT.fr f2
  generalize setI _ (D + 61) 4 (kyR (kyC tb N (gF tb N 0))) = J2 at *
  refine Ex_aload_n dX0_parseTape_27 rfl ?_
  refine Ex_geti dX0_parseTape_28 fX0_36 (ds_g hD).1 ?_
  refine Ex_top g2.2.2.1 ?_
  refine Ex_if_ge (tgt := 36) dX0_parseTape_31 (by decide) (fun h31 => ?_) (fun h31 => ?_)
  · obtain ⟨w, hkw⟩ : ∃ w, kyC tb N (gF tb N 0) = some w := by
      cases hk : kyC tb N (gF tb N 0) with
      | none => rw [hk] at h31; exact absurd h31 (by decide)
      | some w => exact ⟨w, rfl⟩
    have hw3 := kyC_3 hkw
    have hfl : gF tb N 0 < N := by
      have hc1 : cT tb N (gF tb N 0) = 1 := by
        unfold kyC at hkw
        split at hkw
        · assumption
        · cases hkw
      exact (cT_1.mp hc1).1
    have hx := nx_gt (tb := tb) hfl
    have hge := gE_le (tb := tb) hgl.2
    rw [hkw] at g2
    refine Ex_aload_n dX0_parseTape_36 rfl ?_
    refine Ex_V0v dX0_parseTape_37 sX0_29 (ds_g hD).1 (Nat.le_of_ble_eq_true rfl) (c0_advance (d + 88) hD t2 (gE tb N (gF tb N 0)) g2.2.2.2.2.1 hge.2) ?_
    rintro _ _ ⟨rfl, rfl⟩
    have g3' := g2.adv (nx tb N (gF tb N 0))
    have f3 := f2.trans (Fr.row (f := g3 (J2 (D + 61)) (nI (nx tb N (gF tb N 0))) (nI (gE tb N (nx tb N (gF tb N 0)))) (nI (cT tb N (nx tb N (gF tb N 0))))) (show PG D (D + 61) from Or.inl rfl))
    have t3 := hT.fr f3
    refine Ex_aload_n dX0_parseTape_40 rfl ?_
    refine Ex_iconst (v := nI 0) dX0_parseTape_41 (by rfl) ?_
    refine Ex_iconst (v := nI 0) dX0_parseTape_42 (by rfl) ?_
    refine Ex_iconst (v := nI 0) dX0_parseTape_43 (by rfl) ?_
    refine Ex_V3i dX0_parseTape_44 sX0_39 (ds_g hD).1 (Nat.le_of_ble_eq_true rfl) ((Gr_all hD w hw3 rfl (mes N 0 (nx tb N (gF tb N 0)))).2.1 _ (d + 89) 0 0 0 (nx tb N (gF tb N 0)) [] 0 (by unfold dpP; omega) (by omega) (by omega) (by omega) (Nat.le_refl _) hx.2 (by simp) t3 g3') ?_
    rintro r J4 _ ⟨⟨rfl, s2, s3, s4⟩, rfl⟩
    have hr9 := rcd_f (tb := tb) (N := N) (ky := nI w) (mes N 0 (nx tb N (gF tb N 0))) 0 none 0 0 (nx tb N (gF tb N 0)) [] 0 hx.2
    change (rcW tb N w).1 = true → GrR J4 D tb N (nI w) (rcW tb N w).2.1 (rcW tb N w).2.2.1 (rcW tb N w).2.2.2 at s2
    change (rcW tb N w).1 = false → J4 (D + 61) 5 = nI (rcW tb N w).2.1 at s3
    refine Ex_top (show _ = bI ((rcW tb N w).1 = true) from rfl) ?_
    refine Ex_if_eqB (tgt := 61) dX0_parseTape_47 (by decide) (fun h47 => ?_) (fun h47 => ?_)
    · refine Ex_iconst (v := nI 0) dX0_parseTape_61 (by rfl) ?_
      refine Ex_iret dX0_parseTape_62 (by first | rfl | exact narrow_bI) ?_
      have hx0 : (decide ((rcW tb N w).1 = true ∧ (rcW tb N w).2.1 = N)) = false := decide_eq_false (fun z => h47 z.1)
      refine ⟨_, rfl, ⟨?_, fun w hw h2 => ?_, fun _ => ?_, f3.trans s4⟩, rfl⟩
      · rw [ptC_s hkw, hx0]; exact (bI_f (fun z => by cases z)).symm
      · rw [ptC_s hkw, hx0] at h2; cases h2
      · rw [ptC_s hkw]; exact s3 (Bool.eq_false_iff.mpr h47)
    · have g4 := s2 h47
      have hcl := cT_le3 (tb := tb) (N := N) (rcW tb N w).2.1
      refine Ex_aload_n dX0_parseTape_50 rfl ?_
      refine Ex_geti dX0_parseTape_51 fX0_43 (ds_g hD).1 ?_
      refine Ex_top g4.2.2.2.2.2.1 ?_
      refine Ex_if_ne (tgt := 61) dX0_parseTape_54 (by decide) (fun h54 => ?_) (fun h54 => ?_)
      · refine Ex_iconst (v := nI 0) dX0_parseTape_61 (by rfl) ?_
        refine Ex_iret dX0_parseTape_62 (by first | rfl | exact narrow_bI) ?_
        have hn0 : ¬ cT tb N (rcW tb N w).2.1 = 0 := fun z => h54 (by rw [z]; rfl)
        have hx0 : (decide ((rcW tb N w).1 = true ∧ (rcW tb N w).2.1 = N)) = false := decide_eq_false (fun z => hn0 ((cT_0 hr9.2.1).mpr z.2))
        refine ⟨_, rfl, ⟨?_, fun w hw h2 => ?_, fun _ => ?_, f3.trans s4⟩, rfl⟩
        · rw [ptC_s hkw, hx0]; exact (bI_f (fun z => by cases z)).symm
        · rw [ptC_s hkw, hx0] at h2; cases h2
        · rw [ptC_s hkw]; exact (s2 h47).2.2.2.1
      · refine Ex_iconst (v := nI 1) dX0_parseTape_57 (by rfl) ?_
        refine Ex_goto (tgt := 62) dX0_parseTape_58 (by decide) ?_
        refine Ex_iret dX0_parseTape_62 (by first | rfl | exact narrow_bI) ?_
        have hn0 : cT tb N (rcW tb N w).2.1 = 0 := (nI_eq (by omega) (by omega)).mp h54
        have hxN : (rcW tb N w).2.1 = N := (cT_0 hr9.2.1).mp hn0
        have hx0 : (decide ((rcW tb N w).1 = true ∧ (rcW tb N w).2.1 = N)) = true := decide_eq_true ⟨h47, hxN⟩
        refine ⟨_, rfl, ⟨?_, fun w' hw _ => ?_, fun h2 => ?_, f3.trans s4⟩, rfl⟩
        · rw [ptC_s hkw, hx0]; exact (bI_t rfl).symm
        · rw [ptC_s hkw] at hw ⊢
          have e9 : w = w' := Option.some.inj hw
          rw [← e9]
          have := s2 h47
          rw [hxN] at this
          exact this
        · rw [ptC_s hkw, hx0] at h2; cases h2
  · have hkn : kyC tb N (gF tb N 0) = none := by
      cases hk : kyC tb N (gF tb N 0) with
      | none => rfl
      | some w => rw [hk] at h31; exact absurd (nI_pos' (by have := kyC_3 hk; omega)) h31
    refine Ex_iconst (v := nI 0) dX0_parseTape_34 (by rfl) ?_
    refine Ex_iret dX0_parseTape_35 (by first | rfl | exact narrow_bI) ?_
    refine ⟨_, rfl, ⟨?_, fun w hw => ?_, fun _ => ?_, f2⟩, rfl⟩
    · rw [ptC_n hkn]; exact (bI_f (fun z => by cases z)).symm
    · rw [ptC_n hkn] at hw; cases hw
    · rw [ptC_n hkn]; exact g2.2.2.2.1
