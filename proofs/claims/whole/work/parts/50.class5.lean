/-! the class: a hall becomes another, one more surface, rows gone, differences -/
def PB (b : Nat) : Nat → Prop := fun x => b ≤ x ∧ x < b + 19
theorem PBH {b N x : Nat} (q : PB b x) : PH b N x := Or.inl q
/-- another hall stays as it is -/
theorem Hl.oth {T : TC} {I I' : MI} {G : MG} {b b2 X N : Nat} {g : Nat → Int32} (h : Hl T I G b2 X N g) (hF : Fr (PH b N) I I') (hd : b + 19 ≤ b2 ∨ b2 + 19 ≤ b) (hb : b + 19 ≤ N) : Hl T I' G b2 X N g :=
  ⟨h.1, h.2.1, h.2.2.1.fr hF (fun x q => by unfold PH at q; have := h.2.1; omega) h.n8, h.2.2.2.1.fr hF (fun x q => by unfold PH at q; omega), h.2.2.2.2⟩
set_option maxRecDepth 100000 in
set_option maxHeartbeats 4000000 in
theorem l1_become {T : TC} {I : MI} {G : MG} {F : FinT} {bb : Nat × Nat} (d : Nat) {b b2 X N : Nat} {g : Nat → Int32} (hS : HlS T G b X) (hH : Hl T I G b2 X N g) (hdj : b + 19 ≤ b2 ∨ b2 + 19 ≤ b) (n : Nat) (hn : nS g = n) (hn8 : n ≤ 8) (kx : ∀ J, J b 1 = nI n → (∀ s, s < n → SfR J (b + 3 + 2 * s) g s) → Fr (PB b) I J → Ex T RX1 cX1_become 3 (d + 2) F 10 [some (.ref b), some (.ref b2), some (.int (nI n))] [] J G bb) : ∀ i k J, k + i = n → J b 1 = nI n → (∀ s, s < k → SfR J (b + 3 + 2 * s) g s) → Fr (PB b) I J → Ex T RX1 cX1_become 3 (d + 2) F 10 [some (.ref b), some (.ref b2), some (.int (nI k))] [] J G bb := by
  intro i
  induction i with
  | zero => intro k J h0 h1 h2 h3; have e0 : k = n := by omega
            subst e0; exact kx J h1 h2 h3
  | succ i ih =>
    intro k J h0 h1 h2 h3
    have hO := hH.1
    have hsf := hH.sf (s := k) (by omega)
    have hm := hH.mm k (by omega)
    refine Ex_iload_n dX1_become_10 rfl ?_
    refine Ex_aload_n dX1_become_11 rfl ?_
    refine Ex_geti dX1_become_12 fX1_36 (hl_o hS) ?_
    refine Ex_top h1 ?_
    refine Ex_icmp_geN (by omega) (by omega) (tgt := 39) dX1_become_15 (by decide) (fun h15 => ?_) (fun h15 => ?_)
    · omega
    · refine Ex_aload_n dX1_become_18 rfl ?_
      refine Ex_getr dX1_become_19 fX1_11 (hl_o hS) (hl_s hS) ?_
      refine Ex_iload_n dX1_become_22 rfl ?_
      refine Ex_aaldSu dX1_become_23 (hl_sI hS) rfl (by rw [hl_sN hS]; omega) (by rw [hl_sN hS]; decide) (hl_k hS k (by omega)) ?_
      refine Ex_aload_n dX1_become_24 rfl ?_
      refine Ex_getr dX1_become_25 fX1_11 (hl_o hH.1) (hl_s hH.1) ?_
      refine Ex_iload_n dX1_become_28 rfl ?_
      refine Ex_aaldSu dX1_become_29 (hl_sI hO) rfl (by rw [hl_sN hO]; omega) (by rw [hl_sN hO]; decide) (hl_k hO k (by omega)) ?_
      refine Ex_V1v dX1_become_30 sX1_39 (hl_S hS k (by omega)).1 (Nat.le_of_ble_eq_true rfl) (c5_become d (hl_S hS k (by omega)) (hl_S hO k (by omega)) (by omega) (by omega) (by omega)) ?_
      rintro J2 _ ⟨hj1, hj2, hf, rfl⟩
      first | refine Ex_iincN (m := 1) dX1_become_33 rfl rfl (by decide) rfl ?_ | refine Ex_iinc dX1_become_33 rfl rfl (by decide) rfl ?_
      simp only [List.set_cons_zero, List.set_cons_succ]
      refine Ex_goto (tgt := 10) dX1_become_36 (by decide) ?_
      have e0 : J (b2 + 3 + 2 * k) = I (b2 + 3 + 2 * k) := h3 _ (fun q => by unfold PB at q; omega)
      have e1 : J (b2 + 3 + 2 * k + 1) = I (b2 + 3 + 2 * k + 1) := h3 _ (fun q => by unfold PB at q; omega)
      refine ih (k + 1) J2 (by omega) (by rw [hf b (fun q => by unfold P2 at q; omega)]; exact h1) (fun s hs => ?_) (h3.trans (hf.mono (fun x q => by unfold P2 at q; exact ⟨by omega, by omega⟩)))
      by_cases es : s = k
      · subst es
        exact ⟨fun w hw => by rw [hj1 w hw, e0]; exact hsf.1 w hw, fun i hi => by rw [hj2 i (by omega), e1]; exact hsf.2 i hi⟩
      · exact SfR_cg (hf _ (fun q => by unfold P2 at q; omega)) (hf _ (fun q => by unfold P2 at q; omega)) (fun _ _ _ => rfl) (hH.mm s (by omega)) (h2 s (by omega))
set_option maxRecDepth 100000 in
set_option maxHeartbeats 4000000 in
theorem c1_become {T : TC} {I : MI} {G : MG} (d : Nat) {b b2 X N : Nat} {g : Nat → Int32} (hS : HlS T G b X) (hH : Hl T I G b2 X N g) (hdj : b + 19 ≤ b2 ∨ b2 + 19 ≤ b) (hb : b + 19 ≤ N) : OkV T mX1_become (d + 2) [.ref b, .ref b2] I G (fun I' G' => Hl T I' G b X N g ∧ Fr (PB b) I I' ∧ G' = G) := by
  refine Ok_of (own := RX1) (by decide) rfl (cat1 rfl) (Nat.le_of_ble_eq_true rfl) ?_
  show Ex T RX1 cX1_become 3 (d + 2) _ 0 [some (.ref b), some (.ref b2), none] [] I G (0, 0)
  refine Ex_aload_n dX1_become_0 rfl ?_
  refine Ex_aload_n dX1_become_1 rfl ?_
  refine Ex_geti dX1_become_2 fX1_36 (hl_o hH.1) ?_
  refine Ex_puti dX1_become_5 fX1_36 rfl rfl rfl (hl_o hS) ?_
  refine Ex_iconst (v := nI 0) dX1_become_8 (by rfl) ?_
  refine Ex_istore_n dX1_become_9 (by decide) rfl ?_
  simp only [st_n0, st_n1, st_n2, st_n3, List.set_cons_zero, List.set_cons_succ]
  have hne : b2 ≠ b := by omega
  have hn8 := hH.n8
  generalize hn : nS g = n at hn8
  refine l1_become d hS hH hdj n hn hn8 ?_ n 0 _ (by omega) (by rw [setI_s, hH.n, hn]) (fun s hs => absurd hs (by omega)) (Fr.refl.si ⟨by omega, by omega⟩)
  intro J h1 h2 h3
  have hob : J b2 = I b2 := h3 _ (fun q => by unfold PB at q; omega)
  refine Ex_iload_n dX1_become_10 rfl ?_
  refine Ex_aload_n dX1_become_11 rfl ?_
  refine Ex_geti dX1_become_12 fX1_36 (hl_o hS) ?_
  refine Ex_top h1 ?_
  refine Ex_icmp_geN (by omega) (by omega) (tgt := 39) dX1_become_15 (by decide) (fun h15 => ?_) (fun h15 => ?_)
  · refine Ex_aload_n dX1_become_39 rfl ?_
    refine Ex_aload_n dX1_become_40 rfl ?_
    refine Ex_geti dX1_become_41 fX1_17 (hl_o hH.1) ?_
    refine Ex_top (show _ = g 3 by simp only [setI_a hne, hob]; exact hH.fx (j := 2) (q := 3) (by decide)) ?_
    refine Ex_puti dX1_become_44 fX1_17 rfl rfl rfl (hl_o hS) ?_
    refine Ex_aload_n dX1_become_47 rfl ?_
    refine Ex_aload_n dX1_become_48 rfl ?_
    refine Ex_geti dX1_become_49 fX1_21 (hl_o hH.1) ?_
    refine Ex_top (show _ = g 4 by simp only [setI_a hne, hob]; exact hH.fx (j := 3) (q := 4) (by decide)) ?_
    refine Ex_puti dX1_become_52 fX1_21 rfl rfl rfl (hl_o hS) ?_
    refine Ex_aload_n dX1_become_55 rfl ?_
    refine Ex_aload_n dX1_become_56 rfl ?_
    refine Ex_geti dX1_become_57 fX1_43 (hl_o hH.1) ?_
    refine Ex_top (show _ = g 5 by simp only [setI_a hne, hob]; exact hH.fx (j := 4) (q := 5) (by decide)) ?_
    refine Ex_puti dX1_become_60 fX1_43 rfl rfl rfl (hl_o hS) ?_
    refine Ex_aload_n dX1_become_63 rfl ?_
    refine Ex_aload_n dX1_become_64 rfl ?_
    refine Ex_geti dX1_become_65 fX1_46 (hl_o hH.1) ?_
    refine Ex_top (show _ = g 6 by simp only [setI_a hne, hob]; exact hH.fx (j := 5) (q := 6) (by decide)) ?_
    refine Ex_puti dX1_become_68 fX1_46 rfl rfl rfl (hl_o hS) ?_
    refine Ex_aload_n dX1_become_71 rfl ?_
    refine Ex_aload_n dX1_become_72 rfl ?_
    refine Ex_geti dX1_become_73 fX1_49 (hl_o hH.1) ?_
    refine Ex_top (show _ = g 2 by simp only [setI_a hne, hob]; exact hH.fx (j := 6) (q := 2) (by decide)) ?_
    refine Ex_puti dX1_become_76 fX1_49 rfl rfl rfl (hl_o hS) ?_
    refine Ex_aload_n dX1_become_79 rfl ?_
    refine Ex_aload_n dX1_become_80 rfl ?_
    refine Ex_geti dX1_become_81 fX1_24 (hl_o hH.1) ?_
    refine Ex_top (show _ = g 0 by simp only [setI_a hne, hob]; exact hH.fx (j := 7) (q := 0) (by decide)) ?_
    refine Ex_puti dX1_become_84 fX1_24 rfl rfl rfl (hl_o hS) ?_
    refine Ex_aload_n dX1_become_87 rfl ?_
    refine Ex_aload_n dX1_become_88 rfl ?_
    refine Ex_geti dX1_become_89 fX1_52 (hl_o hH.1) ?_
    refine Ex_top (show _ = g 7 by simp only [setI_a hne, hob]; exact hH.fx (j := 9) (q := 7) (by decide)) ?_
    refine Ex_puti dX1_become_92 fX1_52 rfl rfl rfl (hl_o hS) ?_
    refine Ex_aload_n dX1_become_95 rfl ?_
    refine Ex_getr dX1_become_96 fX1_27 (hl_o hH.1) (hl_g hH.1) ?_
    refine Ex_iconst (v := nI 0) dX1_become_99 (by rfl) ?_
    refine Ex_aload_n dX1_become_100 rfl ?_
    refine Ex_getr dX1_become_101 fX1_27 (hl_o hS) (hl_g hS) ?_
    refine Ex_iconst (v := nI 0) dX1_become_104 (by rfl) ?_
    refine Ex_iconst (v := nI 3) dX1_become_105 (by rfl) ?_
    refine Ex_copy dX1_become_106 sX1_55 (Nat.le_of_ble_eq_true rfl) (hl_gI hH.1) (hl_gI hS) rfl rfl rfl (by rw [hl_gN hH.1]; omega) (by rw [hl_gN hS]; omega) (by rw [hl_gN hH.1]; decide) (by rw [hl_gN hS]; decide) ?_
    refine Ex_vret dX1_become_109 ?_
    have hF : Fr (PB b) I (cpyI (setI (setI (setI (setI (setI (setI (setI J b 2 (g 3)) b 3 (g 4)) b 4 (g 5)) b 5 (g 6)) b 6 (g 2)) b 7 (g 0)) b 9 (g 7)) (b2 + 2) (b + 2) 0 0 3) := (((((((h3.si ⟨by omega, by omega⟩).si ⟨by omega, by omega⟩).si ⟨by omega, by omega⟩).si ⟨by omega, by omega⟩).si ⟨by omega, by omega⟩).si ⟨by omega, by omega⟩).si ⟨by omega, by omega⟩).cp ⟨by omega, by omega⟩
    have hbN := hH.2.1
    refine ⟨rfl, ⟨hS, hb, ⟨fun p hp => ?_, fun k hk => ?_, fun s hs => ?_⟩, hH.2.2.2.1.fr hF (fun x q => by unfold PB at q; omega), hH.w⟩, hF, rfl⟩
    · rw [cpyI_n (by omega)]
      simp only [fxL, List.mem_cons, List.not_mem_nil, or_false] at hp
      rcases hp with rfl | rfl | rfl | rfl | rfl | rfl | rfl | rfl
      · simp [setI]; rw [h1, ← hn]; exact hH.w.1.symm
      all_goals simp [setI]
    · rw [cpyI_s, pk_cpy_in (by omega) (by omega), Nat.sub_zero, Nat.zero_add]
      simp only [setI_a (show b2 + 2 ≠ b by omega)]
      rw [h3 _ (fun q => by unfold PB at q; omega)]; exact hH.2.2.1.2.1 k hk
    · exact SfR_cg (by rw [cpyI_n (by omega)]; simp only [setI_a (show b + 3 + 2 * s ≠ b by omega)]) (by rw [cpyI_n (by omega)]; simp only [setI_a (show b + 3 + 2 * s + 1 ≠ b by omega)]) (fun _ _ _ => rfl) (hH.mm s hs) (h2 s (by omega))
  · omega
theorem cme_f {g : Nat → Int32} {n j : Nat} {kind damp : Int32} (h : j < 8 + 17 * n ∨ 8 + 17 * n + 17 ≤ j) (h1 : j ≠ 1) : comesG g n kind damp j = g j := by
  unfold comesG
  rw [if_neg (by omega), if_neg (by omega), if_neg (by omega), if_neg h1]
theorem cme_1 {g : Nat → Int32} {n : Nat} {kind damp : Int32} : comesG g n kind damp 1 = nI (n + 1) := by
  unfold comesG
  rw [if_neg (by omega), if_neg (by omega), if_neg (by omega), if_pos rfl]
theorem cme_k {g : Nat → Int32} {n : Nat} {kind damp : Int32} : comesG g n kind damp (8 + 17 * n + 0) = kind := if_pos rfl
theorem cme_d {g : Nat → Int32} {n : Nat} {kind damp : Int32} : comesG g n kind damp (8 + 17 * n + 1) = damp := by
  unfold comesG
  rw [if_neg (by omega), if_pos rfl]
theorem cme_0 {g : Nat → Int32} {n w : Nat} {kind damp : Int32} (h1 : 2 ≤ w) (h2 : w < 17) : comesG g n kind damp (8 + 17 * n + w) = nI 0 := by
  unfold comesG
  rw [if_neg (by omega), if_neg (by omega), if_pos (by omega)]
theorem WfG_comes {g : Nat → Int32} {n k : Nat} {damp : Int32} (hw : WfG g) (hn : n < 8) (hk : k < 6) : WfG (comesG g n (nI k) damp) := by
  have e : nS (comesG g n (nI k) damp) = n + 1 := nS_of cme_1 (by omega)
  refine ⟨by rw [e]; exact cme_1, by rw [e]; omega, fun s hs => ?_, TxAll_congr (cme_f (by omega) (by omega)) (fun j hj => cme_f (by omega) (by omega)) hw.2.2.2⟩
  by_cases es : s = n
  · subst es
    have em : mN (comesG g s (nI k) damp) s = 0 := mN_of (cme_0 (by omega) (by omega)) (by omega)
    exact ⟨by rw [em]; exact cme_0 (by omega) (by omega), by rw [em]; omega, fun i hi => by rw [em] at hi; omega, k, hk, cme_k⟩
  · exact LyOk_congr (fun j h1 h2 => cme_f (by omega) (by omega)) (hw.2.2.1 s hs)
theorem Hl.comes {T : TC} {I : MI} {G : MG} {b X N n k : Nat} {g : Nat → Int32} {damp : Int32} (h : Hl T I G b X N g) (hn : nS g = n) (h8 : n < 8) (hk : k < 6) : Hl T (setI (rowI I (b + 3 + 2 * n) (upd (upd (upd (upd (I (b + 3 + 2 * n)) 0 (nI k)) 1 damp) 2 (nI 0)) 3 (nI 0))) b 1 (nI (n + 1))) G b X N (comesG g n (nI k) damp) := by
  have e1 : nS (comesG g n (nI k) damp) = n + 1 := nS_of cme_1 (by omega)
  have e7 : tN (comesG g n (nI k) damp) = tN g := by unfold tN; rw [cme_f (by omega) (by omega)]
  have hF : Fr (PH b N) I (setI (rowI I (b + 3 + 2 * n) (upd (upd (upd (upd (I (b + 3 + 2 * n)) 0 (nI k)) 1 damp) 2 (nI 0)) 3 (nI 0))) b 1 (nI (n + 1))) := Fr.si (Fr.row (Or.inl ⟨by omega, by omega⟩)) (Or.inl ⟨by omega, by omega⟩)
  refine h.step ⟨fun p hp => ?_, fun k hk => ?_, fun s hs => ?_⟩ hF (cme_f (by omega) (by omega)) (fun j hj => cme_f (by omega) (by omega)) (WfG_comes h.w h8 hk)
  · have h8 := fx_8 p hp
    by_cases e : p.1 = 1
    · rw [show p.2 = 1 from (fx_inj p hp (1, 1) (by decide)).mp e, e, setI_s, cme_1]
    · rw [setI_n (fun w => e w.2), rowI_n (by omega), cme_f (by omega) (fun w => e ((fx_inj p hp (1, 1) (by decide)).mpr w))]; exact h.2.2.1.1 p hp
  · rw [setI_a (by omega), rowI_n (by omega), e7, cntF_cg (fun x hx => cme_f (by omega) (by omega))]; exact h.2.2.1.2.1 k hk
  · rw [e1] at hs
    by_cases es : s = n
    · subst es
      have em : mN (comesG g s (nI k) damp) s = 0 := mN_of (cme_0 (by omega) (by omega)) (by omega)
      refine ⟨fun w hw => ?_, fun i hi => by rw [em] at hi; omega⟩
      rw [setI_a (by omega), rowI_s]
      rcases w4 hw with rfl | rfl | rfl | rfl
      · rw [cme_k]; simp [upd]
      · rw [cme_d]; simp [upd]
      · rw [cme_0 (by omega) (by omega)]; simp [upd]
      · rw [cme_0 (by omega) (by omega)]; simp [upd]
    · exact SfR_cg (by rw [setI_a (by omega), rowI_n (by omega)]) (by rw [setI_a (by omega), rowI_n (by omega)]) (fun j h1 h2 => cme_f (by omega) (by omega)) (h.mm s (by omega)) (h.sf (by omega))
set_option maxRecDepth 100000 in
set_option maxHeartbeats 4000000 in
theorem c1_addSurface {T : TC} {I : MI} {G : MG} (d : Nat) {b X N : Nat} {g : Nat → Int32} (hH : Hl T I G b X N g) (n k : Nat) (damp : Int32) (hn : nS g = n) (h8 : n < 8) (hk : k < 6) : OkI T mX1_addSurface (d + 1) [.ref b, .int (nI k), .int damp] I G (fun r I' G' => r = nI n ∧ Hl T I' G b X N (comesG g n (nI k) damp) ∧ Fr (PH b N) I I' ∧ G' = G) := by
  refine Ok_of (own := RX1) (by decide) rfl (cat1 rfl) (Nat.le_of_ble_eq_true rfl) ?_
  show Ex T RX1 cX1_addSurface 3 (d + 1) _ 0 [some (.ref b), some (.int (nI k)), some (.int damp)] [] I G (0, 0)
  have hS := hH.1
  refine Ex_aload_n dX1_addSurface_0 rfl ?_
  refine Ex_geti dX1_addSurface_1 fX1_36 (hl_o hS) ?_
  refine Ex_top (show _ = nI n by rw [hH.n, hn]) ?_
  refine Ex_bipush (v := nI 8) dX1_addSurface_4 (by rfl) ?_
  refine Ex_icmp_ltN (by omega) (by omega) (tgt := 12) dX1_addSurface_6 (by decide) (fun h6 => ?_) (fun h6 => ?_)
  · refine Ex_aload_n dX1_addSurface_12 rfl ?_
    refine Ex_getr dX1_addSurface_13 fX1_11 (hl_o hS) (hl_s hS) ?_
    refine Ex_aload_n dX1_addSurface_16 rfl ?_
    refine Ex_geti dX1_addSurface_17 fX1_36 (hl_o hS) ?_
    refine Ex_top (show _ = nI n by rw [hH.n, hn]) ?_
    refine Ex_aaldSu dX1_addSurface_20 (hl_sI hS) rfl (by rw [hl_sN hS]; omega) (by rw [hl_sN hS]; decide) (hl_k hS n (by omega)) ?_
    refine Ex_iload_n dX1_addSurface_21 rfl ?_
    refine Ex_iload_n dX1_addSurface_22 rfl ?_
    refine Ex_V2v dX1_addSurface_23 sX1_62 (hl_S hS n (by omega)).1 (Nat.le_of_ble_eq_true rfl) (c5_begin d (hl_S hS n (by omega)) _ _) ?_
    rintro _ _ ⟨rfl, rfl⟩
    refine Ex_aload_n dX1_addSurface_26 rfl ?_
    refine Ex_dup dX1_addSurface_27 rfl ?_
    refine Ex_geti dX1_addSurface_28 fX1_36 (hl_o hS) ?_
    refine Ex_top (show _ = nI n by rw [rowI_n (by omega), hH.n, hn]) ?_
    refine Ex_iconst (v := nI 1) dX1_addSurface_31 (by rfl) ?_
    first | with_reducible refine Ex_iaddN dX1_addSurface_32 ?_ | refine Ex_iadd dX1_addSurface_32 ?_
    refine Ex_puti dX1_addSurface_33 fX1_36 rfl rfl rfl (hl_o hS) ?_
    refine Ex_aload_n dX1_addSurface_36 rfl ?_
    refine Ex_geti dX1_addSurface_37 fX1_36 (hl_o hS) ?_
    refine Ex_top (show _ = nI (n + 1) from setI_s) ?_
    refine Ex_iconst (v := nI 1) dX1_addSurface_40 (by rfl) ?_
    refine Ex_isubN (by omega) dX1_addSurface_41 ?_
    refine Ex_iret dX1_addSurface_42 (by first | rfl | exact narrow_bI) ?_
    exact ⟨_, rfl, rfl, hH.comes hn h8 hk, Fr.si (Fr.row (Or.inl ⟨by omega, by omega⟩)) (Or.inl ⟨by omega, by omega⟩), rfl⟩
  · omega
set_option maxRecDepth 100000 in
set_option maxHeartbeats 4000000 in
theorem l1_gone {T : TC} {I : MI} {G : MG} {bb : Nat × Nat} (d : Nat) {b X N w : Nat} {g : Nat → Int32} (hR : ShS T G w) (row : Nat → Int32) (z s : Nat) (hz1 : I w 1 = nI z) (hz : z ≤ 24) (hrow : ∀ k, k < z → I (w + 1) k = row k) (hw1 : ¬ PH b N w) (hw2 : ¬ PH b N (w + 1)) (hs : s < nS g) (hW : WfG g) : ∀ i k J, k + i = 201 → gn g row z s i k = gnF g row z s → Hl T J G b X N (daysG g k) → Fr (PH b N) I J → Ex T RX1 cX1_dayRowIsGone 4 (d + 5) (fm T "dayRowIsGone" (some .int) (fun v I' G' => ∃ r, v = some (.int r) ∧ r = nI (gnF g row z s) ∧ Fr (PH b N) I I' ∧ G' = G)) 2 [some (.ref b), some (.ref w), some (.ref (b + 3 + 2 * s)), some (.int (nI k))] [] J G bb := by
  intro i
  induction i with
  | zero =>
    intro k J h0 hg h1 h2
    have e0 : k = 201 := by omega
    subst e0
    have hS := h1.1
    refine Ex_iload_n dX1_dayRowIsGone_2 rfl ?_
    refine Ex_sipush (v := nI 200) dX1_dayRowIsGone_3 (by rfl) ?_
    refine Ex_icmp_gtN (by omega) (by omega) (tgt := 29) dX1_dayRowIsGone_6 (by decide) (fun h6 => ?_) (fun h6 => ?_)
    · refine Ex_sipush (v := nI 201) dX1_dayRowIsGone_29 (by rfl) ?_
      refine Ex_iret dX1_dayRowIsGone_32 (by first | rfl | exact narrow_bI) ?_
      exact ⟨_, rfl, (by rw [← hg]; rfl), h2, rfl⟩
    · omega
  | succ i ih =>
    intro k J h0 hg h1 h2
    have hS := h1.1
    have hn := nS_days hW k
    have hn8 := h1.n8
    have hl := h1.ly (s := s) (by omega)
    have hsf := h1.sf (s := s) (by omega)
    have hg2 : (if pvF row z (layF (daysG g k) s) (mN (daysG g k) s) = z then gn g row z s i (k + 1) else k) = gnF g row z s := hg
    refine Ex_iload_n dX1_dayRowIsGone_2 rfl ?_
    refine Ex_sipush (v := nI 200) dX1_dayRowIsGone_3 (by rfl) ?_
    refine Ex_icmp_gtN (by omega) (by omega) (tgt := 29) dX1_dayRowIsGone_6 (by decide) (fun h6 => ?_) (fun h6 => ?_)
    · omega
    · refine Ex_aload_n dX1_dayRowIsGone_9 rfl ?_
      refine Ex_aload_n dX1_dayRowIsGone_10 rfl ?_
      refine Ex_V1p dX1_dayRowIsGone_11 sX1_128 (hl_S hS s (by omega)).1 (Nat.le_of_ble_eq_true rfl) (c5_bears (d + 3) (hl_S hS s (by omega)) hR row (layF (daysG g k) s) z (mN (daysG g k) s) (by rw [h2 w hw1]; exact hz1) hz (fun i hi => by rw [h2 (w + 1) hw2]; exact hrow i hi) ((hsf.1 2 (by omega)).trans hl.1) hl.2.1 (fun i hi => hsf.2 i hi)) ?_
      refine Ex_if_neB (tgt := 19) dX1_dayRowIsGone_14 (by decide) (fun h14 => ?_) (fun h14 => ?_)
      · refine Ex_aload_n dX1_dayRowIsGone_19 rfl ?_
        refine Ex_V0v dX1_dayRowIsGone_20 sX1_72 (hl_o hS) (Nat.le_of_ble_eq_true rfl) (c1_passDay d h1) ?_
        rintro J2 _ ⟨hj, hf, rfl⟩
        first | refine Ex_iincN (m := 1) dX1_dayRowIsGone_23 rfl rfl (by decide) rfl ?_ | refine Ex_iinc dX1_dayRowIsGone_23 rfl rfl (by decide) rfl ?_
        simp only [List.set_cons_zero, List.set_cons_succ]
        refine Ex_goto (tgt := 2) dX1_dayRowIsGone_26 (by decide) ?_
        exact ih (k + 1) J2 (by omega) (by rw [if_pos h14] at hg2; exact hg2) hj (h2.trans hf)
      · refine Ex_iload_n dX1_dayRowIsGone_17 rfl ?_
        refine Ex_iret dX1_dayRowIsGone_18 (by first | rfl | exact narrow_bI) ?_
        exact ⟨_, rfl, (by rw [if_neg h14] at hg2; rw [hg2]), h2, rfl⟩
set_option maxRecDepth 100000 in
set_option maxHeartbeats 4000000 in
theorem c1_dayRowIsGone {T : TC} {I : MI} {G : MG} (d : Nat) {b X N w : Nat} {g : Nat → Int32} (hR : ShS T G w) (row : Nat → Int32) (z s : Nat) (hz1 : I w 1 = nI z) (hz : z ≤ 24) (hrow : ∀ k, k < z → I (w + 1) k = row k) (hw1 : ¬ PH b N w) (hw2 : ¬ PH b N (w + 1)) (hs : s < nS g) (hH : Hl T I G b X N g)  : OkI T mX1_dayRowIsGone (d + 5) [.ref b, .ref w, .ref (b + 3 + 2 * s)] I G (fun r I' G' => r = nI (gnF g row z s) ∧ Fr (PH b N) I I' ∧ G' = G) := by
  refine Ok_of (own := RX1) (by decide) rfl (cat1 rfl) (Nat.le_of_ble_eq_true rfl) ?_
  show Ex T RX1 cX1_dayRowIsGone 4 (d + 5) _ 0 [some (.ref b), some (.ref w), some (.ref (b + 3 + 2 * s)), none] [] I G (0, 0)
  refine Ex_iconst (v := nI 0) dX1_dayRowIsGone_0 (by rfl) ?_
  refine Ex_istore_n dX1_dayRowIsGone_1 (by decide) rfl ?_
  simp only [st_n0, st_n1, st_n2, st_n3, List.set_cons_zero, List.set_cons_succ]
  exact l1_gone d hR row z s hz1 hz hrow hw1 hw2 hs hH.w 201 0 I (by omega) rfl hH Fr.refl
