/-! the class: what is read -/
def ShA (I : MI) (D : Nat) (so : Nat → Int32) (sz : Nat → Nat) (ce : Nat → Nat → Int32) : Prop := ∀ k, k < 4 → ShR I (D + 82 + 2 * k) (so k) (sz k) (ce k) ∧ (so k = (-1) ∨ so k = nI 0 ∨ so k = nI 1) ∧ BdR (ce k) 24
theorem ShA.fr {I J : MI} {D : Nat} {so : Nat → Int32} {sz : Nat → Nat} {ce : Nat → Nat → Int32} {P : Nat → Prop} (h : ShA I D so sz ce) (hF : Fr P I J) (hP : ∀ x, P x → ¬ (D + 82 ≤ x ∧ x < D + 90)) : ShA J D so sz ce := by
  intro k hk
  obtain ⟨⟨h1, h2, h3, h4⟩, h5⟩ := h k hk
  have e0 : J (D + 82 + 2 * k) = I (D + 82 + 2 * k) := hF _ (fun q => hP _ q ⟨by omega, by omega⟩)
  have e1 : J (D + 82 + 2 * k + 1) = I (D + 82 + 2 * k + 1) := hF _ (fun q => hP _ q ⟨by omega, by omega⟩)
  exact ⟨⟨by rw [e0]; exact h1, by rw [e0]; exact h2, h3, fun j hj => by rw [e1]; exact h4 j hj⟩, h5⟩
theorem so_neg {x : Int32} (h : x = (-1) ∨ x = nI 0 ∨ x = nI 1) : x < 0 ↔ x = (-1) := by
  rcases h with rfl | rfl | rfl <;> decide
theorem Hl.sa {T : TC} {I : MI} {G : MG} {b X N s : Nat} {g : Nat → Int32} (h : Hl T I G b X N g) (hs : s < nS g) : SfA I (b + 3 + 2 * s) (mN g s) (layF g s) := by
  have h8 := h.n8
  have hl := h.ly (s := s) (by omega)
  exact ⟨((h.sf hs).1 2 (by omega)).trans hl.1, hl.2.1, fun k hk => (h.sf hs).2 k hk⟩
theorem Hl.fr' {T : TC} {I J : MI} {G : MG} {b X N : Nat} {g : Nat → Int32} {P : Nat → Prop} (h : Hl T I G b X N g) (hF : Fr P I J) (h1 : ∀ x, P x → ¬ PB b x) (h2 : ∀ x, P x → x < N ∨ (x - N) % 3 = 2) : Hl T J G b X N g :=
  ⟨h.1, h.2.1, h.2.2.1.fr hF h1 h.n8, h.2.2.2.1.fr hF h2, h.2.2.2.2⟩
theorem prPS {D N x : Nat} (q : PR (D + 63) x) : PS D N x := by unfold PR at q; exact Or.inr (Or.inl ⟨by omega, by omega⟩)
theorem thPS {D N x : Nat} (q : PH (D + 40) N x) : PS D N x := by
  unfold PH at q
  rcases q with q | q
  · exact Or.inl ⟨by omega, by omega⟩
  · exact Or.inr (Or.inr q)
/-- asking leaves the hall as it is -/
theorem Hl.ps {T : TC} {I J : MI} {G : MG} {D N : Nat} {g : Nat → Int32} (h : Hl T I G (D + 2) (D + 1) N g) (hD : DS T G D N) (hF : Fr (PS D N) I J) : Hl T J G (D + 2) (D + 1) N g := by
  have hN := ds_N hD
  exact h.fr' hF (fun x q => by unfold PS PK at q; unfold PB; omega) (fun x q => by unfold PS PK at q; omega)
theorem ShA.ps {I J : MI} {D N : Nat} {so : Nat → Int32} {sz : Nat → Nat} {ce : Nat → Nat → Int32} (h : ShA I D so sz ce) (hN : D + 117 ≤ N) (hF : Fr (PS D N) I J) : ShA J D so sz ce := h.fr hF (fun x q => by unfold PS PK at q; omega)
def rfS (so : Nat → Int32) (s : Int32) : Int32 := if inR s 4 then (if so (cl s) < 0 then cNOTHING else nI 0) else cBAD
def rfR (so : Nat → Int32) (sz : Nat → Nat) (ce : Nat → Nat → Int32) (s : Int32) : Int32 := if inR s 4 then (if so (cl s) < 0 then cNOTHING else if rowP (ce (cl s)) (sz (cl s)) then nI 0 else cSIZE) else cBAD
theorem rfR_0 {so : Nat → Int32} {sz : Nat → Nat} {ce : Nat → Nat → Int32} {s : Int32} (h : rfR so sz ce s = 0) : inR s 4 ∧ ¬ so (cl s) < 0 ∧ rowP (ce (cl s)) (sz (cl s)) := by
  unfold rfR at h
  by_cases h1 : inR s 4
  · rw [if_pos h1] at h
    by_cases h2 : so (cl s) < 0
    · rw [if_pos h2] at h; exact absurd h (by decide)
    · rw [if_neg h2] at h
      by_cases h3 : rowP (ce (cl s)) (sz (cl s))
      · exact ⟨h1, h2, h3⟩
      · rw [if_neg h3] at h; exact absurd h (by decide)
  · rw [if_neg h1] at h; exact absurd h (by decide)
theorem rfR_n {so : Nat → Int32} {sz : Nat → Nat} {ce : Nat → Nat → Int32} {s X : Int32} (h : ¬ rfR so sz ce s = 0) : rfR so sz ce s = (if inR s 4 then (if so (cl s) < 0 then cNOTHING else if rowP (ce (cl s)) (sz (cl s)) then X else cSIZE) else cBAD) := by
  unfold rfR at *
  by_cases h1 : inR s 4
  · rw [if_pos h1] at h ⊢
    rw [if_pos h1]
    by_cases h2 : so (cl s) < 0
    · rw [if_pos h2, if_pos h2]
    · rw [if_neg h2] at h ⊢
      rw [if_neg h2]
      by_cases h3 : rowP (ce (cl s)) (sz (cl s))
      · rw [if_pos h3] at h; exact absurd nI_0 h
      · rw [if_neg h3, if_neg h3]
  · rw [if_neg h1, if_neg h1]
theorem rfR_n2 {so : Nat → Int32} {sz : Nat → Nat} {ce : Nat → Nat → Int32} {s u X : Int32} {n : Nat} (hu : inR u n) (h : ¬ rfR so sz ce s = 0) : rfR so sz ce s = (if inR s 4 ∧ inR u n then (if so (cl s) < 0 then cNOTHING else if rowP (ce (cl s)) (sz (cl s)) then X else cSIZE) else cBAD) := by
  rw [rfR_n (X := X) h]
  by_cases h1 : inR s 4
  · rw [if_pos h1, if_pos (c := inR s 4 ∧ inR u n) ⟨h1, hu⟩]
  · rw [if_neg h1, if_neg (c := inR s 4 ∧ inR u n) (fun q => h1 q.1)]
def rf2 (g so : Nat → Int32) (sz : Nat → Nat) (ce : Nat → Nat → Int32) (s u : Int32) : Int32 := if inR u (nS g) then rfR so sz ce s else cBAD
theorem rf2_0 {g so : Nat → Int32} {sz : Nat → Nat} {ce : Nat → Nat → Int32} {s u : Int32} (h : rf2 g so sz ce s u = 0) : inR u (nS g) ∧ inR s 4 ∧ ¬ so (cl s) < 0 ∧ rowP (ce (cl s)) (sz (cl s)) := by
  unfold rf2 at h
  by_cases h1 : inR u (nS g)
  · rw [if_pos h1] at h; exact ⟨h1, rfR_0 h⟩
  · rw [if_neg h1] at h; exact absurd h (by decide)
theorem rf2_n {g so : Nat → Int32} {sz : Nat → Nat} {ce : Nat → Nat → Int32} {s u X : Int32} (h : ¬ rf2 g so sz ce s u = 0) : rf2 g so sz ce s u = (if inR s 4 ∧ inR u (nS g) then (if so (cl s) < 0 then cNOTHING else if rowP (ce (cl s)) (sz (cl s)) then X else cSIZE) else cBAD) := by
  unfold rf2 at *
  by_cases h1 : inR u (nS g)
  · rw [if_pos h1] at h ⊢; exact rfR_n2 h1 h
  · rw [if_neg h1, if_neg (fun q => h1 q.2)]
set_option maxRecDepth 100000 in
set_option maxHeartbeats 4000000 in
theorem c8_sheetRefusal {T : TC} {I : MI} {G : MG} (d : Nat) {D N : Nat} (hD : DS T G D N) {so : Nat → Int32} {sz : Nat → Nat} {ce : Nat → Nat → Int32} (hA : ShA I D so sz ce) (s : Int32)  : OkP T mX8_sheetRefusal (d + 1) [.ref D, .int s] I G (rfS so s) := by
  refine Ok_of (own := RX8) (by decide) rfl (cat1 rfl) (Nat.le_of_ble_eq_true rfl) ?_
  show Ex T RX8 cX8_sheetRefusal 2 (d + 1) _ 0 [some (.ref D), some (.int s)] [] I G (0, 0)
  refine Ex_iload_n dX8_sheetRefusal_0 rfl ?_
  refine Ex_iconst (v := nI 4) dX8_sheetRefusal_1 (by rfl) ?_
  refine Ex_S2p dX8_sheetRefusal_2 sX8_67  (Nat.le_of_ble_eq_true rfl) (c8_isBelow (d) _ _) ?_
  refine Ex_if_neB (tgt := 11) dX8_sheetRefusal_5 (by decide) (fun h5 => ?_) (fun h5 => ?_)
  · obtain ⟨s', hs', es⟩ := (rng_k (by omega)).mp h5
    subst es
    have ecs : cl (nI s') = s' := cl_nI (by omega)
    have hsh := hA s' hs'
    have hz := hsh.1.2.2.1
    refine Ex_aload_n dX8_sheetRefusal_11 rfl ?_
    refine Ex_getr dX8_sheetRefusal_12 fX8_51 (ds_o hD) (ds_sh hD) ?_
    refine Ex_iload_n dX8_sheetRefusal_15 rfl ?_
    refine Ex_aaldSh dX8_sheetRefusal_16 (ds_shI hD) rfl (by rw [ds_shN hD]; omega) (by rw [ds_shN hD]; decide) (ds_shk hD s' (by omega)) ?_
    refine Ex_geti dX8_sheetRefusal_17 fX8_212 (ds_shS hD s' hs').1 ?_
    refine Ex_top hsh.1.1 ?_
    refine Ex_iconst (v := (-1)) dX8_sheetRefusal_20 (by rfl) ?_
    refine Ex_icmp_ne (tgt := 29) dX8_sheetRefusal_21 (by decide) (fun h21 => ?_) (fun h21 => ?_)
    · refine Ex_iconst (v := nI 0) dX8_sheetRefusal_29 (by rfl) ?_
      refine Ex_iret dX8_sheetRefusal_30 (by first | rfl | exact narrow_bI) ?_
      exact ⟨_, rfl, (by unfold rfS; rw [if_pos h5, ecs, if_neg (fun q => h21 ((so_neg hsh.2.1).mp q))]), rfl, rfl⟩
    · refine Ex_ldc dX8_sheetRefusal_24 kX8_215 ?_
      refine Ex_goto (tgt := 30) dX8_sheetRefusal_26 (by decide) ?_
      refine Ex_iret dX8_sheetRefusal_30 (by first | rfl | exact narrow_bI) ?_
      exact ⟨_, rfl, (by unfold rfS; rw [if_pos h5, ecs, if_pos ((so_neg hsh.2.1).mpr h21)]), rfl, rfl⟩
  · refine Ex_ldc dX8_sheetRefusal_8 kX8_71 ?_
    refine Ex_iret dX8_sheetRefusal_10 (by first | rfl | exact narrow_bI) ?_
    exact ⟨_, rfl, (by unfold rfS; rw [if_neg h5]), rfl, rfl⟩
set_option maxRecDepth 100000 in
set_option maxHeartbeats 4000000 in
theorem c8_rowRefusal {T : TC} {I : MI} {G : MG} (d : Nat) {D N : Nat} (hD : DS T G D N) {so : Nat → Int32} {sz : Nat → Nat} {ce : Nat → Nat → Int32} (hA : ShA I D so sz ce) (s : Int32)  : OkP T mX8_rowRefusal (d + 2) [.ref D, .int s] I G (rfR so sz ce s) := by
  refine Ok_of (own := RX8) (by decide) rfl (cat1 rfl) (Nat.le_of_ble_eq_true rfl) ?_
  show Ex T RX8 cX8_rowRefusal 3 (d + 2) _ 0 [some (.ref D), some (.int s), none] [] I G (0, 0)
  refine Ex_aload_n dX8_rowRefusal_0 rfl ?_
  refine Ex_iload_n dX8_rowRefusal_1 rfl ?_
  refine Ex_V1p dX8_rowRefusal_2 sX8_276 (ds_o hD) (Nat.le_of_ble_eq_true rfl) (c8_sheetRefusal d hD hA _) ?_
  refine Ex_istore_n dX8_rowRefusal_5 (by decide) rfl ?_
  simp only [st_n0, st_n1, st_n2, st_n3, List.set_cons_zero, List.set_cons_succ]
  refine Ex_iload_n dX8_rowRefusal_6 rfl ?_
  refine Ex_if_eq (tgt := 12) dX8_rowRefusal_7 (by decide) (fun h7 => ?_) (fun h7 => ?_)
  · have h4 : inR s 4 := by
      by_cases h1 : inR s 4
      · exact h1
      · unfold rfS at h7; rw [if_neg h1] at h7; exact absurd h7 (by decide)
    have hs0 : ¬ so (cl s) < 0 := by
      intro h2
      unfold rfS at h7; rw [if_pos h4, if_pos h2] at h7; exact absurd h7 (by decide)
    obtain ⟨s', hs', es⟩ := (rng_k (by omega)).mp h4
    subst es
    have ecs : cl (nI s') = s' := cl_nI (by omega)
    have hsh := hA s' hs'
    have hz := hsh.1.2.2.1
    rw [ecs] at hs0
    refine Ex_aload_n dX8_rowRefusal_12 rfl ?_
    refine Ex_getr dX8_rowRefusal_13 fX8_51 (ds_o hD) (ds_sh hD) ?_
    refine Ex_iload_n dX8_rowRefusal_16 rfl ?_
    refine Ex_aaldSh dX8_rowRefusal_17 (ds_shI hD) rfl (by rw [ds_shN hD]; omega) (by rw [ds_shN hD]; decide) (ds_shk hD s' (by omega)) ?_
    refine Ex_V0p dX8_rowRefusal_18 sX8_330 (ds_shS hD s' hs').1 (Nat.le_of_ble_eq_true rfl) (c3_tellsDeeds d (ds_shS hD s' hs') (ce s') (sz s') hsh.1.2.1 hz (fun k hk => hsh.1.2.2.2 k (by omega))) ?_
    refine Ex_if_eqB (tgt := 28) dX8_rowRefusal_21 (by decide) (fun h21 => ?_) (fun h21 => ?_)
    · refine Ex_ldc dX8_rowRefusal_28 kX8_207 ?_
      refine Ex_iret dX8_rowRefusal_30 (by first | rfl | exact narrow_bI) ?_
      exact ⟨_, rfl, (by unfold rfR; rw [if_pos h4, ecs, if_neg hs0, if_neg h21]), rfl, rfl⟩
    · refine Ex_iconst (v := nI 0) dX8_rowRefusal_24 (by rfl) ?_
      refine Ex_goto (tgt := 30) dX8_rowRefusal_25 (by decide) ?_
      refine Ex_iret dX8_rowRefusal_30 (by first | rfl | exact narrow_bI) ?_
      exact ⟨_, rfl, (by unfold rfR; rw [if_pos h4, ecs, if_neg hs0, if_pos h21]), rfl, rfl⟩
  · refine Ex_iload_n dX8_rowRefusal_10 rfl ?_
    refine Ex_iret dX8_rowRefusal_11 (by first | rfl | exact narrow_bI) ?_
    refine ⟨_, rfl, ?_, rfl, rfl⟩
    unfold rfS at h7 ⊢
    unfold rfR
    by_cases h1 : inR s 4
    · rw [if_pos h1] at h7 ⊢
      rw [if_pos h1]
      by_cases h2 : so (cl s) < 0
      · rw [if_pos h2, if_pos h2]
      · rw [if_neg h2] at h7; exact absurd nI_0 h7
    · rw [if_neg h1, if_neg h1]
set_option maxRecDepth 100000 in
set_option maxHeartbeats 4000000 in
theorem c8_rowRefusal_ {T : TC} {I : MI} {G : MG} (d : Nat) {D N : Nat} {g : Nat → Int32} (hD : DS T G D N) (hH : Hl T I G (D + 2) (D + 1) N g) {so : Nat → Int32} {sz : Nat → Nat} {ce : Nat → Nat → Int32} (hA : ShA I D so sz ce) (s u : Int32)  : OkP T mX8_rowRefusal_ (d + 3) [.ref D, .int s, .int u] I G (rf2 g so sz ce s u) := by
  refine Ok_of (own := RX8) (by decide) rfl (cat1 rfl) (Nat.le_of_ble_eq_true rfl) ?_
  show Ex T RX8 cX8_rowRefusal_ 3 (d + 3) _ 0 [some (.ref D), some (.int s), some (.int u)] [] I G (0, 0)
  refine Ex_aload_n dX8_rowRefusal__0 rfl ?_
  refine Ex_iload_n dX8_rowRefusal__1 rfl ?_
  refine Ex_V1p dX8_rowRefusal__2 sX8_81 (ds_o hD) (Nat.le_of_ble_eq_true rfl) (c8_isSurface (d + 1) hD hH _) ?_
  refine Ex_if_eqB (tgt := 16) dX8_rowRefusal__5 (by decide) (fun h5 => ?_) (fun h5 => ?_)
  · refine Ex_ldc dX8_rowRefusal__16 kX8_71 ?_
    refine Ex_iret dX8_rowRefusal__18 (by first | rfl | exact narrow_bI) ?_
    exact ⟨_, rfl, (by unfold rf2; rw [if_neg h5]), rfl, rfl⟩
  · refine Ex_aload_n dX8_rowRefusal__8 rfl ?_
    refine Ex_iload_n dX8_rowRefusal__9 rfl ?_
    refine Ex_V1p dX8_rowRefusal__10 sX8_169 (ds_o hD) (Nat.le_of_ble_eq_true rfl) (c8_rowRefusal d hD hA _) ?_
    refine Ex_goto (tgt := 18) dX8_rowRefusal__13 (by decide) ?_
    refine Ex_iret dX8_rowRefusal__18 (by first | rfl | exact narrow_bI) ?_
    exact ⟨_, rfl, (by unfold rf2; rw [if_pos h5]), rfl, rfl⟩
set_option maxRecDepth 100000 in
set_option maxHeartbeats 4000000 in
theorem l8_lies {T : TC} {I : MI} {G : MG} {F : FinT} {b : Nat × Nat} (d : Nat) {D N : Nat} {g : Nat → Int32} (hD : DS T G D N) (hH : Hl T I G (D + 2) (D + 1) N g) {so : Nat → Int32} {sz : Nat → Nat} {ce : Nat → Nat → Int32} (hA : ShA I D so sz ce) (hS : HlS T G (D + 2) (D + 1)) (s' : Nat) (hs' : s' < 4) (hsh : ShR I (D + 82 + 2 * s') (so s') (sz s') (ce s') ∧ (so s' = (-1) ∨ so s' = nI 0 ∨ so s' = nI 1) ∧ BdR (ce s') 24) (hz : sz s' ≤ 24) (n : Nat) (hn : nS g = n) (hn8 : n ≤ 8) (x2 : Int32) (kx : Ex T RX8 cX8_lies 5 (d + 2) F 17 [some (.ref D), some (.int (nI s')), some (.int x2), some (.int (lsG g (ce s') (sz s') n)), some (.int (nI n))] [] I G b) : ∀ i k, k + i = n  → Ex T RX8 cX8_lies 5 (d + 2) F 17 [some (.ref D), some (.int (nI s')), some (.int x2), some (.int (lsG g (ce s') (sz s') k)), some (.int (nI k))] [] I G b := by
  intro i
  induction i with
  | zero => intro k h0; have e0 : k = n := by omega
            subst e0; exact kx
  | succ i ih0 =>
    intro k h0
    have ih := ih0 (k + 1)
    refine Ex_iload dX8_lies_17 rfl ?_
    refine Ex_aload_n dX8_lies_19 rfl ?_
    refine Ex_getr dX8_lies_20 fX8_16 (ds_o hD) (ds_h hD) ?_
    refine Ex_geti dX8_lies_23 fX8_72 (hl_o hS) ?_
    refine Ex_top (show _ = nI n by rw [hH.n, hn]) ?_
    refine Ex_icmp_geN (by omega) (by omega) (tgt := 64) dX8_lies_26 (by decide) (fun h26 => ?_) (fun h26 => ?_)
    · omega
    · refine Ex_aload_n dX8_lies_29 rfl ?_
      refine Ex_getr dX8_lies_30 fX8_16 (ds_o hD) (ds_h hD) ?_
      refine Ex_getr dX8_lies_33 fX8_85 (hl_o hS) (hl_s hS) ?_
      refine Ex_iload dX8_lies_36 rfl ?_
      refine Ex_aaldSu dX8_lies_38 (hl_sI hS) rfl (by rw [hl_sN hS]; omega) (by rw [hl_sN hS]; decide) (hl_k hS k (by omega)) ?_
      refine Ex_aload_n dX8_lies_39 rfl ?_
      refine Ex_getr dX8_lies_40 fX8_51 (ds_o hD) (ds_sh hD) ?_
      refine Ex_iload_n dX8_lies_43 rfl ?_
      refine Ex_aaldSh dX8_lies_44 (ds_shI hD) rfl (by rw [ds_shN hD]; omega) (by rw [ds_shN hD]; decide) (ds_shk hD s' (by omega)) ?_
      refine Ex_V1p dX8_lies_45 sX8_172 (hl_S hS k (by omega)).1 (Nat.le_of_ble_eq_true rfl) (c5_bears d (hl_S hS k (by omega)) (ds_shS hD s' hs') (ce s') (layF g k) (sz s') (mN g k) hsh.1.2.1 hz (fun k hk => hsh.1.2.2.2 k (by omega)) (hH.sa (by omega)).1 (hH.sa (by omega)).2.1 (hH.sa (by omega)).2.2) ?_
      refine Ex_if_eqB (tgt := 58) dX8_lies_48 (by decide) (fun h48 => ?_) (fun h48 => ?_)
      · first | refine Ex_iincN (m := 1) dX8_lies_58 rfl rfl (by decide) rfl ?_ | refine Ex_iinc dX8_lies_58 rfl rfl (by decide) rfl ?_
        simp only [List.set_cons_zero, List.set_cons_succ]
        refine Ex_goto (tgt := 17) dX8_lies_61 (by decide) ?_
        have ec9 : lsG g (ce s') (sz s') (k + 1) = lsG g (ce s') (sz s') k := by show lsG _ _ _ k ||| _ = _; rw [if_neg (show ¬ prF g (ce s') (sz s') k = sz s' from h48), or_0]
        have key := ih (by omega)
        rw [ec9] at key
        exact key
      · refine Ex_iload_n dX8_lies_51 rfl ?_
        refine Ex_iconst (v := nI 1) dX8_lies_52 (by rfl) ?_
        refine Ex_iload dX8_lies_53 rfl ?_
        refine Ex_ishl dX8_lies_55 ?_
        refine Ex_ior dX8_lies_56 ?_
        refine Ex_istore_n dX8_lies_57 (by decide) rfl ?_
        simp only [st_n0, st_n1, st_n2, st_n3, List.set_cons_zero, List.set_cons_succ]
        first | refine Ex_iincN (m := 1) dX8_lies_58 rfl rfl (by decide) rfl ?_ | refine Ex_iinc dX8_lies_58 rfl rfl (by decide) rfl ?_
        simp only [List.set_cons_zero, List.set_cons_succ]
        refine Ex_goto (tgt := 17) dX8_lies_61 (by decide) ?_
        have ec9 : lsG g (ce s') (sz s') (k + 1) = lsG g (ce s') (sz s') k ||| (nI 1 <<< (nI k &&& 31)) := by show lsG _ _ _ k ||| _ = _; rw [if_pos (show prF g (ce s') (sz s') k = sz s' from h48)]
        have key := ih (by omega)
        rw [ec9] at key
        exact key
set_option maxRecDepth 100000 in
set_option maxHeartbeats 4000000 in
theorem C8_lies {T : TC} {I : MI} {G : MG} (d : Nat) {D N : Nat} {g : Nat → Int32} (hD : DS T G D N) (hH : Hl T I G (D + 2) (D + 1) N g) {so : Nat → Int32} {sz : Nat → Nat} {ce : Nat → Nat → Int32} (hA : ShA I D so sz ce) (s : Int32)  : OkP T mX8_lies (d + 3) [.ref D, .int s] I G (r_lies g so sz ce s) := by
  refine Ok_of (own := RX8) (by decide) rfl (cat1 rfl) (Nat.le_of_ble_eq_true rfl) ?_
  show Ex T RX8 cX8_lies 5 (d + 3) _ 0 [some (.ref D), some (.int s), none, none, none] [] I G (0, 0)
  have hS := hH.1
  have hn8 := hH.n8
  refine Ex_aload_n dX8_lies_0 rfl ?_
  refine Ex_iload_n dX8_lies_1 rfl ?_
  refine Ex_V1p dX8_lies_2 sX8_169 (ds_o hD) (Nat.le_of_ble_eq_true rfl) (c8_rowRefusal d hD hA _) ?_
  refine Ex_istore_n dX8_lies_5 (by decide) rfl ?_
  simp only [st_n0, st_n1, st_n2, st_n3, List.set_cons_zero, List.set_cons_succ]
  refine Ex_iload_n dX8_lies_6 rfl ?_
  refine Ex_if_eq (tgt := 12) dX8_lies_7 (by decide) (fun h7 => ?_) (fun h7 => ?_)
  · obtain ⟨h4, hs0, hrp⟩ := rfR_0 h7
    obtain ⟨s', hs', es⟩ := (rng_k (by omega)).mp h4
    subst es
    have ecs : cl (nI s') = s' := cl_nI (by omega)
    have hsh := hA s' hs'
    have hz := hsh.1.2.2.1
    rw [ecs] at hs0 hrp
    refine Ex_iconst (v := nI 0) dX8_lies_12 (by rfl) ?_
    refine Ex_istore_n dX8_lies_13 (by decide) rfl ?_
    simp only [st_n0, st_n1, st_n2, st_n3, List.set_cons_zero, List.set_cons_succ]
    refine Ex_iconst (v := nI 0) dX8_lies_14 (by rfl) ?_
    refine Ex_istore dX8_lies_15 (by decide) rfl ?_
    simp only [List.set_cons_zero, List.set_cons_succ]
    refine l8_lies (d + 1) hD hH hA hS s' hs' hsh hz (nS g) rfl hn8 _ ?_ (nS g) 0 (by omega)
    refine Ex_iload dX8_lies_17 rfl ?_
    refine Ex_aload_n dX8_lies_19 rfl ?_
    refine Ex_getr dX8_lies_20 fX8_16 (ds_o hD) (ds_h hD) ?_
    refine Ex_geti dX8_lies_23 fX8_72 (hl_o hS) ?_
    refine Ex_top hH.n ?_
    refine Ex_icmp_geN (by omega) (by omega) (tgt := 64) dX8_lies_26 (by decide) (fun h26 => ?_) (fun h26 => ?_)
    · refine Ex_iload_n dX8_lies_64 rfl ?_
      refine Ex_iret dX8_lies_65 (by first | rfl | exact narrow_bI) ?_
      exact ⟨_, rfl, (by unfold r_lies; rw [if_pos h4, ecs, if_neg hs0, if_pos hrp]), rfl, rfl⟩
    · omega
  · refine Ex_iload_n dX8_lies_10 rfl ?_
    refine Ex_iret dX8_lies_11 (by first | rfl | exact narrow_bI) ?_
    exact ⟨_, rfl, rfR_n h7, rfl, rfl⟩
set_option maxRecDepth 100000 in
set_option maxHeartbeats 4000000 in
theorem C8_proof {T : TC} {I : MI} {G : MG} (d : Nat) {D N : Nat} {g : Nat → Int32} (hD : DS T G D N) (hH : Hl T I G (D + 2) (D + 1) N g) {so : Nat → Int32} {sz : Nat → Nat} {ce : Nat → Nat → Int32} (hA : ShA I D so sz ce) (s u : Int32)  : OkP T mX8_proof (d + 4) [.ref D, .int s, .int u] I G (r_proof g so sz ce s u) := by
  refine Ok_of (own := RX8) (by decide) rfl (cat1 rfl) (Nat.le_of_ble_eq_true rfl) ?_
  show Ex T RX8 cX8_proof 5 (d + 4) _ 0 [some (.ref D), some (.int s), some (.int u), none, none] [] I G (0, 0)
  have hS := hH.1
  have hn8 := hH.n8
  refine Ex_aload_n dX8_proof_0 rfl ?_
  refine Ex_iload_n dX8_proof_1 rfl ?_
  refine Ex_iload_n dX8_proof_2 rfl ?_
  refine Ex_V2p dX8_proof_3 sX8_176 (ds_o hD) (Nat.le_of_ble_eq_true rfl) (c8_rowRefusal_ d hD hH hA _ _) ?_
  refine Ex_istore_n dX8_proof_6 (by decide) rfl ?_
  simp only [st_n0, st_n1, st_n2, st_n3, List.set_cons_zero, List.set_cons_succ]
  refine Ex_iload_n dX8_proof_7 rfl ?_
  refine Ex_if_eq (tgt := 13) dX8_proof_8 (by decide) (fun h8 => ?_) (fun h8 => ?_)
  · obtain ⟨hu0, h4, hs0, hrp⟩ := rf2_0 h8
    obtain ⟨s', hs', es⟩ := (rng_k (by omega)).mp h4
    subst es
    have ecs : cl (nI s') = s' := cl_nI (by omega)
    have hsh := hA s' hs'
    have hz := hsh.1.2.2.1
    rw [ecs] at hs0 hrp
    obtain ⟨u', hu', eu⟩ := (rng_k (by omega)).mp hu0
    subst eu
    have ecu : cl (nI u') = u' := cl_nI (by omega)
    refine Ex_aload_n dX8_proof_13 rfl ?_
    refine Ex_getr dX8_proof_14 fX8_16 (ds_o hD) (ds_h hD) ?_
    refine Ex_getr dX8_proof_17 fX8_85 (hl_o hS) (hl_s hS) ?_
    refine Ex_iload_n dX8_proof_20 rfl ?_
    refine Ex_aaldSu dX8_proof_21 (hl_sI hS) rfl (by rw [hl_sN hS]; omega) (by rw [hl_sN hS]; decide) (hl_k hS u' (by omega)) ?_
    refine Ex_aload_n dX8_proof_22 rfl ?_
    refine Ex_getr dX8_proof_23 fX8_51 (ds_o hD) (ds_sh hD) ?_
    refine Ex_iload_n dX8_proof_26 rfl ?_
    refine Ex_aaldSh dX8_proof_27 (ds_shI hD) rfl (by rw [ds_shN hD]; omega) (by rw [ds_shN hD]; decide) (ds_shk hD s' (by omega)) ?_
    refine Ex_V1p dX8_proof_28 sX8_178 (hl_S hS u' (by omega)).1 (Nat.le_of_ble_eq_true rfl) (c5_readable (d + 3) (hl_S hS u' (by omega)) (ds_shS hD s' hs') (ce s') (layF g u') (sz s') (mN g u') hsh.1.2.1 hz (fun k hk => hsh.1.2.2.2 k (by omega)) (hH.sa (by omega)).1 (hH.sa (by omega)).2.1 (hH.sa (by omega)).2.2) ?_
    refine Ex_istore dX8_proof_31 (by decide) rfl ?_
    simp only [List.set_cons_zero, List.set_cons_succ]
    have hpn := pvF_n (row := ce s') (lay := layF g u') (n := sz s') (mN g u')
    refine Ex_iload dX8_proof_33 rfl ?_
    refine Ex_aload_n dX8_proof_35 rfl ?_
    refine Ex_getr dX8_proof_36 fX8_51 (ds_o hD) (ds_sh hD) ?_
    refine Ex_iload_n dX8_proof_39 rfl ?_
    refine Ex_aaldSh dX8_proof_40 (ds_shI hD) rfl (by rw [ds_shN hD]; omega) (by rw [ds_shN hD]; decide) (ds_shk hD s' (by omega)) ?_
    refine Ex_geti dX8_proof_41 fX8_182 (ds_shS hD s' hs').1 ?_
    refine Ex_top hsh.1.2.1 ?_
    refine Ex_icmp_geN (by omega) (by omega) (tgt := 52) dX8_proof_44 (by decide) (fun h44 => ?_) (fun h44 => ?_)
    · refine Ex_ldc dX8_proof_52 kX8_119 ?_
      refine Ex_iret dX8_proof_54 (by first | rfl | exact narrow_bI) ?_
      have hp := pvF_n (row := ce s') (lay := layF g u') (n := sz s') (mN g u')
      exact ⟨_, rfl, (by unfold r_proof prF; rw [if_pos ⟨h4, hu0⟩, ecs, ecu, if_neg hs0, if_pos hrp, if_pos (by omega)]), rfl, rfl⟩
    · refine Ex_iload dX8_proof_47 rfl ?_
      refine Ex_goto (tgt := 54) dX8_proof_49 (by decide) ?_
      refine Ex_iret dX8_proof_54 (by first | rfl | exact narrow_bI) ?_
      have hp := pvF_n (row := ce s') (lay := layF g u') (n := sz s') (mN g u')
      exact ⟨_, rfl, (by unfold r_proof prF; rw [if_pos ⟨h4, hu0⟩, ecs, ecu, if_neg hs0, if_pos hrp, if_neg (by omega)]), rfl, rfl⟩
  · refine Ex_iload_n dX8_proof_11 rfl ?_
    refine Ex_iret dX8_proof_12 (by first | rfl | exact narrow_bI) ?_
    exact ⟨_, rfl, rf2_n h8, rfl, rfl⟩
set_option maxRecDepth 100000 in
set_option maxHeartbeats 4000000 in
theorem C8_common {T : TC} {I : MI} {G : MG} (d : Nat) {D N : Nat} {g : Nat → Int32} (hD : DS T G D N) (hH : Hl T I G (D + 2) (D + 1) N g) (u v w : Int32)  : OkI T mX8_common (d + 3) [.ref D, .int u, .int v, .int w] I G (fun r I' G' => r = r_common g u v w ∧ Fr (PS D N) I I' ∧ G' = G) := by
  refine Ok_of (own := RX8) (by decide) rfl (cat1 rfl) (Nat.le_of_ble_eq_true rfl) ?_
  show Ex T RX8 cX8_common 5 (d + 3) _ 0 [some (.ref D), some (.int u), some (.int v), some (.int w), none] [] I G (0, 0)
  have hS := hH.1
  have hn8 := hH.n8
  refine Ex_aload_n dX8_common_0 rfl ?_
  refine Ex_iload_n dX8_common_1 rfl ?_
  refine Ex_V1p dX8_common_2 sX8_81 (ds_o hD) (Nat.le_of_ble_eq_true rfl) (c8_isSurface (d + 1) hD hH _) ?_
  refine Ex_if_eqB (tgt := 32) dX8_common_5 (by decide) (fun h5 => ?_) (fun h5 => ?_)
  · refine Ex_ldc dX8_common_32 kX8_71 ?_
    refine Ex_iret dX8_common_34 (by first | rfl | exact narrow_bI) ?_
    exact ⟨_, rfl, (by unfold r_common; rw [if_neg (fun q => h5 q.1)]), Fr.refl, rfl⟩
  · refine Ex_aload_n dX8_common_8 rfl ?_
    refine Ex_iload_n dX8_common_9 rfl ?_
    refine Ex_V1p dX8_common_10 sX8_81 (ds_o hD) (Nat.le_of_ble_eq_true rfl) (c8_isSurface (d + 1) hD hH _) ?_
    refine Ex_if_eqB (tgt := 32) dX8_common_13 (by decide) (fun h13 => ?_) (fun h13 => ?_)
    · refine Ex_ldc dX8_common_32 kX8_71 ?_
      refine Ex_iret dX8_common_34 (by first | rfl | exact narrow_bI) ?_
      exact ⟨_, rfl, (by unfold r_common; rw [if_neg (fun q => h13 q.2.1)]), Fr.refl, rfl⟩
    · refine Ex_iload_n dX8_common_16 rfl ?_
      refine Ex_iload_n dX8_common_17 rfl ?_
      refine Ex_icmp_eq (tgt := 32) dX8_common_18 (by decide) (fun h18 => ?_) (fun h18 => ?_)
      · refine Ex_ldc dX8_common_32 kX8_71 ?_
        refine Ex_iret dX8_common_34 (by first | rfl | exact narrow_bI) ?_
        exact ⟨_, rfl, (by unfold r_common; rw [if_neg (fun q => q.2.2.1 h18)]), Fr.refl, rfl⟩
      · refine Ex_iload_n dX8_common_21 rfl ?_
        refine Ex_iconst (v := (-1)) dX8_common_22 (by rfl) ?_
        refine Ex_icmp_lt (tgt := 32) dX8_common_23 (by decide) (fun h23 => ?_) (fun h23 => ?_)
        · refine Ex_ldc dX8_common_32 kX8_71 ?_
          refine Ex_iret dX8_common_34 (by first | rfl | exact narrow_bI) ?_
          exact ⟨_, rfl, (by unfold r_common; rw [if_neg (fun q => absurd q.2.2.2.1 (Int32.not_le.mpr h23))]), Fr.refl, rfl⟩
        · refine Ex_iload_n dX8_common_26 rfl ?_
          refine Ex_bipush (v := nI 12) dX8_common_27 (by rfl) ?_
          refine Ex_icmp_lt (tgt := 35) dX8_common_29 (by decide) (fun h29 => ?_) (fun h29 => ?_)
          · have h11 : w ≤ nI 11 := by rw [i_lt] at h29; rw [i_le]; have e1 : (nI 11).toInt = 11 := rfl; have e2 : (nI 12).toInt = 12 := rfl; omega
            have hc0 : inR u (nS g) ∧ inR v (nS g) ∧ ¬ u = v ∧ ((-1) ≤ w ∧ w ≤ nI 11) := ⟨h5, h13, h18, Int32.not_lt.mp h23, h11⟩
            obtain ⟨u', hu', eu⟩ := (rng_k (by omega)).mp h5
            obtain ⟨v', hv', ev⟩ := (rng_k (by omega)).mp h13
            subst eu
            subst ev
            have ecu : cl (nI u') = u' := cl_nI (by omega)
            have ecv : cl (nI v') = v' := cl_nI (by omega)
            have hlu := hH.ly (s := u') (by omega)
            have hl12 := lc_le (a := layF g u') (b := layF g v') (m := mN g u') (n := mN g v') (mN g u') (mN g v')
            have hlu2 := hlu.2.1
            refine Ex_aload_n dX8_common_35 rfl ?_
            refine Ex_getr dX8_common_36 fX8_45 (ds_o hD) (ds_rdr hD) ?_
            refine Ex_aload_n dX8_common_39 rfl ?_
            refine Ex_getr dX8_common_40 fX8_16 (ds_o hD) (ds_h hD) ?_
            refine Ex_getr dX8_common_43 fX8_85 (hl_o hS) (hl_s hS) ?_
            refine Ex_iload_n dX8_common_46 rfl ?_
            refine Ex_aaldSu dX8_common_47 (hl_sI hS) rfl (by rw [hl_sN hS]; omega) (by rw [hl_sN hS]; decide) (hl_k hS u' (by omega)) ?_
            refine Ex_aload_n dX8_common_48 rfl ?_
            refine Ex_getr dX8_common_49 fX8_16 (ds_o hD) (ds_h hD) ?_
            refine Ex_getr dX8_common_52 fX8_85 (hl_o hS) (hl_s hS) ?_
            refine Ex_iload_n dX8_common_55 rfl ?_
            refine Ex_aaldSu dX8_common_56 (hl_sI hS) rfl (by rw [hl_sN hS]; omega) (by rw [hl_sN hS]; decide) (hl_k hS v' (by omega)) ?_
            refine Ex_V2i dX8_common_57 sX8_183 (rd_o (ds_rd hD)) (Nat.le_of_ble_eq_true rfl) (c2_findCommon d (ds_rd hD) (hl_S hS u' (by omega)) (hl_S hS v' (by omega)) (layF g u') (layF g v') (mN g u') (mN g v') (hH.sa (by omega)) (hH.sa (by omega)) (fun q => by unfold PR at q; omega) (fun q => by unfold PR at q; omega) (fun q => by unfold PR at q; omega) (fun q => by unfold PR at q; omega) (fun x hx => hlu.2.2.1 x hx)) ?_
            rintro r J _ ⟨rfl, hcm, hf, rfl⟩
            refine Ex_istore dX8_common_60 (by decide) rfl ?_
            simp only [List.set_cons_zero, List.set_cons_succ]
            refine Ex_iload_n dX8_common_62 rfl ?_
            refine Ex_iconst (v := (-1)) dX8_common_63 (by rfl) ?_
            refine Ex_icmp_ne (tgt := 70) dX8_common_64 (by decide) (fun h64 => ?_) (fun h64 => ?_)
            · obtain ⟨w', hw1, ew⟩ := nI_of (x := w) (fun q => h64 (by rw [i_lt] at q; have q2 := Int32.not_lt.mp h23; rw [i_le] at q2; rw [i_eq]; have e1 : (-1 : Int32).toInt = -1 := rfl; have e0 := iz_0; omega))
              subst ew
              have ecw : cl (nI w') = w' := cl_nI hw1
              refine Ex_iload_n dX8_common_70 rfl ?_
              refine Ex_iload dX8_common_71 rfl ?_
              refine Ex_icmp_geN (by omega) (by omega) (tgt := 88) dX8_common_73 (by decide) (fun h73 => ?_) (fun h73 => ?_)
              · refine Ex_ldc dX8_common_88 kX8_119 ?_
                refine Ex_iret dX8_common_90 (by first | rfl | exact narrow_bI) ?_
                exact ⟨_, rfl, (by unfold r_common lcG; rw [if_pos hc0, ecu, ecv, if_neg (nI_pos (by omega)), ecw, if_neg (by omega)]), hf.mono (fun x q => prPS q), rfl⟩
              · refine Ex_aload_n dX8_common_76 rfl ?_
                refine Ex_getr dX8_common_77 fX8_45 (ds_o hD) (ds_rdr hD) ?_
                refine Ex_getr dX8_common_80 fX8_187 (rd_o (ds_rd hD)) (rd_c (ds_rd hD)) ?_
                refine Ex_iload_n dX8_common_83 rfl ?_
                refine Ex_iald dX8_common_84 (rd_cI (ds_rd hD)) rfl (by rw [rd_cN (ds_rd hD)]; omega) (by rw [rd_cN (ds_rd hD)]; decide) ?_
                refine Ex_goto (tgt := 90) dX8_common_85 (by decide) ?_
                refine Ex_iret dX8_common_90 (by first | rfl | exact narrow_bI) ?_
                exact ⟨_, rfl, (by unfold r_common lcG cmG lcG; rw [if_pos hc0, ecu, ecv, if_neg (nI_pos (by omega)), ecw, if_pos (by omega)]; exact hcm w' (by omega)), hf.mono (fun x q => prPS q), rfl⟩
            · refine Ex_iload dX8_common_67 rfl ?_
              refine Ex_iret dX8_common_69 (by first | rfl | exact narrow_bI) ?_
              exact ⟨_, rfl, (by unfold r_common lcG; rw [if_pos hc0, ecu, ecv, if_pos (by rw [h64]; decide)]), hf.mono (fun x q => prPS q), rfl⟩
          · refine Ex_ldc dX8_common_32 kX8_71 ?_
            refine Ex_iret dX8_common_34 (by first | rfl | exact narrow_bI) ?_
            exact ⟨_, rfl, (by unfold r_common; rw [if_neg (fun q => h29 (by have q9 := q.2.2.2.2; rw [i_le] at q9; rw [i_lt]; have e1 : (nI 11).toInt = 11 := rfl; have e2 : (nI 12).toInt = 12 := rfl; omega))]), Fr.refl, rfl⟩
set_option maxRecDepth 100000 in
set_option maxHeartbeats 4000000 in
theorem C8_hiding {T : TC} {I : MI} {G : MG} (d : Nat) {D N : Nat} {g : Nat → Int32} (hD : DS T G D N) (hH : Hl T I G (D + 2) (D + 1) N g) {so : Nat → Int32} {sz : Nat → Nat} {ce : Nat → Nat → Int32} (hA : ShA I D so sz ce) (s u : Int32)  : OkI T mX8_hiding (d + 4) [.ref D, .int s, .int u] I G (fun r I' G' => r = r_hiding g so sz ce s u ∧ Fr (PS D N) I I' ∧ G' = G) := by
  refine Ok_of (own := RX8) (by decide) rfl (cat1 rfl) (Nat.le_of_ble_eq_true rfl) ?_
  show Ex T RX8 cX8_hiding 4 (d + 4) _ 0 [some (.ref D), some (.int s), some (.int u), none] [] I G (0, 0)
  have hS := hH.1
  have hn8 := hH.n8
  refine Ex_aload_n dX8_hiding_0 rfl ?_
  refine Ex_iload_n dX8_hiding_1 rfl ?_
  refine Ex_iload_n dX8_hiding_2 rfl ?_
  refine Ex_V2p dX8_hiding_3 sX8_176 (ds_o hD) (Nat.le_of_ble_eq_true rfl) (c8_rowRefusal_ d hD hH hA _ _) ?_
  refine Ex_istore_n dX8_hiding_6 (by decide) rfl ?_
  simp only [st_n0, st_n1, st_n2, st_n3, List.set_cons_zero, List.set_cons_succ]
  refine Ex_iload_n dX8_hiding_7 rfl ?_
  refine Ex_if_eq (tgt := 13) dX8_hiding_8 (by decide) (fun h8 => ?_) (fun h8 => ?_)
  · obtain ⟨hu0, h4, hs0, hrp⟩ := rf2_0 h8
    obtain ⟨s', hs', es⟩ := (rng_k (by omega)).mp h4
    subst es
    have ecs : cl (nI s') = s' := cl_nI (by omega)
    have hsh := hA s' hs'
    have hz := hsh.1.2.2.1
    rw [ecs] at hs0 hrp
    obtain ⟨u', hu', eu⟩ := (rng_k (by omega)).mp hu0
    subst eu
    have ecu : cl (nI u') = u' := cl_nI (by omega)
    refine Ex_aload_n dX8_hiding_13 rfl ?_
    refine Ex_getr dX8_hiding_14 fX8_51 (ds_o hD) (ds_sh hD) ?_
    refine Ex_iload_n dX8_hiding_17 rfl ?_
    refine Ex_aaldSh dX8_hiding_18 (ds_shI hD) rfl (by rw [ds_shN hD]; omega) (by rw [ds_shN hD]; decide) (ds_shk hD s' (by omega)) ?_
    refine Ex_geti dX8_hiding_19 fX8_182 (ds_shS hD s' hs').1 ?_
    refine Ex_top hsh.1.2.1 ?_
    refine Ex_if_ne (tgt := 28) dX8_hiding_22 (by decide) (fun h22 => ?_) (fun h22 => ?_)
    · have hz0 : ¬ sz s' = 0 := fun e => h22 (by rw [e]; rfl)
      refine Ex_aload_n dX8_hiding_28 rfl ?_
      refine Ex_getr dX8_hiding_29 fX8_45 (ds_o hD) (ds_rdr hD) ?_
      refine Ex_aload_n dX8_hiding_32 rfl ?_
      refine Ex_getr dX8_hiding_33 fX8_51 (ds_o hD) (ds_sh hD) ?_
      refine Ex_iload_n dX8_hiding_36 rfl ?_
      refine Ex_aaldSh dX8_hiding_37 (ds_shI hD) rfl (by rw [ds_shN hD]; omega) (by rw [ds_shN hD]; decide) (ds_shk hD s' (by omega)) ?_
      refine Ex_aload_n dX8_hiding_38 rfl ?_
      refine Ex_getr dX8_hiding_39 fX8_16 (ds_o hD) (ds_h hD) ?_
      refine Ex_getr dX8_hiding_42 fX8_85 (hl_o hS) (hl_s hS) ?_
      refine Ex_iload_n dX8_hiding_45 rfl ?_
      refine Ex_aaldSu dX8_hiding_46 (hl_sI hS) rfl (by rw [hl_sN hS]; omega) (by rw [hl_sN hS]; decide) (hl_k hS u' (by omega)) ?_
      refine Ex_V2i dX8_hiding_47 sX8_190 (rd_o (ds_rd hD)) (Nat.le_of_ble_eq_true rfl) (c2_fewestToHide (d + 2) (ds_rd hD) (hl_S hS u' (by omega)) (ds_shS hD s' hs') (ce s') (layF g u') (sz s') (mN g u') hsh.1.2.1 (by omega) hz (fun k hk => hsh.1.2.2.2 k (by omega)) (hH.sa (by omega)) (fun q => by unfold PR at q; omega) (fun q => by unfold PR at q; omega) (fun q => by unfold PR at q; omega) (fun q => by unfold PR at q; omega)) ?_
      rintro r J _ ⟨rfl, hf, rfl⟩
      refine Ex_iret dX8_hiding_50 (by first | rfl | exact narrow_bI) ?_
      exact ⟨_, rfl, (by unfold r_hiding hidF; rw [if_pos ⟨h4, hu0⟩, ecs, ecu, if_neg hs0, if_pos hrp, if_neg hz0]), hf.mono (fun x q => prPS q), rfl⟩
    · refine Ex_ldc dX8_hiding_25 kX8_119 ?_
      refine Ex_iret dX8_hiding_27 (by first | rfl | exact narrow_bI) ?_
      exact ⟨_, rfl, (by unfold r_hiding; rw [if_pos ⟨h4, hu0⟩, ecs, ecu, if_neg hs0, if_pos hrp, if_pos ((nI_eq (b := 0) (by omega) (by omega)).mp h22)]), Fr.refl, rfl⟩
  · refine Ex_iload_n dX8_hiding_11 rfl ?_
    refine Ex_iret dX8_hiding_12 (by first | rfl | exact narrow_bI) ?_
    exact ⟨_, rfl, rf2_n h8, Fr.refl, rfl⟩
theorem add_0' (x : Int32) : x + nI 0 = x := by rw [nI_0]; exact Int32.add_zero x
set_option maxRecDepth 100000 in
set_option maxHeartbeats 4000000 in
theorem l8_cwo {T : TC} {I : MI} {G : MG} {F : FinT} {bb : Nat × Nat} (d : Nat) {D N : Nat} {g : Nat → Int32} (hD : DS T G D N) (hH : Hl T I G (D + 2) (D + 1) N g) (u n : Nat) (hu : u < n) (hn : nS g = n) (kx : ∀ J, Fr (PS D N) I J → Ex T RX8 cX8_commonWithAllOthers 4 (d + 2) F 4 [some (.ref D), some (.int (nI u)), some (.int (fgS g u n)), some (.int (nI n))] [] J G bb) : ∀ i k J, k + i = n → Fr (PS D N) I J → Ex T RX8 cX8_commonWithAllOthers 4 (d + 2) F 4 [some (.ref D), some (.int (nI u)), some (.int (fgS g u k)), some (.int (nI k))] [] J G bb := by
  have hS := hH.1
  have hn8 := hH.n8
  intro i
  induction i with
  | zero => intro k J h0 h1; have e0 : k = n := by omega
            subst e0; exact kx J h1
  | succ i ih =>
    intro k J h0 h1
    have hJ := hH.ps hD h1
    have es : fgS g u (k + 1) = fgS g u k + (if k = u then nI 0 else nI (lcG g u k)) := rfl
    refine Ex_iload_n dX8_commonWithAllOthers_4 rfl ?_
    refine Ex_aload_n dX8_commonWithAllOthers_5 rfl ?_
    refine Ex_getr dX8_commonWithAllOthers_6 fX8_16 (ds_o hD) (ds_h hD) ?_
    refine Ex_geti dX8_commonWithAllOthers_9 fX8_72 (hl_o hS) ?_
    refine Ex_top (show _ = nI n by rw [hJ.n, hn]) ?_
    refine Ex_icmp_geN (by omega) (by omega) (tgt := 54) dX8_commonWithAllOthers_12 (by decide) (fun h12 => ?_) (fun h12 => ?_)
    · omega
    · refine Ex_iload_n dX8_commonWithAllOthers_15 rfl ?_
      refine Ex_iload_n dX8_commonWithAllOthers_16 rfl ?_
      refine Ex_icmp_eqN (by omega) (by omega) (tgt := 48) dX8_commonWithAllOthers_17 (by decide) (fun h17 => ?_) (fun h17 => ?_)
      · first | refine Ex_iincN (m := 1) dX8_commonWithAllOthers_48 rfl rfl (by decide) rfl ?_ | refine Ex_iinc dX8_commonWithAllOthers_48 rfl rfl (by decide) rfl ?_
        simp only [List.set_cons_zero, List.set_cons_succ]
        refine Ex_goto (tgt := 4) dX8_commonWithAllOthers_51 (by decide) ?_
        have key := ih (k + 1) J (by omega) h1
        rw [es, if_pos h17, add_0'] at key
        exact key
      · refine Ex_iload_n dX8_commonWithAllOthers_20 rfl ?_
        refine Ex_aload_n dX8_commonWithAllOthers_21 rfl ?_
        refine Ex_getr dX8_commonWithAllOthers_22 fX8_45 (ds_o hD) (ds_rdr hD) ?_
        refine Ex_aload_n dX8_commonWithAllOthers_25 rfl ?_
        refine Ex_getr dX8_commonWithAllOthers_26 fX8_16 (ds_o hD) (ds_h hD) ?_
        refine Ex_getr dX8_commonWithAllOthers_29 fX8_85 (hl_o hS) (hl_s hS) ?_
        refine Ex_iload_n dX8_commonWithAllOthers_32 rfl ?_
        refine Ex_aaldSu dX8_commonWithAllOthers_33 (hl_sI hS) rfl (by rw [hl_sN hS]; omega) (by rw [hl_sN hS]; decide) (hl_k hS u (by omega)) ?_
        refine Ex_aload_n dX8_commonWithAllOthers_34 rfl ?_
        refine Ex_getr dX8_commonWithAllOthers_35 fX8_16 (ds_o hD) (ds_h hD) ?_
        refine Ex_getr dX8_commonWithAllOthers_38 fX8_85 (hl_o hS) (hl_s hS) ?_
        refine Ex_iload_n dX8_commonWithAllOthers_41 rfl ?_
        refine Ex_aaldSu dX8_commonWithAllOthers_42 (hl_sI hS) rfl (by rw [hl_sN hS]; omega) (by rw [hl_sN hS]; decide) (hl_k hS k (by omega)) ?_
        refine Ex_V2i dX8_commonWithAllOthers_43 sX8_194 (rd_o (ds_rd hD)) (Nat.le_of_ble_eq_true rfl) (c2_commonLength d (ds_rd hD) (hl_S hS u (by omega)) (hl_S hS k (by omega)) (layF g u) (layF g k) (mN g u) (mN g k) (hJ.sa (by omega)) (hJ.sa (by omega)) (fun q => by unfold PR at q; omega) (fun q => by unfold PR at q; omega) (fun q => by unfold PR at q; omega) (fun q => by unfold PR at q; omega)) ?_
        rintro r J2 _ ⟨rfl, -, hf, rfl⟩
        first | with_reducible refine Ex_iaddN dX8_commonWithAllOthers_46 ?_ | refine Ex_iadd dX8_commonWithAllOthers_46 ?_
        refine Ex_istore_n dX8_commonWithAllOthers_47 (by decide) rfl ?_
        simp only [st_n0, st_n1, st_n2, st_n3, List.set_cons_zero, List.set_cons_succ]
        first | refine Ex_iincN (m := 1) dX8_commonWithAllOthers_48 rfl rfl (by decide) rfl ?_ | refine Ex_iinc dX8_commonWithAllOthers_48 rfl rfl (by decide) rfl ?_
        simp only [List.set_cons_zero, List.set_cons_succ]
        refine Ex_goto (tgt := 4) dX8_commonWithAllOthers_51 (by decide) ?_
        have key := ih (k + 1) J2 (by omega) (h1.trans (hf.mono (fun x q => prPS q)))
        rw [es, if_neg h17] at key
        exact key
set_option maxRecDepth 100000 in
set_option maxHeartbeats 4000000 in
theorem c8_cwo {T : TC} {I : MI} {G : MG} (d : Nat) {D N : Nat} {g : Nat → Int32} (hD : DS T G D N) (hH : Hl T I G (D + 2) (D + 1) N g) (u : Nat) (hu : u < nS g) : OkI T mX8_commonWithAllOthers (d + 2) [.ref D, .int (nI u)] I G (fun r I' G' => r = fgS g u (nS g) ∧ Fr (PS D N) I I' ∧ G' = G) := by
  refine Ok_of (own := RX8) (by decide) rfl (cat1 rfl) (Nat.le_of_ble_eq_true rfl) ?_
  show Ex T RX8 cX8_commonWithAllOthers 4 (d + 2) _ 0 [some (.ref D), some (.int (nI u)), none, none] [] I G (0, 0)
  have hS := hH.1
  have hn8 := hH.n8
  refine Ex_iconst (v := nI 0) dX8_commonWithAllOthers_0 (by rfl) ?_
  refine Ex_istore_n dX8_commonWithAllOthers_1 (by decide) rfl ?_
  simp only [st_n0, st_n1, st_n2, st_n3, List.set_cons_zero, List.set_cons_succ]
  refine Ex_iconst (v := nI 0) dX8_commonWithAllOthers_2 (by rfl) ?_
  refine Ex_istore_n dX8_commonWithAllOthers_3 (by decide) rfl ?_
  simp only [st_n0, st_n1, st_n2, st_n3, List.set_cons_zero, List.set_cons_succ]
  refine l8_cwo d hD hH u (nS g) hu rfl ?_ (nS g) 0 I (by omega) Fr.refl
  intro J j1
  refine Ex_iload_n dX8_commonWithAllOthers_4 rfl ?_
  refine Ex_aload_n dX8_commonWithAllOthers_5 rfl ?_
  refine Ex_getr dX8_commonWithAllOthers_6 fX8_16 (ds_o hD) (ds_h hD) ?_
  refine Ex_geti dX8_commonWithAllOthers_9 fX8_72 (hl_o hS) ?_
  refine Ex_top (show _ = nI (nS g) by rw [(hH.ps hD j1).n]) ?_
  refine Ex_icmp_geN (by omega) (by omega) (tgt := 54) dX8_commonWithAllOthers_12 (by decide) (fun h12 => ?_) (fun h12 => ?_)
  · refine Ex_iload_n dX8_commonWithAllOthers_54 rfl ?_
    refine Ex_iret dX8_commonWithAllOthers_55 (by first | rfl | exact narrow_bI) ?_
    exact ⟨_, rfl, rfl, j1, rfl⟩
  · omega
def pfx (x : Int32) : Int32 := if x < 0 then nI 0 else x
theorem alS_pos {g : Nat → Int32} {st : Int32 × Int32} {u v : Nat} (hu : u < 8) (hv : v < 8) (h : ¬ st.1 < 0) : ¬ (alS g st u v).1 < 0 := by
  unfold alS
  split
  · exact nI_pos (by omega)
  · exact h
theorem alN_pos {g : Nat → Int32} {st : Int32 × Int32} {u n : Nat} (hn : n ≤ 8) (h : ¬ st.1 < 0) : ∀ k, u + 1 + k ≤ n → ¬ (alN g u st k).1 < 0
  | 0, _ => h
  | k + 1, hk => alS_pos (by omega) (by omega) (alN_pos hn h k (by omega))
theorem alN_pos1 {g : Nat → Int32} {st : Int32 × Int32} {u n : Nat} (hn : n ≤ 8) (h : st.2 < 0) (hl : ∀ v, lcG g u v ≤ 12) : ∀ k, u + 1 + (k + 1) ≤ n → ¬ (alN g u st (k + 1)).1 < 0
  | 0, hk => by
    show ¬ (alS g st u (u + 1 + 0)).1 < 0
    unfold alS
    have := hl (u + 1 + 0)
    rw [if_pos (by rw [i_lt] at *; rw [nI_toInt (by omega)]; have := iz_0; omega)]
    exact nI_pos (by omega)
  | k + 1, hk => alS_pos (by omega) (by omega) (alN_pos1 hn h hl k (by omega))
theorem alO_pos {g : Nat → Int32} {n : Nat} (hW : WfG g) (hn : n ≤ 8) (h2 : 2 ≤ n) : ∀ u, u + 1 ≤ n → ¬ (alO g n (u + 1)).1 < 0
  | 0, _ => by
    show ¬ (alN g 0 ((-1), (-1)) (n - (0 + 1))).1 < 0
    rw [show n - (0 + 1) = (n - 2) + 1 by omega]
    exact alN_pos1 hn (by decide) (fun v => lcG_le hW (by omega)) (n - 2) (by omega)
  | u + 1, hu => alN_pos hn (alO_pos hW hn h2 u (by omega)) _ (by omega)
set_option maxRecDepth 100000 in
set_option maxHeartbeats 4000000 in
theorem l8_alike1 {T : TC} {I : MI} {G : MG} {F : FinT} {bb : Nat × Nat} (d : Nat) {D N : Nat} {g : Nat → Int32} (hD : DS T G D N) (hH : Hl T I G (D + 2) (D + 1) N g) (w : Int32) (u n : Nat) (hu : u < n) (hn : nS g = n) (st : Int32 × Int32) (kx : ∀ J, Fr (PS D N) I J → Ex T RX8 cX8_alike 7 (d + 2) F 50 [some (.ref D), some (.int w), some (.int (alN g u st (n - (u + 1))).2), some (.int (pfx (alN g u st (n - (u + 1))).1)), some (.int (nI u)), some (.int (nI n)), none] [] J G bb) : ∀ i k J, u + 1 + k + i = n → Fr (PS D N) I J → Ex T RX8 cX8_alike 7 (d + 2) F 50 [some (.ref D), some (.int w), some (.int (alN g u st k).2), some (.int (pfx (alN g u st k).1)), some (.int (nI u)), some (.int (nI (u + 1 + k))), none] [] J G bb := by
  have hS := hH.1
  have hn8 := hH.n8
  intro i
  induction i with
  | zero => intro k J h0 h1; have e0 : k = n - (u + 1) := by omega
            subst e0; rw [show u + 1 + (n - (u + 1)) = n by omega]; exact kx J h1
  | succ i ih =>
    intro k J h0 h1
    have hJ := hH.ps hD h1
    have es : alN g u st (k + 1) = alS g (alN g u st k) u (u + 1 + k) := rfl
    have key := ih (k + 1)
    rw [es] at key
    generalize alN g u st k = q at key ⊢
    refine Ex_iload dX8_alike_50 rfl ?_
    refine Ex_aload_n dX8_alike_52 rfl ?_
    refine Ex_getr dX8_alike_53 fX8_16 (ds_o hD) (ds_h hD) ?_
    refine Ex_geti dX8_alike_56 fX8_72 (hl_o hS) ?_
    refine Ex_top (show _ = nI n by rw [hJ.n, hn]) ?_
    refine Ex_icmp_geN (by omega) (by omega) (tgt := 115) dX8_alike_59 (by decide) (fun h59 => ?_) (fun h59 => ?_)
    · omega
    · refine Ex_aload_n dX8_alike_62 rfl ?_
      refine Ex_getr dX8_alike_63 fX8_45 (ds_o hD) (ds_rdr hD) ?_
      refine Ex_aload_n dX8_alike_66 rfl ?_
      refine Ex_getr dX8_alike_67 fX8_16 (ds_o hD) (ds_h hD) ?_
      refine Ex_getr dX8_alike_70 fX8_85 (hl_o hS) (hl_s hS) ?_
      refine Ex_iload dX8_alike_73 rfl ?_
      refine Ex_aaldSu dX8_alike_75 (hl_sI hS) rfl (by rw [hl_sN hS]; omega) (by rw [hl_sN hS]; decide) (hl_k hS u (by omega)) ?_
      refine Ex_aload_n dX8_alike_76 rfl ?_
      refine Ex_getr dX8_alike_77 fX8_16 (ds_o hD) (ds_h hD) ?_
      refine Ex_getr dX8_alike_80 fX8_85 (hl_o hS) (hl_s hS) ?_
      refine Ex_iload dX8_alike_83 rfl ?_
      refine Ex_aaldSu dX8_alike_85 (hl_sI hS) rfl (by rw [hl_sN hS]; omega) (by rw [hl_sN hS]; decide) (hl_k hS (u + 1 + k) (by omega)) ?_
      refine Ex_V2i dX8_alike_86 sX8_194 (rd_o (ds_rd hD)) (Nat.le_of_ble_eq_true rfl) (c2_commonLength d (ds_rd hD) (hl_S hS u (by omega)) (hl_S hS (u + 1 + k) (by omega)) (layF g u) (layF g (u + 1 + k)) (mN g u) (mN g (u + 1 + k)) (hJ.sa (by omega)) (hJ.sa (by omega)) (fun q => by unfold PR at q; omega) (fun q => by unfold PR at q; omega) (fun q => by unfold PR at q; omega) (fun q => by unfold PR at q; omega)) ?_
      rintro r J2 _ ⟨rfl, -, hf, rfl⟩
      refine Ex_istore dX8_alike_89 (by decide) rfl ?_
      simp only [List.set_cons_zero, List.set_cons_succ]
      refine Ex_iload dX8_alike_91 rfl ?_
      refine Ex_iload_n dX8_alike_93 rfl ?_
      refine Ex_icmp_le (tgt := 109) dX8_alike_94 (by decide) (fun h94 => ?_) (fun h94 => ?_)
      · first | refine Ex_iincN (m := 1) dX8_alike_109 rfl rfl (by decide) rfl ?_ | refine Ex_iinc dX8_alike_109 rfl rfl (by decide) rfl ?_
        simp only [List.set_cons_zero, List.set_cons_succ]
        refine Ex_goto (tgt := 50) dX8_alike_112 (by decide) ?_
        refine Ex_drop 6 ?_
        simp only [List.set_cons_zero, List.set_cons_succ]
        have k2 := key J2 (by omega) (h1.trans (hf.mono (fun x q => prPS q)))
        unfold alS lcG at k2
        rw [if_neg (Int32.not_lt.mpr h94)] at k2
        exact k2
      · refine Ex_iload dX8_alike_97 rfl ?_
        refine Ex_istore_n dX8_alike_99 (by decide) rfl ?_
        simp only [st_n0, st_n1, st_n2, st_n3, List.set_cons_zero, List.set_cons_succ]
        refine Ex_bipush (v := nI 10) dX8_alike_100 (by rfl) ?_
        refine Ex_iload dX8_alike_102 rfl ?_
        first | with_reducible refine Ex_imulN dX8_alike_104 ?_ | refine Ex_imul dX8_alike_104 ?_
        refine Ex_iload dX8_alike_105 rfl ?_
        first | with_reducible refine Ex_iaddN dX8_alike_107 ?_ | refine Ex_iadd dX8_alike_107 ?_
        refine Ex_istore_n dX8_alike_108 (by decide) rfl ?_
        simp only [st_n0, st_n1, st_n2, st_n3, List.set_cons_zero, List.set_cons_succ]
        first | refine Ex_iincN (m := 1) dX8_alike_109 rfl rfl (by decide) rfl ?_ | refine Ex_iinc dX8_alike_109 rfl rfl (by decide) rfl ?_
        simp only [List.set_cons_zero, List.set_cons_succ]
        refine Ex_goto (tgt := 50) dX8_alike_112 (by decide) ?_
        refine Ex_drop 6 ?_
        simp only [List.set_cons_zero, List.set_cons_succ]
        have k2 := key J2 (by omega) (h1.trans (hf.mono (fun x q => prPS q)))
        unfold alS lcG at k2
        rw [if_pos (Int32.not_le.mp h94)] at k2
        have e9 : pfx (nI (10 * u + (u + 1 + k))) = nI (10 * u + (u + 1 + k)) := if_neg (nI_pos (by omega))
        rw [e9] at k2
        exact k2
set_option maxRecDepth 100000 in
set_option maxHeartbeats 4000000 in
theorem l8_alike2 {T : TC} {I : MI} {G : MG} {F : FinT} {bb : Nat × Nat} (d : Nat) {D N : Nat} {g : Nat → Int32} (hD : DS T G D N) (hH : Hl T I G (D + 2) (D + 1) N g) (w : Int32) (n : Nat) (hn : nS g = n) (kx : ∀ J, Fr (PS D N) I J → Ex T RX8 cX8_alike 7 (d + 2) F 32 [some (.ref D), some (.int w), some (.int (alO g n n).2), some (.int (pfx (alO g n n).1)), some (.int (nI n)), none, none] [] J G bb) : ∀ i u J, u + i = n → Fr (PS D N) I J → Ex T RX8 cX8_alike 7 (d + 2) F 32 [some (.ref D), some (.int w), some (.int (alO g n u).2), some (.int (pfx (alO g n u).1)), some (.int (nI u)), none, none] [] J G bb := by
  have hS := hH.1
  have hn8 := hH.n8
  intro i
  induction i with
  | zero => intro u J h0 h1; have e0 : u = n := by omega
            subst e0; exact kx J h1
  | succ i ih =>
    intro u J h0 h1
    have hJ := hH.ps hD h1
    have key := ih (u + 1)
    have es : alO g n (u + 1) = alN g u (alO g n u) (n - (u + 1)) := rfl
    rw [es] at key
    refine Ex_iload dX8_alike_32 rfl ?_
    refine Ex_aload_n dX8_alike_34 rfl ?_
    refine Ex_getr dX8_alike_35 fX8_16 (ds_o hD) (ds_h hD) ?_
    refine Ex_geti dX8_alike_38 fX8_72 (hl_o hS) ?_
    refine Ex_top (show _ = nI n by rw [hJ.n, hn]) ?_
    refine Ex_icmp_geN (by omega) (by omega) (tgt := 121) dX8_alike_41 (by decide) (fun h41 => ?_) (fun h41 => ?_)
    · omega
    · refine Ex_iload dX8_alike_44 rfl ?_
      refine Ex_iconst (v := nI 1) dX8_alike_46 (by rfl) ?_
      first | with_reducible refine Ex_iaddN dX8_alike_47 ?_ | refine Ex_iadd dX8_alike_47 ?_
      refine Ex_istore dX8_alike_48 (by decide) rfl ?_
      simp only [List.set_cons_zero, List.set_cons_succ]
      refine l8_alike1 (I := I) d hD hH w u n (by omega) hn (alO g n u) ?_ (n - (u + 1)) 0 J (by omega) h1
      intro J2 j1
      refine Ex_iload dX8_alike_50 rfl ?_
      refine Ex_aload_n dX8_alike_52 rfl ?_
      refine Ex_getr dX8_alike_53 fX8_16 (ds_o hD) (ds_h hD) ?_
      refine Ex_geti dX8_alike_56 fX8_72 (hl_o hS) ?_
      refine Ex_top (show _ = nI n by rw [(hH.ps hD j1).n, hn]) ?_
      refine Ex_icmp_geN (by omega) (by omega) (tgt := 115) dX8_alike_59 (by decide) (fun h59 => ?_) (fun h59 => ?_)
      · first | refine Ex_iincN (m := 1) dX8_alike_115 rfl rfl (by decide) rfl ?_ | refine Ex_iinc dX8_alike_115 rfl rfl (by decide) rfl ?_
        simp only [List.set_cons_zero, List.set_cons_succ]
        refine Ex_goto (tgt := 32) dX8_alike_118 (by decide) ?_
        refine Ex_drop 5 ?_
        simp only [List.set_cons_zero, List.set_cons_succ]
        exact key J2 (by omega) j1
      · omega
set_option maxRecDepth 100000 in
set_option maxHeartbeats 4000000 in
theorem C8_alike {T : TC} {I : MI} {G : MG} (d : Nat) {D N : Nat} {g : Nat → Int32} (hD : DS T G D N) (hH : Hl T I G (D + 2) (D + 1) N g) (w : Int32)  : OkI T mX8_alike (d + 2) [.ref D, .int w] I G (fun r I' G' => r = r_alike g w ∧ Fr (PS D N) I I' ∧ G' = G) := by
  refine Ok_of (own := RX8) (by decide) rfl (cat1 rfl) (Nat.le_of_ble_eq_true rfl) ?_
  show Ex T RX8 cX8_alike 7 (d + 2) _ 0 [some (.ref D), some (.int w), none, none, none, none, none] [] I G (0, 0)
  have hS := hH.1
  have hn8 := hH.n8
  refine Ex_iload_n dX8_alike_0 rfl ?_
  refine Ex_iconst (v := nI 2) dX8_alike_1 (by rfl) ?_
  refine Ex_S2p dX8_alike_2 sX8_67  (Nat.le_of_ble_eq_true rfl) (c8_isBelow (d + 1) _ _) ?_
  refine Ex_if_neB (tgt := 11) dX8_alike_5 (by decide) (fun h5 => ?_) (fun h5 => ?_)
  · refine Ex_aload_n dX8_alike_11 rfl ?_
    refine Ex_getr dX8_alike_12 fX8_16 (ds_o hD) (ds_h hD) ?_
    refine Ex_geti dX8_alike_15 fX8_72 (hl_o hS) ?_
    refine Ex_top hH.n ?_
    refine Ex_iconst (v := nI 2) dX8_alike_18 (by rfl) ?_
    refine Ex_icmp_geN (by omega) (by omega) (tgt := 25) dX8_alike_19 (by decide) (fun h19 => ?_) (fun h19 => ?_)
    · refine Ex_iconst (v := (-1)) dX8_alike_25 (by rfl) ?_
      refine Ex_istore_n dX8_alike_26 (by decide) rfl ?_
      simp only [st_n0, st_n1, st_n2, st_n3, List.set_cons_zero, List.set_cons_succ]
      refine Ex_iconst (v := nI 0) dX8_alike_27 (by rfl) ?_
      refine Ex_istore_n dX8_alike_28 (by decide) rfl ?_
      simp only [st_n0, st_n1, st_n2, st_n3, List.set_cons_zero, List.set_cons_succ]
      refine Ex_iconst (v := nI 0) dX8_alike_29 (by rfl) ?_
      refine Ex_istore dX8_alike_30 (by decide) rfl ?_
      simp only [List.set_cons_zero, List.set_cons_succ]
      have hpos : ¬ (alO g (nS g) (nS g)).1 < 0 := by
        have := alO_pos (n := nS g) hH.w hn8 (by omega) (nS g - 1) (by omega)
        rw [show nS g - 1 + 1 = nS g by omega] at this
        exact this
      refine l8_alike2 d hD hH w (nS g) rfl ?_ (nS g) 0 I (by omega) Fr.refl
      intro J j1
      refine Ex_iload dX8_alike_32 rfl ?_
      refine Ex_aload_n dX8_alike_34 rfl ?_
      refine Ex_getr dX8_alike_35 fX8_16 (ds_o hD) (ds_h hD) ?_
      refine Ex_geti dX8_alike_38 fX8_72 (hl_o hS) ?_
      refine Ex_top (show _ = nI (nS g) by rw [(hH.ps hD j1).n]) ?_
      refine Ex_icmp_geN (by omega) (by omega) (tgt := 121) dX8_alike_41 (by decide) (fun h41 => ?_) (fun h41 => ?_)
      · refine Ex_iload_n dX8_alike_121 rfl ?_
        refine Ex_if_ne (tgt := 129) dX8_alike_122 (by decide) (fun h122 => ?_) (fun h122 => ?_)
        · refine Ex_iload_n dX8_alike_129 rfl ?_
          refine Ex_iret dX8_alike_130 (by first | rfl | exact narrow_bI) ?_
          exact ⟨_, rfl, (by unfold r_alike; rw [if_pos h5, if_neg hpos, if_neg h122]), j1, rfl⟩
        · refine Ex_iload_n dX8_alike_125 rfl ?_
          refine Ex_goto (tgt := 130) dX8_alike_126 (by decide) ?_
          refine Ex_iret dX8_alike_130 (by first | rfl | exact narrow_bI) ?_
          exact ⟨_, rfl, (by unfold r_alike; rw [if_pos h5, if_neg hpos, if_pos h122]; exact if_neg hpos), j1, rfl⟩
      · omega
    · refine Ex_ldc dX8_alike_22 kX8_119 ?_
      refine Ex_iret dX8_alike_24 (by first | rfl | exact narrow_bI) ?_
      refine ⟨_, rfl, ?_, Fr.refl, rfl⟩
      unfold r_alike
      rw [if_pos h5]
      rcases (show nS g = 0 ∨ nS g = 1 by omega) with e | e <;> rw [e] <;> rfl
  · refine Ex_ldc dX8_alike_8 kX8_71 ?_
    refine Ex_iret dX8_alike_10 (by first | rfl | exact narrow_bI) ?_
    exact ⟨_, rfl, (by unfold r_alike; rw [if_neg h5]), Fr.refl, rfl⟩
theorem fgB_1 {g : Nat → Int32} {n : Nat} : fgB g n 1 = (nI 0, fgS g 0 n) := if_pos (Or.inl (show (-1 : Int32) < 0 by decide))
theorem fgB_pos {g : Nat → Int32} {n : Nat} : ∀ u, u + 1 ≤ 8 → ¬ (fgB g n (u + 1)).1 < 0
  | 0, _ => by
    show ¬ (fgB g n 1).1 < 0
    rw [fgB_1]
    exact nI_pos (by omega)
  | u + 1, h => by
    have ih := fgB_pos (g := g) (n := n) u (by omega)
    rw [fgB]
    split
    · exact nI_pos (by omega)
    · exact ih
set_option maxRecDepth 100000 in
set_option maxHeartbeats 4000000 in
theorem l8_forged {T : TC} {I : MI} {G : MG} {F : FinT} {bb : Nat × Nat} (d : Nat) {D N : Nat} {g : Nat → Int32} (hD : DS T G D N) (hH : Hl T I G (D + 2) (D + 1) N g) (w : Int32) (n : Nat) (hn : nS g = n) (kx : ∀ J, Fr (PS D N) I J → Ex T RX8 cX8_forged 6 (d + 3) F 36 [some (.ref D), some (.int w), some (.int (fgB g n n).2), some (.int (fgB g n n).1), some (.int (nI n)), none] [] J G bb) : ∀ i k J, k + 1 + i = n → Fr (PS D N) I J → Ex T RX8 cX8_forged 6 (d + 3) F 36 [some (.ref D), some (.int w), some (.int (fgB g n (k + 1)).2), some (.int (fgB g n (k + 1)).1), some (.int (nI (k + 1))), none] [] J G bb := by
  have hS := hH.1
  have hn8 := hH.n8
  intro i
  induction i with
  | zero => intro k J h0 h1; have e0 : k + 1 = n := by omega
            rw [e0]; exact kx J h1
  | succ i ih =>
    intro k J h0 h1
    have hJ := hH.ps hD h1
    have key := ih (k + 1)
    have es : fgB g n (k + 1 + 1) = if (fgB g n (k + 1)).1 < 0 ∨ fgS g (k + 1) n < (fgB g n (k + 1)).2 then (nI (k + 1), fgS g (k + 1) n) else fgB g n (k + 1) := rfl
    have hp := fgB_pos (g := g) (n := n) k (by omega)
    rw [es] at key
    generalize fgB g n (k + 1) = q at key hp ⊢
    refine Ex_iload dX8_forged_36 rfl ?_
    refine Ex_aload_n dX8_forged_38 rfl ?_
    refine Ex_getr dX8_forged_39 fX8_16 (ds_o hD) (ds_h hD) ?_
    refine Ex_geti dX8_forged_42 fX8_72 (hl_o hS) ?_
    refine Ex_top (show _ = nI n by rw [hJ.n, hn]) ?_
    refine Ex_icmp_geN (by omega) (by omega) (tgt := 74) dX8_forged_45 (by decide) (fun h45 => ?_) (fun h45 => ?_)
    · omega
    · refine Ex_aload_n dX8_forged_48 rfl ?_
      refine Ex_iload dX8_forged_49 rfl ?_
      refine Ex_V1i dX8_forged_51 sX8_197 (ds_o hD) (Nat.le_of_ble_eq_true rfl) (c8_cwo d hD hJ (k + 1) (by omega)) ?_
      rintro r J2 _ ⟨rfl, hf, rfl⟩
      rw [hn]
      refine Ex_istore dX8_forged_54 (by decide) rfl ?_
      simp only [List.set_cons_zero, List.set_cons_succ]
      refine Ex_iload dX8_forged_56 rfl ?_
      refine Ex_iload_n dX8_forged_58 rfl ?_
      refine Ex_icmp_ge (tgt := 68) dX8_forged_59 (by decide) (fun h59 => ?_) (fun h59 => ?_)
      · first | refine Ex_iincN (m := 1) dX8_forged_68 rfl rfl (by decide) rfl ?_ | refine Ex_iinc dX8_forged_68 rfl rfl (by decide) rfl ?_
        simp only [List.set_cons_zero, List.set_cons_succ]
        refine Ex_goto (tgt := 36) dX8_forged_71 (by decide) ?_
        refine Ex_drop 5 ?_
        simp only [List.set_cons_zero, List.set_cons_succ]
        have k2 := key J2 (by omega) (h1.trans hf)
        rw [if_neg (fun q => q.elim hp (Int32.not_lt.mpr h59))] at k2
        exact k2
      · refine Ex_iload dX8_forged_62 rfl ?_
        refine Ex_istore_n dX8_forged_64 (by decide) rfl ?_
        simp only [st_n0, st_n1, st_n2, st_n3, List.set_cons_zero, List.set_cons_succ]
        refine Ex_iload dX8_forged_65 rfl ?_
        refine Ex_istore_n dX8_forged_67 (by decide) rfl ?_
        simp only [st_n0, st_n1, st_n2, st_n3, List.set_cons_zero, List.set_cons_succ]
        first | refine Ex_iincN (m := 1) dX8_forged_68 rfl rfl (by decide) rfl ?_ | refine Ex_iinc dX8_forged_68 rfl rfl (by decide) rfl ?_
        simp only [List.set_cons_zero, List.set_cons_succ]
        refine Ex_goto (tgt := 36) dX8_forged_71 (by decide) ?_
        refine Ex_drop 5 ?_
        simp only [List.set_cons_zero, List.set_cons_succ]
        have k2 := key J2 (by omega) (h1.trans hf)
        rw [if_pos (Or.inr (Int32.not_le.mp h59))] at k2
        exact k2
set_option maxRecDepth 100000 in
set_option maxHeartbeats 4000000 in
theorem C8_forged {T : TC} {I : MI} {G : MG} (d : Nat) {D N : Nat} {g : Nat → Int32} (hD : DS T G D N) (hH : Hl T I G (D + 2) (D + 1) N g) (w : Int32)  : OkI T mX8_forged (d + 3) [.ref D, .int w] I G (fun r I' G' => r = r_forged g w ∧ Fr (PS D N) I I' ∧ G' = G) := by
  refine Ok_of (own := RX8) (by decide) rfl (cat1 rfl) (Nat.le_of_ble_eq_true rfl) ?_
  show Ex T RX8 cX8_forged 6 (d + 3) _ 0 [some (.ref D), some (.int w), none, none, none, none] [] I G (0, 0)
  have hS := hH.1
  have hn8 := hH.n8
  refine Ex_iload_n dX8_forged_0 rfl ?_
  refine Ex_iconst (v := nI 2) dX8_forged_1 (by rfl) ?_
  refine Ex_S2p dX8_forged_2 sX8_67  (Nat.le_of_ble_eq_true rfl) (c8_isBelow (d + 2) _ _) ?_
  refine Ex_if_neB (tgt := 11) dX8_forged_5 (by decide) (fun h5 => ?_) (fun h5 => ?_)
  · refine Ex_aload_n dX8_forged_11 rfl ?_
    refine Ex_getr dX8_forged_12 fX8_16 (ds_o hD) (ds_h hD) ?_
    refine Ex_geti dX8_forged_15 fX8_72 (hl_o hS) ?_
    refine Ex_top hH.n ?_
    refine Ex_iconst (v := nI 2) dX8_forged_18 (by rfl) ?_
    refine Ex_icmp_geN (by omega) (by omega) (tgt := 25) dX8_forged_19 (by decide) (fun h19 => ?_) (fun h19 => ?_)
    · refine Ex_aload_n dX8_forged_25 rfl ?_
      refine Ex_iconst (v := nI 0) dX8_forged_26 (by rfl) ?_
      refine Ex_V1i dX8_forged_27 sX8_197 (ds_o hD) (Nat.le_of_ble_eq_true rfl) (c8_cwo d hD hH 0 (by omega)) ?_
      rintro r J0 _ ⟨rfl, hf0, rfl⟩
      refine Ex_istore_n dX8_forged_30 (by decide) rfl ?_
      simp only [st_n0, st_n1, st_n2, st_n3, List.set_cons_zero, List.set_cons_succ]
      refine Ex_iconst (v := nI 0) dX8_forged_31 (by rfl) ?_
      refine Ex_istore_n dX8_forged_32 (by decide) rfl ?_
      simp only [st_n0, st_n1, st_n2, st_n3, List.set_cons_zero, List.set_cons_succ]
      refine Ex_iconst (v := nI 1) dX8_forged_33 (by rfl) ?_
      refine Ex_istore dX8_forged_34 (by decide) rfl ?_
      simp only [List.set_cons_zero, List.set_cons_succ]
      have e1 := fgB_1 (g := g) (n := nS g)
      show Ex T RX8 cX8_forged 6 (d + 3) _ 36 [some (.ref D), some (.int w), some (.int (nI 0, fgS g 0 (nS g)).2), some (.int (nI 0, fgS g 0 (nS g)).1), some (.int (nI 1)), none] [] J0 _ (0, 0)
      rw [← e1]
      refine l8_forged (I := I) d hD hH w (nS g) rfl ?_ (nS g - 1) 0 J0 (by omega) hf0
      intro J j1
      refine Ex_iload dX8_forged_36 rfl ?_
      refine Ex_aload_n dX8_forged_38 rfl ?_
      refine Ex_getr dX8_forged_39 fX8_16 (ds_o hD) (ds_h hD) ?_
      refine Ex_geti dX8_forged_42 fX8_72 (hl_o hS) ?_
      refine Ex_top (show _ = nI (nS g) by rw [(hH.ps hD j1).n]) ?_
      refine Ex_icmp_geN (by omega) (by omega) (tgt := 74) dX8_forged_45 (by decide) (fun h45 => ?_) (fun h45 => ?_)
      · refine Ex_iload_n dX8_forged_74 rfl ?_
        refine Ex_if_ne (tgt := 82) dX8_forged_75 (by decide) (fun h75 => ?_) (fun h75 => ?_)
        · refine Ex_iload_n dX8_forged_82 rfl ?_
          refine Ex_iret dX8_forged_83 (by first | rfl | exact narrow_bI) ?_
          exact ⟨_, rfl, (by unfold r_forged; rw [if_pos h5, if_neg (by omega), if_neg h75]), j1, rfl⟩
        · refine Ex_iload_n dX8_forged_78 rfl ?_
          refine Ex_goto (tgt := 83) dX8_forged_79 (by decide) ?_
          refine Ex_iret dX8_forged_83 (by first | rfl | exact narrow_bI) ?_
          exact ⟨_, rfl, (by unfold r_forged; rw [if_pos h5, if_neg (by omega), if_pos h75]), j1, rfl⟩
      · omega
    · refine Ex_ldc dX8_forged_22 kX8_119 ?_
      refine Ex_iret dX8_forged_24 (by first | rfl | exact narrow_bI) ?_
      exact ⟨_, rfl, (by unfold r_forged; rw [if_pos h5, if_pos (by omega)]), Fr.refl, rfl⟩
  · refine Ex_ldc dX8_forged_8 kX8_71 ?_
    refine Ex_iret dX8_forged_10 (by first | rfl | exact narrow_bI) ?_
    exact ⟨_, rfl, (by unfold r_forged; rw [if_neg h5]), Fr.refl, rfl⟩
