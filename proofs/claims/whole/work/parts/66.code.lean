/-! the code that a right reading leaves -/
def dpL : List Int32 → Nat
  | [] => 0
  | c :: q => if 0 ≤ c then dpL q + 1 else if c = (-10) then dpL q else dpL q - 1
def stOkL (nm : Nat) (c : Int32) (e : Nat) : Prop := if 0 ≤ c then ((c < nI 10000) ∨ ∃ i, i < nm ∧ c = nI (10000 + i)) else if c = (-10) then 1 ≤ e else (2 ≤ e ∧ (-9) ≤ c)
def OkL (nm : Nat) : List Int32 → Prop
  | [] => True
  | c :: q => OkL nm q ∧ stOkL nm c (dpL q)
theorem SR_dp {cd : Nat → Int32} : ∀ q, SR cd q → dp cd q.length = dpL q
  | [], _ => rfl
  | c :: q, h => by
    have ih := SR_dp q h.2
    show (if 0 ≤ cd q.length then dp cd q.length + 1 else if cd q.length = (-10) then dp cd q.length else dp cd q.length - 1) = _
    rw [h.1, ih]
    rfl
theorem SR_ok {cd : Nat → Int32} {nm : Nat} : ∀ q, SR cd q → OkL nm q → ∀ k, k < q.length → stOkL nm (cd k) (dp cd k)
  | [], _, _ => fun k hk => absurd hk (Nat.not_lt_zero k)
  | c :: q, h, h2 => fun k hk => by
    by_cases e : k = q.length
    · rw [e, SR_dp q h.2, h.1]; exact h2.2
    · exact SR_ok q h.2 h2.1 k (by simp only [List.length_cons] at hk; omega)
theorem SR_CdOk {cd : Nat → Int32} {nm : Nat} {q : List Int32} (h : SR cd q) (h2 : OkL nm q) (h3 : dpL q = 1) : CdOk cd nm q.length := ⟨fun k hk => SR_ok q h h2 k hk, by rw [SR_dp q h]; exact h3⟩
theorem SR_at {cd f : Nat → Int32} : ∀ q : List Int32, SR cd q → SR f (q.map spI) → ∀ k, k < q.length → f k = spI (cd k)
  | [], _, _ => fun k hk => absurd hk (Nat.not_lt_zero k)
  | c :: q, h, h2 => fun k hk => by
    obtain ⟨e1, e2⟩ := h2
    rw [List.length_map] at e1
    by_cases e : k = q.length
    · rw [e, e1, h.1]
    · exact SR_at q h.2 e2 k (by simp only [List.length_cons] at hk; omega)
theorem sg_neg : ∀ c, c < 256 → ¬ rkN c = 0 → ¬ 0 ≤ sg c ∧ ¬ sg c = (-10) ∧ (-9) ≤ sg c := by decide +kernel
theorem nmI_nm {kk : Nat} (hk : kk < 3) (x : Int32) (h : ¬ nmI (nI kk) x < 0) : ∃ i, i < nmOf kk ∧ nmI (nI kk) x = nI i := by
  rcases (show kk = 0 ∨ kk = 1 ∨ kk = 2 by omega) with rfl | rfl | rfl
  · unfold nmI at h ⊢
    rw [if_pos rfl] at h ⊢
    split
    · exact ⟨0, by decide, rfl⟩
    · split
      · exact ⟨1, by decide, rfl⟩
      · split
        · exact ⟨2, by decide, rfl⟩
        · exfalso
          rename_i a1 a2 a3
          rw [if_neg a1, if_neg a2, if_neg a3] at h
          exact h (by decide)
  · unfold nmI at h ⊢
    rw [if_neg (by decide), if_pos rfl] at h ⊢
    split
    · exact ⟨0, by decide, rfl⟩
    · split
      · exact ⟨1, by decide, rfl⟩
      · exfalso
        rename_i a1 a2
        rw [if_neg a1, if_neg a2] at h
        exact h (by decide)
  · unfold nmI at h ⊢
    rw [if_neg (by decide), if_neg (by decide)] at h ⊢
    split
    · exact ⟨0, by decide, rfl⟩
    · split
      · exact ⟨1, by decide, rfl⟩
      · exfalso
        rename_i a1 a2
        rw [if_neg a1, if_neg a2] at h
        exact h (by decide)
theorem atC_ok {tb : Nat → Nat} {N f kk : Nat} {c : Int32} (hf : f ≤ N) (hk : kk < 3) (h : atC tb N (nI kk) f = some c) : f < N ∧ 0 ≤ c ∧ (c < nI 10000 ∨ ∃ i, i < nmOf kk ∧ c = nI (10000 + i)) := by
  unfold atC at h
  by_cases z1 : isLe tb N f
  · rw [if_pos z1] at h
    by_cases z2 : gE tb N f - f = 1 ∧ ¬ glu tb N f ∧ ¬ nmI (nI kk) (nI (tb f)) < 0
    · rw [if_pos z2] at h
      obtain ⟨i, hi, ei⟩ := nmI_nm hk _ z2.2.2
      have hi3 : i < 3 := by unfold nmOf at hi; split at hi <;> omega
      rw [ei] at h
      have ec : c = nI (10000 + i) := by
        rw [← Option.some.inj h]
        rcases (show i = 0 ∨ i = 1 ∨ i = 2 by omega) with rfl | rfl | rfl <;> decide
      exact ⟨z1.1, by rw [ec]; exact nI_pos' (by omega), Or.inr ⟨i, hi, ec⟩⟩
    · rw [if_neg z2] at h; cases h
  · rw [if_neg z1] at h
    by_cases z2 : isFi tb N f
    · rw [if_pos z2] at h
      by_cases z3 : gE tb N f - f ≤ 4 ∧ ¬ glu tb N f
      · rw [if_pos z3] at h
        have hall : ∀ j, f ≤ j → j < gE tb N f → isFi tb N j := fun j h1 h2 => by
          have : gE tb N f = run (isFi tb N) (N - f) f := by unfold gE; rw [if_neg (by have := z2.1; omega), if_neg z1, if_pos z2]
          rw [this] at h2
          exact run_all _ _ j h1 h2
        have h1 := nuV_lt (tb := tb) (f := f) (gE tb N f - f) (fun j hj => (hall (f + j) (by omega) (by omega)).2.2)
        have h2 : 10 ^ (gE tb N f - f) ≤ 10 ^ 4 := Nat.pow_le_pow_right (by omega) z3.1
        have h3 : (10 : Nat) ^ 4 = 10000 := by decide
        have ec := Option.some.inj h
        refine ⟨z2.1, by rw [← ec]; exact nI_pos' (by omega), Or.inl ?_⟩
        rw [← ec, i_lt, nI_toInt (by omega), nI_toInt (by omega)]
        omega
      · rw [if_neg z3] at h; cases h
    · rw [if_neg z2] at h; cases h
def dM (m : Option Nat) : Nat := match m with
  | none => 1
  | some _ => 0
theorem rcd_ok {tb : Nat → Nat} {N kk : Nat} (hk : kk < 3) (hb : ∀ j, j < N → tb j < 256) : ∀ n lv m br nt f q a, f ≤ N → OkL (nmOf kk) q → 1 ≤ dpL q + dM m → (rcd tb N (nI kk) n lv m br nt f q a).1 = true → OkL (nmOf kk) (rcd tb N (nI kk) n lv m br nt f q a).2.2.1 ∧ dpL (rcd tb N (nI kk) n lv m br nt f q a).2.2.1 = dpL q + dM m := by
  intro n
  induction n with
  | zero => intro lv m br nt f q a hf hq hd h; cases h
  | succ n ih =>
    intro lv m br nt f q a hf hq hd
    cases m with
    | none =>
      rw [rcd]
      by_cases h5 : 5 ≤ lv
      · rw [if_pos h5]
        by_cases c1 : cT tb N f = 3 ∧ tb f = 33
        · rw [if_pos c1]
          have hx := nx_gt (tb := tb) (cT_3.mp c1.1).1
          by_cases c2 : 8 ≤ nt
          · rw [if_pos c2]; intro h; cases h
          · rw [if_neg c2]
            have i1 := ih 5 none br (nt + 1) (nx tb N f) q a hx.2 hq hd
            generalize rcd tb N (nI kk) n 5 none br (nt + 1) (nx tb N f) q a = x at i1
            by_cases c3 : x.1 = true
            · rw [if_pos c3]
              obtain ⟨j1, j2⟩ := i1 c3
              have e1 : dpL ((-10) :: x.2.2.1) = dpL x.2.2.1 := rfl
              intro _
              refine ⟨⟨j1, ?_⟩, by rw [← j2]; exact e1⟩
              show 1 ≤ dpL x.2.2.1
              rw [j2]; exact hd
            · rw [if_neg c3]; intro h; exact absurd h c3
        · rw [if_neg c1]
          by_cases c2 : cT tb N f = 3 ∧ tb f = 40
          · rw [if_pos c2]
            have hx := nx_gt (tb := tb) (cT_3.mp c2.1).1
            by_cases c3 : 8 ≤ br
            · rw [if_pos c3]; intro h; cases h
            · rw [if_neg c3]
              have i1 := ih 0 none (br + 1) nt (nx tb N f) q a hx.2 hq hd
              generalize rcd tb N (nI kk) n 0 none (br + 1) nt (nx tb N f) q a = x at i1
              by_cases c4 : x.1 = true
              · rw [if_pos c4]
                by_cases c5 : cT tb N x.2.1 = 3 ∧ tb x.2.1 = 41
                · rw [if_pos c5]; intro _; exact i1 c4
                · rw [if_neg c5]; intro h; cases h
              · rw [if_neg c4]; intro h; exact absurd h c4
          · rw [if_neg c2]
            cases ha : atC tb N (nI kk) f with
            | none => intro h; cases h
            | some c =>
              obtain ⟨-, p1, p2⟩ := atC_ok hf hk ha
              intro _
              refine ⟨⟨hq, ?_⟩, ?_⟩
              · unfold stOkL; rw [if_pos p1]; exact p2
              · show (if 0 ≤ c then dpL q + 1 else if c = (-10) then dpL q else dpL q - 1) = dpL q + 1
                rw [if_pos p1]
      · rw [if_neg h5]
        have i0 := rcd_f (tb := tb) (N := N) (ky := nI kk) n (lv + 1) none br nt f q a hf
        have i1 := ih (lv + 1) none br nt f q a hf hq hd
        generalize rcd tb N (nI kk) n (lv + 1) none br nt f q a = x at i1 i0
        by_cases c3 : x.1 = true
        · rw [if_pos c3]
          obtain ⟨j1, j2⟩ := i1 c3
          have i2 := ih lv (some (if lv = 2 then 1 else 96)) br nt x.2.1 x.2.2.1 x.2.2.2 i0.2.1 j1 (by rw [j2]; exact Nat.le_trans hd (Nat.le_add_right _ _))
          intro h
          obtain ⟨k1, k2⟩ := i2 h
          exact ⟨k1, by rw [k2, j2]; rfl⟩
        · rw [if_neg c3]; intro h; exact absurd h c3
    | some k =>
      rw [rcd]
      by_cases c1 : 0 < k ∧ cT tb N f = 3 ∧ rkN (tb f) = lv + 1
      · rw [if_pos c1]
        have hfl := (cT_3.mp c1.2.1).1
        have hx := nx_gt (tb := tb) hfl
        have hd' : 1 ≤ dpL q := hd
        have i0 := rcd_f (tb := tb) (N := N) (ky := nI kk) n (lv + 1) none br nt (nx tb N f) q a hx.2
        have i1 := ih (lv + 1) none br nt (nx tb N f) q a hx.2 hq (Nat.le_add_left 1 _)
        generalize rcd tb N (nI kk) n (lv + 1) none br nt (nx tb N f) q a = x at i1 i0
        by_cases c3 : x.1 = true
        · rw [if_pos c3]
          obtain ⟨j1, j2⟩ := i1 c3
          have j3 : dpL x.2.2.1 = dpL q + 1 := j2
          obtain ⟨s1, s2, s3⟩ := sg_neg (tb f) (hb f hfl) (by omega)
          have e1 : dpL (sg (tb f) :: x.2.2.1) = dpL q := by
            show (if 0 ≤ sg (tb f) then dpL x.2.2.1 + 1 else if sg (tb f) = (-10) then dpL x.2.2.1 else dpL x.2.2.1 - 1) = _
            rw [if_neg s1, if_neg s2, j3]; omega
          have i2 := ih lv (some (k - 1)) br nt x.2.1 (sg (tb f) :: x.2.2.1) x.2.2.2 i0.2.1 ⟨j1, by unfold stOkL; rw [if_neg s1, if_neg s2]; exact ⟨by omega, s3⟩⟩ (by rw [e1]; exact hd)
          intro h
          obtain ⟨k1, k2⟩ := i2 h
          exact ⟨k1, by rw [k2, e1]; rfl⟩
        · rw [if_neg c3]; intro h; exact absurd h c3
      · rw [if_neg c1]
        intro _
        exact ⟨hq, rfl⟩
/-- what a right tape's text is -/
theorem ptC_ok {tb : Nat → Nat} {N : Nat} (hb : ∀ j, j < N → tb j < 256) (h96 : N ≤ 96) (h : (ptC tb N).2.1 = true) : ∃ w, (ptC tb N).1 = some w ∧ w < 3 ∧ (ptC tb N).2.2.2.1.length < 96 ∧ OkL (nmOf w) (ptC tb N).2.2.2.1 ∧ dpL (ptC tb N).2.2.2.1 = 1 := by
  cases hk : kyC tb N (gF tb N 0) with
  | none => rw [ptC_n hk] at h; cases h
  | some w =>
    rw [ptC_s hk] at h ⊢
    have h1 := of_decide_eq_true h
    have hw := kyC_3 hk
    have hfl : gF tb N 0 < N := by
      have hc1 : cT tb N (gF tb N 0) = 1 := by
        unfold kyC at hk
        split at hk
        · assumption
        · cases hk
      exact (cT_1.mp hc1).1
    have hx := nx_gt (tb := tb) hfl
    have r1 := rcd_f (tb := tb) (N := N) (ky := nI w) (mes N 0 (nx tb N (gF tb N 0))) 0 none 0 0 (nx tb N (gF tb N 0)) [] 0 hx.2
    have r2 := rcd_ok (tb := tb) (N := N) hw hb (mes N 0 (nx tb N (gF tb N 0))) 0 none 0 0 (nx tb N (gF tb N 0)) [] 0 hx.2 trivial (Nat.le_refl _) h1.1
    refine ⟨w, rfl, hw, ?_, r2.1, r2.2⟩
    have e1 : (rcW tb N w).2.2.1.length + nx tb N (gF tb N 0) ≤ (rcW tb N w).2.1 + 0 := (r1.2.2 h1.1).2
    have e2 : (rcW tb N w).2.1 ≤ N := r1.2.1
    show (rcW tb N w).2.2.1.length < 96
    omega
