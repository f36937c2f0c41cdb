/-! the class's reading and the reference's machine agree -/
def EE (tb : Nat → Nat) (N lv f br : Nat) (te : Nat → Int32) : Prop := cT tb N f = 3 → lv < rkN (tb f) → rkN (tb f) = 3 ∧ ¬ te br = 0
def mes (N lv f : Nat) : Nat := (N + 1 - f) * 8 + (6 - lv)
def SegP (lv : Nat) (w : List Int32) : Prop := if lv ≤ 4 then Seg lv w else SegN w
/-- what a right reading leaves -/
def Okd (tb : Nat → Nat) (N : Nat) (ky : Int32) (lv br : Nat) (R : Bool × Nat × List Int32 × Nat) (w : List Int32) (te : Nat → Int32) (x : Bool × Nat × List Int32 × Nat) : Prop := ∃ i en vl w' q' te', R = sS tb N ky i false x.2.1 en vl w' q' x.2.2.2 te' ∧ EnI tb N x.2.1 en ∧ N + 1 ≤ i + x.2.1 ∧ opC w' = br ∧ noL w' = noL (stl (nI 6) w []).1 ∧ stl (nI (lv + 1)) w' q' = stl (nI (lv + 1)) w x.2.2.1 ∧ (∀ d, d < br → te' d = te d) ∧ (3 ≤ lv → (te' br = 0 ↔ te br = 0)) ∧ EE tb N lv x.2.1 br te'
theorem rcd_f {tb : Nat → Nat} {N : Nat} {ky : Int32} : ∀ n lv m br nt f q a, f ≤ N → f ≤ (rcd tb N ky n lv m br nt f q a).2.1 ∧ (rcd tb N ky n lv m br nt f q a).2.1 ≤ N ∧ ((rcd tb N ky n lv m br nt f q a).1 = true → (m = none → f < (rcd tb N ky n lv m br nt f q a).2.1) ∧ (rcd tb N ky n lv m br nt f q a).2.2.1.length + f ≤ (rcd tb N ky n lv m br nt f q a).2.1 + q.length) := by
  intro n
  induction n with
  | zero => intro lv m br nt f q a hf; exact ⟨Nat.le_refl _, hf, fun h => by cases h⟩
  | succ n ih =>
    intro lv m br nt f q a hf
    cases m with
    | none =>
      rw [rcd]
      by_cases h5 : 5 ≤ lv
      · rw [if_pos h5]
        by_cases c1 : cT tb N f = 3 ∧ tb f = 33
        · rw [if_pos c1]
          have hl := (cT_3.mp c1.1).1
          have hx := nx_gt (tb := tb) hl
          by_cases c2 : 8 ≤ nt
          · rw [if_pos c2]; exact ⟨Nat.le_refl _, hf, fun h => by cases h⟩
          · rw [if_neg c2]
            have i1 := ih 5 none br (nt + 1) (nx tb N f) q a hx.2
            generalize rcd tb N ky n 5 none br (nt + 1) (nx tb N f) q a = x at i1
            obtain ⟨b1, b2, b3⟩ := i1
            by_cases c3 : x.1 = true
            · rw [if_pos c3]
              have := b3 c3
              refine ⟨by show f ≤ x.2.1; omega, b2, fun _ => ⟨fun _ => by show f < x.2.1; omega, ?_⟩⟩
              show (x.2.2.1.length + 1) + f ≤ x.2.1 + q.length
              omega
            · rw [if_neg c3]; exact ⟨by omega, b2, fun h => absurd h c3⟩
        · rw [if_neg c1]
          by_cases c2 : cT tb N f = 3 ∧ tb f = 40
          · rw [if_pos c2]
            have hl := (cT_3.mp c2.1).1
            have hx := nx_gt (tb := tb) hl
            by_cases c3 : 8 ≤ br
            · rw [if_pos c3]; exact ⟨Nat.le_refl _, hf, fun h => by cases h⟩
            · rw [if_neg c3]
              have i1 := ih 0 none (br + 1) nt (nx tb N f) q a hx.2
              generalize rcd tb N ky n 0 none (br + 1) nt (nx tb N f) q a = x at i1
              obtain ⟨b1, b2, b3⟩ := i1
              by_cases c4 : x.1 = true
              · rw [if_pos c4]
                have hb3 := b3 c4
                by_cases c5 : cT tb N x.2.1 = 3 ∧ tb x.2.1 = 41
                · rw [if_pos c5]
                  have hy := nx_gt (tb := tb) (cT_3.mp c5.1).1
                  refine ⟨by show f ≤ nx tb N x.2.1; omega, hy.2, fun _ => ⟨fun _ => by show f < nx tb N x.2.1; omega, ?_⟩⟩
                  show x.2.2.1.length + f ≤ nx tb N x.2.1 + q.length
                  omega
                · rw [if_neg c5]; exact ⟨by show f ≤ x.2.1; omega, b2, fun h => by cases h⟩
              · rw [if_neg c4]; exact ⟨by omega, b2, fun h => absurd h c4⟩
          · rw [if_neg c2]
            cases ha : atC tb N ky f with
            | none => exact ⟨Nat.le_refl _, hf, fun h => by cases h⟩
            | some c =>
              have hl : f < N := by
                unfold atC at ha
                by_cases z1 : isLe tb N f
                · exact z1.1
                · rw [if_neg z1] at ha
                  by_cases z2 : isFi tb N f
                  · exact z2.1
                  · rw [if_neg z2] at ha; cases ha
              have hx := nx_gt (tb := tb) hl
              refine ⟨by show f ≤ nx tb N f; omega, hx.2, fun _ => ⟨fun _ => hx.1, ?_⟩⟩
              show (q.length + 1) + f ≤ nx tb N f + q.length
              omega
      · rw [if_neg h5]
        have i1 := ih (lv + 1) none br nt f q a hf
        generalize rcd tb N ky n (lv + 1) none br nt f q a = x at i1
        obtain ⟨b1, b2, b3⟩ := i1
        by_cases c3 : x.1 = true
        · rw [if_pos c3]
          have hb3 := b3 c3
          have hlt := hb3.1 rfl
          have i2 := ih lv (some (if lv = 2 then 1 else 96)) br nt x.2.1 x.2.2.1 x.2.2.2 b2
          obtain ⟨e1, e2, e3⟩ := i2
          refine ⟨by omega, e2, fun h => ⟨fun _ => by omega, ?_⟩⟩
          have := (e3 h).2
          omega
        · rw [if_neg c3]; exact ⟨b1, b2, fun h => absurd h c3⟩
    | some k =>
      rw [rcd]
      by_cases c1 : 0 < k ∧ cT tb N f = 3 ∧ rkN (tb f) = lv + 1
      · rw [if_pos c1]
        have hx := nx_gt (tb := tb) (cT_3.mp c1.2.1).1
        have i1 := ih (lv + 1) none br nt (nx tb N f) q a hx.2
        generalize rcd tb N ky n (lv + 1) none br nt (nx tb N f) q a = x at i1
        obtain ⟨b1, b2, b3⟩ := i1
        by_cases c3 : x.1 = true
        · rw [if_pos c3]
          have hb3 := b3 c3
          have i2 := ih lv (some (k - 1)) br nt x.2.1 (sg (tb f) :: x.2.2.1) x.2.2.2 b2
          obtain ⟨e1, e2, e3⟩ := i2
          refine ⟨by omega, e2, fun h => ⟨fun z => (by cases z), ?_⟩⟩
          have := (e3 h).2
          simp only [List.length_cons] at this
          omega
        · rw [if_neg c3]; exact ⟨by omega, b2, fun h => absurd h c3⟩
      · rw [if_neg c1]
        exact ⟨Nat.le_refl _, hf, fun _ => ⟨fun z => (by cases z), by show q.length + f ≤ f + q.length; omega⟩⟩
section AG
variable {tb : Nat → Nat} {N : Nat} {ky : Int32}
theorem teI_0 {rk : Nat} (h : rk < 3) (x : Int32) : teI (nI rk) x = 0 := by
  unfold teI
  rw [if_neg]
  · rfl
  · rintro (z | z)
    · exact absurd ((nI_eq (by omega) (by omega)).mp z) (by omega)
    · exact absurd ((nI_ltI (by omega) (by omega)).mp z.1) (by omega)
theorem teI_3 (x : Int32) : ¬ teI (nI 3) x = 0 := by
  unfold teI
  rw [if_pos (Or.inl rfl)]
  decide
theorem teI_g {rk : Nat} (h : 3 < rk) (h2 : rk < 2 ^ 31) (x : Int32) : teI (nI rk) x = 0 ↔ x = 0 := by
  unfold teI
  by_cases hx : x = 0
  · rw [if_neg]
    · exact ⟨fun _ => hx, fun _ => rfl⟩
    · rintro (z | z)
      · exact absurd ((nI_eq (by omega) (by omega)).mp z) (by omega)
      · exact z.2 hx
  · rw [if_pos (Or.inr ⟨nI_lt h h2, hx⟩)]
    exact ⟨fun z => absurd z (by decide), fun z => absurd z hx⟩
/-- the loop behind a part -/
def LpC (n : Nat) (tb : Nat → Nat) (N : Nat) (ky : Int32) : Prop := ∀ lv k br nt f q a, lv ≤ 4 → mes N lv f ≤ n → f ≤ N → ∀ i en vl w w' q' te', EnI tb N f en → N + 1 ≤ i + f → opC w' = br → opC w = br → noL w' = noL w → noL w = nt → Seg lv w → stl (nI (lv + 1)) w' q' = (w, q) → (lv = 2 → (k = 1 ∧ te' br = 0) ∨ (k = 0 ∧ ¬ te' br = 0)) → (lv ≠ 2 → N < k + f) → EE tb N (lv + 1) f br te' →
  ((rcd tb N ky n lv (some k) br nt f q a).1 = false → (sS tb N ky i false f en vl w' q' a te').1 = false ∧ (sS tb N ky i false f en vl w' q' a te').2.1 = (rcd tb N ky n lv (some k) br nt f q a).2.1) ∧
  ((rcd tb N ky n lv (some k) br nt f q a).1 = true → Okd tb N ky lv br (sS tb N ky i false f en vl w' q' a te') w te' (rcd tb N ky n lv (some k) br nt f q a))
def PtC (n : Nat) (tb : Nat → Nat) (N : Nat) (ky : Int32) : Prop := ∀ lv br nt f q a, lv ≤ 5 → mes N lv f ≤ n → f ≤ N → ∀ i en vl w te, EnI tb N f en → N + 1 ≤ i + f → opC w = br → noL w = nt → SegP lv w → (lv ≤ 2 → te br = 0) →
  ((rcd tb N ky n lv none br nt f q a).1 = false → (sS tb N ky i true f en vl w q a te).1 = false ∧ (sS tb N ky i true f en vl w q a te).2.1 = (rcd tb N ky n lv none br nt f q a).2.1) ∧
  ((rcd tb N ky n lv none br nt f q a).1 = true → Okd tb N ky lv br (sS tb N ky i true f en vl w q a te) w te (rcd tb N ky n lv none br nt f q a))
theorem Lp_step (hb : ∀ j, j < N → tb j < 256) (h96 : N ≤ 96) {n : Nat} (hL : LpC n tb N ky) (hP : PtC n tb N ky) : LpC (n + 1) tb N ky := by
  intro lv k br nt f q a hlv hm hf i en vl w w' q' te' hen hi ho' ho hn' hn hseg hst h2 hk hE
  have h7 := stl_Seg (m := 6) (q := []) (by omega : lv < 6) (by omega) hseg
  rw [rcd]
  by_cases c1 : 0 < k ∧ cT tb N f = 3 ∧ rkN (tb f) = lv + 1
  · rw [if_pos c1]
    obtain ⟨k0, c3, cr⟩ := c1
    have hfl := (cT_3.mp c3).1
    have hx := nx_gt (tb := tb) hfl
    obtain ⟨a1, a2, a3, a4, a5, a6⟩ := sg_all (tb f) (hb f hfl)
    have hrk : rkI (sg (tb f)) = nI (lv + 1) := by rw [a2 (by omega), cr]
    obtain ⟨i0, rfl⟩ : ∃ i0, i = i0 + 1 := ⟨i - 1, by omega⟩
    have hstep := st_sign (ky := ky) (i := i0) (a := a) (en := en) (vl := vl) (te := te') hb hf c3 (by omega) (by
      rintro ⟨z1, z2⟩
      rw [ho'] at z2
      rcases h2 (by omega) with z | z
      · exact z2 z.2
      · omega) (w := w') (q := q') (w1 := w) (q1 := q) (by rw [cr]; exact hst) hn'.symm
    rw [hstep, ho', cr]
    have hsegs : Seg (lv + 1) (sg (tb f) :: w) := Or.inr ⟨by rw [hrk]; exact nI_nlt (Nat.le_refl _) (by omega), Seg_mono (by omega) (by omega) hseg⟩
    have hnos : noL (sg (tb f) :: w) = nt := by rw [noL, if_neg a4, hn, Nat.add_zero]
    have sub := hP (lv + 1) br nt (nx tb N f) q a (by omega) (by unfold mes at *; omega) hx.2 i0 (gD tb N f en) (gV tb N f vl) (sg (tb f) :: w) (upd te' br (teI (nI (lv + 1)) (te' br))) (En_next h96 hfl hen) (by omega) (by rw [opC_s a5, ho]) hnos (by
      unfold SegP
      split
      · exact hsegs
      · rw [show lv + 1 = 5 by omega] at hsegs; exact SegN_of hsegs) (fun z => by rw [upd_s]; exact teI_0 (by omega) _)
    have hg := rcd_f (tb := tb) (N := N) (ky := ky) n (lv + 1) none br nt (nx tb N f) q a hx.2
    generalize rcd tb N ky n (lv + 1) none br nt (nx tb N f) q a = x at sub hg
    obtain ⟨sF, sT⟩ := sub
    by_cases c4 : x.1 = true
    · rw [if_pos c4]
      obtain ⟨i1, en1, vl1, w1, q1, te1, hR, hen1, hi1, ho1, hn1, hst1, ht1, ht2, hE1⟩ := sT c4
      rw [hR]
      have hlt := (hg.2.2 c4).1 rfl
      have h6s : (stl (nI 6) (sg (tb f) :: w) []).1 = sg (tb f) :: w := by rw [stl_Seg (m := 6) (by omega : lv + 1 < 6) (by omega) hsegs]
      have hn1' : noL w1 = noL w := by rw [hn1, h6s, hnos, hn]
      have hst1' : stl (nI (lv + 1 + 1)) w1 q1 = (sg (tb f) :: w, x.2.2.1) := by rw [hst1]; exact stl_Seg (by omega) (by omega) hsegs
      have hst2 : stl (nI (lv + 1)) w1 q1 = (w, sg (tb f) :: x.2.2.1) := by
        rw [← stl_stl (l := nI (lv + 1)) (m := nI (lv + 1 + 1)) (nI_le (by omega) (by omega)), hst1']
        show stl (nI (lv + 1)) (sg (tb f) :: w) x.2.2.1 = _
        rw [stl, if_neg a5, if_neg (by rw [hrk]; exact nI_nlt (Nat.le_refl _) (by omega))]
        exact stl_Seg (by omega) (by omega) hseg
      have key := hL lv (k - 1) br nt x.2.1 (sg (tb f) :: x.2.2.1) x.2.2.2 hlv (by unfold mes at *; omega) hg.2.1 i1 en1 vl1 w w1 q1 te1 hen1 hi1 ho1 ho hn1' hn hseg hst2 (fun z => by
        right
        refine ⟨by rcases h2 z with z2 | z2 <;> omega, ?_⟩
        intro z3
        have := (ht2 (by omega)).mp z3
        rw [upd_s, z] at this
        exact teI_3 _ this) (fun z => by have := hk z; omega) hE1
      refine ⟨key.1, fun hT => ?_⟩
      obtain ⟨i2, en2, vl2, w2, q2, te2, hR2, hen2, hi2, ho2, hn2, hs2, t1, t2, hE2⟩ := key.2 hT
      refine ⟨i2, en2, vl2, w2, q2, te2, hR2, hen2, hi2, ho2, hn2, hs2, fun d hd => ?_, fun h3 => ?_, hE2⟩
      · rw [t1 d hd, ht1 d hd, upd_n (by omega)]
      · rw [t2 h3, ht2 (by omega), upd_s]; exact teI_g (by omega) (by omega) _
    · rw [if_neg c4]
      exact ⟨fun h => sF h, fun h => absurd h c4⟩
  · rw [if_neg c1]
    refine ⟨fun h => (by cases h), fun _ => ⟨i, en, vl, w', q', te', rfl, hen, hi, ho', by rw [h7]; exact hn', ?_, fun _ _ => rfl, fun _ => Iff.rfl, ?_⟩⟩
    · show stl (nI (lv + 1)) w' q' = stl (nI (lv + 1)) w q
      rw [hst]
      exact (stl_Seg (by omega) (by omega) hseg).symm
    · intro z1 z2
      by_cases z3 : rkN (tb f) = lv + 1
      · have hk0 : k = 0 := by
          rcases Nat.eq_zero_or_pos k with e | e
          · exact e
          · exact absurd ⟨e, z1, z3⟩ c1
        by_cases z4 : lv = 2
        · rcases h2 z4 with z5 | z5
          · omega
          · exact ⟨by show rkN (tb f) = 3; omega, z5.2⟩
        · have := hk z4; omega
      · exact hE z1 (by have z2' : lv < rkN (tb f) := z2; omega)
theorem Pt_step (hb : ∀ j, j < N → tb j < 256) (h96 : N ≤ 96) {n : Nat} (hL : LpC n tb N ky) (hP : PtC n tb N ky) : PtC (n + 1) tb N ky := by
  intro lv br nt f q a hlv hm hf i en vl w te hen hi ho hn hseg hte
  obtain ⟨i0, rfl⟩ : ∃ i0, i = i0 + 1 := ⟨i - 1, by omega⟩
  rw [rcd]
  by_cases h5 : 5 ≤ lv
  · rw [if_pos h5]
    have e5 : lv = 5 := by omega
    subst e5
    have hsegN : SegN w := hseg
    by_cases c1 : cT tb N f = 3 ∧ tb f = 33
    · rw [if_pos c1]
      have hfl := (cT_3.mp c1.1).1
      have hx := nx_gt (tb := tb) hfl
      by_cases c2 : 8 ≤ nt
      · rw [if_pos c2, st_notF hb hf c1 (by omega)]
        exact ⟨fun _ => ⟨rfl, rfl⟩, fun h => by cases h⟩
      · rw [if_neg c2, st_not hb hf c1 (by omega)]
        have sub := hP 5 br (nt + 1) (nx tb N f) q a (by omega) (by unfold mes at *; omega) hx.2 i0 (gD tb N f en) (gV tb N f vl) ((-10) :: w) te (En_next h96 hfl hen) (by omega) (by rw [opC_10, ho]) (by rw [noL, if_pos rfl, hn]) (Or.inl ⟨rfl, hsegN⟩) (fun z => by omega)
        generalize rcd tb N ky n 5 none br (nt + 1) (nx tb N f) q a = x at sub
        obtain ⟨sF, sT⟩ := sub
        by_cases c4 : x.1 = true
        · rw [if_pos c4]
          obtain ⟨i1, en1, vl1, w1, q1, te1, hR, hen1, hi1, ho1, hn1, hst1, ht1, ht2, hE1⟩ := sT c4
          have e6 : ∀ z, stl (nI 6) ((-10) :: w) z = stl (nI 6) w ((-10) :: z) := fun z => by rw [stl, if_neg (by decide), if_neg (by decide)]
          refine ⟨fun h => (by cases h), fun _ => ⟨i1, en1, vl1, w1, q1, te1, hR, hen1, hi1, ho1, ?_, ?_, ht1, ht2, hE1⟩⟩
          · rw [hn1, e6, stl_fst w _ []]
          · show stl (nI (5 + 1)) w1 q1 = stl (nI (5 + 1)) w ((-10) :: x.2.2.1)
            rw [hst1]; exact e6 _
        · rw [if_neg c4]; exact ⟨sF, fun h => absurd h c4⟩
    · rw [if_neg c1]
      by_cases c2 : cT tb N f = 3 ∧ tb f = 40
      · rw [if_pos c2]
        have hfl := (cT_3.mp c2.1).1
        have hx := nx_gt (tb := tb) hfl
        by_cases c3 : 8 ≤ br
        · rw [if_pos c3, st_openF hb hf c2 (by omega)]
          exact ⟨fun _ => ⟨rfl, rfl⟩, fun h => by cases h⟩
        · rw [if_neg c3, st_open hb hf c2 (by omega)]
          have sub := hP 0 (br + 1) nt (nx tb N f) q a (by omega) (by unfold mes at *; omega) hx.2 i0 (gD tb N f en) (gV tb N f vl) ((-11) :: w) (upd te (opC w + 1) (nI 0)) (En_next h96 hfl hen) (by omega) (by rw [opC_11, ho]) (by rw [noL, if_neg (by decide), hn, Nat.add_zero]) (Or.inl rfl) (fun _ => by rw [ho, upd_s]; rfl)
          have hg := rcd_f (tb := tb) (N := N) (ky := ky) n 0 none (br + 1) nt (nx tb N f) q a hx.2
          generalize rcd tb N ky n 0 none (br + 1) nt (nx tb N f) q a = x at sub hg
          obtain ⟨sF, sT⟩ := sub
          by_cases c4 : x.1 = true
          · rw [if_pos c4]
            obtain ⟨i1, en1, vl1, w1, q1, te1, hR, hen1, hi1, ho1, hn1, hst1, ht1, ht2, hE1⟩ := sT c4
            have hs11 : ∀ l z, stl l ((-11) :: w) z = ((-11) :: w, z) := fun l z => by rw [stl, if_pos rfl]
            have hs0 : stl (nI 0) w1 q1 = ((-11) :: w, x.2.2.1) := by
              rw [← stl_stl (l := nI 0) (m := nI (0 + 1)) (nI_le (by omega) (by omega)), hst1, hs11]
              exact hs11 _ _
            obtain ⟨i2, rfl⟩ : ∃ i2, i1 = i2 + 1 := ⟨i1 - 1, by have := hg.2.1; omega⟩
            by_cases c5 : cT tb N x.2.1 = 3 ∧ tb x.2.1 = 41
            · rw [if_pos c5]
              have hfl1 := (cT_3.mp c5.1).1
              have hx1 := nx_gt (tb := tb) hfl1
              rw [hR, st_close hb hg.2.1 c5 hs0]
              refine ⟨fun h => (by cases h), fun _ => ⟨i2, _, _, _, _, te1, rfl, En_next h96 hfl1 hen1, by show N + 1 ≤ i2 + nx tb N x.2.1; omega, ?_, ?_, ?_, fun d hd => ?_, fun _ => ?_, ?_⟩⟩
              · rw [stl_op, ho]
              · rw [stl_fst w _ []]
              · exact stl_stl (Int32.le_refl _) w x.2.2.1
              · rw [ht1 d (by omega), upd_n (by omega)]
              · rw [ht1 br (by omega), upd_n (by omega)]
              · intro z1 z2
                have := rkN_5 (tb (nx tb N x.2.1))
                have z2' : 5 < rkN (tb (nx tb N x.2.1)) := z2
                omega
            · rw [if_neg c5, hR]
              refine ⟨fun _ => ?_, fun h => by cases h⟩
              by_cases c6 : x.2.1 = N
              · rw [st_end c6]
                exact ⟨decide_eq_false (by omega), rfl⟩
              · rw [st_signF hb hg.2.1 c6 (fun z => c5 ⟨z.1, z.2.1⟩) (fun z1 z2 => by rw [ho1]; exact hE1 z1 z2)]
                exact ⟨rfl, rfl⟩
          · rw [if_neg c4]; exact ⟨sF, fun h => absurd h c4⟩
      · rw [if_neg c2]
        cases ha : atC tb N ky f with
        | none =>
          rw [st_atomF hb hf hen ha c1 c2]
          exact ⟨fun _ => ⟨rfl, rfl⟩, fun h => by cases h⟩
        | some c =>
          have hfl := (at_some (vl := vl) hen ha).1
          have hx := nx_gt (tb := tb) hfl
          rw [st_atom hen ha]
          refine ⟨fun h => (by cases h), fun _ => ⟨i0, _, _, _, _, te, rfl, En_next h96 hfl hen, by show N + 1 ≤ i0 + nx tb N f; omega, by rw [stl_op, ho], by rw [stl_fst w _ []], stl_stl (Int32.le_refl _) w (c :: q), fun _ _ => rfl, fun _ => Iff.rfl, ?_⟩⟩
          intro z1 z2
          have := rkN_5 (tb (nx tb N f))
          have z2' : 5 < rkN (tb (nx tb N f)) := z2
          omega
  · rw [if_neg h5]
    have hseg' : Seg lv w := by unfold SegP at hseg; rw [if_pos (by omega)] at hseg; exact hseg
    have h7 := stl_Seg (m := 6) (q := []) (by omega : lv < 6) (by omega) hseg'
    have sub := hP (lv + 1) br nt f q a (by omega) (by unfold mes at *; omega) hf (i0 + 1) en vl w te hen hi ho hn (by
      unfold SegP
      split
      · exact Seg_mono (by omega) (by omega) hseg'
      · exact SegN_of (Seg_mono (by omega) (by omega) hseg')) (fun z => hte (by omega))
    have hg := rcd_f (tb := tb) (N := N) (ky := ky) n (lv + 1) none br nt f q a hf
    generalize rcd tb N ky n (lv + 1) none br nt f q a = x at sub hg
    obtain ⟨sF, sT⟩ := sub
    by_cases c4 : x.1 = true
    · rw [if_pos c4]
      obtain ⟨i1, en1, vl1, w1, q1, te1, hR, hen1, hi1, ho1, hn1, hst1, ht1, ht2, hE1⟩ := sT c4
      rw [hR]
      have hlt := (hg.2.2 c4).1 rfl
      have hst2 : stl (nI (lv + 1)) w1 q1 = (w, x.2.2.1) := by
        rw [← stl_stl (l := nI (lv + 1)) (m := nI (lv + 1 + 1)) (nI_le (by omega) (by omega)), hst1, stl_Seg (by omega : lv < lv + 1 + 1) (by omega) hseg']
        exact stl_Seg (by omega) (by omega) hseg'
      have key := hL lv (if lv = 2 then 1 else 96) br nt x.2.1 x.2.2.1 x.2.2.2 (by omega) (by unfold mes at *; omega) hg.2.1 i1 en1 vl1 w w1 q1 te1 hen1 hi1 ho1 ho (by rw [hn1, h7]) hn hseg' hst2 (fun z => Or.inl ⟨if_pos z, (ht2 (by omega)).mpr (hte (by omega))⟩) (fun z => by rw [if_neg z]; omega) hE1
      refine ⟨key.1, fun hT => ?_⟩
      obtain ⟨i2, en2, vl2, w2, q2, te2, hR2, hen2, hi2, ho2, hn2, hs2, t1, t2, hE2⟩ := key.2 hT
      exact ⟨i2, en2, vl2, w2, q2, te2, hR2, hen2, hi2, ho2, hn2, hs2, fun d hd => by rw [t1 d hd, ht1 d hd], fun h3 => by rw [t2 h3, ht2 (by omega)], hE2⟩
    · rw [if_neg c4]; exact ⟨sF, fun h => absurd h c4⟩
theorem agree (hb : ∀ j, j < N → tb j < 256) (h96 : N ≤ 96) : ∀ n, LpC n tb N ky ∧ PtC n tb N ky
  | 0 => ⟨fun lv k br nt f q a hlv hm hf => by unfold mes at hm; omega, fun lv br nt f q a hlv hm hf => by unfold mes at hm; omega⟩
  | n + 1 => ⟨Lp_step hb h96 (agree hb h96 n).1 (agree hb h96 n).2, Pt_step hb h96 (agree hb h96 n).1 (agree hb h96 n).2⟩
/-- the whole of an E: right or not, where it is wrong, its code -/
theorem agreeE (hb : ∀ j, j < N → tb j < 256) (h96 : N ≤ 96) {f : Nat} {en vl : Int32} (hf : f ≤ N) (hen : EnI tb N f en) {te : Nat → Int32} (n : Nat) (hn : mes N 0 f ≤ n) :
    (((rcd tb N ky n 0 none 0 0 f [] 0).1 = true ∧ (rcd tb N ky n 0 none 0 0 f [] 0).2.1 = N) ∧ syE tb N ky (N + 1) true (gE tb N f) f (gT tb N f en) (gV tb N f vl) (gD tb N f en) [] [] 0 0 0 (upd te 0 (nI 0)) = (true, (rcd tb N ky n 0 none 0 0 f [] 0).2)) ∨
    (¬ ((rcd tb N ky n 0 none 0 0 f [] 0).1 = true ∧ (rcd tb N ky n 0 none 0 0 f [] 0).2.1 = N) ∧ (syE tb N ky (N + 1) true (gE tb N f) f (gT tb N f en) (gV tb N f vl) (gD tb N f en) [] [] 0 0 0 (upd te 0 (nI 0))).1 = false ∧ (syE tb N ky (N + 1) true (gE tb N f) f (gT tb N f en) (gV tb N f vl) (gD tb N f en) [] [] 0 0 0 (upd te 0 (nI 0))).2.1 = (rcd tb N ky n 0 none 0 0 f [] 0).2.1) := by
  have hP := (agree (ky := ky) hb h96 n).2 0 0 0 f [] 0 (by omega) hn hf (N + 1) en vl [] (upd te 0 (nI 0)) hen (by omega) rfl rfl trivial (fun _ => upd_s)
  have hg := rcd_f (tb := tb) (N := N) (ky := ky) n 0 none 0 0 f [] 0 hf
  have e0 : syE tb N ky (N + 1) true (gE tb N f) f (gT tb N f en) (gV tb N f vl) (gD tb N f en) [] [] 0 0 0 (upd te 0 (nI 0)) = sS tb N ky (N + 1) true f en vl [] [] 0 (upd te 0 (nI 0)) := rfl
  rw [e0]
  generalize rcd tb N ky n 0 none 0 0 f [] 0 = x at hP hg
  obtain ⟨sF, sT⟩ := hP
  by_cases c : x.1 = true
  · obtain ⟨i1, en1, vl1, w1, q1, te1, hR, hen1, hi1, ho1, hn1, hst1, ht1, ht2, hE1⟩ := sT c
    obtain ⟨i2, rfl⟩ : ∃ i2, i1 = i2 + 1 := ⟨i1 - 1, by have := hg.2.1; omega⟩
    rw [hR]
    by_cases c2 : x.2.1 = N
    · left
      refine ⟨⟨c, c2⟩, ?_⟩
      have hs0 : stl (nI 0) w1 q1 = ([], x.2.2.1) := by
        rw [← stl_stl (l := nI 0) (m := nI (0 + 1)) (nI_le (by omega) (by omega)), hst1]
        rfl
      rw [st_end c2, hs0, ho1]
      rfl
    · right
      refine ⟨fun z => c2 z.2, ?_⟩
      rw [st_signF hb hg.2.1 c2 (fun z => by rw [ho1] at z; omega) (fun z1 z2 => by rw [ho1]; exact hE1 z1 z2)]
      exact ⟨rfl, rfl⟩
  · right
    exact ⟨fun z => c z.1, sF (by simpa using c)⟩
end AG
