/-! words of the tape as the class reads them; recursive descent -/
def srt (b : Nat) : Nat := if 97 ≤ b ∧ b ≤ 122 then 1 else if 48 ≤ b ∧ b ≤ 57 then 2 else 3
def cT (tb : Nat → Nat) (N f : Nat) : Nat := if f < N then srt (tb f) else 0
def nx (tb : Nat → Nat) (N f : Nat) : Nat := gF tb N (gE tb N f)
abbrev glu (tb : Nat → Nat) (N f : Nat) : Prop := 0 < f ∧ (isLe tb N (f - 1) ∨ isFi tb N (f - 1))
def nuV (tb : Nat → Nat) (f : Nat) : Nat → Nat
  | 0 => 0
  | k + 1 => 10 * nuV tb f k + (tb (f + k) - 48)
def atC (tb : Nat → Nat) (N : Nat) (ky : Int32) (f : Nat) : Option Int32 := if isLe tb N f then (if gE tb N f - f = 1 ∧ ¬ glu tb N f ∧ ¬ nmI ky (nI (tb f)) < 0 then some (nI 10000 + nmI ky (nI (tb f))) else none) else if isFi tb N f then (if gE tb N f - f ≤ 4 ∧ ¬ glu tb N f then some (nI (nuV tb f (gE tb N f - f))) else none) else none
def rkN (c : Nat) : Nat := if c = 124 then 1 else if c = 38 then 2 else if c = 60 ∨ c = 61 ∨ c = 62 then 3 else if c = 43 ∨ c = 45 then 4 else if c = 42 ∨ c = 47 then 5 else 0
def sg (c : Nat) : Int32 := sgI (nI 3) (nI c)
theorem sg_all : ∀ c, c < 256 → ((sg c = 0 ↔ rkN c = 0) ∧ (¬ rkN c = 0 → rkI (sg c) = nI (rkN c)) ∧ rkN c ≤ 5 ∧ ¬ sg c = (-10) ∧ ¬ sg c = (-11) ∧ (c = 41 → rkN c = 0)) := by decide +kernel
theorem sg_sp : ∀ c, c < 256 → ¬ rkN c = 0 → spI (sg c) = nI (20000 + c) := by decide +kernel
theorem rkN_5 (c : Nat) : rkN c ≤ 5 := by
  unfold rkN
  repeat (first | omega | split)
def rcd (tb : Nat → Nat) (N : Nat) (ky : Int32) : Nat → Nat → Option Nat → Nat → Nat → Nat → List Int32 → Nat → Bool × Nat × List Int32 × Nat
  | 0, _, _, _, _, f, q, a => (false, f, q, a)
  | n + 1, lv, none, br, nt, f, q, a =>
    if 5 ≤ lv then
      (if cT tb N f = 3 ∧ tb f = 33 then
        (if 8 ≤ nt then (false, f, q, a)
         else if (rcd tb N ky n 5 none br (nt + 1) (nx tb N f) q a).1 = true then (true, (rcd tb N ky n 5 none br (nt + 1) (nx tb N f) q a).2.1, (-10) :: (rcd tb N ky n 5 none br (nt + 1) (nx tb N f) q a).2.2.1, (rcd tb N ky n 5 none br (nt + 1) (nx tb N f) q a).2.2.2)
         else rcd tb N ky n 5 none br (nt + 1) (nx tb N f) q a)
       else if cT tb N f = 3 ∧ tb f = 40 then
        (if 8 ≤ br then (false, f, q, a)
         else if (rcd tb N ky n 0 none (br + 1) nt (nx tb N f) q a).1 = true then
          (if cT tb N (rcd tb N ky n 0 none (br + 1) nt (nx tb N f) q a).2.1 = 3 ∧ tb (rcd tb N ky n 0 none (br + 1) nt (nx tb N f) q a).2.1 = 41 then (true, nx tb N (rcd tb N ky n 0 none (br + 1) nt (nx tb N f) q a).2.1, (rcd tb N ky n 0 none (br + 1) nt (nx tb N f) q a).2.2.1, (rcd tb N ky n 0 none (br + 1) nt (nx tb N f) q a).2.2.2)
           else (false, (rcd tb N ky n 0 none (br + 1) nt (nx tb N f) q a).2))
         else rcd tb N ky n 0 none (br + 1) nt (nx tb N f) q a)
       else (match atC tb N ky f with
        | none => (false, f, q, a)
        | some c => (true, nx tb N f, c :: q, a + 1)))
    else if (rcd tb N ky n (lv + 1) none br nt f q a).1 = true then rcd tb N ky n lv (some (if lv = 2 then 1 else 96)) br nt (rcd tb N ky n (lv + 1) none br nt f q a).2.1 (rcd tb N ky n (lv + 1) none br nt f q a).2.2.1 (rcd tb N ky n (lv + 1) none br nt f q a).2.2.2
    else rcd tb N ky n (lv + 1) none br nt f q a
  | n + 1, lv, some k, br, nt, f, q, a =>
    if 0 < k ∧ cT tb N f = 3 ∧ rkN (tb f) = lv + 1 then
      (if (rcd tb N ky n (lv + 1) none br nt (nx tb N f) q a).1 = true then rcd tb N ky n lv (some (k - 1)) br nt (rcd tb N ky n (lv + 1) none br nt (nx tb N f) q a).2.1 (sg (tb f) :: (rcd tb N ky n (lv + 1) none br nt (nx tb N f) q a).2.2.1) (rcd tb N ky n (lv + 1) none br nt (nx tb N f) q a).2.2.2
       else rcd tb N ky n (lv + 1) none br nt (nx tb N f) q a)
    else (true, f, q, a)
/-! words -/
section TK
variable {tb : Nat → Nat} {N f : Nat}
theorem cT_0 (hf : f ≤ N) : cT tb N f = 0 ↔ f = N := by
  unfold cT srt
  split
  · split
    · omega
    · split <;> omega
  · omega
theorem cT_3 : cT tb N f = 3 ↔ f < N ∧ ¬ isLe tb N f ∧ ¬ isFi tb N f := by
  unfold cT srt
  split
  · rename_i h
    split
    · rename_i h1; exact ⟨fun q => absurd q (by decide), fun q => absurd ⟨h, h1⟩ q.2.1⟩
    · rename_i h1
      split
      · rename_i h2; exact ⟨fun q => absurd q (by decide), fun q => absurd ⟨h, h2⟩ q.2.2⟩
      · rename_i h2; exact ⟨fun _ => ⟨h, fun q => h1 q.2, fun q => h2 q.2⟩, fun _ => rfl⟩
  · rename_i h; exact ⟨fun q => absurd q (by decide), fun q => absurd q.1 h⟩
theorem cT_1 : cT tb N f = 1 ↔ isLe tb N f := by
  unfold cT srt
  split
  · rename_i h
    split
    · rename_i h1; exact ⟨fun _ => ⟨h, h1⟩, fun _ => rfl⟩
    · rename_i h1
      split
      · exact ⟨fun q => absurd q (by decide), fun q => absurd q.2 h1⟩
      · exact ⟨fun q => absurd q (by decide), fun q => absurd q.2 h1⟩
  · rename_i h; exact ⟨fun q => absurd q (by decide), fun q => absurd q.1 h⟩
theorem cT_2 : cT tb N f = 2 ↔ isFi tb N f := by
  unfold cT srt
  split
  · rename_i h
    split
    · rename_i h1; exact ⟨fun q => absurd q (by decide), fun q => by have := q.2; omega⟩
    · split
      · rename_i h2; exact ⟨fun _ => ⟨h, h2⟩, fun _ => rfl⟩
      · rename_i h2; exact ⟨fun q => absurd q (by decide), fun q => absurd q.2 h2⟩
  · rename_i h; exact ⟨fun q => absurd q (by decide), fun q => absurd q.1 h⟩
theorem gT_3 (en : Int32) : gT tb N f en = nI 3 ↔ (f ≠ N ∧ ¬ isLe tb N f ∧ ¬ isFi tb N f) := by
  unfold gT
  by_cases h0 : f = N
  · rw [if_pos h0]; exact ⟨fun q => absurd q (by decide), fun q => absurd h0 q.1⟩
  · rw [if_neg h0]
    by_cases h1 : isLe tb N f
    · rw [if_pos h1]
      exact ⟨fun q => by split at q <;> exact absurd q (by decide), fun q => absurd h1 q.2.1⟩
    · rw [if_neg h1]
      by_cases h2 : isFi tb N f
      · rw [if_pos h2]
        exact ⟨fun q => by split at q <;> exact absurd q (by decide), fun q => absurd h2 q.2.2⟩
      · rw [if_neg h2]; exact ⟨fun _ => ⟨h0, h1, h2⟩, fun _ => rfl⟩
theorem gT_c3 (hf : f ≤ N) (en : Int32) : gT tb N f en = nI 3 ↔ cT tb N f = 3 := by
  rw [gT_3, cT_3]
  constructor
  · rintro ⟨h1, h2⟩; exact ⟨by omega, h2⟩
  · rintro ⟨h1, h2⟩; exact ⟨by omega, h2⟩
theorem gT_0 (en : Int32) : gT tb N f en = nI 0 ↔ f = N := by
  unfold gT
  by_cases h0 : f = N
  · rw [if_pos h0]; exact ⟨fun _ => h0, fun _ => rfl⟩
  · rw [if_neg h0]
    refine ⟨fun q => ?_, fun q => absurd q h0⟩
    split at q
    · split at q <;> exact absurd q (by decide)
    · split at q
      · split at q <;> exact absurd q (by decide)
      · exact absurd q (by decide)
theorem gV_3 (h : cT tb N f = 3) (vl : Int32) : gV tb N f vl = nI (tb f) := by
  obtain ⟨h1, h2, h3⟩ := cT_3.mp h
  unfold gV
  rw [if_neg (by omega), if_neg h2, if_neg h3]
theorem gD_3 (h : cT tb N f = 3) (en : Int32) : gD tb N f en = en := by
  obtain ⟨h1, h2, h3⟩ := cT_3.mp h
  unfold gD
  rw [if_neg (by omega), if_neg h2, if_neg h3]
theorem gE_3 (h : cT tb N f = 3) : gE tb N f = f + 1 := by
  obtain ⟨h1, h2, h3⟩ := cT_3.mp h
  unfold gE
  rw [if_neg (by omega), if_neg h2, if_neg h3]
theorem gE_gt (h : f < N) : f < gE tb N f := by
  unfold gE
  rw [if_neg (by omega)]
  split
  · rename_i h1; exact run_lt h1 (by omega)
  · split
    · rename_i h2; exact run_lt h2 (by omega)
    · omega
theorem nx_gt (h : f < N) : f < nx tb N f ∧ nx tb N f ≤ N := by
  have h1 := gE_gt (tb := tb) h
  have h2 := gE_le (tb := tb) (Nat.le_of_lt h)
  have h3 := gF_le (tb := tb) h2.2
  unfold nx
  omega
theorem run_prev {P : Nat → Prop} [DecidablePred P] : ∀ i p, p < run P i p → P (run P i p - 1)
  | 0, p, h => absurd h (Nat.lt_irrefl _)
  | i + 1, p, h => by
    unfold run at h ⊢
    by_cases hp : P p
    · rw [if_pos hp] at h ⊢
      by_cases h2 : p + 1 < run P i (p + 1)
      · exact run_prev i (p + 1) h2
      · have := run_le (P := P) i (p + 1)
        rw [show run P i (p + 1) = p + 1 by omega]
        exact hp
    · rw [if_neg hp] at h; omega
/-- where the last word ended, as far as it matters -/
def EnI (tb : Nat → Nat) (N f : Nat) (en : Int32) : Prop := (en = (-1) ∨ ∃ e, e ≤ f ∧ en = nI e) ∧ (nI f = en ↔ glu tb N f)
theorem En_next {en : Int32} (h96 : N ≤ 96) (hf : f < N) (h : EnI tb N f en) : EnI tb N (nx tb N f) (gD tb N f en) := by
  have h1 := gE_gt (tb := tb) hf
  have h2 := (gE_le (tb := tb) (Nat.le_of_lt hf)).2
  have h3 := gF_le (tb := tb) h2
  have hbl : gE tb N f < gF tb N (gE tb N f) → tb (gF tb N (gE tb N f) - 1) = 32 := fun q => (run_prev (P := isBl tb N) _ _ q).2
  unfold nx
  -- a word, or a sign
  by_cases hw : isLe tb N f ∨ isFi tb N f
  · have hd : gD tb N f en = nI (gE tb N f) := by
      have h0 : ¬ f = N := by omega
      unfold gD gE
      rw [if_neg h0, if_neg h0]
      by_cases hl : isLe tb N f
      · rw [if_pos hl, if_pos hl]
      · rw [if_neg hl, if_neg hl, if_pos (hw.resolve_left hl), if_pos (hw.resolve_left hl)]
    have hl : isLe tb N (gE tb N f - 1) ∨ isFi tb N (gE tb N f - 1) := by
      unfold gE at h1 ⊢
      rw [if_neg (by omega)] at h1 ⊢
      by_cases hl : isLe tb N f
      · rw [if_pos hl] at h1 ⊢; exact Or.inl (run_prev (P := isLe tb N) _ _ h1)
      · rw [if_neg hl, if_pos (hw.resolve_left hl)] at h1 ⊢; exact Or.inr (run_prev (P := isFi tb N) _ _ h1)
    rw [hd]
    refine ⟨Or.inr ⟨_, h3.1, rfl⟩, ?_⟩
    rw [nI_eq (by omega) (by omega)]
    constructor
    · intro e; rw [e]; exact ⟨by omega, hl⟩
    · rintro ⟨-, q⟩
      by_cases e : gF tb N (gE tb N f) = gE tb N f
      · exact e
      · have := hbl (by omega)
        rcases q with q | q <;> (have := q.2; omega)
  · have c3 : cT tb N f = 3 := cT_3.mpr ⟨hf, fun q => hw (Or.inl q), fun q => hw (Or.inr q)⟩
    rw [gD_3 c3]
    have hg := gE_3 c3
    refine ⟨?_, ?_⟩
    · rcases h.1 with e | ⟨e, h4, h5⟩
      · exact Or.inl e
      · exact Or.inr ⟨e, by omega, h5⟩
    · constructor
      · intro q
        exfalso
        rcases h.1 with e | ⟨e, h4, h5⟩
        · rw [e] at q
          have := congrArg Int32.toInt q
          rw [nI_toInt (by omega)] at this
          have e1 : (-1 : Int32).toInt = -1 := rfl
          omega
        · rw [h5] at q
          have := (nI_eq (by omega) (by omega)).mp q
          omega
      · rintro ⟨-, q⟩
        exfalso
        by_cases e : gF tb N (gE tb N f) = gE tb N f
        · rw [e, hg, Nat.add_sub_cancel] at q; exact hw q
        · have := hbl (by omega)
          rcases q with q | q <;> (have := q.2; omega)
theorem numR_V : ∀ i k, run (isFi tb N) i (f + k) - f ≤ 4 → numR tb N f i (f + k) (nuV tb f k) = nuV tb f (run (isFi tb N) i (f + k) - f)
  | 0, k, _ => by show nuV tb f k = nuV tb f (f + k - f); rw [Nat.add_sub_cancel_left]
  | i + 1, k, h => by
    unfold run at h ⊢
    unfold numR
    by_cases hp : isFi tb N (f + k)
    · rw [if_pos hp] at h ⊢
      rw [if_pos hp]
      have hr := run_le (P := isFi tb N) i (f + k + 1)
      rw [if_pos (by omega), show 10 * nuV tb f k + tb (f + k) - 48 = nuV tb f (k + 1) from (by have := hp.2; show 10 * nuV tb f k + tb (f + k) - 48 = 10 * nuV tb f k + (tb (f + k) - 48); omega)]
      exact numR_V i (k + 1) h
    · rw [if_neg hp, if_neg hp, Nat.add_sub_cancel_left]
theorem at_none {ky en vl : Int32} (h : EnI tb N f en) (ha : atC tb N ky f = none) : ¬ ptP ky (gT tb N f en) (gV tb N f vl) (gE tb N f - f) := by
  unfold atC at ha
  by_cases h0 : f = N
  · rintro (q | q)
    · rw [(gT_0 (tb := tb) en).mpr h0] at q; exact absurd q (by decide)
    · have := q.1; rw [(gT_0 (tb := tb) en).mpr h0] at this; exact absurd this (by decide)
  by_cases h1 : isLe tb N f
  · rw [if_pos h1] at ha
    have ht : gT tb N f en = if nI f = en then nI 4 else nI 1 := by unfold gT; rw [if_neg h0, if_pos h1]
    have hv : gV tb N f vl = nI (tb f) := by unfold gV; rw [if_neg h0, if_pos h1]
    rw [ht, hv]
    by_cases hg : nI f = en
    · rw [if_pos hg]
      rintro (q | q)
      · exact absurd q (by decide)
      · exact absurd q.1 (by decide)
    · rw [if_neg hg]
      rintro (q | q)
      · exact absurd q (by decide)
      · rw [if_pos ⟨q.2.1, fun w => hg (h.2.mpr w), q.2.2⟩] at ha; cases ha
  · rw [if_neg h1] at ha
    by_cases h2 : isFi tb N f
    · rw [if_pos h2] at ha
      have ht : gT tb N f en = if nI f = en ∨ 4 < run (isFi tb N) (N - f) f - f then nI 4 else nI 2 := by unfold gT; rw [if_neg h0, if_neg h1, if_pos h2]
      have he : gE tb N f = run (isFi tb N) (N - f) f := by unfold gE; rw [if_neg h0, if_neg h1, if_pos h2]
      rw [ht]
      by_cases hg : nI f = en ∨ 4 < run (isFi tb N) (N - f) f - f
      · rw [if_pos hg]
        rintro (q | q)
        · exact absurd q (by decide)
        · exact absurd q.1 (by decide)
      · rw [if_pos ⟨by rw [he]; exact Nat.le_of_not_lt (fun w => hg (Or.inr w)), fun w => hg (Or.inl (h.2.mpr w))⟩] at ha; cases ha
    · have ht := (gT_3 (tb := tb) (f := f) en).mpr ⟨h0, h1, h2⟩
      rw [ht]
      rintro (q | q)
      · exact absurd q (by decide)
      · exact absurd q.1 (by decide)
theorem at_some {ky en vl c : Int32} (h : EnI tb N f en) (ha : atC tb N ky f = some c) : f < N ∧ ¬ gT tb N f en = nI 3 ∧ ptP ky (gT tb N f en) (gV tb N f vl) (gE tb N f - f) ∧ atI ky (gT tb N f en) (gV tb N f vl) = c := by
  unfold atC at ha
  by_cases h1 : isLe tb N f
  · rw [if_pos h1] at ha
    have h0 : ¬ f = N := by have := h1.1; omega
    by_cases hc : gE tb N f - f = 1 ∧ ¬ glu tb N f ∧ ¬ nmI ky (nI (tb f)) < 0
    · rw [if_pos hc] at ha
      have ht : gT tb N f en = nI 1 := by unfold gT; rw [if_neg h0, if_pos h1, if_neg (fun q => hc.2.1 (h.2.mp q))]
      have hv : gV tb N f vl = nI (tb f) := by unfold gV; rw [if_neg h0, if_pos h1]
      rw [ht, hv]
      refine ⟨h1.1, by decide, Or.inr ⟨rfl, hc.1, hc.2.2⟩, ?_⟩
      unfold atI
      rw [if_neg (by decide)]
      exact Option.some.inj ha
    · rw [if_neg hc] at ha; cases ha
  · rw [if_neg h1] at ha
    by_cases h2 : isFi tb N f
    · rw [if_pos h2] at ha
      have h0 : ¬ f = N := by have := h2.1; omega
      have he : gE tb N f = run (isFi tb N) (N - f) f := by unfold gE; rw [if_neg h0, if_neg h1, if_pos h2]
      by_cases hc : gE tb N f - f ≤ 4 ∧ ¬ glu tb N f
      · rw [if_pos hc] at ha
        have ht : gT tb N f en = nI 2 := by unfold gT; rw [if_neg h0, if_neg h1, if_pos h2, if_neg (fun q => q.elim (fun w => hc.2 (h.2.mp w)) (fun w => by have := hc.1; rw [he] at this; omega))]
        have hv : gV tb N f vl = nI (numR tb N f (N - f) f 0) := by unfold gV; rw [if_neg h0, if_neg h1, if_pos h2]
        rw [ht, hv]
        refine ⟨h2.1, by decide, Or.inl rfl, ?_⟩
        unfold atI
        rw [if_pos rfl]
        have hn := numR_V (tb := tb) (N := N) (f := f) (N - f) 0 (by have := hc.1; rw [he] at this; exact this)
        rw [← Option.some.inj ha, he]
        exact congrArg nI hn
      · rw [if_neg hc] at ha; cases ha
    · rw [if_neg h2] at ha; cases ha
end TK
/-! lists of waiting signs -/
theorem stl_fst {l : Int32} : ∀ (w q q2 : List Int32), (stl l w q).1 = (stl l w q2).1
  | [], _, _ => rfl
  | x :: w, q, q2 => by
    unfold stl
    split
    · rfl
    · split
      · rfl
      · exact stl_fst w _ _
theorem stl_stl {l m : Int32} (h : l ≤ m) : ∀ (w q : List Int32), stl l (stl m w q).1 (stl m w q).2 = stl l w q
  | [], _ => rfl
  | x :: w, q => by
    by_cases h1 : x = (-11)
    · rw [stl, if_pos h1]
    · by_cases h2 : rkI x < m
      · rw [show stl m (x :: w) q = (x :: w, q) by rw [stl, if_neg h1, if_pos h2]]
      · have e1 : stl m (x :: w) q = stl m w (x :: q) := by rw [stl, if_neg h1, if_neg h2]
        have e2 : stl l (x :: w) q = stl l w (x :: q) := by rw [stl, if_neg h1, if_neg (fun q => h2 (Int32.lt_of_lt_of_le q h))]
        rw [e1, e2]
        exact stl_stl h w (x :: q)
/-- the waiting signs above the last bracket are at most of this rank -/
def Seg (l : Nat) : List Int32 → Prop
  | [] => True
  | x :: w => x = (-11) ∨ (¬ nI l < rkI x ∧ Seg l w)
theorem Seg_mono {l m : Nat} (h : l ≤ m) (hm : m < 2 ^ 31) : ∀ {w : List Int32}, Seg l w → Seg m w
  | [], _ => trivial
  | x :: w, hw => hw.elim Or.inl (fun q => Or.inr ⟨fun z => q.1 (Int32.lt_of_le_of_lt (nI_le h hm) z), Seg_mono h hm q.2⟩)
theorem stl_Seg {l m : Nat} (h : l < m) (hm : m < 2 ^ 31) {w q : List Int32} (hw : Seg l w) : stl (nI m) w q = (w, q) := by
  cases w with
  | nil => rfl
  | cons x w =>
    unfold stl
    rcases hw with hw | hw
    · rw [if_pos hw]
    · by_cases h1 : x = (-11)
      · rw [if_pos h1]
      · rw [if_neg h1, if_pos (Int32.lt_of_le_of_lt (Int32.not_lt.mp hw.1) (nI_lt h hm))]
def SegN : List Int32 → Prop
  | [] => True
  | x :: w => (x = (-10) ∧ SegN w) ∨ Seg 5 (x :: w)
theorem SegN_of {w : List Int32} (h : Seg 5 w) : SegN w := by
  cases w with
  | nil => trivial
  | cons x w => exact Or.inr h
/-! what is read goes on just as the reference's machine does -/
def sS (tb : Nat → Nat) (N : Nat) (ky : Int32) (i : Nat) (wa : Bool) (f : Nat) (en vl : Int32) (w q : List Int32) (a : Nat) (te : Nat → Int32) : Bool × Nat × List Int32 × Nat := syE tb N ky i wa (gE tb N f) f (gT tb N f en) (gV tb N f vl) (gD tb N f en) w q a (opC w) (noL w) te
section SY
variable {tb : Nat → Nat} {N f i a : Nat} {ky en vl : Int32} {w q : List Int32} {te : Nat → Int32}
theorem sign_c (hb : ∀ j, j < N → tb j < 256) (hf : f ≤ N) {c : Nat} (hc : c < 256) : (gT tb N f en = nI 3 ∧ gV tb N f vl = nI c) ↔ (cT tb N f = 3 ∧ tb f = c) := by
  rw [gT_c3 hf]
  constructor
  · rintro ⟨h1, h2⟩
    rw [gV_3 h1] at h2
    exact ⟨h1, (nI_eq (by have := hb f (cT_3.mp h1).1; omega) (by omega)).mp h2⟩
  · rintro ⟨h1, h2⟩
    rw [gV_3 h1, h2]
    exact ⟨h1, rfl⟩
theorem sg_c (hf : f ≤ N) : sgI (gT tb N f en) (gV tb N f vl) = if cT tb N f = 3 then sg (tb f) else 0 := by
  by_cases h : cT tb N f = 3
  · rw [if_pos h, (gT_c3 hf en).mpr h, gV_3 h]; rfl
  · rw [if_neg h]
    unfold sgI
    rw [if_neg (fun q => h ((gT_c3 hf en).mp q))]; rfl
theorem st_not (hb : ∀ j, j < N → tb j < 256) (hf : f ≤ N) (h : cT tb N f = 3 ∧ tb f = 33) (h8 : noL w < 8) : sS tb N ky (i + 1) true f en vl w q a te = sS tb N ky i true (nx tb N f) (gD tb N f en) (gV tb N f vl) ((-10) :: w) q a te := by
  have h1 := (sign_c (en := en) (vl := vl) hb hf (c := 33) (by omega)).mpr h
  unfold sS
  rw [syE, if_pos ⟨h1.1, h1.2, h8⟩, opC_10]
  rfl
theorem st_notF (hb : ∀ j, j < N → tb j < 256) (hf : f ≤ N) (h : cT tb N f = 3 ∧ tb f = 33) (h8 : ¬ noL w < 8) : sS tb N ky (i + 1) true f en vl w q a te = (false, f, q, a) := by
  have h1 := (sign_c (en := en) (vl := vl) hb hf (c := 33) (by omega)).mpr h
  unfold sS
  rw [syE, if_neg (fun z => h8 z.2.2), if_neg (fun z => absurd (h1.2.symm.trans z.2.1) (by decide)), if_neg]
  rintro (z | z)
  · exact absurd (h1.1.symm.trans z) (by decide)
  · exact absurd (h1.1.symm.trans z.1) (by decide)
theorem st_open (hb : ∀ j, j < N → tb j < 256) (hf : f ≤ N) (h : cT tb N f = 3 ∧ tb f = 40) (h8 : opC w < 8) : sS tb N ky (i + 1) true f en vl w q a te = sS tb N ky i true (nx tb N f) (gD tb N f en) (gV tb N f vl) ((-11) :: w) q a (upd te (opC w + 1) (nI 0)) := by
  have h1 := (sign_c (en := en) (vl := vl) hb hf (c := 40) (by omega)).mpr h
  unfold sS
  rw [syE, if_neg (fun z => absurd (h1.2.symm.trans z.2.1) (by decide)), if_pos ⟨h1.1, h1.2, h8⟩, opC_11]
  rfl
theorem st_openF (hb : ∀ j, j < N → tb j < 256) (hf : f ≤ N) (h : cT tb N f = 3 ∧ tb f = 40) (h8 : ¬ opC w < 8) : sS tb N ky (i + 1) true f en vl w q a te = (false, f, q, a) := by
  have h1 := (sign_c (en := en) (vl := vl) hb hf (c := 40) (by omega)).mpr h
  unfold sS
  rw [syE, if_neg (fun z => absurd (h1.2.symm.trans z.2.1) (by decide)), if_neg (fun z => h8 z.2.2), if_neg]
  rintro (z | z)
  · exact absurd (h1.1.symm.trans z) (by decide)
  · exact absurd (h1.1.symm.trans z.1) (by decide)
theorem st_atom {c : Int32} (h : EnI tb N f en) (ha : atC tb N ky f = some c) : sS tb N ky (i + 1) true f en vl w q a te = sS tb N ky i false (nx tb N f) (gD tb N f en) (gV tb N f vl) (stl (nI 6) w (c :: q)).1 (stl (nI 6) w (c :: q)).2 (a + 1) te := by
  obtain ⟨-, h3, hp, hc⟩ := at_some (vl := vl) h ha
  unfold sS
  rw [syE, if_neg (fun z => h3 z.1), if_neg (fun z => h3 z.1), if_pos hp, hc, stl_op]
  rfl
theorem st_atomF (hb : ∀ j, j < N → tb j < 256) (hf : f ≤ N) (h : EnI tb N f en) (ha : atC tb N ky f = none) (h1 : ¬ (cT tb N f = 3 ∧ tb f = 33)) (h2 : ¬ (cT tb N f = 3 ∧ tb f = 40)) : sS tb N ky (i + 1) true f en vl w q a te = (false, f, q, a) := by
  unfold sS
  rw [syE, if_neg (fun z => h1 ((sign_c (en := en) (vl := vl) hb hf (c := 33) (by omega)).mp ⟨z.1, z.2.1⟩)), if_neg (fun z => h2 ((sign_c (en := en) (vl := vl) hb hf (c := 40) (by omega)).mp ⟨z.1, z.2.1⟩)), if_neg (at_none h ha)]
theorem st_end (h : f = N) : sS tb N ky (i + 1) false f en vl w q a te = (decide (opC w = 0), f, (stl (nI 0) w q).2, a) := by
  unfold sS
  rw [syE, if_pos ((gT_0 en).mpr h)]
theorem st_close (hb : ∀ j, j < N → tb j < 256) (hf : f ≤ N) (h : cT tb N f = 3 ∧ tb f = 41) {w1 q1 : List Int32} (hs : stl (nI 0) w q = ((-11) :: w1, q1)) : sS tb N ky (i + 1) false f en vl w q a te = sS tb N ky i false (nx tb N f) (gD tb N f en) (gV tb N f vl) (stl (nI 6) w1 q1).1 (stl (nI 6) w1 q1).2 a te := by
  have h1 := (sign_c (en := en) (vl := vl) hb hf (c := 41) (by omega)).mpr h
  have ho : opC w = opC w1 + 1 := by
    have := stl_op (l := nI 0) w q
    rw [hs, opC_11] at this
    exact this.symm
  unfold sS
  rw [syE, if_neg (by rw [h1.1]; decide), if_pos ⟨h1.1, h1.2, by omega⟩, hs, ho, stl_op]
  rfl
theorem st_sign (hb : ∀ j, j < N → tb j < 256) (hf : f ≤ N) (h : cT tb N f = 3) (hr : ¬ rkN (tb f) = 0) (ht : ¬ (rkN (tb f) = 3 ∧ ¬ te (opC w) = 0)) {w1 q1 : List Int32} (hs : stl (nI (rkN (tb f))) w q = (w1, q1)) (hn : noL w1 = noL w) : sS tb N ky (i + 1) false f en vl w q a te = sS tb N ky i true (nx tb N f) (gD tb N f en) (gV tb N f vl) (sg (tb f) :: w1) q1 a (upd te (opC w) (teI (nI (rkN (tb f))) (te (opC w)))) := by
  have hf1 := (cT_3.mp h).1
  obtain ⟨a1, a2, a3, a4, a5, a6⟩ := sg_all (tb f) (hb f hf1)
  have hsg : sgI (gT tb N f en) (gV tb N f vl) = sg (tb f) := by rw [sg_c hf, if_pos h]
  have hrk := a2 hr
  have h41 : ¬ tb f = 41 := fun z => hr (a6 z)
  have ho : opC w1 = opC w := by
    have := stl_op (l := nI (rkN (tb f))) w q
    rw [hs] at this
    exact this
  unfold sS
  rw [syE, if_neg (by rw [(gT_c3 hf en).mpr h]; decide), if_neg (fun z => h41 ((sign_c (en := en) (vl := vl) hb hf (c := 41) (by omega)).mp ⟨z.1, z.2.1⟩).2), hsg, hrk, if_neg, hs, opC_s a5, ho, noL, if_neg a4, hn]
  · rfl
  · rintro (z | z)
    · exact hr (a1.mp z)
    · exact ht ⟨(nI_eq (by omega) (by omega)).mp z.1, z.2⟩
theorem st_signF (hb : ∀ j, j < N → tb j < 256) (hf : f ≤ N) (h0 : ¬ f = N) (h41 : ¬ (cT tb N f = 3 ∧ tb f = 41 ∧ 0 < opC w)) (hs : cT tb N f = 3 → 0 < rkN (tb f) → rkN (tb f) = 3 ∧ ¬ te (opC w) = 0) : sS tb N ky (i + 1) false f en vl w q a te = (false, f, q, a) := by
  unfold sS
  rw [syE, if_neg (fun z => h0 ((gT_0 en).mp z)), if_neg (fun z => h41 (by have := (sign_c (en := en) (vl := vl) hb hf (c := 41) (by omega)).mp ⟨z.1, z.2.1⟩; exact ⟨this.1, this.2, z.2.2⟩)), if_pos]
  rw [sg_c hf]
  by_cases h : cT tb N f = 3
  · rw [if_pos h]
    obtain ⟨a1, a2, a3, a4, a5, a6⟩ := sg_all (tb f) (hb f (cT_3.mp h).1)
    by_cases hr : rkN (tb f) = 0
    · exact Or.inl (a1.mpr hr)
    · obtain ⟨e1, e2⟩ := hs h (by omega)
      exact Or.inr ⟨by rw [a2 hr, e1], e2⟩
  · rw [if_neg h]; exact Or.inl rfl
end SY
