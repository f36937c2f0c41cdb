/-! the reference's state g (its array now), and what is done to it -/
def takeK (g : Nat → Int32) (s m k i : Nat) : Nat → Int32 := fun j => if j = 8 + 17 * s + 2 then nI (m - 1) else if 8 + 17 * s + (4 + k) ≤ j ∧ j < 8 + 17 * s + (4 + i) then g (j + 1) else g j
def takeG (g : Nat → Int32) (s m k : Nat) : Nat → Int32 := takeK g s m k (m - 1)
def setlG (g : Nat → Int32) (s m : Nat) (deed : Int32) : Nat → Int32 := upd (upd g (8 + 17 * s + (4 + m)) deed) (8 + 17 * s + 2) (nI (m + 1))
def settleG (g : Nat → Int32) (s m : Nat) (deed : Int32) : Nat → Int32 := if m < 12 then setlG g s m deed else upd (takeG (setlG g s m deed) s (m + 1) 0) (8 + 17 * s + 3) (g (8 + 17 * s + 3) + nI 1)
def nz (z : Int32) : Int32 := z * 1103515245 + nI 12345
def dw (z : Int32) : Nat := (nz z).toBitVec.toNat / 256
def drawG (g : Nat → Int32) : Nat → Int32 := upd g 0 (nz (g 0))
def nS (g : Nat → Int32) : Nat := (g 1).toNatClampNeg
def mN (g : Nat → Int32) (s : Nat) : Nat := (g (8 + 17 * s + 2)).toNatClampNeg
def tN (g : Nat → Int32) : Nat := (g 7).toNatClampNeg
/-- the text that counts for a key -/
def cntF (g : Nat → Int32) (key : Int32) : Nat → Option Nat
  | 0 => none
  | t + 1 => if g (144 + 2 * t) / nI 1000 = key then some t else cntF g key t
/-- a text's work: a stack, the topmost first -/
def twoF (c a b : Int32) : Int32 := if c = (-1) then bI (¬ a = 0 ∨ ¬ b = 0) else if c = (-2) then bI (¬ a = 0 ∧ ¬ b = 0) else if c = (-3) then bI (a < b) else if c = (-4) then bI (a = b) else if c = (-5) then bI (b < a) else if c = (-6) then a + b else if c = (-7) then a - b else if c = (-8) then a * b else if b = 0 then 0 else a / b
def evSt (fc : Int32 → Int32) (c : Int32) (L : List Int32) : List Int32 := if 0 ≤ c then (if c < nI 10000 then c else fc c) :: L else if c = (-10) then (match L with | x :: r => bI (x = 0) :: r | [] => []) else (match L with | y :: x :: r => twoF c x y :: r | l => l)
def evL (code : Nat → Int32) (fc : Int32 → Int32) : Nat → List Int32
  | 0 => []
  | k + 1 => evSt fc (code k) (evL code fc k)
def dp (code : Nat → Int32) : Nat → Nat
  | 0 => 0
  | k + 1 => if 0 ≤ code k then dp code k + 1 else if code k = (-10) then dp code k else dp code k - 1
def CdOk (code : Nat → Int32) (nm n : Nat) : Prop := (∀ k, k < n → if 0 ≤ code k then ((code k < nI 10000) ∨ ∃ i, i < nm ∧ code k = nI (10000 + i)) else if code k = (-10) then 1 ≤ dp code k else (2 ≤ dp code k ∧ (-9) ≤ code k)) ∧ dp code n = 1
def nmOf (key : Nat) : Nat := if key = 0 then 3 else 2
def cdN (g : Nat → Int32) (t : Nat) : Nat := (g (144 + 2 * t)).toNatClampNeg % 1000
def kyN (g : Nat → Int32) (t : Nat) : Nat := (g (144 + 2 * t)).toNatClampNeg / 1000
def cdF (g : Nat → Int32) (t : Nat) : Nat → Int32 := fun k => g (172 + 96 * t + k)
def TxOk (g : Nat → Int32) (t : Nat) : Prop := kyN g t < 3 ∧ cdN g t ≤ 96 ∧ g (144 + 2 * t) = nI (1000 * kyN g t + cdN g t) ∧ CdOk (cdF g t) (nmOf (kyN g t)) (cdN g t)
def TxAll (g : Nat → Int32) : Prop := g 7 = nI (tN g) ∧ tN g ≤ 14 ∧ ∀ t, t < tN g → TxOk g t
def LyOk (g : Nat → Int32) (s : Nat) : Prop := g (8 + 17 * s + 2) = nI (mN g s) ∧ mN g s ≤ 12 ∧ (∀ i, i < mN g s → ∃ e, e < 10 ∧ g (8 + 17 * s + (4 + i)) = nI e) ∧ ∃ k, k < 6 ∧ g (8 + 17 * s + 0) = nI k
def WfG (g : Nat → Int32) : Prop := g 1 = nI (nS g) ∧ nS g ≤ 8 ∧ (∀ s, s < 8 → LyOk g s) ∧ TxAll g
def fct (a b c : Int32) (x : Int32) : Int32 := if x = nI 10000 then a else if x = nI 10001 then b else c
def evF (g : Nat → Int32) (t : Nat) (fc : Int32 → Int32) : Int32 := (evL (cdF g t) fc (cdN g t)).headD 0
def plainF (g : Nat → Int32) (s : Nat) : Int32 := match cntF g (nI 0) (tN g) with
  | none => nI 2
  | some t => wth (evF g t (fct (g (8 + 17 * s + 2)) (g (8 + 17 * s + 1)) (g 2))) (nI 0) (nI 12)
def liftK (kind plain : Int32) : Int32 := if kind = nI 1 then (if plain = 0 then nI 0 else plain - nI 1) else if kind = nI 2 then nI 2 * plain else if kind = nI 3 then nI 0 else if kind = nI 4 then nI 2 * plain + nI 1 else if kind = nI 5 then nI 0 else plain
def liftF (g : Nat → Int32) (s : Nat) : Int32 := liftK (g (8 + 17 * s + 0)) (plainF g s)
def goneF (g : Nat → Int32) (s : Nat) : Int32 := wth (liftF g s) (nI 0) (g (8 + 17 * s + 2))
def sweepG (g : Nat → Int32) (s : Nat) : Nat → Int32 := upd (upd g (8 + 17 * s + 2) (g (8 + 17 * s + 2) - goneF g s)) 5 (g 5 + goneF g s)
def catchG (deed : Int32) (g : Nat → Int32) : Nat → (Nat → Int32)
  | 0 => g
  | s + 1 => if catchI (catchG deed g s (8 + 17 * s + 0)) (catchG deed g s (8 + 17 * s + 1)) deed (catchG deed g s 2) = 0 then catchG deed g s else settleG (catchG deed g s) s (mN (catchG deed g s) s) deed
def blowG (g : Nat → Int32) (s n : Nat) : Nat → Int32 := if mN g s = 0 then g else
  upd (settleG (takeG g s (mN g s) (mN g s - 1)) ((s + 1) % n) (mN (takeG g s (mN g s) (mN g s - 1)) ((s + 1) % n)) (g (8 + 17 * s + (4 + (mN g s - 1))))) 6 (g 6 + nI 1)
def dayA (g : Nat → Int32) : Nat → Int32 := catchG (nI (dw (g 0) % 10)) (drawG g) (nS g)
def dayB (g : Nat → Int32) : Nat → Int32 := if nI (dw (g 0) % 100) < g 3 ∧ 0 < nS g then sweepG (drawG (drawG g)) (dw ((drawG g) 0) % nS g) else drawG g
def dayC (g : Nat → Int32) : Nat → Int32 := if nI (dw (g 0) % 100) < g 4 ∧ 1 < nS g then blowG (drawG (drawG g)) (dw ((drawG g) 0) % nS g) (nS g) else drawG g
def dayD (g : Nat → Int32) : Nat → Int32 := upd g 2 (g 2 + nI 1)
def dayG (g : Nat → Int32) : Nat → Int32 := dayD (dayC (dayB (dayA g)))
def daysG (g : Nat → Int32) : Nat → (Nat → Int32)
  | 0 => g
  | k + 1 => dayG (daysG g k)
/-! the stack in an array -/
def SR (f : Nat → Int32) : List Int32 → Prop
  | [] => True
  | x :: r => f r.length = x ∧ SR f r
theorem SR_upd {f : Nat → Int32} {k : Nat} {x : Int32} : ∀ {r : List Int32}, r.length ≤ k → SR f r → SR (upd f k x) r
  | [], _, _ => trivial
  | y :: r, h, hs => ⟨by rw [upd_n (by simp at h; omega)]; exact hs.1, SR_upd (by simp at h; omega) hs.2⟩
theorem SR_push {f : Nat → Int32} {x : Int32} {r : List Int32} (h : SR f r) : SR (upd f r.length x) (x :: r) := ⟨upd_s, SR_upd (Nat.le_refl _) h⟩
theorem evL_len {code : Nat → Int32} {nm n : Nat} {fc : Int32 → Int32} (h : CdOk code nm n) : ∀ k, k ≤ n → (evL code fc k).length = dp code k := by
  intro k
  induction k with
  | zero => intro _; rfl
  | succ k ih =>
    intro hk
    have hl := ih (by omega)
    have hc := h.1 k (by omega)
    simp only [evL, dp, evSt]
    by_cases h0 : 0 ≤ code k
    · rw [if_pos h0, if_pos h0]; simp [hl]
    · rw [if_neg h0, if_neg h0]
      rw [if_neg h0] at hc
      by_cases h1 : code k = (-10)
      · rw [if_pos h1, if_pos h1]
        rw [if_pos h1] at hc
        cases hL : evL code fc k with
        | nil => rw [hL] at hl; simp at hl; omega
        | cons x r => rw [hL] at hl; simpa using hl
      · rw [if_neg h1, if_neg h1]
        rw [if_neg h1] at hc
        cases hL : evL code fc k with
        | nil => rw [hL] at hl; simp at hl; omega
        | cons y r =>
          cases r with
          | nil => rw [hL] at hl; simp at hl; omega
          | cons x r => rw [hL] at hl; simp at hl ⊢; omega
theorem dp_le {code : Nat → Int32} : ∀ k, dp code k ≤ k
  | 0 => Nat.le_refl _
  | k + 1 => by
    have := dp_le (code := code) k
    unfold dp
    split
    · omega
    · split <;> omega
theorem cl_nI {n : Nat} (h : n < 2 ^ 31) : (nI n).toNatClampNeg = n := nI_clamp h
