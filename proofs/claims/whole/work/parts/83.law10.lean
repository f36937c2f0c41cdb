/-! the law: its script -/
section SCR
variable {T : TC} {own : String} {cc : ByteArray} {nL d pc pc' b L : Nat} {F : FinT} {ls : List (Option Value)} {st : List Value} {I : MI} {G : MG} {bb : Nat × Nat} {xs : Nat → Int32}
/-- the method's end knows of the script -/
def FScr (T : TC) (F : FinT) (b L : Nat) (xs : Nat → Int32) : Prop := ∀ p l e R s m args below meth c Z, F p l e R s m args below meth c Z → va_X b L xs s (tH T) ∧ b < n0 T
theorem Ex_scr (hS : FScr T F b L xs) (hd : Dc cc pc 1 pc' .iaload) {x : Int32} {j : Nat} (hx : x = nI j) (hj : j < L) (hL : L < 2 ^ 31) (k : Ex T own cc nL d F pc' ls (.int (xs j) :: st) I G bb) : Ex T own cc nL d F pc ls (.int x :: .ref b :: st) I G bb := by
  intro p l e R s m args below meth c Z H locs cells slots rl B S hF M h1 h2 L9
  obtain ⟨hd, rfl⟩ := hd
  obtain ⟨hX, hlt⟩ := hS p l e R s m args below meth c Z hF
  obtain ⟨v1, v2⟩ := nI_vp hx hj hL
  exact va_sld B.1 B.2.1 hX hlt (fun q => absurd q (Nat.not_le.mpr hlt)) M.2.2 v1 hd (by rw [v2]; exact k p l e R s m args below meth c Z H locs cells slots rl B S hF M h1 h2 L9)
theorem Ex_scl (hS : FScr T F b L xs) (hd : Dc cc pc 1 pc' .arraylength) (k : Ex T own cc nL d F pc' ls (.int (nI L) :: st) I G bb) : Ex T own cc nL d F pc ls (.ref b :: st) I G bb := by
  intro p l e R s m args below meth c Z H locs cells slots rl B S hF M h1 h2 L9
  obtain ⟨hd, rfl⟩ := hd
  obtain ⟨hX, hlt⟩ := hS p l e R s m args below meth c Z hF
  exact va_slen B.1 B.2.1 hX hlt (fun q => absurd q (Nat.not_le.mpr hlt)) M.2.2 hd (k p l e R s m args below meth c Z H locs cells slots rl B S hF M h1 h2 L9)
end SCR
