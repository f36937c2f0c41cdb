/-! new cells -/
def zI (I : MI) (q : Nat) : MI := fun x y => if x = q then 0 else I x y
def alG (G : MG) (q k n : Nat) : MG := (fun x y => if x = q then none else gR G x y, fun x y => if x = q then 0 else gL G x y, fun x => if x = q then k else gK G x, fun x => if x = q then n else gN G x, gS G + 1)
theorem zI_s {I : MI} {q y : Nat} : zI I q q y = 0 := if_pos rfl
theorem zI_n {I : MI} {q x : Nat} (h : x ≠ q) : zI I q x = I x := funext fun _ => if_neg h
theorem alG_S {G : MG} {q k n : Nat} : gS (alG G q k n) = gS G + 1 := rfl
theorem alG_K {G : MG} {q k n x : Nat} : gK (alG G q k n) x = if x = q then k else gK G x := rfl
theorem alG_N {G : MG} {q k n x : Nat} : gN (alG G q k n) x = if x = q then n else gN G x := rfl
theorem alG_R {G : MG} {q k n x y : Nat} : gR (alG G q k n) x y = if x = q then none else gR G x y := rfl
theorem alG_Kn {G : MG} {q k n x : Nat} (h : x ≠ q) : gK (alG G q k n) x = gK G x := if_neg h
theorem alG_Nn {G : MG} {q k n x : Nat} (h : x ≠ q) : gN (alG G q k n) x = gN G x := if_neg h
theorem alG_Rn {G : MG} {q k n x : Nat} (h : x ≠ q) : gR (alG G q k n) x = gR G x := funext fun _ => if_neg h
theorem alG_Ln {G : MG} {q k n x : Nat} (h : x ≠ q) : gL (alG G q k n) x = gL G x := funext fun _ => if_neg h
theorem Is.al {T : TC} {G : MG} {q k n a kk : Nat} (hq : n0 T + gS G = q) (h : Is T G a kk) : Is T (alG G q k n) a kk := by
  have hne : a ≠ q := by have := h.2.2; omega
  exact ⟨by rw [alG_Kn hne]; exact h.1, h.2.1, by rw [alG_S]; have := h.2.2; omega⟩
theorem Is.new {T : TC} {G : MG} {q k n : Nat} (hq : n0 T + gS G = q) : Is T (alG G q k n) q k := ⟨if_pos rfl, by omega, by rw [alG_S]; omega⟩
theorem Is.setR {T : TC} {G : MG} {a k x j : Nat} {v : Option Nat} (h : Is T G a k) : Is T (setR G x j v) a k := h
theorem Is.setG {T : TC} {G : MG} {a k x j : Nat} {v : Int64} (h : Is T G a k) : Is T (setG G x j v) a k := h
theorem cE_al {T : TC} {I : MI} {G : MG} {q k n x : Nat} (h : x ≠ q) : cE T (zI I q) (alG G q k n) x = cE T I G x := by
  unfold cE arE flds fv
  rw [alG_Kn h, alG_Nn h, alG_Rn h, alG_Ln h, zI_n h]
theorem Mem.push {T : TC} {I : MI} {G : MG} {H H1 : Heap} {locs : List Loc} {q k n : Nat} (M : Mem T I G H locs) (hq : n0 T + gS G = q) (hz : H1.size = q + 1) (oq : ∀ x, x < q → H1[x]? = H[x]?) (hat : va_at (tD T) vwCl (q, cE T (zI I q) (alG G q k n) q) H1) : Mem T (zI I q) (alG G q k n) H1 locs := by
  refine ⟨by rw [hz, alG_S]; omega, ?_, ?_⟩
  · intro i x hx
    simp only [wL, List.getElem?_map, Option.map_eq_some_iff] at hx
    obtain ⟨j, hj, rfl⟩ := hx
    obtain ⟨hj1, hj2⟩ := List.getElem?_eq_some_iff.mp hj
    simp at hj2
    subst hj2
    rw [List.length_range, alG_S] at hj1
    by_cases e : n0 T + i = q
    · rw [e]; exact hat
    · have hlt : i < gS G := by omega
      have hP := M.2.1 i (n0 T + i, cE T I G (n0 T + i)) (by simp [wL, List.getElem?_map, List.getElem?_range hlt])
      show va_at (tD T) vwCl (n0 T + i, cE T (zI I q) (alG G q k n) (n0 T + i)) H1
      rw [cE_al e]
      exact hP.kept (oq _ (by show n0 T + i < q; omega))
  · obtain ⟨s1, s2, s3⟩ := M.2.2
    have hm := M.1
    exact ⟨by omega, fun x g1 g2 => (oq x (by omega)).trans (s2 x g1 g2), s3⟩
theorem flds_def {I : MI} {G : MG} {q ci n : Nat} (hc : ci < 10) : ∀ j, j < fN ci → defaultValue (fY ci j) = vp_V (flds (zI I q) (alG G q ci n) q ci) j := by
  intro j hj
  rw [flds_V hj]
  unfold fv
  rw [zI_s, alG_R, if_pos rfl]
  revert hj
  rcases ci with _ | _ | _ | _ | _ | _ | _ | _ | _ | _ | ci
  all_goals first | (intro hj; exact absurd hc (by omega)) | skip
  all_goals (revert j; decide +kernel)
section M6
variable {T : TC} {own : String} {cc : ByteArray} {nL d pc pc' ix b1 b2 : Nat} {F : FinT} {ls : List (Option Value)} {st : List Value} {I : MI} {G : MG} {b : Nat × Nat} {q ci : Nat}
theorem Ex_new (hd : Dc cc pc 3 pc' (.new ix)) (hc : ci < 10) (hw : Cond.classLink own ix (fC ci) ∈ gtbl) (hins : Cond.instantiable (fC ci) (fN ci) ∈ gtbl) (hini : Cond.initialized (fC ci) ∈ gtbl) (hq : n0 T + gS G = q) (k : Ex T own cc nL d F pc' ls (.ref q :: st) (zI I q) (alG G q ci 0) (b1, b2)) : Ex T own cc nL d F pc ls st I G (b1 + 1, b2 + fN ci) := by
  intro p l e R s m args below meth c Z H locs cells slots rl B S hF M h1 h2 L
  obtain ⟨hd, rfl⟩ := hd
  have h1' : cells + (b1 + 1) ≤ R.cells := h1
  have h2' : slots + (b2 + fN ci) ≤ R.slots := h2
  have hts := B.2.2.2.2.1
  have hKn := S.1.1 ci _ (fC_at hc)
  refine W.newcK B.1 B.2.1 B.2.2.2.1 (hts _ hw) (hts _ hins) (hts _ hini) rfl hd (by omega) (by omega) hKn.2.1 (M.1.trans hq) fun H1 kC hkC e1 z1 o1 => ?_
  refine k p l e R s m args below meth c Z H1 locs (cells + 1) (slots + fN ci) rl B S hF (M.push hq z1 o1 ?_) (by show cells + 1 + b1 ≤ R.cells; omega) (by show slots + fN ci + b2 ≤ R.slots; omega) L
  rw [cE_obj (G := alG G q ci 0) (ci := ci) (if_pos rfl) hc]
  exact ⟨_, fC_at hc, (u_born (fY ci) hts (gws hc) hKn hkC e1 (fY_ok hc)).to (flds_def hc)⟩
theorem byt_ok {N k : Nat} (h : N < 65536) (hk : k ≤ 8) : N * k ≤ 536870912 := Nat.le_trans (Nat.mul_le_mul (Nat.le_of_lt h) hk) (by decide)
theorem va_RA_p {U : State} {cA : ClassId} {t : FieldType} (ho : ∀ C, t ≠ .object C) (h : va_RA U cA t) : U.vm.findClass ("[" ++ t.toString) = some cA := by
  cases t <;> first | exact h | exact absurd rfl (ho _)
theorem Ex_newI {n : Int32} {N : Nat} (hd : Dc cc pc 2 pc' (.newarray .int)) (hw : Cond.arrayClass .int ∈ gtbl) (hn : n = nI N) (hN : N < 65536) (hq : n0 T + gS G = q) (k : Ex T own cc nL d F pc' ls (.ref q :: st) (zI I q) (alG G q 10 N) (b1, b2)) : Ex T own cc nL d F pc ls (.int n :: st) I G (b1 + 1, b2 + N) := by
  intro p l e R s m args below meth c Z H locs cells slots rl B S hF M h1 h2 L
  obtain ⟨hd, rfl⟩ := hd
  have h1' : cells + (b1 + 1) ≤ R.cells := h1
  have h2' : slots + (b2 + N) ≤ R.slots := h2
  subst hn
  refine va_newaK (atype := .int) B.1 B.2.1 (B.2.2.2.2.1 _ hw) rfl hd rfl (nI_pos (by omega)) (nI_clamp (by omega)) (byt_ok hN (by decide)) (by omega) (by omega) (M.1.trans hq) fun H1 cA e1 z1 o1 _ hf => ?_
  refine k p l e R s m args below meth c Z H1 locs (cells + 1) (slots + N) rl B S hF (M.push hq z1 o1 ?_) (by show cells + 1 + b1 ≤ R.cells; omega) (by show slots + N + b2 ≤ R.slots; omega) L
  have hcA : cA = tC T 10 := Option.some.inj (hf.symm.trans (va_RA_p (by intro C h; cases h) (S.2.1 10 (by omega) (by omega)).2))
  subst hcA
  rw [cE_int (G := alG G q 10 N) (k := 10) (if_pos rfl) (by omega) (by omega), show gN (alG G q 10 N) q = N from if_pos rfl]
  show H1[q]? = some (vp_cell _ _)
  rw [e1, vp_cell_i]
  congr 2
  funext j
  first
    | (rw [zI_s]; rfl)
    | (rw [show gL (alG G q 10 N) q j = 0 from if_pos rfl]; rfl)
theorem Ex_newZ {n : Int32} {N : Nat} (hd : Dc cc pc 2 pc' (.newarray .boolean)) (hw : Cond.arrayClass .boolean ∈ gtbl) (hn : n = nI N) (hN : N < 65536) (hq : n0 T + gS G = q) (k : Ex T own cc nL d F pc' ls (.ref q :: st) (zI I q) (alG G q 11 N) (b1, b2)) : Ex T own cc nL d F pc ls (.int n :: st) I G (b1 + 1, b2 + N) := by
  intro p l e R s m args below meth c Z H locs cells slots rl B S hF M h1 h2 L
  obtain ⟨hd, rfl⟩ := hd
  have h1' : cells + (b1 + 1) ≤ R.cells := h1
  have h2' : slots + (b2 + N) ≤ R.slots := h2
  subst hn
  refine va_newaK (atype := .boolean) B.1 B.2.1 (B.2.2.2.2.1 _ hw) rfl hd rfl (nI_pos (by omega)) (nI_clamp (by omega)) (byt_ok hN (by decide)) (by omega) (by omega) (M.1.trans hq) fun H1 cA e1 z1 o1 _ hf => ?_
  refine k p l e R s m args below meth c Z H1 locs (cells + 1) (slots + N) rl B S hF (M.push hq z1 o1 ?_) (by show cells + 1 + b1 ≤ R.cells; omega) (by show slots + N + b2 ≤ R.slots; omega) L
  have hcA : cA = tC T 11 := Option.some.inj (hf.symm.trans (va_RA_p (by intro C h; cases h) (S.2.1 11 (by omega) (by omega)).2))
  subst hcA
  rw [cE_int (G := alG G q 11 N) (k := 11) (if_pos rfl) (by omega) (by omega), show gN (alG G q 11 N) q = N from if_pos rfl]
  show H1[q]? = some (vp_cell _ _)
  rw [e1, vp_cell_i]
  congr 2
  funext j
  first
    | (rw [zI_s]; rfl)
    | (rw [show gL (alG G q 11 N) q j = 0 from if_pos rfl]; rfl)
theorem Ex_newC {n : Int32} {N : Nat} (hd : Dc cc pc 2 pc' (.newarray .char)) (hw : Cond.arrayClass .char ∈ gtbl) (hn : n = nI N) (hN : N < 65536) (hq : n0 T + gS G = q) (k : Ex T own cc nL d F pc' ls (.ref q :: st) (zI I q) (alG G q 12 N) (b1, b2)) : Ex T own cc nL d F pc ls (.int n :: st) I G (b1 + 1, b2 + N) := by
  intro p l e R s m args below meth c Z H locs cells slots rl B S hF M h1 h2 L
  obtain ⟨hd, rfl⟩ := hd
  have h1' : cells + (b1 + 1) ≤ R.cells := h1
  have h2' : slots + (b2 + N) ≤ R.slots := h2
  subst hn
  refine va_newaK (atype := .char) B.1 B.2.1 (B.2.2.2.2.1 _ hw) rfl hd rfl (nI_pos (by omega)) (nI_clamp (by omega)) (byt_ok hN (by decide)) (by omega) (by omega) (M.1.trans hq) fun H1 cA e1 z1 o1 _ hf => ?_
  refine k p l e R s m args below meth c Z H1 locs (cells + 1) (slots + N) rl B S hF (M.push hq z1 o1 ?_) (by show cells + 1 + b1 ≤ R.cells; omega) (by show slots + N + b2 ≤ R.slots; omega) L
  have hcA : cA = tC T 12 := Option.some.inj (hf.symm.trans (va_RA_p (by intro C h; cases h) (S.2.1 12 (by omega) (by omega)).2))
  subst hcA
  rw [cE_int (G := alG G q 12 N) (k := 12) (if_pos rfl) (by omega) (by omega), show gN (alG G q 12 N) q = N from if_pos rfl]
  show H1[q]? = some (vp_cell _ _)
  rw [e1, vp_cell_i]
  congr 2
  funext j
  first
    | (rw [zI_s]; rfl)
    | (rw [show gL (alG G q 12 N) q j = 0 from if_pos rfl]; rfl)
theorem Ex_newJ {n : Int32} {N : Nat} (hd : Dc cc pc 2 pc' (.newarray .long)) (hw : Cond.arrayClass .long ∈ gtbl) (hn : n = nI N) (hN : N < 65536) (hq : n0 T + gS G = q) (k : Ex T own cc nL d F pc' ls (.ref q :: st) (zI I q) (alG G q 13 N) (b1, b2)) : Ex T own cc nL d F pc ls (.int n :: st) I G (b1 + 1, b2 + N) := by
  intro p l e R s m args below meth c Z H locs cells slots rl B S hF M h1 h2 L
  obtain ⟨hd, rfl⟩ := hd
  have h1' : cells + (b1 + 1) ≤ R.cells := h1
  have h2' : slots + (b2 + N) ≤ R.slots := h2
  subst hn
  refine va_newaK (atype := .long) B.1 B.2.1 (B.2.2.2.2.1 _ hw) rfl hd rfl (nI_pos (by omega)) (nI_clamp (by omega)) (byt_ok hN (by decide)) (by omega) (by omega) (M.1.trans hq) fun H1 cA e1 z1 o1 _ hf => ?_
  refine k p l e R s m args below meth c Z H1 locs (cells + 1) (slots + N) rl B S hF (M.push hq z1 o1 ?_) (by show cells + 1 + b1 ≤ R.cells; omega) (by show slots + N + b2 ≤ R.slots; omega) L
  have hcA : cA = tC T 13 := Option.some.inj (hf.symm.trans (va_RA_p (by intro C h; cases h) (S.2.1 13 (by omega) (by omega)).2))
  subst hcA
  rw [cE_long (G := alG G q 13 N) (if_pos rfl), show gN (alG G q 13 N) q = N from if_pos rfl]
  show H1[q]? = some (vp_cell _ _)
  rw [e1, vp_cell_l]
  congr 2
  funext j
  first
    | (rw [zI_s]; rfl)
    | (rw [show gL (alG G q 13 N) q j = 0 from if_pos rfl]; rfl)
theorem Ex_anewSu {n : Int32} {N : Nat} (hd : Dc cc pc 3 pc' (.anewarray ix)) (hw : Cond.classLink own ix RX5 ∈ gtbl) (hn : n = nI N) (hN : N < 65536) (hq : n0 T + gS G = q) (k : Ex T own cc nL d F pc' ls (.ref q :: st) (zI I q) (alG G q 14 N) (b1, b2)) : Ex T own cc nL d F pc ls (.int n :: st) I G (b1 + 1, b2 + N) := by
  intro p l e R s m args below meth c Z H locs cells slots rl B S hF M h1 h2 L
  obtain ⟨hd, rfl⟩ := hd
  have h1' : cells + (b1 + 1) ≤ R.cells := h1
  have h2' : slots + (b2 + N) ≤ R.slots := h2
  subst hn
  have hcl : (nI N).toNatClampNeg = N := nI_clamp (by omega)
  have hsz := M.1.trans hq
  refine W.anew B.1 B.2.1 B.2.2.2.1 (B.2.2.2.2.1 _ hw) (va_AO.use (S.2.2.2.1 14 (by omega) (by omega))) rfl hd rfl (nI_pos (by omega)) (by rw [hcl]; omega) (by omega) (by rw [hcl]; omega) fun cA kA comp f1 f2 f3 f4 => ?_
  obtain ⟨kA', comp', -, -, -, g4⟩ := (S.2.1 14 (by omega) (by omega)).2
  have hcA : cA = tC T 14 := Option.some.inj (f1.symm.trans g4)
  subst hcA
  rw [hcl, hsz]
  refine k p l e R s m args below meth c Z _ locs (cells + 1) (slots + N) rl B S hF (M.push hq ?_ ?_ ?_) (by show cells + 1 + b1 ≤ R.cells; omega) (by show slots + N + b2 ≤ R.slots; omega) L
  · rw [Array.size_push, hsz]
  · intro x hx
    rw [Array.getElem?_push, if_neg (by omega)]
  · rw [cE_ref (G := alG G q 14 N) (k := 14) (if_pos rfl) (by omega), show gN (alG G q 14 N) q = N from if_pos rfl]
    show (Array.push H _)[q]? = some (vp_cell _ _)
    rw [vp_cell_q, ← hsz, Array.getElem?_push_size, arrV_new]
    congr 2
    funext j
    rw [alG_R, if_pos rfl]
    rfl
theorem Ex_anewSh {n : Int32} {N : Nat} (hd : Dc cc pc 3 pc' (.anewarray ix)) (hw : Cond.classLink own ix RX3 ∈ gtbl) (hn : n = nI N) (hN : N < 65536) (hq : n0 T + gS G = q) (k : Ex T own cc nL d F pc' ls (.ref q :: st) (zI I q) (alG G q 15 N) (b1, b2)) : Ex T own cc nL d F pc ls (.int n :: st) I G (b1 + 1, b2 + N) := by
  intro p l e R s m args below meth c Z H locs cells slots rl B S hF M h1 h2 L
  obtain ⟨hd, rfl⟩ := hd
  have h1' : cells + (b1 + 1) ≤ R.cells := h1
  have h2' : slots + (b2 + N) ≤ R.slots := h2
  subst hn
  have hcl : (nI N).toNatClampNeg = N := nI_clamp (by omega)
  have hsz := M.1.trans hq
  refine W.anew B.1 B.2.1 B.2.2.2.1 (B.2.2.2.2.1 _ hw) (va_AO.use (S.2.2.2.1 15 (by omega) (by omega))) rfl hd rfl (nI_pos (by omega)) (by rw [hcl]; omega) (by omega) (by rw [hcl]; omega) fun cA kA comp f1 f2 f3 f4 => ?_
  obtain ⟨kA', comp', -, -, -, g4⟩ := (S.2.1 15 (by omega) (by omega)).2
  have hcA : cA = tC T 15 := Option.some.inj (f1.symm.trans g4)
  subst hcA
  rw [hcl, hsz]
  refine k p l e R s m args below meth c Z _ locs (cells + 1) (slots + N) rl B S hF (M.push hq ?_ ?_ ?_) (by show cells + 1 + b1 ≤ R.cells; omega) (by show slots + N + b2 ≤ R.slots; omega) L
  · rw [Array.size_push, hsz]
  · intro x hx
    rw [Array.getElem?_push, if_neg (by omega)]
  · rw [cE_ref (G := alG G q 15 N) (k := 15) (if_pos rfl) (by omega), show gN (alG G q 15 N) q = N from if_pos rfl]
    show (Array.push H _)[q]? = some (vp_cell _ _)
    rw [vp_cell_q, ← hsz, Array.getElem?_push_size, arrV_new]
    congr 2
    funext j
    rw [alG_R, if_pos rfl]
    rfl
theorem Ex_anewSl {n : Int32} {N : Nat} (hd : Dc cc pc 3 pc' (.anewarray ix)) (hw : Cond.classLink own ix RX4 ∈ gtbl) (hn : n = nI N) (hN : N < 65536) (hq : n0 T + gS G = q) (k : Ex T own cc nL d F pc' ls (.ref q :: st) (zI I q) (alG G q 16 N) (b1, b2)) : Ex T own cc nL d F pc ls (.int n :: st) I G (b1 + 1, b2 + N) := by
  intro p l e R s m args below meth c Z H locs cells slots rl B S hF M h1 h2 L
  obtain ⟨hd, rfl⟩ := hd
  have h1' : cells + (b1 + 1) ≤ R.cells := h1
  have h2' : slots + (b2 + N) ≤ R.slots := h2
  subst hn
  have hcl : (nI N).toNatClampNeg = N := nI_clamp (by omega)
  have hsz := M.1.trans hq
  refine W.anew B.1 B.2.1 B.2.2.2.1 (B.2.2.2.2.1 _ hw) (va_AO.use (S.2.2.2.1 16 (by omega) (by omega))) rfl hd rfl (nI_pos (by omega)) (by rw [hcl]; omega) (by omega) (by rw [hcl]; omega) fun cA kA comp f1 f2 f3 f4 => ?_
  obtain ⟨kA', comp', -, -, -, g4⟩ := (S.2.1 16 (by omega) (by omega)).2
  have hcA : cA = tC T 16 := Option.some.inj (f1.symm.trans g4)
  subst hcA
  rw [hcl, hsz]
  refine k p l e R s m args below meth c Z _ locs (cells + 1) (slots + N) rl B S hF (M.push hq ?_ ?_ ?_) (by show cells + 1 + b1 ≤ R.cells; omega) (by show slots + N + b2 ≤ R.slots; omega) L
  · rw [Array.size_push, hsz]
  · intro x hx
    rw [Array.getElem?_push, if_neg (by omega)]
  · rw [cE_ref (G := alG G q 16 N) (k := 16) (if_pos rfl) (by omega), show gN (alG G q 16 N) q = N from if_pos rfl]
    show (Array.push H _)[q]? = some (vp_cell _ _)
    rw [vp_cell_q, ← hsz, Array.getElem?_push_size, arrV_new]
    congr 2
    funext j
    rw [alG_R, if_pos rfl]
    rfl
theorem Ex_anewTe {n : Int32} {N : Nat} (hd : Dc cc pc 3 pc' (.anewarray ix)) (hw : Cond.classLink own ix RX7 ∈ gtbl) (hn : n = nI N) (hN : N < 65536) (hq : n0 T + gS G = q) (k : Ex T own cc nL d F pc' ls (.ref q :: st) (zI I q) (alG G q 17 N) (b1, b2)) : Ex T own cc nL d F pc ls (.int n :: st) I G (b1 + 1, b2 + N) := by
  intro p l e R s m args below meth c Z H locs cells slots rl B S hF M h1 h2 L
  obtain ⟨hd, rfl⟩ := hd
  have h1' : cells + (b1 + 1) ≤ R.cells := h1
  have h2' : slots + (b2 + N) ≤ R.slots := h2
  subst hn
  have hcl : (nI N).toNatClampNeg = N := nI_clamp (by omega)
  have hsz := M.1.trans hq
  refine W.anew B.1 B.2.1 B.2.2.2.1 (B.2.2.2.2.1 _ hw) (va_AO.use (S.2.2.2.1 17 (by omega) (by omega))) rfl hd rfl (nI_pos (by omega)) (by rw [hcl]; omega) (by omega) (by rw [hcl]; omega) fun cA kA comp f1 f2 f3 f4 => ?_
  obtain ⟨kA', comp', -, -, -, g4⟩ := (S.2.1 17 (by omega) (by omega)).2
  have hcA : cA = tC T 17 := Option.some.inj (f1.symm.trans g4)
  subst hcA
  rw [hcl, hsz]
  refine k p l e R s m args below meth c Z _ locs (cells + 1) (slots + N) rl B S hF (M.push hq ?_ ?_ ?_) (by show cells + 1 + b1 ≤ R.cells; omega) (by show slots + N + b2 ≤ R.slots; omega) L
  · rw [Array.size_push, hsz]
  · intro x hx
    rw [Array.getElem?_push, if_neg (by omega)]
  · rw [cE_ref (G := alG G q 17 N) (k := 17) (if_pos rfl) (by omega), show gN (alG G q 17 N) q = N from if_pos rfl]
    show (Array.push H _)[q]? = some (vp_cell _ _)
    rw [vp_cell_q, ← hsz, Array.getElem?_push_size, arrV_new]
    congr 2
    funext j
    rw [alG_R, if_pos rfl]
    rfl
/-- Object's own constructor -/
theorem Ex_objInit {a : Nat} (hd : Dc cc pc 3 pc' (.invokespecial ix)) (hw : Cond.methodLink own ix objectInit ∈ gtbl) (hi : Cond.instanceMethod objectInit ∈ gtbl) (hco : Cond.code objectInit ⟨#[0xb1]⟩ 1 none ∈ gtbl) (hcat : (st.map fun v => v.category).sum ≤ 8) (k : Ex T own cc nL (d + 1) F pc' ls st I G b) : Ex T own cc nL (d + 1) F pc ls (.ref a :: st) I G b := by
  intro p l e R s m args below meth c Z H locs cells slots rl B S hF M h1 h2 L
  obtain ⟨hd, rfl⟩ := hd
  have hts := B.2.2.2.2.1
  have hfr := B.2.2.2.2.2.1
  have hlo := B.2.2.2.2.2.2
  have hro := lv_room (m := m) (pc := pc) (ls := rl) (rest := .ref a :: st) hcat
  exact W.objInit (g := F0 m pc rl (.ref a :: st)) B.1 B.2.1 B.2.2.2.1 (hts _ hw) (hts _ hi) (hts _ hco) rfl (by rw [B.2.2.1]; exact L.1) rfl hd (by omega) (by omega) (k p l e R s m args below meth c Z H locs cells slots rl B S hF M h1 h2 L)
theorem gm_min : (Cond.static Lib.Math.min.name ∈ gtbl ∧ Cond.initialized "java/lang/Math" ∈ gtbl) ∧ Cond.code Lib.Math.min.name Lib.Math.min.code 2 (some .int) ∈ gtbl := ⟨⟨gt 326 (by decide +kernel) rfl, gt 11 (by decide +kernel) rfl⟩, gt 327 (by decide +kernel) rfl⟩
theorem Ex_min {x y : Int32} (hd : Dc cc pc 3 pc' (.invokestatic ix)) (hw : Cond.methodLink own ix Lib.Math.min.name ∈ gtbl) (hcat : (st.map fun v => v.category).sum ≤ 8) (k : Ex T own cc nL (d + 1) F pc' ls (.int (if y < x then y else x) :: st) I G b) : Ex T own cc nL (d + 1) F pc ls (.int y :: .int x :: st) I G b := by
  intro p l e R s m args below meth c Z H locs cells slots rl B S hF M h1 h2 L
  obtain ⟨hd, rfl⟩ := hd
  have hts := B.2.2.2.2.1
  have hfr := B.2.2.2.2.2.1
  have hlo := B.2.2.2.2.2.2
  exact va_mmin B.1 B.2.1 (by rw [B.2.2.1]; exact L.1.symm) B.2.2.2.1 (hts _ hw) (hts _ gm_min.1.1) (hts _ gm_min.1.2) (hts _ gm_min.2) (by omega) (by omega) (by omega) (by omega) hd (k p l e R s m args below meth c Z H locs cells slots rl B S hF M h1 h2 L)
theorem gm_max : (Cond.static Lib.Math.max.name ∈ gtbl ∧ Cond.initialized "java/lang/Math" ∈ gtbl) ∧ Cond.code Lib.Math.max.name Lib.Math.max.code 2 (some .int) ∈ gtbl := ⟨⟨gt 329 (by decide +kernel) rfl, gt 11 (by decide +kernel) rfl⟩, gt 330 (by decide +kernel) rfl⟩
theorem Ex_max {x y : Int32} (hd : Dc cc pc 3 pc' (.invokestatic ix)) (hw : Cond.methodLink own ix Lib.Math.max.name ∈ gtbl) (hcat : (st.map fun v => v.category).sum ≤ 8) (k : Ex T own cc nL (d + 1) F pc' ls (.int (if x < y then y else x) :: st) I G b) : Ex T own cc nL (d + 1) F pc ls (.int y :: .int x :: st) I G b := by
  intro p l e R s m args below meth c Z H locs cells slots rl B S hF M h1 h2 L
  obtain ⟨hd, rfl⟩ := hd
  have hts := B.2.2.2.2.1
  have hfr := B.2.2.2.2.2.1
  have hlo := B.2.2.2.2.2.2
  exact va_mmax B.1 B.2.1 (by rw [B.2.2.1]; exact L.1.symm) B.2.2.2.1 (hts _ hw) (hts _ gm_max.1.1) (hts _ gm_max.1.2) (hts _ gm_max.2) (by omega) (by omega) (by omega) (by omega) hd (k p l e R s m args below meth c Z H locs cells slots rl B S hF M h1 h2 L)
theorem gm_abs : (Cond.static Lib.Math.abs.name ∈ gtbl ∧ Cond.initialized "java/lang/Math" ∈ gtbl) ∧ Cond.code Lib.Math.abs.name Lib.Math.abs.code 1 (some .int) ∈ gtbl := ⟨⟨gt 592 (by decide +kernel) rfl, gt 11 (by decide +kernel) rfl⟩, gt 593 (by decide +kernel) rfl⟩
theorem Ex_abs {x : Int32} (hd : Dc cc pc 3 pc' (.invokestatic ix)) (hw : Cond.methodLink own ix Lib.Math.abs.name ∈ gtbl) (hcat : (st.map fun v => v.category).sum ≤ 8) (k : Ex T own cc nL (d + 1) F pc' ls (.int (if 0 ≤ x then x else 0 - x) :: st) I G b) : Ex T own cc nL (d + 1) F pc ls (.int x :: st) I G b := by
  intro p l e R s m args below meth c Z H locs cells slots rl B S hF M h1 h2 L
  obtain ⟨hd, rfl⟩ := hd
  have hts := B.2.2.2.2.1
  have hfr := B.2.2.2.2.2.1
  have hlo := B.2.2.2.2.2.2
  exact va_mabs B.1 B.2.1 (by rw [B.2.2.1]; exact L.1.symm) B.2.2.2.1 (hts _ hw) (hts _ gm_abs.1.1) (hts _ gm_abs.1.2) (hts _ gm_abs.2) (by omega) (by omega) (by omega) (by omega) hd (k p l e R s m args below meth c Z H locs cells slots rl B S hF M h1 h2 L)
theorem gm_copy : (Cond.static arraycopyName ∈ gtbl ∧ Cond.initialized "java/lang/System" ∈ gtbl) ∧ Cond.native arraycopyName ∈ gtbl := ⟨⟨gt 378 (by decide +kernel) rfl, gt 12 (by decide +kernel) rfl⟩, gt 379 (by decide +kernel) rfl⟩
def cpyI (I : MI) (a0 a sp dp n : Nat) : MI := fun x => if x = a then va_cpy (I a0) (I a) sp dp n else I x
theorem cpyI_s {I : MI} {a0 a sp dp n : Nat} : cpyI I a0 a sp dp n a = va_cpy (I a0) (I a) sp dp n := if_pos rfl
theorem cpyI_n {I : MI} {a0 a sp dp n x : Nat} (h : x ≠ a) : cpyI I a0 a sp dp n x = I x := if_neg h
theorem Ex_copy {a0 a sp dp n : Nat} {x1 x2 x3 : Int32} (hd : Dc cc pc 3 pc' (.invokestatic ix)) (hw : Cond.methodLink own ix arraycopyName ∈ gtbl) (hcat : (st.map fun v => v.category).sum ≤ 8) (ha0 : Is T G a0 10) (ha : Is T G a 10) (e1 : x1 = nI sp) (e2 : x2 = nI dp) (e3 : x3 = nI n) (g1 : sp + n ≤ gN G a0) (g2 : dp + n ≤ gN G a) (g3 : gN G a0 < 2 ^ 31) (g4 : gN G a < 2 ^ 31)
    (k : Ex T own cc nL (d + 1) F pc' ls st (cpyI I a0 a sp dp n) G b) : Ex T own cc nL (d + 1) F pc ls (.int x3 :: .int x2 :: .ref a :: .int x1 :: .ref a0 :: st) I G b := by
  intro p l e R s m args below meth c Z H locs cells slots rl B S hF M h1 h2 L
  obtain ⟨hd, rfl⟩ := hd
  have hts := B.2.2.2.2.1
  have hfr := B.2.2.2.2.2.1
  have hlo := B.2.2.2.2.2.2
  have c1 : x1.toNatClampNeg = sp := by rw [e1]; exact nI_clamp (by omega)
  have c2 : x2.toNatClampNeg = dp := by rw [e2]; exact nI_clamp (by omega)
  have c3 : x3.toNatClampNeg = n := by rw [e3]; exact nI_clamp (by omega)
  have p1 : ¬ x1 < 0 := by rw [e1]; exact nI_pos (by omega)
  have p2 : ¬ x2 < 0 := by rw [e2]; exact nI_pos (by omega)
  have p3 : ¬ x3 < 0 := by rw [e3]; exact nI_pos (by omega)
  have i1 : x1.toInt = (sp : Int) := by rw [e1]; exact nI_toInt (by omega)
  have i2 : x2.toInt = (dp : Int) := by rw [e2]; exact nI_toInt (by omega)
  have i3 : x3.toInt = (n : Int) := by rw [e3]; exact nI_toInt (by omega)
  have hc0 := M.at ha0
  rw [cE_int (k := 10) ha0.1 (by omega) (by omega)] at hc0
  have hc1 := M.at ha
  rw [cE_int (k := 10) ha.1 (by omega) (by omega)] at hc1
  have hc0 : H[a0]? = some (vp_cell (tC T 10) (gN G a0, .inl (I a0))) := hc0
  have hc1 : H[a]? = some (vp_cell (tC T 10) (gN G a, .inl (I a))) := hc1
  have hAr : ArrOfT s (tC T 10) .int := (S.2.1 10 (by omega) (by omega)).1
  obtain ⟨-, k0, hk0, cm0, hkk0⟩ := hAr (gN G a0) (fun j => .int (I a0 j))
  obtain ⟨-, k1, hk1, cm1, hkk1⟩ := hAr (gN G a) (fun j => .int (I a j))
  intro T0 hT X
  have hnat : nativeFrameWords "java/lang/System" "arraycopy" 5 + 11 ≤ 56 := by decide
  obtain ⟨vm', X', step⟩ := X.arraycopy B.1 B.2.2.2.1 (hts _ hw) (hts _ gm_copy.2) (hts _ gm_copy.1.1) (hts _ gm_copy.1.2) (src := a0) (dst := a) (cs := vp_cell (tC T 10) (gN G a0, .inl (I a0))) (cd := vp_cell (tC T 10) (gN G a, .inl (I a))) (srcPos := x1) (destPos := x2) (n := x3) (by rw [hT]; exact hc0) (by rw [hT]; exact hc1)
    (fun _ h => by cases h) (fun _ h => by cases h) (fun h => by cases h) (fun h => by cases h) hk0 hk1 hkk0 hkk1 (by simp [refKind]) p1 p2 p3
    (by rw [i1, i3]; show ¬ _ > ((arrV (tC T 10) (gN G a0) (fun j => .int (I a0 j))).slots.size : Int); rw [arrV_size]; omega)
    (by rw [i2, i3]; show ¬ _ > ((arrV (tC T 10) (gN G a) (fun j => .int (I a j))).slots.size : Int); rw [arrV_size]; omega)
    (fun vm₁ _ i hi => by
      have e : (vp_cell (tC T 10) (gN G a0, .inl (I a0))).slots.getD (x1.toNatClampNeg + i) .null = .int (I a0 (x1.toNatClampNeg + i)) := by
        show (arrV (tC T 10) (gN G a0) (fun j => .int (I a0 j))).slots.getD _ _ = _
        rw [Array.getD_eq_getD_getElem?, arrV_read _ _ (by rw [c1]; rw [c3] at hi; omega)]
        rfl
      refine ⟨?_, ?_⟩
      · rw [e]
        rfl
      · rw [e]
        exact trivial)
    (g := F0 m pc rl (.int x3 :: .int x2 :: .ref a :: .int x1 :: .ref a0 :: st)) rfl (by rw [B.2.2.1]; exact L.1) (rest := st) rfl (by rw [B.2.1]; exact hd) (by omega) (by show 2 * 0 + _ + _ ≤ _; omega)
  have eC : copied (vp_cell (tC T 10) (gN G a0, .inl (I a0))) (vp_cell (tC T 10) (gN G a, .inl (I a))) x1 x2 x3 = vp_cell (tC T 10) (gN G a, .inl (va_cpy (I a0) (I a) x1.toNatClampNeg x2.toNatClampNeg x3.toNatClampNeg)) := va_copied (fun z => .int z) (tC T 10) (tC T 10) (I a0) (I a) (by rw [c1, c3]; exact g1)
  rw [eC, c1, c2, c3] at X'
  rw [eC, c1, c2, c3] at step
  have hl : a < H.size := (Array.getElem?_eq_some_iff.mp hc1).1
  have hheap : ((T0.setVm vm').setCell a (vp_cell (tC T 10) (gN G a, .inl (va_cpy (I a0) (I a) sp dp n)))).heap = H.setIfInBounds a (vp_cell (tC T 10) (gN G a, .inl (va_cpy (I a0) (I a) sp dp n))) := by rw [← hT]; rfl
  have oq : ∀ q : Nat, q ≠ a → (H.setIfInBounds a (vp_cell (tC T 10) (gN G a, .inl (va_cpy (I a0) (I a) sp dp n))))[q]? = H[q]? := fun q hq => by simp [Array.getElem?_setIfInBounds, Ne.symm hq]
  have M1 : Mem T (cpyI I a0 a sp dp n) G (H.setIfInBounds a (vp_cell (tC T 10) (gN G a, .inl (va_cpy (I a0) (I a) sp dp n)))) (locs ++ [⟨a, 0⟩]) := by
    refine M.upd rfl ha.2.1 ha.2.2 (by simp) oq ?_ ?_
    · rw [cE_int (k := 10) ha.1 (by omega) (by omega), cpyI_s]
      show (H.setIfInBounds a _)[a]? = some (vp_cell _ _)
      simp [Array.getElem?_setIfInBounds, hl]
    · intro x hx
      unfold cE arE flds fv
      rw [cpyI_n hx]
  have KK := fun (l2 : List Loc) (hl2 : ∀ q ∈ l2, aT T q.base) => k p l e R s m args below meth c Z _ l2 cells slots rl B S hF (M1.locs hl2) h1 h2 L
  obtain ⟨t, a1, a2⟩ := KK _ (by
    intro q hq
    rcases List.mem_append.mp hq with h | h
    · exact M.2.2.2.2 q h
    · obtain ⟨z, -, hz⟩ := List.mem_map.mp h
      rw [← hz]
      exact ha.2.1) _ hheap X'
  exact ⟨t, step t a1, a2⟩
end M6
