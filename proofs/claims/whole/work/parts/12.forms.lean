/-! call rules by the number of values -/
def OkI (T : TC) (Y : YD) (d : Nat) (as : List Value) (I : MI) (G : MG) (Q : Int32 → MI → MG → Prop) : Prop := Ok T Y d 0 0 as I G (fun v I' G' => ∃ r, v = some (.int r) ∧ Q r I' G')
def OkV (T : TC) (Y : YD) (d : Nat) (as : List Value) (I : MI) (G : MG) (Q : MI → MG → Prop) : Prop := Ok T Y d 0 0 as I G (fun v I' G' => v = none ∧ Q I' G')
def OkP (T : TC) (Y : YD) (d : Nat) (as : List Value) (I : MI) (G : MG) (r : Int32) : Prop := OkI T Y d as I G (fun r' I' G' => r' = r ∧ I' = I ∧ G' = G)
/-- a reference or null, memory as it was -/
def OkR (T : TC) (Y : YD) (d : Nat) (as : List Value) (I : MI) (G : MG) (r : Option Nat) : Prop := Ok T Y d 0 0 as I G (fun v I' G' => v = some (va_rf r) ∧ I' = I ∧ G' = G)
def VC (own : String) (ix n ci : Nat) (Y : YD) : Prop := VS own ix n Y ∧ ci < 10 ∧ fC ci = Y.1.cls
theorem OkI.mono {T : TC} {Y : YD} {d : Nat} {as : List Value} {I : MI} {G : MG} {Q Q' : Int32 → MI → MG → Prop} (h : OkI T Y d as I G Q) (hq : ∀ r I' G', Q r I' G' → Q' r I' G') : OkI T Y d as I G Q' := Ok.mono h (fun _ I' G' h => h.elim fun r h => ⟨r, h.1, hq r I' G' h.2⟩)
theorem OkV.mono {T : TC} {Y : YD} {d : Nat} {as : List Value} {I : MI} {G : MG} {Q Q' : MI → MG → Prop} (h : OkV T Y d as I G Q) (hq : ∀ I' G', Q I' G' → Q' I' G') : OkV T Y d as I G Q' := Ok.mono h (fun _ I' G' h => ⟨h.1, hq I' G' h.2⟩)
section M7
variable {T : TC} {own : String} {cc : ByteArray} {nL d pc pc' ix b1 b2 mc ms : Nat} {F : FinT} {ls : List (Option Value)} {st : List Value} {I : MI} {G : MG} {b : Nat × Nat} {a ci : Nat} {Y : YD} {x1 x2 x3 x4 x5 x6 : Value} {Qi : Int32 → MI → MG → Prop} {Qv : MI → MG → Prop} {r : Int32} {ro : Option Nat} {Q : Option Value → MI → MG → Prop}
theorem Ex_V0i (hd : Dc cc pc 3 pc' (.invokevirtual ix)) (hs : VC own ix 0 ci Y) (ha : Is T G a ci)  (hcat : (st.map fun v => v.category).sum ≤ 8) (hOk : OkI T Y d [.ref a] I G Qi) (k : ∀ r I' G', Qi r I' G' → Ex T own cc nL (d + 1) F pc' ls (.int r :: st) I' G' b) : Ex T own cc nL (d + 1) F pc ls (.ref a :: st) I G b := by
  have K : Ex T own cc nL (d + 1) F pc ls (.ref a :: st) I G (b.1 + 0, b.2 + 0) := Ex_callV (As := []) (mc := 0) (ms := 0) (b1 := b.1) (b2 := b.2) hd hs.1 hs.2.1 hs.2.2 ha rfl rfl hcat hOk (fun _ I' G' h => h.elim fun r h => by obtain ⟨rfl, h⟩ := h; exact k r I' G' h)
  exact K
theorem Ex_V0v (hd : Dc cc pc 3 pc' (.invokevirtual ix)) (hs : VC own ix 0 ci Y) (ha : Is T G a ci)  (hcat : (st.map fun v => v.category).sum ≤ 8) (hOk : OkV T Y d [.ref a] I G Qv) (k : ∀ I' G', Qv I' G' → Ex T own cc nL (d + 1) F pc' ls st I' G' b) : Ex T own cc nL (d + 1) F pc ls (.ref a :: st) I G b := by
  have K : Ex T own cc nL (d + 1) F pc ls (.ref a :: st) I G (b.1 + 0, b.2 + 0) := Ex_callV (As := []) (mc := 0) (ms := 0) (b1 := b.1) (b2 := b.2) hd hs.1 hs.2.1 hs.2.2 ha rfl rfl hcat hOk (fun _ I' G' h => by obtain ⟨rfl, h⟩ := h; exact k I' G' h)
  exact K
theorem Ex_V0p (hd : Dc cc pc 3 pc' (.invokevirtual ix)) (hs : VC own ix 0 ci Y) (ha : Is T G a ci)  (hcat : (st.map fun v => v.category).sum ≤ 8) (hOk : OkP T Y d [.ref a] I G r) (k : Ex T own cc nL (d + 1) F pc' ls (.int r :: st) I G b) : Ex T own cc nL (d + 1) F pc ls (.ref a :: st) I G b := by
  have K : Ex T own cc nL (d + 1) F pc ls (.ref a :: st) I G (b.1 + 0, b.2 + 0) := Ex_callV (As := []) (mc := 0) (ms := 0) (b1 := b.1) (b2 := b.2) hd hs.1 hs.2.1 hs.2.2 ha rfl rfl hcat hOk (fun _ I' G' h => h.elim fun r' h => by obtain ⟨rfl, rfl, rfl, rfl⟩ := h; exact k)
  exact K
theorem Ex_V0r (hd : Dc cc pc 3 pc' (.invokevirtual ix)) (hs : VC own ix 0 ci Y) (ha : Is T G a ci)  (hcat : (st.map fun v => v.category).sum ≤ 8) (hOk : OkR T Y d [.ref a] I G ro) (k : Ex T own cc nL (d + 1) F pc' ls (va_rf ro :: st) I G b) : Ex T own cc nL (d + 1) F pc ls (.ref a :: st) I G b := by
  have K : Ex T own cc nL (d + 1) F pc ls (.ref a :: st) I G (b.1 + 0, b.2 + 0) := Ex_callV (As := []) (mc := 0) (ms := 0) (b1 := b.1) (b2 := b.2) hd hs.1 hs.2.1 hs.2.2 ha rfl rfl hcat hOk (fun _ I' G' h => by obtain ⟨rfl, rfl, rfl⟩ := h; exact k)
  exact K
theorem Ex_V1i (hd : Dc cc pc 3 pc' (.invokevirtual ix)) (hs : VC own ix 1 ci Y) (ha : Is T G a ci)  (hcat : (st.map fun v => v.category).sum ≤ 8) (hOk : OkI T Y d [.ref a, x1] I G Qi) (k : ∀ r I' G', Qi r I' G' → Ex T own cc nL (d + 1) F pc' ls (.int r :: st) I' G' b) : Ex T own cc nL (d + 1) F pc ls (x1 :: .ref a :: st) I G b := by
  have K : Ex T own cc nL (d + 1) F pc ls (x1 :: .ref a :: st) I G (b.1 + 0, b.2 + 0) := Ex_callV (As := [x1]) (mc := 0) (ms := 0) (b1 := b.1) (b2 := b.2) hd hs.1 hs.2.1 hs.2.2 ha rfl rfl hcat hOk (fun _ I' G' h => h.elim fun r h => by obtain ⟨rfl, h⟩ := h; exact k r I' G' h)
  exact K
theorem Ex_V1v (hd : Dc cc pc 3 pc' (.invokevirtual ix)) (hs : VC own ix 1 ci Y) (ha : Is T G a ci)  (hcat : (st.map fun v => v.category).sum ≤ 8) (hOk : OkV T Y d [.ref a, x1] I G Qv) (k : ∀ I' G', Qv I' G' → Ex T own cc nL (d + 1) F pc' ls st I' G' b) : Ex T own cc nL (d + 1) F pc ls (x1 :: .ref a :: st) I G b := by
  have K : Ex T own cc nL (d + 1) F pc ls (x1 :: .ref a :: st) I G (b.1 + 0, b.2 + 0) := Ex_callV (As := [x1]) (mc := 0) (ms := 0) (b1 := b.1) (b2 := b.2) hd hs.1 hs.2.1 hs.2.2 ha rfl rfl hcat hOk (fun _ I' G' h => by obtain ⟨rfl, h⟩ := h; exact k I' G' h)
  exact K
theorem Ex_V1p (hd : Dc cc pc 3 pc' (.invokevirtual ix)) (hs : VC own ix 1 ci Y) (ha : Is T G a ci)  (hcat : (st.map fun v => v.category).sum ≤ 8) (hOk : OkP T Y d [.ref a, x1] I G r) (k : Ex T own cc nL (d + 1) F pc' ls (.int r :: st) I G b) : Ex T own cc nL (d + 1) F pc ls (x1 :: .ref a :: st) I G b := by
  have K : Ex T own cc nL (d + 1) F pc ls (x1 :: .ref a :: st) I G (b.1 + 0, b.2 + 0) := Ex_callV (As := [x1]) (mc := 0) (ms := 0) (b1 := b.1) (b2 := b.2) hd hs.1 hs.2.1 hs.2.2 ha rfl rfl hcat hOk (fun _ I' G' h => h.elim fun r' h => by obtain ⟨rfl, rfl, rfl, rfl⟩ := h; exact k)
  exact K
theorem Ex_V1r (hd : Dc cc pc 3 pc' (.invokevirtual ix)) (hs : VC own ix 1 ci Y) (ha : Is T G a ci)  (hcat : (st.map fun v => v.category).sum ≤ 8) (hOk : OkR T Y d [.ref a, x1] I G ro) (k : Ex T own cc nL (d + 1) F pc' ls (va_rf ro :: st) I G b) : Ex T own cc nL (d + 1) F pc ls (x1 :: .ref a :: st) I G b := by
  have K : Ex T own cc nL (d + 1) F pc ls (x1 :: .ref a :: st) I G (b.1 + 0, b.2 + 0) := Ex_callV (As := [x1]) (mc := 0) (ms := 0) (b1 := b.1) (b2 := b.2) hd hs.1 hs.2.1 hs.2.2 ha rfl rfl hcat hOk (fun _ I' G' h => by obtain ⟨rfl, rfl, rfl⟩ := h; exact k)
  exact K
theorem Ex_V2i (hd : Dc cc pc 3 pc' (.invokevirtual ix)) (hs : VC own ix 2 ci Y) (ha : Is T G a ci)  (hcat : (st.map fun v => v.category).sum ≤ 8) (hOk : OkI T Y d [.ref a, x1, x2] I G Qi) (k : ∀ r I' G', Qi r I' G' → Ex T own cc nL (d + 1) F pc' ls (.int r :: st) I' G' b) : Ex T own cc nL (d + 1) F pc ls (x2 :: x1 :: .ref a :: st) I G b := by
  have K : Ex T own cc nL (d + 1) F pc ls (x2 :: x1 :: .ref a :: st) I G (b.1 + 0, b.2 + 0) := Ex_callV (As := [x1, x2]) (mc := 0) (ms := 0) (b1 := b.1) (b2 := b.2) hd hs.1 hs.2.1 hs.2.2 ha rfl rfl hcat hOk (fun _ I' G' h => h.elim fun r h => by obtain ⟨rfl, h⟩ := h; exact k r I' G' h)
  exact K
theorem Ex_V2v (hd : Dc cc pc 3 pc' (.invokevirtual ix)) (hs : VC own ix 2 ci Y) (ha : Is T G a ci)  (hcat : (st.map fun v => v.category).sum ≤ 8) (hOk : OkV T Y d [.ref a, x1, x2] I G Qv) (k : ∀ I' G', Qv I' G' → Ex T own cc nL (d + 1) F pc' ls st I' G' b) : Ex T own cc nL (d + 1) F pc ls (x2 :: x1 :: .ref a :: st) I G b := by
  have K : Ex T own cc nL (d + 1) F pc ls (x2 :: x1 :: .ref a :: st) I G (b.1 + 0, b.2 + 0) := Ex_callV (As := [x1, x2]) (mc := 0) (ms := 0) (b1 := b.1) (b2 := b.2) hd hs.1 hs.2.1 hs.2.2 ha rfl rfl hcat hOk (fun _ I' G' h => by obtain ⟨rfl, h⟩ := h; exact k I' G' h)
  exact K
theorem Ex_V2p (hd : Dc cc pc 3 pc' (.invokevirtual ix)) (hs : VC own ix 2 ci Y) (ha : Is T G a ci)  (hcat : (st.map fun v => v.category).sum ≤ 8) (hOk : OkP T Y d [.ref a, x1, x2] I G r) (k : Ex T own cc nL (d + 1) F pc' ls (.int r :: st) I G b) : Ex T own cc nL (d + 1) F pc ls (x2 :: x1 :: .ref a :: st) I G b := by
  have K : Ex T own cc nL (d + 1) F pc ls (x2 :: x1 :: .ref a :: st) I G (b.1 + 0, b.2 + 0) := Ex_callV (As := [x1, x2]) (mc := 0) (ms := 0) (b1 := b.1) (b2 := b.2) hd hs.1 hs.2.1 hs.2.2 ha rfl rfl hcat hOk (fun _ I' G' h => h.elim fun r' h => by obtain ⟨rfl, rfl, rfl, rfl⟩ := h; exact k)
  exact K
theorem Ex_V3i (hd : Dc cc pc 3 pc' (.invokevirtual ix)) (hs : VC own ix 3 ci Y) (ha : Is T G a ci)  (hcat : (st.map fun v => v.category).sum ≤ 8) (hOk : OkI T Y d [.ref a, x1, x2, x3] I G Qi) (k : ∀ r I' G', Qi r I' G' → Ex T own cc nL (d + 1) F pc' ls (.int r :: st) I' G' b) : Ex T own cc nL (d + 1) F pc ls (x3 :: x2 :: x1 :: .ref a :: st) I G b := by
  have K : Ex T own cc nL (d + 1) F pc ls (x3 :: x2 :: x1 :: .ref a :: st) I G (b.1 + 0, b.2 + 0) := Ex_callV (As := [x1, x2, x3]) (mc := 0) (ms := 0) (b1 := b.1) (b2 := b.2) hd hs.1 hs.2.1 hs.2.2 ha rfl rfl hcat hOk (fun _ I' G' h => h.elim fun r h => by obtain ⟨rfl, h⟩ := h; exact k r I' G' h)
  exact K
theorem Ex_V3v (hd : Dc cc pc 3 pc' (.invokevirtual ix)) (hs : VC own ix 3 ci Y) (ha : Is T G a ci)  (hcat : (st.map fun v => v.category).sum ≤ 8) (hOk : OkV T Y d [.ref a, x1, x2, x3] I G Qv) (k : ∀ I' G', Qv I' G' → Ex T own cc nL (d + 1) F pc' ls st I' G' b) : Ex T own cc nL (d + 1) F pc ls (x3 :: x2 :: x1 :: .ref a :: st) I G b := by
  have K : Ex T own cc nL (d + 1) F pc ls (x3 :: x2 :: x1 :: .ref a :: st) I G (b.1 + 0, b.2 + 0) := Ex_callV (As := [x1, x2, x3]) (mc := 0) (ms := 0) (b1 := b.1) (b2 := b.2) hd hs.1 hs.2.1 hs.2.2 ha rfl rfl hcat hOk (fun _ I' G' h => by obtain ⟨rfl, h⟩ := h; exact k I' G' h)
  exact K
theorem Ex_V3p (hd : Dc cc pc 3 pc' (.invokevirtual ix)) (hs : VC own ix 3 ci Y) (ha : Is T G a ci)  (hcat : (st.map fun v => v.category).sum ≤ 8) (hOk : OkP T Y d [.ref a, x1, x2, x3] I G r) (k : Ex T own cc nL (d + 1) F pc' ls (.int r :: st) I G b) : Ex T own cc nL (d + 1) F pc ls (x3 :: x2 :: x1 :: .ref a :: st) I G b := by
  have K : Ex T own cc nL (d + 1) F pc ls (x3 :: x2 :: x1 :: .ref a :: st) I G (b.1 + 0, b.2 + 0) := Ex_callV (As := [x1, x2, x3]) (mc := 0) (ms := 0) (b1 := b.1) (b2 := b.2) hd hs.1 hs.2.1 hs.2.2 ha rfl rfl hcat hOk (fun _ I' G' h => h.elim fun r' h => by obtain ⟨rfl, rfl, rfl, rfl⟩ := h; exact k)
  exact K
theorem Ex_V4i (hd : Dc cc pc 3 pc' (.invokevirtual ix)) (hs : VC own ix 4 ci Y) (ha : Is T G a ci)  (hcat : (st.map fun v => v.category).sum ≤ 8) (hOk : OkI T Y d [.ref a, x1, x2, x3, x4] I G Qi) (k : ∀ r I' G', Qi r I' G' → Ex T own cc nL (d + 1) F pc' ls (.int r :: st) I' G' b) : Ex T own cc nL (d + 1) F pc ls (x4 :: x3 :: x2 :: x1 :: .ref a :: st) I G b := by
  have K : Ex T own cc nL (d + 1) F pc ls (x4 :: x3 :: x2 :: x1 :: .ref a :: st) I G (b.1 + 0, b.2 + 0) := Ex_callV (As := [x1, x2, x3, x4]) (mc := 0) (ms := 0) (b1 := b.1) (b2 := b.2) hd hs.1 hs.2.1 hs.2.2 ha rfl rfl hcat hOk (fun _ I' G' h => h.elim fun r h => by obtain ⟨rfl, h⟩ := h; exact k r I' G' h)
  exact K
theorem Ex_V4v (hd : Dc cc pc 3 pc' (.invokevirtual ix)) (hs : VC own ix 4 ci Y) (ha : Is T G a ci)  (hcat : (st.map fun v => v.category).sum ≤ 8) (hOk : OkV T Y d [.ref a, x1, x2, x3, x4] I G Qv) (k : ∀ I' G', Qv I' G' → Ex T own cc nL (d + 1) F pc' ls st I' G' b) : Ex T own cc nL (d + 1) F pc ls (x4 :: x3 :: x2 :: x1 :: .ref a :: st) I G b := by
  have K : Ex T own cc nL (d + 1) F pc ls (x4 :: x3 :: x2 :: x1 :: .ref a :: st) I G (b.1 + 0, b.2 + 0) := Ex_callV (As := [x1, x2, x3, x4]) (mc := 0) (ms := 0) (b1 := b.1) (b2 := b.2) hd hs.1 hs.2.1 hs.2.2 ha rfl rfl hcat hOk (fun _ I' G' h => by obtain ⟨rfl, h⟩ := h; exact k I' G' h)
  exact K
theorem Ex_V4p (hd : Dc cc pc 3 pc' (.invokevirtual ix)) (hs : VC own ix 4 ci Y) (ha : Is T G a ci)  (hcat : (st.map fun v => v.category).sum ≤ 8) (hOk : OkP T Y d [.ref a, x1, x2, x3, x4] I G r) (k : Ex T own cc nL (d + 1) F pc' ls (.int r :: st) I G b) : Ex T own cc nL (d + 1) F pc ls (x4 :: x3 :: x2 :: x1 :: .ref a :: st) I G b := by
  have K : Ex T own cc nL (d + 1) F pc ls (x4 :: x3 :: x2 :: x1 :: .ref a :: st) I G (b.1 + 0, b.2 + 0) := Ex_callV (As := [x1, x2, x3, x4]) (mc := 0) (ms := 0) (b1 := b.1) (b2 := b.2) hd hs.1 hs.2.1 hs.2.2 ha rfl rfl hcat hOk (fun _ I' G' h => h.elim fun r' h => by obtain ⟨rfl, rfl, rfl, rfl⟩ := h; exact k)
  exact K
theorem Ex_V5i (hd : Dc cc pc 3 pc' (.invokevirtual ix)) (hs : VC own ix 5 ci Y) (ha : Is T G a ci)  (hcat : (st.map fun v => v.category).sum ≤ 8) (hOk : OkI T Y d [.ref a, x1, x2, x3, x4, x5] I G Qi) (k : ∀ r I' G', Qi r I' G' → Ex T own cc nL (d + 1) F pc' ls (.int r :: st) I' G' b) : Ex T own cc nL (d + 1) F pc ls (x5 :: x4 :: x3 :: x2 :: x1 :: .ref a :: st) I G b := by
  have K : Ex T own cc nL (d + 1) F pc ls (x5 :: x4 :: x3 :: x2 :: x1 :: .ref a :: st) I G (b.1 + 0, b.2 + 0) := Ex_callV (As := [x1, x2, x3, x4, x5]) (mc := 0) (ms := 0) (b1 := b.1) (b2 := b.2) hd hs.1 hs.2.1 hs.2.2 ha rfl rfl hcat hOk (fun _ I' G' h => h.elim fun r h => by obtain ⟨rfl, h⟩ := h; exact k r I' G' h)
  exact K
theorem Ex_V5v (hd : Dc cc pc 3 pc' (.invokevirtual ix)) (hs : VC own ix 5 ci Y) (ha : Is T G a ci)  (hcat : (st.map fun v => v.category).sum ≤ 8) (hOk : OkV T Y d [.ref a, x1, x2, x3, x4, x5] I G Qv) (k : ∀ I' G', Qv I' G' → Ex T own cc nL (d + 1) F pc' ls st I' G' b) : Ex T own cc nL (d + 1) F pc ls (x5 :: x4 :: x3 :: x2 :: x1 :: .ref a :: st) I G b := by
  have K : Ex T own cc nL (d + 1) F pc ls (x5 :: x4 :: x3 :: x2 :: x1 :: .ref a :: st) I G (b.1 + 0, b.2 + 0) := Ex_callV (As := [x1, x2, x3, x4, x5]) (mc := 0) (ms := 0) (b1 := b.1) (b2 := b.2) hd hs.1 hs.2.1 hs.2.2 ha rfl rfl hcat hOk (fun _ I' G' h => by obtain ⟨rfl, h⟩ := h; exact k I' G' h)
  exact K
theorem Ex_V5p (hd : Dc cc pc 3 pc' (.invokevirtual ix)) (hs : VC own ix 5 ci Y) (ha : Is T G a ci)  (hcat : (st.map fun v => v.category).sum ≤ 8) (hOk : OkP T Y d [.ref a, x1, x2, x3, x4, x5] I G r) (k : Ex T own cc nL (d + 1) F pc' ls (.int r :: st) I G b) : Ex T own cc nL (d + 1) F pc ls (x5 :: x4 :: x3 :: x2 :: x1 :: .ref a :: st) I G b := by
  have K : Ex T own cc nL (d + 1) F pc ls (x5 :: x4 :: x3 :: x2 :: x1 :: .ref a :: st) I G (b.1 + 0, b.2 + 0) := Ex_callV (As := [x1, x2, x3, x4, x5]) (mc := 0) (ms := 0) (b1 := b.1) (b2 := b.2) hd hs.1 hs.2.1 hs.2.2 ha rfl rfl hcat hOk (fun _ I' G' h => h.elim fun r' h => by obtain ⟨rfl, rfl, rfl, rfl⟩ := h; exact k)
  exact K
theorem Ex_V6i (hd : Dc cc pc 3 pc' (.invokevirtual ix)) (hs : VC own ix 6 ci Y) (ha : Is T G a ci)  (hcat : (st.map fun v => v.category).sum ≤ 8) (hOk : OkI T Y d [.ref a, x1, x2, x3, x4, x5, x6] I G Qi) (k : ∀ r I' G', Qi r I' G' → Ex T own cc nL (d + 1) F pc' ls (.int r :: st) I' G' b) : Ex T own cc nL (d + 1) F pc ls (x6 :: x5 :: x4 :: x3 :: x2 :: x1 :: .ref a :: st) I G b := by
  have K : Ex T own cc nL (d + 1) F pc ls (x6 :: x5 :: x4 :: x3 :: x2 :: x1 :: .ref a :: st) I G (b.1 + 0, b.2 + 0) := Ex_callV (As := [x1, x2, x3, x4, x5, x6]) (mc := 0) (ms := 0) (b1 := b.1) (b2 := b.2) hd hs.1 hs.2.1 hs.2.2 ha rfl rfl hcat hOk (fun _ I' G' h => h.elim fun r h => by obtain ⟨rfl, h⟩ := h; exact k r I' G' h)
  exact K
theorem Ex_V6v (hd : Dc cc pc 3 pc' (.invokevirtual ix)) (hs : VC own ix 6 ci Y) (ha : Is T G a ci)  (hcat : (st.map fun v => v.category).sum ≤ 8) (hOk : OkV T Y d [.ref a, x1, x2, x3, x4, x5, x6] I G Qv) (k : ∀ I' G', Qv I' G' → Ex T own cc nL (d + 1) F pc' ls st I' G' b) : Ex T own cc nL (d + 1) F pc ls (x6 :: x5 :: x4 :: x3 :: x2 :: x1 :: .ref a :: st) I G b := by
  have K : Ex T own cc nL (d + 1) F pc ls (x6 :: x5 :: x4 :: x3 :: x2 :: x1 :: .ref a :: st) I G (b.1 + 0, b.2 + 0) := Ex_callV (As := [x1, x2, x3, x4, x5, x6]) (mc := 0) (ms := 0) (b1 := b.1) (b2 := b.2) hd hs.1 hs.2.1 hs.2.2 ha rfl rfl hcat hOk (fun _ I' G' h => by obtain ⟨rfl, h⟩ := h; exact k I' G' h)
  exact K
theorem Ex_V6p (hd : Dc cc pc 3 pc' (.invokevirtual ix)) (hs : VC own ix 6 ci Y) (ha : Is T G a ci)  (hcat : (st.map fun v => v.category).sum ≤ 8) (hOk : OkP T Y d [.ref a, x1, x2, x3, x4, x5, x6] I G r) (k : Ex T own cc nL (d + 1) F pc' ls (.int r :: st) I G b) : Ex T own cc nL (d + 1) F pc ls (x6 :: x5 :: x4 :: x3 :: x2 :: x1 :: .ref a :: st) I G b := by
  have K : Ex T own cc nL (d + 1) F pc ls (x6 :: x5 :: x4 :: x3 :: x2 :: x1 :: .ref a :: st) I G (b.1 + 0, b.2 + 0) := Ex_callV (As := [x1, x2, x3, x4, x5, x6]) (mc := 0) (ms := 0) (b1 := b.1) (b2 := b.2) hd hs.1 hs.2.1 hs.2.2 ha rfl rfl hcat hOk (fun _ I' G' h => h.elim fun r' h => by obtain ⟨rfl, rfl, rfl, rfl⟩ := h; exact k)
  exact K
theorem Ex_S0i (hd : Dc cc pc 3 pc' (.invokestatic ix)) (hs : SS own ix 0 Y)  (hcat : (st.map fun v => v.category).sum ≤ 8) (hOk : OkI T Y d [] I G Qi) (k : ∀ r I' G', Qi r I' G' → Ex T own cc nL (d + 1) F pc' ls (.int r :: st) I' G' b) : Ex T own cc nL (d + 1) F pc ls (st) I G b := by
  have K : Ex T own cc nL (d + 1) F pc ls (st) I G (b.1 + 0, b.2 + 0) := Ex_callS (As := []) (mc := 0) (ms := 0) (b1 := b.1) (b2 := b.2) hd hs rfl rfl hcat hOk (fun _ I' G' h => h.elim fun r h => by obtain ⟨rfl, h⟩ := h; exact k r I' G' h)
  exact K
theorem Ex_S0v (hd : Dc cc pc 3 pc' (.invokestatic ix)) (hs : SS own ix 0 Y)  (hcat : (st.map fun v => v.category).sum ≤ 8) (hOk : OkV T Y d [] I G Qv) (k : ∀ I' G', Qv I' G' → Ex T own cc nL (d + 1) F pc' ls st I' G' b) : Ex T own cc nL (d + 1) F pc ls (st) I G b := by
  have K : Ex T own cc nL (d + 1) F pc ls (st) I G (b.1 + 0, b.2 + 0) := Ex_callS (As := []) (mc := 0) (ms := 0) (b1 := b.1) (b2 := b.2) hd hs rfl rfl hcat hOk (fun _ I' G' h => by obtain ⟨rfl, h⟩ := h; exact k I' G' h)
  exact K
theorem Ex_S0p (hd : Dc cc pc 3 pc' (.invokestatic ix)) (hs : SS own ix 0 Y)  (hcat : (st.map fun v => v.category).sum ≤ 8) (hOk : OkP T Y d [] I G r) (k : Ex T own cc nL (d + 1) F pc' ls (.int r :: st) I G b) : Ex T own cc nL (d + 1) F pc ls (st) I G b := by
  have K : Ex T own cc nL (d + 1) F pc ls (st) I G (b.1 + 0, b.2 + 0) := Ex_callS (As := []) (mc := 0) (ms := 0) (b1 := b.1) (b2 := b.2) hd hs rfl rfl hcat hOk (fun _ I' G' h => h.elim fun r' h => by obtain ⟨rfl, rfl, rfl, rfl⟩ := h; exact k)
  exact K
theorem Ex_S1i (hd : Dc cc pc 3 pc' (.invokestatic ix)) (hs : SS own ix 1 Y)  (hcat : (st.map fun v => v.category).sum ≤ 8) (hOk : OkI T Y d [x1] I G Qi) (k : ∀ r I' G', Qi r I' G' → Ex T own cc nL (d + 1) F pc' ls (.int r :: st) I' G' b) : Ex T own cc nL (d + 1) F pc ls (x1 :: st) I G b := by
  have K : Ex T own cc nL (d + 1) F pc ls (x1 :: st) I G (b.1 + 0, b.2 + 0) := Ex_callS (As := [x1]) (mc := 0) (ms := 0) (b1 := b.1) (b2 := b.2) hd hs rfl rfl hcat hOk (fun _ I' G' h => h.elim fun r h => by obtain ⟨rfl, h⟩ := h; exact k r I' G' h)
  exact K
theorem Ex_S1v (hd : Dc cc pc 3 pc' (.invokestatic ix)) (hs : SS own ix 1 Y)  (hcat : (st.map fun v => v.category).sum ≤ 8) (hOk : OkV T Y d [x1] I G Qv) (k : ∀ I' G', Qv I' G' → Ex T own cc nL (d + 1) F pc' ls st I' G' b) : Ex T own cc nL (d + 1) F pc ls (x1 :: st) I G b := by
  have K : Ex T own cc nL (d + 1) F pc ls (x1 :: st) I G (b.1 + 0, b.2 + 0) := Ex_callS (As := [x1]) (mc := 0) (ms := 0) (b1 := b.1) (b2 := b.2) hd hs rfl rfl hcat hOk (fun _ I' G' h => by obtain ⟨rfl, h⟩ := h; exact k I' G' h)
  exact K
theorem Ex_S1p (hd : Dc cc pc 3 pc' (.invokestatic ix)) (hs : SS own ix 1 Y)  (hcat : (st.map fun v => v.category).sum ≤ 8) (hOk : OkP T Y d [x1] I G r) (k : Ex T own cc nL (d + 1) F pc' ls (.int r :: st) I G b) : Ex T own cc nL (d + 1) F pc ls (x1 :: st) I G b := by
  have K : Ex T own cc nL (d + 1) F pc ls (x1 :: st) I G (b.1 + 0, b.2 + 0) := Ex_callS (As := [x1]) (mc := 0) (ms := 0) (b1 := b.1) (b2 := b.2) hd hs rfl rfl hcat hOk (fun _ I' G' h => h.elim fun r' h => by obtain ⟨rfl, rfl, rfl, rfl⟩ := h; exact k)
  exact K
theorem Ex_S2i (hd : Dc cc pc 3 pc' (.invokestatic ix)) (hs : SS own ix 2 Y)  (hcat : (st.map fun v => v.category).sum ≤ 8) (hOk : OkI T Y d [x1, x2] I G Qi) (k : ∀ r I' G', Qi r I' G' → Ex T own cc nL (d + 1) F pc' ls (.int r :: st) I' G' b) : Ex T own cc nL (d + 1) F pc ls (x2 :: x1 :: st) I G b := by
  have K : Ex T own cc nL (d + 1) F pc ls (x2 :: x1 :: st) I G (b.1 + 0, b.2 + 0) := Ex_callS (As := [x1, x2]) (mc := 0) (ms := 0) (b1 := b.1) (b2 := b.2) hd hs rfl rfl hcat hOk (fun _ I' G' h => h.elim fun r h => by obtain ⟨rfl, h⟩ := h; exact k r I' G' h)
  exact K
theorem Ex_S2v (hd : Dc cc pc 3 pc' (.invokestatic ix)) (hs : SS own ix 2 Y)  (hcat : (st.map fun v => v.category).sum ≤ 8) (hOk : OkV T Y d [x1, x2] I G Qv) (k : ∀ I' G', Qv I' G' → Ex T own cc nL (d + 1) F pc' ls st I' G' b) : Ex T own cc nL (d + 1) F pc ls (x2 :: x1 :: st) I G b := by
  have K : Ex T own cc nL (d + 1) F pc ls (x2 :: x1 :: st) I G (b.1 + 0, b.2 + 0) := Ex_callS (As := [x1, x2]) (mc := 0) (ms := 0) (b1 := b.1) (b2 := b.2) hd hs rfl rfl hcat hOk (fun _ I' G' h => by obtain ⟨rfl, h⟩ := h; exact k I' G' h)
  exact K
theorem Ex_S2p (hd : Dc cc pc 3 pc' (.invokestatic ix)) (hs : SS own ix 2 Y)  (hcat : (st.map fun v => v.category).sum ≤ 8) (hOk : OkP T Y d [x1, x2] I G r) (k : Ex T own cc nL (d + 1) F pc' ls (.int r :: st) I G b) : Ex T own cc nL (d + 1) F pc ls (x2 :: x1 :: st) I G b := by
  have K : Ex T own cc nL (d + 1) F pc ls (x2 :: x1 :: st) I G (b.1 + 0, b.2 + 0) := Ex_callS (As := [x1, x2]) (mc := 0) (ms := 0) (b1 := b.1) (b2 := b.2) hd hs rfl rfl hcat hOk (fun _ I' G' h => h.elim fun r' h => by obtain ⟨rfl, rfl, rfl, rfl⟩ := h; exact k)
  exact K
theorem Ex_S3i (hd : Dc cc pc 3 pc' (.invokestatic ix)) (hs : SS own ix 3 Y)  (hcat : (st.map fun v => v.category).sum ≤ 8) (hOk : OkI T Y d [x1, x2, x3] I G Qi) (k : ∀ r I' G', Qi r I' G' → Ex T own cc nL (d + 1) F pc' ls (.int r :: st) I' G' b) : Ex T own cc nL (d + 1) F pc ls (x3 :: x2 :: x1 :: st) I G b := by
  have K : Ex T own cc nL (d + 1) F pc ls (x3 :: x2 :: x1 :: st) I G (b.1 + 0, b.2 + 0) := Ex_callS (As := [x1, x2, x3]) (mc := 0) (ms := 0) (b1 := b.1) (b2 := b.2) hd hs rfl rfl hcat hOk (fun _ I' G' h => h.elim fun r h => by obtain ⟨rfl, h⟩ := h; exact k r I' G' h)
  exact K
theorem Ex_S3v (hd : Dc cc pc 3 pc' (.invokestatic ix)) (hs : SS own ix 3 Y)  (hcat : (st.map fun v => v.category).sum ≤ 8) (hOk : OkV T Y d [x1, x2, x3] I G Qv) (k : ∀ I' G', Qv I' G' → Ex T own cc nL (d + 1) F pc' ls st I' G' b) : Ex T own cc nL (d + 1) F pc ls (x3 :: x2 :: x1 :: st) I G b := by
  have K : Ex T own cc nL (d + 1) F pc ls (x3 :: x2 :: x1 :: st) I G (b.1 + 0, b.2 + 0) := Ex_callS (As := [x1, x2, x3]) (mc := 0) (ms := 0) (b1 := b.1) (b2 := b.2) hd hs rfl rfl hcat hOk (fun _ I' G' h => by obtain ⟨rfl, h⟩ := h; exact k I' G' h)
  exact K
theorem Ex_S3p (hd : Dc cc pc 3 pc' (.invokestatic ix)) (hs : SS own ix 3 Y)  (hcat : (st.map fun v => v.category).sum ≤ 8) (hOk : OkP T Y d [x1, x2, x3] I G r) (k : Ex T own cc nL (d + 1) F pc' ls (.int r :: st) I G b) : Ex T own cc nL (d + 1) F pc ls (x3 :: x2 :: x1 :: st) I G b := by
  have K : Ex T own cc nL (d + 1) F pc ls (x3 :: x2 :: x1 :: st) I G (b.1 + 0, b.2 + 0) := Ex_callS (As := [x1, x2, x3]) (mc := 0) (ms := 0) (b1 := b.1) (b2 := b.2) hd hs rfl rfl hcat hOk (fun _ I' G' h => h.elim fun r' h => by obtain ⟨rfl, rfl, rfl, rfl⟩ := h; exact k)
  exact K
theorem Ex_S4i (hd : Dc cc pc 3 pc' (.invokestatic ix)) (hs : SS own ix 4 Y)  (hcat : (st.map fun v => v.category).sum ≤ 8) (hOk : OkI T Y d [x1, x2, x3, x4] I G Qi) (k : ∀ r I' G', Qi r I' G' → Ex T own cc nL (d + 1) F pc' ls (.int r :: st) I' G' b) : Ex T own cc nL (d + 1) F pc ls (x4 :: x3 :: x2 :: x1 :: st) I G b := by
  have K : Ex T own cc nL (d + 1) F pc ls (x4 :: x3 :: x2 :: x1 :: st) I G (b.1 + 0, b.2 + 0) := Ex_callS (As := [x1, x2, x3, x4]) (mc := 0) (ms := 0) (b1 := b.1) (b2 := b.2) hd hs rfl rfl hcat hOk (fun _ I' G' h => h.elim fun r h => by obtain ⟨rfl, h⟩ := h; exact k r I' G' h)
  exact K
theorem Ex_S4v (hd : Dc cc pc 3 pc' (.invokestatic ix)) (hs : SS own ix 4 Y)  (hcat : (st.map fun v => v.category).sum ≤ 8) (hOk : OkV T Y d [x1, x2, x3, x4] I G Qv) (k : ∀ I' G', Qv I' G' → Ex T own cc nL (d + 1) F pc' ls st I' G' b) : Ex T own cc nL (d + 1) F pc ls (x4 :: x3 :: x2 :: x1 :: st) I G b := by
  have K : Ex T own cc nL (d + 1) F pc ls (x4 :: x3 :: x2 :: x1 :: st) I G (b.1 + 0, b.2 + 0) := Ex_callS (As := [x1, x2, x3, x4]) (mc := 0) (ms := 0) (b1 := b.1) (b2 := b.2) hd hs rfl rfl hcat hOk (fun _ I' G' h => by obtain ⟨rfl, h⟩ := h; exact k I' G' h)
  exact K
theorem Ex_S4p (hd : Dc cc pc 3 pc' (.invokestatic ix)) (hs : SS own ix 4 Y)  (hcat : (st.map fun v => v.category).sum ≤ 8) (hOk : OkP T Y d [x1, x2, x3, x4] I G r) (k : Ex T own cc nL (d + 1) F pc' ls (.int r :: st) I G b) : Ex T own cc nL (d + 1) F pc ls (x4 :: x3 :: x2 :: x1 :: st) I G b := by
  have K : Ex T own cc nL (d + 1) F pc ls (x4 :: x3 :: x2 :: x1 :: st) I G (b.1 + 0, b.2 + 0) := Ex_callS (As := [x1, x2, x3, x4]) (mc := 0) (ms := 0) (b1 := b.1) (b2 := b.2) hd hs rfl rfl hcat hOk (fun _ I' G' h => h.elim fun r' h => by obtain ⟨rfl, rfl, rfl, rfl⟩ := h; exact k)
  exact K
theorem Ex_S5i (hd : Dc cc pc 3 pc' (.invokestatic ix)) (hs : SS own ix 5 Y)  (hcat : (st.map fun v => v.category).sum ≤ 8) (hOk : OkI T Y d [x1, x2, x3, x4, x5] I G Qi) (k : ∀ r I' G', Qi r I' G' → Ex T own cc nL (d + 1) F pc' ls (.int r :: st) I' G' b) : Ex T own cc nL (d + 1) F pc ls (x5 :: x4 :: x3 :: x2 :: x1 :: st) I G b := by
  have K : Ex T own cc nL (d + 1) F pc ls (x5 :: x4 :: x3 :: x2 :: x1 :: st) I G (b.1 + 0, b.2 + 0) := Ex_callS (As := [x1, x2, x3, x4, x5]) (mc := 0) (ms := 0) (b1 := b.1) (b2 := b.2) hd hs rfl rfl hcat hOk (fun _ I' G' h => h.elim fun r h => by obtain ⟨rfl, h⟩ := h; exact k r I' G' h)
  exact K
theorem Ex_S5v (hd : Dc cc pc 3 pc' (.invokestatic ix)) (hs : SS own ix 5 Y)  (hcat : (st.map fun v => v.category).sum ≤ 8) (hOk : OkV T Y d [x1, x2, x3, x4, x5] I G Qv) (k : ∀ I' G', Qv I' G' → Ex T own cc nL (d + 1) F pc' ls st I' G' b) : Ex T own cc nL (d + 1) F pc ls (x5 :: x4 :: x3 :: x2 :: x1 :: st) I G b := by
  have K : Ex T own cc nL (d + 1) F pc ls (x5 :: x4 :: x3 :: x2 :: x1 :: st) I G (b.1 + 0, b.2 + 0) := Ex_callS (As := [x1, x2, x3, x4, x5]) (mc := 0) (ms := 0) (b1 := b.1) (b2 := b.2) hd hs rfl rfl hcat hOk (fun _ I' G' h => by obtain ⟨rfl, h⟩ := h; exact k I' G' h)
  exact K
theorem Ex_S5p (hd : Dc cc pc 3 pc' (.invokestatic ix)) (hs : SS own ix 5 Y)  (hcat : (st.map fun v => v.category).sum ≤ 8) (hOk : OkP T Y d [x1, x2, x3, x4, x5] I G r) (k : Ex T own cc nL (d + 1) F pc' ls (.int r :: st) I G b) : Ex T own cc nL (d + 1) F pc ls (x5 :: x4 :: x3 :: x2 :: x1 :: st) I G b := by
  have K : Ex T own cc nL (d + 1) F pc ls (x5 :: x4 :: x3 :: x2 :: x1 :: st) I G (b.1 + 0, b.2 + 0) := Ex_callS (As := [x1, x2, x3, x4, x5]) (mc := 0) (ms := 0) (b1 := b.1) (b2 := b.2) hd hs rfl rfl hcat hOk (fun _ I' G' h => h.elim fun r' h => by obtain ⟨rfl, rfl, rfl, rfl⟩ := h; exact k)
  exact K
theorem Ex_S6i (hd : Dc cc pc 3 pc' (.invokestatic ix)) (hs : SS own ix 6 Y)  (hcat : (st.map fun v => v.category).sum ≤ 8) (hOk : OkI T Y d [x1, x2, x3, x4, x5, x6] I G Qi) (k : ∀ r I' G', Qi r I' G' → Ex T own cc nL (d + 1) F pc' ls (.int r :: st) I' G' b) : Ex T own cc nL (d + 1) F pc ls (x6 :: x5 :: x4 :: x3 :: x2 :: x1 :: st) I G b := by
  have K : Ex T own cc nL (d + 1) F pc ls (x6 :: x5 :: x4 :: x3 :: x2 :: x1 :: st) I G (b.1 + 0, b.2 + 0) := Ex_callS (As := [x1, x2, x3, x4, x5, x6]) (mc := 0) (ms := 0) (b1 := b.1) (b2 := b.2) hd hs rfl rfl hcat hOk (fun _ I' G' h => h.elim fun r h => by obtain ⟨rfl, h⟩ := h; exact k r I' G' h)
  exact K
theorem Ex_S6v (hd : Dc cc pc 3 pc' (.invokestatic ix)) (hs : SS own ix 6 Y)  (hcat : (st.map fun v => v.category).sum ≤ 8) (hOk : OkV T Y d [x1, x2, x3, x4, x5, x6] I G Qv) (k : ∀ I' G', Qv I' G' → Ex T own cc nL (d + 1) F pc' ls st I' G' b) : Ex T own cc nL (d + 1) F pc ls (x6 :: x5 :: x4 :: x3 :: x2 :: x1 :: st) I G b := by
  have K : Ex T own cc nL (d + 1) F pc ls (x6 :: x5 :: x4 :: x3 :: x2 :: x1 :: st) I G (b.1 + 0, b.2 + 0) := Ex_callS (As := [x1, x2, x3, x4, x5, x6]) (mc := 0) (ms := 0) (b1 := b.1) (b2 := b.2) hd hs rfl rfl hcat hOk (fun _ I' G' h => by obtain ⟨rfl, h⟩ := h; exact k I' G' h)
  exact K
theorem Ex_S6p (hd : Dc cc pc 3 pc' (.invokestatic ix)) (hs : SS own ix 6 Y)  (hcat : (st.map fun v => v.category).sum ≤ 8) (hOk : OkP T Y d [x1, x2, x3, x4, x5, x6] I G r) (k : Ex T own cc nL (d + 1) F pc' ls (.int r :: st) I G b) : Ex T own cc nL (d + 1) F pc ls (x6 :: x5 :: x4 :: x3 :: x2 :: x1 :: st) I G b := by
  have K : Ex T own cc nL (d + 1) F pc ls (x6 :: x5 :: x4 :: x3 :: x2 :: x1 :: st) I G (b.1 + 0, b.2 + 0) := Ex_callS (As := [x1, x2, x3, x4, x5, x6]) (mc := 0) (ms := 0) (b1 := b.1) (b2 := b.2) hd hs rfl rfl hcat hOk (fun _ I' G' h => h.elim fun r' h => by obtain ⟨rfl, rfl, rfl, rfl⟩ := h; exact k)
  exact K
theorem Ex_N0p (hd : Dc cc pc 3 pc' (.invokestatic ix)) (hs : SNS own ix 0 Y)  (hcat : (st.map fun v => v.category).sum ≤ 8) (hOk : OkP T Y d [] I G r) (k : Ex T own cc nL (d + 1) F pc' ls (.int r :: st) I G b) : Ex T own cc nL (d + 1) F pc ls (st) I G b := by
  have K : Ex T own cc nL (d + 1) F pc ls (st) I G (b.1 + 0, b.2 + 0) := Ex_callSN (As := []) (mc := 0) (ms := 0) (b1 := b.1) (b2 := b.2) hd hs rfl rfl hcat hOk (fun _ I' G' h => h.elim fun r' h => by obtain ⟨rfl, rfl, rfl, rfl⟩ := h; exact k)
  exact K
theorem Ex_N1p (hd : Dc cc pc 3 pc' (.invokestatic ix)) (hs : SNS own ix 1 Y)  (hcat : (st.map fun v => v.category).sum ≤ 8) (hOk : OkP T Y d [x1] I G r) (k : Ex T own cc nL (d + 1) F pc' ls (.int r :: st) I G b) : Ex T own cc nL (d + 1) F pc ls (x1 :: st) I G b := by
  have K : Ex T own cc nL (d + 1) F pc ls (x1 :: st) I G (b.1 + 0, b.2 + 0) := Ex_callSN (As := [x1]) (mc := 0) (ms := 0) (b1 := b.1) (b2 := b.2) hd hs rfl rfl hcat hOk (fun _ I' G' h => h.elim fun r' h => by obtain ⟨rfl, rfl, rfl, rfl⟩ := h; exact k)
  exact K
theorem Ex_N2p (hd : Dc cc pc 3 pc' (.invokestatic ix)) (hs : SNS own ix 2 Y)  (hcat : (st.map fun v => v.category).sum ≤ 8) (hOk : OkP T Y d [x1, x2] I G r) (k : Ex T own cc nL (d + 1) F pc' ls (.int r :: st) I G b) : Ex T own cc nL (d + 1) F pc ls (x2 :: x1 :: st) I G b := by
  have K : Ex T own cc nL (d + 1) F pc ls (x2 :: x1 :: st) I G (b.1 + 0, b.2 + 0) := Ex_callSN (As := [x1, x2]) (mc := 0) (ms := 0) (b1 := b.1) (b2 := b.2) hd hs rfl rfl hcat hOk (fun _ I' G' h => h.elim fun r' h => by obtain ⟨rfl, rfl, rfl, rfl⟩ := h; exact k)
  exact K
theorem Ex_N3p (hd : Dc cc pc 3 pc' (.invokestatic ix)) (hs : SNS own ix 3 Y)  (hcat : (st.map fun v => v.category).sum ≤ 8) (hOk : OkP T Y d [x1, x2, x3] I G r) (k : Ex T own cc nL (d + 1) F pc' ls (.int r :: st) I G b) : Ex T own cc nL (d + 1) F pc ls (x3 :: x2 :: x1 :: st) I G b := by
  have K : Ex T own cc nL (d + 1) F pc ls (x3 :: x2 :: x1 :: st) I G (b.1 + 0, b.2 + 0) := Ex_callSN (As := [x1, x2, x3]) (mc := 0) (ms := 0) (b1 := b.1) (b2 := b.2) hd hs rfl rfl hcat hOk (fun _ I' G' h => h.elim fun r' h => by obtain ⟨rfl, rfl, rfl, rfl⟩ := h; exact k)
  exact K
theorem Ex_I0 (hd : Dc cc pc 3 pc' (.invokespecial ix)) (hs : IS own ix 0 Y) (hcat : (st.map fun v => v.category).sum ≤ 8) (hOk : Ok T Y d mc ms (.ref a :: []) I G (fun v I' G' => v = none ∧ Qv I' G')) (k : ∀ I' G', Qv I' G' → Ex T own cc nL (d + 1) F pc' ls st I' G' (b1, b2)) : Ex T own cc nL (d + 1) F pc ls (.ref a :: st) I G (b1 + mc, b2 + ms) :=
  Ex_callI (As := []) hd hs rfl rfl hcat hOk (fun _ I' G' h => by obtain ⟨rfl, h⟩ := h; exact k I' G' h)
theorem Ex_I1 (hd : Dc cc pc 3 pc' (.invokespecial ix)) (hs : IS own ix 1 Y) (hcat : (st.map fun v => v.category).sum ≤ 8) (hOk : Ok T Y d mc ms (.ref a :: [x1]) I G (fun v I' G' => v = none ∧ Qv I' G')) (k : ∀ I' G', Qv I' G' → Ex T own cc nL (d + 1) F pc' ls st I' G' (b1, b2)) : Ex T own cc nL (d + 1) F pc ls (x1 :: .ref a :: st) I G (b1 + mc, b2 + ms) :=
  Ex_callI (As := [x1]) hd hs rfl rfl hcat hOk (fun _ I' G' h => by obtain ⟨rfl, h⟩ := h; exact k I' G' h)
theorem Ex_I2 (hd : Dc cc pc 3 pc' (.invokespecial ix)) (hs : IS own ix 2 Y) (hcat : (st.map fun v => v.category).sum ≤ 8) (hOk : Ok T Y d mc ms (.ref a :: [x1, x2]) I G (fun v I' G' => v = none ∧ Qv I' G')) (k : ∀ I' G', Qv I' G' → Ex T own cc nL (d + 1) F pc' ls st I' G' (b1, b2)) : Ex T own cc nL (d + 1) F pc ls (x2 :: x1 :: .ref a :: st) I G (b1 + mc, b2 + ms) :=
  Ex_callI (As := [x1, x2]) hd hs rfl rfl hcat hOk (fun _ I' G' h => by obtain ⟨rfl, h⟩ := h; exact k I' G' h)
theorem Ex_I3 (hd : Dc cc pc 3 pc' (.invokespecial ix)) (hs : IS own ix 3 Y) (hcat : (st.map fun v => v.category).sum ≤ 8) (hOk : Ok T Y d mc ms (.ref a :: [x1, x2, x3]) I G (fun v I' G' => v = none ∧ Qv I' G')) (k : ∀ I' G', Qv I' G' → Ex T own cc nL (d + 1) F pc' ls st I' G' (b1, b2)) : Ex T own cc nL (d + 1) F pc ls (x3 :: x2 :: x1 :: .ref a :: st) I G (b1 + mc, b2 + ms) :=
  Ex_callI (As := [x1, x2, x3]) hd hs rfl rfl hcat hOk (fun _ I' G' h => by obtain ⟨rfl, h⟩ := h; exact k I' G' h)
theorem Ex_J0 (hd : Dc cc pc 3 pc' (.invokespecial ix)) (hs : INS own ix 0 Y) (hcat : (st.map fun v => v.category).sum ≤ 8) (hOk : Ok T Y d mc ms (.ref a :: []) I G (fun v I' G' => v = none ∧ Qv I' G')) (k : ∀ I' G', Qv I' G' → Ex T own cc nL (d + 1) F pc' ls st I' G' (b1, b2)) : Ex T own cc nL (d + 1) F pc ls (.ref a :: st) I G (b1 + mc, b2 + ms) :=
  Ex_callIN (As := []) hd hs rfl rfl hcat hOk (fun _ I' G' h => by obtain ⟨rfl, h⟩ := h; exact k I' G' h)
theorem Ex_J1 (hd : Dc cc pc 3 pc' (.invokespecial ix)) (hs : INS own ix 1 Y) (hcat : (st.map fun v => v.category).sum ≤ 8) (hOk : Ok T Y d mc ms (.ref a :: [x1]) I G (fun v I' G' => v = none ∧ Qv I' G')) (k : ∀ I' G', Qv I' G' → Ex T own cc nL (d + 1) F pc' ls st I' G' (b1, b2)) : Ex T own cc nL (d + 1) F pc ls (x1 :: .ref a :: st) I G (b1 + mc, b2 + ms) :=
  Ex_callIN (As := [x1]) hd hs rfl rfl hcat hOk (fun _ I' G' h => by obtain ⟨rfl, h⟩ := h; exact k I' G' h)
theorem Ex_J2 (hd : Dc cc pc 3 pc' (.invokespecial ix)) (hs : INS own ix 2 Y) (hcat : (st.map fun v => v.category).sum ≤ 8) (hOk : Ok T Y d mc ms (.ref a :: [x1, x2]) I G (fun v I' G' => v = none ∧ Qv I' G')) (k : ∀ I' G', Qv I' G' → Ex T own cc nL (d + 1) F pc' ls st I' G' (b1, b2)) : Ex T own cc nL (d + 1) F pc ls (x2 :: x1 :: .ref a :: st) I G (b1 + mc, b2 + ms) :=
  Ex_callIN (As := [x1, x2]) hd hs rfl rfl hcat hOk (fun _ I' G' h => by obtain ⟨rfl, h⟩ := h; exact k I' G' h)
theorem Ex_J3 (hd : Dc cc pc 3 pc' (.invokespecial ix)) (hs : INS own ix 3 Y) (hcat : (st.map fun v => v.category).sum ≤ 8) (hOk : Ok T Y d mc ms (.ref a :: [x1, x2, x3]) I G (fun v I' G' => v = none ∧ Qv I' G')) (k : ∀ I' G', Qv I' G' → Ex T own cc nL (d + 1) F pc' ls st I' G' (b1, b2)) : Ex T own cc nL (d + 1) F pc ls (x3 :: x2 :: x1 :: .ref a :: st) I G (b1 + mc, b2 + ms) :=
  Ex_callIN (As := [x1, x2, x3]) hd hs rfl rfl hcat hOk (fun _ I' G' h => by obtain ⟨rfl, h⟩ := h; exact k I' G' h)
end M7
