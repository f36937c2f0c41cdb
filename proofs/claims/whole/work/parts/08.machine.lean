/-! THE FLAT MACHINE. Memory: I (ints by address and place), G = (references, longs, kinds, lengths, how many cells). Kinds 0 .. 9: objects of vwCl's classes; 10 int[], 11 boolean[], 12 char[], 13 long[], 14 Surface[], 15 Sheet[], 16 Slot[], 17 Text[], 18 int[][]. -/
abbrev MI : Type := Nat → Nat → Int32
abbrev MG : Type := (Nat → Nat → Option Nat) × (Nat → Nat → Int64) × (Nat → Nat) × (Nat → Nat) × Nat
def gR (G : MG) : Nat → Nat → Option Nat := G.1
def gL (G : MG) : Nat → Nat → Int64 := G.2.1
def gK (G : MG) : Nat → Nat := G.2.2.1
def gN (G : MG) : Nat → Nat := G.2.2.2.1
def gS (G : MG) : Nat := G.2.2.2.2
/-- what stands fixed for a run: class numbers and slots, array classes by kind, the heap at the law's entry, the constant row, the string constants' cells -/
abbrev TC : Type := va_G × (Nat → ClassId) × Heap × Nat × (Nat → Nat) × (Nat → Nat)
def tD (T : TC) : va_G := T.1
def tC (T : TC) : Nat → ClassId := T.2.1
def tH (T : TC) : Heap := T.2.2.1
def tA (T : TC) : Nat := T.2.2.2.1
def tK (T : TC) : Nat → Nat := T.2.2.2.2.1
def tV (T : TC) : Nat → Nat := T.2.2.2.2.2
def n0 (T : TC) : Nat := (tH T).size
def fC (ci : Nat) : String := match ci with
  | 0 => RX0 | 1 => RX1 | 2 => RX2 | 3 => RX3 | 4 => RX4 | 5 => RX5 | 6 => RX6 | 7 => RX7 | 8 => RX8 | _ => RX9
def fT (ci : Nat) : u_T := match ci with
  | 0 => TX0 | 1 => TX1 | 2 => TX2 | 3 => TX3 | 4 => TX4 | 5 => TX5 | 6 => TX6 | 7 => TX7 | 8 => TX8 | _ => TX9
def fY (ci : Nat) : Nat → FieldType := match ci with
  | 0 => tyX0 | 1 => tyX1 | 2 => tyX2 | 3 => tyX3 | 4 => tyX4 | 5 => tyX5 | 6 => tyX6 | 7 => tyX7 | 8 => tyX8 | _ => tyX9
def fN (ci : Nat) : Nat := match ci with
  | 0 => 8 | 1 => 11 | 2 => 4 | 3 => 3 | 4 => 4 | 5 => 5 | 6 => 2 | 7 => 4 | 8 => 11 | _ => 39
def isR (t : FieldType) : Bool := match t with
  | .object _ => true
  | .array _ => true
  | _ => false
def fv (I : MI) (G : MG) (a ci j : Nat) : Value := if isR (fY ci j) = true then va_rf (gR G a j) else .int (I a j)
def flds (I : MI) (G : MG) (a ci : Nat) : List Value := (List.range (fN ci)).map (fv I G a ci)
def arE (I : MI) (G : MG) (a : Nat) : (Nat → Int32) ⊕ (Nat → Int64) ⊕ (Nat → UInt32) ⊕ (Nat → UInt64) ⊕ (Nat → Option Nat) := if gK G a ≤ 12 then .inl (I a) else if gK G a = 13 then .inr (.inl (gL G a)) else .inr (.inr (.inr (.inr (gR G a))))
def cE (T : TC) (I : MI) (G : MG) (a : Nat) : va_E := if gK G a < 10 then .inr (gK G a, flds I G a (gK G a)) else .inl (tC T (gK G a), (gN G a, arE I G a))
def wL (T : TC) (I : MI) (G : MG) : va_W := (List.range (gS G)).map (fun k => (n0 T + k, cE T I G (n0 T + k)))
def aT (T : TC) : Nat → Prop := fun q => n0 T ≤ q
def Mem (T : TC) (I : MI) (G : MG) (H : Heap) (locs : List Loc) : Prop := H.size = n0 T + gS G ∧ va_P (tD T) vwCl (wL T I G) H ∧ va_S (aT T) (tH T) H locs
def aY (k : Nat) : FieldType := match k with
  | 10 => .int | 11 => .boolean | 12 => .char | 13 => .long | 14 => .object RX5 | 15 => .object RX3 | 16 => .object RX4 | 17 => .object RX7 | _ => .array .int
/-- the words that the tables hold and that stay -/
def gtbl : List Cond := lw_tbl.filter goodWord
def nests : List Cond := (tables_1.filter fun w => match w with | .methodLinkNest _ _ _ _ => true | _ => false)
def txS (i : Nat) : String := match i with
  | 0 => "ndt" | 1 => "sb" | 2 => "np" | 3 => "lift" | 4 => "fee" | _ => "fine"
def ixS (i : Nat) : Nat := match i with
  | 0 => 93 | 1 => 95 | 2 => 97 | 3 => 105 | 4 => 111 | _ => 113
def bytS : List (List Int32) := [[110, 100, 116], [115, 98], [110, 112], [108, 105, 102, 116], [102, 101, 101], [102, 105, 110, 101]]
def lenS : List Nat := [3, 2, 2, 4, 3, 4]
def abF (k : Nat) : Int32 := match k with
  | 0 => (-1) | 1 => 0 | 2 => 0 | 3 => 1 | 4 => 2 | _ => 0
/-- the constants that the launch holds: the row ABOVE, String's own statics, the texts -/
def Kn (T : TC) (U : State) : Prop := (va_Z "DustLayers" "ABOVE" "[I" (.ref (tA T)) (aT T) U (tH T) ∧ va_X (tA T) 6 abF U (tH T) ∧ tA T < n0 T ∧ va_Nw (.fieldLinkNest RX5 58 RX8 "ABOVE" "[I" RX8) U) ∧ va_Z "java/lang/String" "COMPACT_STRINGS" "Z" (.int 1) (aT T) U (tH T) ∧ va_Zq "jdk/internal/util/Preconditions" "SIOOBE_FORMATTER" "Ljava/util/function/BiFunction;" (aT T) U (tH T) ∧ (∀ i, i < 6 → vk_R RX0 (ixS i) (txS i) (tK T i) U) ∧ vk_S 6 lenS bytS (tK T) (tV T) (aT T) U (tH T)
/-- what of the machine's tables stays through every run, beside the words -/
def St (T : TC) (U : State) : Prop := va_K (tD T) vwCl [] U ∧ (∀ k, 10 ≤ k → k < 19 → ArrOfT U (tC T k) (aY k) ∧ va_RA U (tC T k) (aY k)) ∧ (∀ a i x h, Cond.methodLinkNest a i x h ∈ nests → va_Nw (.methodLinkNest a i x h) U) ∧ (∀ k, 14 ≤ k → k < 18 → va_AO (fC (match k with | 14 => 5 | 15 => 3 | 16 => 4 | _ => 7)) U) ∧ va_AOA .int U ∧ Kn T U
/-- the address is a cell of this kind -/
def Is (T : TC) (G : MG) (a k : Nat) : Prop := gK G a = k ∧ n0 T ≤ a ∧ a < n0 T + gS G
abbrev FinT : Type := Program → Launch → Env → Room → State → MethodId → Array Value → List Frame → Method → Code → (State → Prop) → Prop
def Bs (own : String) (cc : ByteArray) (nL d : Nat) (p : Program) (R : Room) (s : State) (m : MethodId) (args : Array Value) (c : Code) : Prop := p.tables.exec = Jvm.exec ∧ c.code = cc ∧ c.maxLocals = nL ∧ s.vm.findClass own = some m.cls ∧ (∀ w ∈ gtbl, w.before args s = true) ∧ d ≤ R.frames ∧ 64 * d ≤ R.locals
def LocOk (nL : Nat) (ls : List (Option Value)) (rl : Array Slot) : Prop := rl.size = nL ∧ lv_wf rl ∧ ∀ (i : Nat) (v : Value), ls[i]? = some (some v) → rl[i]? = some (.val v)
/-- the machine, at this pc of the method, with these locals, stack and memory, comes to its method's end -/
def Ex (T : TC) (own : String) (cc : ByteArray) (nL d : Nat) (F : FinT) (pc : Nat) (ls : List (Option Value)) (st : List Value) (I : MI) (G : MG) (b : Nat × Nat) : Prop :=
  ∀ (p : Program) (l : Launch) (e : Env) (R : Room) (s : State) (m : MethodId) (args : Array Value) (below : List Frame) (meth : Method) (c : Code) (Z : State → Prop) (H : Heap) (locs : List Loc) (cells slots : Nat) (rl : Array Slot),
    Bs own cc nL d p R s m args c → St T s → F p l e R s m args below meth c Z → Mem T I G H locs → cells + b.1 ≤ R.cells → slots + b.2 ≤ R.slots → LocOk nL ls rl →
    W p l e R s m args below meth c H locs cells slots Z (F0 m pc rl st)
def bI (c : Prop) [Decidable c] : Int32 := if c then 1 else 0
theorem bI_t {c : Prop} [Decidable c] (h : c) : bI c = 1 := if_pos h
theorem bI_f {c : Prop} [Decidable c] (h : ¬ c) : bI c = 0 := if_neg h
theorem bI_0 {c : Prop} [Decidable c] : bI c = 0 ↔ ¬ c := by
  unfold bI; split <;> simp_all
/-- the locals as the kit lists them -/
def asl (ls : List (Option Value)) : List (Nat × Value) := (List.range ls.length).filterMap (fun i => match ls[i]? with | some (some v) => some (i, v) | _ => none)
theorem mem_asl {ls : List (Option Value)} {i : Nat} {v : Value} : (i, v) ∈ asl ls ↔ ls[i]? = some (some v) := by
  unfold asl
  rw [List.mem_filterMap]
  constructor
  · rintro ⟨j, -, hj⟩
    split at hj
    · rename_i w hw
      simp only [Option.some.injEq, Prod.mk.injEq] at hj
      obtain ⟨rfl, rfl⟩ := hj
      exact hw
    · cases hj
  · intro h
    refine ⟨i, ?_, by rw [h]⟩
    rw [List.mem_range]
    exact (List.getElem?_eq_some_iff.mp h).1
theorem LocOk.has {nL : Nat} {ls : List (Option Value)} {rl : Array Slot} (h : LocOk nL ls rl) : lv_has rl nL (asl ls) := ⟨h.1, h.2.1, fun q hq => h.2.2 q.1 q.2 (mem_asl.mp hq)⟩
def stOk (ls : List (Option Value)) (i : Nat) : Bool := match i with
  | 0 => true
  | j + 1 => match ls[j]? with
    | some (some v) => v.category == 1
    | _ => true
theorem LocOk.set1 {nL i : Nat} {ls : List (Option Value)} {rl : Array Slot} {v : Value} (hs : stOk ls i = true) (h : lv_has rl nL ((i, v) :: (asl ls).filter (fun q => !(q.1 == i) && !(q.1 + 1 == i && q.2.category == 2)))) : LocOk nL (ls.set i (some v)) rl := by
  refine ⟨h.1, h.2.1, fun j w hj => ?_⟩
  by_cases e : j = i
  · subst e
    have hl : j < ls.length := by
      have := (List.getElem?_eq_some_iff.mp hj).1
      simpa using this
    rw [List.getElem?_set_self hl] at hj
    cases hj
    exact h.2.2 (j, v) List.mem_cons_self
  · rw [List.getElem?_set_ne (fun q => e q.symm)] at hj
    refine h.2.2 (j, w) (List.mem_cons_of_mem _ (List.mem_filter.mpr ⟨mem_asl.mpr hj, ?_⟩))
    have e1 : (j == i) = false := by simpa using e
    simp only [e1, Bool.not_false, Bool.true_and]
    by_cases e2 : j + 1 = i
    · subst e2
      simp only [stOk, hj, beq_iff_eq] at hs
      simp [hs]
    · simp [e2]
theorem LocOk.set2 {nL i : Nat} {ls : List (Option Value)} {rl : Array Slot} {v : Value} (hs : stOk ls i = true) (h : lv_has rl nL ((i, v) :: (asl ls).filter (fun q => !(q.1 == i) && (!(q.1 == i + 1) && !(q.1 + 1 == i && q.2.category == 2))))) : LocOk nL ((ls.set i (some v)).set (i + 1) none) rl := by
  refine ⟨h.1, h.2.1, fun j w hj => ?_⟩
  by_cases e3 : j = i + 1
  · subst e3
    have hl : i + 1 < (ls.set i (some v)).length := by
      have := (List.getElem?_eq_some_iff.mp hj).1
      simpa using this
    rw [List.getElem?_set_self hl] at hj
    cases hj
  rw [List.getElem?_set_ne (fun q => e3 q.symm)] at hj
  by_cases e : j = i
  · subst e
    have hl : j < ls.length := by
      have := (List.getElem?_eq_some_iff.mp hj).1
      simpa using this
    rw [List.getElem?_set_self hl] at hj
    cases hj
    exact h.2.2 (j, v) List.mem_cons_self
  · rw [List.getElem?_set_ne (fun q => e q.symm)] at hj
    refine h.2.2 (j, w) (List.mem_cons_of_mem _ (List.mem_filter.mpr ⟨mem_asl.mpr hj, ?_⟩))
    have e1 : (j == i) = false := by simpa using e
    have e4 : (j == i + 1) = false := by simpa using e3
    simp only [e1, e4, Bool.not_false, Bool.true_and]
    by_cases e2 : j + 1 = i
    · subst e2
      simp only [stOk, hj, beq_iff_eq] at hs
      simp [hs]
    · simp [e2]
section M1
variable {T : TC} {own : String} {cc : ByteArray} {nL d pc pc' : Nat} {F : FinT} {ls : List (Option Value)} {st : List Value} {I : MI} {G : MG} {b : Nat × Nat}
theorem Ex_iconst {n : Int} {v : Int32} (hd : Dc cc pc 1 pc' (.iconst n)) (hv : Int32.ofInt n = v) (k : Ex T own cc nL d F pc' ls (.int v :: st) I G b) : Ex T own cc nL d F pc ls st I G b := by
  intro p l e R s m args below meth c Z H locs cells slots rl B S hF M h1 h2 L
  obtain ⟨hd, rfl⟩ := hd
  exact lv_iconst B.1 B.2.1 hd hv (k p l e R s m args below meth c Z H locs cells slots rl B S hF M h1 h2 L)
theorem Ex_bipush {n : Int} {v : Int32} (hd : Dc cc pc 2 pc' (.bipush n)) (hv : (Int8.ofInt n).toInt32 = v) (k : Ex T own cc nL d F pc' ls (.int v :: st) I G b) : Ex T own cc nL d F pc ls st I G b := by
  intro p l e R s m args below meth c Z H locs cells slots rl B S hF M h1 h2 L
  obtain ⟨hd, rfl⟩ := hd
  exact lv_bipush B.1 B.2.1 hd hv (k p l e R s m args below meth c Z H locs cells slots rl B S hF M h1 h2 L)
theorem Ex_sipush {n : Int} {v : Int32} (hd : Dc cc pc 3 pc' (.sipush n)) (hv : (Int16.ofInt n).toInt32 = v) (k : Ex T own cc nL d F pc' ls (.int v :: st) I G b) : Ex T own cc nL d F pc ls st I G b := by
  intro p l e R s m args below meth c Z H locs cells slots rl B S hF M h1 h2 L
  obtain ⟨hd, rfl⟩ := hd
  exact lv_sipush B.1 B.2.1 hd hv (k p l e R s m args below meth c Z H locs cells slots rl B S hF M h1 h2 L)
theorem Ex_lconst {n : Fin 2} {v : Int64} (hd : Dc cc pc 1 pc' (.lconst n)) (hv : Int64.ofNat (n : Nat) = v) (k : Ex T own cc nL d F pc' ls (.long v :: st) I G b) : Ex T own cc nL d F pc ls st I G b := by
  intro p l e R s m args below meth c Z H locs cells slots rl B S hF M h1 h2 L
  obtain ⟨hd, rfl⟩ := hd
  exact lv_lconst B.1 B.2.1 hd hv (k p l e R s m args below meth c Z H locs cells slots rl B S hF M h1 h2 L)
theorem Ex_null  (hd : Dc cc pc 1 pc' (.aconst_null))  (k : Ex T own cc nL d F pc' ls (.null :: st) I G b) : Ex T own cc nL d F pc ls st I G b := by
  intro p l e R s m args below meth c Z H locs cells slots rl B S hF M h1 h2 L
  obtain ⟨hd, rfl⟩ := hd
  exact lv_null B.1 B.2.1 hd  (k p l e R s m args below meth c Z H locs cells slots rl B S hF M h1 h2 L)
theorem Ex_ldc {ix : Nat} {v : Int32} (hd : Dc cc pc 2 pc' (.ldc ix)) (hc : Cond.constant own ix v ∈ gtbl) (k : Ex T own cc nL d F pc' ls (.int v :: st) I G b) : Ex T own cc nL d F pc ls st I G b := by
  intro p l e R s m args below meth c Z H locs cells slots rl B S hF M h1 h2 L
  obtain ⟨hd, rfl⟩ := hd
  exact lv_ldc B.1 B.2.1 B.2.2.2.1 (B.2.2.2.2.1 _ hc) hd (k p l e R s m args below meth c Z H locs cells slots rl B S hF M h1 h2 L)
theorem Ex_ldc_w {ix : Nat} {v : Int32} (hd : Dc cc pc 3 pc' (.ldc_w ix)) (hc : Cond.constant own ix v ∈ gtbl) (k : Ex T own cc nL d F pc' ls (.int v :: st) I G b) : Ex T own cc nL d F pc ls st I G b := by
  intro p l e R s m args below meth c Z H locs cells slots rl B S hF M h1 h2 L
  obtain ⟨hd, rfl⟩ := hd
  exact lv_ldcw B.1 B.2.1 B.2.2.2.1 (B.2.2.2.2.1 _ hc) hd (k p l e R s m args below meth c Z H locs cells slots rl B S hF M h1 h2 L)
theorem Ex_iload_n {i : Fin 4} {x : Int32} (hd : Dc cc pc 1 pc' (.iload_n i)) (hl : ls[(i : Nat)]? = some (some (.int x))) (k : Ex T own cc nL d F pc' ls (.int x :: st) I G b) : Ex T own cc nL d F pc ls st I G b := by
  intro p l e R s m args below meth c Z H locs cells slots rl B S hF M h1 h2 L
  obtain ⟨hd, rfl⟩ := hd
  exact lv_iload_n B.1 B.2.1 hd rfl (L.2.2 _ _ hl) (k p l e R s m args below meth c Z H locs cells slots rl B S hF M h1 h2 L)
theorem Ex_iload {i : Nat} {x : Int32} (hd : Dc cc pc 2 pc' (.iload i)) (hl : ls[i]? = some (some (.int x))) (k : Ex T own cc nL d F pc' ls (.int x :: st) I G b) : Ex T own cc nL d F pc ls st I G b := by
  intro p l e R s m args below meth c Z H locs cells slots rl B S hF M h1 h2 L
  obtain ⟨hd, rfl⟩ := hd
  exact lv_iload B.1 B.2.1 hd (L.2.2 _ _ hl) (k p l e R s m args below meth c Z H locs cells slots rl B S hF M h1 h2 L)
theorem Ex_lload_n {i : Fin 4} {x : Int64} (hd : Dc cc pc 1 pc' (.lload_n i)) (hl : ls[(i : Nat)]? = some (some (.long x))) (k : Ex T own cc nL d F pc' ls (.long x :: st) I G b) : Ex T own cc nL d F pc ls st I G b := by
  intro p l e R s m args below meth c Z H locs cells slots rl B S hF M h1 h2 L
  obtain ⟨hd, rfl⟩ := hd
  exact lv_lload_n B.1 B.2.1 hd rfl (L.2.2 _ _ hl) (k p l e R s m args below meth c Z H locs cells slots rl B S hF M h1 h2 L)
theorem Ex_lload {i : Nat} {x : Int64} (hd : Dc cc pc 2 pc' (.lload i)) (hl : ls[i]? = some (some (.long x))) (k : Ex T own cc nL d F pc' ls (.long x :: st) I G b) : Ex T own cc nL d F pc ls st I G b := by
  intro p l e R s m args below meth c Z H locs cells slots rl B S hF M h1 h2 L
  obtain ⟨hd, rfl⟩ := hd
  exact lv_lload B.1 B.2.1 hd (L.2.2 _ _ hl) (k p l e R s m args below meth c Z H locs cells slots rl B S hF M h1 h2 L)
theorem Ex_aload_n {i : Fin 4} {x : Nat} (hd : Dc cc pc 1 pc' (.aload_n i)) (hl : ls[(i : Nat)]? = some (some (.ref x))) (k : Ex T own cc nL d F pc' ls (.ref x :: st) I G b) : Ex T own cc nL d F pc ls st I G b := by
  intro p l e R s m args below meth c Z H locs cells slots rl B S hF M h1 h2 L
  obtain ⟨hd, rfl⟩ := hd
  exact lv_aload_n B.1 B.2.1 hd rfl (L.2.2 _ _ hl) (k p l e R s m args below meth c Z H locs cells slots rl B S hF M h1 h2 L)
theorem Ex_aload {i : Nat} {x : Nat} (hd : Dc cc pc 2 pc' (.aload i)) (hl : ls[i]? = some (some (.ref x))) (k : Ex T own cc nL d F pc' ls (.ref x :: st) I G b) : Ex T own cc nL d F pc ls st I G b := by
  intro p l e R s m args below meth c Z H locs cells slots rl B S hF M h1 h2 L
  obtain ⟨hd, rfl⟩ := hd
  exact lv_aload B.1 B.2.1 hd (L.2.2 _ _ hl) (k p l e R s m args below meth c Z H locs cells slots rl B S hF M h1 h2 L)
theorem Ex_aload_nN {i : Fin 4} (hd : Dc cc pc 1 pc' (.aload_n i)) (hl : ls[(i : Nat)]? = some (some .null)) (k : Ex T own cc nL d F pc' ls (.null :: st) I G b) : Ex T own cc nL d F pc ls st I G b := by
  intro p l e R s m args below meth c Z H locs cells slots rl B S hF M h1 h2 L
  obtain ⟨hd, rfl⟩ := hd
  exact lv_aload_nN B.1 B.2.1 hd rfl (L.2.2 _ _ hl) (k p l e R s m args below meth c Z H locs cells slots rl B S hF M h1 h2 L)
theorem Ex_aloadN {i : Nat} (hd : Dc cc pc 2 pc' (.aload i)) (hl : ls[i]? = some (some .null)) (k : Ex T own cc nL d F pc' ls (.null :: st) I G b) : Ex T own cc nL d F pc ls st I G b := by
  intro p l e R s m args below meth c Z H locs cells slots rl B S hF M h1 h2 L
  obtain ⟨hd, rfl⟩ := hd
  exact lv_aloadN B.1 B.2.1 hd (L.2.2 _ _ hl) (k p l e R s m args below meth c Z H locs cells slots rl B S hF M h1 h2 L)
theorem Ex_istore_n {i : Fin 4} {x : Int32} (hd : Dc cc pc 1 pc' (.istore_n i)) (hn : (i : Nat) < nL) (hs : stOk ls (i : Nat) = true) (k : Ex T own cc nL d F pc' (ls.set (i : Nat) (some (.int x))) st I G b) : Ex T own cc nL d F pc ls (.int x :: st) I G b := by
  intro p l e R s m args below meth c Z H locs cells slots rl B S hF M h1 h2 L
  obtain ⟨hd, rfl⟩ := hd
  exact lv_istore_n B.1 B.2.1 hd rfl L.has hn rfl (fun rl' h' => k p l e R s m args below meth c Z H locs cells slots rl' B S hF M h1 h2 (LocOk.set1 hs h'))
theorem Ex_istore {i : Nat} {x : Int32} (hd : Dc cc pc 2 pc' (.istore i)) (hn : i < nL) (hs : stOk ls i = true) (k : Ex T own cc nL d F pc' (ls.set i (some (.int x))) st I G b) : Ex T own cc nL d F pc ls (.int x :: st) I G b := by
  intro p l e R s m args below meth c Z H locs cells slots rl B S hF M h1 h2 L
  obtain ⟨hd, rfl⟩ := hd
  exact lv_istore B.1 B.2.1 hd  L.has hn rfl (fun rl' h' => k p l e R s m args below meth c Z H locs cells slots rl' B S hF M h1 h2 (LocOk.set1 hs h'))
theorem Ex_lstore_n {i : Fin 4} {x : Int64} (hd : Dc cc pc 1 pc' (.lstore_n i)) (hn : (i : Nat) + 1 < nL) (hs : stOk ls (i : Nat) = true) (k : Ex T own cc nL d F pc' ((ls.set (i : Nat) (some (.long x))).set ((i : Nat) + 1) none) st I G b) : Ex T own cc nL d F pc ls (.long x :: st) I G b := by
  intro p l e R s m args below meth c Z H locs cells slots rl B S hF M h1 h2 L
  obtain ⟨hd, rfl⟩ := hd
  exact lv_lstore_n B.1 B.2.1 hd rfl L.has hn rfl (fun rl' h' => k p l e R s m args below meth c Z H locs cells slots rl' B S hF M h1 h2 (LocOk.set2 hs h'))
theorem Ex_lstore {i : Nat} {x : Int64} (hd : Dc cc pc 2 pc' (.lstore i)) (hn : i + 1 < nL) (hs : stOk ls i = true) (k : Ex T own cc nL d F pc' ((ls.set i (some (.long x))).set (i + 1) none) st I G b) : Ex T own cc nL d F pc ls (.long x :: st) I G b := by
  intro p l e R s m args below meth c Z H locs cells slots rl B S hF M h1 h2 L
  obtain ⟨hd, rfl⟩ := hd
  exact lv_lstore B.1 B.2.1 hd  L.has hn rfl (fun rl' h' => k p l e R s m args below meth c Z H locs cells slots rl' B S hF M h1 h2 (LocOk.set2 hs h'))
theorem Ex_astore_n {i : Fin 4} {x : Nat} (hd : Dc cc pc 1 pc' (.astore_n i)) (hn : (i : Nat) < nL) (hs : stOk ls (i : Nat) = true) (k : Ex T own cc nL d F pc' (ls.set (i : Nat) (some (.ref x))) st I G b) : Ex T own cc nL d F pc ls (.ref x :: st) I G b := by
  intro p l e R s m args below meth c Z H locs cells slots rl B S hF M h1 h2 L
  obtain ⟨hd, rfl⟩ := hd
  exact lv_astore_n B.1 B.2.1 hd rfl L.has hn rfl (fun rl' h' => k p l e R s m args below meth c Z H locs cells slots rl' B S hF M h1 h2 (LocOk.set1 hs h'))
theorem Ex_astore {i : Nat} {x : Nat} (hd : Dc cc pc 2 pc' (.astore i)) (hn : i < nL) (hs : stOk ls i = true) (k : Ex T own cc nL d F pc' (ls.set i (some (.ref x))) st I G b) : Ex T own cc nL d F pc ls (.ref x :: st) I G b := by
  intro p l e R s m args below meth c Z H locs cells slots rl B S hF M h1 h2 L
  obtain ⟨hd, rfl⟩ := hd
  exact lv_astore B.1 B.2.1 hd  L.has hn rfl (fun rl' h' => k p l e R s m args below meth c Z H locs cells slots rl' B S hF M h1 h2 (LocOk.set1 hs h'))
theorem Ex_astore_nN {i : Fin 4} (hd : Dc cc pc 1 pc' (.astore_n i)) (hn : (i : Nat) < nL) (hs : stOk ls (i : Nat) = true) (k : Ex T own cc nL d F pc' (ls.set (i : Nat) (some (.null))) st I G b) : Ex T own cc nL d F pc ls (.null :: st) I G b := by
  intro p l e R s m args below meth c Z H locs cells slots rl B S hF M h1 h2 L
  obtain ⟨hd, rfl⟩ := hd
  exact lv_astore_nN B.1 B.2.1 hd rfl L.has hn rfl (fun rl' h' => k p l e R s m args below meth c Z H locs cells slots rl' B S hF M h1 h2 (LocOk.set1 hs h'))
theorem Ex_astoreN {i : Nat} (hd : Dc cc pc 2 pc' (.astore i)) (hn : i < nL) (hs : stOk ls i = true) (k : Ex T own cc nL d F pc' (ls.set i (some (.null))) st I G b) : Ex T own cc nL d F pc ls (.null :: st) I G b := by
  intro p l e R s m args below meth c Z H locs cells slots rl B S hF M h1 h2 L
  obtain ⟨hd, rfl⟩ := hd
  exact lv_astoreN B.1 B.2.1 hd  L.has hn rfl (fun rl' h' => k p l e R s m args below meth c Z H locs cells slots rl' B S hF M h1 h2 (LocOk.set1 hs h'))
theorem Ex_iinc {i : Nat} {n : Int} {x v : Int32} (hd : Dc cc pc 3 pc' (.iinc i n)) (hl : ls[i]? = some (some (.int x))) (hv : x + Int32.ofInt n = v) (hn : i < nL) (hs : stOk ls i = true) (k : Ex T own cc nL d F pc' (ls.set i (some (.int v))) st I G b) : Ex T own cc nL d F pc ls st I G b := by
  intro p l e R s m args below meth c Z H locs cells slots rl B S hF M h1 h2 L
  obtain ⟨hd, rfl⟩ := hd
  obtain ⟨j, hj⟩ := List.getElem?_of_mem (mem_asl.mpr hl)
  exact lv_iinc B.1 B.2.1 hd L.has hj hv hn rfl (fun rl' h' => k p l e R s m args below meth c Z H locs cells slots rl' B S hF M h1 h2 (LocOk.set1 hs h'))
theorem Ex_iadd {x y : Int32} (hd : Dc cc pc 1 pc' (.iadd))  (k : Ex T own cc nL d F pc' ls (.int (x + y) :: st) I G b) : Ex T own cc nL d F pc ls (.int y :: .int x :: st) I G b := by
  intro p l e R s m args below meth c Z H locs cells slots rl B S hF M h1 h2 L
  obtain ⟨hd, rfl⟩ := hd
  exact lv_iadd B.1 B.2.1 hd  (k p l e R s m args below meth c Z H locs cells slots rl B S hF M h1 h2 L)
theorem Ex_isub {x y : Int32} (hd : Dc cc pc 1 pc' (.isub))  (k : Ex T own cc nL d F pc' ls (.int (x - y) :: st) I G b) : Ex T own cc nL d F pc ls (.int y :: .int x :: st) I G b := by
  intro p l e R s m args below meth c Z H locs cells slots rl B S hF M h1 h2 L
  obtain ⟨hd, rfl⟩ := hd
  exact lv_isub B.1 B.2.1 hd  (k p l e R s m args below meth c Z H locs cells slots rl B S hF M h1 h2 L)
theorem Ex_imul {x y : Int32} (hd : Dc cc pc 1 pc' (.imul))  (k : Ex T own cc nL d F pc' ls (.int (x * y) :: st) I G b) : Ex T own cc nL d F pc ls (.int y :: .int x :: st) I G b := by
  intro p l e R s m args below meth c Z H locs cells slots rl B S hF M h1 h2 L
  obtain ⟨hd, rfl⟩ := hd
  exact lv_imul B.1 B.2.1 hd  (k p l e R s m args below meth c Z H locs cells slots rl B S hF M h1 h2 L)
theorem Ex_iand {x y : Int32} (hd : Dc cc pc 1 pc' (.iand))  (k : Ex T own cc nL d F pc' ls (.int (x &&& y) :: st) I G b) : Ex T own cc nL d F pc ls (.int y :: .int x :: st) I G b := by
  intro p l e R s m args below meth c Z H locs cells slots rl B S hF M h1 h2 L
  obtain ⟨hd, rfl⟩ := hd
  exact lv_iand B.1 B.2.1 hd  (k p l e R s m args below meth c Z H locs cells slots rl B S hF M h1 h2 L)
theorem Ex_ior {x y : Int32} (hd : Dc cc pc 1 pc' (.ior))  (k : Ex T own cc nL d F pc' ls (.int (x ||| y) :: st) I G b) : Ex T own cc nL d F pc ls (.int y :: .int x :: st) I G b := by
  intro p l e R s m args below meth c Z H locs cells slots rl B S hF M h1 h2 L
  obtain ⟨hd, rfl⟩ := hd
  exact lv_ior B.1 B.2.1 hd  (k p l e R s m args below meth c Z H locs cells slots rl B S hF M h1 h2 L)
theorem Ex_ixor {x y : Int32} (hd : Dc cc pc 1 pc' (.ixor))  (k : Ex T own cc nL d F pc' ls (.int (x ^^^ y) :: st) I G b) : Ex T own cc nL d F pc ls (.int y :: .int x :: st) I G b := by
  intro p l e R s m args below meth c Z H locs cells slots rl B S hF M h1 h2 L
  obtain ⟨hd, rfl⟩ := hd
  exact lv_ixor B.1 B.2.1 hd  (k p l e R s m args below meth c Z H locs cells slots rl B S hF M h1 h2 L)
theorem Ex_ishl {x y : Int32} (hd : Dc cc pc 1 pc' (.ishl))  (k : Ex T own cc nL d F pc' ls (.int (x <<< (y &&& 31)) :: st) I G b) : Ex T own cc nL d F pc ls (.int y :: .int x :: st) I G b := by
  intro p l e R s m args below meth c Z H locs cells slots rl B S hF M h1 h2 L
  obtain ⟨hd, rfl⟩ := hd
  exact lv_ishl B.1 B.2.1 hd  (k p l e R s m args below meth c Z H locs cells slots rl B S hF M h1 h2 L)
theorem Ex_ishr {x y : Int32} (hd : Dc cc pc 1 pc' (.ishr))  (k : Ex T own cc nL d F pc' ls (.int (x >>> (y &&& 31)) :: st) I G b) : Ex T own cc nL d F pc ls (.int y :: .int x :: st) I G b := by
  intro p l e R s m args below meth c Z H locs cells slots rl B S hF M h1 h2 L
  obtain ⟨hd, rfl⟩ := hd
  exact lv_ishr B.1 B.2.1 hd  (k p l e R s m args below meth c Z H locs cells slots rl B S hF M h1 h2 L)
theorem Ex_idiv {x y : Int32} (hd : Dc cc pc 1 pc' (.idiv)) (hne : ¬ y = 0) (k : Ex T own cc nL d F pc' ls (.int (x / y) :: st) I G b) : Ex T own cc nL d F pc ls (.int y :: .int x :: st) I G b := by
  intro p l e R s m args below meth c Z H locs cells slots rl B S hF M h1 h2 L
  obtain ⟨hd, rfl⟩ := hd
  exact lv_idiv B.1 B.2.1 hd hne (k p l e R s m args below meth c Z H locs cells slots rl B S hF M h1 h2 L)
theorem Ex_irem {x y : Int32} (hd : Dc cc pc 1 pc' (.irem)) (hne : ¬ y = 0) (k : Ex T own cc nL d F pc' ls (.int (x - x / y * y) :: st) I G b) : Ex T own cc nL d F pc ls (.int y :: .int x :: st) I G b := by
  intro p l e R s m args below meth c Z H locs cells slots rl B S hF M h1 h2 L
  obtain ⟨hd, rfl⟩ := hd
  exact lv_irem B.1 B.2.1 hd hne (k p l e R s m args below meth c Z H locs cells slots rl B S hF M h1 h2 L)
theorem Ex_ineg {x : Int32} (hd : Dc cc pc 1 pc' (.ineg))  (k : Ex T own cc nL d F pc' ls (.int (-x) :: st) I G b) : Ex T own cc nL d F pc ls (.int x :: st) I G b := by
  intro p l e R s m args below meth c Z H locs cells slots rl B S hF M h1 h2 L
  obtain ⟨hd, rfl⟩ := hd
  exact lv_ineg B.1 B.2.1 hd  (k p l e R s m args below meth c Z H locs cells slots rl B S hF M h1 h2 L)
theorem Ex_iushr {x y : Int32} (hd : Dc cc pc 1 pc' (.iushr))  (k : Ex T own cc nL d F pc' ls (.int ((x.toUInt32 >>> (y.toUInt32 &&& Int32.toUInt32 31)).toInt32) :: st) I G b) : Ex T own cc nL d F pc ls (.int y :: .int x :: st) I G b := by
  intro p l e R s m args below meth c Z H locs cells slots rl B S hF M h1 h2 L
  obtain ⟨hd, rfl⟩ := hd
  exact lv_iushr B.1 B.2.1 hd rfl (k p l e R s m args below meth c Z H locs cells slots rl B S hF M h1 h2 L)
theorem Ex_ladd {x y : Int64} (hd : Dc cc pc 1 pc' (.ladd))  (k : Ex T own cc nL d F pc' ls (.long (x + y) :: st) I G b) : Ex T own cc nL d F pc ls (.long y :: .long x :: st) I G b := by
  intro p l e R s m args below meth c Z H locs cells slots rl B S hF M h1 h2 L
  obtain ⟨hd, rfl⟩ := hd
  exact lv_ladd B.1 B.2.1 hd  (k p l e R s m args below meth c Z H locs cells slots rl B S hF M h1 h2 L)
theorem Ex_lsub {x y : Int64} (hd : Dc cc pc 1 pc' (.lsub))  (k : Ex T own cc nL d F pc' ls (.long (x - y) :: st) I G b) : Ex T own cc nL d F pc ls (.long y :: .long x :: st) I G b := by
  intro p l e R s m args below meth c Z H locs cells slots rl B S hF M h1 h2 L
  obtain ⟨hd, rfl⟩ := hd
  exact lv_lsub B.1 B.2.1 hd  (k p l e R s m args below meth c Z H locs cells slots rl B S hF M h1 h2 L)
theorem Ex_lneg {x : Int64} (hd : Dc cc pc 1 pc' (.lneg))  (k : Ex T own cc nL d F pc' ls (.long (-x) :: st) I G b) : Ex T own cc nL d F pc ls (.long x :: st) I G b := by
  intro p l e R s m args below meth c Z H locs cells slots rl B S hF M h1 h2 L
  obtain ⟨hd, rfl⟩ := hd
  exact lv_lneg B.1 B.2.1 hd  (k p l e R s m args below meth c Z H locs cells slots rl B S hF M h1 h2 L)
theorem Ex_lcmp {x y : Int64} (hd : Dc cc pc 1 pc' (.lcmp))  (k : Ex T own cc nL d F pc' ls (.int (lg_cmp x y) :: st) I G b) : Ex T own cc nL d F pc ls (.long y :: .long x :: st) I G b := by
  intro p l e R s m args below meth c Z H locs cells slots rl B S hF M h1 h2 L
  obtain ⟨hd, rfl⟩ := hd
  exact W.lcmp B.1 B.2.1 hd  (k p l e R s m args below meth c Z H locs cells slots rl B S hF M h1 h2 L)
theorem Ex_i2l {x : Int32} (hd : Dc cc pc 1 pc' (.i2l))  (k : Ex T own cc nL d F pc' ls (.long x.toInt64 :: st) I G b) : Ex T own cc nL d F pc ls (.int x :: st) I G b := by
  intro p l e R s m args below meth c Z H locs cells slots rl B S hF M h1 h2 L
  obtain ⟨hd, rfl⟩ := hd
  exact lv_i2l B.1 B.2.1 hd rfl (k p l e R s m args below meth c Z H locs cells slots rl B S hF M h1 h2 L)
theorem Ex_l2i {x : Int64} (hd : Dc cc pc 1 pc' (.l2i))  (k : Ex T own cc nL d F pc' ls (.int x.toInt32 :: st) I G b) : Ex T own cc nL d F pc ls (.long x :: st) I G b := by
  intro p l e R s m args below meth c Z H locs cells slots rl B S hF M h1 h2 L
  obtain ⟨hd, rfl⟩ := hd
  exact lv_l2i B.1 B.2.1 hd rfl (k p l e R s m args below meth c Z H locs cells slots rl B S hF M h1 h2 L)
theorem Ex_i2s {x : Int32} (hd : Dc cc pc 1 pc' (.i2s))  (k : Ex T own cc nL d F pc' ls (.int x.toInt16.toInt32 :: st) I G b) : Ex T own cc nL d F pc ls (.int x :: st) I G b := by
  intro p l e R s m args below meth c Z H locs cells slots rl B S hF M h1 h2 L
  obtain ⟨hd, rfl⟩ := hd
  exact lv_i2s B.1 B.2.1 hd rfl (k p l e R s m args below meth c Z H locs cells slots rl B S hF M h1 h2 L)
theorem Ex_i2c {x : Int32} (hd : Dc cc pc 1 pc' (.i2c))  (k : Ex T own cc nL d F pc' ls (.int (x.toUInt32 % 65536).toInt32 :: st) I G b) : Ex T own cc nL d F pc ls (.int x :: st) I G b := by
  intro p l e R s m args below meth c Z H locs cells slots rl B S hF M h1 h2 L
  obtain ⟨hd, rfl⟩ := hd
  exact lv_i2c B.1 B.2.1 hd rfl (k p l e R s m args below meth c Z H locs cells slots rl B S hF M h1 h2 L)
theorem Ex_i2b {x : Int32} (hd : Dc cc pc 1 pc' (.i2b))  (k : Ex T own cc nL d F pc' ls (.int x.toInt8.toInt32 :: st) I G b) : Ex T own cc nL d F pc ls (.int x :: st) I G b := by
  intro p l e R s m args below meth c Z H locs cells slots rl B S hF M h1 h2 L
  obtain ⟨hd, rfl⟩ := hd
  exact lv_i2b B.1 B.2.1 hd rfl (k p l e R s m args below meth c Z H locs cells slots rl B S hF M h1 h2 L)
theorem Ex_dup {v : Value} (hd : Dc cc pc 1 pc' (.dup)) (hc : v.category = 1) (k : Ex T own cc nL d F pc' ls (v :: v :: st) I G b) : Ex T own cc nL d F pc ls (v :: st) I G b := by
  intro p l e R s m args below meth c Z H locs cells slots rl B S hF M h1 h2 L
  obtain ⟨hd, rfl⟩ := hd
  exact lv_dup B.1 B.2.1 hd hc (k p l e R s m args below meth c Z H locs cells slots rl B S hF M h1 h2 L)
theorem Ex_dupx1 {v w : Value} (hd : Dc cc pc 1 pc' (.dup_x1)) (hc : v.category = 1) (hc2 : w.category = 1) (k : Ex T own cc nL d F pc' ls (v :: w :: v :: st) I G b) : Ex T own cc nL d F pc ls (v :: w :: st) I G b := by
  intro p l e R s m args below meth c Z H locs cells slots rl B S hF M h1 h2 L
  obtain ⟨hd, rfl⟩ := hd
  exact lv_dup_x1 B.1 B.2.1 hd hc hc2 (k p l e R s m args below meth c Z H locs cells slots rl B S hF M h1 h2 L)
theorem Ex_pop {v : Value} (hd : Dc cc pc 1 pc' (.pop)) (hc : v.category = 1) (k : Ex T own cc nL d F pc' ls st I G b) : Ex T own cc nL d F pc ls (v :: st) I G b := by
  intro p l e R s m args below meth c Z H locs cells slots rl B S hF M h1 h2 L
  obtain ⟨hd, rfl⟩ := hd
  exact lv_pop B.1 B.2.1 hd hc (k p l e R s m args below meth c Z H locs cells slots rl B S hF M h1 h2 L)
theorem Ex_dup2 {v w : Value} (hd : Dc cc pc 1 pc' (.dup2)) (hc : v.category = 1) (hc2 : w.category = 1) (k : Ex T own cc nL d F pc' ls (v :: w :: v :: w :: st) I G b) : Ex T own cc nL d F pc ls (v :: w :: st) I G b := by
  intro p l e R s m args below meth c Z H locs cells slots rl B S hF M h1 h2 L
  obtain ⟨hd, rfl⟩ := hd
  exact lv_dup2_11 B.1 B.2.1 hd hc hc2 (k p l e R s m args below meth c Z H locs cells slots rl B S hF M h1 h2 L)
theorem Ex_if_eq {x : Int32} {off : Int} {tgt : Nat} (hd : Dc cc pc 3 pc' (.ifCond .eq off)) (ht : (pc : Int) + off = (tgt : Int)) (kt : x = 0 → Ex T own cc nL d F tgt ls st I G b) (kf : ¬ x = 0 → Ex T own cc nL d F pc' ls st I G b) : Ex T own cc nL d F pc ls (.int x :: st) I G b := by
  intro p l e R s m args below meth c Z H locs cells slots rl B S hF M h1 h2 L
  obtain ⟨hd, rfl⟩ := hd
  exact lv_if_eq B.1 B.2.1 hd ht (fun h => kt h p l e R s m args below meth c Z H locs cells slots rl B S hF M h1 h2 L) (fun h => kf h p l e R s m args below meth c Z H locs cells slots rl B S hF M h1 h2 L)
theorem Ex_icmp_eq {x y : Int32} {off : Int} {tgt : Nat} (hd : Dc cc pc 3 pc' (.if_icmp .eq off)) (ht : (pc : Int) + off = (tgt : Int)) (kt : x = y → Ex T own cc nL d F tgt ls st I G b) (kf : ¬ x = y → Ex T own cc nL d F pc' ls st I G b) : Ex T own cc nL d F pc ls (.int y :: .int x :: st) I G b := by
  intro p l e R s m args below meth c Z H locs cells slots rl B S hF M h1 h2 L
  obtain ⟨hd, rfl⟩ := hd
  exact lv_icmp_eq B.1 B.2.1 hd ht (fun h => kt h p l e R s m args below meth c Z H locs cells slots rl B S hF M h1 h2 L) (fun h => kf h p l e R s m args below meth c Z H locs cells slots rl B S hF M h1 h2 L)
theorem Ex_if_ne {x : Int32} {off : Int} {tgt : Nat} (hd : Dc cc pc 3 pc' (.ifCond .ne off)) (ht : (pc : Int) + off = (tgt : Int)) (kt : ¬ x = 0 → Ex T own cc nL d F tgt ls st I G b) (kf : x = 0 → Ex T own cc nL d F pc' ls st I G b) : Ex T own cc nL d F pc ls (.int x :: st) I G b := by
  intro p l e R s m args below meth c Z H locs cells slots rl B S hF M h1 h2 L
  obtain ⟨hd, rfl⟩ := hd
  exact lv_if_ne B.1 B.2.1 hd ht (fun h => kt h p l e R s m args below meth c Z H locs cells slots rl B S hF M h1 h2 L) (fun h => kf h p l e R s m args below meth c Z H locs cells slots rl B S hF M h1 h2 L)
theorem Ex_icmp_ne {x y : Int32} {off : Int} {tgt : Nat} (hd : Dc cc pc 3 pc' (.if_icmp .ne off)) (ht : (pc : Int) + off = (tgt : Int)) (kt : ¬ x = y → Ex T own cc nL d F tgt ls st I G b) (kf : x = y → Ex T own cc nL d F pc' ls st I G b) : Ex T own cc nL d F pc ls (.int y :: .int x :: st) I G b := by
  intro p l e R s m args below meth c Z H locs cells slots rl B S hF M h1 h2 L
  obtain ⟨hd, rfl⟩ := hd
  exact lv_icmp_ne B.1 B.2.1 hd ht (fun h => kt h p l e R s m args below meth c Z H locs cells slots rl B S hF M h1 h2 L) (fun h => kf h p l e R s m args below meth c Z H locs cells slots rl B S hF M h1 h2 L)
theorem Ex_if_lt {x : Int32} {off : Int} {tgt : Nat} (hd : Dc cc pc 3 pc' (.ifCond .lt off)) (ht : (pc : Int) + off = (tgt : Int)) (kt : x < 0 → Ex T own cc nL d F tgt ls st I G b) (kf : ¬ x < 0 → Ex T own cc nL d F pc' ls st I G b) : Ex T own cc nL d F pc ls (.int x :: st) I G b := by
  intro p l e R s m args below meth c Z H locs cells slots rl B S hF M h1 h2 L
  obtain ⟨hd, rfl⟩ := hd
  exact lv_if_lt B.1 B.2.1 hd ht (fun h => kt h p l e R s m args below meth c Z H locs cells slots rl B S hF M h1 h2 L) (fun h => kf h p l e R s m args below meth c Z H locs cells slots rl B S hF M h1 h2 L)
theorem Ex_icmp_lt {x y : Int32} {off : Int} {tgt : Nat} (hd : Dc cc pc 3 pc' (.if_icmp .lt off)) (ht : (pc : Int) + off = (tgt : Int)) (kt : x < y → Ex T own cc nL d F tgt ls st I G b) (kf : ¬ x < y → Ex T own cc nL d F pc' ls st I G b) : Ex T own cc nL d F pc ls (.int y :: .int x :: st) I G b := by
  intro p l e R s m args below meth c Z H locs cells slots rl B S hF M h1 h2 L
  obtain ⟨hd, rfl⟩ := hd
  exact lv_icmp_lt B.1 B.2.1 hd ht (fun h => kt h p l e R s m args below meth c Z H locs cells slots rl B S hF M h1 h2 L) (fun h => kf h p l e R s m args below meth c Z H locs cells slots rl B S hF M h1 h2 L)
theorem Ex_if_ge {x : Int32} {off : Int} {tgt : Nat} (hd : Dc cc pc 3 pc' (.ifCond .ge off)) (ht : (pc : Int) + off = (tgt : Int)) (kt : 0 ≤ x → Ex T own cc nL d F tgt ls st I G b) (kf : ¬ 0 ≤ x → Ex T own cc nL d F pc' ls st I G b) : Ex T own cc nL d F pc ls (.int x :: st) I G b := by
  intro p l e R s m args below meth c Z H locs cells slots rl B S hF M h1 h2 L
  obtain ⟨hd, rfl⟩ := hd
  exact lv_if_ge B.1 B.2.1 hd ht (fun h => kt h p l e R s m args below meth c Z H locs cells slots rl B S hF M h1 h2 L) (fun h => kf h p l e R s m args below meth c Z H locs cells slots rl B S hF M h1 h2 L)
theorem Ex_icmp_ge {x y : Int32} {off : Int} {tgt : Nat} (hd : Dc cc pc 3 pc' (.if_icmp .ge off)) (ht : (pc : Int) + off = (tgt : Int)) (kt : y ≤ x → Ex T own cc nL d F tgt ls st I G b) (kf : ¬ y ≤ x → Ex T own cc nL d F pc' ls st I G b) : Ex T own cc nL d F pc ls (.int y :: .int x :: st) I G b := by
  intro p l e R s m args below meth c Z H locs cells slots rl B S hF M h1 h2 L
  obtain ⟨hd, rfl⟩ := hd
  exact lv_icmp_ge B.1 B.2.1 hd ht (fun h => kt h p l e R s m args below meth c Z H locs cells slots rl B S hF M h1 h2 L) (fun h => kf h p l e R s m args below meth c Z H locs cells slots rl B S hF M h1 h2 L)
theorem Ex_if_gt {x : Int32} {off : Int} {tgt : Nat} (hd : Dc cc pc 3 pc' (.ifCond .gt off)) (ht : (pc : Int) + off = (tgt : Int)) (kt : 0 < x → Ex T own cc nL d F tgt ls st I G b) (kf : ¬ 0 < x → Ex T own cc nL d F pc' ls st I G b) : Ex T own cc nL d F pc ls (.int x :: st) I G b := by
  intro p l e R s m args below meth c Z H locs cells slots rl B S hF M h1 h2 L
  obtain ⟨hd, rfl⟩ := hd
  exact lv_if_gt B.1 B.2.1 hd ht (fun h => kt h p l e R s m args below meth c Z H locs cells slots rl B S hF M h1 h2 L) (fun h => kf h p l e R s m args below meth c Z H locs cells slots rl B S hF M h1 h2 L)
theorem Ex_icmp_gt {x y : Int32} {off : Int} {tgt : Nat} (hd : Dc cc pc 3 pc' (.if_icmp .gt off)) (ht : (pc : Int) + off = (tgt : Int)) (kt : y < x → Ex T own cc nL d F tgt ls st I G b) (kf : ¬ y < x → Ex T own cc nL d F pc' ls st I G b) : Ex T own cc nL d F pc ls (.int y :: .int x :: st) I G b := by
  intro p l e R s m args below meth c Z H locs cells slots rl B S hF M h1 h2 L
  obtain ⟨hd, rfl⟩ := hd
  exact lv_icmp_gt B.1 B.2.1 hd ht (fun h => kt h p l e R s m args below meth c Z H locs cells slots rl B S hF M h1 h2 L) (fun h => kf h p l e R s m args below meth c Z H locs cells slots rl B S hF M h1 h2 L)
theorem Ex_if_le {x : Int32} {off : Int} {tgt : Nat} (hd : Dc cc pc 3 pc' (.ifCond .le off)) (ht : (pc : Int) + off = (tgt : Int)) (kt : x ≤ 0 → Ex T own cc nL d F tgt ls st I G b) (kf : ¬ x ≤ 0 → Ex T own cc nL d F pc' ls st I G b) : Ex T own cc nL d F pc ls (.int x :: st) I G b := by
  intro p l e R s m args below meth c Z H locs cells slots rl B S hF M h1 h2 L
  obtain ⟨hd, rfl⟩ := hd
  exact lv_if_le B.1 B.2.1 hd ht (fun h => kt h p l e R s m args below meth c Z H locs cells slots rl B S hF M h1 h2 L) (fun h => kf h p l e R s m args below meth c Z H locs cells slots rl B S hF M h1 h2 L)
theorem Ex_icmp_le {x y : Int32} {off : Int} {tgt : Nat} (hd : Dc cc pc 3 pc' (.if_icmp .le off)) (ht : (pc : Int) + off = (tgt : Int)) (kt : x ≤ y → Ex T own cc nL d F tgt ls st I G b) (kf : ¬ x ≤ y → Ex T own cc nL d F pc' ls st I G b) : Ex T own cc nL d F pc ls (.int y :: .int x :: st) I G b := by
  intro p l e R s m args below meth c Z H locs cells slots rl B S hF M h1 h2 L
  obtain ⟨hd, rfl⟩ := hd
  exact lv_icmp_le B.1 B.2.1 hd ht (fun h => kt h p l e R s m args below meth c Z H locs cells slots rl B S hF M h1 h2 L) (fun h => kf h p l e R s m args below meth c Z H locs cells slots rl B S hF M h1 h2 L)
theorem Ex_goto {off : Int} {tgt : Nat} (hd : Dc cc pc 3 pc' (.goto off)) (ht : (pc : Int) + off = (tgt : Int)) (k : Ex T own cc nL d F tgt ls st I G b) : Ex T own cc nL d F pc ls st I G b := by
  intro p l e R s m args below meth c Z H locs cells slots rl B S hF M h1 h2 L
  obtain ⟨hd, rfl⟩ := hd
  exact lv_goto B.1 B.2.1 hd ht (k p l e R s m args below meth c Z H locs cells slots rl B S hF M h1 h2 L)
theorem Ex_ifnonnull {off : Int} {tgt x : Nat} (hd : Dc cc pc 3 pc' (.ifnonnull off)) (ht : (pc : Int) + off = (tgt : Int)) (k : Ex T own cc nL d F tgt ls st I G b) : Ex T own cc nL d F pc ls (.ref x :: st) I G b := by
  intro p l e R s m args below meth c Z H locs cells slots rl B S hF M h1 h2 L
  obtain ⟨hd, rfl⟩ := hd
  exact lv_ifnonnull B.1 B.2.1 hd ht (k p l e R s m args below meth c Z H locs cells slots rl B S hF M h1 h2 L)
theorem Ex_ifnonnullN {off : Int} (hd : Dc cc pc 3 pc' (.ifnonnull off)) (k : Ex T own cc nL d F pc' ls st I G b) : Ex T own cc nL d F pc ls (.null :: st) I G b := by
  intro p l e R s m args below meth c Z H locs cells slots rl B S hF M h1 h2 L
  obtain ⟨hd, rfl⟩ := hd
  exact lv_ifnonnullN B.1 B.2.1 hd (k p l e R s m args below meth c Z H locs cells slots rl B S hF M h1 h2 L)
theorem Ex_tabOut {n : Nat} {dflt lo hi : Int} {offs : Array Int} {x : Int32} {tgt : Nat} (hd : Dc cc pc n pc' (.tableswitch dflt lo hi offs)) (h : x.toInt < lo ∨ hi < x.toInt) (ht : (pc : Int) + dflt = (tgt : Int)) (k : Ex T own cc nL d F tgt ls st I G b) : Ex T own cc nL d F pc ls (.int x :: st) I G b := by
  intro p l e R s m args below meth c Z H locs cells slots rl B S hF M h1 h2 L
  exact lv_tableOut B.1 B.2.1 hd.1 h ht (k p l e R s m args below meth c Z H locs cells slots rl B S hF M h1 h2 L)
theorem Ex_tabIn {n : Nat} {dflt lo hi : Int} {offs : Array Int} {x : Int32} {off : Int} {tgt : Nat} (hd : Dc cc pc n pc' (.tableswitch dflt lo hi offs)) (hx1 : ¬ x.toInt < lo) (hx2 : ¬ hi < x.toInt) (ho : offs[(x.toInt - lo).toNat]? = some off) (ht : (pc : Int) + off = (tgt : Int)) (k : Ex T own cc nL d F tgt ls st I G b) : Ex T own cc nL d F pc ls (.int x :: st) I G b := by
  intro p l e R s m args below meth c Z H locs cells slots rl B S hF M h1 h2 L
  exact lv_tableIn B.1 B.2.1 hd.1 hx1 hx2 ho ht (k p l e R s m args below meth c Z H locs cells slots rl B S hF M h1 h2 L)
theorem Ex_lookup {n : Nat} {dflt : Int} {ps : Array (Int × Int)} {x : Int32} {off : Int} {tgt : Nat} (hd : Dc cc pc n pc' (.lookupswitch dflt ps)) (hp : (ps.toList.zip (ps.toList.drop 1)).all (fun (a, next) => a.1 < next.1) = true) (ho : Op.lookupswitch.offset ps.toList dflt x.toInt = off) (ht : (pc : Int) + off = (tgt : Int)) (k : Ex T own cc nL d F tgt ls st I G b) : Ex T own cc nL d F pc ls (.int x :: st) I G b := by
  intro p l e R s m args below meth c Z H locs cells slots rl B S hF M h1 h2 L
  exact lv_lookup B.1 B.2.1 hd.1 hp ho ht (k p l e R s m args below meth c Z H locs cells slots rl B S hF M h1 h2 L)
theorem Ex_eqI {I' : MI} (h : I = I') (k : Ex T own cc nL d F pc ls st I' G b) : Ex T own cc nL d F pc ls st I G b := h ▸ k
theorem Ex_eqS {st' : List Value} (h : st = st') (k : Ex T own cc nL d F pc ls st' I G b) : Ex T own cc nL d F pc ls st I G b := h ▸ k
theorem Ex_top {x y : Int32} (h : x = y) (k : Ex T own cc nL d F pc ls (.int y :: st) I G b) : Ex T own cc nL d F pc ls (.int x :: st) I G b := h ▸ k
end M1
