/-! rows of rows come -/
def mnI (I : MI) (q : Nat) : MI := fun x y => if q ≤ x ∧ x < q + 14 then 0 else I x y
def mnG (G : MG) (q : Nat) : MG := (fun x y => if x = q then (if y < 13 then some (q + 1 + y) else none) else if q < x ∧ x < q + 14 then none else gR G x y, fun x y => if q ≤ x ∧ x < q + 14 then 0 else gL G x y, fun x => if x = q then 18 else if q < x ∧ x < q + 14 then 10 else gK G x, fun x => if q ≤ x ∧ x < q + 14 then 13 else gN G x, gS G + 14)
theorem mnI_o {I : MI} {q x : Nat} (h : ¬ (q ≤ x ∧ x < q + 14)) : mnI I q x = I x := funext fun _ => if_neg h
theorem mnI_z {I : MI} {q x y : Nat} (h : q ≤ x ∧ x < q + 14) : mnI I q x y = 0 := if_pos h
theorem mnG_K {G : MG} {q x : Nat} (h : ¬ (q ≤ x ∧ x < q + 14)) : gK (mnG G q) x = gK G x := by
  show (if x = q then 18 else if q < x ∧ x < q + 14 then 10 else gK G x) = _
  rw [if_neg (by omega), if_neg (by omega)]
theorem mnG_N {G : MG} {q x : Nat} (h : ¬ (q ≤ x ∧ x < q + 14)) : gN (mnG G q) x = gN G x := if_neg h
theorem mnG_R {G : MG} {q x : Nat} (h : ¬ (q ≤ x ∧ x < q + 14)) : gR (mnG G q) x = gR G x := by
  funext y
  show (if x = q then _ else if q < x ∧ x < q + 14 then none else gR G x y) = _
  rw [if_neg (by omega), if_neg (by omega)]
theorem mnG_L {G : MG} {q x : Nat} (h : ¬ (q ≤ x ∧ x < q + 14)) : gL (mnG G q) x = gL G x := funext fun _ => if_neg h
theorem cE_mn {T : TC} {I : MI} {G : MG} {q x : Nat} (h : ¬ (q ≤ x ∧ x < q + 14)) : cE T (mnI I q) (mnG G q) x = cE T I G x := by
  unfold cE arE flds fv
  rw [mnG_K h, mnG_N h, mnG_R h, mnG_L h, mnI_o h]
/-! the machine's own step of multianewarray, two counts of 13, ints: what it makes, one row behind another -/
def mnA (cA : ClassId) (q i : Nat) : Cell := arrV cA 13 (fun j => va_rf (if j < i then some (q + 1 + j) else none))
def mnB (cI : ClassId) : Cell := arrV cI 13 (fun _ => .int 0)
def mnT (cA cI : ClassId) (U : State) : Nat → State
  | 0 => U.pushCell (mnA cA U.heap.size 0)
  | i + 1 => ((mnT cA cI U i).pushCell (mnB cI)).setCell U.heap.size (mnA cA U.heap.size (i + 1))
theorem mnA_n (cA : ClassId) (q i : Nat) : (mnA cA q i).slots.size = 13 := arrV_size _ _ _
theorem mnB_n (cI : ClassId) : (mnB cI).slots.size = 13 := arrV_size _ _ _
theorem mnA_z (cA : ClassId) (q : Nat) : ({ cls := cA, slots := Array.replicate 13 .null, vm := .none } : Cell) = mnA cA q 0 := by
  rw [arrV_new]
  refine congrArg (arrV cA 13) (funext fun j => ?_)
  rw [if_neg (by omega)]
  rfl
theorem mnA_s (cA : ClassId) (q i : Nat) : (mnA cA q i).setSlot i (.ref (q + 1 + i)) = mnA cA q (i + 1) := by
  unfold mnA
  rw [arrV_store]
  refine congrArg (arrV cA 13) (funext fun j => ?_)
  show (if j = i then Value.ref (q + 1 + i) else va_rf (if j < i then some (q + 1 + j) else none)) = _
  by_cases e : j = i
  · subst e
    rw [if_pos rfl, if_pos (by omega)]
    rfl
  · by_cases h : j < i
    · rw [if_neg e, if_pos h, if_pos (by omega)]
    · rw [if_neg e, if_neg h, if_neg (by omega)]
theorem mnT_f (cA cI : ClassId) (U : State) (i : Nat) : (mnT cA cI U i).heap.size = U.heap.size + 1 + i ∧ (mnT cA cI U i).heap[U.heap.size]? = some (mnA cA U.heap.size i) ∧ (∀ a, a < U.heap.size → (mnT cA cI U i).heap[a]? = U.heap[a]?) ∧ (∀ j, j < i → (mnT cA cI U i).heap[U.heap.size + 1 + j]? = some (mnB cI)) ∧ (mnT cA cI U i).vm = U.vm ∧ (mnT cA cI U i).slotsUsed = U.slotsUsed + 13 + 13 * i ∧ (mnT cA cI U i).topJava? = U.topJava? := by
  induction i with
  | zero =>
    have hz : (mnT cA cI U 0).heap = U.heap.push (mnA cA U.heap.size 0) := rfl
    rw [hz]
    refine ⟨by rw [Array.size_push], by rw [Array.getElem?_push_size], fun a ha => ?_, fun j hj => absurd hj (by omega), rfl, ?_, rfl⟩
    · rw [Array.getElem?_push, if_neg (by omega)]
    · show U.slotsUsed + (mnA cA U.heap.size 0).slots.size = _
      rw [mnA_n]
  | succ i ih =>
    obtain ⟨h1, h2, h3, h4, h5, h6, h7⟩ := ih
    have hz : (mnT cA cI U (i + 1)).heap = ((mnT cA cI U i).heap.push (mnB cI)).setIfInBounds U.heap.size (mnA cA U.heap.size (i + 1)) := rfl
    rw [hz]
    refine ⟨?_, ?_, fun a ha => ?_, fun j hj => ?_, h5, ?_, h7⟩
    · rw [Array.size_setIfInBounds, Array.size_push]
      omega
    · rw [Array.getElem?_setIfInBounds, if_pos rfl, if_pos (by rw [Array.size_push]; omega)]
    · rw [Array.getElem?_setIfInBounds, if_neg (by omega), Array.getElem?_push, if_neg (by omega)]
      exact h3 a ha
    · rw [Array.getElem?_setIfInBounds, if_neg (by omega), Array.getElem?_push]
      by_cases e : j = i
      · rw [if_pos (by omega)]
      · rw [if_neg (by omega)]
        exact h4 j (by omega)
    · show (mnT cA cI U i).slotsUsed + (mnB cI).slots.size = _
      rw [h6, mnB_n]
      omega
theorem mnT_top (cA cI : ClassId) (U : State) (f : JFrame) (i : Nat) : mnT cA cI (U.setTop f) i = (mnT cA cI U i).setTop f := by
  induction i with
  | zero => rfl
  | succ i ih =>
    show ((mnT cA cI (U.setTop f) i).pushCell (mnB cI)).setCell U.heap.size (mnA cA U.heap.size (i + 1)) = _
    rw [ih]
    rfl
section MnW
variable {E : CtlPost} {e : Env} {dd : Bool} {acts : List Action} {U : State} {cA cI c0 : ClassId} {kA kI : Class} {n k : Int32}
theorem mn_in {Q : Addr → Pre} (hk : U.vm.classes[cI]? = some kI) (hkind : kI.kind = .array c0 .int) (hn : ¬ k < 0) (h13 : k.toNatClampNeg = 13) (hl : 13 ≤ e.platform.arrayLengthLimit) (hh : 52 ≤ e.platform.maxHeapBytes) (hc : U.heap.size < e.platform.maxCells) (hs : U.slotsUsed + 13 ≤ e.platform.maxSlots) (hq : ∀ acts', Q U.heap.size dd acts' (U.pushCell (mnB cI))) : wp (multianewarray.make cI [k]) Q E e dd acts U := by
  unfold multianewarray.make
  simp only [wp_bind', W.ite, hn, if_false, wp_pure', W.theClass, hk, Option.some.injEq, exists_eq_left', hkind, h13]
  refine W.newArray_of hk hkind (by omega) (by show ¬ 13 * 4 > _; omega) hc hs rfl (fun a => ?_)
  have hb : mnB cI = ({ cls := cI, slots := Array.replicate 13 (defaultValue .int), vm := .none } : Cell) := by
    rw [arrV_new]
    rfl
  have h := hq a
  rw [hb] at h
  exact h
theorem mn_loop (hkA : U.vm.classes[cA]? = some kA) (hkindA : kA.kind = .array cI (.array .int)) (hkI : U.vm.classes[cI]? = some kI) (hkindI : kI.kind = .array c0 .int) (hn : ¬ k < 0) (h13 : k.toNatClampNeg = 13) (hl : 13 ≤ e.platform.arrayLengthLimit) (hh : 52 ≤ e.platform.maxHeapBytes) (hc : U.heap.size + 14 ≤ e.platform.maxCells) (hs : U.slotsUsed + 182 ≤ e.platform.maxSlots) (f : Nat → PUnit → Sem (ForInStep PUnit)) (hf : ∀ i u, f i u = (do writeLoc U.heap.size i (.ref (← multianewarray.make cI [k])); Pure.pure (ForInStep.yield PUnit.unit))) {Q : PUnit → Pre} (hq : ∀ d' acts', Q PUnit.unit d' acts' (mnT cA cI U 13)) : wp (forIn (List.range' 0 13) PUnit.unit f) Q E e dd acts (mnT cA cI U 0) := by
  refine wp_forIn_inv (fun rest s' => ∃ i, i ≤ 13 ∧ rest = List.range' i (13 - i) ∧ s' = mnT cA cI U i) f _ ⟨0, by omega, rfl, rfl⟩ ?_ ?_
  · rintro x rest s' d' acts' Q' ⟨i, hi, hr, rfl⟩ hQ
    have hlt : i < 13 := by
      rcases Nat.lt_or_ge i 13 with h | h
      · exact h
      · rw [show 13 - i = 0 by omega] at hr
        cases hr
    rw [show 13 - i = (12 - i) + 1 by omega, List.range'_succ] at hr
    injection hr with e1 e2
    subst e1
    obtain ⟨f1, f2, f3, f4, f5, f6, f7⟩ := mnT_f cA cI U x
    rw [hf]
    simp only [wp_bind']
    refine mn_in (by rw [f5]; exact hkI) hkindI hn h13 hl hh (by omega) (by omega) fun a1 => ?_
    simp only [wp_bind', W.writeLoc, wp_pure']
    refine ⟨mnA cA U.heap.size x, ?_, (by intro h; cases h), ?_, ?_, ?_⟩
    · show ((mnT cA cI U x).heap.push _)[U.heap.size]? = _
      rw [Array.getElem?_push, if_neg (by omega)]
      exact f2
    · rw [mnA_n]
      exact hlt
    · show (mnT cA cI U x).fitsSlot cA .none x _ = true
      simp [State.fitsSlot, State.slotType?, f5, hkA, hkindA, fits]
    · have e9 : ((mnT cA cI U x).pushCell (mnB cI)).setCell U.heap.size ((mnA cA U.heap.size x).setSlot x (.ref (mnT cA cI U x).heap.size)) = mnT cA cI U (x + 1) := by
        rw [f1, mnA_s]
        rfl
      rw [e9]
      exact hQ _ _ _ ⟨x + 1, hlt, by rw [show 13 - (x + 1) = 12 - x by omega]; exact e2, rfl⟩
  · rintro s' d' acts' ⟨i, hi, hr, rfl⟩
    have hi13 : i = 13 := by
      rcases Nat.lt_or_ge i 13 with h | h
      · rw [show 13 - i = (12 - i) + 1 by omega, List.range'_succ] at hr
        cases hr
      · omega
    subst hi13
    exact hq _ _
theorem mn_make {Q : Addr → Pre} (hkA : U.vm.classes[cA]? = some kA) (hkindA : kA.kind = .array cI (.array .int)) (hkI : U.vm.classes[cI]? = some kI) (hkindI : kI.kind = .array c0 .int) (hn0 : ¬ n < 0) (hz : (n == 0) = false) (hn13 : n.toNatClampNeg = 13) (hn : ¬ k < 0) (h13 : k.toNatClampNeg = 13) (hl : 13 ≤ e.platform.arrayLengthLimit) (hh : 52 ≤ e.platform.maxHeapBytes) (hc : U.heap.size + 14 ≤ e.platform.maxCells) (hs : U.slotsUsed + 182 ≤ e.platform.maxSlots) (hq : ∀ d' acts', Q U.heap.size d' acts' (mnT cA cI U 13)) : wp (multianewarray.make cA [n, k]) Q E e dd acts U := by
  unfold multianewarray.make
  simp only [wp_bind', W.ite, hn0, if_false, wp_pure', W.theClass, hkA, Option.some.injEq, exists_eq_left', hkindA, hn13]
  refine W.newArray_of hkA hkindA (by omega) (by show ¬ 13 * 4 > _; omega) (by omega) (by omega) rfl (fun a => ?_)
  simp only [hz, Bool.false_eq_true, if_false, wp_pure', wp_bind', Std.Legacy.Range.forIn_eq_forIn_range']
  have h0 : U.pushCell ({ cls := cA, slots := Array.replicate 13 .null, vm := .none } : Cell) = mnT cA cI U 0 := by
    rw [mnA_z cA U.heap.size]
    rfl
  rw [h0]
  refine mn_loop hkA hkindA hkI hkindI hn h13 hl hh hc hs _ (fun i u => rfl) (fun d' acts' => ?_)
  exact hq d' acts'
theorem mn_sem {Q : Unit → Pre} {g : JFrame} {rest : List Value} {ix : Nat} (ht : U.topJava?.isSome) (hr : U.vm.classReady g.method.cls ix cA) (hst : g.stack = .int k :: .int n :: rest) (hkA : U.vm.classes[cA]? = some kA) (hkindA : kA.kind = .array cI (.array .int)) (hkI : U.vm.classes[cI]? = some kI) (hkindI : kI.kind = .array c0 .int) (hn0 : ¬ n < 0) (hz : (n == 0) = false) (hn13 : n.toNatClampNeg = 13) (hn : ¬ k < 0) (h13 : k.toNatClampNeg = 13) (hl : 13 ≤ e.platform.arrayLengthLimit) (hh : 52 ≤ e.platform.maxHeapBytes) (hc : U.heap.size + 14 ≤ e.platform.maxCells) (hs : U.slotsUsed + 182 ≤ e.platform.maxSlots) (hq : ∀ acts', Q () true acts' ((mnT cA cI U 13).setTop { g with stack := .ref U.heap.size :: rest })) : wp (multianewarray.sem ix 2) Q E e dd acts (U.setTop g) := by
  unfold multianewarray.sem
  simp only [wp_bind', W.resolveClassAt_ready (State.method?_setTop g ht) hr]
  refine (popN_top (args := [.int n, .int k]) (rest := rest) ht hst).mpr ?_
  simp only [List.mapM_cons, List.mapM_nil, wp_bind', wp_pure']
  refine mn_make (U := U.setTop { g with stack := rest }) hkA hkindA hkI hkindI hn0 hz hn13 hn h13 hl hh hc hs fun d' acts' => ?_
  have ht13 : (mnT cA cI U 13).topJava?.isSome := by
    rw [(mnT_f cA cI U 13).2.2.2.2.2.2]
    exact ht
  rw [mnT_top]
  simp only [wp_bind', W.mark, W.pushRef]
  refine ⟨_, State.topJava?_setTop' _ ht13, ?_⟩
  rw [State.setTop_setTop]
  exact hq _
theorem mn_cold {Q : Unit → Pre} {g : JFrame} {ix : Nat} {vm' : Vm} (hs : U.topJava?.isSome) (hg : (Jvm.resolveClass g.method.cls ix).Gives e.toSetting U.vm (.ok cA) vm') (hr : vm'.classReady g.method.cls ix cA) (hsz : vm'.classes.size ≤ U.vm.classes.size) : wp (multianewarray.sem ix 2) Q E e dd acts (U.setTop g) ↔ wp (multianewarray.sem ix 2) Q E e dd acts ((U.setVm vm').setTop g) := by
  simp only [multianewarray.sem, wp_bind']
  exact W.resolveClassAt_transfer (s := U.setTop g) (State.method?_setTop g hs) hg hr hsz
end MnW
theorem mnT_st {p : Program} {l : Launch} {e : Env} {R : Room} {s : State} {m : MethodId} {args : Array Value} {below : List Frame} {meth : Method} {c : Code} {U : State} {locs : List Loc} {cells slots : Nat} (X : Stand p l e R s m args below meth c U locs cells slots) (cA cI : ClassId) (i : Nat) : Stand p l e R s m args below meth c (mnT cA cI U i) locs (cells + 1 + i) (slots + 13 + 13 * i) := by
  have hle : s.heap.size ≤ U.heap.size := X.same.2.1
  induction i with
  | zero =>
    have h := X.pushed (mnA cA U.heap.size 0)
    rw [mnA_n] at h
    exact h
  | succ i ih =>
    obtain ⟨f1, f2, f3, f4, f5, f6, f7⟩ := mnT_f cA cI U i
    have h := ih.pushed (mnB cI)
    rw [mnB_n] at h
    have hcell : ((mnT cA cI U i).pushCell (mnB cI)).heap[U.heap.size]? = some (mnA cA U.heap.size i) := by
      show ((mnT cA cI U i).heap.push _)[U.heap.size]? = _
      rw [Array.getElem?_push, if_neg (by omega)]
      exact f2
    have h2 := h.stored hcell i (.ref (U.heap.size + 1 + i))
    rw [mnA_s] at h2
    have h3 := h2.dropFresh (by intro x hx; rw [List.mem_singleton.mp hx]; exact hle)
    have e1 : slots + 13 + 13 * i + 13 = slots + 13 + 13 * (i + 1) := by omega
    rw [e1] at h3
    exact h3
theorem mn_walk {p : Program} {l : Launch} {e : Env} {R : Room} {s : State} {m : MethodId} {args : Array Value} {below : List Frame} {meth : Method} {c : Code} {U : State} {locs : List Loc} {cells slots : Nat} (X : Stand p l e R s m args below meth c U locs cells slots) (hexec : p.tables.exec = Jvm.exec) {own : String} {ix : Nat} {cA cI c0 : ClassId} {kA kI : Class} {n k : Int32} {rest : List Value} (hown : s.vm.findClass own = some m.cls) (hclink : (Cond.classLink own ix "[[I").before args s = true) (hfA : s.vm.findClass "[[I" = some cA) (hkA : s.vm.classes[cA]? = some kA) (hkindA : kA.kind = .array cI (.array .int)) (hkI : s.vm.classes[cI]? = some kI) (hkindI : kI.kind = .array c0 .int) {g : JFrame} (hg : g.method = m) (hdg : decode c.code g.pc = .ok (.multianewarray ix 2, 4)) (hst : g.stack = .int k :: .int n :: rest) (hn0 : ¬ n < 0) (hz : (n == 0) = false) (hn13 : n.toNatClampNeg = 13) (hn : ¬ k < 0) (h13 : k.toNatClampNeg = 13) (hcells : cells + 14 ≤ R.cells) (hslots : slots + 182 ≤ R.slots) : ∃ vm₁ : Vm, Stand p l e R s m args below meth c (mnT cA cI (U.setVm vm₁) 13) locs (cells + 14) (slots + 182) ∧ ∀ target, Steps p.tables e below ((mnT cA cI (U.setVm vm₁) 13).setTop { g with pc := g.pc + 4, stack := .ref U.heap.size :: rest }) target → Steps p.tables e below (U.setTop g) target := by
  subst hg
  have hpl : e.platform.magicAccessors = ({} : Platform).magicAccessors := by rw [X.admits.platform]
  obtain ⟨cc, hfcc, hcl⟩ := Cond.classLink_spec hown hclink e.platform hpl
  cases hfA.symm.trans hfcc
  obtain ⟨hg₁, hwarm₁, hready₁⟩ := State.classEntry (e := e) X.warmed hcl
  have hsz : (U.vm.noted g.method.cls ix (.cls cA)).classes.size ≤ U.vm.classes.size := Nat.le_of_eq (Vm.size_noted _ _ _ _)
  generalize U.vm.noted g.method.cls ix (.cls cA) = vm₁ at hg₁ hwarm₁ hready₁ hsz
  have hal : s.vm.Alike vm₁ := hwarm₁.alike
  obtain ⟨kA₁, hkA₁, heA⟩ := hal.2.2 _ _ hkA
  obtain ⟨kI₁, hkI₁, heI⟩ := hal.2.2 _ _ hkI
  have hkindA₁ : kA₁.kind = .array cI (.array .int) := by rw [heA]; exact hkindA
  have hkindI₁ : kI₁.kind = .array c0 .int := by rw [heI]; exact hkindI
  have hl : 13 ≤ e.platform.arrayLengthLimit := by rw [Launch.admits_arrayLengthLimit X.admits]; omega
  have hh : 52 ≤ e.platform.maxHeapBytes := by rw [Launch.admits_maxHeapBytes X.admits]; omega
  obtain ⟨hr1, hr2⟩ := X.roomAbove hcells hslots
  refine ⟨vm₁, mnT_st (X.noted hwarm₁) cA cI 13, fun target hrest => ?_⟩
  refine Steps.instr (c := c) (by simpa using X.here) ?_
  rw [hdg]
  show wpRun (p.tables.exec (.multianewarray ix 2)) _ _ e (U.setTop g)
  rw [hexec]
  show wp (multianewarray.sem ix 2) _ _ e false [] (U.setTop g)
  refine (mn_cold X.here.top hg₁ hready₁ hsz).mpr ?_
  refine mn_sem (U := U.setVm vm₁) X.here.top hready₁ hst hkA₁ hkindA₁ hkI₁ hkindI₁ hn0 hz hn13 hn h13 hl hh hr1 hr2 fun acts' => ?_
  intro acts2
  rw [afterInstr_ok]
  exact hrest
theorem mn_nm : "[" ++ (FieldType.array .int).toString = "[[I" := by decide +kernel
set_option maxRecDepth 100000 in
set_option maxHeartbeats 4000000 in
theorem Ex_mna {T : TC} {cc : ByteArray} {nL d pc pc' b1 b2 q : Nat} {F : FinT} {ls : List (Option Value)} {st : List Value} {I : MI} {G : MG} (hd : Dc cc pc 4 pc' (.multianewarray 9 2)) (hq : n0 T + gS G = q) (k : Ex T RX2 cc nL d F pc' ls (.ref q :: st) (mnI I q) (mnG G q) (b1, b2)) : Ex T RX2 cc nL d F pc ls (.int (nI 13) :: .int (nI 13) :: st) I G (b1 + 14, b2 + 182) := by
  intro p l e R s m args below meth c Z H locs cells slots rl B S hF M h1 h2 L
  obtain ⟨hd, rfl⟩ := hd
  have h1' : cells + (b1 + 14) ≤ R.cells := h1
  have h2' : slots + (b2 + 182) ≤ R.slots := h2
  have hc13 : (nI 13).toNatClampNeg = 13 := nI_clamp (by decide)
  intro U hU Xs
  have hUh : U.heap = H := hU
  have hsz := M.1.trans hq
  have h18 : s.vm.findClass "[[I" = some (tC T 18) := by
    have h := va_RA_p (by intro C h; cases h) (S.2.1 18 (by omega) (by omega)).2
    rw [show "[" ++ (aY 18).toString = "[[I" from mn_nm] at h
    exact h
  obtain ⟨comp, cA, kA, hcomp, -, hkA, hkindA, hnameA⟩ := arrayOverA_spec (va_AOA.use (A := args) S.2.2.2.2.1)
  rw [mn_nm] at hnameA
  have eA : cA = tC T 18 := Option.some.inj (hnameA.symm.trans h18)
  have eC : comp = tC T 10 := by
    have h10 : s.vm.findClass ("[" ++ FieldType.int.toString) = some (tC T 10) := va_RA_p (by intro C h; cases h) (S.2.1 10 (by omega) (by omega)).2
    have e9 : (FieldType.array .int).toString = "[" ++ FieldType.int.toString := by decide +kernel
    rw [e9] at hcomp
    exact Option.some.inj (hcomp.symm.trans h10)
  subst eA
  subst eC
  obtain ⟨kI, hkI, c0, hkindI⟩ := ((S.2.1 10 (by omega) (by omega)).1 0 (fun _ => .null)).2
  have key := mn_walk (U := U) Xs B.1 B.2.2.2.1 (B.2.2.2.2.1 _ lX2_9) h18 hkA hkindA hkI hkindI (g := F0 m pc rl (.int (nI 13) :: .int (nI 13) :: st)) rfl (by rw [B.2.1]; exact hd) rfl (nI_pos (by decide)) (by decide) hc13 (nI_pos (by decide)) hc13 (by omega) (by omega)
  obtain ⟨vm₁, X', step⟩ := key
  obtain ⟨f1, f2, fo, fi, -, -, -⟩ := mnT_f (tC T 18) (tC T 10) (U.setVm vm₁) 13
  generalize mnT (tC T 18) (tC T 10) (U.setVm vm₁) 13 = W9 at X' step f1 f2 fo fi
  rw [show (U.setVm vm₁).heap = H from hUh, hsz] at f1 f2 fo fi
  have hM : Mem T (mnI I q) (mnG G q) W9.heap locs := by
    refine ⟨by rw [f1]; show _ = n0 T + (gS G + 14); omega, ?_, ?_⟩
    · intro i x hx
      simp only [wL, List.getElem?_map, Option.map_eq_some_iff] at hx
      obtain ⟨j, hj, rfl⟩ := hx
      obtain ⟨hj1, hj2⟩ := List.getElem?_eq_some_iff.mp hj
      simp at hj2
      subst hj2
      rw [List.length_range] at hj1
      have hj1' : i < gS G + 14 := hj1
      by_cases e0 : n0 T + i < q
      · have hlt : i < gS G := by omega
        have hP := M.2.1 i (n0 T + i, cE T I G (n0 T + i)) (by simp [wL, List.getElem?_map, List.getElem?_range hlt])
        show va_at (tD T) vwCl (n0 T + i, cE T (mnI I q) (mnG G q) (n0 T + i)) W9.heap
        rw [cE_mn (by omega)]
        exact hP.kept (fo _ (by show n0 T + i < q; omega))
      · by_cases e1 : n0 T + i = q
        · rw [e1, cE_ref (G := mnG G q) (k := 18) (if_pos rfl) (by omega), show gN (mnG G q) q = 13 from if_pos (by omega)]
          show W9.heap[q]? = some (vp_cell _ _)
          rw [f2, vp_cell_q]
          unfold mnA
          congr 2
          funext y
          show _ = va_rf (if q = q then (if y < 13 then some (q + 1 + y) else none) else _)
          rw [if_pos rfl]
        · obtain ⟨y, hy, ey⟩ : ∃ y, y < 13 ∧ n0 T + i = q + 1 + y := ⟨n0 T + i - (q + 1), by omega, by omega⟩
          rw [ey, cE_int (G := mnG G q) (k := 10) (by show (if q + 1 + y = q then 18 else if q < q + 1 + y ∧ q + 1 + y < q + 14 then 10 else _) = 10; rw [if_neg (by omega), if_pos (by omega)]) (by omega) (by omega), show gN (mnG G q) (q + 1 + y) = 13 from if_pos (by omega)]
          show W9.heap[q + 1 + y]? = some (vp_cell _ _)
          rw [fi y hy, vp_cell_i]
          unfold mnB
          congr 2
          funext z
          rw [mnI_z (by omega)]
    · obtain ⟨s1, s2, s3⟩ := M.2.2
      have hm := M.1
      exact ⟨by omega, fun x g1 g2 => (fo x (by omega)).trans (s2 x g1 g2), s3⟩
  have kW := k p l e R s m args below meth c Z W9.heap locs (cells + 14) (slots + 182) rl B S hF hM (by show cells + 14 + b1 ≤ R.cells; omega) (by show slots + 182 + b2 ≤ R.slots; omega) L
  obtain ⟨t, a1, b1'⟩ := kW W9 rfl X'
  rw [hU, hsz] at step
  exact ⟨t, step t a1, b1'⟩
