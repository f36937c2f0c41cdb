/-! methods, calls, ends -/
theorem AOA_al {t : FieldType} {u U : State} (hal : u.vm.Alike U.vm) (h : va_AOA t u) : va_AOA t U := by
  have h2 : (Cond.arrayOver (.array t)).before #[] (u.setVm U.vm) = true := by rw [Cond.arrayOver_setVmC hal]; exact h
  exact h2
theorem Kn.same {T : TC} {u U : State} (hv : u.vm = U.vm) (h : Kn T u) : Kn T U := by
  have hal : u.vm.Alike U.vm := by rw [hv]; exact Vm.Alike.refl _
  exact ⟨⟨va_Z.moved hal h.1.1, va_X.moved hal h.1.2.1, h.1.2.2.1, va_Nw.same rfl hv h.1.2.2.2⟩, va_Z.moved hal h.2.1, va_Zq.moved hal h.2.2.1, fun i hi => vk_R.same hv.symm (h.2.2.2.1 i hi), vk_S.moved hal h.2.2.2.2⟩
theorem Kn.warm {T : TC} {s U : State} (hW : s.WarmedH U.vm) (h : Kn T s) : Kn T U := by
  have hal : s.vm.Alike U.vm := hW.alike
  exact ⟨⟨va_Z.moved hal h.1.1, va_X.moved hal h.1.2.1, h.1.2.2.1, va_Nw.warmF hW h.1.2.2.2⟩, va_Z.moved hal h.2.1, va_Zq.moved hal h.2.2.1, fun i hi => vk_R.warm hW (h.2.2.2.1 i hi), vk_S.moved hal h.2.2.2.2⟩
theorem St.same {T : TC} {u U : State} (hv : u.vm = U.vm) (S : St T u) : St T U := by
  have hal : u.vm.Alike U.vm := by rw [hv]; exact Vm.Alike.refl _
  exact ⟨va_K.moved hal S.1, fun k h h9 => ⟨arrOfT_moved hal (S.2.1 k h h9).1, va_RA.moved hal (S.2.1 k h h9).2⟩, fun a i x h hw => va_Nw.same rfl hv (S.2.2.1 a i x h hw), fun k h h9 => va_AO.moved hal (S.2.2.2.1 k h h9), AOA_al hal S.2.2.2.2.1, Kn.same hv S.2.2.2.2.2⟩
theorem St.warm {T : TC} {s U : State} (hW : s.WarmedH U.vm) (S : St T s) : St T U := by
  have hal : s.vm.Alike U.vm := hW.alike
  exact ⟨va_K.moved hal S.1, fun k h h9 => ⟨arrOfT_moved hal (S.2.1 k h h9).1, va_RA.moved hal (S.2.1 k h h9).2⟩, fun a i x h hw => va_Nw.warmM hW (S.2.2.1 a i x h hw), fun k h h9 => va_AO.moved hal (S.2.2.2.1 k h h9), AOA_al hal S.2.2.2.2.1, Kn.warm hW S.2.2.2.2.2⟩
theorem Mem.locs {T : TC} {I : MI} {G : MG} {H : Heap} {l1 l2 : List Loc} (M : Mem T I G H l1) (h : ∀ q ∈ l2, aT T q.base) : Mem T I G H l2 := ⟨M.1, M.2.1, M.2.2.1, M.2.2.2.1, h⟩
/-- a method: its name, code, locals, return type -/
abbrev YD : Type := MethodName × ByteArray × Nat × Option FieldType
def QQ (T : TC) (Q : Option Value → MI → MG → Prop) : Array Value → State → Outcome → State → Prop := fun _ _ oc t => ∃ (v : Option Value) (I : MI) (G : MG), oc = .returned v ∧ Q v I G ∧ Mem T I G t.heap []
def fm (T : TC) (nm : String) (ret : Option FieldType) (Q : Option Value → MI → MG → Prop) : FinT := fun _ _ _ R s _ args below meth _ Z => Z = MQ below (QQ T Q) args s R.cells R.slots (aT T) ∧ meth.sig.returnType = ret ∧ meth.locks = false ∧ meth.name = nm
def rmOf (d mc ms : Nat) : Room := { frames := d, cells := mc, slots := ms, locals := 64 * d }
/-- a contract: called with these values in this memory, with room for d frames and mc cells of ms slots, the method comes back so that Q -/
def Ok (T : TC) (Y : YD) (d mc ms : Nat) (as : List Value) (I : MI) (G : MG) (Q : Option Value → MI → MG → Prop) : Prop := ∀ l : Launch, Met l Y.1 (Cond.code Y.1 Y.2.1 Y.2.2.1 Y.2.2.2 :: gtbl) (rmOf d mc ms) (va_Pc as (fun U => St T U ∧ Mem T I G U.heap [])) (QQ T Q) mc ms (aT T)
theorem Ok.mono {T : TC} {Y : YD} {d mc ms : Nat} {as : List Value} {I : MI} {G : MG} {Q Q' : Option Value → MI → MG → Prop} (h : Ok T Y d mc ms as I G Q) (hq : ∀ v I' G', Q v I' G' → Q' v I' G') : Ok T Y d mc ms as I G Q' := by
  intro l p e
  have h1 := h l p e
  intro ha hc hk s m args below hf happ hP hT
  obtain ⟨t, oc, a1, a2, a3, ⟨⟨v, I', G', b1, b2, b3⟩, b4⟩⟩ := h1 ha hc hk s m args below hf happ hP hT
  exact ⟨t, oc, a1, a2, a3, ⟨⟨v, I', G', b1, hq _ _ _ b2, b3⟩, b4⟩⟩
def ent (nL : Nat) (as : List Value) : List (Option Value) := as.map some ++ List.replicate (nL - as.length) none
theorem mem_args {as : List Value} (hc : ∀ v ∈ as, v.category = 1) : ∀ (k i : Nat) (v : Value), as[i]? = some v → (k + i, v) ∈ lv_args k as := by
  induction as with
  | nil => intro k i v h; simp at h
  | cons a as ih =>
    intro k i v h
    cases i with
    | zero =>
      simp at h
      subst h
      simp [lv_args]
    | succ i =>
      simp at h
      have ha : ¬ a.category = 2 := by rw [hc a List.mem_cons_self]; decide
      simp only [lv_args, if_neg ha]
      refine List.mem_cons_of_mem _ ?_
      have := ih (fun v hv => hc v (List.mem_cons_of_mem _ hv)) (k + 1) i v h
      rwa [show k + 1 + i = k + (i + 1) by omega] at this
theorem lg_len {as : List Value} (hc : ∀ v ∈ as, v.category = 1) : (lg_sl as).length = as.length := by
  induction as with
  | nil => rfl
  | cons a as ih =>
    have ha : ¬ a.category = 2 := by rw [hc a List.mem_cons_self]; decide
    have h1 := ih (fun v hv => hc v (List.mem_cons_of_mem _ hv))
    simp only [lg_sl, List.flatMap_cons, if_neg ha, List.length_append, List.length_cons, List.length_nil] at h1 ⊢
    omega
theorem ent_ok {nL : Nat} {as : List Value} (hc : ∀ v ∈ as, v.category = 1) (hn : as.length ≤ nL) : LocOk nL (ent nL as) (lg_sl as ++ List.replicate (nL - (lg_sl as).length) Slot.unset).toArray := by
  have hl := lv_entry as (n := nL) (by rw [lg_len hc]; exact hn)
  refine ⟨hl.1, hl.2.1, fun i v h => ?_⟩
  have h2 : as[i]? = some v := by
    unfold ent at h
    by_cases hi : i < as.length
    · rw [List.getElem?_append_left (by simpa using hi)] at h
      simpa using h
    · rw [List.getElem?_append_right (by simpa using hi)] at h
      have := List.mem_of_getElem? h
      rw [List.mem_replicate] at this
      cases this.2
  have h3 := mem_args hc 0 i v h2
  rw [Nat.zero_add] at h3
  exact hl.2.2 (i, v) h3
/-- a method's contract out of its walk -/
theorem Ok_of {T : TC} {Y : YD} {own : String} {d mc ms : Nat} {as : List Value} {I : MI} {G : MG} {Q : Option Value → MI → MG → Prop} (hy : plainName Y.1.cls = true) (ho : Y.1.cls = own) (hc : ∀ v ∈ as, v.category = 1) (hn : as.length ≤ Y.2.2.1)
    (h : Ex T own Y.2.1 Y.2.2.1 d (fm T Y.1.name Y.2.2.2 Q) 0 (ent Y.2.2.1 as) [] I G (mc, ms)) : Ok T Y d mc ms as I G Q := by
  intro l
  refine Met.ofW (cc := Y.2.1) (maxL := Y.2.2.1) (ret := Y.2.2.2) hy rfl ?_
  intro p e s m args below meth c s₁ B hml hv
  obtain ⟨rfl, hS, hM⟩ := hv
  subst ho
  have hts := atoms_spec (ws := Cond.code Y.1 Y.2.1 Y.2.2.1 Y.2.2.2 :: gtbl) B.pre
  rw [lg_entry_eq]
  exact h p l e _ s m _ below meth c _ s.heap [] 0 0 _ ⟨B.exec, B.bytes, hml, findClass_of_methodNamed B.named, fun w hw => hts w (List.mem_cons_of_mem _ hw), Nat.le_refl _, Nat.le_refl _⟩ hS ⟨rfl, B.returns, B.notSynchronized, (name_of_methodNamed B.named B.method).1⟩ hM (by show 0 + mc ≤ mc; omega) (by show 0 + ms ≤ ms; omega) (ent_ok hc hn)
section M4
variable {T : TC} {own : String} {cc : ByteArray} {nL d pc pc' : Nat} {F : FinT} {ls : List (Option Value)} {st : List Value} {I : MI} {G : MG} {b : Nat × Nat} {nm : String} {Q : Option Value → MI → MG → Prop}
theorem Ex_iret {ty : FieldType} {v : Int32} (hd : Dc cc pc 1 pc' .ireturn) (hn : narrow ty (.int v) = .int v) (hq : Q (some (.int v)) I G) : Ex T own cc nL d (fm T nm (some ty) Q) pc ls [.int v] I G b := by
  intro p l e R s m args below meth c Z H locs cells slots rl B S hF M h1 h2 L
  obtain ⟨rfl, hr, hlocks, -⟩ := hF
  refine W.widen (k := R.cells) (n := R.slots) (by omega) (by omega) ?_
  exact W.zret B.1 B.2.1 hr hn (fun t ht hW => ⟨_, _, _, rfl, hq, by rw [ht]; exact M.locs (fun q h => (List.not_mem_nil h).elim)⟩) M.2.2.2.2 hd.1 hlocks
theorem Ex_vret (hd : Dc cc pc 1 pc' .return_) (hq : Q none I G) : Ex T own cc nL d (fm T nm none Q) pc ls [] I G b := by
  intro p l e R s m args below meth c Z H locs cells slots rl B S hF M h1 h2 L
  obtain ⟨rfl, hr, hlocks, -⟩ := hF
  refine W.widen (k := R.cells) (n := R.slots) (by omega) (by omega) ?_
  exact W.vret B.1 B.2.1 hr (fun t ht hW => ⟨_, _, _, rfl, hq, by rw [ht]; exact M.locs (fun q h => (List.not_mem_nil h).elim)⟩) M.2.2.2.2 hd.1 hlocks
theorem Ex_aret {rt : FieldType} {v : Value} (hd : Dc cc pc 1 pc' .areturn) (hrt : (∃ n, rt = .object n) ∨ ∃ t, rt = .array t) (hv : v = .null ∨ ∃ a, v = .ref a) (hq : Q (some v) I G) : Ex T own cc nL d (fm T nm (some rt) Q) pc ls [v] I G b := by
  intro p l e R s m args below meth c Z H locs cells slots rl B S hF M h1 h2 L
  obtain ⟨rfl, hr, hlocks, -⟩ := hF
  refine W.widen (k := R.cells) (n := R.slots) (by omega) (by omega) ?_
  exact W.aret B.1 B.2.1 hr hrt hv (fun t ht hW => ⟨_, _, _, rfl, hq, by rw [ht]; exact M.locs (fun q h => (List.not_mem_nil h).elim)⟩) M.2.2.2.2 hd.1 hlocks
end M4
theorem gGood {w : Cond} (h : w ∈ gtbl) : GoodIn gtbl (w :: gtbl) := by
  intro v hv
  rcases List.mem_cons.mp hv with rfl | hv
  · exact ⟨h, good_of_word (List.mem_filter.mp h).2⟩
  · exact ⟨hv, good_of_word (List.mem_filter.mp hv).2⟩
/-- what a call's site needs -/
def MS (n : Nat) (Y : YD) : Prop := Cond.code Y.1 Y.2.1 Y.2.2.1 Y.2.2.2 ∈ gtbl ∧ Cond.initialized Y.1.cls ∈ gtbl ∧ (Y.1.cls ≠ "java/lang/invoke/MethodHandle" ∧ Y.1.cls ≠ "java/lang/invoke/VarHandle" ∧ (parseMethodDescriptor Y.1.desc).map (fun d => d.parameters.length) = some n) ∧ Y.2.2.1 ≤ 45
def VS (own : String) (ix n : Nat) (Y : YD) : Prop := MS n Y ∧ Cond.methodLink own ix Y.1 ∈ gtbl ∧ Cond.instanceMethod Y.1 ∈ gtbl ∧ Cond.selects Y.1.cls Y.1 Y.1 ∈ gtbl
def SS (own : String) (ix n : Nat) (Y : YD) : Prop := MS n Y ∧ Cond.methodLink own ix Y.1 ∈ gtbl ∧ Cond.static Y.1 ∈ gtbl
def IS (own : String) (ix n : Nat) (Y : YD) : Prop := MS n Y ∧ Cond.methodLink own ix Y.1 ∈ gtbl ∧ Y.1.name = "<init>" ∧ Cond.instanceMethod Y.1 ∈ gtbl ∧ Y.2.2.2 = none
def SNS (own : String) (ix n : Nat) (Y : YD) : Prop := MS n Y ∧ Cond.methodLinkNest own ix Y.1 RX8 ∈ nests ∧ Cond.static Y.1 ∈ gtbl
def INS (own : String) (ix n : Nat) (Y : YD) : Prop := MS n Y ∧ Cond.methodLinkNest own ix Y.1 RX8 ∈ nests ∧ Y.1.name = "<init>" ∧ Cond.instanceMethod Y.1 ∈ gtbl ∧ Y.2.2.2 = none
section M5
variable {T : TC} {own : String} {cc : ByteArray} {nL d pc pc' ix n mc ms b1 b2 : Nat} {F : FinT} {ls : List (Option Value)} {I : MI} {G : MG} {b : Nat × Nat} {Y : YD} {As rest stk : List Value} {Q : Option Value → MI → MG → Prop} {a ci : Nat}
theorem run_W {p : Program} {l : Launch} {e : Env} {R : Room} {s : State} {m : MethodId} {args as : Array Value} {below : List Frame} {meth : Method} {c : Code} {Z : State → Prop} {H : Heap} {locs : List Loc} {cells slots : Nat} {rl : Array Slot}
    (hr : va_Run p l e R s m args below meth c H locs cells slots mc ms (F0 m pc rl stk) rest (QQ T Q as) (aT T)) (hl : ∀ q ∈ locs, aT T q.base)
    (kk : ∀ v I' G' H' locs', Q v I' G' → Mem T I' G' H' locs' → W p l e R s m args below meth c H' locs' (cells + mc) (slots + ms) Z (F0 m (pc + 3) rl (v.toList ++ rest))) : W p l e R s m args below meth c H locs cells slots Z (F0 m pc rl stk) := by
  intro T0 hT X
  obtain ⟨v, st₀, t, T', L, h0, X', hL, e1, e2, ⟨v', I', G', hv, hq, hM⟩, st⟩ := hr T0 hT X
  cases hv
  obtain ⟨t2, a1, a2⟩ := kk v I' G' T'.heap (locs ++ L) hq (by rw [e1]; exact hM.locs (fun q h => (List.mem_append.mp h).elim (hl q) (hL q))) T' rfl X'
  exact ⟨t2, st t2 a1, a2⟩
theorem blindP : FrameBlind (va_Pc As (fun U => St T U ∧ Mem T I G U.heap [])) := fun _ _ _ _ h => ⟨h.1, St.same rfl h.2.1, h.2.2⟩
theorem preS {s : State} {H : Heap} {locs : List Loc} (S : St T s) (M : Mem T I G H locs) : PreS s H (va_Pc As (fun U => St T U ∧ Mem T I G U.heap [])) As :=
  ⟨blindP, fun _ hU hW => ⟨rfl, St.warm hW S, by rw [hU]; exact M.locs (fun q h => (List.not_mem_nil h).elim)⟩⟩
theorem preV {s : State} {H : Heap} {locs : List Loc} (S : St T s) (M : Mem T I G H locs) (hc : ci < 10) (ha : Is T G a ci) : PreV s H (fC ci) a (va_Pc (.ref a :: As) (fun U => St T U ∧ Mem T I G U.heap [])) As := by
  have hat := M.at ha
  rw [cE_obj ha.1 hc] at hat
  obtain ⟨r, hr, cell, q1, q2, q3, q4⟩ := hat
  refine ⟨blindP, ⟨cell, q1, by rw [q3]; rfl, ?_⟩, fun _ hU hW => ⟨rfl, St.warm hW S, by rw [hU]; exact M.locs (fun q h => (List.not_mem_nil h).elim)⟩⟩
  rw [q2]
  exact (S.1.1 ci _ (fC_at hc)).2.1
theorem Ex_callV (hd : Dc cc pc 3 pc' (.invokevirtual ix)) (hs : VS own ix n Y) (hc : ci < 10) (hC : fC ci = Y.1.cls) (ha : Is T G a ci) (hn : As.length = n) (hst : stk = As.reverse ++ .ref a :: rest) (hcat : (rest.map fun v => v.category).sum ≤ 8) (hOk : Ok T Y d mc ms (.ref a :: As) I G Q) (k : ∀ v I' G', Q v I' G' → Ex T own cc nL (d + 1) F pc' ls (v.toList ++ rest) I' G' (b1, b2)) : Ex T own cc nL (d + 1) F pc ls stk I G (b1 + mc, b2 + ms) := by
  intro p l e R s m args below meth c Z H locs cells slots rl B S hF M h1 h2 L
  obtain ⟨hd, rfl⟩ := hd
  obtain ⟨⟨hcode, hini, hY, hY4⟩, hl, hin, hse⟩ := hs
  have h1' : cells + (b1 + mc) ≤ R.cells := h1
  have h2' : slots + (b2 + ms) ≤ R.slots := h2
  have hfr := B.2.2.2.2.2.1
  have hlo := B.2.2.2.2.2.2
  have hts := B.2.2.2.2.1
  have hR : (rmOf d mc ms).frames + 1 ≤ R.frames ∧ 8 + (Y.2.2.1 + 11) + (rmOf d mc ms).locals ≤ R.locals := ⟨hfr, by show 8 + (Y.2.2.1 + 11) + 64 * d ≤ R.locals; omega⟩
  subst hst
  have cb := callB_of (own := own) (index := ix) n hts (gGood hcode) rfl (rm := rmOf d mc ms) rfl rfl (hts _ hini) (hts _ hl) hY hR
  have cw : CallW R s args own (fC ci) ix Y.1 Y.2.1 Y.2.2.1 Y.2.2.2 _ _ mc ms n := ⟨cb, hts _ hin, by rw [hC]; exact hts _ hse⟩
  refine run_W (T := T) (Q := Q) (as := ((.ref a :: As) : List Value).toArray) (va_runV (As := As) (rest := rest) ⟨B.1, B.2.1, B.2.2.1, B.2.2.2.1, hts⟩ (hOk l) cw (preV S M hc ha) rfl hn L.1 rfl (lv_room hcat) hd ⟨by omega, by omega⟩) M.2.2.2.2 ?_
  intro v I' G' H' locs' hq hM
  exact k v I' G' hq p l e R s m args below meth c Z H' locs' (cells + mc) (slots + ms) rl B S hF hM (by show cells + mc + b1 ≤ R.cells; omega) (by show slots + ms + b2 ≤ R.slots; omega) L
theorem Ex_callS (hd : Dc cc pc 3 pc' (.invokestatic ix)) (hs : SS own ix n Y)  (hn : As.length = n) (hst : stk = As.reverse ++ rest) (hcat : (rest.map fun v => v.category).sum ≤ 8) (hOk : Ok T Y d mc ms As I G Q) (k : ∀ v I' G', Q v I' G' → Ex T own cc nL (d + 1) F pc' ls (v.toList ++ rest) I' G' (b1, b2)) : Ex T own cc nL (d + 1) F pc ls stk I G (b1 + mc, b2 + ms) := by
  intro p l e R s m args below meth c Z H locs cells slots rl B S hF M h1 h2 L
  obtain ⟨hd, rfl⟩ := hd
  obtain ⟨⟨hcode, hini, hY, hY4⟩, hl, hstt⟩ := hs
  have h1' : cells + (b1 + mc) ≤ R.cells := h1
  have h2' : slots + (b2 + ms) ≤ R.slots := h2
  have hfr := B.2.2.2.2.2.1
  have hlo := B.2.2.2.2.2.2
  have hts := B.2.2.2.2.1
  have hR : (rmOf d mc ms).frames + 1 ≤ R.frames ∧ 8 + (Y.2.2.1 + 11) + (rmOf d mc ms).locals ≤ R.locals := ⟨hfr, by show 8 + (Y.2.2.1 + 11) + 64 * d ≤ R.locals; omega⟩
  subst hst
  have cb := callB_of (own := own) (index := ix) n hts (gGood hcode) rfl (rm := rmOf d mc ms) rfl rfl (hts _ hini) (hts _ hl) hY hR
  have cw := And.intro cb (hts _ hstt)
  refine run_W (T := T) (Q := Q) (as := (As : List Value).toArray) (va_runS (As := As) (rest := rest) ⟨B.1, B.2.1, B.2.2.1, B.2.2.2.1, hts⟩ (hOk l) cw (preS S M) rfl hn L.1 rfl (lv_room hcat) hd ⟨by omega, by omega⟩) M.2.2.2.2 ?_
  intro v I' G' H' locs' hq hM
  exact k v I' G' hq p l e R s m args below meth c Z H' locs' (cells + mc) (slots + ms) rl B S hF hM (by show cells + mc + b1 ≤ R.cells; omega) (by show slots + ms + b2 ≤ R.slots; omega) L
theorem Ex_callSN (hd : Dc cc pc 3 pc' (.invokestatic ix)) (hs : SNS own ix n Y)  (hn : As.length = n) (hst : stk = As.reverse ++ rest) (hcat : (rest.map fun v => v.category).sum ≤ 8) (hOk : Ok T Y d mc ms As I G Q) (k : ∀ v I' G', Q v I' G' → Ex T own cc nL (d + 1) F pc' ls (v.toList ++ rest) I' G' (b1, b2)) : Ex T own cc nL (d + 1) F pc ls stk I G (b1 + mc, b2 + ms) := by
  intro p l e R s m args below meth c Z H locs cells slots rl B S hF M h1 h2 L
  obtain ⟨hd, rfl⟩ := hd
  obtain ⟨⟨hcode, hini, hY, hY4⟩, hl, hstt⟩ := hs
  have h1' : cells + (b1 + mc) ≤ R.cells := h1
  have h2' : slots + (b2 + ms) ≤ R.slots := h2
  have hfr := B.2.2.2.2.2.1
  have hlo := B.2.2.2.2.2.2
  have hts := B.2.2.2.2.1
  have hR : (rmOf d mc ms).frames + 1 ≤ R.frames ∧ 8 + (Y.2.2.1 + 11) + (rmOf d mc ms).locals ≤ R.locals := ⟨hfr, by show 8 + (Y.2.2.1 + 11) + 64 * d ≤ R.locals; omega⟩
  subst hst
  have cb := va_cnB (own := own) (host := RX8) (index := ix) n hts (gGood hcode) rfl (rm := rmOf d mc ms) rfl rfl (S.2.2.1 _ _ _ _ hl) (hts _ hini) hY hR
  have cw := And.intro cb (And.intro (hts _ hstt) True.intro)
  refine run_W (T := T) (Q := Q) (as := (As : List Value).toArray) (va_runSN (As := As) (rest := rest) ⟨B.1, B.2.1, B.2.2.1, B.2.2.2.1, hts⟩ (hOk l) cw (preS S M) rfl hn L.1 rfl (lv_room hcat) hd ⟨by omega, by omega⟩) M.2.2.2.2 ?_
  intro v I' G' H' locs' hq hM
  exact k v I' G' hq p l e R s m args below meth c Z H' locs' (cells + mc) (slots + ms) rl B S hF hM (by show cells + mc + b1 ≤ R.cells; omega) (by show slots + ms + b2 ≤ R.slots; omega) L
theorem Ex_callI (hd : Dc cc pc 3 pc' (.invokespecial ix)) (hs : IS own ix n Y)  (hn : As.length = n) (hst : stk = As.reverse ++ .ref a :: rest) (hcat : (rest.map fun v => v.category).sum ≤ 8) (hOk : Ok T Y d mc ms (.ref a :: As) I G Q) (k : ∀ v I' G', Q v I' G' → Ex T own cc nL (d + 1) F pc' ls (v.toList ++ rest) I' G' (b1, b2)) : Ex T own cc nL (d + 1) F pc ls stk I G (b1 + mc, b2 + ms) := by
  intro p l e R s m args below meth c Z H locs cells slots rl B S hF M h1 h2 L
  obtain ⟨hd, rfl⟩ := hd
  obtain ⟨⟨hcode, hini, hY, hY4⟩, hl, hnm, hin, hno⟩ := hs
  have h1' : cells + (b1 + mc) ≤ R.cells := h1
  have h2' : slots + (b2 + ms) ≤ R.slots := h2
  have hfr := B.2.2.2.2.2.1
  have hlo := B.2.2.2.2.2.2
  have hts := B.2.2.2.2.1
  have hR : (rmOf d mc ms).frames + 1 ≤ R.frames ∧ 8 + (Y.2.2.1 + 11) + (rmOf d mc ms).locals ≤ R.locals := ⟨hfr, by show 8 + (Y.2.2.1 + 11) + 64 * d ≤ R.locals; omega⟩
  subst hst
  have cb := callB_of (own := own) (index := ix) n hts (gGood hcode) rfl (rm := rmOf d mc ms) rfl rfl (hts _ hini) (hts _ hl) hY hR
  have hM0 := hOk l
  rw [hno] at cb hM0
  have cw := And.intro cb (And.intro hnm (hts _ hin))
  refine run_W (T := T) (Q := Q) (as := ((.ref a :: As) : List Value).toArray) (va_runI (As := As) (rest := rest) ⟨B.1, B.2.1, B.2.2.1, B.2.2.2.1, hts⟩ hM0 cw (preS S M) rfl hn L.1 rfl (lv_room hcat) hd ⟨by omega, by omega⟩) M.2.2.2.2 ?_
  intro v I' G' H' locs' hq hM
  exact k v I' G' hq p l e R s m args below meth c Z H' locs' (cells + mc) (slots + ms) rl B S hF hM (by show cells + mc + b1 ≤ R.cells; omega) (by show slots + ms + b2 ≤ R.slots; omega) L
theorem Ex_callIN (hd : Dc cc pc 3 pc' (.invokespecial ix)) (hs : INS own ix n Y)  (hn : As.length = n) (hst : stk = As.reverse ++ .ref a :: rest) (hcat : (rest.map fun v => v.category).sum ≤ 8) (hOk : Ok T Y d mc ms (.ref a :: As) I G Q) (k : ∀ v I' G', Q v I' G' → Ex T own cc nL (d + 1) F pc' ls (v.toList ++ rest) I' G' (b1, b2)) : Ex T own cc nL (d + 1) F pc ls stk I G (b1 + mc, b2 + ms) := by
  intro p l e R s m args below meth c Z H locs cells slots rl B S hF M h1 h2 L
  obtain ⟨hd, rfl⟩ := hd
  obtain ⟨⟨hcode, hini, hY, hY4⟩, hl, hnm, hin, hno⟩ := hs
  have h1' : cells + (b1 + mc) ≤ R.cells := h1
  have h2' : slots + (b2 + ms) ≤ R.slots := h2
  have hfr := B.2.2.2.2.2.1
  have hlo := B.2.2.2.2.2.2
  have hts := B.2.2.2.2.1
  have hR : (rmOf d mc ms).frames + 1 ≤ R.frames ∧ 8 + (Y.2.2.1 + 11) + (rmOf d mc ms).locals ≤ R.locals := ⟨hfr, by show 8 + (Y.2.2.1 + 11) + 64 * d ≤ R.locals; omega⟩
  subst hst
  have cb := va_cnB (own := own) (host := RX8) (index := ix) n hts (gGood hcode) rfl (rm := rmOf d mc ms) rfl rfl (S.2.2.1 _ _ _ _ hl) (hts _ hini) hY hR
  have hM0 := hOk l
  rw [hno] at cb hM0
  have cw := And.intro cb (And.intro hnm (hts _ hin))
  refine run_W (T := T) (Q := Q) (as := ((.ref a :: As) : List Value).toArray) (va_runIN (As := As) (rest := rest) ⟨B.1, B.2.1, B.2.2.1, B.2.2.2.1, hts⟩ hM0 cw (preS S M) rfl hn L.1 rfl (lv_room hcat) hd ⟨by omega, by omega⟩) M.2.2.2.2 ?_
  intro v I' G' H' locs' hq hM
  exact k v I' G' hq p l e R s m args below meth c Z H' locs' (cells + mc) (slots + ms) rl B S hF hM (by show cells + mc + b1 ≤ R.cells; omega) (by show slots + ms + b2 ≤ R.slots; omega) L
end M5
