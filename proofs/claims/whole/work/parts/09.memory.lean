/-! fields and arrays -/
theorem wL_get {T : TC} {I : MI} {G : MG} {a : Nat} (h : n0 T ≤ a) (h2 : a < n0 T + gS G) : (wL T I G)[a - n0 T]? = some (a, cE T I G a) := by
  have e : n0 T + (a - n0 T) = a := by omega
  have hk : a - n0 T < gS G := by omega
  simp [wL, List.getElem?_map, List.getElem?_range hk, e]
theorem wL_D (T : TC) (I : MI) (G : MG) : va_D (aT T) (wL T I G) := by
  have hg : ∀ (i : Nat) (p : Nat × va_E), (wL T I G)[i]? = some p → p.1 = n0 T + i := by
    intro i p hp
    simp only [wL, List.getElem?_map, Option.map_eq_some_iff] at hp
    obtain ⟨j, hj, rfl⟩ := hp
    have := List.getElem?_eq_some_iff.mp hj
    obtain ⟨hj1, hj2⟩ := this
    simp at hj2
    subst hj2
    rfl
  refine ⟨fun i j p q hp hq e => ?_, fun k q hq => ?_⟩
  · have e1 := hg i p hp
    have e2 := hg j q hq
    omega
  · show n0 T ≤ q.1
    rw [hg k q hq]; omega
theorem fC_at {ci : Nat} (h : ci < 10) : vwCl[ci]? = some (fC ci, fT ci, fN ci) := by
  rcases ci with _ | _ | _ | _ | _ | _ | _ | _ | _ | _ | ci <;> first | rfl | omega
theorem fY_ok {ci : Nat} (h : ci < 10) : ∀ k, k < fN ci → parseFieldDescriptor (fT ci k).2.2.1 = some (fY ci k) := by
  rcases ci with _ | _ | _ | _ | _ | _ | _ | _ | _ | _ | ci
  · exact tyX0_ok
  · exact tyX1_ok
  · exact tyX2_ok
  · exact tyX3_ok
  · exact tyX4_ok
  · exact tyX5_ok
  · exact tyX6_ok
  · exact tyX7_ok
  · exact tyX8_ok
  · exact tyX9_ok
  · omega
theorem fN_ok {ci : Nat} (h : ci < 10) : ∀ a, a < fN ci → ∀ b, b < fN ci → a ≠ b → (fT ci a).2.1 ≠ (fT ci b).2.1 := by
  rcases ci with _ | _ | _ | _ | _ | _ | _ | _ | _ | _ | ci
  · exact nmX0
  · exact nmX1
  · exact nmX2
  · exact nmX3
  · exact nmX4
  · exact nmX5
  · exact nmX6
  · exact nmX7
  · exact nmX8
  · exact nmX9
  · omega
theorem fT_own {ci : Nat} (h : ci < 10) : ∀ k, k < fN ci → (fT ci k).1 = fC ci := by
  rcases ci with _ | _ | _ | _ | _ | _ | _ | _ | _ | _ | ci <;> first | decide +kernel | omega
theorem gin {w : Cond} (h : w ∈ lw_tbl) (hg : goodWord w = true) : w ∈ gtbl := List.mem_filter.mpr ⟨h, hg⟩
theorem gt (i : Nat) {w : Cond} (h : tables_1[i]? = some w) (hg : goodWord w = true) : w ∈ gtbl := gin (List.mem_append_right _ (List.mem_of_getElem? h)) hg
theorem gs (i : Nat) {w : Cond} (h : (k2_sels lw_privs)[i]? = some w) (hg : goodWord w = true) : w ∈ gtbl := gin (List.mem_append_left _ (List.mem_of_getElem? h)) hg
theorem gps (ps : List Nat) {ws : List Cond} (hp : ws = ps.filterMap (fun i => tables_1[i]?)) (h : ws.all goodWord = true) : ∀ w ∈ ws, w ∈ gtbl := by
  intro w hw
  have h1 := List.all_eq_true.mp h w hw
  rw [hp] at hw
  obtain ⟨i, -, hi⟩ := List.mem_filterMap.mp hw
  exact gt i hi h1

theorem gw0 : ∀ w ∈ u_ws RX0 TX0 8, w ∈ gtbl := gps [146, 148, 150, 152, 154, 156, 158, 160] (by decide +kernel) (by decide +kernel)
theorem gw1 : ∀ w ∈ u_ws RX1 TX1 11, w ∈ gtbl := gps [92, 94, 96, 98, 100, 102, 104, 106, 108, 110, 112] (by decide +kernel) (by decide +kernel)
theorem gw2 : ∀ w ∈ u_ws RX2 TX2 4, w ∈ gtbl := gps [177, 179, 181, 183] (by decide +kernel) (by decide +kernel)
theorem gw3 : ∀ w ∈ u_ws RX3 TX3 3, w ∈ gtbl := gps [205, 207, 209] (by decide +kernel) (by decide +kernel)
theorem gw4 : ∀ w ∈ u_ws RX4 TX4 4, w ∈ gtbl := gps [230, 232, 234, 236] (by decide +kernel) (by decide +kernel)
theorem gw5 : ∀ w ∈ u_ws RX5 TX5 5, w ∈ gtbl := gps [58, 60, 62, 64, 66] (by decide +kernel) (by decide +kernel)
theorem gw6 : ∀ w ∈ u_ws RX6 TX6 2, w ∈ gtbl := gps [126, 128] (by decide +kernel) (by decide +kernel)
theorem gw7 : ∀ w ∈ u_ws RX7 TX7 4, w ∈ gtbl := gps [813, 815, 817, 819] (by decide +kernel) (by decide +kernel)
theorem gw8 : ∀ w ∈ u_ws RX8 TX8 11, w ∈ gtbl := gps [250, 252, 254, 256, 258, 260, 262, 264, 266, 268, 270] (by decide +kernel) (by decide +kernel)
theorem gw9 : ∀ w ∈ u_ws RX9 TX9 39, w ∈ gtbl := gps [965, 967, 969, 971, 973, 975, 977, 979, 981, 983, 985, 987, 989, 991, 993, 995, 997, 999, 1001, 1003, 1005, 1007, 1009, 1011, 1013, 1015, 1017, 1019, 1021, 1023, 1025, 1027, 1029, 1031, 1033, 1035, 1037, 1039, 1041] (by decide +kernel) (by decide +kernel)
theorem gws {ci : Nat} (h : ci < 10) : ∀ w ∈ u_ws (fC ci) (fT ci) (fN ci), w ∈ gtbl := by
  rcases ci with _ | _ | _ | _ | _ | _ | _ | _ | _ | _ | ci
  · exact gw0
  · exact gw1
  · exact gw2
  · exact gw3
  · exact gw4
  · exact gw5
  · exact gw6
  · exact gw7
  · exact gw8
  · exact gw9
  · omega
/-- a site of a field: int, boolean, reference -/
def FL (own : String) (ix ci j : Nat) : Prop := ci < 10 ∧ j < fN ci ∧ Cond.fieldLink own ix (fC ci) (fT ci j).2.1 (fT ci j).2.2.1 ∈ gtbl
def FI (own : String) (ix ci j : Nat) : Prop := FL own ix ci j ∧ isR (fY ci j) = false
def FR (own : String) (ix ci j : Nat) : Prop := FL own ix ci j ∧ isR (fY ci j) = true
theorem flds_get {I : MI} {G : MG} {a ci j : Nat} (hj : j < fN ci) : (flds I G a ci)[j]? = some (fv I G a ci j) := by
  simp [flds, List.getElem?_map, List.getElem?_range hj]
theorem flds_V {I : MI} {G : MG} {a ci j : Nat} (hj : j < fN ci) : vp_V (flds I G a ci) j = fv I G a ci j := by
  unfold vp_V
  rw [List.getD_eq_getElem?_getD, flds_get hj, Option.getD_some]
theorem flds_len {I : MI} {G : MG} {a ci : Nat} : (flds I G a ci).length = fN ci := by simp [flds]
theorem cE_obj {T : TC} {I : MI} {G : MG} {a ci : Nat} (h : gK G a = ci) (hc : ci < 10) : cE T I G a = .inr (ci, flds I G a ci) := by
  subst h
  unfold cE
  rw [if_pos hc]
theorem cE_int {T : TC} {I : MI} {G : MG} {a k : Nat} (h : gK G a = k) (h1 : 10 ≤ k) (h2 : k ≤ 12) : cE T I G a = .inl (tC T k, (gN G a, .inl (I a))) := by
  subst h
  unfold cE arE
  rw [if_neg (by omega), if_pos h2]
theorem cE_long {T : TC} {I : MI} {G : MG} {a : Nat} (h : gK G a = 13) : cE T I G a = .inl (tC T 13, (gN G a, .inr (.inl (gL G a)))) := by
  unfold cE arE
  rw [h, if_neg (by omega), if_neg (by omega), if_pos rfl]
theorem cE_ref {T : TC} {I : MI} {G : MG} {a k : Nat} (h : gK G a = k) (h1 : 14 ≤ k) : cE T I G a = .inl (tC T k, (gN G a, .inr (.inr (.inr (.inr (gR G a)))))) := by
  subst h
  unfold cE arE
  rw [if_neg (by omega), if_neg (by omega), if_neg (by omega)]
def setI (I : MI) (a j : Nat) (v : Int32) : MI := fun x y => if x = a ∧ y = j then v else I x y
def setR (G : MG) (a j : Nat) (v : Option Nat) : MG := (fun x y => if x = a ∧ y = j then v else gR G x y, gL G, gK G, gN G, gS G)
def setG (G : MG) (a j : Nat) (v : Int64) : MG := (gR G, fun x y => if x = a ∧ y = j then v else gL G x y, gK G, gN G, gS G)
theorem setI_s {I : MI} {a j : Nat} {v : Int32} : setI I a j v a j = v := by simp [setI]
theorem setI_n {I : MI} {a j x y : Nat} {v : Int32} (h : ¬ (x = a ∧ y = j)) : setI I a j v x y = I x y := if_neg h
theorem setI_a {I : MI} {a j x : Nat} {v : Int32} (h : x ≠ a) : setI I a j v x = I x := funext fun y => if_neg fun q => h q.1
theorem setI_u {I : MI} {a j : Nat} {v : Int32} : setI I a j v a = upd (I a) j v := by
  funext y
  by_cases h : y = j
  · subst h; simp [setI, upd]
  · simp [setI, upd, h]
theorem setR_K {G : MG} {a j : Nat} {v : Option Nat} : gK (setR G a j v) = gK G := rfl
theorem setR_N {G : MG} {a j : Nat} {v : Option Nat} : gN (setR G a j v) = gN G := rfl
theorem setR_S {G : MG} {a j : Nat} {v : Option Nat} : gS (setR G a j v) = gS G := rfl
theorem setR_L {G : MG} {a j : Nat} {v : Option Nat} : gL (setR G a j v) = gL G := rfl
theorem setR_R {G : MG} {a j : Nat} {v : Option Nat} : gR (setR G a j v) = fun x y => if x = a ∧ y = j then v else gR G x y := rfl
theorem setG_K {G : MG} {a j : Nat} {v : Int64} : gK (setG G a j v) = gK G := rfl
theorem setG_N {G : MG} {a j : Nat} {v : Int64} : gN (setG G a j v) = gN G := rfl
theorem setG_S {G : MG} {a j : Nat} {v : Int64} : gS (setG G a j v) = gS G := rfl
theorem setG_R {G : MG} {a j : Nat} {v : Int64} : gR (setG G a j v) = gR G := rfl
theorem setG_L {G : MG} {a j : Nat} {v : Int64} : gL (setG G a j v) = fun x y => if x = a ∧ y = j then v else gL G x y := rfl
/-- one cell is written -/
theorem Mem.upd {T : TC} {I I' : MI} {G G' : MG} {H H1 : Heap} {locs : List Loc} {a j : Nat} (M : Mem T I G H locs) (hS : gS G' = gS G) (h1 : n0 T ≤ a) (h2 : a < n0 T + gS G) (hz : H1.size = H.size) (oq : ∀ q, q ≠ a → H1[q]? = H[q]?) (hat : va_at (tD T) vwCl (a, cE T I' G' a) H1) (hE : ∀ x, x ≠ a → cE T I' G' x = cE T I G x) : Mem T I' G' H1 (locs ++ [⟨a, j⟩]) := by
  refine ⟨by rw [hz, hS]; exact M.1, ?_, M.2.2.put hz oq h1⟩
  intro k q hq
  simp only [wL, List.getElem?_map, Option.map_eq_some_iff] at hq
  obtain ⟨i, hi, rfl⟩ := hq
  obtain ⟨hi1, hi2⟩ := List.getElem?_eq_some_iff.mp hi
  simp at hi2
  subst hi2
  rw [List.length_range, hS] at hi1
  by_cases e : n0 T + k = a
  · rw [e]; exact hat
  · have hP := M.2.1 k (n0 T + k, cE T I G (n0 T + k)) (by simp [wL, List.getElem?_map, List.getElem?_range hi1])
    show va_at (tD T) vwCl (n0 T + k, cE T I' G' (n0 T + k)) H1
    rw [hE _ e]
    exact hP.kept (oq _ e)
theorem Mem.at {T : TC} {I : MI} {G : MG} {H : Heap} {locs : List Loc} {a k : Nat} (M : Mem T I G H locs) (h : Is T G a k) : va_at (tD T) vwCl (a, cE T I G a) H := M.2.1 _ _ (wL_get h.2.1 h.2.2)
section M2
variable {T : TC} {own : String} {cc : ByteArray} {nL d pc pc' : Nat} {F : FinT} {ls : List (Option Value)} {st : List Value} {I : MI} {G : MG} {b : Nat × Nat} {ix ci a j : Nat}
theorem Ex_get {v : Value} (hd : Dc cc pc 3 pc' (.getfield ix)) (hf : FL own ix ci j) (ha : Is T G a ci) (hv : fv I G a ci j = v) (k : Ex T own cc nL d F pc' ls (v :: st) I G b) : Ex T own cc nL d F pc ls (.ref a :: st) I G b := by
  intro p l e R s m args below meth c Z H locs cells slots rl B S hF M h1 h2 L
  obtain ⟨hd, rfl⟩ := hd
  obtain ⟨hc, hj, hw⟩ := hf
  have hg := wL_get (I := I) ha.2.1 ha.2.2
  rw [cE_obj ha.1 hc] at hg
  refine va_get (D := tD T) (cl := vwCl) B.1 B.2.1 B.2.2.2.2.1 (gws hc) B.2.2.2.1 S.1 M.2.1 _ hg (fC_at hc) j hj (B.2.2.2.2.1 _ hw) (fun x h => by rw [fT_own hc j hj] at h; exact h) (by rw [flds_get hj, hv]) hd (k p l e R s m args below meth c Z H locs cells slots rl B S hF M h1 h2 L)
theorem Ex_geti (hd : Dc cc pc 3 pc' (.getfield ix)) (hf : FI own ix ci j) (ha : Is T G a ci) (k : Ex T own cc nL d F pc' ls (.int (I a j) :: st) I G b) : Ex T own cc nL d F pc ls (.ref a :: st) I G b :=
  Ex_get hd hf.1 ha (by unfold fv; rw [hf.2]; rfl) k
theorem Ex_getr {r : Nat} (hd : Dc cc pc 3 pc' (.getfield ix)) (hf : FR own ix ci j) (ha : Is T G a ci) (hr : gR G a j = some r) (k : Ex T own cc nL d F pc' ls (.ref r :: st) I G b) : Ex T own cc nL d F pc ls (.ref a :: st) I G b :=
  Ex_get hd hf.1 ha (by unfold fv; rw [hf.2, hr]; rfl) k
theorem obj_set {U : State} {args : Array Value} {cell : Cell} {H1 : Heap} {v : Value} {I' : MI} {G' : MG} (hc : ci < 10) (hj : j < fN ci) (hts : ∀ w ∈ gtbl, w.before args U = true) (hK : va_K (tD T) vwCl [] U) (q2 : cell.cls = (tD T).1 ci) (q3 : cell.vm = .none) (q4 : ∀ k, k < fN ci → cell.slots[(tD T).2 ci k]? = some (vp_V (flds I G a ci) k))
    (e1 : H1[a]? = some (cell.setSlot ((tD T).2 ci j) v)) (hk : gK G' a = ci) (hv : fv I' G' a ci j = v) (ho : ∀ i, i ≠ j → fv I' G' a ci i = fv I G a ci i) : va_at (tD T) vwCl (a, cE T I' G' a) H1 := by
  have hap := va_apart (own := "") hts (gws hc) (fY ci) (fY_ok hc) (fN_ok hc) hK (fC_at hc)
  rw [cE_obj hk hc]
  refine ⟨_, fC_at hc, t_OB.to (V := updV (vp_V (flds I G a ci)) j v) ⟨_, e1, q2, q3, t_set q4 hap hj v⟩ (fun i hi => ?_)⟩
  show updV (vp_V (flds I G a ci)) j v i = vp_V (flds I' G' a ci) i
  rw [flds_V hi]
  by_cases e : i = j
  · subst e
    rw [hv]
    simp [updV]
  · rw [ho i e]
    simp only [updV, if_neg e]
    exact flds_V hi
theorem Ex_put {v : Value} {I' : MI} {G' : MG} (hd : Dc cc pc 3 pc' (.putfield ix)) (hf : FL own ix ci j) (hnf : (fT ci j).2.2.2 = false) (hn : narrow (fY ci j) v = v) (hfit : fits (fY ci j) v = true) (ha : Is T G a ci)
    (hk : gK G' = gK G) (hS : gS G' = gS G) (hv : fv I' G' a ci j = v) (ho : ∀ i, i ≠ j → fv I' G' a ci i = fv I G a ci i) (hE : ∀ x, x ≠ a → cE T I' G' x = cE T I G x)
    (k : Ex T own cc nL d F pc' ls st I' G' b) : Ex T own cc nL d F pc ls (v :: .ref a :: st) I G b := by
  intro p l e R s m args below meth c Z H locs cells slots rl B S hF M h1 h2 L
  obtain ⟨hd, rfl⟩ := hd
  obtain ⟨hc, hj, hw⟩ := hf
  have hat := M.at ha
  rw [cE_obj ha.1 hc] at hat
  obtain ⟨r, hr, cell, q1, q2, q3, q4⟩ := hat
  have hr : r = (fC ci, fT ci, fN ci) := Option.some.inj (hr.symm.trans (fC_at hc))
  subst hr
  obtain ⟨hSl, hfc, kC, hkC, hkind⟩ := S.1.1 ci _ (fC_at hc)
  obtain ⟨cf, kf, fi, f, hi, hsl⟩ := hSl j hj
  have hts := B.2.2.2.2.1
  have hlay := hts _ (gws hc _ (u_in_lay hj))
  unfold u_lay at hlay
  rw [if_neg (by rw [hnf]; decide)] at hlay
  have hst := (u_facts hfc hkC (u_lays hts (gws hc) hj) hi).1
  have h6 := u_store hfc hkC hkind hlay hi (fY_ok hc j hj) hn hfit
  have hi' := hi
  rw [fT_own hc j hj] at hi'
  refine W.putK B.1 B.2.1 (f := f) ⟨B.2.2.2.1, hts _ hw, ⟨_, _, _, hi'⟩, hst⟩ (by rw [q2]; exact h6) q1 q3 (by rw [hsl]; exact k2_hasslot (q4 j hj)) rfl rfl hd fun H' e1 e2 e3 => ?_
  rw [hsl] at e1 ⊢
  exact k p l e R s m args below meth c Z H' _ cells slots rl B S hF (M.upd hS ha.2.1 ha.2.2 e2 e3 (obj_set hc hj hts S.1 q2 q3 q4 e1 (by rw [hk]; exact ha.1) hv ho) hE) h1 h2 L
theorem Ex_putF {v : Value} {I' : MI} {G' : MG} (hd : Dc cc pc 3 pc' (.putfield ix)) (hf : FL own ix ci j) (hnf : (fT ci j).2.2.2 = true) (hown : own = fC ci) (hinit : ∀ p l e R s m args below meth c Z, F p l e R s m args below meth c Z → meth.name = "<init>") (hn : narrow (fY ci j) v = v) (hfit : fits (fY ci j) v = true) (ha : Is T G a ci)
    (hk : gK G' = gK G) (hS : gS G' = gS G) (hv : fv I' G' a ci j = v) (ho : ∀ i, i ≠ j → fv I' G' a ci i = fv I G a ci i) (hE : ∀ x, x ≠ a → cE T I' G' x = cE T I G x)
    (k : Ex T own cc nL d F pc' ls st I' G' b) : Ex T own cc nL d F pc ls (v :: .ref a :: st) I G b := by
  intro p l e R s m args below meth c Z H locs cells slots rl B S hF M h1 h2 L
  obtain ⟨hd, rfl⟩ := hd
  obtain ⟨hc, hj, hw⟩ := hf
  have hat := M.at ha
  rw [cE_obj ha.1 hc] at hat
  obtain ⟨r, hr, cell, q1, q2, q3, q4⟩ := hat
  have hr : r = (fC ci, fT ci, fN ci) := Option.some.inj (hr.symm.trans (fC_at hc))
  subst hr
  obtain ⟨hSl, hfc, kC, hkC, hkind⟩ := S.1.1 ci _ (fC_at hc)
  obtain ⟨cf, kf, fi, f, hi, hsl⟩ := hSl j hj
  have hts := B.2.2.2.2.1
  have hlay := hts _ (gws hc _ (u_in_lay hj))
  unfold u_lay at hlay
  rw [if_pos hnf] at hlay
  have hst := (u_facts hfc hkC (u_lays hts (gws hc) hj) hi).1
  have hcf : m.cls = cf := by
    obtain ⟨_, _, c', _, _, _, -, -, hf', -, -, -, hown2, -⟩ := Cond.laysFinal_spec hlay
    have e1 : c' = cf := by have := hi.symm.trans hf'; simp at this; exact this.1.symm
    rw [fT_own hc j hj, ← hown] at hown2
    rw [← e1]; exact Option.some.inj (B.2.2.2.1.symm.trans hown2)
  have h6 := u_fits hfc hkC hkind (Or.inr hlay) hi (fY_ok hc j hj) hn hfit
  have hi' := hi
  rw [fT_own hc j hj] at hi'
  refine W.putFinK B.1 B.2.1 B.2.2.2.1 (hts _ hw) hi' hst hcf (hinit p l e R s m args below meth c Z hF) (by rw [q2]; exact h6) q1 q3 (by rw [hsl]; exact k2_hasslot (q4 j hj)) rfl rfl hd fun H' e1 e2 e3 => ?_
  rw [hsl] at e1 ⊢
  exact k p l e R s m args below meth c Z H' _ cells slots rl B S hF (M.upd hS ha.2.1 ha.2.2 e2 e3 (obj_set hc hj hts S.1 q2 q3 q4 e1 (by rw [hk]; exact ha.1) hv ho) hE) h1 h2 L
theorem cE_setI {x : Nat} {v : Int32} (h : x ≠ a) : cE T (setI I a j v) G x = cE T I G x := by
  unfold cE arE flds fv
  rw [setI_a h]
theorem cE_setR {x : Nat} {v : Option Nat} (h : x ≠ a) : cE T I (setR G a j v) x = cE T I G x := by
  have e : ∀ y, gR (setR G a j v) x y = gR G x y := fun y => if_neg fun q => h q.1
  have e2 : gR (setR G a j v) x = gR G x := funext e
  unfold cE arE flds fv
  simp only [setR_K, setR_N, setR_L, e2]
theorem cE_setG {x : Nat} {v : Int64} (h : x ≠ a) : cE T I (setG G a j v) x = cE T I G x := by
  have e2 : gL (setG G a j v) x = gL G x := funext fun y => if_neg fun q => h q.1
  unfold cE arE flds fv
  rw [e2]
  rfl
/-- an int field is written -/
theorem Ex_puti {v : Int32} (hd : Dc cc pc 3 pc' (.putfield ix)) (hf : FI own ix ci j) (hnf : (fT ci j).2.2.2 = false) (hn : narrow (fY ci j) (.int v) = .int v) (hfit : fits (fY ci j) (.int v) = true) (ha : Is T G a ci) (k : Ex T own cc nL d F pc' ls st (setI I a j v) G b) : Ex T own cc nL d F pc ls (.int v :: .ref a :: st) I G b := by
  refine Ex_put hd hf.1 hnf hn hfit ha rfl rfl ?_ ?_ (fun x h => cE_setI h) k
  · unfold fv; rw [hf.2, setI_s]; rfl
  · intro i hi
    unfold fv
    rw [setI_n (fun q => hi q.2)]
/-- a final int field is written in a constructor -/
theorem Ex_putiF {v : Int32} (hd : Dc cc pc 3 pc' (.putfield ix)) (hf : FI own ix ci j) (hnf : (fT ci j).2.2.2 = true) (hown : own = fC ci) (hinit : ∀ p l e R s m args below meth c Z, F p l e R s m args below meth c Z → meth.name = "<init>") (hn : narrow (fY ci j) (.int v) = .int v) (hfit : fits (fY ci j) (.int v) = true) (ha : Is T G a ci) (k : Ex T own cc nL d F pc' ls st (setI I a j v) G b) : Ex T own cc nL d F pc ls (.int v :: .ref a :: st) I G b := by
  refine Ex_putF hd hf.1 hnf hown hinit hn hfit ha rfl rfl ?_ ?_ (fun x h => cE_setI h) k
  · unfold fv; rw [hf.2, setI_s]; rfl
  · intro i hi
    unfold fv
    rw [setI_n (fun q => hi q.2)]
/-- a final reference field is written in a constructor -/
theorem Ex_putrF {v : Nat} (hd : Dc cc pc 3 pc' (.putfield ix)) (hf : FR own ix ci j) (hnf : (fT ci j).2.2.2 = true) (hown : own = fC ci) (hinit : ∀ p l e R s m args below meth c Z, F p l e R s m args below meth c Z → meth.name = "<init>") (hn : narrow (fY ci j) (.ref v) = .ref v) (hfit : fits (fY ci j) (.ref v) = true) (ha : Is T G a ci) (k : Ex T own cc nL d F pc' ls st I (setR G a j (some v)) b) : Ex T own cc nL d F pc ls (.ref v :: .ref a :: st) I G b := by
  refine Ex_putF (I' := I) (G' := setR G a j (some v)) hd hf.1 hnf hown hinit hn hfit ha rfl rfl ?_ ?_ (fun x h => cE_setR h) k
  · unfold fv; rw [hf.2, setR_R]; simp [va_rf]
  · intro i hi
    unfold fv
    rw [setR_R]
    simp [hi]
end M2
section M3
variable {T : TC} {own : String} {cc : ByteArray} {nL d pc pc' : Nat} {F : FinT} {ls : List (Option Value)} {st : List Value} {I : MI} {G : MG} {b : Nat × Nat} {a j : Nat} {x : Int32}
theorem nI_vp {x : Int32} {j n : Nat} (hx : x = nI j) (hj : j < n) (hn : n < 2 ^ 31) : vp_in x n ∧ x.toNatClampNeg = j := by
  subst hx
  exact ⟨vp_in_nI hj hn, nI_clamp (by omega)⟩
theorem Ex_alen {kk : Nat} {v : Int32} (hd : Dc cc pc 1 pc' .arraylength) (ha : Is T G a kk) (h0 : 10 ≤ kk) (h9 : kk < 19) (hv : Int32.ofNat (gN G a) = v) (k : Ex T own cc nL d F pc' ls (.int v :: st) I G b) : Ex T own cc nL d F pc ls (.ref a :: st) I G b := by
  intro p l e R s m args below meth c Z H locs cells slots rl B S hF M h1 h2 L
  obtain ⟨hd, rfl⟩ := hd
  have hg := wL_get (I := I) ha.2.1 ha.2.2
  have hK : va_K (tD T) vwCl [(tC T kk, aY kk)] s := ⟨S.1.1, fun i q hq => by
    have hi : i = 0 := by
      have := (List.getElem?_eq_some_iff.mp hq).1
      simp at this; exact this
    subst hi; cases hq; exact S.2.1 kk h0 h9⟩
  have eE : cE T I G a = .inl (tC T kk, (gN G a, arE I G a)) := by unfold cE; rw [ha.1, if_neg (by omega)]
  rw [eE] at hg
  exact va_alen (D := tD T) (cl := vwCl) B.1 B.2.1 hK M.2.1 _ 0 hg rfl hv hd (k p l e R s m args below meth c Z H locs cells slots rl B S hF M h1 h2 L)
theorem St.arr {s : State} {kk : Nat} (S : St T s) (h0 : 10 ≤ kk) (h9 : kk < 19) : va_K (tD T) vwCl [(tC T kk, aY kk)] s := ⟨S.1.1, fun i q hq => by
    have hi : i = 0 := by
      have := (List.getElem?_eq_some_iff.mp hq).1
      simp at this; exact this
    subst hi; cases hq; exact S.2.1 kk h0 h9⟩
theorem Ex_iald (hd : Dc cc pc 1 pc' .iaload) (ha : Is T G a 10) (hx : x = nI j) (hj : j < gN G a) (hN : gN G a < 2 ^ 31)  (k : Ex T own cc nL d F pc' ls (.int (I a j) :: st) I G b) : Ex T own cc nL d F pc ls (.int x :: .ref a :: st) I G b := by
  intro p l e R s m args below meth c Z H locs cells slots rl B S hF M h1 h2 L
  obtain ⟨hd, rfl⟩ := hd
  have hg := wL_get (I := I) ha.2.1 ha.2.2
  rw [cE_int ha.1 (by omega) (by omega)] at hg
  obtain ⟨hi, hc⟩ := nI_vp hx hj hN
  refine va_iald (D := tD T) (cl := vwCl) B.1 B.2.1 (S.arr (kk := 10) (by omega) (by omega)) M.2.1 _ 0 hg rfl hi hd ?_
  rw [hc]
  exact k p l e R s m args below meth c Z H locs cells slots rl B S hF M h1 h2 L
theorem Ex_zald (hd : Dc cc pc 1 pc' .baload) (ha : Is T G a 11) (hx : x = nI j) (hj : j < gN G a) (hN : gN G a < 2 ^ 31)  (k : Ex T own cc nL d F pc' ls (.int (I a j) :: st) I G b) : Ex T own cc nL d F pc ls (.int x :: .ref a :: st) I G b := by
  intro p l e R s m args below meth c Z H locs cells slots rl B S hF M h1 h2 L
  obtain ⟨hd, rfl⟩ := hd
  have hg := wL_get (I := I) ha.2.1 ha.2.2
  rw [cE_int ha.1 (by omega) (by omega)] at hg
  obtain ⟨hi, hc⟩ := nI_vp hx hj hN
  refine va_zald (D := tD T) (cl := vwCl) B.1 B.2.1 (S.arr (kk := 11) (by omega) (by omega)) M.2.1 _ 0 hg rfl hi hd ?_
  rw [hc]
  exact k p l e R s m args below meth c Z H locs cells slots rl B S hF M h1 h2 L
theorem Ex_cald (hd : Dc cc pc 1 pc' .caload) (ha : Is T G a 12) (hx : x = nI j) (hj : j < gN G a) (hN : gN G a < 2 ^ 31)  (k : Ex T own cc nL d F pc' ls (.int (I a j) :: st) I G b) : Ex T own cc nL d F pc ls (.int x :: .ref a :: st) I G b := by
  intro p l e R s m args below meth c Z H locs cells slots rl B S hF M h1 h2 L
  obtain ⟨hd, rfl⟩ := hd
  have hg := wL_get (I := I) ha.2.1 ha.2.2
  rw [cE_int ha.1 (by omega) (by omega)] at hg
  obtain ⟨hi, hc⟩ := nI_vp hx hj hN
  refine va_cald (D := tD T) (cl := vwCl) B.1 B.2.1 (S.arr (kk := 12) (by omega) (by omega)) M.2.1 _ 0 hg rfl hi hd ?_
  rw [hc]
  exact k p l e R s m args below meth c Z H locs cells slots rl B S hF M h1 h2 L
theorem Ex_lald (hd : Dc cc pc 1 pc' .laload) (ha : Is T G a 13) (hx : x = nI j) (hj : j < gN G a) (hN : gN G a < 2 ^ 31)  (k : Ex T own cc nL d F pc' ls (.long (gL G a j) :: st) I G b) : Ex T own cc nL d F pc ls (.int x :: .ref a :: st) I G b := by
  intro p l e R s m args below meth c Z H locs cells slots rl B S hF M h1 h2 L
  obtain ⟨hd, rfl⟩ := hd
  have hg := wL_get (I := I) ha.2.1 ha.2.2
  rw [cE_long ha.1] at hg
  obtain ⟨hi, hc⟩ := nI_vp hx hj hN
  refine va_lald (D := tD T) (cl := vwCl) B.1 B.2.1 (S.arr (kk := 13) (by omega) (by omega)) M.2.1 _ 0 hg rfl hi hd ?_
  rw [hc]
  exact k p l e R s m args below meth c Z H locs cells slots rl B S hF M h1 h2 L
theorem Ex_aaldSu {r : Nat} (hd : Dc cc pc 1 pc' .aaload) (ha : Is T G a 14) (hx : x = nI j) (hj : j < gN G a) (hN : gN G a < 2 ^ 31) (hr : gR G a j = some r) (k : Ex T own cc nL d F pc' ls (.ref r :: st) I G b) : Ex T own cc nL d F pc ls (.int x :: .ref a :: st) I G b := by
  intro p l e R s m args below meth c Z H locs cells slots rl B S hF M h1 h2 L
  obtain ⟨hd, rfl⟩ := hd
  have hg := wL_get (I := I) ha.2.1 ha.2.2
  rw [cE_ref ha.1 (by omega)] at hg
  obtain ⟨hi, hc⟩ := nI_vp hx hj hN
  refine va_aldq (D := tD T) (cl := vwCl) B.1 B.2.1 (S.arr (kk := 14) (by omega) (by omega)) M.2.1 _ 0 hg rfl hi hd ?_
  rw [hc, hr]
  exact k p l e R s m args below meth c Z H locs cells slots rl B S hF M h1 h2 L
theorem Ex_aaldSh {r : Nat} (hd : Dc cc pc 1 pc' .aaload) (ha : Is T G a 15) (hx : x = nI j) (hj : j < gN G a) (hN : gN G a < 2 ^ 31) (hr : gR G a j = some r) (k : Ex T own cc nL d F pc' ls (.ref r :: st) I G b) : Ex T own cc nL d F pc ls (.int x :: .ref a :: st) I G b := by
  intro p l e R s m args below meth c Z H locs cells slots rl B S hF M h1 h2 L
  obtain ⟨hd, rfl⟩ := hd
  have hg := wL_get (I := I) ha.2.1 ha.2.2
  rw [cE_ref ha.1 (by omega)] at hg
  obtain ⟨hi, hc⟩ := nI_vp hx hj hN
  refine va_aldq (D := tD T) (cl := vwCl) B.1 B.2.1 (S.arr (kk := 15) (by omega) (by omega)) M.2.1 _ 0 hg rfl hi hd ?_
  rw [hc, hr]
  exact k p l e R s m args below meth c Z H locs cells slots rl B S hF M h1 h2 L
theorem Ex_aaldSl {r : Nat} (hd : Dc cc pc 1 pc' .aaload) (ha : Is T G a 16) (hx : x = nI j) (hj : j < gN G a) (hN : gN G a < 2 ^ 31) (hr : gR G a j = some r) (k : Ex T own cc nL d F pc' ls (.ref r :: st) I G b) : Ex T own cc nL d F pc ls (.int x :: .ref a :: st) I G b := by
  intro p l e R s m args below meth c Z H locs cells slots rl B S hF M h1 h2 L
  obtain ⟨hd, rfl⟩ := hd
  have hg := wL_get (I := I) ha.2.1 ha.2.2
  rw [cE_ref ha.1 (by omega)] at hg
  obtain ⟨hi, hc⟩ := nI_vp hx hj hN
  refine va_aldq (D := tD T) (cl := vwCl) B.1 B.2.1 (S.arr (kk := 16) (by omega) (by omega)) M.2.1 _ 0 hg rfl hi hd ?_
  rw [hc, hr]
  exact k p l e R s m args below meth c Z H locs cells slots rl B S hF M h1 h2 L
theorem Ex_aaldTe {r : Nat} (hd : Dc cc pc 1 pc' .aaload) (ha : Is T G a 17) (hx : x = nI j) (hj : j < gN G a) (hN : gN G a < 2 ^ 31) (hr : gR G a j = some r) (k : Ex T own cc nL d F pc' ls (.ref r :: st) I G b) : Ex T own cc nL d F pc ls (.int x :: .ref a :: st) I G b := by
  intro p l e R s m args below meth c Z H locs cells slots rl B S hF M h1 h2 L
  obtain ⟨hd, rfl⟩ := hd
  have hg := wL_get (I := I) ha.2.1 ha.2.2
  rw [cE_ref ha.1 (by omega)] at hg
  obtain ⟨hi, hc⟩ := nI_vp hx hj hN
  refine va_aldq (D := tD T) (cl := vwCl) B.1 B.2.1 (S.arr (kk := 17) (by omega) (by omega)) M.2.1 _ 0 hg rfl hi hd ?_
  rw [hc, hr]
  exact k p l e R s m args below meth c Z H locs cells slots rl B S hF M h1 h2 L
theorem Ex_aaldTeN (hd : Dc cc pc 1 pc' .aaload) (ha : Is T G a 17) (hx : x = nI j) (hj : j < gN G a) (hN : gN G a < 2 ^ 31) (hr : gR G a j = none) (k : Ex T own cc nL d F pc' ls (.null :: st) I G b) : Ex T own cc nL d F pc ls (.int x :: .ref a :: st) I G b := by
  intro p l e R s m args below meth c Z H locs cells slots rl B S hF M h1 h2 L
  obtain ⟨hd, rfl⟩ := hd
  have hg := wL_get (I := I) ha.2.1 ha.2.2
  rw [cE_ref ha.1 (by omega)] at hg
  obtain ⟨hi, hc⟩ := nI_vp hx hj hN
  refine va_aldq (D := tD T) (cl := vwCl) B.1 B.2.1 (S.arr (kk := 17) (by omega) (by omega)) M.2.1 _ 0 hg rfl hi hd ?_
  rw [hc, hr]
  exact k p l e R s m args below meth c Z H locs cells slots rl B S hF M h1 h2 L
theorem Ex_aaldI {r : Nat} (hd : Dc cc pc 1 pc' .aaload) (ha : Is T G a 18) (hx : x = nI j) (hj : j < gN G a) (hN : gN G a < 2 ^ 31) (hr : gR G a j = some r) (k : Ex T own cc nL d F pc' ls (.ref r :: st) I G b) : Ex T own cc nL d F pc ls (.int x :: .ref a :: st) I G b := by
  intro p l e R s m args below meth c Z H locs cells slots rl B S hF M h1 h2 L
  obtain ⟨hd, rfl⟩ := hd
  have hat := M.at ha
  rw [cE_ref ha.1 (by omega)] at hat
  obtain ⟨hi, hc⟩ := nI_vp hx hj hN
  have hlt : x.toNatClampNeg < gN G a := by rw [hc]; exact hj
  refine W.aald (v := va_rf (gR G a x.toNatClampNeg)) (ty := .array .int) B.1 B.2.1 hat ((S.2.1 18 (by omega) (by omega)).1 (gN G a) (fun j => va_rf (gR G a j))) rfl (fun q => by cases q) (by show ¬ (x < 0 ∨ (arrV _ _ _).slots.size ≤ _); rw [arrV_size]; exact hi) (by show (arrV _ _ _).slots[_]? = _; rw [arrV_read _ _ hlt]) rfl rfl hd ?_
  rw [hc, hr]
  exact k p l e R s m args below meth c Z H locs cells slots rl B S hF M h1 h2 L
theorem Ex_iast {v : Int32} (hd : Dc cc pc 1 pc' .iastore) (ha : Is T G a 10) (hx : x = nI j) (hj : j < gN G a) (hN : gN G a < 2 ^ 31)  (k : Ex T own cc nL d F pc' ls st (setI I a j v) G b) : Ex T own cc nL d F pc ls (.int v :: .int x :: .ref a :: st) I G b := by
  intro p l e R s m args below meth c Z H locs cells slots rl B S hF M h1 h2 L
  obtain ⟨hd, rfl⟩ := hd
  have hat := M.at ha
  rw [cE_int ha.1 (by omega) (by omega)] at hat
  obtain ⟨hi, hc⟩ := nI_vp hx hj hN
  refine W.iast B.1 B.2.1 hat ((S.2.1 10 (by omega) (by omega)).1 (gN G a) (fun j => .int (I a j))) (fun q => by cases q) (by show ¬ (x < 0 ∨ (arrV _ _ _).slots.size ≤ _); rw [arrV_size]; exact hi) rfl rfl hd fun H1 e1 z oq => ?_
  refine k p l e R s m args below meth c Z H1 _ cells slots rl B S hF (M.upd (j := x.toNatClampNeg) rfl ha.2.1 ha.2.2 z oq ?_ (fun y h => cE_setI h)) h1 h2 L
  rw [hc] at e1
  rw [cE_int (k := 10) ha.1 (by omega) (by omega)]
  show H1[a]? = some (vp_cell _ _)
  rw [e1, vp_cell_i, vp_cell_i, arrV_store, setI_u]
  congr 2
  funext q
  by_cases hq : q = j
  · subst hq
    simp [updV, upd]
    try rfl
  · simp [updV, upd, hq]
theorem Ex_zast {v : Int32} (hd : Dc cc pc 1 pc' .bastore) (ha : Is T G a 11) (hx : x = nI j) (hj : j < gN G a) (hN : gN G a < 2 ^ 31) (hnar : narrow .boolean (.int v) = .int v) (k : Ex T own cc nL d F pc' ls st (setI I a j v) G b) : Ex T own cc nL d F pc ls (.int v :: .int x :: .ref a :: st) I G b := by
  intro p l e R s m args below meth c Z H locs cells slots rl B S hF M h1 h2 L
  obtain ⟨hd, rfl⟩ := hd
  have hat := M.at ha
  rw [cE_int ha.1 (by omega) (by omega)] at hat
  obtain ⟨hi, hc⟩ := nI_vp hx hj hN
  refine W.zast B.1 B.2.1 hat ((S.2.1 11 (by omega) (by omega)).1 (gN G a) (fun j => .int (I a j))) (fun q => by cases q) (by show ¬ (x < 0 ∨ (arrV _ _ _).slots.size ≤ _); rw [arrV_size]; exact hi) rfl rfl hd fun H1 e1 z oq => ?_
  refine k p l e R s m args below meth c Z H1 _ cells slots rl B S hF (M.upd (j := x.toNatClampNeg) rfl ha.2.1 ha.2.2 z oq ?_ (fun y h => cE_setI h)) h1 h2 L
  rw [hc] at e1
  rw [cE_int (k := 11) ha.1 (by omega) (by omega)]
  show H1[a]? = some (vp_cell _ _)
  rw [e1, vp_cell_i, vp_cell_i, arrV_store, setI_u]
  congr 2
  funext q
  by_cases hq : q = j
  · subst hq
    simp [updV, upd, hnar]
    try rfl
  · simp [updV, upd, hq]
theorem Ex_cast {v : Int32} (hd : Dc cc pc 1 pc' .castore) (ha : Is T G a 12) (hx : x = nI j) (hj : j < gN G a) (hN : gN G a < 2 ^ 31) (hnar : narrow .char (.int v) = .int v) (k : Ex T own cc nL d F pc' ls st (setI I a j v) G b) : Ex T own cc nL d F pc ls (.int v :: .int x :: .ref a :: st) I G b := by
  intro p l e R s m args below meth c Z H locs cells slots rl B S hF M h1 h2 L
  obtain ⟨hd, rfl⟩ := hd
  have hat := M.at ha
  rw [cE_int ha.1 (by omega) (by omega)] at hat
  obtain ⟨hi, hc⟩ := nI_vp hx hj hN
  refine W.cast B.1 B.2.1 hat ((S.2.1 12 (by omega) (by omega)).1 (gN G a) (fun j => .int (I a j))) (fun q => by cases q) (by show ¬ (x < 0 ∨ (arrV _ _ _).slots.size ≤ _); rw [arrV_size]; exact hi) rfl rfl hd fun H1 e1 z oq => ?_
  refine k p l e R s m args below meth c Z H1 _ cells slots rl B S hF (M.upd (j := x.toNatClampNeg) rfl ha.2.1 ha.2.2 z oq ?_ (fun y h => cE_setI h)) h1 h2 L
  rw [hc] at e1
  rw [cE_int (k := 12) ha.1 (by omega) (by omega)]
  show H1[a]? = some (vp_cell _ _)
  rw [e1, vp_cell_i, vp_cell_i, arrV_store, setI_u]
  congr 2
  funext q
  by_cases hq : q = j
  · subst hq
    simp [updV, upd, hnar]
    try rfl
  · simp [updV, upd, hq]
theorem Ex_last {v : Int64} (hd : Dc cc pc 1 pc' .lastore) (ha : Is T G a 13) (hx : x = nI j) (hj : j < gN G a) (hN : gN G a < 2 ^ 31)  (k : Ex T own cc nL d F pc' ls st I (setG G a j v) b) : Ex T own cc nL d F pc ls (.long v :: .int x :: .ref a :: st) I G b := by
  intro p l e R s m args below meth c Z H locs cells slots rl B S hF M h1 h2 L
  obtain ⟨hd, rfl⟩ := hd
  have hat := M.at ha
  rw [cE_long ha.1] at hat
  obtain ⟨hi, hc⟩ := nI_vp hx hj hN
  refine W.last B.1 B.2.1 hat ((S.2.1 13 (by omega) (by omega)).1 (gN G a) (fun j => .long (gL G a j))) (fun q => by cases q) (by show ¬ (x < 0 ∨ (arrV _ _ _).slots.size ≤ _); rw [arrV_size]; exact hi) rfl rfl hd fun H1 e1 z oq => ?_
  refine k p l e R s m args below meth c Z H1 _ cells slots rl B S hF (M.upd (j := x.toNatClampNeg) rfl ha.2.1 ha.2.2 z oq ?_ (fun y h => cE_setG h)) h1 h2 L
  rw [hc] at e1
  rw [cE_long (G := setG G a j v) ha.1]
  show H1[a]? = some (vp_cell _ _)
  rw [e1, vp_cell_l, vp_cell_l, arrV_store, setG_L, setG_N]
  congr 2
  funext q
  by_cases hq : q = j
  · subst hq
    simp [updV]
  · simp [updV, hq]
theorem Ex_aastSu {v : Nat} (hd : Dc cc pc 1 pc' .aastore) (ha : Is T G a 14) (hv : Is T G v 5) (hx : x = nI j) (hj : j < gN G a) (hN : gN G a < 2 ^ 31) (k : Ex T own cc nL d F pc' ls st I (setR G a j (some v)) b) : Ex T own cc nL d F pc ls (.ref v :: .int x :: .ref a :: st) I G b := by
  intro p l e R s m args below meth c Z H locs cells slots rl B S hF M h1 h2 L
  obtain ⟨hd, rfl⟩ := hd
  have hat := M.at ha
  rw [cE_ref ha.1 (by omega)] at hat
  have hatv := M.at hv
  rw [cE_obj hv.1 (by omega)] at hatv
  obtain ⟨r', hr', cellV, g1, g2, g3, -⟩ := hatv
  obtain ⟨hi, hc⟩ := nI_vp hx hj hN
  have hcls := (S.1.1 5 _ (fC_at (by omega))).2
  obtain ⟨kA, comp, k1, k2, k3, -⟩ := (S.2.1 14 (by omega) (by omega)).2
  have hcomp : comp = (tD T).1 5 := Option.some.inj (k3.symm.trans hcls.1)
  subst hcomp
  obtain ⟨kC, hkC, -⟩ := hcls.2
  refine W.aast B.1 B.2.1 hat (fun q h => by cases h) (fun h => by cases h) k1 k2 rfl hkC ⟨fun q => hi (Or.inl q), by show _ < (arrV _ _ _).slots.size; rw [arrV_size]; exact Nat.not_le.mp fun q => hi (Or.inr q)⟩ g1 (fun q h => by rw [g3] at h; cases h) (by rw [g2]; exact hkC) (by rw [g2]; exact va_assign hcls) rfl rfl hd fun H1 e1 z oq => ?_
  refine k p l e R s m args below meth c Z H1 _ cells slots rl B S hF (M.upd (j := x.toNatClampNeg) rfl ha.2.1 ha.2.2 z oq ?_ (fun y h => cE_setR h)) h1 h2 L
  rw [hc] at e1
  rw [cE_ref (k := 14) (G := setR G a j (some v)) ha.1 (by omega)]
  show H1[a]? = some (vp_cell _ _)
  rw [e1, vp_cell_q, vp_cell_q, arrV_store, setR_R, setR_N]
  congr 2
  funext q
  by_cases hq : q = j
  · subst hq
    simp [updV, va_rf]
  · simp [updV, hq]
theorem Ex_aastSh {v : Nat} (hd : Dc cc pc 1 pc' .aastore) (ha : Is T G a 15) (hv : Is T G v 3) (hx : x = nI j) (hj : j < gN G a) (hN : gN G a < 2 ^ 31) (k : Ex T own cc nL d F pc' ls st I (setR G a j (some v)) b) : Ex T own cc nL d F pc ls (.ref v :: .int x :: .ref a :: st) I G b := by
  intro p l e R s m args below meth c Z H locs cells slots rl B S hF M h1 h2 L
  obtain ⟨hd, rfl⟩ := hd
  have hat := M.at ha
  rw [cE_ref ha.1 (by omega)] at hat
  have hatv := M.at hv
  rw [cE_obj hv.1 (by omega)] at hatv
  obtain ⟨r', hr', cellV, g1, g2, g3, -⟩ := hatv
  obtain ⟨hi, hc⟩ := nI_vp hx hj hN
  have hcls := (S.1.1 3 _ (fC_at (by omega))).2
  obtain ⟨kA, comp, k1, k2, k3, -⟩ := (S.2.1 15 (by omega) (by omega)).2
  have hcomp : comp = (tD T).1 3 := Option.some.inj (k3.symm.trans hcls.1)
  subst hcomp
  obtain ⟨kC, hkC, -⟩ := hcls.2
  refine W.aast B.1 B.2.1 hat (fun q h => by cases h) (fun h => by cases h) k1 k2 rfl hkC ⟨fun q => hi (Or.inl q), by show _ < (arrV _ _ _).slots.size; rw [arrV_size]; exact Nat.not_le.mp fun q => hi (Or.inr q)⟩ g1 (fun q h => by rw [g3] at h; cases h) (by rw [g2]; exact hkC) (by rw [g2]; exact va_assign hcls) rfl rfl hd fun H1 e1 z oq => ?_
  refine k p l e R s m args below meth c Z H1 _ cells slots rl B S hF (M.upd (j := x.toNatClampNeg) rfl ha.2.1 ha.2.2 z oq ?_ (fun y h => cE_setR h)) h1 h2 L
  rw [hc] at e1
  rw [cE_ref (k := 15) (G := setR G a j (some v)) ha.1 (by omega)]
  show H1[a]? = some (vp_cell _ _)
  rw [e1, vp_cell_q, vp_cell_q, arrV_store, setR_R, setR_N]
  congr 2
  funext q
  by_cases hq : q = j
  · subst hq
    simp [updV, va_rf]
  · simp [updV, hq]
theorem Ex_aastSl {v : Nat} (hd : Dc cc pc 1 pc' .aastore) (ha : Is T G a 16) (hv : Is T G v 4) (hx : x = nI j) (hj : j < gN G a) (hN : gN G a < 2 ^ 31) (k : Ex T own cc nL d F pc' ls st I (setR G a j (some v)) b) : Ex T own cc nL d F pc ls (.ref v :: .int x :: .ref a :: st) I G b := by
  intro p l e R s m args below meth c Z H locs cells slots rl B S hF M h1 h2 L
  obtain ⟨hd, rfl⟩ := hd
  have hat := M.at ha
  rw [cE_ref ha.1 (by omega)] at hat
  have hatv := M.at hv
  rw [cE_obj hv.1 (by omega)] at hatv
  obtain ⟨r', hr', cellV, g1, g2, g3, -⟩ := hatv
  obtain ⟨hi, hc⟩ := nI_vp hx hj hN
  have hcls := (S.1.1 4 _ (fC_at (by omega))).2
  obtain ⟨kA, comp, k1, k2, k3, -⟩ := (S.2.1 16 (by omega) (by omega)).2
  have hcomp : comp = (tD T).1 4 := Option.some.inj (k3.symm.trans hcls.1)
  subst hcomp
  obtain ⟨kC, hkC, -⟩ := hcls.2
  refine W.aast B.1 B.2.1 hat (fun q h => by cases h) (fun h => by cases h) k1 k2 rfl hkC ⟨fun q => hi (Or.inl q), by show _ < (arrV _ _ _).slots.size; rw [arrV_size]; exact Nat.not_le.mp fun q => hi (Or.inr q)⟩ g1 (fun q h => by rw [g3] at h; cases h) (by rw [g2]; exact hkC) (by rw [g2]; exact va_assign hcls) rfl rfl hd fun H1 e1 z oq => ?_
  refine k p l e R s m args below meth c Z H1 _ cells slots rl B S hF (M.upd (j := x.toNatClampNeg) rfl ha.2.1 ha.2.2 z oq ?_ (fun y h => cE_setR h)) h1 h2 L
  rw [hc] at e1
  rw [cE_ref (k := 16) (G := setR G a j (some v)) ha.1 (by omega)]
  show H1[a]? = some (vp_cell _ _)
  rw [e1, vp_cell_q, vp_cell_q, arrV_store, setR_R, setR_N]
  congr 2
  funext q
  by_cases hq : q = j
  · subst hq
    simp [updV, va_rf]
  · simp [updV, hq]
theorem Ex_aastTe {v : Nat} (hd : Dc cc pc 1 pc' .aastore) (ha : Is T G a 17) (hv : Is T G v 7) (hx : x = nI j) (hj : j < gN G a) (hN : gN G a < 2 ^ 31) (k : Ex T own cc nL d F pc' ls st I (setR G a j (some v)) b) : Ex T own cc nL d F pc ls (.ref v :: .int x :: .ref a :: st) I G b := by
  intro p l e R s m args below meth c Z H locs cells slots rl B S hF M h1 h2 L
  obtain ⟨hd, rfl⟩ := hd
  have hat := M.at ha
  rw [cE_ref ha.1 (by omega)] at hat
  have hatv := M.at hv
  rw [cE_obj hv.1 (by omega)] at hatv
  obtain ⟨r', hr', cellV, g1, g2, g3, -⟩ := hatv
  obtain ⟨hi, hc⟩ := nI_vp hx hj hN
  have hcls := (S.1.1 7 _ (fC_at (by omega))).2
  obtain ⟨kA, comp, k1, k2, k3, -⟩ := (S.2.1 17 (by omega) (by omega)).2
  have hcomp : comp = (tD T).1 7 := Option.some.inj (k3.symm.trans hcls.1)
  subst hcomp
  obtain ⟨kC, hkC, -⟩ := hcls.2
  refine W.aast B.1 B.2.1 hat (fun q h => by cases h) (fun h => by cases h) k1 k2 rfl hkC ⟨fun q => hi (Or.inl q), by show _ < (arrV _ _ _).slots.size; rw [arrV_size]; exact Nat.not_le.mp fun q => hi (Or.inr q)⟩ g1 (fun q h => by rw [g3] at h; cases h) (by rw [g2]; exact hkC) (by rw [g2]; exact va_assign hcls) rfl rfl hd fun H1 e1 z oq => ?_
  refine k p l e R s m args below meth c Z H1 _ cells slots rl B S hF (M.upd (j := x.toNatClampNeg) rfl ha.2.1 ha.2.2 z oq ?_ (fun y h => cE_setR h)) h1 h2 L
  rw [hc] at e1
  rw [cE_ref (k := 17) (G := setR G a j (some v)) ha.1 (by omega)]
  show H1[a]? = some (vp_cell _ _)
  rw [e1, vp_cell_q, vp_cell_q, arrV_store, setR_R, setR_N]
  congr 2
  funext q
  by_cases hq : q = j
  · subst hq
    simp [updV, va_rf]
  · simp [updV, hq]
end M3
