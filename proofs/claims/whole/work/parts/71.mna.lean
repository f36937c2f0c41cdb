/-! rows of rows come -/
def mnI (I : MI) (q : Nat) : MI := fun x y => if q ≤ x ∧ x < q + 14 then 0 else I x y
def mnG (G : MG) (q : Nat) : MG := (fun x y => if x = q then (if y < 13 then some (q + 1 + y) else none) else if q < x ∧ x < q + 14 then none else gR G x y, fun x y => if q ≤ x ∧ x < q + 14 then 0 else gL G x y, fun x => if x = q then 18 else if q < x ∧ x < q + 14 then 10 else gK G x, fun x => if q ≤ x ∧ x < q + 14 then 13 else gN G x, gS G + 14)
theorem mnI_o {I : MI} {q x : Nat} (h : ¬ (q ≤ x ∧ x < q + 14)) : mnI I q x = I x := funext fun _ => if_neg h
theorem mnI_z {I : MI} {q x y : Nat} (h : q ≤ x ∧ x < q + 14) : mnI I q x y = 0 := if_pos h
theorem mnG_K {G : MG} {q x : Nat} (h : ¬ (q ≤ x ∧ x < q + 14)) : gK (mnG G q) x = gK G x := by
  show (if x = q then 18 else if q < x ∧ x < q + 14 then 10 else gK G x) = _
  rw [if_neg (by omega), if_neg (by omega)]
theorem mnG_N {G : MG} {q x : Nat} (h : ¬ (q ≤ x ∧ x < q + 14)) : gN (mnG G q) x = gN G x := if_neg h
theorem mnG_R {G : MG} {q x : Nat} (h : ¬ (q ≤ x ∧ x < q + 14)) : gR (mnG G q) x = gR G x := by
  funext y
  show (if x = q then _ else if q < x ∧ x < q + 14 then none else gR G x y) = _
  rw [if_neg (by omega), if_neg (by omega)]
theorem mnG_L {G : MG} {q x : Nat} (h : ¬ (q ≤ x ∧ x < q + 14)) : gL (mnG G q) x = gL G x := funext fun _ => if_neg h
theorem cE_mn {T : TC} {I : MI} {G : MG} {q x : Nat} (h : ¬ (q ≤ x ∧ x < q + 14)) : cE T (mnI I q) (mnG G q) x = cE T I G x := by
  unfold cE arE flds fv
  rw [mnG_K h, mnG_N h, mnG_R h, mnG_L h, mnI_o h]
theorem mn_nm : "[" ++ (FieldType.array .int).toString = "[[I" := by decide +kernel
set_option maxRecDepth 100000 in
set_option maxHeartbeats 4000000 in
theorem Ex_mna {T : TC} {cc : ByteArray} {nL d pc pc' b1 b2 q : Nat} {F : FinT} {ls : List (Option Value)} {st : List Value} {I : MI} {G : MG} (hd : Dc cc pc 4 pc' (.multianewarray 9 2)) (hq : n0 T + gS G = q) (k : Ex T RX2 cc nL d F pc' ls (.ref q :: st) (mnI I q) (mnG G q) (b1, b2)) : Ex T RX2 cc nL d F pc ls (.int (nI 13) :: .int (nI 13) :: st) I G (b1 + 14, b2 + 182) := by
  intro p l e R s m args below meth c Z H locs cells slots rl B S hF M h1 h2 L
  obtain ⟨hd, rfl⟩ := hd
  have h1' : cells + (b1 + 14) ≤ R.cells := h1
  have h2' : slots + (b2 + 182) ≤ R.slots := h2
  have hc13 : (nI 13).toNatClampNeg = 13 := cl_nI (by decide)
  intro U hU Xs
  have key := Xs.multianewarray2F (ty := .int) B.1 B.2.2.2.1 (by rw [mn_nm]; exact B.2.2.2.2.1 _ lX2_9) (va_AOA.use S.2.2.2.2.1) (B.2.2.2.2.1 _ ac_int) (g := F0 m pc rl (.int (nI 13) :: .int (nI 13) :: st)) rfl (by rw [B.2.1]; exact hd) rfl (nI_pos (by decide)) (nI_pos (by decide)) (by rw [hc13]; decide) (by rw [hc13]; decide) (by rw [hc13]; decide) rfl rfl (by rw [hc13]; omega) (by rw [hc13]; omega)
  rw [hc13] at key
  obtain ⟨vm₁, cA, comp, -, fA, fC, hO, -, X', step⟩ := key
  have hUh : (U.setVm vm₁).heap = H := hU
  obtain ⟨f1, f2, -, -⟩ := Jvm.Free.Multi.fill_facts (U.setVm vm₁) cA comp 13 13 (defaultValue .int) 13
  have fo := fun (x : Nat) (hx : x < H.size) => Jvm.Free.Multi.fill_old (U.setVm vm₁) cA comp 13 13 (defaultValue .int) (a := x) (by rw [hUh]; exact hx) 13
  have fi := fun (j : Nat) (hj : j < 13) => Jvm.Free.Multi.fill_inner (U.setVm vm₁) cA comp 13 13 (defaultValue .int) 13 j hj
  generalize Jvm.Free.Multi.fill (U.setVm vm₁) cA comp 13 13 (defaultValue .int) 13 = W9 at X' step f1 f2 fo fi
  rw [hUh] at f1 f2 fo fi
  have hsz := M.1.trans hq
  rw [hsz] at f1 f2 fo fi
  have eA : cA = tC T 18 := by
    have h18 : s.vm.findClass ("[" ++ (FieldType.array .int).toString) = some (tC T 18) := va_RA_p (by intro C h; cases h) (S.2.1 18 (by omega) (by omega)).2
    exact Option.some.inj (fA.symm.trans h18)
  have eC : comp = tC T 10 := by
    have h10 : s.vm.findClass ("[" ++ FieldType.int.toString) = some (tC T 10) := va_RA_p (by intro C h; cases h) (S.2.1 10 (by omega) (by omega)).2
    have e9 : (FieldType.array .int).toString = "[" ++ FieldType.int.toString := by decide +kernel
    rw [e9] at fC
    exact Option.some.inj (fC.symm.trans h10)
  subst eA
  subst eC
  have hM : Mem T (mnI I q) (mnG G q) W9.heap locs := by
    refine ⟨by rw [f1]; show _ = n0 T + (gS G + 14); omega, ?_, ?_⟩
    · intro i x hx
      simp only [wL, List.getElem?_map, Option.map_eq_some_iff] at hx
      obtain ⟨j, hj, rfl⟩ := hx
      obtain ⟨hj1, hj2⟩ := List.getElem?_eq_some_iff.mp hj
      simp at hj2
      subst hj2
      rw [List.length_range] at hj1
      have hj1' : i < gS G + 14 := hj1
      by_cases e0 : n0 T + i < q
      · have hlt : i < gS G := by omega
        have hP := M.2.1 i (n0 T + i, cE T I G (n0 T + i)) (by simp [wL, List.getElem?_map, List.getElem?_range hlt])
        show va_at (tD T) vwCl (n0 T + i, cE T (mnI I q) (mnG G q) (n0 T + i)) W9.heap
        rw [cE_mn (by omega)]
        exact hP.kept (fo _ (by show n0 T + i < q; omega))
      · by_cases e1 : n0 T + i = q
        · rw [e1, cE_ref (G := mnG G q) (k := 18) (if_pos rfl) (by omega), show gN (mnG G q) q = 13 from if_pos (by omega)]
          show W9.heap[q]? = some (vp_cell _ _)
          rw [f2, vp_cell_q, vr_outer]
          congr 2
          funext y
          show _ = va_rf (if q = q then (if y < 13 then some (q + 1 + y) else none) else _)
          rw [if_pos rfl]
        · obtain ⟨y, hy, ey⟩ : ∃ y, y < 13 ∧ n0 T + i = q + 1 + y := ⟨n0 T + i - (q + 1), by omega, by omega⟩
          rw [ey, cE_int (G := mnG G q) (k := 10) (by show (if q + 1 + y = q then 18 else if q < q + 1 + y ∧ q + 1 + y < q + 14 then 10 else _) = 10; rw [if_neg (by omega), if_pos (by omega)]) (by omega) (by omega), show gN (mnG G q) (q + 1 + y) = 13 from if_pos (by omega)]
          show W9.heap[q + 1 + y]? = some (vp_cell _ _)
          rw [fi y hy, vp_cell_i]
          unfold Jvm.Free.Multi.innerC
          rw [arrV_new]
          congr 2
          funext z
          rw [mnI_z (by omega)]
          rfl
    · obtain ⟨s1, s2, s3⟩ := M.2.2
      have hm := M.1
      exact ⟨by omega, fun x g1 g2 => (fo x (by omega)).trans (s2 x g1 g2), s3⟩
  have kW := k p l e R s m args below meth c Z W9.heap locs (cells + 1 + 13) (slots + 13 + 13 * 13) rl B S hF hM (by show cells + 1 + 13 + b1 ≤ R.cells; omega) (by show slots + 13 + 13 * 13 + b2 ≤ R.slots; omega) L
  obtain ⟨t, a1, b1'⟩ := kW W9 rfl X'
  rw [hU, hsz] at step
  exact ⟨t, step t a1, b1'⟩
