/-! the law: its entry -/
theorem XA_of {args : Array Value} {s : State} {tm : Term} {N : Nat} {f : Nat → Int32} (hN : N < 2 ^ 31) (harr : (Cond.arrayOf tm .int).before args s = true) (hlen : (Term.length tm).eval args s none [] s = some (.int (Int32.ofNat N))) (hel : ∀ j : Nat, j < N → (Term.elem tm (.int (Int32.ofNat j))).eval args s none [] s = some (.int (f j))) : ∃ t : Nat, tm.eval args s none [] s = some (.ref t) ∧ va_X t N f s s.heap ∧ t < s.heap.size := by
  obtain ⟨t, cell, ht, hat, hv⟩ := Term.length_spec hlen
  obtain ⟨hcell, hkn, -, -⟩ := State.arrayAt?_spec hat
  obtain ⟨hof, -⟩ := Cond.arrayOf_spec harr ht hcell
  have hsz : cell.slots.size < 2 ^ 31 := by
    have h9 := hlen
    simp only [Term.eval, ht, hat, Option.bind_eq_bind, Option.bind_some] at h9
    by_cases hlt : cell.slots.size < 2147483648
    · exact hlt
    · simp [hlt] at h9
  have hN' : cell.slots.size = N := (nI_eq hsz hN).mp (Value.int.inj hv).symm
  have key : ∀ j : Nat, j < N → cell.slots[j]? = some (.int (f j)) := by
    intro j hj
    obtain ⟨a, i, cell2, h1, h2, h3, h4, h5⟩ := Term.elem_spec (hel j hj)
    cases ht.symm.trans h1
    cases hat.symm.trans h3
    have hi : i = Int32.ofNat j := by
      have e : (Term.int (Int32.ofNat j)).eval args s none [] s = some (.int (Int32.ofNat j)) := rfl
      cases h2.symm.trans e
      rfl
    have hc : i.toNatClampNeg = j := by rw [hi]; exact Int32.toNatClampNeg_ofNat_of_lt (Nat.lt_trans hj hN)
    rw [hc] at h5
    exact h5
  exact ⟨t, ht, ⟨cell, hcell, hof, hkn, hN', key⟩, (Array.getElem?_eq_some_iff.mp hcell).1⟩
theorem i_all {ci : Nat} (h : ci < 10) : Cond.instantiable (fC ci) (fN ci) ∈ gtbl := by
  rcases ci with _ | _ | _ | _ | _ | _ | _ | _ | _ | _ | ci
  · exact i_0.1
  · exact i_1.1
  · exact i_2.1
  · exact i_3.1
  · exact i_4.1
  · exact i_5.1
  · exact i_6.1
  · exact i_7.1
  · exact i_8.1
  · exact i_9.1
  · omega
theorem tw (i : Nat) {w : Cond} (h : tables_1[i]? = some w) : w ∈ lw_tbl := List.mem_append_right _ (List.mem_of_getElem? h)
theorem aY_cls {s : State} {args : Array Value} {ty : FieldType} (h : (Cond.arrayClass ty).before args s = true) : ∃ cA, ArrOfT s cA ty ∧ s.vm.findClass ("[" ++ ty.toString) = some cA := by
  obtain ⟨c, k, comp, h1, h2, h3⟩ := Cond.arrayClass_spec h
  exact ⟨c, fun _ _ => ⟨(fun k h => by cases h), k, h2, comp, h3⟩, h1⟩
theorem aY_obj {s : State} {args : Array Value} {C : String} (h : (Cond.arrayOver (.object C)).before args s = true) : ∃ cA, ArrOfT s cA (.object C) ∧ va_RA s cA (.object C) := by
  obtain ⟨comp, c, k, h1, h2, h3, h4, h5⟩ := Cond.arrayOver_spec h
  exact ⟨c, fun _ _ => ⟨(fun k h => by cases h), k, h3, comp, h4⟩, k, comp, h3, h4, h1, h5⟩
theorem aY_all {s : State} {args : Array Value} (hts : ∀ w ∈ lw_tbl, w.before args s = true) (k : Nat) : ∃ cA : ClassId, 10 ≤ k → k < 19 → ArrOfT s cA (aY k) ∧ va_RA s cA (aY k) := by
  by_cases h : 10 ≤ k ∧ k < 19
  · rcases (show k = 10 ∨ k = 11 ∨ k = 12 ∨ k = 13 ∨ k = 14 ∨ k = 15 ∨ k = 16 ∨ k = 17 ∨ k = 18 by omega) with rfl | rfl | rfl | rfl | rfl | rfl | rfl | rfl | rfl
    · obtain ⟨c, h1, h2⟩ := aY_cls (hts _ (tw 69 (w := .arrayClass .int) (by decide +kernel)))
      exact ⟨c, fun _ _ => ⟨h1, h2⟩⟩
    · obtain ⟨c, h1, h2⟩ := aY_cls (hts _ (tw 1046 (w := .arrayClass .boolean) (by decide +kernel)))
      exact ⟨c, fun _ _ => ⟨h1, h2⟩⟩
    · obtain ⟨c, h1, h2⟩ := aY_cls (hts _ (tw 1045 (w := .arrayClass .char) (by decide +kernel)))
      exact ⟨c, fun _ _ => ⟨h1, h2⟩⟩
    · obtain ⟨c, h1, h2⟩ := aY_cls (hts _ (tw 1044 (w := .arrayClass .long) (by decide +kernel)))
      exact ⟨c, fun _ _ => ⟨h1, h2⟩⟩
    · obtain ⟨c, h1⟩ := aY_obj (hts _ (tw 36 (w := .arrayOver (.object RX5)) (by decide +kernel)))
      exact ⟨c, fun _ _ => h1⟩
    · obtain ⟨c, h1⟩ := aY_obj (hts _ (tw 187 (w := .arrayOver (.object RX3)) (by decide +kernel)))
      exact ⟨c, fun _ _ => h1⟩
    · obtain ⟨c, h1⟩ := aY_obj (hts _ (tw 213 (w := .arrayOver (.object RX4)) (by decide +kernel)))
      exact ⟨c, fun _ _ => h1⟩
    · obtain ⟨c, h1⟩ := aY_obj (hts _ (tw 28 (w := .arrayOver (.object RX7)) (by decide +kernel)))
      exact ⟨c, fun _ _ => h1⟩
    · obtain ⟨comp, c, k, h1, -, h2, h3, h4⟩ := arrayOverA_spec (hts _ (tw 170 (w := .arrayOver (.array .int)) (by decide +kernel)))
      exact ⟨c, fun _ _ => ⟨fun _ _ => ⟨(fun k h => by cases h), k, h2, comp, h3⟩, h4⟩⟩
  · exact ⟨0, fun h1 h2 => absurd ⟨h1, h2⟩ h⟩
def tmS (i : Nat) : Term := .string RX0 (ixS i)
def vlS (i : Nat) : Term := .field (tmS i) "java/lang/String" "value" "[B"
def tAb : Term := .static "DustLayers" "ABOVE" "[I"
def flL : List Cond := flatC (Jvm.Cond.and given_1 narrow_1)
theorem fl_1 : ∀ i, i < 6 → Cond.exactly (tmS i) "java/lang/String" ∈ flL := by decide +kernel
theorem fl_2 : ∀ i, i < 6 → Cond.eq (.field (tmS i) "java/lang/String" "coder" "B") (.int 0) ∈ flL := by decide +kernel
theorem fl_3 : ∀ i, i < 6 → Cond.arrayOf (vlS i) .byte ∈ flL := by decide +kernel
theorem fl_4 : ∀ i, i < 6 → Cond.eq (.length (vlS i)) (.int (Int32.ofNat (lenS.getD i 0))) ∈ flL := by decide +kernel
theorem fl_5 : ∀ i, i < 6 → ∀ j, j < lenS.getD i 0 → Cond.eq (.elem (vlS i) (.int (Int32.ofNat j))) (.int ((bytS.getD i []).getD j 0)) ∈ flL := by decide +kernel
theorem fl_6 : ∀ i, i < 6 → ∀ j, j < 6 → i ≠ j → Cond.not (Cond.eq (tmS i) (tmS j)) ∈ flL ∨ Cond.not (Cond.eq (tmS j) (tmS i)) ∈ flL := by decide +kernel
theorem fl_7 : Cond.arrayOf tAb .int ∈ flL ∧ Cond.eq (.length tAb) (.int (Int32.ofNat 6)) ∈ flL := by decide +kernel
theorem fl_8 : ∀ j, j < 6 → Cond.eq (.elem tAb (.int (Int32.ofNat j))) (.int (abF j)) ∈ flL := by decide +kernel
theorem fl_9 : Cond.eq (.static "java/lang/String" "COMPACT_STRINGS" "Z") (.int 1) ∈ flL ∧ Cond.isRef (.static "jdk/internal/util/Preconditions" "SIOOBE_FORMATTER" "Ljava/util/function/BiFunction;") ∈ flL := by decide +kernel
theorem sr_all {i : Nat} (h : i < 6) : Cond.stringRef RX0 (ixS i) (txS i) ∈ lw_tbl := by
  rcases (show i = 0 ∨ i = 1 ∨ i = 2 ∨ i = 3 ∨ i = 4 ∨ i = 5 by omega) with rfl | rfl | rfl | rfl | rfl | rfl
  · exact tw 722 (by decide +kernel)
  · exact tw 723 (by decide +kernel)
  · exact tw 724 (by decide +kernel)
  · exact tw 635 (by decide +kernel)
  · exact tw 688 (by decide +kernel)
  · exact tw 689 (by decide +kernel)
set_option maxRecDepth 100000 in
set_option maxHeartbeats 4000000 in
theorem St_0 {s : State} {args : Array Value} (hts : ∀ w ∈ lw_tbl, w.before args s = true) (hgv : (Jvm.Cond.and given_1 narrow_1).before args s = true) : ∃ T : TC, tH T = s.heap ∧ St T s := by
  have hs : ∀ w ∈ flL, w.before args s = true := flat_of_before _ hgv
  have hgt : ∀ w ∈ gtbl, w.before args s = true := fun w hw => hts w (List.mem_filter.mp hw).1
  have hA : ∀ a : Nat, a < s.heap.size → ¬ (fun q : Nat => s.heap.size ≤ q) a := fun a h => Nat.not_le.mpr h
  have hcl : ∀ ci : Nat, ∃ q : ClassId × (Nat → Nat), ci < 10 → u_Kn s (fC ci) (fT ci) (fN ci) q.1 q.2 := fun ci => by
    by_cases h : ci < 10
    · obtain ⟨cC, iS, h1⟩ := u_known hgt (gws h) (hgt _ (i_all h))
      exact ⟨(cC, iS), fun _ => h1⟩
    · exact ⟨(0, fun _ => 0), fun z => absurd z h⟩
  obtain ⟨cD, hcD⟩ := Classical.axiomOfChoice hcl
  obtain ⟨cA, hcA⟩ := Classical.axiomOfChoice (aY_all hts)
  obtain ⟨adK, adV, hSt, hSk⟩ := vk_Sof (args := args) (s := s) (N := 6) (tm := tmS) (len := lenS) (byt := bytS) (A := fun q => s.heap.size ≤ q) (by decide +kernel) (fun i hi => hs _ (fl_1 i hi)) (fun i hi => hs _ (fl_2 i hi)) (fun i hi => hs _ (fl_3 i hi)) (fun i hi => hs _ (fl_4 i hi)) (fun i hi j hj => hs _ (fl_5 i hi j hj)) (fun i j hi hj hij => (fl_6 i hi j hj hij).imp (fun h => hs _ h) (fun h => hs _ h)) hA
  obtain ⟨aA, hA1, hA2, hA3⟩ := XA_of (args := args) (s := s) (tm := tAb) (N := 6) (f := abF) (by decide) (hs _ fl_7.1) (va_eqt (hs _ fl_7.2)) (fun j hj => va_eqt (hs _ (fl_8 j hj)))
  refine ⟨((fun c => (cD c).1, fun c => (cD c).2), cA, s.heap, aA, adK, adV), rfl, ⟨fun c q hq => ?_, fun k q hq => by simp at hq⟩, hcA, fun a i x h hw => va_Nw.of rfl (hts _ (List.mem_append_right _ (List.mem_filter.mp hw).1)), fun k h1 h2 => ?_, ?_, ⟨va_Zof (hts _ (tw 355 (by decide +kernel))) (hts _ (tw 1 (by decide +kernel))) hA1 hA, hA2, hA3, va_Nw.of rfl (hts _ (tw 354 (by decide +kernel)))⟩, va_Zof (hts _ (tw 649 (by decide +kernel))) (hts _ (tw 14 (by decide +kernel))) (va_eqi (hs _ fl_9.1)) hA, va_Zqof (hts _ (tw 665 (by decide +kernel))) (hts _ (tw 16 (by decide +kernel))) (hs _ fl_9.2) hA, fun i hi => vk_R.of (hts _ (sr_all hi)) (hSk i hi), hSt⟩
  · have hc : c < 10 := (List.getElem?_eq_some_iff.mp hq).1
    have e : q = (fC c, fT c, fN c) := Option.some.inj (hq.symm.trans (fC_at hc))
    rw [e]
    exact hcD c hc
  · rcases (show k = 14 ∨ k = 15 ∨ k = 16 ∨ k = 17 by omega) with rfl | rfl | rfl | rfl
    · exact va_AO.of (hts _ (tw 36 (w := .arrayOver (.object RX5)) (by decide +kernel)))
    · exact va_AO.of (hts _ (tw 187 (w := .arrayOver (.object RX3)) (by decide +kernel)))
    · exact va_AO.of (hts _ (tw 213 (w := .arrayOver (.object RX4)) (by decide +kernel)))
    · exact va_AO.of (hts _ (tw 28 (w := .arrayOver (.object RX7)) (by decide +kernel)))
  · exact hts _ (tw 170 (w := .arrayOver (.array .int)) (by decide +kernel))
