/-! the law: copy, lay -/
theorem cl_i {x : Int32} (h : 0 ≤ x.toInt) : (cl x : Int) = x.toInt := Int.toNat_of_nonneg h
theorem K_copy {T : TC} {J : MI} {H : MG} {D : Nat} (e : Nat) (hL : LI T D J H) (f p t a m : Int32) : Two T mX8_copy mX9_copy (e + 100) D [.int f, .int p, .int t, .int a, .int m] J H := by
  have hL0 := hL
  obtain ⟨hD, hM, ⟨j, hj⟩, g, gi, im, so, sz, ce, th, A, B, hc, tp, tb, w, tl, hC, hR, hP⟩ := hL
  refine OkI.imp (C8_copy (e + 99) hD hC.2.2.1 f p t a m) ?_
  rintro _ J1 _ ⟨rfl, hq, rfl⟩
  have fin : ∀ J2, MRel (D + 117) J1 g gi im so sz ce th A B hc tp tb w tl → i_copy J1 (D + 117) sz f p t a m J2 → ∀ ce', (fun s k => J2 (D + 117 + 20) (24 * s + k)) = ce' → MRel (D + 117) J2 g gi im so sz ce' th A B hc tp tb w tl := fun J2 hR hJ2 ce' hce => by
    have hx : ∀ i, i ≠ 20 → i ≠ 25 → J2 (D + 117 + i) = J1 (D + 117 + i) := fun i h1 h2 => hJ2.2 _ (fun z => by omega)
    exact hR.cel (hJ2.2.mono (fun x z => by omega)) (by rw [hx 18 (by omega) (by omega)]; exact hR.2.1.1) (fun i hi => by rw [hx 19 (by omega) (by omega)]; exact hR.2.1.2.1 i hi) hce (by rw [hx 21 (by omega) (by omega)]; exact hR.2.2.1.1) (by rw [hx 22 (by omega) (by omega)]; exact hR.2.2.1.2.1) (by rw [hx 23 (by omega) (by omega)]; exact hR.2.2.1.2.2.1) (by rw [hx 24 (by omega) (by omega)]; exact hR.2.2.1.2.2.2)
  by_cases hp : cpP so sz f p t a m
  · rw [if_pos hp] at hq
    obtain ⟨hA, hF⟩ := hq
    have hf4 := cl_lt (by decide) hp.1.1
    have ht4 := cl_lt (by decide) hp.1.2
    have hz24 := (hR.2.1.2.1 (cl t) ht4).2
    obtain ⟨q1, q2, q3, q4, q5⟩ := hp.2.2.2
    have c1 := cl_i q1
    have c2 := cl_i q2
    have c3 := cl_i q3
    replace hR := hR.cls (fun x h1 h2 => hF x (fun z => by unfold PSh at z; omega))
    have hce : ∀ k i, J1 (D + 117 + 20) (24 * k + i) = ce k i := fun k i => congrFun (congrFun hR.2.1.2.2 k) i
    have hA2 : ShA J1 D so sz (fun k i => cpC (J1 (D + 117 + 20)) (24 * cl f + cl p) (24 * cl t + cl a) (cl m) (24 * k + i)) := hA.cg (fun k hk => ⟨rfl, rfl, fun i hi => by
      unfold cpC
      by_cases ek : k = cl t
      · rw [ek, fnU_s]
        by_cases hi2 : cl a ≤ i ∧ i < cl a + cl m
        · rw [if_pos (by omega), if_pos hi2, show 24 * cl f + cl p + (24 * cl t + i - (24 * cl t + cl a)) = 24 * cl f + (cl p + (i - cl a)) by omega]
          exact hce _ _
        · rw [if_neg (by omega), if_neg hi2]; exact hce _ i
      · rw [if_neg (by omega), fnU_n ek]; exact hce k i⟩)
    have hC1 := hC.she (by omega) hF hA2
    refine ⟨hM, OkI.imp (C9_copy (e + 98) hM sz hR.2.1.2.1 f p t a m) ?_⟩
    rintro _ J2 _ ⟨rfl, hJ2, rfl⟩
    have h20 := hJ2.1
    rw [hR.2.1.1, if_pos hp] at h20
    exact ⟨by rw [hR.2.1.1], hD, hM, ⟨j, hj⟩, g, gi, im, so, sz, _, th, A, B, hc, tp, tb, w, tl, hC1.frm (by omega) (fun x hx => hJ2.2 x (fun z => by omega)), fin J2 hR hJ2 _ (by rw [h20]), hP⟩
  · rw [if_neg hp] at hq
    subst hq
    refine ⟨hM, OkI.imp (C9_copy (e + 98) hM sz hR.2.1.2.1 f p t a m) ?_⟩
    rintro _ J2 _ ⟨rfl, hJ2, rfl⟩
    have h20 := hJ2.1
    rw [hR.2.1.1, if_neg hp] at h20
    exact ⟨by rw [hR.2.1.1], hD, hM, ⟨j, hj⟩, g, gi, im, so, sz, ce, th, A, B, hc, tp, tb, w, tl, hC.frm (by omega) (fun x hx => hJ2.2 x (fun z => by omega)), fin J2 hR hJ2 _ (by rw [h20]; exact hR.2.1.2.2), hP⟩
theorem K_lay {T : TC} {J : MI} {H : MG} {D : Nat} (e : Nat) (hL : LI T D J H) (s t k : Int32) : Two T mX8_lay mX9_lay (e + 100) D [.int s, .int t, .int k] J H := by
  have hL0 := hL
  obtain ⟨hD, hM, ⟨j, hj⟩, g, gi, im, so, sz, ce, th, A, B, hc, tp, tb, w, tl, hC, hR, hP⟩ := hL
  refine OkI.imp (C8_lay (e + 98) hD hC.1 hC.2.2.1 hC.2.2.2.1 s t k) ?_
  rintro _ J1 _ ⟨rfl, hq, rfl⟩
  by_cases hp : lyP g so s t k ∧ ¬ lyN so t k
  · rw [if_pos hp] at hq
    obtain ⟨hA, hF⟩ := hq
    have hs5 := cl_lt (by decide) hp.1.1
    replace hR := hR.cls (fun x h1 h2 => hF x (fun z => by unfold PSl at z; omega))
    have hce : ∀ k i, J1 (D + 117 + 20) (24 * k + i) = ce k i := fun k i => congrFun (congrFun hR.2.1.2.2 k) i
    have hhc : ∀ k i, J1 (D + 117 + 24) (24 * k + i) = hc k i := fun k i => congrFun (congrFun hR.2.2.1.2.2.2 k) i
    have hA2 := hA.cg (hc' := fun u i => (if t = nI 2 then cpD (J1 (D + 117 + 24)) (fun j => J1 (D + 117 + 20) (24 * cl k + j)) (24 * cl s) 24 else J1 (D + 117 + 24)) (24 * u + i)) (fun u hu i hi => by
      by_cases h2 : t = nI 2
      · rw [if_pos h2, if_pos h2]
        unfold cpD
        by_cases eu : u = cl s
        · rw [eu, fnU_s, if_pos (by omega), show 24 * cl s + i - 24 * cl s = i by omega]; exact hce _ i
        · rw [if_neg (by omega), fnU_n eu]; exact hhc u i
      · rw [if_neg h2, if_neg h2]
        by_cases eu : u = cl s
        · rw [eu, fnU_s]; exact hhc _ i
        · rw [fnU_n eu]; exact hhc u i)
    have hC1 := hC.slo (by omega) hF hA2
    refine ⟨hM, OkI.imp (C9_lay (e + 98) hM (by rw [hR.1.1]; exact hC.1.w) sz hR.2.1.2.1 s t k) ?_⟩
    rintro _ J2 _ ⟨rfl, hJ2, rfl⟩
    unfold i_lay at hJ2
    rw [hR.1.1, hR.2.1.1, if_pos hp] at hJ2
    obtain ⟨l1, l2, l3, l4, l5⟩ := hJ2
    have hx : ∀ i, i < 21 ∨ 24 < i → J2 (D + 117 + i) = J1 (D + 117 + i) := fun i h1 => l5 _ (fun z => by omega)
    refine ⟨by rw [hR.1.1, hR.2.1.1, hR.2.2.1.1], hD, hM, ⟨j, hj⟩, g, gi, im, so, sz, ce, _, _, _, _, tp, tb, w, tl, hC1.frm (by omega) (fun x hx => l5 x (fun z => by omega)), ?_, hP⟩
    exact hR.cel (l5.mono (fun x z => by omega)) (by rw [hx 18 (by omega)]; exact hR.2.1.1) (fun i hi => by rw [hx 19 (by omega)]; exact hR.2.1.2.1 i hi) (by rw [hx 20 (by omega)]; exact hR.2.1.2.2) (by rw [l1, hR.2.2.1.1]) (by rw [l2, hR.2.2.1.2.1]) (by rw [l3, hR.2.2.1.2.2.1]) (by rw [l4])
  · rw [if_neg hp] at hq
    subst hq
    refine ⟨hM, OkI.imp (C9_lay (e + 98) hM (by rw [hR.1.1]; exact hC.1.w) sz hR.2.1.2.1 s t k) ?_⟩
    rintro _ J2 _ ⟨rfl, hJ2, rfl⟩
    unfold i_lay at hJ2
    rw [hR.1.1, hR.2.1.1, if_neg hp] at hJ2
    rw [hJ2, hR.1.1, hR.2.1.1, hR.2.2.1.1]
    exact ⟨rfl, hL0⟩
