/-! the law: sheets and slots -/
section LAW5
variable {T : TC} {D M : Nat} {H : MG} {J J' : MI} {g gi : Nat → Int32} {im : Int32} {so so' : Nat → Int32} {sz sz' : Nat → Nat} {ce ce' : Nat → Nat → Int32} {th A B th' A' B' : Nat → Int32} {hc hc' : Nat → Nat → Int32} {tp : Nat} {tb : Nat → Nat} {w : Nat} {tl : Nat → Int32}
theorem ShA.cg (h : ShA J D so sz ce) (e : ∀ k, k < 4 → so' k = so k ∧ sz' k = sz k ∧ ∀ i, i < 24 → ce' k i = ce k i) : ShA J D so' sz' ce' := fun k hk => by
  obtain ⟨⟨a1, a2, a3, a4⟩, b1, b2⟩ := h k hk
  obtain ⟨e1, e2, e3⟩ := e k hk
  rw [e1, e2]
  exact ⟨⟨a1, a2, a3, fun i hi => by rw [e3 i hi]; exact a4 i hi⟩, b1, fun i hi => by rw [e3 i hi]; exact b2 i hi⟩
theorem SlA.cg (h : SlA J D th A B hc) (e : ∀ k, k < 5 → ∀ i, i < 24 → hc' k i = hc k i) : SlA J D th A B hc' := fun k hk => by
  obtain ⟨a1, a2, a3, a4⟩ := h k hk
  refine ⟨a1, a2, fun h2 => ?_, a4⟩
  obtain ⟨z, z1, z2, z3, z4⟩ := a3 h2
  exact ⟨z, z1, z2, z3, fun i hi => by rw [e k hk i hi]; exact z4 i hi⟩
theorem CRel.she (h : CRel T D H J g gi im so sz ce th A B hc tp tb w tl) (hN : D + 144 ≤ n0 T + gS H) (hF : Fr (PSh D) J J') (hA : ShA J' D so' sz' ce') : CRel T D H J' g gi im so' sz' ce' th A B hc tp tb w tl := by
  obtain ⟨a1, ⟨a2, a3⟩, -, a5, ⟨a6, a7⟩, ⟨a8, a9⟩⟩ := h
  have hx : ∀ x, x < D + 82 ∨ D + 90 ≤ x → J' x = J x := fun x h1 => hF x (fun z => by unfold PSh at z; omega)
  exact ⟨a1.frm (by omega) hN (fun x hx2 => hx x (by omega)), ⟨by rw [hx _ (by omega)]; exact a2, fun hi => (a3 hi).frm (by omega) hN (fun x hx2 => hx x (by omega))⟩, hA, a5.frm (fun x _ _ => hx x (by omega)), ⟨by rw [hx _ (by omega)]; exact a6, fun j hj => by rw [hx _ (by omega)]; exact a7 j hj⟩, ⟨by rw [hx _ (by omega)]; exact a8, fun k hk => by rw [hx _ (by omega)]; exact a9 k hk⟩⟩
theorem CRel.slo (h : CRel T D H J g gi im so sz ce th A B hc tp tb w tl) (hN : D + 144 ≤ n0 T + gS H) (hF : Fr (PSl D) J J') (hA : SlA J' D th' A' B' hc') : CRel T D H J' g gi im so sz ce th' A' B' hc' tp tb w tl := by
  obtain ⟨a1, ⟨a2, a3⟩, a4, -, ⟨a6, a7⟩, ⟨a8, a9⟩⟩ := h
  have hx : ∀ x, x < D + 91 ∨ D + 116 ≤ x → J' x = J x := fun x h1 => hF x (fun z => by unfold PSl at z; omega)
  exact ⟨a1.frm (by omega) hN (fun x hx2 => hx x (by omega)), ⟨by rw [hx _ (by omega)]; exact a2, fun hi => (a3 hi).frm (by omega) hN (fun x hx2 => hx x (by omega))⟩, a4.frm (fun x _ _ => hx x (by omega)), hA, ⟨by rw [hx _ (by omega)]; exact a6, fun j hj => by rw [hx _ (by omega)]; exact a7 j hj⟩, ⟨by rw [hx _ (by omega)]; exact a8, fun k hk => by rw [hx _ (by omega)]; exact a9 k hk⟩⟩
theorem MRel.cel (h : MRel M J g gi im so sz ce th A B hc tp tb w tl) (hF : Fr (fun x => 18 ≤ x - M ∧ x - M ≤ 25) J J') (h18 : J' (M + 18) = so') (h19 : SzR J' M sz') (h20 : (fun s k => J' (M + 20) (24 * s + k)) = ce') (h21 : J' (M + 21) = th') (h22 : J' (M + 22) = A') (h23 : J' (M + 23) = B') (h24 : (fun i k => J' (M + 24) (24 * i + k)) = hc') : MRel M J' g gi im so' sz' ce' th' A' B' hc' tp tb w tl := by
  obtain ⟨⟨a1, a2, a3⟩, -, -, ⟨a11, a12⟩, ⟨a13, a14⟩, a15⟩ := h
  have e : ∀ i, i < 18 ∨ 25 < i → J' (M + i) = J (M + i) := fun i hi => hF _ (fun z => by omega)
  have e0 : J' M = J M := hF M (fun z => by omega)
  refine ⟨⟨by rw [e 1 (by omega)]; exact a1, by rw [e 2 (by omega)]; exact a2, by rw [e0]; exact a3⟩, ⟨h18, h19, h20⟩, ⟨h21, h22, h23, h24⟩, ⟨by rw [e0]; exact a11, by rw [e 10 (by omega)]; exact a12⟩, ⟨by rw [e0]; exact a13, by rw [e 26 (by omega)]; exact a14⟩, ?_⟩
  unfold KyO at a15 ⊢
  rw [e 11 (by omega), e 12 (by omega)]
  exact a15
end LAW5
theorem K_sheet {T : TC} {J : MI} {H : MG} {D : Nat} (e : Nat) (hL : LI T D J H) (s v n : Int32) : Two T mX8_sheet mX9_sheet (e + 100) D [.int s, .int v, .int n] J H := by
  have hL0 := hL
  obtain ⟨hD, hM, ⟨j, hj⟩, g, gi, im, so, sz, ce, th, A, B, hc, tp, tb, w, tl, hC, hR, hP⟩ := hL
  refine OkI.imp (C8_sheet (e + 98) hD hC.2.2.1 s v n) ?_
  rintro _ J1 _ ⟨rfl, hq, rfl⟩
  by_cases hp : mkP s v n
  · rw [if_pos hp] at hq
    obtain ⟨hA, hF⟩ := hq
    have hs4 := cl_lt (by decide) hp.1
    replace hR := hR.cls (fun x h1 h2 => hF x (fun z => by unfold PSh at z; omega))
    have hce : ∀ k i, J1 (D + 117 + 20) (24 * k + i) = ce k i := fun k i => congrFun (congrFun hR.2.1.2.2 k) i
    have hA2 : ShA J1 D (upd so (cl s) v) (fnU sz (cl s) (if v < 0 then 0 else cl n)) (fun k i => zc (J1 (D + 117 + 20)) (cl s) 24 (24 * k + i)) := hA.cg (fun k hk => ⟨rfl, rfl, fun i hi => by
      unfold zc
      by_cases ek : k = cl s
      · rw [ek, if_pos (by omega), fnU_s]
      · rw [if_neg (by omega), fnU_n ek]; exact hce k i⟩)
    have hC1 := hC.she (by omega) hF hA2
    refine ⟨hM, OkI.imp (C9_sheet (e + 98) hM s v n) ?_⟩
    rintro _ J2 _ ⟨rfl, hJ2, rfl⟩
    unfold i_sheet at hJ2
    rw [if_pos hp] at hJ2
    subst hJ2
    refine ⟨rfl, hD, hM, ⟨j, hj⟩, g, gi, im, _, _, _, th, A, B, hc, tp, tb, w, tl, hC1.frm (by omega) (fun x hx => by rw [rowI_n (by omega), rowI_n (by omega), rowI_n (by omega)]), ?_, hP⟩
    refine hR.cel (fun x hx => by rw [rowI_n (by omega), rowI_n (by omega), rowI_n (by omega)]) (by rw [rowI_n (by omega), rowI_n (by omega), rowI_s, hR.2.1.1]) (fun i hi => ?_) (by funext k i; rw [rowI_s]) (by rw [rowI_n (by omega), rowI_n (by omega), rowI_n (by omega)]; exact hR.2.2.1.1) (by rw [rowI_n (by omega), rowI_n (by omega), rowI_n (by omega)]; exact hR.2.2.1.2.1) (by rw [rowI_n (by omega), rowI_n (by omega), rowI_n (by omega)]; exact hR.2.2.1.2.2.1) (by rw [rowI_n (by omega), rowI_n (by omega), rowI_n (by omega)]; exact hR.2.2.1.2.2.2)
    rw [rowI_n (by omega), rowI_s]
    by_cases ei : i = cl s
    · rw [ei, upd_s, fnU_s]
      by_cases hv : v < 0
      · rw [if_pos hv, if_pos hv]; exact ⟨rfl, by omega⟩
      · rw [if_neg hv, if_neg hv]
        have hv0 := Int32.not_lt.mp hv
        have h24 : inR n 25 := (inR_iff (n := 24) (by decide)).mp ⟨Int32.not_lt.mp (fun z => hp.2.2.2 ⟨hv0, z⟩), Int32.not_lt.mp (fun z => hp.2.2.1 ⟨hv0, z⟩)⟩
        obtain ⟨k, hk, rfl⟩ := (rng_k (by decide)).mp h24
        rw [show cl (nI k) = k from cl_nI (by omega)]
        exact ⟨rfl, by omega⟩
    · rw [upd_n ei, fnU_n ei]; exact hR.2.1.2.1 i hi
  · rw [if_neg hp] at hq
    subst hq
    refine ⟨hM, OkI.imp (C9_sheet (e + 98) hM s v n) ?_⟩
    rintro _ J2 _ ⟨rfl, hJ2, rfl⟩
    unfold i_sheet at hJ2
    rw [if_neg hp] at hJ2
    rw [hJ2]
    exact ⟨rfl, hL0⟩
theorem K_mark {T : TC} {J : MI} {H : MG} {D : Nat} (e : Nat) (hL : LI T D J H) (s p v : Int32) : Two T mX8_mark mX9_mark (e + 100) D [.int s, .int p, .int v] J H := by
  have hL0 := hL
  obtain ⟨hD, hM, ⟨j, hj⟩, g, gi, im, so, sz, ce, th, A, B, hc, tp, tb, w, tl, hC, hR, hP⟩ := hL
  refine OkI.imp (C8_mark (e + 99) hD hC.2.2.1 s p v) ?_
  rintro _ J1 _ ⟨rfl, hq, rfl⟩
  by_cases hp : mrP so sz s p v
  · rw [if_pos hp] at hq
    obtain ⟨hA, hF⟩ := hq
    have hs4 := cl_lt (by decide) hp.1
    have hz24 := (hR.2.1.2.1 (cl s) hs4).2
    have hp4 := cl_lt (by omega) hp.2.2.1
    replace hR := hR.cls (fun x h1 h2 => hF x (fun z => by unfold PSh at z; omega))
    have hce : ∀ k i, J1 (D + 117 + 20) (24 * k + i) = ce k i := fun k i => congrFun (congrFun hR.2.1.2.2 k) i
    have hA2 : ShA J1 D so sz (fun k i => upd (J1 (D + 117 + 20)) (24 * cl s + cl p) (if so (cl s) = 0 then v.toInt16.toInt32 else v) (24 * k + i)) := hA.cg (fun k hk => ⟨rfl, rfl, fun i hi => by
      by_cases ek : k = cl s
      · rw [ek, fnU_s]
        by_cases ei : i = cl p
        · rw [ei, upd_s, upd_s]
        · rw [upd_n (by omega), upd_n ei]; exact hce _ i
      · rw [upd_n (by omega), fnU_n ek]; exact hce k i⟩)
    have hC1 := hC.she (by omega) hF hA2
    refine ⟨hM, OkI.imp (C9_mark (e + 98) hM sz hR.2.1.2.1 s p v) ?_⟩
    rintro _ J2 _ ⟨rfl, hJ2, rfl⟩
    unfold i_mark at hJ2
    rw [hR.2.1.1, if_pos hp] at hJ2
    subst hJ2
    refine ⟨by rw [hR.2.1.1], hD, hM, ⟨j, hj⟩, g, gi, im, so, sz, _, th, A, B, hc, tp, tb, w, tl, hC1.frm (by omega) (fun x hx => by rw [rowI_n (by omega)]), ?_, hP⟩
    exact hR.cel (fun x hx => by rw [rowI_n (by omega)]) (by rw [rowI_n (by omega)]; exact hR.2.1.1) (fun i hi => by rw [rowI_n (by omega)]; exact hR.2.1.2.1 i hi) (by funext k i; rw [rowI_s]) (by rw [rowI_n (by omega)]; exact hR.2.2.1.1) (by rw [rowI_n (by omega)]; exact hR.2.2.1.2.1) (by rw [rowI_n (by omega)]; exact hR.2.2.1.2.2.1) (by rw [rowI_n (by omega)]; exact hR.2.2.1.2.2.2)
  · rw [if_neg hp] at hq
    subst hq
    refine ⟨hM, OkI.imp (C9_mark (e + 98) hM sz hR.2.1.2.1 s p v) ?_⟩
    rintro _ J2 _ ⟨rfl, hJ2, rfl⟩
    unfold i_mark at hJ2
    rw [hR.2.1.1, if_neg hp] at hJ2
    rw [hJ2, hR.2.1.1]
    exact ⟨rfl, hL0⟩
