/-! the law: tape, what waits, the image -/
section LAW4
variable {T : TC} {D M : Nat} {H : MG} {J J' : MI} {g g' gi gi' : Nat → Int32} {im im' : Int32} {so : Nat → Int32} {sz : Nat → Nat} {ce : Nat → Nat → Int32} {th A B : Nat → Int32} {hc : Nat → Nat → Int32} {tp tp' : Nat} {tb tb' : Nat → Nat} {w w' : Nat} {tl tl' : Nat → Int32}
theorem CRel.tap (h : CRel T D H J g gi im so sz ce th A B hc tp tb w tl) (hN : D + 144 ≤ n0 T + gS H) (hF : Fr (PTp D) J J') (h1 : J' (D + 59) 1 = nI tp') (h2 : ∀ j, j < tp' → J' (D + 60) j = nI (tb' j)) : CRel T D H J' g gi im so sz ce th A B hc tp' tb' w tl := by
  obtain ⟨a1, ⟨a2, a3⟩, a4, a5, -, ⟨a8, a9⟩⟩ := h
  have hx : ∀ x, x ≠ D + 59 → x ≠ D + 60 → J' x = J x := fun x h1 h2 => hF x (fun z => by unfold PTp at z; omega)
  exact ⟨a1.frm (by omega) hN (fun x hx2 => hx x (by omega) (by omega)), ⟨by rw [hx _ (by omega) (by omega)]; exact a2, fun hi => (a3 hi).frm (by omega) hN (fun x hx2 => hx x (by omega) (by omega))⟩, a4.frm (fun x _ _ => hx x (by omega) (by omega)), a5.frm (fun x _ _ => hx x (by omega) (by omega)), ⟨h1, h2⟩, ⟨by rw [hx _ (by omega) (by omega)]; exact a8, fun k hk => by rw [hx _ (by omega) (by omega)]; exact a9 k hk⟩⟩
theorem CRel.wt (h : CRel T D H J g gi im so sz ce th A B hc tp tb w tl) (hN : D + 144 ≤ n0 T + gS H) (hF : Fr (fun x => x = D ∨ x = D + 116) J J') (h3 : J' D 3 = J D 3) (h1 : J' D 10 = nI w') (h2 : ∀ k, k < w' → J' (D + 116) k = tl' k) : CRel T D H J' g gi im so sz ce th A B hc tp tb w' tl' := by
  obtain ⟨a1, ⟨a2, a3⟩, a4, a5, ⟨a6, a7⟩, -⟩ := h
  have hx : ∀ x, x ≠ D → x ≠ D + 116 → J' x = J x := fun x h1 h2 => hF x (fun z => by omega)
  exact ⟨a1.frm (by omega) hN (fun x hx2 => hx x (by omega) (by omega)), ⟨h3.trans a2, fun hi => (a3 hi).frm (by omega) hN (fun x hx2 => hx x (by omega) (by omega))⟩, a4.frm (fun x _ _ => hx x (by omega) (by omega)), a5.frm (fun x _ _ => hx x (by omega) (by omega)), ⟨by rw [hx _ (by omega) (by omega)]; exact a6, fun j hj => by rw [hx _ (by omega) (by omega)]; exact a7 j hj⟩, ⟨h1, h2⟩⟩
theorem CRel.img (h : CRel T D H J g gi im so sz ce th A B hc tp tb w tl) (hN : D + 144 ≤ n0 T + gS H) (hH : Hl T J' H (D + 21) (D + 1) (D + 144) g) (hD1 : J' D = upd (J D) 3 (nI 1)) (hF : Fr (fun x => x = D ∨ PB (D + 21) x) J J') : CRel T D H J' g g (nI 1) so sz ce th A B hc tp tb w tl := by
  have hx : ∀ x, x ≠ D → (x < D + 21 ∨ D + 40 ≤ x) → J' x = J x := fun x h1 h2 => hF x (fun z => by unfold PB at z; omega)
  obtain ⟨a1, -, a4, a5, ⟨a6, a7⟩, ⟨a8, a9⟩⟩ := h
  exact ⟨a1.frm (by omega) hN (fun x hx2 => hx x (by omega) (by omega)), ⟨by rw [hD1, upd_s], fun _ => hH⟩, a4.frm (fun x _ _ => hx x (by omega) (by omega)), a5.frm (fun x _ _ => hx x (by omega) (by omega)), ⟨by rw [hx _ (by omega) (by omega)]; exact a6, fun j hj => by rw [hx _ (by omega) (by omega)]; exact a7 j hj⟩, ⟨by rw [hD1, upd_n (by omega)]; exact a8, fun k hk => by rw [hx _ (by omega) (by omega)]; exact a9 k hk⟩⟩
theorem CRel.bk (h : CRel T D H J g gi im so sz ce th A B hc tp tb w tl) (hN : D + 144 ≤ n0 T + gS H) (hH : Hl T J' H (D + 2) (D + 1) (D + 144) gi) (hF : Fr (PB (D + 2)) J J') : CRel T D H J' gi gi im so sz ce th A B hc tp tb w tl := by
  have hx : ∀ x, (x < D + 2 ∨ D + 21 ≤ x) → J' x = J x := fun x h2 => hF x (fun z => by unfold PB at z; omega)
  obtain ⟨-, ⟨a2, a3⟩, a4, a5, ⟨a6, a7⟩, ⟨a8, a9⟩⟩ := h
  exact ⟨hH, ⟨by rw [hx _ (by omega)]; exact a2, fun hi => (a3 hi).frm (by omega) hN (fun x hx2 => hx x (by omega))⟩, a4.frm (fun x _ _ => hx x (by omega)), a5.frm (fun x _ _ => hx x (by omega)), ⟨by rw [hx _ (by omega)]; exact a6, fun j hj => by rw [hx _ (by omega)]; exact a7 j hj⟩, ⟨by rw [hx _ (by omega)]; exact a8, fun k hk => by rw [hx _ (by omega)]; exact a9 k hk⟩⟩
theorem CRel.chk (h : CRel T D H J g gi im so sz ce th A B hc tp tb w tl) (hD1 : J' D = upd (J D) 10 (nI 0)) (hF : Fr (fun x => x = D ∨ PS D (D + 144) x) J J') : CRel T D H J' g gi im so sz ce th A B hc tp tb 0 tl := by
  obtain ⟨a1, ⟨a2, a3⟩, a4, a5, ⟨a6, a7⟩, ⟨a8, a9⟩⟩ := h
  have hl : ∀ {b : Nat} {g : Nat → Int32}, (D + 2 = b ∨ D + 21 = b) → Hl T J H b (D + 1) (D + 144) g → Hl T J' H b (D + 1) (D + 144) g := fun {b g} hb q =>
    ⟨q.1, q.2.1, q.2.2.1.fr hF (fun x z => by unfold PS PK at z; omega) q.n8, q.2.2.2.1.fr hF (fun x z => by unfold PS PK at z; omega), q.2.2.2.2⟩
  have hx : ∀ x, (D + 82 ≤ x ∧ x < D + 117) ∨ x = D + 59 ∨ x = D + 60 → J' x = J x := fun x hx => hF x (fun z => by unfold PS PK at z; omega)
  exact ⟨hl (Or.inl rfl) a1, ⟨by rw [hD1, upd_n (by omega)]; exact a2, fun hi => hl (Or.inr rfl) (a3 hi)⟩, a4.frm (fun x _ _ => hx x (by omega)), a5.frm (fun x _ _ => hx x (by omega)), ⟨by rw [hx _ (by omega)]; exact a6, fun j hj => by rw [hx _ (by omega)]; exact a7 j hj⟩, ⟨by rw [hD1, upd_s], fun k hk => absurd hk (Nat.not_lt_zero k)⟩⟩
/-- the reference's own row, its tape, what waits, its image may change -/
theorem MRel.own (h : MRel M J g gi im so sz ce th A B hc tp tb w tl) (hF : Fr (fun x => x = M ∨ x = M + 2 ∨ x = M + 10 ∨ x = M + 26 ∨ Pm M x) J J') (h1 : J' (M + 1) = g') (h2 : J' (M + 2) = gi') (h3 : J' M 3 = im') (h12 : J' M 12 = nI tp') (hb : ∀ j, j < tp' → J' (M + 10) j = nI (tb' j)) (h38 : J' M 38 = nI w') (h26 : J' (M + 26) = tl') : MRel M J' g' gi' im' so sz ce th A B hc tp' tb' w' tl' := by
  obtain ⟨-, ⟨a4, a5, a6⟩, ⟨a7, a8, a9, a10⟩, -, -, a15⟩ := h
  have e : ∀ i, (11 ≤ i ∧ i ≤ 12 ∨ 18 ≤ i ∧ i ≤ 24) → J' (M + i) = J (M + i) := fun i hi => hF _ (fun z => by unfold Pm at z; omega)
  refine ⟨⟨h1, h2, h3⟩, ⟨by rw [e 18 (by omega)]; exact a4, ?_, by rw [e 20 (by omega)]; exact a6⟩, ⟨by rw [e 21 (by omega)]; exact a7, by rw [e 22 (by omega)]; exact a8, by rw [e 23 (by omega)]; exact a9, by rw [e 24 (by omega)]; exact a10⟩, ⟨h12, hb⟩, ⟨h38, h26⟩, ?_⟩
  · unfold SzR at a5 ⊢
    rw [e 19 (by omega)]
    exact a5
  · unfold KyO at a15 ⊢
    rw [e 11 (by omega), e 12 (by omega)]
    exact a15
theorem n_trim_ok (h : tp ≤ 96) (n : Int32) : ∃ tp', tp' ≤ tp ∧ n_trim tp n = nI tp' := by
  unfold n_trim
  split
  · rename_i q
    obtain ⟨k, hk, rfl⟩ := (rng_k (n := tp + 1) (by omega)).mp q
    exact ⟨k, by omega, rfl⟩
  · exact ⟨tp, Nat.le_refl _, rfl⟩
theorem preF_t (h1 : ∀ x, 1516 ≤ x → g x = 0) (h2 : ∀ x, 1516 ≤ x → gi x = 0) : preF g gi 1516 = g := by
  funext j
  unfold preF
  by_cases h : j < 1516
  · rw [if_pos h]
  · rw [if_neg h, h2 j (by omega), h1 j (by omega)]
end LAW4
theorem K_trim {T : TC} {J : MI} {H : MG} {D : Nat} (e : Nat) (hL : LI T D J H) (n : Int32) : Two T mX8_trim mX9_trim (e + 100) D [.int n] J H := by
  obtain ⟨hD, hM, ⟨j, hj⟩, g, gi, im, so, sz, ce, th, A, B, hc, tp, tb, w, tl, hC, hR, hP⟩ := hL
  obtain ⟨tp', ht', et'⟩ := n_trim_ok hP.2.2.2.1.1 n
  refine OkI.imp (C8_trim (e + 100) hD tp n hC.2.2.2.2.1.1 hP.2.2.2.1.1) ?_
  rintro _ _ _ ⟨rfl, rfl, rfl⟩
  have hF1 : Fr (PTp D) J (setI J (D + 59) 1 (n_trim tp n)) := Fr.refl.si (Or.inl rfl)
  have hC1 := hC.tap (tp' := tp') (tb' := tb) (by omega) hF1 (setI_s.trans et') (fun j hj => by rw [setI_a (by omega)]; exact hC.2.2.2.2.1.2 j (by omega))
  replace hR := hR.cls (fun x h1 h2 => hF1 x (fun z => by unfold PTp at z; omega))
  refine ⟨hM, ?_⟩
  refine OkI.imp (C9_trim (e + 99) hM tp n hR.2.2.2.1.1 hP.2.2.2.1.1) ?_
  rintro _ _ _ ⟨rfl, rfl, rfl⟩
  refine ⟨rfl, hD, hM, ⟨j, hj⟩, g, gi, im, so, sz, ce, th, A, B, hc, tp', tb, w, tl, hC1.frm (by omega) (fun x hx => rowI_n (by omega)), ?_, hP.1, hP.2.1, hP.2.2.1, ⟨by have := hP.2.2.2.1.1; omega, fun j hj => hP.2.2.2.1.2 j (by omega)⟩, hP.2.2.2.2⟩
  refine hR.own (Fr.row (Or.inl rfl)) (by rw [rowI_n (by omega)]; exact hR.1.1) (by rw [rowI_n (by omega)]; exact hR.1.2.1) (by rw [rowI_s, upd_n (by omega)]; exact hR.1.2.2) (by rw [rowI_s, upd_s]; exact et') (fun j hj => by rw [rowI_n (by omega)]; exact hR.2.2.2.1.2 j (by omega)) (by rw [rowI_s, upd_n (by omega)]; exact hR.2.2.2.2.1.1) (by rw [rowI_n (by omega)]; exact hR.2.2.2.2.1.2)
theorem K_keep {T : TC} {J : MI} {H : MG} {D : Nat} (e : Nat) (hL : LI T D J H) : Two T mX8_keep mX9_keep (e + 100) D [] J H := by
  obtain ⟨hD, hM, ⟨j, hj⟩, g, gi, im, so, sz, ce, th, A, B, hc, tp, tb, w, tl, hC, hR, hP⟩ := hL
  refine OkI.imp (C8_keep (e + 97) hD hC.1) ?_
  rintro _ J1 _ ⟨rfl, hH1, hD1, hF1, rfl⟩
  have hx : ∀ x, x ≠ D → (x < D + 21 ∨ D + 40 ≤ x) → J1 x = J x := fun x h1 h2 => hF1 x (fun z => by unfold PB at z; omega)
  have hC1 := hC.img (by omega) hH1 hD1 hF1
  have hW := hC.1.w
  replace hR := hR.cls (fun x h1 h2 => hx x (by omega) (by omega))
  refine ⟨hM, ?_⟩
  refine OkI.imp (C9_keep (e + 99) hM) ?_
  rintro _ _ _ ⟨rfl, rfl, rfl⟩
  refine ⟨by rw [hR.1.1], hD, hM, ⟨j, hj⟩, g, g, nI 1, so, sz, ce, th, A, B, hc, tp, tb, w, tl, hC1.frm (by omega) (fun x hx => by rw [rowI_n (by omega), rowI_n (by omega)]), ?_, hP.1, ⟨hW, hP.1.1, hP.1.2⟩, fun _ => Nat.le_refl _, hP.2.2.2⟩
  have e1 : ∀ i, i ≠ 0 → i ≠ 2 → (rowI (rowI J1 (D + 117 + 2) (preF (J1 (D + 117 + 1)) (J1 (D + 117 + 2)) 1516)) (D + 117) (upd (J1 (D + 117)) 3 (nI 1))) (D + 117 + i) = J1 (D + 117 + i) := fun i h0 h2 => by rw [rowI_n (by omega), rowI_n (by omega)]
  refine hR.own (Fr.trans (Fr.row (Or.inr (Or.inl rfl))) (Fr.row (Or.inl rfl))) (by rw [e1 1 (by omega) (by omega)]; exact hR.1.1) ?_ (by rw [rowI_s, upd_s]) (by rw [rowI_s, upd_n (by omega)]; exact hR.2.2.2.1.1) (fun j hj => by rw [e1 10 (by omega) (by omega)]; exact hR.2.2.2.1.2 j hj) (by rw [rowI_s, upd_n (by omega)]; exact hR.2.2.2.2.1.1) (by rw [e1 26 (by omega) (by omega)]; exact hR.2.2.2.2.1.2)
  rw [rowI_n (by omega), rowI_s, hR.1.1, hR.1.2.1]
  exact preF_t hP.1.2 hP.2.1.2.2
theorem K_back {T : TC} {J : MI} {H : MG} {D : Nat} (e : Nat) (hL : LI T D J H) : Two T mX8_back mX9_back (e + 100) D [] J H := by
  have hL0 := hL
  obtain ⟨hD, hM, ⟨j, hj⟩, g, gi, im, so, sz, ce, th, A, B, hc, tp, tb, w, tl, hC, hR, hP⟩ := hL
  have e3 : J D 3 = im := hC.2.1.1
  refine OkI.imp (C8_back (e + 97) (gi := gi) hD (fun h => hC.2.1.2 (by rw [← e3]; exact h))) ?_
  rintro r J1 _ ⟨hr, hq, rfl⟩
  by_cases h0 : im = 0
  · rw [e3, if_pos h0] at hr hq
    subst hq
    refine ⟨hM, OkI.imp (C9_back (e + 99) hM) ?_⟩
    rintro r2 J2 _ ⟨hr2, hq2, rfl⟩
    rw [hR.1.2.2, if_pos h0] at hr2 hq2
    rw [hr, hr2, hq2]
    exact ⟨rfl, hL0⟩
  · rw [e3, if_neg h0] at hr hq
    have hC1 := hC.bk (by omega) hq.1 hq.2
    replace hR := hR.cls (fun x h1 h2 => hq.2 x (fun z => by unfold PB at z; omega))
    refine ⟨hM, OkI.imp (C9_back (e + 99) hM) ?_⟩
    rintro r2 J2 _ ⟨hr2, hq2, rfl⟩
    rw [hR.1.2.2, if_neg h0] at hr2 hq2
    subst hq2
    have hg : (rowI J1 (D + 117 + 1) (preF (J1 (D + 117 + 2)) (J1 (D + 117 + 1)) 1516)) (D + 117 + 1) = gi := by rw [rowI_s, hR.1.1, hR.1.2.1]; exact preF_t hP.2.1.2.2 hP.1.2
    refine ⟨by rw [hr2, hr, hR.1.2.1], LI.fin hD hM ⟨j, hj⟩ hC1 hR ⟨⟨hP.2.1.2.1, hP.2.1.2.2⟩, hP.2.1, fun _ => Nat.le_refl _, hP.2.2.2⟩ (Fr.row (by unfold Pm; omega)) (fun j _ => by rw [rowI_n (by omega)]) hg⟩
theorem K_check {T : TC} {J : MI} {H : MG} {D : Nat} (e : Nat) (hL : LI T D J H) (n : Int32) : Two T mX8_check mX9_check (e + 100) D [.int n] J H := by
  obtain ⟨hD, hM, ⟨j, hj⟩, g, gi, im, so, sz, ce, th, A, B, hc, tp, tb, w, tl, hC, hR, hP⟩ := hL
  have e3 : J D 3 = im := hC.2.1.1
  refine OkI.imp (C8_check (e + 95) (gi := gi) hD tl w n hC.2.2.2.2.2.1 hP.2.2.2.2 hC.2.2.2.2.2.2 (fun h => ⟨hC.2.1.2 (by rw [← e3]; exact h), hP.2.1.2.1⟩)) ?_
  rintro _ J1 _ ⟨rfl, hD1, hF1, rfl⟩
  have hC1 := hC.chk hD1 hF1
  replace hR := hR.cls (fun x h1 h2 => hF1 x (fun z => by unfold PS PK at z; omega))
  have ep : preF (J1 (D + 117 + 2)) (J1 (D + 117 + 1)) 1516 = gi := by rw [hR.1.1, hR.1.2.1]; exact preF_t hP.2.1.2.2 hP.1.2
  refine ⟨hM, OkI.imp (C9_check (e + 95) hM w n hR.2.2.2.2.1.1 hP.2.2.2.2 (by rw [ep]; exact hP.2.1.1) (by rw [ep]; exact hP.2.1.2.1)) ?_⟩
  rintro _ J2 _ ⟨rfl, hg, hM2, hF, rfl⟩
  have hx : ∀ x, x ≠ D + 117 → x ≠ D + 117 + 1 → x ≠ D + 117 + 3 → x ≠ D + 117 + 16 → x ≠ D + 117 + 17 → J2 x = J1 x := fun x h1 h2 h3 h4 h5 => hF x (fun z => by unfold Pc at z; omega)
  refine ⟨by rw [ep, hR.1.2.2, hR.2.2.2.2.1.2, e3], hD, hM, ⟨j, hj⟩, g, gi, im, so, sz, ce, th, A, B, hc, tp, tb, 0, tl, hC1.frm (by omega) (fun x hx2 => hx x (by omega) (by omega) (by omega) (by omega) (by omega)), ?_, hP.1, hP.2.1, hP.2.2.1, hP.2.2.2.1, by omega⟩
  exact hR.own (hF.mono (fun x z => by unfold Pc at z; unfold Pm; omega)) (hg.trans hR.1.1) (by rw [hx _ (by omega) (by omega) (by omega) (by omega) (by omega)]; exact hR.1.2.1) (by rw [hM2, upd_n (by omega)]; exact hR.1.2.2) (by rw [hM2, upd_n (by omega)]; exact hR.2.2.2.1.1) (fun j hj => by rw [hx _ (by omega) (by omega) (by omega) (by omega) (by omega)]; exact hR.2.2.2.1.2 j hj) (by rw [hM2, upd_s]) (by rw [hx _ (by omega) (by omega) (by omega) (by omega) (by omega)]; exact hR.2.2.2.2.1.2)
theorem K_tell {T : TC} {J : MI} {H : MG} {D : Nat} (e : Nat) (hL : LI T D J H) (v : Int32) : Two T mX8_tell mX9_tell (e + 100) D [.int v] J H := by
  have hL0 := hL
  obtain ⟨hD, hM, ⟨j, hj⟩, g, gi, im, so, sz, ce, th, A, B, hc, tp, tb, w, tl, hC, hR, hP⟩ := hL
  refine OkI.imp (C8_tell (e + 100) hD w v hC.2.2.2.2.2.1 hP.2.2.2.2) ?_
  rintro _ J1 _ ⟨rfl, hJ1, rfl⟩
  by_cases h60 : w = 60
  · rw [if_pos h60] at hJ1
    subst hJ1
    refine ⟨hM, OkI.imp (C9_tell (e + 100) hM w v hR.2.2.2.2.1.1 hP.2.2.2.2) ?_⟩
    rintro _ J2 _ ⟨rfl, hJ2, rfl⟩
    rw [if_pos h60] at hJ2
    rw [hJ2]
    exact ⟨rfl, hL0⟩
  · rw [if_neg h60] at hJ1
    subst hJ1
    have hF1 : Fr (fun x => x = D ∨ x = D + 116) J (setI (setI J (D + 116) w v) D 10 (nI (w + 1))) := (Fr.refl.si (Or.inr rfl)).si (Or.inl rfl)
    have hC1 := hC.wt (w' := w + 1) (tl' := upd tl w v) (by omega) hF1 (by rw [setI_n (by omega), setI_a (by omega)]) setI_s (fun k hk => by
      rw [setI_a (by omega)]
      by_cases e : k = w
      · rw [e, setI_s, upd_s]
      · rw [setI_n (by omega), upd_n e]; exact hC.2.2.2.2.2.2 k (by omega))
    replace hR := hR.cls (fun x h1 h2 => hF1 x (fun z => by omega))
    refine ⟨hM, OkI.imp (C9_tell (e + 100) hM w v hR.2.2.2.2.1.1 hP.2.2.2.2) ?_⟩
    rintro _ J2 _ ⟨rfl, hJ2, rfl⟩
    rw [if_neg h60] at hJ2
    subst hJ2
    generalize setI (setI J (D + 116) w v) D 10 (nI (w + 1)) = J1 at hC1 hR hF1
    have e1 : ∀ i, i ≠ 0 → i ≠ 26 → (rowI (rowI J1 (D + 117 + 26) (upd (J1 (D + 117 + 26)) w v)) (D + 117) (upd (J1 (D + 117)) 38 (nI (w + 1)))) (D + 117 + i) = J1 (D + 117 + i) := fun i h0 h2 => by rw [rowI_n (by omega), rowI_n (by omega)]
    refine ⟨rfl, hD, hM, ⟨j, hj⟩, g, gi, im, so, sz, ce, th, A, B, hc, tp, tb, w + 1, upd tl w v, hC1.frm (by omega) (fun x hx => by rw [rowI_n (by omega), rowI_n (by omega)]), ?_, hP.1, hP.2.1, hP.2.2.1, hP.2.2.2.1, by have := hP.2.2.2.2; omega⟩
    exact hR.own (Fr.trans (Fr.row (Or.inr (Or.inr (Or.inr (Or.inl rfl))))) (Fr.row (Or.inl rfl))) (by rw [e1 1 (by omega) (by omega)]; exact hR.1.1) (by rw [e1 2 (by omega) (by omega)]; exact hR.1.2.1) (by rw [rowI_s, upd_n (by omega)]; exact hR.1.2.2) (by rw [rowI_s, upd_n (by omega)]; exact hR.2.2.2.1.1) (fun j hj => by rw [e1 10 (by omega) (by omega)]; exact hR.2.2.2.1.2 j hj) (by rw [rowI_s, upd_s]) (by rw [rowI_n (by omega), rowI_s, hR.2.2.2.2.1.2])
