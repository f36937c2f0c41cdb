/-! the law: text -/
section LAW8
variable {T : TC} {D M : Nat} {H H' : MG} {J J' : MI} {g g' gi gi' : Nat → Int32} {im im' : Int32} {so : Nat → Int32} {sz : Nat → Nat} {ce : Nat → Nat → Int32} {th A B : Nat → Int32} {hc : Nat → Nat → Int32} {tp tp' : Nat} {tb tb' : Nat → Nat} {w w' : Nat} {tl tl' : Nat → Int32}
theorem MRel.own2 (h : MRel M J g gi im so sz ce th A B hc tp tb w tl) (e : ∀ i, (i = 2 ∨ 11 ≤ i ∧ i ≤ 12 ∨ 18 ≤ i ∧ i ≤ 24 ∨ i = 26) → J' (M + i) = J (M + i)) (h1 : J' (M + 1) = g') (h3 : J' M 3 = J M 3) (h12 : J' M 12 = nI 0) (h38 : J' M 38 = J M 38) : MRel M J' g' gi im so sz ce th A B hc 0 tb w tl := by
  obtain ⟨⟨-, a2, a3⟩, ⟨a4, a5, a6⟩, ⟨a7, a8, a9, a10⟩, -, ⟨a13, a14⟩, a15⟩ := h
  refine ⟨⟨h1, by rw [e 2 (by omega)]; exact a2, h3.trans a3⟩, ⟨by rw [e 18 (by omega)]; exact a4, ?_, by rw [e 20 (by omega)]; exact a6⟩, ⟨by rw [e 21 (by omega)]; exact a7, by rw [e 22 (by omega)]; exact a8, by rw [e 23 (by omega)]; exact a9, by rw [e 24 (by omega)]; exact a10⟩, ⟨h12, fun j hj => absurd hj (Nat.not_lt_zero j)⟩, ⟨h38.trans a13, by rw [e 26 (by omega)]; exact a14⟩, ?_⟩
  · unfold SzR at a5 ⊢
    rw [e 19 (by omega)]
    exact a5
  · unfold KyO at a15 ⊢
    rw [e 11 (by omega), e 12 (by omega)]
    exact a15
theorem CRel.txf (h : CRel T D H J g gi im so sz ce th A B hc tp tb w tl) (hN : D + 144 ≤ n0 T + gS H) (hF : Fr (PTx D) J J') (h1 : J' (D + 59) 1 = nI 0) : CRel T D H J' g gi im so sz ce th A B hc 0 tb w tl := by
  obtain ⟨a1, ⟨a2, a3⟩, a4, a5, -, ⟨a8, a9⟩⟩ := h
  have hx : ∀ x, x < D + 59 ∨ D + 63 ≤ x → J' x = J x := fun x h1 => hF x (fun z => by unfold PTx at z; omega)
  exact ⟨a1.frm (by omega) hN (fun x hx2 => hx x (by omega)), ⟨by rw [hx _ (by omega)]; exact a2, fun hi => (a3 hi).frm (by omega) hN (fun x hx2 => hx x (by omega))⟩, a4.frm (fun x _ _ => hx x (by omega)), a5.frm (fun x _ _ => hx x (by omega)), ⟨h1, fun j hj => absurd hj (Nat.not_lt_zero j)⟩, ⟨by rw [hx _ (by omega)]; exact a8, fun k hk => by rw [hx _ (by omega)]; exact a9 k hk⟩⟩
theorem CRel.txn (h : CRel T D H J g gi im so sz ce th A B hc tp tb w tl) (hN : D + 144 ≤ n0 T + gS H) (hu : ¬ im = 0 → tN gi ≤ tN g) (hG : Gx T (D + 1) (tN g) H H') (hF : ∀ x, x < n0 T + gS H → x ≠ D + 2 → x ≠ D + 4 → ¬ PTx D x → J' x = J x) (hH : Hl T J' H' (D + 2) (D + 1) (D + 144) g') (h1 : J' (D + 59) 1 = nI 0) : CRel T D H' J' g' gi im so sz ce th A B hc 0 tb w tl := by
  obtain ⟨a1, ⟨a2, a3⟩, a4, a5, -, ⟨a8, a9⟩⟩ := h
  have hx : ∀ x, x < n0 T + gS H → (x = D ∨ (D + 21 ≤ x ∧ x < D + 59) ∨ D + 63 ≤ x) → J' x = J x := fun x h0 h1 => hF x h0 (by omega) (by omega) (fun z => by unfold PTx at z; omega)
  exact ⟨hH, ⟨by rw [hx _ (by omega) (by omega)]; exact a2, fun hi => (a3 hi).keep (by omega) rfl hN hG (hu hi) (fun x h0 hx2 => hx x h0 (by omega))⟩, a4.frm (fun x _ _ => hx x (by omega) (by omega)), a5.frm (fun x _ _ => hx x (by omega) (by omega)), ⟨h1, fun j hj => absurd hj (Nat.not_lt_zero j)⟩, ⟨by rw [hx _ (by omega) (by omega)]; exact a8, fun k hk => by rw [hx _ (by omega) (by omega)]; exact a9 k hk⟩⟩
theorem PM_o {A : MI} {c cd wt te : Nat → Int32} {ky cs aa hd nz fr tk vl en : Int32} {x : Nat} (h : x ≠ M) (h2 : x < M + 13 ∨ M + 16 ≤ x) : PM A M c cd wt te ky cs aa hd nz fr tk vl en x = A x := by
  unfold PM ar3
  rw [rowI_n (by omega), rowI_n (by omega), rowI_n (by omega), rowI_n (by omega)]
theorem PM_3 {A : MI} {c cd wt te : Nat → Int32} {ky cs aa hd nz fr tk vl en : Int32} : PM A M c cd wt te ky cs aa hd nz fr tk vl en M 3 = c 3 := congrFun rowI_s 3
theorem PM_38 {A : MI} {c cd wt te : Nat → Int32} {ky cs aa hd nz fr tk vl en : Int32} : PM A M c cd wt te ky cs aa hd nz fr tk vl en M 38 = c 38 := congrFun rowI_s 38
end LAW8
def TwoT (T : TC) (d D : Nat) (J : MI) (H : MG) : Prop := Ok T mX8_text d 3 200 [.ref D] J H (fun v J1 H1 => ∃ r, v = some (.int r) ∧ MSh T H1 (D + 117) ∧ OkI T mX9_text d [.ref (D + 117)] J1 H1 (fun r2 J2 H2 => r2 = r ∧ LI T D J2 H2))
theorem K_text {T : TC} {J : MI} {H : MG} {D : Nat} (e : Nat) (hL : LI T D J H) : TwoT T (e + 100) D J H := by
  obtain ⟨hD, hM, ⟨j, hj⟩, g, gi, im, so, sz, ce, th, A, B, hc, tp, tb, w, tl, hC, hR, hP⟩ := hL
  have hTC : TpC J D tb tp := ⟨hP.2.2.2.1.1, hC.2.2.2.2.1.1, fun j hj => ⟨hC.2.2.2.2.1.2 j hj, hP.2.2.2.1.2 j hj⟩⟩
  have hPt := ptC_ok (tb := tb) (N := tp) hP.2.2.2.1.2 hP.2.2.2.1.1
  have hW := hC.1.w
  refine Ok.mono (C8_text (e + 9) hD hC.1 hTC j hj) ?_
  rintro v J1 H1 ⟨r, rfl, h59, hq⟩
  have hmod : ∀ x, D + 117 ≤ x → x < D + 144 → J1 x = J x := fun x h1 h2 => by
    rcases hq with ⟨-, -, hF, -⟩ | ⟨-, -, -, hF, -⟩ | ⟨w', -, -, -, -, -, -, hF, -⟩
    · exact hF x (fun z => by unfold PTx at z; omega)
    · exact hF x (fun z => by unfold PTx at z; omega)
    · exact hF x (by omega) (by omega) (by omega) (fun z => by unfold PTx at z; omega)
  have hM1 : MSh T H1 (D + 117) := by
    rcases hq with ⟨-, -, -, rfl⟩ | ⟨-, -, -, -, rfl⟩ | ⟨w', -, -, -, -, -, hG, -, -⟩
    · exact hM
    · exact hM
    · exact hM.gx hG (by omega)
  replace hR := hR.cls (fun x h1 h2 => hmod x h1 (by omega))
  refine ⟨r, rfl, hM1, ?_⟩
  have h9 := C9_text (e + 96) (A := J1) (c := J1 (D + 117)) (cd := J1 (D + 117 + 13)) (wt := J1 (D + 117 + 14)) (te := J1 (D + 117 + 15)) (ky := J1 (D + 117) 18) (cs := J1 (D + 117) 22) (aa := J1 (D + 117) 23) (hd := J1 (D + 117) 25) (nz := J1 (D + 117) 13) (fr := J1 (D + 117) 14) (tk := J1 (D + 117) 15) (vl := J1 (D + 117) 16) (en := J1 (D + 117) 17) hM1 tb tp ⟨hP.2.2.2.1.1, fun j hj => ⟨hR.2.2.2.1.2 j hj, hP.2.2.2.1.2 j hj⟩⟩ hR.2.2.2.2.2 hR.2.2.2.1.1 (by rw [hR.1.1]; exact hW.2.2.2)
  rw [PM_id] at h9
  refine OkI.imp h9 ?_
  rintro r2 J2 _ ⟨⟨A', cd', wt', te', ky', cs', aa', hd', nx', fr', tk', vl', en', rfl, hor⟩, rfl⟩
  have fin : ∀ g', A' (D + 117 + 1) = g' → (∀ x, x ≠ D + 117 + 1 → A' x = J1 x) → MRel (D + 117) (PM A' (D + 117) (upd (J1 (D + 117)) 12 (nI 0)) cd' wt' te' ky' cs' aa' hd' nx' fr' tk' vl' en') g' gi im so sz ce th A B hc 0 tb w tl := fun g' h1 hx =>
    hR.own2 (fun i hi => by rw [PM_o (by omega) (by omega)]; exact hx _ (by omega)) (by rw [PM_o (by omega) (by omega)]; exact h1) (by rw [PM_3, upd_n (by omega)]) (by rw [qd12, upd_s]) (by rw [PM_38, upd_n (by omega)])
  rw [hR.1.1] at hor
  rcases hq with ⟨f1, f2, hF, rfl⟩ | ⟨f1, f2, f3, hF, rfl⟩ | ⟨w1, f1, f2, f3, f4, f5, hG, hF, hH⟩
  · rcases hor with ⟨o1, o2, rfl⟩ | ⟨o1, -⟩ | ⟨w2, -, o1, -⟩
    · exact ⟨by rw [o2, f2], hD, hM, ⟨j, hj⟩, g, gi, im, so, sz, ce, th, A, B, hc, 0, tb, w, tl, (hC.txf (by omega) hF h59).frm (by omega) (fun x hx => PM_o (by omega) (by omega)), fin g hR.1.1 (fun _ _ => rfl), hP.1, hP.2.1, hP.2.2.1, ⟨by omega, fun j hj => absurd hj (Nat.not_lt_zero j)⟩, hP.2.2.2.2⟩
    · rw [f1] at o1; cases o1
    · rw [f1] at o1; cases o1
  · rcases hor with ⟨o1, -⟩ | ⟨o1, o2, o3, rfl⟩ | ⟨w2, -, o1, o2, -⟩
    · rw [f1] at o1; cases o1
    · exact ⟨by rw [o3, f3], hD, hM, ⟨j, hj⟩, g, gi, im, so, sz, ce, th, A, B, hc, 0, tb, w, tl, (hC.txf (by omega) hF h59).frm (by omega) (fun x hx => PM_o (by omega) (by omega)), fin g hR.1.1 (fun _ _ => rfl), hP.1, hP.2.1, hP.2.2.1, ⟨by omega, fun j hj => absurd hj (Nat.not_lt_zero j)⟩, hP.2.2.2.2⟩
    · omega
  · rcases hor with ⟨o1, -⟩ | ⟨o1, o2, -⟩ | ⟨w2, o0, o1, o2, o3, o4, rfl⟩
    · rw [f2] at o1; cases o1
    · omega
    · have ew : w2 = w1 := Option.some.inj (o0.symm.trans f1)
      subst ew
      obtain ⟨w3, p0, p1, p2, p3, p4⟩ := hPt f2
      have hC1 := hC.txn (by omega) hP.2.2.1 hG hF (hH cd' o4) h59
      have hd2 : DyOk (txG g cd' w2 (ptC tb tp).2.2.2.1 (ptC tb tp).2.2.2.2) := by unfold DyOk; rw [tx_lo rfl (by omega) (by omega)]; exact hP.1.1
      refine ⟨by rw [o3, f4], hD.gx hG, hM1, ⟨j + 1, by omega⟩, _, gi, im, so, sz, ce, th, A, B, hc, 0, tb, w, tl, hC1.frm (by omega) (fun x hx => by rw [PM_o (by omega) (by omega), rowI_n (by omega)]), fin _ (by rw [rowI_s]) (fun x hx => rowI_n hx), ⟨hd2, fun x hx => by rw [tx_hi rfl (by omega) (by omega) hx]; exact hP.1.2 x hx⟩, hP.2.1, fun hi => ?_, ⟨by omega, fun j hj => absurd hj (Nat.not_lt_zero j)⟩, hP.2.2.2.2⟩
      rw [tx_tN rfl (by omega)]
      have := hP.2.2.1 hi
      omega
