/-! the law: what ties the class and the reference -/
def CRel (T : TC) (D : Nat) (H : MG) (J : MI) (g gi : Nat → Int32) (im : Int32) (so : Nat → Int32) (sz : Nat → Nat) (ce : Nat → Nat → Int32) (th A B : Nat → Int32) (hc : Nat → Nat → Int32) (tp : Nat) (tb : Nat → Nat) (w : Nat) (tl : Nat → Int32) : Prop :=
  Hl T J H (D + 2) (D + 1) (D + 144) g ∧ (J D 3 = im ∧ (¬ im = 0 → Hl T J H (D + 21) (D + 1) (D + 144) gi)) ∧ ShA J D so sz ce ∧ SlA J D th A B hc ∧ (J (D + 59) 1 = nI tp ∧ ∀ j, j < tp → J (D + 60) j = nI (tb j)) ∧ (J D 10 = nI w ∧ ∀ k, k < w → J (D + 116) k = tl k)
def MRel (M : Nat) (J : MI) (g gi : Nat → Int32) (im : Int32) (so : Nat → Int32) (sz : Nat → Nat) (ce : Nat → Nat → Int32) (th A B : Nat → Int32) (hc : Nat → Nat → Int32) (tp : Nat) (tb : Nat → Nat) (w : Nat) (tl : Nat → Int32) : Prop :=
  (J (M + 1) = g ∧ J (M + 2) = gi ∧ J M 3 = im) ∧ (J (M + 18) = so ∧ SzR J M sz ∧ (fun s k => J (M + 20) (24 * s + k)) = ce) ∧ (J (M + 21) = th ∧ J (M + 22) = A ∧ J (M + 23) = B ∧ (fun i k => J (M + 24) (24 * i + k)) = hc) ∧ (J M 12 = nI tp ∧ ∀ j, j < tp → J (M + 10) j = nI (tb j)) ∧ (J M 38 = nI w ∧ J (M + 26) = tl) ∧ KyO J M
def PRel (g gi : Nat → Int32) (im : Int32) (tp : Nat) (tb : Nat → Nat) (w : Nat) : Prop := (DyOk g ∧ ∀ x, 1516 ≤ x → g x = 0) ∧ (WfG gi ∧ DyOk gi ∧ ∀ x, 1516 ≤ x → gi x = 0) ∧ (¬ im = 0 → tN gi ≤ tN g) ∧ (tp ≤ 96 ∧ ∀ j, j < tp → tb j < 256) ∧ w ≤ 60
def LI (T : TC) (D : Nat) (J : MI) (H : MG) : Prop := DS T H D (D + 144) ∧ MSh T H (D + 117) ∧ (∃ j, n0 T + gS H = D + 144 + 3 * j) ∧ ∃ g gi im so sz ce th A B hc tp tb w tl, CRel T D H J g gi im so sz ce th A B hc tp tb w tl ∧ MRel (D + 117) J g gi im so sz ce th A B hc tp tb w tl ∧ PRel g gi im tp tb w
section LAW1
variable {T : TC} {D N : Nat} {H : MG} {J J' : MI} {g g' gi : Nat → Int32} {im : Int32} {so : Nat → Int32} {sz : Nat → Nat} {ce : Nat → Nat → Int32} {th A B : Nat → Int32} {hc : Nat → Nat → Int32} {tp : Nat} {tb : Nat → Nat} {w : Nat} {tl : Nat → Int32}
theorem Hl.frm {b X : Nat} (h : Hl T J H b X N g) (hX : X < b) (hN : N ≤ n0 T + gS H) (hI : ∀ x, (b ≤ x ∧ x < b + 19) ∨ N ≤ x → J' x = J x) : Hl T J' H b X N g := h.keep (t := tN g) hX rfl hN Gx.refl (Nat.le_refl _) (fun x _ hx => hI x hx)
theorem ShA.frm (h : ShA J D so sz ce) (hI : ∀ x, D + 82 ≤ x → x < D + 90 → J' x = J x) : ShA J' D so sz ce := fun k hk => by
  obtain ⟨⟨a1, a2, a3, a4⟩, b1, b2⟩ := h k hk
  exact ⟨⟨by rw [hI _ (by omega) (by omega)]; exact a1, by rw [hI _ (by omega) (by omega)]; exact a2, a3, fun i hi => by rw [hI _ (by omega) (by omega)]; exact a4 i hi⟩, b1, b2⟩
theorem SlA.frm (h : SlA J D th A B hc) (hI : ∀ x, D + 91 ≤ x → x < D + 116 → J' x = J x) : SlA J' D th A B hc := fun k hk => by
  obtain ⟨a1, a2, a3, a4⟩ := h k hk
  have e0 : J' (D + 91 + 5 * k) = J (D + 91 + 5 * k) := hI _ (by omega) (by omega)
  have e1 : J' (D + 91 + 5 * k + 1) = J (D + 91 + 5 * k + 1) := hI _ (by omega) (by omega)
  have e3 : J' (D + 91 + 5 * k + 3) = J (D + 91 + 5 * k + 3) := hI _ (by omega) (by omega)
  have e4 : J' (D + 91 + 5 * k + 4) = J (D + 91 + 5 * k + 4) := hI _ (by omega) (by omega)
  unfold SlR
  rw [e0, e1, e3, e4]
  exact ⟨a1, a2, a3, a4⟩
/-- the class stands where its cells are as they were -/
theorem CRel.frm (h : CRel T D H J g gi im so sz ce th A B hc tp tb w tl) (hN : D + 144 ≤ n0 T + gS H) (hI : ∀ x, x < D + 117 ∨ D + 144 ≤ x → J' x = J x) : CRel T D H J' g gi im so sz ce th A B hc tp tb w tl := by
  obtain ⟨a1, ⟨a2, a3⟩, a4, a5, ⟨a6, a7⟩, ⟨a8, a9⟩⟩ := h
  exact ⟨a1.frm (by omega) hN (fun x hx => hI x (by omega)), ⟨by rw [hI _ (by omega)]; exact a2, fun hi => (a3 hi).frm (by omega) hN (fun x hx => hI x (by omega))⟩, a4.frm (fun x _ _ => hI x (by omega)), a5.frm (fun x _ _ => hI x (by omega)), ⟨by rw [hI _ (by omega)]; exact a6, fun j hj => by rw [hI _ (by omega)]; exact a7 j hj⟩, ⟨by rw [hI _ (by omega)]; exact a8, fun k hk => by rw [hI _ (by omega)]; exact a9 k hk⟩⟩
/-- the class while only its scratch cells have changed -/
theorem CRel.ps (h : CRel T D H J g gi im so sz ce th A B hc tp tb w tl) (hF : Fr (PS D (D + 144)) J J') : CRel T D H J' g gi im so sz ce th A B hc tp tb w tl := by
  obtain ⟨a1, ⟨a2, a3⟩, a4, a5, ⟨a6, a7⟩, ⟨a8, a9⟩⟩ := h
  have hl : ∀ {b : Nat} {g : Nat → Int32}, (D + 2 = b ∨ D + 21 = b) → Hl T J H b (D + 1) (D + 144) g → Hl T J' H b (D + 1) (D + 144) g := fun {b g} hb q =>
    ⟨q.1, q.2.1, q.2.2.1.fr hF (fun x z => by unfold PS PK at z; omega) q.n8, q.2.2.2.1.fr hF (fun x z => by unfold PS PK at z; omega), q.2.2.2.2⟩
  have hx : ∀ x, (D + 82 ≤ x ∧ x < D + 117) ∨ x = D ∨ x = D + 59 ∨ x = D + 60 → J' x = J x := fun x hx => hF x (fun z => by unfold PS PK at z; omega)
  exact ⟨hl (Or.inl rfl) a1, ⟨by rw [hx _ (by omega)]; exact a2, fun hi => hl (Or.inr rfl) (a3 hi)⟩, a4.frm (fun x _ _ => hx x (by omega)), a5.frm (fun x _ _ => hx x (by omega)), ⟨by rw [hx _ (by omega)]; exact a6, fun j hj => by rw [hx _ (by omega)]; exact a7 j hj⟩, ⟨by rw [hx _ (by omega)]; exact a8, fun k hk => by rw [hx _ (by omega)]; exact a9 k hk⟩⟩
/-- the hall has changed -/
theorem CRel.ph (h : CRel T D H J g gi im so sz ce th A B hc tp tb w tl) (hF : Fr (PH (D + 2) (D + 144)) J J') (hH : Hl T J' H (D + 2) (D + 1) (D + 144) g') : CRel T D H J' g' gi im so sz ce th A B hc tp tb w tl := by
  obtain ⟨a1, ⟨a2, a3⟩, a4, a5, ⟨a6, a7⟩, ⟨a8, a9⟩⟩ := h
  have hx : ∀ x, (D + 21 ≤ x ∧ x < D + 117) ∨ x = D → J' x = J x := fun x hx => hF x (fun z => by unfold PH at z; omega)
  exact ⟨hH, ⟨by rw [hx _ (by omega)]; exact a2, fun hi => (a3 hi).oth hF (by omega) (by omega)⟩, a4.frm (fun x _ _ => hx x (by omega)), a5.frm (fun x _ _ => hx x (by omega)), ⟨by rw [hx _ (by omega)]; exact a6, fun j hj => by rw [hx _ (by omega)]; exact a7 j hj⟩, ⟨by rw [hx _ (by omega)]; exact a8, fun k hk => by rw [hx _ (by omega)]; exact a9 k hk⟩⟩
/-- the reference's scratch -/
def Pm (M : Nat) : Nat → Prop := fun x => x = M ∨ x = M + 1 ∨ (M + 3 ≤ x ∧ x ≤ M + 9) ∨ x = M + 16 ∨ x = M + 17
/-- the reference stands where its cells are as they were, its scratch aside, and its array is g' -/
theorem MRel.frm {M : Nat} (h : MRel M J g gi im so sz ce th A B hc tp tb w tl) (hI : ∀ x, M ≤ x → x < M + 27 → ¬ Pm M x → J' x = J x) (h0 : ∀ j, j ≠ 5 → J' M j = J M j) (hg : J' (M + 1) = g') : MRel M J' g' gi im so sz ce th A B hc tp tb w tl := by
  obtain ⟨⟨a1, a2, a3⟩, ⟨a4, a5, a6⟩, ⟨a7, a8, a9, a10⟩, ⟨a11, a12⟩, ⟨a13, a14⟩, a15⟩ := h
  have e : ∀ i, (i = 2 ∨ (10 ≤ i ∧ i ≤ 12) ∨ (18 ≤ i ∧ i ≤ 24) ∨ i = 26) → J' (M + i) = J (M + i) := fun i hi => hI _ (by omega) (by omega) (fun z => by unfold Pm at z; omega)
  refine ⟨⟨hg, by rw [e 2 (by omega)]; exact a2, by rw [h0 3 (by omega)]; exact a3⟩, ⟨by rw [e 18 (by omega)]; exact a4, ?_, by rw [e 20 (by omega)]; exact a6⟩, ⟨by rw [e 21 (by omega)]; exact a7, by rw [e 22 (by omega)]; exact a8, by rw [e 23 (by omega)]; exact a9, by rw [e 24 (by omega)]; exact a10⟩, ⟨by rw [h0 12 (by omega)]; exact a11, by rw [e 10 (by omega)]; exact a12⟩, ⟨by rw [h0 38 (by omega)]; exact a13, by rw [e 26 (by omega)]; exact a14⟩, ?_⟩
  · unfold SzR at a5 ⊢
    rw [e 19 (by omega)]
    exact a5
  · unfold KyO at a15 ⊢
    rw [e 11 (by omega), e 12 (by omega)]
    exact a15
theorem MRel.cls {M : Nat} (h : MRel M J g gi im so sz ce th A B hc tp tb w tl) (hI : ∀ x, M ≤ x → x < M + 27 → J' x = J x) : MRel M J' g gi im so sz ce th A B hc tp tb w tl := h.frm (fun x h1 h2 _ => hI x h1 h2) (fun j _ => by rw [hI M (Nat.le_refl _) (by omega)]) (by rw [hI _ (by omega) (by omega)]; exact h.1.1)
/-- both, after the reference's turn: its array is g' -/
theorem LI.fin (hD : DS T H D (D + 144)) (hM : MSh T H (D + 117)) (hj : ∃ j, n0 T + gS H = D + 144 + 3 * j) (hC : CRel T D H J g' gi im so sz ce th A B hc tp tb w tl) (hR : MRel (D + 117) J g gi im so sz ce th A B hc tp tb w tl) (hP : PRel g' gi im tp tb w) (hF : Fr (Pm (D + 117)) J J') (h0 : ∀ j, j ≠ 5 → J' (D + 117) j = J (D + 117) j) (hg : J' (D + 117 + 1) = g') : LI T D J' H :=
  ⟨hD, hM, hj, g', gi, im, so, sz, ce, th, A, B, hc, tp, tb, w, tl, hC.frm (by obtain ⟨j, hj⟩ := hj; omega) (fun x hx => hF x (fun z => by unfold Pm at z; omega)), hR.frm (fun x _ _ hx => hF x hx) h0 hg, hP⟩
end LAW1
