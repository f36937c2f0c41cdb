/-! the class: a hall's state -/
def fxL : List (Nat × Nat) := [(1, 1), (2, 3), (3, 4), (4, 5), (5, 6), (6, 2), (7, 0), (9, 7)]
theorem fx_inj : ∀ p ∈ fxL, ∀ q ∈ fxL, p.1 = q.1 ↔ p.2 = q.2 := by decide
theorem fx_8 : ∀ p ∈ fxL, p.2 < 8 := by decide
def HlS (T : TC) (G : MG) (b X : Nat) : Prop := Is T G b 1 ∧ (gR G b 0 = some (b + 1) ∧ Is T G (b + 1) 14 ∧ gN G (b + 1) = 8) ∧ (gR G b 10 = some (b + 2) ∧ Is T G (b + 2) 10 ∧ gN G (b + 2) = 3) ∧ (gR G b 8 = some X ∧ Is T G X 17 ∧ gN G X = 14) ∧ ∀ k, k < 8 → gR G (b + 1) k = some (b + 3 + 2 * k) ∧ SfS T G (b + 3 + 2 * k)
def HlI (I : MI) (b : Nat) (g : Nat → Int32) : Prop := (∀ q ∈ fxL, I b q.1 = g q.2) ∧ (∀ k, k < 3 → I (b + 2) k = cntI (cntF g (nI k) (tN g))) ∧ ∀ s, s < nS g → SfR I (b + 3 + 2 * s) g s
/-- the texts: every one in three cells from N on: itself, its steps, its stack -/
def TxS (T : TC) (I : MI) (G : MG) (X N : Nat) (g : Nat → Int32) : Prop := ∀ t, t < tN g → ∃ j, gR G X t = some (N + 3 * j) ∧ TeS T G (N + 3 * j) (cdN g t) ∧ I (N + 3 * j) 0 = nI (kyN g t) ∧ I (N + 3 * j) 1 = g (144 + 2 * t + 1) ∧ ∀ k, k < cdN g t → I (N + 3 * j + 1) k = spI (cdF g t k)
def PH (b N : Nat) : Nat → Prop := fun x => (b ≤ x ∧ x < b + 19) ∨ (N ≤ x ∧ (x - N) % 3 = 2)
def PK (N : Nat) : Nat → Prop := fun x => N ≤ x ∧ (x - N) % 3 = 2
def Hl (T : TC) (I : MI) (G : MG) (b X N : Nat) (g : Nat → Int32) : Prop := HlS T G b X ∧ b + 19 ≤ N ∧ HlI I b g ∧ TxS T I G X N g ∧ WfG g
section HLS
variable {T : TC} {G : MG} {b X : Nat}
theorem hl_o (h : HlS T G b X) : Is T G b 1 := h.1
theorem hl_s (h : HlS T G b X) : gR G b 0 = some (b + 1) := h.2.1.1
theorem hl_sI (h : HlS T G b X) : Is T G (b + 1) 14 := h.2.1.2.1
theorem hl_sN (h : HlS T G b X) : gN G (b + 1) = 8 := h.2.1.2.2
theorem hl_g (h : HlS T G b X) : gR G b 10 = some (b + 2) := h.2.2.1.1
theorem hl_gI (h : HlS T G b X) : Is T G (b + 2) 10 := h.2.2.1.2.1
theorem hl_gN (h : HlS T G b X) : gN G (b + 2) = 3 := h.2.2.1.2.2
theorem hl_t (h : HlS T G b X) : gR G b 8 = some X := h.2.2.2.1.1
theorem hl_tI (h : HlS T G b X) : Is T G X 17 := h.2.2.2.1.2.1
theorem hl_tN (h : HlS T G b X) : gN G X = 14 := h.2.2.2.1.2.2
theorem hl_k (h : HlS T G b X) (k : Nat) (hk : k < 8) : gR G (b + 1) k = some (b + 3 + 2 * k) := (h.2.2.2.2 k hk).1
theorem hl_S (h : HlS T G b X) (k : Nat) (hk : k < 8) : SfS T G (b + 3 + 2 * k) := (h.2.2.2.2 k hk).2
end HLS
theorem SfR_cg {I I' : MI} {a s : Nat} {g g' : Nat → Int32} (h1 : I' a = I a) (h2 : I' (a + 1) = I (a + 1)) (hg : ∀ j, 8 + 17 * s ≤ j → j < 8 + 17 * s + 17 → g' j = g j) (hm : mN g s ≤ 12) (h : SfR I a g s) : SfR I' a g' s := by
  have em : mN g' s = mN g s := by unfold mN; rw [hg _ (by omega) (by omega)]
  refine ⟨fun w hw => ?_, fun i hi => ?_⟩
  · rw [h1, hg _ (by omega) (by omega)]; exact h.1 w hw
  · rw [em] at hi
    rw [h2, hg _ (by omega) (by omega)]; exact h.2 i hi
theorem cntF_cg {g g' : Nat → Int32} {key : Int32} (h : ∀ j, 144 ≤ j → g' j = g j) : ∀ t, cntF g' key t = cntF g key t
  | 0 => rfl
  | t + 1 => by
    unfold cntF
    rw [h _ (by omega), cntF_cg h t]
theorem HlI.fld {I : MI} {b j q : Nat} {g : Nat → Int32} {v : Int32} (h : HlI I b g) (hm : ∀ s, s < nS g → mN g s ≤ 12) (hq : (j, q) ∈ fxL) (hq1 : q ≠ 1) (hq7 : q ≠ 7) : HlI (setI I b j v) b (upd g q v) := by
  have h8 : q < 8 := fx_8 _ hq
  have e1 : nS (upd g q v) = nS g := by unfold nS; rw [upd_n (by omega)]
  have e7 : tN (upd g q v) = tN g := by unfold tN; rw [upd_n (by omega)]
  refine ⟨fun p hp => ?_, fun k hk => ?_, fun s hs => ?_⟩
  · by_cases e : p.1 = j
    · rw [show p.2 = q from (fx_inj p hp (j, q) hq).mp e, e, setI_s, upd_s]
    · rw [setI_n (fun w => e w.2), upd_n (fun w => e ((fx_inj p hp (j, q) hq).mpr w))]; exact h.1 p hp
  · rw [setI_a (by omega), e7, cntF_cg (fun x hx => upd_n (by omega))]; exact h.2.1 k hk
  · rw [e1] at hs
    exact SfR_cg (setI_a (by omega)) (setI_a (by omega)) (fun x h1 _ => upd_n (by omega)) (hm s hs) (h.2.2 s hs)
theorem HlI.surf {I I' : MI} {b s : Nat} {g g' : Nat → Int32} (h : HlI I b g) (hm : ∀ s, s < nS g → mN g s ≤ 12) (hs : s < 8) (hR : SfR I' (b + 3 + 2 * s) g' s) (hF : Fr (P2 (b + 3 + 2 * s)) I I') (hg : ∀ j, (j < 8 + 17 * s ∨ 8 + 17 * s + 17 ≤ j) → g' j = g j) : HlI I' b g' := by
  have e1 : nS g' = nS g := by unfold nS; rw [hg _ (by omega)]
  have e7 : tN g' = tN g := by unfold tN; rw [hg _ (by omega)]
  refine ⟨fun p hp => ?_, fun k hk => ?_, fun x hx => ?_⟩
  · have := fx_8 p hp
    rw [hF b (fun q => by unfold P2 at q; omega), hg _ (by omega)]; exact h.1 p hp
  · rw [hF (b + 2) (fun q => by unfold P2 at q; omega), e7, cntF_cg (fun x hx => hg _ (by omega))]; exact h.2.1 k hk
  · rw [e1] at hx
    by_cases e : x = s
    · subst e; exact hR
    · exact SfR_cg (hF _ (fun q => by unfold P2 at q; omega)) (hF _ (fun q => by unfold P2 at q; omega)) (fun j h1 h2 => hg j (by omega)) (hm x hx) (h.2.2 x hx)
theorem HlI.fr {I I' : MI} {b : Nat} {g : Nat → Int32} {P : Nat → Prop} (h : HlI I b g) (hF : Fr P I I') (hP : ∀ x, P x → ¬ (b ≤ x ∧ x < b + 19)) (h8 : nS g ≤ 8) : HlI I' b g := by
  have e : ∀ x, b ≤ x → x < b + 19 → I' x = I x := fun x h1 h2 => hF x (fun q => hP x q ⟨h1, h2⟩)
  refine ⟨fun p hp => by rw [e b (by omega) (by omega)]; exact h.1 p hp, fun k hk => by rw [e (b + 2) (by omega) (by omega)]; exact h.2.1 k hk, fun s hs => ?_⟩
  have := h.2.2 s hs
  exact ⟨fun w hw => by rw [e _ (by omega) (by omega)]; exact this.1 w hw, fun i hi => by rw [e _ (by omega) (by omega)]; exact this.2 i hi⟩
theorem TxS.fr {T : TC} {I I' : MI} {G : MG} {X N : Nat} {g : Nat → Int32} {P : Nat → Prop} (h : TxS T I G X N g) (hF : Fr P I I') (hP : ∀ x, P x → x < N ∨ (x - N) % 3 = 2) : TxS T I' G X N g := by
  intro t ht
  obtain ⟨j, h1, h2, h3, h4, h5⟩ := h t ht
  have e0 : I' (N + 3 * j) = I (N + 3 * j) := hF _ (fun q => by have := hP _ q; omega)
  have e1 : I' (N + 3 * j + 1) = I (N + 3 * j + 1) := hF _ (fun q => by have := hP _ q; omega)
  exact ⟨j, h1, h2, by rw [e0]; exact h3, by rw [e0]; exact h4, fun k hk => by rw [e1]; exact h5 k hk⟩
theorem TxS.cg {T : TC} {I : MI} {G : MG} {X N : Nat} {g g' : Nat → Int32} (h : TxS T I G X N g) (h7 : g' 7 = g 7) (hg : ∀ j, 144 ≤ j → g' j = g j) : TxS T I G X N g' := by
  have e7 : tN g' = tN g := by unfold tN; rw [h7]
  intro t ht
  rw [e7] at ht
  obtain ⟨j, h1, h2, h3, h4, h5⟩ := h t ht
  have e1 : kyN g' t = kyN g t := by unfold kyN; rw [hg _ (by omega)]
  have e2 : cdN g' t = cdN g t := by unfold cdN; rw [hg _ (by omega)]
  exact ⟨j, h1, by rw [e2]; exact h2, by rw [e1]; exact h3, by rw [hg _ (by omega)]; exact h4, fun k hk => by rw [e2] at hk; rw [show cdF g' t k = cdF g t k from hg _ (by omega)]; exact h5 k hk⟩
section HL
variable {T : TC} {I I' : MI} {G : MG} {b X N : Nat} {g g' : Nat → Int32}
theorem Hl.step (h : Hl T I G b X N g) (hI : HlI I' b g') (hF : Fr (PH b N) I I') (h7 : g' 7 = g 7) (hg : ∀ j, 144 ≤ j → g' j = g j) (hW : WfG g') : Hl T I' G b X N g' :=
  ⟨h.1, h.2.1, hI, (h.2.2.2.1.fr hF (fun x q => by unfold PH at q; have := h.2.1; omega)).cg h7 hg, hW⟩
theorem Hl.mm (h : Hl T I G b X N g) : ∀ s, s < nS g → mN g s ≤ 12 := fun s hs => (h.2.2.2.2.2.2.1 s (by have := h.2.2.2.2.2.1; omega)).2.1
theorem Hl.fx (h : Hl T I G b X N g) {j q : Nat} (hq : (j, q) ∈ fxL) : I b j = g q := h.2.2.1.1 (j, q) hq
theorem Hl.n (h : Hl T I G b X N g) : I b 1 = nI (nS g) := (h.fx (by decide)).trans h.2.2.2.2.1
theorem Hl.n8 (h : Hl T I G b X N g) : nS g ≤ 8 := h.2.2.2.2.2.1
theorem Hl.w (h : Hl T I G b X N g) : WfG g := h.2.2.2.2
theorem Hl.ly (h : Hl T I G b X N g) {s : Nat} (hs : s < 8) : LyOk g s := h.2.2.2.2.2.2.1 s hs
theorem Hl.sf (h : Hl T I G b X N g) {s : Nat} (hs : s < nS g) : SfR I (b + 3 + 2 * s) g s := h.2.2.1.2.2 s hs
theorem Hl.fld (h : Hl T I G b X N g) {j q : Nat} {v : Int32} (hq : (j, q) ∈ fxL) (hq1 : q ≠ 1) (hq7 : q ≠ 7) : Hl T (setI I b j v) G b X N (upd g q v) := by
  have h8 : q < 8 := fx_8 _ hq
  exact h.step (h.2.2.1.fld h.mm hq hq1 hq7) (Fr.refl.si (Or.inl ⟨by omega, by omega⟩)) (upd_n (by omega)) (fun j hj => upd_n (by omega)) (WfG_congr (fun j hj => upd_n (by omega)) h.2.2.2.2)
theorem Hl.surf (h : Hl T I G b X N g) {s : Nat} (hs : s < 8) (hR : SfR I' (b + 3 + 2 * s) g' s) (hF : Fr (P2 (b + 3 + 2 * s)) I I') (hg : ∀ j, (j < 8 + 17 * s ∨ 8 + 17 * s + 17 ≤ j) → g' j = g j) (hl : LyOk g' s) : Hl T I' G b X N g' :=
  h.step (h.2.2.1.surf h.mm hs hR hF hg) (hF.mono (fun x q => by unfold P2 at q; exact Or.inl ⟨by omega, by omega⟩)) (hg _ (by omega)) (fun j hj => hg _ (by omega)) (WfG_surf hs (fun j h1 _ => hg j h1) hl h.2.2.2.2)
theorem P2H {s x : Nat} (hs : s < 8) (q : P2 (b + 3 + 2 * s) x) : PH b N x := by unfold P2 at q; exact Or.inl ⟨by omega, by omega⟩
theorem PKH {x : Nat} (q : PK N x) : PH b N x := Or.inr q
/-- only a text's stack has changed -/
theorem Hl.pk (h : Hl T I G b X N g) (hF : Fr (PK N) I I') : Hl T I' G b X N g :=
  ⟨h.1, h.2.1, h.2.2.1.fr hF (fun x q => by unfold PK at q; have := h.2.1; omega) h.n8, h.2.2.2.1.fr hF (fun x q => Or.inr q.2), h.2.2.2.2⟩
end HL
theorem sf_many {I : MI} {a s m' : Nat} {g : Nat → Int32} (hR : SfR I a g s) (h : m' ≤ mN g s) (h12 : mN g s ≤ 12) : SfR (setI I a 2 (nI m')) a (upd g (8 + 17 * s + 2) (nI m')) s := by
  have em : mN (upd g (8 + 17 * s + 2) (nI m')) s = m' := mN_of upd_s (by omega)
  refine ⟨fun w hw => ?_, fun i hi => ?_⟩
  · by_cases e : w = 2
    · rw [e, setI_s, upd_s]
    · rw [setI_n (by omega), upd_n (by omega)]; exact hR.1 w hw
  · rw [em] at hi
    rw [setI_a (by omega), upd_n (by omega)]; exact hR.2 i (by omega)
theorem sf_pop {I : MI} {a s m : Nat} {g : Nat → Int32} (hR : SfR I a g s) (hm : mN g s = m) (h : m ≤ 12) (h0 : 0 < m) : SfR (setI I a 2 (nI (m - 1))) a (takeG g s m (m - 1)) s := by
  have e2 : takeG g s m (m - 1) (8 + 17 * s + 2) = nI (m - 1) := take_2
  have em : mN (takeG g s m (m - 1)) s = m - 1 := mN_of e2 (by omega)
  refine ⟨fun w hw => ?_, fun i hi => ?_⟩
  · rcases w4 hw with rfl | rfl | rfl | rfl
    · rw [setI_n (by omega), take_w (by omega)]; exact hR.1 0 (by omega)
    · rw [setI_n (by omega), take_w (by omega)]; exact hR.1 1 (by omega)
    · rw [setI_s, e2]
    · rw [setI_n (by omega), take_3]; exact hR.1 3 (by omega)
  · rw [em] at hi
    rw [setI_a (by omega), take_l (by omega), if_neg (by omega)]; exact hR.2 i (by omega)
set_option maxRecDepth 100000 in
set_option maxHeartbeats 4000000 in
theorem c1_draw {T : TC} {I : MI} {G : MG} (d : Nat) {b X N : Nat} {g : Nat → Int32} (hH : Hl T I G b X N g)  : OkI T mX1_draw (d) [.ref b] I G (fun r I' G' => r = nI (dw (g 0)) ∧ Hl T I' G b X N (drawG g) ∧ Fr (PH b N) I I' ∧ G' = G) := by
  refine Ok_of (own := RX1) (by decide) rfl (cat1 rfl) (Nat.le_of_ble_eq_true rfl) ?_
  show Ex T RX1 cX1_draw 1 (d) _ 0 [some (.ref b)] [] I G (0, 0)
  have hS := hH.1
  refine Ex_aload_n dX1_draw_0 rfl ?_
  refine Ex_aload_n dX1_draw_1 rfl ?_
  refine Ex_geti dX1_draw_2 fX1_24 (hl_o hS) ?_
  refine Ex_top (hH.fx (j := 7) (q := 0) (by decide)) ?_
  refine Ex_ldc dX1_draw_5 kX1_71 ?_
  first | with_reducible refine Ex_imulN dX1_draw_7 ?_ | refine Ex_imul dX1_draw_7 ?_
  refine Ex_sipush (v := nI 12345) dX1_draw_8 (by rfl) ?_
  first | with_reducible refine Ex_iaddN dX1_draw_11 ?_ | refine Ex_iadd dX1_draw_11 ?_
  refine Ex_top (show _ = nz (g 0) from rfl) ?_
  refine Ex_puti dX1_draw_12 fX1_24 rfl rfl rfl (hl_o hS) ?_
  refine Ex_aload_n dX1_draw_15 rfl ?_
  refine Ex_geti dX1_draw_16 fX1_24 (hl_o hS) ?_
  refine Ex_top (show _ = nz (g 0) from setI_s) ?_
  refine Ex_bipush (v := nI 8) dX1_draw_19 (by rfl) ?_
  refine Ex_iushr dX1_draw_21 ?_
  refine Ex_top (dw_eq _) ?_
  refine Ex_iret dX1_draw_22 (by first | rfl | exact narrow_bI) ?_
  exact ⟨_, rfl, rfl, hH.fld (by decide) (by decide) (by decide), Fr.refl.si (Or.inl ⟨by omega, by omega⟩), rfl⟩
def stT (G : MG) (X : Nat) (g : Nat → Int32) (k : Nat) : Option Nat := match cntF g (nI k) (tN g) with
  | none => none
  | some t => gR G X t
set_option maxRecDepth 100000 in
set_option maxHeartbeats 4000000 in
theorem t1_standingText {T : TC} {I : MI} {G : MG} (d : Nat) {b X N : Nat} {g : Nat → Int32} (hH : Hl T I G b X N g) (k : Nat) (hk : k < 3) : Ex T RX1 cX1_standingText 3 d (fm T "standingText" (some (.object "DustLayers$Text")) (fun v I' G' => v = some (va_rf (stT G X g k)) ∧ I' = I ∧ G' = G)) 7 [some (.ref b), some (.int (nI k)), some (.int (cntI (cntF g (nI k) (tN g))))] [] I G (0, 0) := by
  have hS := hH.1
  have ht := hH.2.2.2.2.2.2.2
  cases hc : cntF g (nI k) (tN g) with
  | none =>
    have e0 : stT G X g k = none := by unfold stT; rw [hc]
    rw [e0]
    show Ex T RX1 cX1_standingText 3 d _ 7 [some (.ref b), some (.int (nI k)), some (.int (-1))] [] I G (0, 0)
    refine Ex_iload_n dX1_standingText_7 rfl ?_
    refine Ex_if_lt (tgt := 28) dX1_standingText_8 (by decide) (fun h8 => ?_) (fun h8 => ?_)
    · refine Ex_null dX1_standingText_28 ?_
      refine Ex_aret dX1_standingText_29 (Or.inl ⟨_, rfl⟩) (by first | exact Or.inl rfl | exact Or.inr ⟨_, rfl⟩) ?_
      exact ⟨rfl, rfl, rfl⟩
    · exact absurd (show (-1 : Int32) < 0 by decide) h8
  | some t =>
    have hlt := (cntF_lt hc).1
    obtain ⟨j, hj, -⟩ := hH.2.2.2.1 t hlt
    have e0 : stT G X g k = some (N + 3 * j) := by unfold stT; rw [hc]; exact hj
    have h14 := ht.2.1
    rw [e0]
    show Ex T RX1 cX1_standingText 3 d _ 7 [some (.ref b), some (.int (nI k)), some (.int (nI t))] [] I G (0, 0)
    refine Ex_iload_n dX1_standingText_7 rfl ?_
    refine Ex_if_lt (tgt := 28) dX1_standingText_8 (by decide) (fun h8 => ?_) (fun h8 => ?_)
    · exact absurd h8 (nI_pos (by omega))
    · refine Ex_iload_n dX1_standingText_11 rfl ?_
      refine Ex_aload_n dX1_standingText_12 rfl ?_
      refine Ex_geti dX1_standingText_13 fX1_52 (hl_o hS) ?_
      refine Ex_top ((hH.fx (j := 9) (q := 7) (by decide)).trans ht.1) ?_
      refine Ex_icmp_geN (by omega) (by omega) (tgt := 28) dX1_standingText_16 (by decide) (fun h16 => ?_) (fun h16 => ?_)
      · omega
      · refine Ex_aload_n dX1_standingText_19 rfl ?_
        refine Ex_getr dX1_standingText_20 fX1_31 (hl_o hS) (hl_t hS) ?_
        refine Ex_iload_n dX1_standingText_23 rfl ?_
        refine Ex_aaldTe dX1_standingText_24 (hl_tI hS) rfl (by rw [hl_tN hS]; omega) (by rw [hl_tN hS]; decide) hj ?_
        refine Ex_goto (tgt := 29) dX1_standingText_25 (by decide) ?_
        refine Ex_aret dX1_standingText_29 (Or.inl ⟨_, rfl⟩) (by first | exact Or.inl rfl | exact Or.inr ⟨_, rfl⟩) ?_
        exact ⟨rfl, rfl, rfl⟩
set_option maxRecDepth 100000 in
set_option maxHeartbeats 4000000 in
theorem c1_standingText {T : TC} {I : MI} {G : MG} (d : Nat) {b X N : Nat} {g : Nat → Int32} (hH : Hl T I G b X N g) (k : Nat) (hk : k < 3) : OkR T mX1_standingText (d) [.ref b, .int (nI k)] I G (stT G X g k) := by
  refine Ok_of (own := RX1) (by decide) rfl (cat1 rfl) (Nat.le_of_ble_eq_true rfl) ?_
  show Ex T RX1 cX1_standingText 3 (d) _ 0 [some (.ref b), some (.int (nI k)), none] [] I G (0, 0)
  have hS := hH.1
  refine Ex_aload_n dX1_standingText_0 rfl ?_
  refine Ex_getr dX1_standingText_1 fX1_27 (hl_o hS) (hl_g hS) ?_
  refine Ex_iload_n dX1_standingText_4 rfl ?_
  refine Ex_iald dX1_standingText_5 (hl_gI hS) rfl (by rw [hl_gN hS]; omega) (by rw [hl_gN hS]; decide) ?_
  refine Ex_top (hH.2.2.1.2.1 k hk) ?_
  refine Ex_istore_n dX1_standingText_6 (by decide) rfl ?_
  simp only [st_n0, st_n1, st_n2, st_n3, List.set_cons_zero, List.set_cons_succ]
  exact t1_standingText d hH k hk
set_option maxRecDepth 100000 in
set_option maxHeartbeats 4000000 in
theorem t1_brmN {T : TC} {I : MI} {G : MG} (d : Nat) {b X N : Nat} {g : Nat → Int32} (hH : Hl T I G b X N g) (s : Nat) (hs : s < nS g) (hc : cntF g (nI 0) (tN g) = none) : Ex T RX1 cX1_broomTakesFrom 4 (d + 2) (fm T "broomTakesFrom" (some .int) (fun v I' G' => ∃ r, v = some (.int r) ∧ r = liftF g s ∧ Fr (PK N) I I' ∧ G' = G)) 5 [some (.ref b), some (.ref (b + 3 + 2 * s)), none, none] [.null] I G (0, 0) := by
  have hS := hH.1
  have hn8 := hH.n8
  have hsf := hH.sf hs
  refine Ex_astore_nN dX1_broomTakesFrom_5 (by decide) rfl ?_
  simp only [st_n0, st_n1, st_n2, st_n3, List.set_cons_zero, List.set_cons_succ]
  refine Ex_aload_nN dX1_broomTakesFrom_6 rfl ?_
  refine Ex_ifnonnullN dX1_broomTakesFrom_7 ?_
  refine Ex_iconst (v := nI 2) dX1_broomTakesFrom_10 (by rfl) ?_
  refine Ex_goto (tgt := 36) dX1_broomTakesFrom_11 (by decide) ?_
  refine Ex_istore_n dX1_broomTakesFrom_36 (by decide) rfl ?_
  simp only [st_n0, st_n1, st_n2, st_n3, List.set_cons_zero, List.set_cons_succ]
  refine Ex_aload_n dX1_broomTakesFrom_37 rfl ?_
  refine Ex_iload_n dX1_broomTakesFrom_38 rfl ?_
  refine Ex_V1p dX1_broomTakesFrom_39 sX1_122 (hl_S hS s (by omega)).1 (Nat.le_of_ble_eq_true rfl) (c5_broomTakes d (hl_S hS s (by omega)) 2 (by omega)) ?_
  refine Ex_iret dX1_broomTakesFrom_42 (by first | rfl | exact narrow_bI) ?_
  exact ⟨_, rfl, (by rw [hsf.1 0 (by omega)]; unfold liftF plainF; rw [hc]), Fr.refl, rfl⟩
set_option maxRecDepth 100000 in
set_option maxHeartbeats 4000000 in
theorem t1_brmS {T : TC} {I : MI} {G : MG} (d : Nat) {b X N : Nat} {g : Nat → Int32} (hH : Hl T I G b X N g) (s t j : Nat) (hs : s < nS g) (hc : cntF g (nI 0) (tN g) = some t) (hj : TeS T G (N + 3 * j) (cdN g t)) (hst : ∀ k, k < cdN g t → I (N + 3 * j + 1) k = spI (cdF g t k)) (hT : TxOk g t) : Ex T RX1 cX1_broomTakesFrom 4 (d + 2) (fm T "broomTakesFrom" (some .int) (fun v I' G' => ∃ r, v = some (.int r) ∧ r = liftF g s ∧ Fr (PK N) I I' ∧ G' = G)) 5 [some (.ref b), some (.ref (b + 3 + 2 * s)), none, none] [.ref (N + 3 * j)] I G (0, 0) := by
  have hS := hH.1
  have hn8 := hH.n8
  have hsf := hH.sf hs
  have hbN := hH.2.1
  have hnm : nmOf (kyN g t) ≤ 3 := by unfold nmOf; split <;> omega
  refine Ex_astore_n dX1_broomTakesFrom_5 (by decide) rfl ?_
  simp only [st_n0, st_n1, st_n2, st_n3, List.set_cons_zero, List.set_cons_succ]
  refine Ex_aload_n dX1_broomTakesFrom_6 rfl ?_
  refine Ex_ifnonnull (tgt := 14) dX1_broomTakesFrom_7 (by decide) ?_
  refine Ex_aload_n dX1_broomTakesFrom_14 rfl ?_
  refine Ex_aload_n dX1_broomTakesFrom_15 rfl ?_
  refine Ex_geti dX1_broomTakesFrom_16 fX1_97 (hl_S hS s (by omega)).1 ?_
  refine Ex_top (hsf.1 2 (by omega)) ?_
  refine Ex_aload_n dX1_broomTakesFrom_19 rfl ?_
  refine Ex_geti dX1_broomTakesFrom_20 fX1_112 (hl_S hS s (by omega)).1 ?_
  refine Ex_top (hsf.1 1 (by omega)) ?_
  refine Ex_aload_n dX1_broomTakesFrom_23 rfl ?_
  refine Ex_geti dX1_broomTakesFrom_24 fX1_49 (hl_o hS) ?_
  refine Ex_top (hH.fx (j := 6) (q := 2) (by decide)) ?_
  refine Ex_V3i dX1_broomTakesFrom_27 sX1_115 hj.1 (Nat.le_of_ble_eq_true rfl) (c7_gives d (cdF g t) (cdN g t) (nmOf (kyN g t)) _ _ _ hT.2.1 hnm hst hT.2.2.2 hj) ?_
  rintro r I1 _ ⟨rfl, hF, rfl⟩
  have eF : ∀ x, x ≠ N + 3 * j + 2 → I1 x = I x := fun x hx => hF x hx
  refine Ex_iconst (v := nI 0) dX1_broomTakesFrom_30 (by rfl) ?_
  refine Ex_bipush (v := nI 12) dX1_broomTakesFrom_31 (by rfl) ?_
  refine Ex_N3p dX1_broomTakesFrom_33 sX1_119  (Nat.le_of_ble_eq_true rfl) (c8_within d _ _ _ (by decide)) ?_
  obtain ⟨p, hp, ep⟩ := wth_k ((evL (cdF g t) (fct (g (8 + 17 * s + 2)) (g (8 + 17 * s + 1)) (g 2)) (cdN g t)).headD 0) (m := 12) (by omega)
  refine Ex_top ep ?_
  refine Ex_istore_n dX1_broomTakesFrom_36 (by decide) rfl ?_
  simp only [st_n0, st_n1, st_n2, st_n3, List.set_cons_zero, List.set_cons_succ]
  refine Ex_aload_n dX1_broomTakesFrom_37 rfl ?_
  refine Ex_iload_n dX1_broomTakesFrom_38 rfl ?_
  refine Ex_V1p dX1_broomTakesFrom_39 sX1_122 (hl_S hS s (by omega)).1 (Nat.le_of_ble_eq_true rfl) (c5_broomTakes d (hl_S hS s (by omega)) p (by omega)) ?_
  refine Ex_iret dX1_broomTakesFrom_42 (by first | rfl | exact narrow_bI) ?_
  exact ⟨_, rfl, (by rw [eF _ (by omega), hsf.1 0 (by omega)]; unfold liftF plainF; rw [hc]; rw [← ep]; rfl), hF.mono (fun x q => by subst q; exact ⟨by omega, by omega⟩), rfl⟩
set_option maxRecDepth 100000 in
set_option maxHeartbeats 4000000 in
theorem c1_broomTakesFrom {T : TC} {I : MI} {G : MG} (d : Nat) {b X N : Nat} {g : Nat → Int32} (hH : Hl T I G b X N g) (s : Nat) (hs : s < nS g) : OkI T mX1_broomTakesFrom (d + 2) [.ref b, .ref (b + 3 + 2 * s)] I G (fun r I' G' => r = liftF g s ∧ Fr (PK N) I I' ∧ G' = G) := by
  refine Ok_of (own := RX1) (by decide) rfl (cat1 rfl) (Nat.le_of_ble_eq_true rfl) ?_
  show Ex T RX1 cX1_broomTakesFrom 4 (d + 2) _ 0 [some (.ref b), some (.ref (b + 3 + 2 * s)), none, none] [] I G (0, 0)
  have hS := hH.1
  refine Ex_aload_n dX1_broomTakesFrom_0 rfl ?_
  refine Ex_iconst (v := nI 0) dX1_broomTakesFrom_1 (by rfl) ?_
  refine Ex_V1r dX1_broomTakesFrom_2 sX1_108 (hl_o hS) (Nat.le_of_ble_eq_true rfl) (c1_standingText (d + 1) hH 0 (by omega)) ?_
  unfold stT
  cases hc : cntF g (nI 0) (tN g) with
  | none => exact t1_brmN d hH s hs hc
  | some t =>
    have hlt := (cntF_lt hc).1
    obtain ⟨j, hj, hj2, -, -, hj5⟩ := hH.2.2.2.1 t hlt
    show Ex _ _ _ _ _ _ _ _ [va_rf (gR G X t)] _ _ _
    rw [hj]
    exact t1_brmS d hH s t j hs hc hj2 hj5 (hH.2.2.2.2.2.2.2.2.2 t hlt)
set_option maxRecDepth 100000 in
set_option maxHeartbeats 4000000 in
theorem c1_sweep {T : TC} {I : MI} {G : MG} (d : Nat) {b X N : Nat} {g : Nat → Int32} (hH : Hl T I G b X N g) (s : Nat) (hs : s < nS g) : OkI T mX1_sweep (d + 3) [.ref b, .ref (b + 3 + 2 * s)] I G (fun r I' G' => r = goneF g s ∧ Hl T I' G b X N (sweepG g s) ∧ Fr (PH b N) I I' ∧ G' = G) := by
  refine Ok_of (own := RX1) (by decide) rfl (cat1 rfl) (Nat.le_of_ble_eq_true rfl) ?_
  show Ex T RX1 cX1_sweep 3 (d + 3) _ 0 [some (.ref b), some (.ref (b + 3 + 2 * s)), none] [] I G (0, 0)
  have hS := hH.1
  have hn8 := hH.n8
  have hl := hH.ly (s := s) (by omega)
  obtain ⟨k, hk, eg⟩ := gone_k hl
  refine Ex_aload_n dX1_sweep_0 rfl ?_
  refine Ex_aload_n dX1_sweep_1 rfl ?_
  refine Ex_aload_n dX1_sweep_2 rfl ?_
  refine Ex_V1i dX1_sweep_3 sX1_101 (hl_o hS) (Nat.le_of_ble_eq_true rfl) (c1_broomTakesFrom d hH s hs) ?_
  rintro r I1 _ ⟨rfl, hF, rfl⟩
  have hH1 := hH.pk hF
  have hsf := hH1.sf hs
  have e2 : I1 (b + 3 + 2 * s) 2 = nI (mN g s) := (hsf.1 2 (by omega)).trans hl.1
  refine Ex_V1i dX1_sweep_6 sX1_104 (hl_S hS s (by omega)).1 (Nat.le_of_ble_eq_true rfl) (c5_takeNewest (d + 1) (hl_S hS s (by omega)) _ (by rw [e2]; exact nI_le (by omega) (by have := hl.2.1; omega))) ?_
  rintro r I2 _ ⟨rfl, rfl, rfl⟩
  have eg2 : wth (liftF g s) (nI 0) (I1 (b + 3 + 2 * s) 2) = nI k := by rw [e2, ← hl.1]; exact eg
  rw [eg2, e2, pk_sub hk]
  have hs9 : SfR (setI I1 (b + 3 + 2 * s) 2 (nI (mN g s - k))) (b + 3 + 2 * s) (upd g (8 + 17 * s + 2) (nI (mN g s - k))) s := sf_many hsf (by omega) hl.2.1
  have eg3 : upd (upd g (8 + 17 * s + 2) (nI (mN g s - k))) 5 (g 5 + nI k) = sweepG g s := by unfold sweepG; rw [eg, hl.1, pk_sub hk]
  have hl9 : LyOk (upd g (8 + 17 * s + 2) (nI (mN g s - k))) s := LyOk_congr (fun j h1 h2 => by rw [← eg3]; exact (upd_n (show j ≠ 5 by omega)).symm) (Ly_sweep hl)
  have hH2 := hH1.surf (by omega) hs9 (Fr.refl.si (Or.inl rfl)) (fun j hj => upd_n (by omega)) hl9
  refine Ex_istore_n dX1_sweep_9 (by decide) rfl ?_
  simp only [st_n0, st_n1, st_n2, st_n3, List.set_cons_zero, List.set_cons_succ]
  refine Ex_aload_n dX1_sweep_10 rfl ?_
  refine Ex_dup dX1_sweep_11 rfl ?_
  refine Ex_geti dX1_sweep_12 fX1_43 (hl_o hS) ?_
  refine Ex_top (show _ = g 5 by rw [setI_a (by omega)]; exact hH1.fx (j := 4) (q := 5) (by decide)) ?_
  refine Ex_iload_n dX1_sweep_15 rfl ?_
  first | with_reducible refine Ex_iaddN dX1_sweep_16 ?_ | refine Ex_iadd dX1_sweep_16 ?_
  refine Ex_puti dX1_sweep_17 fX1_43 rfl rfl rfl (hl_o hS) ?_
  refine Ex_iload_n dX1_sweep_20 rfl ?_
  refine Ex_iret dX1_sweep_21 (by first | rfl | exact narrow_bI) ?_
  refine ⟨_, rfl, eg.symm, ?_, ?_, rfl⟩
  · rw [← eg3]; exact hH2.fld (by decide) (by decide) (by decide)
  · exact (((hF.mono (fun x q => PKH q)).si (Or.inl ⟨by omega, by omega⟩)).si (Or.inl ⟨by omega, by omega⟩))
