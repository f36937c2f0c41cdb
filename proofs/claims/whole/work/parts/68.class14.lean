/-! the class: text -/
section TXG
variable {g cd : Nat → Int32} {w a t : Nat} {q : List Int32}
theorem tx_lo (ht : tN g = t) {j : Nat} (h : j < 144) (h7 : j ≠ 7) : txG g cd w q a j = g j := by
  unfold txG
  rw [ht, upd_n h7]
  unfold tcG
  rw [if_neg (by omega), upd_n (by omega), upd_n (by omega)]
theorem tx_7 (ht : tN g = t) : txG g cd w q a 7 = nI (t + 1) := by unfold txG; rw [upd_s, ht]
theorem tx_tN (ht : tN g = t) (h14 : t < 14) : tN (txG g cd w q a) = t + 1 := by
  show (txG g cd w q a 7).toNatClampNeg = t + 1
  rw [tx_7 ht]; exact cl_nI (by omega)
theorem tx_h (ht : tN g = t) (h14 : t < 14) : txG g cd w q a (144 + 2 * t) = nI (1000 * w + q.length) := by
  unfold txG
  rw [ht, upd_n (by omega)]
  unfold tcG
  rw [if_neg (by omega), upd_n (by omega), upd_s]
theorem tx_a (ht : tN g = t) (h14 : t < 14) : txG g cd w q a (144 + 2 * t + 1) = nI a := by
  unfold txG
  rw [ht, upd_n (by omega)]
  unfold tcG
  rw [if_neg (by omega), upd_s]
theorem tx_c (ht : tN g = t) {k : Nat} (hk : k < q.length) : txG g cd w q a (172 + 96 * t + k) = cd k := by
  unfold txG
  rw [ht, upd_n (by omega)]
  unfold tcG
  rw [if_pos (by omega)]
  congr 1
  omega
theorem tx_o (ht : tN g = t) (h14 : t < 14) {u : Nat} (hu : u < t) : txG g cd w q a (144 + 2 * u) = g (144 + 2 * u) ∧ txG g cd w q a (144 + 2 * u + 1) = g (144 + 2 * u + 1) ∧ ∀ k, k < 96 → txG g cd w q a (172 + 96 * u + k) = g (172 + 96 * u + k) := by
  unfold txG
  rw [ht]
  refine ⟨?_, ?_, fun k hk => ?_⟩
  · rw [upd_n (by omega)]; unfold tcG; rw [if_neg (by omega), upd_n (by omega), upd_n (by omega)]
  · rw [upd_n (by omega)]; unfold tcG; rw [if_neg (by omega), upd_n (by omega), upd_n (by omega)]
  · rw [upd_n (by omega)]; unfold tcG; rw [if_neg (by omega), upd_n (by omega), upd_n (by omega)]
theorem tx_hi (ht : tN g = t) (h14 : t < 14) (hl : q.length ≤ 96) {j : Nat} (h : 1516 ≤ j) : txG g cd w q a j = g j := by
  unfold txG
  rw [ht, upd_n (by omega)]
  unfold tcG
  rw [if_neg (by omega), upd_n (by omega), upd_n (by omega)]
theorem tx_cnt (ht : tN g = t) (h14 : t < 14) (hw : w < 3) (hl : q.length < 96) {k : Nat} (hk : k < 3) : cntF (txG g cd w q a) (nI k) (t + 1) = if k = w then some t else cntF g (nI k) t := by
  have e1 : ∀ u, u ≤ t → cntF (txG g cd w q a) (nI k) u = cntF g (nI k) u := by
    intro u
    induction u with
    | zero => intro _; rfl
    | succ u ih =>
      intro hu
      show (if txG g cd w q a (144 + 2 * u) / nI 1000 = nI k then some u else cntF (txG g cd w q a) (nI k) u) = (if g (144 + 2 * u) / nI 1000 = nI k then some u else cntF g (nI k) u)
      rw [(tx_o ht h14 (show u < t by omega)).1, ih (by omega)]
  show (if txG g cd w q a (144 + 2 * t) / nI 1000 = nI k then some t else cntF (txG g cd w q a) (nI k) t) = _
  rw [e1 t (Nat.le_refl _), tx_h ht h14, pk_div (by omega) (by omega) (by omega)]
  by_cases e : k = w
  · rw [if_pos e, if_pos]; rw [nI_eq (by omega) (by omega)]; omega
  · rw [if_neg e, if_neg]; intro z; rw [nI_eq (by omega) (by omega)] at z; omega
theorem tx_ky (ht : tN g = t) (h14 : t < 14) (hw : w < 3) (hl : q.length < 96) : kyN (txG g cd w q a) t = w ∧ cdN (txG g cd w q a) t = q.length := by
  have e : (txG g cd w q a (144 + 2 * t)).toNatClampNeg = 1000 * w + q.length := by rw [tx_h ht h14]; exact cl_nI (by omega)
  constructor
  · show (txG g cd w q a (144 + 2 * t)).toNatClampNeg / 1000 = w; rw [e]; omega
  · show (txG g cd w q a (144 + 2 * t)).toNatClampNeg % 1000 = q.length; rw [e]; omega
theorem CdOk_cg {c c' : Nat → Int32} {nm n : Nat} (h : CdOk c nm n) (e : ∀ k, k < n → c' k = c k) : CdOk c' nm n := by
  have ed : ∀ k, k ≤ n → dp c' k = dp c k := by
    intro k
    induction k with
    | zero => intro _; rfl
    | succ k ih =>
      intro hk
      show (if 0 ≤ c' k then dp c' k + 1 else if c' k = (-10) then dp c' k else dp c' k - 1) = (if 0 ≤ c k then dp c k + 1 else if c k = (-10) then dp c k else dp c k - 1)
      rw [e k (by omega), ih (by omega)]
  exact ⟨fun k hk => by rw [e k hk, ed k (by omega)]; exact h.1 k hk, by rw [ed n (Nat.le_refl _)]; exact h.2⟩
theorem tx_All (hX : TxAll g) (ht : tN g = t) (h14 : t < 14) (hw : w < 3) (hl : q.length < 96) (hs : SR cd q) (ho : OkL (nmOf w) q) (hd : dpL q = 1) : TxAll (txG g cd w q a) := by
  have hn := tx_tN (cd := cd) (w := w) (q := q) (a := a) ht h14
  refine ⟨by rw [hn]; exact tx_7 ht, by rw [hn]; omega, fun u hu => ?_⟩
  rw [hn] at hu
  by_cases e : u = t
  · subst e
    obtain ⟨k1, k2⟩ := tx_ky (cd := cd) (a := a) ht h14 hw hl
    refine ⟨by rw [k1]; exact hw, by rw [k2]; omega, by rw [k1, k2]; exact tx_h ht h14, ?_⟩
    rw [k1, k2]
    exact CdOk_cg (SR_CdOk hs ho hd) (fun k hk => tx_c ht hk)
  · obtain ⟨o1, o2, o3⟩ := tx_o (cd := cd) (w := w) (q := q) (a := a) ht h14 (show u < t by omega)
    obtain ⟨x1, x2, x3, x4⟩ := hX.2.2 u (by omega)
    have k1 : kyN (txG g cd w q a) u = kyN g u := by unfold kyN; rw [o1]
    have k2 : cdN (txG g cd w q a) u = cdN g u := by unfold cdN; rw [o1]
    refine ⟨by rw [k1]; exact x1, by rw [k2]; exact x2, by rw [k1, k2, o1]; exact x3, ?_⟩
    rw [k1, k2]
    exact CdOk_cg x4 (fun k hk => o3 k (by omega))
theorem tx_Wf (hW : WfG g) (ht : tN g = t) (h14 : t < 14) (hw : w < 3) (hl : q.length < 96) (hs : SR cd q) (ho : OkL (nmOf w) q) (hd : dpL q = 1) : WfG (txG g cd w q a) := by
  obtain ⟨h1, h2, h3, h4⟩ := hW
  have e1 : nS (txG g cd w q a) = nS g := by unfold nS; rw [tx_lo ht (by omega) (by omega)]
  have em : ∀ s, s < 8 → mN (txG g cd w q a) s = mN g s := fun s hs => by unfold mN; rw [tx_lo ht (by omega) (by omega)]
  refine ⟨by rw [e1, tx_lo ht (by omega) (by omega)]; exact h1, by rw [e1]; exact h2, fun s hs8 => ?_, tx_All h4 ht h14 hw hl hs ho hd⟩
  obtain ⟨l1, l2, l3, l4⟩ := h3 s hs8
  refine ⟨by rw [em s hs8, tx_lo ht (by omega) (by omega)]; exact l1, by rw [em s hs8]; exact l2, fun i hi => ?_, ?_⟩
  · rw [em s hs8] at hi; rw [tx_lo ht (by omega) (by omega)]; exact l3 i hi
  · rw [tx_lo ht (by omega) (by omega)]; exact l4
end TXG
section HLT
variable {T : TC} {I I' : MI} {G G' : MG} {b X N t p : Nat} {g : Nat → Int32}
theorem TxS.keep (h : TxS T I G X N g) (hp : n0 T + gS G = p) (hG : Gx T X t G G') (hX : Is T G X 17) (hNX : X < N) (hu : tN g ≤ t) (hI : ∀ x, x < p → N ≤ x → I' x = I x) : TxS T I' G' X N g := by
  intro u hu'
  obtain ⟨j, h1, h2, h3, h4, h5⟩ := h u hu'
  have l0 := h2.1.2.2
  have l1 := h2.2.1.2.1.2.2
  refine ⟨j, ?_, h2.gx hG (by omega), ?_, ?_, fun k hk => ?_⟩
  · exact ((hG.2 X hX.2.2).2.2 u (fun q => by omega)).trans h1
  · rw [hI _ (by omega) (by omega)]; exact h3
  · rw [hI _ (by omega) (by omega)]; exact h4
  · rw [hI _ (by omega) (by omega)]; exact h5 k hk
/-- another hall, while a text comes -/
theorem Hl.keep (h : Hl T I G b X N g) (hX : X < b) (hp : n0 T + gS G = p) (hNp : N ≤ p) (hG : Gx T X t G G') (hu : tN g ≤ t) (hI : ∀ x, x < p → (b ≤ x ∧ x < b + 19) ∨ N ≤ x → I' x = I x) : Hl T I' G' b X N g := by
  have hbN := h.2.1
  refine ⟨h.1.gx hG (Or.inl hX), hbN, ⟨fun q hq => ?_, fun k hk => ?_, fun s hs => ?_⟩, h.2.2.2.1.keep hp hG (hl_tI h.1) (by omega) hu (fun x h1 h2 => hI x h1 (Or.inr h2)), h.2.2.2.2⟩
  · rw [hI b (by omega) (Or.inl ⟨by omega, by omega⟩)]; exact h.2.2.1.1 q hq
  · rw [hI (b + 2) (by omega) (Or.inl ⟨by omega, by omega⟩)]; exact h.2.2.1.2.1 k hk
  · have h8 := h.n8
    have hs' := h.2.2.1.2.2 s hs
    refine ⟨fun w hw => ?_, fun i hi => ?_⟩
    · rw [hI _ (by omega) (Or.inl ⟨by omega, by omega⟩)]; exact hs'.1 w hw
    · rw [hI _ (by omega) (Or.inl ⟨by omega, by omega⟩)]; exact hs'.2 i hi
theorem Hl.text (h : Hl T I G b X N g) (hX : X < b) {w a j : Nat} {q : List Int32} {cd : Nat → Int32} (ht : tN g = t) (h14 : t < 14) (hw : w < 3) (hl : q.length < 96) (hs : SR cd q) (ho : OkL (nmOf w) q) (hd : dpL q = 1) (hp : n0 T + gS G = p) (hpj : p = N + 3 * j) (hG : Gx T X t G G') (hgR : gR G' X t = some p) (hTe : TeS T G' p q.length) (hI : ∀ x, x < p → (b ≤ x ∧ x < b + 19) ∨ N ≤ x → x ≠ b → x ≠ b + 2 → I' x = I x) (hb : ∀ k, k ≠ 9 → I' b k = I b k) (hb9 : I' b 9 = nI (t + 1)) (hg : ∀ k, I' (b + 2) k = if k = w then nI t else I (b + 2) k) (hk : I' p 0 = nI w) (ha : I' p 1 = nI a) (hc : ∀ k, k < q.length → I' (p + 1) k = spI (cd k)) : Hl T I' G' b X N (txG g cd w q a) := by
  have hbN := h.2.1
  have hn := tx_tN (cd := cd) (w := w) (q := q) (a := a) ht h14
  have en : nS (txG g cd w q a) = nS g := by unfold nS; rw [tx_lo ht (by omega) (by omega)]
  refine ⟨h.1.gx hG (Or.inl hX), hbN, ⟨fun e he => ?_, fun k hk3 => ?_, fun s hs8 => ?_⟩, ?_, tx_Wf h.w ht h14 hw hl hs ho hd⟩
  · have h1 := h.2.2.1.1 e he
    by_cases e9 : e.1 = 9
    · have : e.2 = 7 := (show ∀ e ∈ fxL, e.1 = 9 → e.2 = 7 by decide) e he e9
      rw [e9, this, tx_7 ht]; exact hb9
    · have h2 : e.2 ≠ 7 ∧ e.2 < 8 := (show ∀ e ∈ fxL, e.1 ≠ 9 → e.2 ≠ 7 ∧ e.2 < 8 by decide) e he e9
      rw [hb _ e9, tx_lo ht (by omega) h2.1]; exact h1
  · rw [hn, tx_cnt ht h14 hw hl hk3, hg k]
    by_cases e : k = w
    · rw [if_pos e, if_pos e]; rfl
    · rw [if_neg e, if_neg e, h.2.2.1.2.1 k hk3, ht]
  · rw [en] at hs8
    have h8 := h.n8
    have hs' := h.sf hs8
    have em : mN (txG g cd w q a) s = mN g s := by unfold mN; rw [tx_lo ht (by omega) (by omega)]
    have hm := h.mm s hs8
    refine ⟨fun v hv => ?_, fun i hi => ?_⟩
    · rw [hI _ (by omega) (Or.inl ⟨by omega, by omega⟩) (by omega) (by omega), tx_lo ht (by omega) (by omega)]; exact hs'.1 v hv
    · rw [em] at hi
      rw [hI _ (by omega) (Or.inl ⟨by omega, by omega⟩) (by omega) (by omega), tx_lo ht (by omega) (by omega)]; exact hs'.2 i hi
  · intro u hu
    rw [hn] at hu
    by_cases e : u = t
    · subst e
      obtain ⟨k1, k2⟩ := tx_ky (cd := cd) (a := a) ht h14 hw hl
      subst hpj
      refine ⟨j, hgR, by rw [k2]; exact hTe, by rw [k1]; exact hk, by rw [tx_a ht h14]; exact ha, fun k hk2 => ?_⟩
      rw [k2] at hk2
      rw [hc k hk2]
      exact congrArg spI (tx_c ht hk2).symm
    · have hX17 := hl_tI h.1
      obtain ⟨o1, o2, o3⟩ := tx_o (cd := cd) (w := w) (q := q) (a := a) ht h14 (show u < t by omega)
      obtain ⟨i, h1, h2, h3, h4, h5⟩ := h.2.2.2.1 u (by omega)
      have l0 := h2.1.2.2
      have l1 := h2.2.1.2.1.2.2
      have k1 : kyN (txG g cd w q a) u = kyN g u := by unfold kyN; rw [o1]
      have k2 : cdN (txG g cd w q a) u = cdN g u := by unfold cdN; rw [o1]
      have c96 := (h.w.2.2.2.2.2 u (by omega)).2.1
      refine ⟨i, ((hG.2 X hX17.2.2).2.2 u (fun z => by omega)).trans h1, by rw [k2]; exact h2.gx hG (by omega), ?_, ?_, fun k hk2 => ?_⟩
      · rw [hI _ (by omega) (Or.inr (by omega)) (by omega) (by omega), k1]; exact h3
      · rw [hI _ (by omega) (Or.inr (by omega)) (by omega) (by omega), o2]; exact h4
      · rw [k2] at hk2
        rw [hI _ (by omega) (Or.inr (by omega)) (by omega) (by omega), h5 k hk2]
        exact congrArg spI (o3 k (by omega)).symm
end HLT
def PTx (D : Nat) : Nat → Prop := fun x => x = D + 59 ∨ x = D + 61 ∨ x = D + 62
def TxQ (T : TC) (I : MI) (G : MG) (D NN : Nat) (g : Nat → Int32) (tb : Nat → Nat) (N : Nat) (r : Int32) (I' : MI) (G' : MG) : Prop :=
  I' (D + 59) 1 = nI 0 ∧ (((ptC tb N).2.1 = false ∧ r = (-100) - nI (ptC tb N).2.2.1 ∧ Fr (PTx D) I I' ∧ G' = G) ∨ ((ptC tb N).2.1 = true ∧ tN g = 14 ∧ r = cFULL ∧ Fr (PTx D) I I' ∧ G' = G) ∨ (∃ w, (ptC tb N).1 = some w ∧ (ptC tb N).2.1 = true ∧ tN g < 14 ∧ r = nI (tN g) ∧ gS G' = gS G + 3 ∧ Gx T (D + 1) (tN g) G G' ∧ (∀ x, x < n0 T + gS G → x ≠ D + 2 → x ≠ D + 4 → ¬ PTx D x → I' x = I x) ∧ ∀ cd, SR cd (ptC tb N).2.2.2.1 → Hl T I' G' (D + 2) (D + 1) NN (txG g cd w (ptC tb N).2.2.2.1 (ptC tb N).2.2.2.2)))
set_option maxRecDepth 100000 in
set_option maxHeartbeats 4000000 in
theorem C8_text {T : TC} {I : MI} {G : MG} (d : Nat) {D NN : Nat} (hD : DS T G D NN) {g : Nat → Int32} (hH : Hl T I G (D + 2) (D + 1) NN g) {tb : Nat → Nat} {N : Nat} (hT : TpC I D tb N) (j : Nat) (hj : n0 T + gS G = NN + 3 * j) : Ok T mX8_text (d + 91) (3) (200) [.ref D] I G (fun v I' G' => ∃ r, v = some (.int r) ∧ TxQ T I G D NN g tb N r I' G') := by
  refine Ok_of (own := RX8) (by decide) rfl (cat1 rfl) (Nat.le_of_ble_eq_true rfl) ?_
  refine Ex_wid (b := (3, 200)) ?_ (by omega) (by omega)
  show Ex T RX8 cX8_text 2 (d + 91) _ 0 [some (.ref D), none] [] I G (3, 200)
  have hS := hH.1
  have hDN := ds_N hD
  have h14 := hH.w.2.2.2.2.1
  have h7 : I (D + 2) 9 = nI (tN g) := (hH.fx (show (9, 7) ∈ fxL by decide)).trans hH.w.2.2.2.1
  refine Ex_aload_n dX8_text_0 rfl ?_
  refine Ex_getr dX8_text_1 fX8_38 (ds_o hD) (ds_gr hD) ?_
  refine Ex_V0i dX8_text_4 sX8_235 (ds_g hD).1 (Nat.le_of_ble_eq_true rfl) (c0_parseTape d hD hT) ?_
  rintro r J G1 ⟨⟨rfl, s2, s3, s4⟩, eG⟩
  rw [eG]
  clear eG G1
  refine Ex_istore_n dX8_text_7 (by decide) rfl ?_
  simp only [st_n0, st_n1, st_n2, st_n3, List.set_cons_zero, List.set_cons_succ]
  refine Ex_aload_n dX8_text_8 rfl ?_
  refine Ex_getr dX8_text_9 fX8_29 (ds_o hD) (ds_tpr hD) ?_
  refine Ex_iconst (v := nI 0) dX8_text_12 (by rfl) ?_
  refine Ex_puti dX8_text_13 fX8_231 rfl rfl rfl (ds_tp hD).1 ?_
  have hF1 : Fr (PTx D) I (setI J (D + 59) 1 (nI 0)) := fun x hx => by
    rw [setI_a (fun e => hx (Or.inl e))]
    exact s4 x (fun z => hx (Or.inr z))
  refine Ex_iload_n dX8_text_16 rfl ?_
  refine Ex_if_ne (tgt := 31) dX8_text_17 (by decide) (fun h17 => ?_) (fun h17 => ?_)
  · have htr : (ptC tb N).2.1 = true := by
      cases hz : (ptC tb N).2.1 with
      | true => rfl
      | false => exact absurd (bI_f (fun z => by rw [hz] at z; cases z)) h17
    refine Ex_aload_n dX8_text_31 rfl ?_
    refine Ex_getr dX8_text_32 fX8_16 (ds_o hD) (ds_h hD) ?_
    refine Ex_geti dX8_text_35 fX8_242 (hl_o hS) ?_
    refine Ex_top (show _ = nI (tN g) by rw [hF1 _ (fun z => by unfold PTx at z; omega)]; exact h7) ?_
    refine Ex_bipush (v := nI 14) dX8_text_38 (by rfl) ?_
    refine Ex_icmp_ltN (by omega) (by omega) (tgt := 46) dX8_text_40 (by decide) (fun h40 => ?_) (fun h40 => ?_)
    · obtain ⟨w, hpw, hw3, hlen, hok, hdp⟩ := ptC_ok (fun j hj => (hT.2.2 j hj).2) hT.1 htr
      have hgr := s2 w hpw htr
      obtain ⟨g1, g2, g3, g4, g5, g6, g7⟩ := hgr
      have e2 : setI J (D + 59) 1 (nI 0) (D + 61) 2 = nI (ptC tb N).2.2.2.1.length := by rw [setI_a (by omega)]; exact g1
      have e3 : setI J (D + 59) 1 (nI 0) (D + 61) 3 = nI (ptC tb N).2.2.2.2 := by rw [setI_a (by omega)]; exact g2
      have e4 : setI J (D + 59) 1 (nI 0) (D + 61) 4 = nI w := by rw [setI_a (by omega)]; exact g3
      refine Ex_aload_n dX8_text_46 rfl ?_
      refine Ex_getr dX8_text_47 fX8_16 (ds_o hD) (ds_h hD) ?_
      refine Ex_aload_n dX8_text_50 rfl ?_
      refine Ex_getr dX8_text_51 fX8_38 (ds_o hD) (ds_gr hD) ?_
      refine Ex_wid (b := (0 + (0 + (0 + 1) + (0 + 1) + 1), 0 + (0 + (0 + (ptC tb N).2.2.2.1.length) + (0 + (ptC tb N).2.2.2.1.length) + fN 7))) ?_ (by show 0 + (0 + (0 + 1) + (0 + 1) + 1) ≤ 3; omega) (by show 0 + (0 + (0 + (ptC tb N).2.2.2.1.length) + (0 + (ptC tb N).2.2.2.1.length) + 4) ≤ 200; omega)
      refine Ex_callV (a := D + 61) (As := []) (rest := [.ref (D + 2)]) (b1 := 0) (b2 := 0) dX8_text_54 sX8_245.1 sX8_245.2.1 sX8_245.2.2 (ds_g hD).1 rfl rfl (Nat.le_of_ble_eq_true rfl) (c0_makeText (d + 88) hD (ptC tb N).2.2.2.1.length hlen (nI w) (nI (ptC tb N).2.2.2.2) (q := n0 T + gS G) rfl e4 e3 e2) ?_
      rintro _ J3 G3 ⟨rfl, hN⟩
      obtain ⟨n1, n2, n3, n4, n5, n6, n7⟩ := hN
      refine Ex_V1i dX8_text_57 sX8_249 ((ds_H hD).1.gx (n1 (D + 1) (tN g))) (Nat.le_of_ble_eq_true rfl) (c1_addText (d + 90) ((ds_H hD).gx (n1 (D + 1) (tN g)) (by omega)) (tN g) w (n0 T + gS G) (by omega) hw3 n4.1 ⟨by omega, by omega⟩ (by rw [n3 _ (by omega) (by omega) (by omega), hF1 _ (fun z => by unfold PTx at z; omega)]; exact h7) n5) ?_
      rintro r J4 G4 ⟨hr, hJ4, hG4⟩
      refine Ex_iret dX8_text_60 (by first | rfl | exact narrow_bI) ?_
      refine ⟨_, rfl, ?_, Or.inr (Or.inr ⟨w, hpw, htr, by omega, hr, by rw [hG4]; exact n2, ?_, ?_, ?_⟩)⟩
      · rw [hJ4, setI_a (by omega), setI_a (by omega), n3 _ (by omega) (by omega) (by omega), setI_s]
      · rw [hG4]; exact (n1 (D + 1) (tN g)).setX
      · intro x hx x1 x2 x3
        rw [hJ4, setI_a x1, setI_a (by omega), n3 _ (by omega) (by omega) (by omega)]
        exact hF1 x x3
      · intro cd hcd
        have hc9 := SR_at _ hcd g7
        refine hH.text (p := n0 T + gS G) (j := j) (by omega) rfl (by omega) hw3 hlen hcd hok hdp rfl hj (by rw [hG4]; exact (n1 (D + 1) (tN g)).setX) (by rw [hG4, setR_R]; exact if_pos ⟨rfl, rfl⟩) (by rw [hG4]; exact n4.gx (Gx.setX Gx.refl) (by omega)) ?_ ?_ ?_ ?_ ?_ ?_ ?_
        · intro x hx hx2 x1 x2
          rw [hJ4, setI_a x1, setI_a (by omega), n3 _ (by omega) (by omega) (by omega)]
          exact hF1 x (fun z => by unfold PTx at z; omega)
        · intro k hk
          rw [hJ4, setI_n (by omega), setI_a (by omega), n3 _ (by omega) (by omega) (by omega), hF1 _ (fun z => by unfold PTx at z; omega)]
        · rw [hJ4, setI_s]
        · intro k
          rw [hJ4, setI_a (by omega)]
          by_cases e : k = w
          · rw [if_pos e, e, setI_s]
          · rw [if_neg e, setI_n (by omega), n3 _ (by omega) (by omega) (by omega), hF1 _ (fun z => by unfold PTx at z; omega)]
        · rw [hJ4, setI_a (by omega), setI_a (by omega)]; exact n5
        · rw [hJ4, setI_a (by omega), setI_a (by omega)]; exact n6
        · intro k hk
          rw [hJ4, setI_a (by omega), setI_a (by omega), n7 k hk, setI_a (by omega)]
          exact hc9 k hk
    · refine Ex_ldc dX8_text_43 kX8_76 ?_
      refine Ex_iret dX8_text_45 (by first | rfl | exact narrow_bI) ?_
      exact ⟨_, rfl, setI_s, Or.inr (Or.inl ⟨htr, by omega, rfl, hF1, rfl⟩)⟩
  · refine Ex_bipush (v := (-100)) dX8_text_20 (by rfl) ?_
    refine Ex_aload_n dX8_text_22 rfl ?_
    refine Ex_getr dX8_text_23 fX8_38 (ds_o hD) (ds_gr hD) ?_
    refine Ex_geti dX8_text_26 fX8_239 (ds_g hD).1 ?_
    refine Ex_isub dX8_text_29 ?_
    refine Ex_iret dX8_text_30 (by first | rfl | exact narrow_bI) ?_
    have hf0 : (ptC tb N).2.1 = false := by
      cases hz : (ptC tb N).2.1 with
      | false => rfl
      | true => rw [bI_t hz] at h17; exact absurd h17 (by decide)
    exact ⟨_, rfl, setI_s, Or.inl ⟨hf0, by rw [setI_a (by omega), s3 hf0], hF1, rfl⟩⟩
