/-! the class: small constructors -/
def Ct (a m : Nat) (I : MI) (G : MG) (I' : MI) (G' : MG) : Prop := gS G' = gS G + m ∧ ∀ x, x < a → gK G' x = gK G x ∧ gN G' x = gN G x ∧ gR G' x = gR G x ∧ I' x = I x
theorem setR_Rn {G : MG} {a j x : Nat} {v : Option Nat} (h : x ≠ a) : gR (setR G a j v) x = gR G x := funext fun _ => if_neg (fun q => h q.1)
theorem Ct_na {I : MI} {G : MG} {a k n j : Nat} {v : Option Nat} : Ct a 1 I G (zI I (a + 1)) (setR (alG G (a + 1) k n) a j v) := ⟨rfl, fun x hx => ⟨alG_Kn (by omega), alG_Nn (by omega), (setR_Rn (by omega)).trans (alG_Rn (by omega)), zI_n (by omega)⟩⟩
theorem Ct.nw {T : TC} {I0 J : MI} {G0 H : MG} {a ci m : Nat} (h : Ct a m (zI I0 a) (alG G0 a ci 0) J H) (hq : n0 T + gS G0 = a) : (∀ X t, Gx T X t G0 H) ∧ n0 T + gS H = a + 1 + m ∧ ∀ x, x < a → J x = I0 x := by
  refine ⟨fun X t => ⟨by rw [h.1, alG_S]; omega, fun x hx => ?_⟩, by rw [h.1, alG_S]; omega, fun x hx => ?_⟩
  · obtain ⟨h1, h2, h3, -⟩ := h.2 x (by omega)
    exact ⟨h1.trans (alG_Kn (by omega)), h2.trans (alG_Nn (by omega)), fun j _ => by rw [h3, alG_Rn (by omega)]⟩
  · rw [(h.2 x hx).2.2.2, zI_n (by omega)]
theorem gR_gj {T : TC} {X t a k j : Nat} {G G' : MG} {v : Option Nat} (h : Is T G a k) (hg : Gx T X t G G') (hx : a ≠ X ∨ j ≠ t) (e : gR G a j = v) : gR G' a j = v := ((hg.2 a h.2.2).2.2 j (fun q => by omega)).trans e
theorem HlS.gy {T : TC} {X Y t b : Nat} {G G' : MG} (h : HlS T G b Y) (hg : Gx T X t G G') (hx : X < b ∨ b + 19 ≤ X) : HlS T G' b Y := ⟨h.1.gx hg, ⟨gR_gx h.1 hg (by omega) (hl_s h), (hl_sI h).gx hg, gN_gx (hl_sI h) hg (hl_sN h)⟩, ⟨gR_gx h.1 hg (by omega) (hl_g h), (hl_gI h).gx hg, gN_gx (hl_gI h) hg (hl_gN h)⟩, ⟨gR_gx h.1 hg (by omega) (hl_t h), (hl_tI h).gx hg, gN_gx (hl_tI h) hg (hl_tN h)⟩, fun k hk => ⟨gR_gx (hl_sI h) hg (by omega) (hl_k h k hk), (hl_S h k hk).gx hg (by omega)⟩⟩
set_option maxRecDepth 100000 in
set_option maxHeartbeats 4000000 in
theorem cX5_ini {T : TC} {I : MI} {G : MG} (d : Nat) {a : Nat} (ha : Is T G a 5) (hq : n0 T + gS G = a + 1) : Ok T mX5_init (d + 1) (0 + 1) (0 + 12) [.ref a] I G (fun v I' G' => v = none ∧ (Ct a 1 I G I' G' ∧ SfS T G' a)) := by
  refine Ok_of (own := RX5) (by decide) rfl (cat1 rfl) (Nat.le_of_ble_eq_true rfl) ?_
  refine Ex_wid (b := (0 + 1, 0 + 12)) ?_ (by omega) (by omega)
  show Ex T RX5 cX5_init 1 (d + 1) _ 0 [some (.ref a)] [] I G (0 + 1, 0 + 12)
  refine Ex_aload_n dX5_init_0 rfl ?_
  refine Ex_objInit dX5_init_1 sX5_3 oi_1 oi_2 (Nat.le_of_ble_eq_true rfl) ?_
  refine Ex_aload_n dX5_init_4 rfl ?_
  refine Ex_bipush (v := nI 12) dX5_init_5 (by rfl) ?_
  refine Ex_newI dX5_init_7 ac_int rfl (by decide) hq ?_
  refine Ex_putrF dX5_init_9 fX5_9 rfl rfl (fun _ _ _ _ _ _ _ _ _ _ _ h => h.2.2.2) rfl rfl (ha.al hq) ?_
  refine Ex_vret dX5_init_12 ?_
  exact ⟨rfl, Ct_na, ⟨(ha.al hq).setR, if_pos ⟨rfl, rfl⟩, (Is.new hq).setR, if_pos rfl⟩⟩
set_option maxRecDepth 100000 in
set_option maxHeartbeats 4000000 in
theorem cX3_ini {T : TC} {I : MI} {G : MG} (d : Nat) {a : Nat} (ha : Is T G a 3) (hq : n0 T + gS G = a + 1) : Ok T mX3_init (d + 1) (0 + 1) (0 + 24) [.ref a] I G (fun v I' G' => v = none ∧ (Ct a 1 I G I' G' ∧ ShS T G' a ∧ I' a 0 = (-1) ∧ I' a 1 = I a 1 ∧ ∀ y, I' (a + 1) y = 0)) := by
  refine Ok_of (own := RX3) (by decide) rfl (cat1 rfl) (Nat.le_of_ble_eq_true rfl) ?_
  refine Ex_wid (b := (0 + 1, 0 + 24)) ?_ (by omega) (by omega)
  show Ex T RX3 cX3_init 1 (d + 1) _ 0 [some (.ref a)] [] I G (0 + 1, 0 + 24)
  refine Ex_aload_n dX3_init_0 rfl ?_
  refine Ex_objInit dX3_init_1 sX3_3 oi_1 oi_2 (Nat.le_of_ble_eq_true rfl) ?_
  refine Ex_aload_n dX3_init_4 rfl ?_
  refine Ex_iconst (v := (-1)) dX3_init_5 (by rfl) ?_
  refine Ex_puti dX3_init_6 fX3_9 rfl rfl rfl ha ?_
  refine Ex_aload_n dX3_init_9 rfl ?_
  refine Ex_bipush (v := nI 24) dX3_init_10 (by rfl) ?_
  refine Ex_newI dX3_init_12 ac_int rfl (by decide) hq ?_
  refine Ex_putrF dX3_init_14 fX3_15 rfl rfl (fun _ _ _ _ _ _ _ _ _ _ _ h => h.2.2.2) rfl rfl (ha.al hq) ?_
  refine Ex_vret dX3_init_17 ?_
  refine ⟨rfl, ?_, ⟨(ha.al hq).setR, if_pos ⟨rfl, rfl⟩, (Is.new hq).setR, if_pos rfl⟩, by rw [zI_n (by omega), setI_s], by rw [zI_n (by omega), setI_n (by omega)], fun y => zI_s⟩
  exact ⟨rfl, fun x hx => ⟨alG_Kn (by omega), alG_Nn (by omega), (setR_Rn (by omega)).trans (alG_Rn (by omega)), (zI_n (by omega)).trans (setI_a (by omega))⟩⟩
set_option maxRecDepth 100000 in
set_option maxHeartbeats 4000000 in
theorem cX6_ini {T : TC} {I : MI} {G : MG} (d : Nat) {a : Nat} (ha : Is T G a 6) (hq : n0 T + gS G = a + 1) : Ok T mX6_init (d + 1) (0 + 1) (0 + 96) [.ref a] I G (fun v I' G' => v = none ∧ (Ct a 1 I G I' G' ∧ TpS T G' a ∧ I' a 1 = I a 1)) := by
  refine Ok_of (own := RX6) (by decide) rfl (cat1 rfl) (Nat.le_of_ble_eq_true rfl) ?_
  refine Ex_wid (b := (0 + 1, 0 + 96)) ?_ (by omega) (by omega)
  show Ex T RX6 cX6_init 1 (d + 1) _ 0 [some (.ref a)] [] I G (0 + 1, 0 + 96)
  refine Ex_aload_n dX6_init_0 rfl ?_
  refine Ex_objInit dX6_init_1 sX6_3 oi_1 oi_2 (Nat.le_of_ble_eq_true rfl) ?_
  refine Ex_aload_n dX6_init_4 rfl ?_
  refine Ex_bipush (v := nI 96) dX6_init_5 (by rfl) ?_
  refine Ex_newI dX6_init_7 ac_int rfl (by decide) hq ?_
  refine Ex_putrF dX6_init_9 fX6_9 rfl rfl (fun _ _ _ _ _ _ _ _ _ _ _ h => h.2.2.2) rfl rfl (ha.al hq) ?_
  refine Ex_vret dX6_init_12 ?_
  exact ⟨rfl, Ct_na, ⟨(ha.al hq).setR, if_pos ⟨rfl, rfl⟩, (Is.new hq).setR, if_pos rfl⟩, by rw [zI_n (by omega)]⟩
set_option maxRecDepth 100000 in
set_option maxHeartbeats 4000000 in
theorem cX0_ini {T : TC} {I : MI} {G : MG} (d : Nat) {a : Nat} (ha : Is T G a 0) (hq : n0 T + gS G = a + 1) (tp : Nat) : Ok T mX0_init (d + 1) (0 + 1) (0 + 96) [.ref a, .ref tp] I G (fun v I' G' => v = none ∧ (Ct a 1 I G I' G' ∧ (Is T G' a 0 ∧ gR G' a 0 = some tp ∧ gR G' a 1 = some (a + 1) ∧ Is T G' (a + 1) 10 ∧ gN G' (a + 1) = 96))) := by
  refine Ok_of (own := RX0) (by decide) rfl (cat1 rfl) (Nat.le_of_ble_eq_true rfl) ?_
  refine Ex_wid (b := (0 + 1, 0 + 96)) ?_ (by omega) (by omega)
  show Ex T RX0 cX0_init 2 (d + 1) _ 0 [some (.ref a), some (.ref tp)] [] I G (0 + 1, 0 + 96)
  refine Ex_aload_n dX0_init_0 rfl ?_
  refine Ex_objInit dX0_init_1 sX0_3 oi_1 oi_2 (Nat.le_of_ble_eq_true rfl) ?_
  refine Ex_aload_n dX0_init_4 rfl ?_
  refine Ex_bipush (v := nI 96) dX0_init_5 (by rfl) ?_
  refine Ex_newI dX0_init_7 ac_int rfl (by decide) hq ?_
  refine Ex_putrF dX0_init_9 fX0_9 rfl rfl (fun _ _ _ _ _ _ _ _ _ _ _ h => h.2.2.2) rfl rfl (ha.al hq) ?_
  refine Ex_aload_n dX0_init_12 rfl ?_
  refine Ex_aload_n dX0_init_13 rfl ?_
  refine Ex_putrF dX0_init_14 fX0_15 rfl rfl (fun _ _ _ _ _ _ _ _ _ _ _ h => h.2.2.2) rfl rfl (ha.al hq).setR ?_
  refine Ex_vret dX0_init_17 ?_
  refine ⟨rfl, ?_, ⟨(ha.al hq).setR.setR, if_pos ⟨rfl, rfl⟩, ?_, (Is.new hq).setR.setR, if_pos rfl⟩⟩
  · exact ⟨rfl, fun x hx => ⟨alG_Kn (by omega), alG_Nn (by omega), (setR_Rn (by omega)).trans ((setR_Rn (by omega)).trans (alG_Rn (by omega))), zI_n (by omega)⟩⟩
  · show (if a = a ∧ 1 = 0 then _ else _) = _
    rw [if_neg (by omega)]
    exact if_pos ⟨rfl, rfl⟩
set_option maxRecDepth 100000 in
set_option maxHeartbeats 4000000 in
theorem cX4_ini {T : TC} {I : MI} {G : MG} (d : Nat) {a : Nat} (ha : Is T G a 4) (hq : n0 T + gS G = a + 1) : Ok T mX4_init (d + 2) (4) (44) [.ref a] I G (fun v I' G' => v = none ∧ (Ct a 4 I G I' G' ∧ (Is T G' a 4 ∧ gR G' a 1 = some (a + 1) ∧ SfS T G' (a + 1) ∧ gR G' a 2 = some (a + 3) ∧ ShS T G' (a + 3) ∧ I' a 0 = 0))) := by
  refine Ok_of (own := RX4) (by decide) rfl (cat1 rfl) (Nat.le_of_ble_eq_true rfl) ?_
  refine Ex_wid (b := (4, 44)) ?_ (by omega) (by omega)
  show Ex T RX4 cX4_init 1 (d + 2) _ 0 [some (.ref a)] [] I G (4, 44)
  refine Ex_aload_n dX4_init_0 rfl ?_
  refine Ex_objInit dX4_init_1 sX4_3 oi_1 oi_2 (Nat.le_of_ble_eq_true rfl) ?_
  refine Ex_aload_n dX4_init_4 rfl ?_
  refine Ex_iconst (v := nI 0) dX4_init_5 (by rfl) ?_
  refine Ex_puti dX4_init_6 fX4_9 rfl rfl rfl ha ?_
  refine Ex_aload_n dX4_init_9 rfl ?_
  refine Ex_wid (b := (3 + 1, 39 + fN 5)) ?_ (by decide) (by decide)
  refine Ex_new dX4_init_10 (by decide) lX4_15 i_5.1 i_5.2 hq ?_
  refine Ex_dup dX4_init_13 rfl ?_
  refine Ex_wid (b := (2 + (0 + 1), 27 + (0 + 12))) ?_ (by decide) (by decide)
  refine Ex_J0 (a := a + 1) (mc := (0 + 1)) (ms := (0 + 12)) (b1 := 2) (b2 := 27) dX4_init_14 sX4_17 (Nat.le_of_ble_eq_true rfl) (cX5_ini d (a := a + 1) (Is.new hq) (by rw [alG_S]; omega)) ?_
  rintro J1 K1 ⟨c1, s1⟩
  obtain ⟨x1, q1, m1⟩ := c1.nw hq
  refine Ex_putrF dX4_init_17 fX4_18 rfl rfl (fun _ _ _ _ _ _ _ _ _ _ _ h => h.2.2.2) rfl rfl (ha.gx (x1 0 0)) ?_
  refine Ex_aload_n dX4_init_20 rfl ?_
  refine Ex_wid (b := (1 + 1, 24 + fN 3)) ?_ (by decide) (by decide)
  refine Ex_new dX4_init_21 (by decide) lX4_22 i_3.1 i_3.2 (show n0 T + gS (setR K1 a 1 (some (a + 1))) = a + 3 from q1) ?_
  refine Ex_dup dX4_init_24 rfl ?_
  refine Ex_wid (b := (0 + (0 + 1), 0 + (0 + 24))) ?_ (by decide) (by decide)
  refine Ex_J0 (a := a + 3) (mc := (0 + 1)) (ms := (0 + 24)) (b1 := 0) (b2 := 0) dX4_init_25 sX4_24 (Nat.le_of_ble_eq_true rfl) (cX3_ini d (a := a + 3) (Is.new (show n0 T + gS (setR K1 a 1 (some (a + 1))) = a + 3 from q1)) (by rw [alG_S]; show n0 T + (gS K1 + 1) = _; omega)) ?_
  rintro J2 K2 ⟨c2, s2, -⟩
  obtain ⟨x2, q2, m2⟩ := c2.nw (T := T) (show n0 T + gS (setR K1 a 1 (some (a + 1))) = a + 3 from q1)
  refine Ex_putrF dX4_init_28 fX4_25 rfl rfl (fun _ _ _ _ _ _ _ _ _ _ _ h => h.2.2.2) rfl rfl ((ha.gx (x1 0 0)).setR.gx (x2 0 0)) ?_
  refine Ex_vret dX4_init_31 ?_
  have y1 : Gx T a 1 K1 (setR K1 a 1 (some (a + 1))) := Gx.setX Gx.refl
  have y2 : Gx T a 2 K2 (setR K2 a 2 (some (a + 3))) := Gx.setX Gx.refl
  have ha1 : Is T (setR K1 a 1 (some (a + 1))) a 4 := (ha.gx (x1 0 0)).setR
  refine ⟨rfl, ⟨?_, fun x hx => ?_⟩, (ha1.gx (x2 0 0)).gx y2, ?_, ((s1.gx y1 (by omega)).gx (x2 0 0) (by omega)).gx y2 (by omega), if_pos ⟨rfl, rfl⟩, s2.gx y2 (by omega), ?_⟩
  · show gS K2 = _; omega
  · obtain ⟨e1, e2, e3⟩ := (x1 0 0).2 x (by omega)
    obtain ⟨e4, e5, e6⟩ := (x2 0 0).2 x (by show x < n0 T + gS K1; omega)
    refine ⟨e4.trans e1, e5.trans e2, ?_, ?_⟩
    · funext y
      obtain ⟨-, -, f3⟩ := (x1 (x + 1) 0).2 x (by omega)
      obtain ⟨-, -, f6⟩ := (x2 (x + 1) 0).2 x (by show x < n0 T + gS K1; omega)
      rw [setR_Rn (by omega), f6 y (by omega), setR_Rn (by omega), f3 y (by omega)]
    · rw [m2 x (by omega), m1 x (by omega), setI_a (by omega)]
  · refine gR_gj (ha1.gx (x2 0 0)) y2 (by omega) (gR_gj ha1 (x2 (a + 1) 0) (by omega) (if_pos ⟨rfl, rfl⟩))
  · rw [m2 a (by omega), m1 a (by omega), setI_s]; rfl
def hv0 : Nat → Int32 := fun y => if y = 2 then nI 20 else if y = 3 then nI 10 else if y = 7 then nI 1 else 0
def HP (T : TC) (I0 : MI) (G0 : MG) (a X k : Nat) (J : MI) (H : MG) : Prop := n0 T + gS H = a + 3 + 2 * k ∧ Is T H a 1 ∧ (gR H a 0 = some (a + 1) ∧ Is T H (a + 1) 14 ∧ gN H (a + 1) = 8) ∧ (gR H a 10 = some (a + 2) ∧ Is T H (a + 2) 10 ∧ gN H (a + 2) = 3) ∧ (gR H a 8 = some X ∧ Is T H X 17 ∧ gN H X = 14) ∧ (∀ j, j < k → gR H (a + 1) j = some (a + 3 + 2 * j) ∧ SfS T H (a + 3 + 2 * j)) ∧ (∀ x, x < a → gK H x = gK G0 x ∧ gN H x = gN G0 x ∧ gR H x = gR G0 x ∧ J x = I0 x) ∧ J a = hv0 ∧ ∀ y, y < 3 → J (a + 2) y = (-1)
theorem HP.s {T : TC} {I0 J J1 : MI} {G0 H H1 : MG} {a X k : Nat} (h : HP T I0 G0 a X k J H) (hX : X < a) (hx : ∀ Y t, Gx T Y t H H1) (hq : n0 T + gS H1 = a + 3 + 2 * k + 1 + 1) (hm : ∀ x, x < a + 3 + 2 * k → J1 x = J x) (hs : SfS T H1 (a + 3 + 2 * k)) : HP T I0 G0 a X (k + 1) J1 (setR H1 (a + 1) k (some (a + 3 + 2 * k))) := by
  obtain ⟨h1, h2, ⟨h3, h4, h5⟩, ⟨h6, h7, h8⟩, ⟨h9, h10, h11⟩, h12, h13, h14, h15⟩ := h
  have y1 : Gx T (a + 1) k H (setR H1 (a + 1) k (some (a + 3 + 2 * k))) := (hx (a + 1) k).setX
  have y2 : Gx T (a + 1) k H1 (setR H1 (a + 1) k (some (a + 3 + 2 * k))) := Gx.setX Gx.refl
  refine ⟨by show n0 T + gS H1 = _; omega, h2.gx y1, ⟨gR_gx h2 y1 (by omega) h3, h4.gx y1, gN_gx h4 y1 h5⟩, ⟨gR_gx h2 y1 (by omega) h6, h7.gx y1, gN_gx h7 y1 h8⟩, ⟨gR_gx h2 y1 (by omega) h9, h10.gx y1, gN_gx h10 y1 h11⟩, fun j hj => ?_, fun x hx2 => ?_, by rw [hm a (by omega)]; exact h14, fun y hy => by rw [hm _ (by omega)]; exact h15 y hy⟩
  · by_cases e : j = k
    · subst e
      exact ⟨if_pos ⟨rfl, rfl⟩, hs.gx y2 (by omega)⟩
    · obtain ⟨p1, p2⟩ := h12 j (by omega)
      exact ⟨gR_gj h4 y1 (Or.inr e) p1, p2.gx y1 (by omega)⟩
  · obtain ⟨e1, e2, e3, e4⟩ := h13 x hx2
    obtain ⟨f1, f2, f3⟩ := (hx (x + 1) 0).2 x (by omega)
    exact ⟨f1.trans e1, f2.trans e2, by rw [setR_Rn (by omega), ← e3]; funext y; exact f3 y (by omega), (hm x (by omega)).trans e4⟩
set_option maxRecDepth 100000 in
set_option maxHeartbeats 4000000 in
theorem l1_ini {T : TC} {I0 : MI} {G0 : MG} (d : Nat) {a X : Nat} (hX : X < a) : ∀ i k (J : MI) (H : MG), k + i = 8 → HP T I0 G0 a X k J H → Ex T RX1 cX1_init 3 (d + 2) (fm T "<init>" none (fun v I' G' => v = none ∧ HP T I0 G0 a X 8 I' G')) 56 [some (.ref a), some (.ref X), some (.int (nI k))] [] J H (2 * i, 17 * i) := by
  intro i
  induction i with
  | zero =>
    intro k J H h0 hP
    have e : k = 8 := h0
    subst e
    refine Ex_iload_n dX1_init_56 rfl ?_
    refine Ex_bipush (v := nI 8) dX1_init_57 (by rfl) ?_
    refine Ex_icmp_geN (by omega) (by omega) (tgt := 81) dX1_init_59 (by decide) (fun h59 => ?_) (fun h59 => ?_)
    · refine Ex_vret dX1_init_81 ?_
      exact ⟨rfl, hP⟩
    · omega
  | succ i ih =>
    intro k J H h0 hP
    have hq0 := hP.1
    refine Ex_iload_n dX1_init_56 rfl ?_
    refine Ex_bipush (v := nI 8) dX1_init_57 (by rfl) ?_
    refine Ex_icmp_geN (by omega) (by omega) (tgt := 81) dX1_init_59 (by decide) (fun h59 => ?_) (fun h59 => ?_)
    · omega
    · refine Ex_aload_n dX1_init_62 rfl ?_
      refine Ex_getr dX1_init_63 fX1_11 hP.2.1 hP.2.2.1.1 ?_
      refine Ex_iload_n dX1_init_66 rfl ?_
      refine Ex_wid (b := (2 * i + (0 + 1) + 1, 17 * i + (0 + 12) + fN 5)) ?_ (by show 2 * i + (0 + 1) + 1 ≤ _; omega) (by show 17 * i + (0 + 12) + 5 ≤ _; omega)
      refine Ex_new dX1_init_67 (by decide) lX1_9 i_5.1 i_5.2 hq0 ?_
      refine Ex_dup dX1_init_70 rfl ?_
      refine Ex_J0 (a := a + 3 + 2 * k) (mc := 0 + 1) (ms := 0 + 12) (b1 := 2 * i) (b2 := 17 * i) dX1_init_71 sX1_35 (Nat.le_of_ble_eq_true rfl) (cX5_ini d (a := a + 3 + 2 * k) (Is.new hq0) (by rw [alG_S]; omega)) ?_
      rintro J1 K1 ⟨c1, s1⟩
      obtain ⟨x1, q1, m1⟩ := c1.nw hq0
      refine Ex_aastSu dX1_init_74 (hP.2.2.1.2.1.gx (x1 0 0)) s1.1 rfl (by rw [gN_gx hP.2.2.1.2.1 (x1 0 0) hP.2.2.1.2.2]; omega) (by rw [gN_gx hP.2.2.1.2.1 (x1 0 0) hP.2.2.1.2.2]; decide) ?_
      first | refine Ex_iincN (m := 1) dX1_init_75 rfl rfl (by decide) rfl ?_ | refine Ex_iinc dX1_init_75 rfl rfl (by decide) rfl ?_
      simp only [List.set_cons_zero, List.set_cons_succ]
      refine Ex_goto (tgt := 56) dX1_init_78 (by decide) ?_
      exact ih (k + 1) J1 _ (by omega) (hP.s hX x1 q1 m1 s1)
set_option maxRecDepth 100000 in
set_option maxHeartbeats 4000000 in
theorem cX1_ini {T : TC} {I : MI} {G : MG} (d : Nat) {a X : Nat} (ha : Is T G a 1) (hq : n0 T + gS G = a + 1) (hX : X < a) (hXI : Is T G X 17) (hXN : gN G X = 14) (h0 : ∀ y, I a y = 0) : Ok T mX1_init (d + 2) (18) (147) [.ref a, .ref X] I G (fun v I' G' => v = none ∧ HP T I G a X 8 I' G') := by
  refine Ok_of (own := RX1) (by decide) rfl (cat1 rfl) (Nat.le_of_ble_eq_true rfl) ?_
  refine Ex_wid (b := (18, 147)) ?_ (by omega) (by omega)
  show Ex T RX1 cX1_init 3 (d + 2) _ 0 [some (.ref a), some (.ref X), none] [] I G (18, 147)
  refine Ex_aload_n dX1_init_0 rfl ?_
  refine Ex_objInit dX1_init_1 sX1_3 oi_1 oi_2 (Nat.le_of_ble_eq_true rfl) ?_
  refine Ex_aload_n dX1_init_4 rfl ?_
  refine Ex_bipush (v := nI 8) dX1_init_5 (by rfl) ?_
  refine Ex_wid (b := (17 + 1, 139 + 8)) ?_ (by decide) (by decide)
  refine Ex_anewSu dX1_init_7 lX1_9 rfl (by decide) hq ?_
  refine Ex_putrF dX1_init_10 fX1_11 rfl rfl (fun _ _ _ _ _ _ _ _ _ _ _ h => h.2.2.2) rfl rfl (ha.al hq) ?_
  refine Ex_aload_n dX1_init_13 rfl ?_
  refine Ex_bipush (v := nI 20) dX1_init_14 (by rfl) ?_
  refine Ex_puti dX1_init_16 fX1_17 rfl rfl rfl (ha.al hq).setR ?_
  refine Ex_aload_n dX1_init_19 rfl ?_
  refine Ex_bipush (v := nI 10) dX1_init_20 (by rfl) ?_
  refine Ex_puti dX1_init_22 fX1_21 rfl rfl rfl (ha.al hq).setR ?_
  refine Ex_aload_n dX1_init_25 rfl ?_
  refine Ex_iconst (v := nI 1) dX1_init_26 (by rfl) ?_
  refine Ex_puti dX1_init_27 fX1_24 rfl rfl rfl (ha.al hq).setR ?_
  refine Ex_aload_n dX1_init_30 rfl ?_
  refine Ex_iconst (v := nI 3) dX1_init_31 (by rfl) ?_
  refine Ex_wid (b := (16 + 1, 136 + 3)) ?_ (by decide) (by decide)
  refine Ex_newI dX1_init_32 ac_int rfl (by decide) (show n0 T + gS (setR (alG G (a + 1) 14 8) a 0 (some (a + 1))) = a + 2 by show n0 T + (gS G + 1) = _; omega) ?_
  refine Ex_dup dX1_init_34 rfl ?_
  refine Ex_iconst (v := nI 0) dX1_init_35 (by rfl) ?_
  refine Ex_iconst (v := (-1)) dX1_init_36 (by rfl) ?_
  refine Ex_iast dX1_init_37 ((Is.new (T := T) (G := setR (alG G (a + 1) 14 8) a 0 (some (a + 1))) (q := a + 2) (k := 10) (n := 3) (by show n0 T + (gS G + 1) = _; omega))) rfl (show _ < (if a + 2 = a + 2 then 3 else _) by rw [if_pos rfl]; decide) (show (if a + 2 = a + 2 then 3 else _) < 2 ^ 31 by rw [if_pos rfl]; decide) ?_
  refine Ex_dup dX1_init_38 rfl ?_
  refine Ex_iconst (v := nI 1) dX1_init_39 (by rfl) ?_
  refine Ex_iconst (v := (-1)) dX1_init_40 (by rfl) ?_
  refine Ex_iast dX1_init_41 ((Is.new (T := T) (G := setR (alG G (a + 1) 14 8) a 0 (some (a + 1))) (q := a + 2) (k := 10) (n := 3) (by show n0 T + (gS G + 1) = _; omega))) rfl (show _ < (if a + 2 = a + 2 then 3 else _) by rw [if_pos rfl]; decide) (show (if a + 2 = a + 2 then 3 else _) < 2 ^ 31 by rw [if_pos rfl]; decide) ?_
  refine Ex_dup dX1_init_42 rfl ?_
  refine Ex_iconst (v := nI 2) dX1_init_43 (by rfl) ?_
  refine Ex_iconst (v := (-1)) dX1_init_44 (by rfl) ?_
  refine Ex_iast dX1_init_45 ((Is.new (T := T) (G := setR (alG G (a + 1) 14 8) a 0 (some (a + 1))) (q := a + 2) (k := 10) (n := 3) (by show n0 T + (gS G + 1) = _; omega))) rfl (show _ < (if a + 2 = a + 2 then 3 else _) by rw [if_pos rfl]; decide) (show (if a + 2 = a + 2 then 3 else _) < 2 ^ 31 by rw [if_pos rfl]; decide) ?_
  refine Ex_putrF dX1_init_46 fX1_27 rfl rfl (fun _ _ _ _ _ _ _ _ _ _ _ h => h.2.2.2) rfl rfl ((ha.al hq).setR.al (G := setR (alG G (a + 1) 14 8) a 0 (some (a + 1))) (q := a + 2) (by show n0 T + (gS G + 1) = _; omega)) ?_
  refine Ex_aload_n dX1_init_49 rfl ?_
  refine Ex_aload_n dX1_init_50 rfl ?_
  refine Ex_putrF dX1_init_51 fX1_31 rfl rfl (fun _ _ _ _ _ _ _ _ _ _ _ h => h.2.2.2) rfl rfl ((ha.al hq).setR.al (G := setR (alG G (a + 1) 14 8) a 0 (some (a + 1))) (q := a + 2) (by show n0 T + (gS G + 1) = _; omega)).setR ?_
  refine Ex_iconst (v := nI 0) dX1_init_54 (by rfl) ?_
  refine Ex_istore_n dX1_init_55 (by decide) rfl ?_
  simp only [st_n0, st_n1, st_n2, st_n3, List.set_cons_zero, List.set_cons_succ]
  refine Ex_wid (b := (2 * 8, 17 * 8)) ?_ (by decide) (by decide)
  refine l1_ini (I0 := I) (G0 := G) d hX 8 0 _ _ rfl ?_
  refine ⟨?_, ?_, ⟨?_, ?_, ?_⟩, ⟨?_, ?_, ?_⟩, ⟨?_, ?_, ?_⟩, fun j hj => absurd hj (Nat.not_lt_zero j), fun x hx => ?_, ?_, ?_⟩
  · show n0 T + (gS G + 1 + 1) = _; omega
  · exact (Is.al (G := setR (alG G (a + 1) 14 8) a 0 (some (a + 1))) (q := a + 2) (by show n0 T + (gS G + 1) = _; omega) (ha.al hq).setR).setR.setR
  · show (if a = a ∧ 0 = 8 then _ else if a = a ∧ 0 = 10 then _ else if a = a + 2 then _ else if a = a ∧ 0 = 0 then _ else _) = _
    rw [if_neg (by omega), if_neg (by omega), if_neg (by omega), if_pos ⟨rfl, rfl⟩]
  · exact (Is.al (G := setR (alG G (a + 1) 14 8) a 0 (some (a + 1))) (q := a + 2) (by show n0 T + (gS G + 1) = _; omega) (Is.new hq).setR).setR.setR
  · show (if a + 1 = a + 2 then _ else if a + 1 = a + 1 then _ else _) = _
    rw [if_neg (by omega), if_pos rfl]
  · show (if a = a ∧ 10 = 8 then _ else if a = a ∧ 10 = 10 then _ else _) = _
    rw [if_neg (by omega), if_pos ⟨rfl, rfl⟩]
  · exact (Is.new (by show n0 T + (gS G + 1) = _; omega)).setR.setR
  · exact if_pos rfl
  · exact if_pos ⟨rfl, rfl⟩
  · exact (Is.al (G := setR (alG G (a + 1) 14 8) a 0 (some (a + 1))) (q := a + 2) (by show n0 T + (gS G + 1) = _; omega) (hXI.al hq).setR).setR.setR
  · show (if X = a + 2 then _ else if X = a + 1 then _ else gN G X) = _
    rw [if_neg (by omega), if_neg (by omega)]; exact hXN
  · refine ⟨?_, ?_, ?_, ?_⟩
    · show (if x = a + 2 then _ else if x = a + 1 then _ else gK G x) = _
      rw [if_neg (by omega), if_neg (by omega)]
    · show (if x = a + 2 then _ else if x = a + 1 then _ else gN G x) = _
      rw [if_neg (by omega), if_neg (by omega)]
    · rw [setR_Rn (by omega), setR_Rn (by omega), alG_Rn (by omega), setR_Rn (by omega), alG_Rn (by omega)]
    · rw [setI_a (by omega), setI_a (by omega), setI_a (by omega), zI_n (by omega), setI_a (by omega), setI_a (by omega), setI_a (by omega), zI_n (by omega)]
  · rw [setI_a (by omega), setI_a (by omega), setI_a (by omega), zI_n (by omega)]
    funext y
    show (if a = a ∧ y = 7 then nI 1 else if a = a ∧ y = 3 then nI 10 else if a = a ∧ y = 2 then nI 20 else zI I (a + 1) a y) = hv0 y
    rw [zI_n (by omega), h0 y]
    unfold hv0
    by_cases e2 : y = 2
    · subst e2; simp
    · by_cases e3 : y = 3
      · subst e3; simp
      · by_cases e7 : y = 7
        · subst e7; simp
        · rw [if_neg (fun q => e7 q.2), if_neg (fun q => e3 q.2), if_neg (fun q => e2 q.2), if_neg e2, if_neg e3, if_neg e7]
  · intro y hy
    rcases (show y = 0 ∨ y = 1 ∨ y = 2 by omega) with rfl | rfl | rfl
    · rw [setI_n (by omega), setI_n (by omega), setI_s]
    · rw [setI_n (by omega), setI_s]
    · rw [setI_s]
