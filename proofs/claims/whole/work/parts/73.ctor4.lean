/-! the class: its constructor, walked -/
section DES
variable {T : TC} {I J : MI} {G H : MG} {D n k ksh ksl : Nat}
theorem DE.sh (h : DE T I G D n k ksl J H) (hk : k < 4) (h1 : gR H (D + 81) k = some (D + 82 + 2 * k)) (h2 : ShB T H J (D + 82 + 2 * k)) : DE T I G D n (k + 1) ksl J H := by
  obtain ⟨⟨a0, a00, a01, a1⟩, a2, a3, a4, a5, a6, a7, a8, a9, a10⟩ := h
  refine ⟨⟨a0, by omega, a01, a1⟩, a2, a3, a4, a5, a6, a7, fun hn => ⟨(a8 hn).1, (a8 hn).2.1, fun j hj => ?_⟩, a9, a10⟩
  by_cases e : j = k
  · subst e; exact ⟨h1, h2⟩
  · exact (a8 hn).2.2 j (by omega)
theorem DE.sl (h : DE T I G D n ksh k J H) (h1 : gR H (D + 90) k = some (D + 91 + 5 * k)) (h2 : SlB T H J (D + 91 + 5 * k)) : DE T I G D n ksh (k + 1) J H := by
  obtain ⟨a1, a2, a3, a4, a5, a6, a7, a8, a9, a10⟩ := h
  refine ⟨a1, a2, a3, a4, a5, a6, a7, a8, fun hn => ⟨(a9 hn).1, (a9 hn).2.1, fun j hj => ?_⟩, a10⟩
  by_cases e : j = k
  · subst e; exact ⟨h1, h2⟩
  · exact (a9 hn).2.2 j (by omega)
theorem DE.ds (h : DE T I G D 21 4 5 J H) {N : Nat} (hN : D + 117 ≤ N) : DS T H D N := by
  obtain ⟨⟨a0, a00, a01, a1⟩, a2, a3, a4, a5, a6, a7, a8, a9, a10⟩ := h
  have f := fun j q r (he : (j, q, r) ∈ dL) => a2 (j, q, r) he ((show ∀ e ∈ dL, e.2.2 ≤ 21 by decide) _ he)
  obtain ⟨s1, s2, s3⟩ := a8 (by decide)
  obtain ⟨l1, l2, l3⟩ := a9 (by decide)
  refine ⟨⟨a0, hN⟩, ⟨f 0 2 3 (by decide), f 1 21 5 (by decide), f 2 40 7 (by decide), f 4 59 9 (by decide), f 5 61 11 (by decide), f 6 63 13 (by decide), f 7 81 15 (by decide), f 8 90 18 (by decide), f 9 116 21 (by decide)⟩, ⟨(a4 (2, 2) (by decide) (by decide)).1, (a4 (21, 4) (by decide) (by decide)).1, (a4 (40, 6) (by decide) (by decide)).1⟩, (a5 (by decide)).1, a6 (by decide), a7 (by decide), ⟨s1, s2, fun k hk => ⟨(s3 k hk).1, (s3 k hk).2.1⟩⟩, ⟨l1, l2, fun k hk => ?_⟩, (a10 (by decide)).1, (a10 (by decide)).2⟩
  obtain ⟨p1, p2, p3, p4, p5, p6, p7⟩ := l3 k hk
  have e1 : D + 91 + 5 * k + 1 = D + 92 + 5 * k := by omega
  have e3 : D + 91 + 5 * k + 3 = D + 94 + 5 * k := by omega
  rw [e1] at p3 p4
  rw [e3] at p5 p6
  exact ⟨p1, p2, p3, p4, p5, p6⟩
theorem HP.ct {T : TC} {I0 J : MI} {G0 H : MG} {a X : Nat} (h : HP T I0 G0 a X 8 J H) (hq : n0 T + gS G0 = a + 1) : Ct a 18 I0 G0 J H := ⟨by have := h.1; omega, h.2.2.2.2.2.2.1⟩
theorem HP.b {T : TC} {I0 J : MI} {G0 H : MG} {a X : Nat} (h : HP T I0 G0 a X 8 J H) : HlB T H J a X := ⟨⟨h.2.1, h.2.2.1, h.2.2.2.1, h.2.2.2.2.1, h.2.2.2.2.2.1⟩, h.2.2.2.2.2.2.2.1, h.2.2.2.2.2.2.2.2⟩
end DES
set_option maxRecDepth 100000 in
set_option maxHeartbeats 4000000 in
theorem l8_sh {T : TC} {I : MI} {G : MG} {F : FinT} {c0 s0 : Nat} (d : Nat) {D : Nat} (kx : ∀ (J : MI) (H : MG), DE T I G D 15 4 0 J H → n0 T + gS H = D + 90 → Ex T RX8 cX8_init 3 (d + 3) F 117 [some (.ref D), some (.ref (D + 1)), some (.int (nI 4))] [] J H (c0, s0)) : ∀ i k (J : MI) (H : MG), k + i = 4 → DE T I G D 15 k 0 J H → n0 T + gS H = D + 82 + 2 * k → Ex T RX8 cX8_init 3 (d + 3) F 93 [some (.ref D), some (.ref (D + 1)), some (.int (nI k))] [] J H (2 * i + c0, 27 * i + s0) := by
  intro i
  induction i with
  | zero =>
    intro k J H h0 de hq
    have e : k = 4 := h0
    subst e
    refine Ex_wid (b := (c0, s0)) ?_ (by show c0 ≤ _; omega) (by show s0 ≤ _; omega)
    refine Ex_iload_n dX8_init_93 rfl ?_
    refine Ex_iconst (v := nI 4) dX8_init_94 (by rfl) ?_
    refine Ex_icmp_geN (by omega) (by omega) (tgt := 117) dX8_init_95 (by decide) (fun h95 => ?_) (fun h95 => ?_)
    · exact kx J H de hq
    · omega
  | succ i ih =>
    intro k J H h0 de hq
    refine Ex_iload_n dX8_init_93 rfl ?_
    refine Ex_iconst (v := nI 4) dX8_init_94 (by rfl) ?_
    refine Ex_icmp_geN (by omega) (by omega) (tgt := 117) dX8_init_95 (by decide) (fun h95 => ?_) (fun h95 => ?_)
    · omega
    · refine Ex_aload_n dX8_init_98 rfl ?_
      refine Ex_getr dX8_init_99 fX8_51 de.1.1 (de.2.1 (7, 81, 15) (by decide) (by decide)) ?_
      refine Ex_iload_n dX8_init_102 rfl ?_
      refine Ex_wid (b := (2 * i + c0 + (0 + 1) + 1, 27 * i + s0 + (0 + 24) + fN 3)) ?_ (by show 2 * i + c0 + (0 + 1) + 1 ≤ 2 * (i + 1) + c0; omega) (by show 27 * i + s0 + (0 + 24) + 3 ≤ 27 * (i + 1) + s0; omega)
      refine Ex_new dX8_init_103 (by decide) lX8_49 i_3.1 i_3.2 hq ?_
      refine Ex_dup dX8_init_106 rfl ?_
      refine Ex_J0 (a := D + 82 + 2 * k) (mc := (0 + 1)) (ms := (0 + 24)) (b1 := 2 * i + c0) (b2 := 27 * i + s0) dX8_init_107 sX8_55 (Nat.le_of_ble_eq_true rfl) (cX3_ini (d + 1) (a := D + 82 + 2 * k) (Is.new hq) (by rw [alG_S]; omega)) ?_
      rintro J1 K1 ⟨c1, s1⟩
      obtain ⟨x1, q1, m1⟩ := c1.nw hq
      refine Ex_aastSh dX8_init_110 ((de.2.2.2.2.2.2.2.1 (by decide)).1.gx (x1 0 0)) s1.1.1 rfl (by rw [gN_gx (de.2.2.2.2.2.2.2.1 (by decide)).1 (x1 0 0) (de.2.2.2.2.2.2.2.1 (by decide)).2.1]; omega) (by rw [gN_gx (de.2.2.2.2.2.2.2.1 (by decide)).1 (x1 0 0) (de.2.2.2.2.2.2.2.1 (by decide)).2.1]; decide) ?_
      first | refine Ex_iincN (m := 1) dX8_init_111 rfl rfl (by decide) rfl ?_ | refine Ex_iinc dX8_init_111 rfl rfl (by decide) rfl ?_
      simp only [List.set_cons_zero, List.set_cons_succ]
      refine Ex_goto (tgt := 93) dX8_init_114 (by decide) ?_
      have y1 : Gx T (D + 81) k H (setR K1 (D + 81) k (some (D + 82 + 2 * k))) := (x1 (D + 81) k).setX
      have y2 : Gx T (D + 81) k K1 (setR K1 (D + 81) k (some (D + 82 + 2 * k))) := Gx.setX Gx.refl
      have dm := de.mv (J' := J1) y1 (Or.inr (Or.inl ⟨rfl, Nat.le_refl k⟩)) (fun x hx => m1 x (by omega))
      exact ih (k + 1) J1 _ (by omega) (dm.sh (by omega) (if_pos ⟨rfl, rfl⟩) ⟨s1.1.gx y2 (by omega), s1.2.1, s1.2.2.1.trans zI_s, s1.2.2.2⟩) (by show n0 T + gS K1 = _; omega)
set_option maxRecDepth 100000 in
set_option maxHeartbeats 4000000 in
theorem l8_sl {T : TC} {I : MI} {G : MG} {F : FinT} {c0 s0 : Nat} (d : Nat) {D : Nat} (kx : ∀ (J : MI) (H : MG), DE T I G D 18 4 5 J H → n0 T + gS H = D + 116 → Ex T RX8 cX8_init 3 (d + 3) F 151 [some (.ref D), some (.ref (D + 1)), some (.int (nI 5))] [] J H (c0, s0)) : ∀ i k (J : MI) (H : MG), k + i = 5 → DE T I G D 18 4 k J H → n0 T + gS H = D + 91 + 5 * k → Ex T RX8 cX8_init 3 (d + 3) F 127 [some (.ref D), some (.ref (D + 1)), some (.int (nI k))] [] J H (5 * i + c0, 48 * i + s0) := by
  intro i
  induction i with
  | zero =>
    intro k J H h0 de hq
    have e : k = 5 := h0
    subst e
    refine Ex_wid (b := (c0, s0)) ?_ (by show c0 ≤ _; omega) (by show s0 ≤ _; omega)
    refine Ex_iload_n dX8_init_127 rfl ?_
    refine Ex_iconst (v := nI 5) dX8_init_128 (by rfl) ?_
    refine Ex_icmp_geN (by omega) (by omega) (tgt := 151) dX8_init_129 (by decide) (fun h129 => ?_) (fun h129 => ?_)
    · exact kx J H de hq
    · omega
  | succ i ih =>
    intro k J H h0 de hq
    refine Ex_iload_n dX8_init_127 rfl ?_
    refine Ex_iconst (v := nI 5) dX8_init_128 (by rfl) ?_
    refine Ex_icmp_geN (by omega) (by omega) (tgt := 151) dX8_init_129 (by decide) (fun h129 => ?_) (fun h129 => ?_)
    · omega
    · refine Ex_aload_n dX8_init_132 rfl ?_
      refine Ex_getr dX8_init_133 fX8_58 de.1.1 (de.2.1 (8, 90, 18) (by decide) (by decide)) ?_
      refine Ex_iload_n dX8_init_136 rfl ?_
      refine Ex_wid (b := (5 * i + c0 + 4 + 1, 48 * i + s0 + 44 + fN 4)) ?_ (by show 5 * i + c0 + 4 + 1 ≤ 5 * (i + 1) + c0; omega) (by show 48 * i + s0 + 44 + 4 ≤ 48 * (i + 1) + s0; omega)
      refine Ex_new dX8_init_137 (by decide) lX8_56 i_4.1 i_4.2 hq ?_
      refine Ex_dup dX8_init_140 rfl ?_
      refine Ex_J0 (a := D + 91 + 5 * k) (mc := 4) (ms := 44) (b1 := 5 * i + c0) (b2 := 48 * i + s0) dX8_init_141 sX8_62 (Nat.le_of_ble_eq_true rfl) (cX4_ini d (a := D + 91 + 5 * k) (Is.new hq) (by rw [alG_S]; omega)) ?_
      rintro J1 K1 ⟨c1, s1⟩
      obtain ⟨x1, q1, m1⟩ := c1.nw hq
      refine Ex_aastSl dX8_init_144 ((de.2.2.2.2.2.2.2.2.1 (by decide)).1.gx (x1 0 0)) s1.1 rfl (by rw [gN_gx (de.2.2.2.2.2.2.2.2.1 (by decide)).1 (x1 0 0) (de.2.2.2.2.2.2.2.2.1 (by decide)).2.1]; omega) (by rw [gN_gx (de.2.2.2.2.2.2.2.2.1 (by decide)).1 (x1 0 0) (de.2.2.2.2.2.2.2.2.1 (by decide)).2.1]; decide) ?_
      first | refine Ex_iincN (m := 1) dX8_init_145 rfl rfl (by decide) rfl ?_ | refine Ex_iinc dX8_init_145 rfl rfl (by decide) rfl ?_
      simp only [List.set_cons_zero, List.set_cons_succ]
      refine Ex_goto (tgt := 127) dX8_init_148 (by decide) ?_
      have y1 : Gx T (D + 90) k H (setR K1 (D + 90) k (some (D + 91 + 5 * k))) := (x1 (D + 90) k).setX
      have y2 : Gx T (D + 90) k K1 (setR K1 (D + 90) k (some (D + 91 + 5 * k))) := Gx.setX Gx.refl
      have dm := de.mv (J' := J1) y1 (Or.inr (Or.inr ⟨rfl, Nat.le_refl k⟩)) (fun x hx => m1 x (by omega))
      exact ih (k + 1) J1 _ (by omega) (dm.sl (if_pos ⟨rfl, rfl⟩) ⟨s1.1.gx y2, gR_gx s1.1 y2 (by omega) s1.2.1, s1.2.2.1.gx y2 (by omega), gR_gx s1.1 y2 (by omega) s1.2.2.2.1, s1.2.2.2.2.1.gx y2 (by omega), s1.2.2.2.2.2⟩) (by show n0 T + gS K1 = _; omega)
set_option maxRecDepth 100000 in
set_option maxHeartbeats 4000000 in
theorem t8_c {T : TC} {I : MI} {G : MG} (d : Nat) {D : Nat} {J19 : MI} {H19 : MG} (de19 : DE T I G D 19 4 5 J19 H19) (hq19 : n0 T + gS H19 = D + 116) : Ex T RX8 cX8_init 3 (d + 3) (fm T "<init>" none (fun v I' G' => v = none ∧ (DE T I G D 21 4 5 I' G' ∧ n0 T + gS G' = D + 117))) 151 [some (.ref D), some (.ref (D + 1)), some (.int (nI 5))] [] J19 H19 (1, 60) := by
  refine Ex_aload_n dX8_init_151 rfl ?_
  refine Ex_bipush (v := nI 60) dX8_init_152 (by rfl) ?_
  refine Ex_wid (b := (0 + 1, 0 + 60)) ?_ (by decide) (by decide)
  refine Ex_newI dX8_init_154 ac_int rfl (by decide) hq19 ?_
  have dm20 := de19.mv (J' := zI J19 (D + 116)) (Gx.al (T := T) (X := D) (t := 99) (k := 10) (n := 60) hq19) (Or.inl ⟨rfl, by decide⟩) (fun x hx => zI_n (by omega))
  have de20 : DE T I G D 20 4 5 (zI J19 (D + 116)) (alG H19 (D + 116) 10 60) := dm20.next (fun e he z => absurd z ((show ∀ e ∈ dL, e.2.2 ≠ 20 by decide) e he)) (fun z => absurd z (by decide)) (fun e he z => absurd z ((show ∀ e ∈ hL, e.2 ≠ 20 by decide) e he)) (fun z => absurd z (by decide)) (fun z => absurd z (by decide)) (fun z => absurd z (by decide)) (fun z => absurd z (by decide)) (fun z => absurd z (by decide)) (fun _ => ⟨Is.new hq19, if_pos rfl⟩)
  have hq20 : n0 T + gS (alG H19 (D + 116) 10 60) = D + 117 := by rw [alG_S]; omega
  generalize zI J19 (D + 116) = J20 at de20 ⊢
  generalize alG H19 (D + 116) 10 60 = H20 at de20 hq20 ⊢
  clear dm20 de19
  refine Ex_putrF dX8_init_156 fX8_63 rfl rfl (fun _ _ _ _ _ _ _ _ _ _ _ h => h.2.2.2) rfl rfl de20.1.1 ?_
  have dm21 := de20.mv (J' := J20) (Gx.setX (T := T) (X := D) (t := 9) (v := some (D + 116)) (Gx.refl (G := H20))) (Or.inl ⟨rfl, by decide⟩) (fun _ _ => rfl)
  have de21 : DE T I G D 21 4 5 J20 (setR H20 D 9 (some (D + 116))) := dm21.next (fun e he z => by
    have e9 : e = (9, 116, 21) := (show ∀ e ∈ dL, e.2.2 = 21 → e = (9, 116, 21) by decide) e he z
    rw [e9]
    exact if_pos ⟨rfl, rfl⟩) (fun z => absurd z (by decide)) (fun e he z => absurd z ((show ∀ e ∈ hL, e.2 ≠ 21 by decide) e he)) (fun z => absurd z (by decide)) (fun z => absurd z (by decide)) (fun z => absurd z (by decide)) (fun z => absurd z (by decide)) (fun z => absurd z (by decide)) (fun z => absurd z (by decide))
  have hq21 : n0 T + gS (setR H20 D 9 (some (D + 116))) = D + 117 := hq20
  generalize setR H20 D 9 (some (D + 116)) = H21 at de21 hq21 ⊢
  clear dm21 de20
  refine Ex_vret dX8_init_159 ?_
  exact ⟨rfl, de21, hq21⟩
set_option maxRecDepth 100000 in
set_option maxHeartbeats 4000000 in
theorem t8_b {T : TC} {I : MI} {G : MG} (d : Nat) {D : Nat} {J16 : MI} {H16 : MG} (de16 : DE T I G D 16 4 0 J16 H16) (hq16 : n0 T + gS H16 = D + 90) : Ex T RX8 cX8_init 3 (d + 3) (fm T "<init>" none (fun v I' G' => v = none ∧ (DE T I G D 21 4 5 I' G' ∧ n0 T + gS G' = D + 117))) 117 [some (.ref D), some (.ref (D + 1)), some (.int (nI 4))] [] J16 H16 (27, 305) := by
  refine Ex_aload_n dX8_init_117 rfl ?_
  refine Ex_iconst (v := nI 5) dX8_init_118 (by rfl) ?_
  refine Ex_wid (b := (26 + 1, 300 + 5)) ?_ (by decide) (by decide)
  refine Ex_anewSl dX8_init_119 lX8_56 rfl (by decide) hq16 ?_
  have dm17 := de16.mv (J' := zI J16 (D + 90)) (Gx.al (T := T) (X := D) (t := 99) (k := 16) (n := 5) hq16) (Or.inl ⟨rfl, by decide⟩) (fun x hx => zI_n (by omega))
  have de17 : DE T I G D 17 4 0 (zI J16 (D + 90)) (alG H16 (D + 90) 16 5) := dm17.next (fun e he z => absurd z ((show ∀ e ∈ dL, e.2.2 ≠ 17 by decide) e he)) (fun z => absurd z (by decide)) (fun e he z => absurd z ((show ∀ e ∈ hL, e.2 ≠ 17 by decide) e he)) (fun z => absurd z (by decide)) (fun z => absurd z (by decide)) (fun z => absurd z (by decide)) (fun z => absurd z (by decide)) (fun _ => ⟨rfl, Is.new hq16, if_pos rfl⟩) (fun z => absurd z (by decide))
  have hq17 : n0 T + gS (alG H16 (D + 90) 16 5) = D + 91 := by rw [alG_S]; omega
  generalize zI J16 (D + 90) = J17 at de17 ⊢
  generalize alG H16 (D + 90) 16 5 = H17 at de17 hq17 ⊢
  clear dm17 de16
  refine Ex_putrF dX8_init_122 fX8_58 rfl rfl (fun _ _ _ _ _ _ _ _ _ _ _ h => h.2.2.2) rfl rfl de17.1.1 ?_
  have dm18 := de17.mv (J' := J17) (Gx.setX (T := T) (X := D) (t := 8) (v := some (D + 90)) (Gx.refl (G := H17))) (Or.inl ⟨rfl, by decide⟩) (fun _ _ => rfl)
  have de18 : DE T I G D 18 4 0 J17 (setR H17 D 8 (some (D + 90))) := dm18.next (fun e he z => by
    have e9 : e = (8, 90, 18) := (show ∀ e ∈ dL, e.2.2 = 18 → e = (8, 90, 18) by decide) e he z
    rw [e9]
    exact if_pos ⟨rfl, rfl⟩) (fun z => absurd z (by decide)) (fun e he z => absurd z ((show ∀ e ∈ hL, e.2 ≠ 18 by decide) e he)) (fun z => absurd z (by decide)) (fun z => absurd z (by decide)) (fun z => absurd z (by decide)) (fun z => absurd z (by decide)) (fun z => absurd z (by decide)) (fun z => absurd z (by decide))
  have hq18 : n0 T + gS (setR H17 D 8 (some (D + 90))) = D + 91 := hq17
  generalize setR H17 D 8 (some (D + 90)) = H18 at de18 hq18 ⊢
  clear dm18 de17
  refine Ex_iconst (v := nI 0) dX8_init_125 (by rfl) ?_
  refine Ex_istore_n dX8_init_126 (by decide) rfl ?_
  simp only [st_n0, st_n1, st_n2, st_n3, List.set_cons_zero, List.set_cons_succ]
  refine Ex_wid (b := (5 * 5 + 1, 48 * 5 + 60)) ?_ (by decide) (by decide)
  exact l8_sl (c0 := 1) (s0 := 60) d (fun J H de hq => by
    have de2 : DE T I G D 19 4 5 J H := de.next (fun e he z => absurd z ((show ∀ e ∈ dL, e.2.2 ≠ 19 by decide) e he)) (fun z => absurd z (by decide)) (fun e he z => absurd z ((show ∀ e ∈ hL, e.2 ≠ 19 by decide) e he)) (fun z => absurd z (by decide)) (fun z => absurd z (by decide)) (fun z => absurd z (by decide)) (fun z => absurd z (by decide)) (fun z => absurd z (by decide)) (fun z => absurd z (by decide))
    exact t8_c d de2 (by omega)) 5 0 _ _ rfl de18 (by omega)
set_option maxRecDepth 100000 in
set_option maxHeartbeats 4000000 in
theorem cX8_ini {T : TC} {I : MI} {G : MG} (d : Nat) {D : Nat} (ha : Is T G D 8) (hq0 : n0 T + gS G = D + 1) (h0 : ∀ y, I D y = 0) : Ok T mX8_init (d + 3) (116) (1338) [.ref D] I G (fun v I' G' => v = none ∧ (DE T I G D 21 4 5 I' G' ∧ n0 T + gS G' = D + 117)) := by
  refine Ok_of (own := RX8) (by decide) rfl (cat1 rfl) (Nat.le_of_ble_eq_true rfl) ?_
  refine Ex_wid (b := (116, 1338)) ?_ (by omega) (by omega)
  show Ex T RX8 cX8_init 3 (d + 3) _ 0 [some (.ref D), none, none] [] I G (116, 1338)
  refine Ex_aload_n dX8_init_0 rfl ?_
  refine Ex_objInit dX8_init_1 sX8_1 oi_1 oi_2 (Nat.le_of_ble_eq_true rfl) ?_
  have de0 : DE T I G D 0 0 0 I G := ⟨⟨ha, by decide, h0, fun x _ => ⟨rfl, rfl, rfl, rfl⟩⟩, fun e he z => absurd z ((show ∀ e ∈ dL, ¬ e.2.2 ≤ 0 by decide) e he), fun z => absurd z (by decide), fun e he z => absurd z ((show ∀ e ∈ hL, ¬ e.2 ≤ 0 by decide) e he), fun z => absurd z (by decide), fun z => absurd z (by decide), fun z => absurd z (by decide), fun z => absurd z (by decide), fun z => absurd z (by decide), fun z => absurd z (by decide)⟩
  refine Ex_bipush (v := nI 14) dX8_init_4 (by rfl) ?_
  refine Ex_wid (b := (115 + 1, 1324 + 14)) ?_ (by decide) (by decide)
  refine Ex_anewTe dX8_init_6 lX8_9 rfl (by decide) hq0 ?_
  have dm1 := de0.mv (J' := zI I (D + 1)) (Gx.al (T := T) (X := D) (t := 99) (k := 17) (n := 14) hq0) (Or.inl ⟨rfl, by decide⟩) (fun x hx => zI_n (by omega))
  have de1 : DE T I G D 1 0 0 (zI I (D + 1)) (alG G (D + 1) 17 14) := dm1.next (fun e he z => absurd z ((show ∀ e ∈ dL, e.2.2 ≠ 1 by decide) e he)) (fun _ => ⟨Is.new hq0, if_pos rfl⟩) (fun e he z => absurd z ((show ∀ e ∈ hL, e.2 ≠ 1 by decide) e he)) (fun z => absurd z (by decide)) (fun z => absurd z (by decide)) (fun z => absurd z (by decide)) (fun z => absurd z (by decide)) (fun z => absurd z (by decide)) (fun z => absurd z (by decide))
  have hq1 : n0 T + gS (alG G (D + 1) 17 14) = D + 2 := by rw [alG_S]; omega
  generalize zI I (D + 1) = J1 at de1 ⊢
  generalize alG G (D + 1) 17 14 = H1 at de1 hq1 ⊢
  clear dm1 de0
  refine Ex_astore_n dX8_init_9 (by decide) rfl ?_
  simp only [st_n0, st_n1, st_n2, st_n3, List.set_cons_zero, List.set_cons_succ]
  refine Ex_aload_n dX8_init_10 rfl ?_
  refine Ex_wid (b := (114 + 1, 1313 + fN 1)) ?_ (by decide) (by decide)
  refine Ex_new dX8_init_11 (by decide) lX8_11 i_1.1 i_1.2 hq1 ?_
  refine Ex_dup dX8_init_14 rfl ?_
  refine Ex_aload_n dX8_init_15 rfl ?_
  refine Ex_wid (b := (96 + 18, 1166 + 147)) ?_ (by decide) (by decide)
  refine Ex_I1 (a := D + 2) (x1 := .ref (D + 1)) (mc := 18) (ms := 147) (b1 := 96) (b2 := 1166) dX8_init_16 sX8_13 (Nat.le_of_ble_eq_true rfl) (cX1_ini d (a := D + 2) (X := D + 1) (Is.new hq1) (by rw [alG_S]; omega) (by omega) ((de1.2.2.1 (by decide)).1.al hq1) ((alG_Nn (by omega)).trans (de1.2.2.1 (by decide)).2) (fun y => zI_s)) ?_
  rintro J2 H2 s1
  have c1 := s1.ct (by rw [alG_S]; omega)
  obtain ⟨x1, q1, m1⟩ := c1.nw hq1
  have dm2 := de1.mv (J' := J2) (x1 D 99) (Or.inl ⟨rfl, by decide⟩) (fun x hx => m1 x (by omega))
  have de2 : DE T I G D 2 0 0 J2 H2 := dm2.next (fun e he z => absurd z ((show ∀ e ∈ dL, e.2.2 ≠ 2 by decide) e he)) (fun z => absurd z (by decide)) (fun e he z => by
    have e9 : e = (2, 2) := (show ∀ e ∈ hL, e.2 = 2 → e = (2, 2) by decide) e he z
    rw [e9]
    exact s1.b) (fun z => absurd z (by decide)) (fun z => absurd z (by decide)) (fun z => absurd z (by decide)) (fun z => absurd z (by decide)) (fun z => absurd z (by decide)) (fun z => absurd z (by decide))
  have hq2 : n0 T + gS H2 = D + 21 := by omega
  clear dm2 de1 c1 s1 x1 m1 q1
  refine Ex_putrF dX8_init_19 fX8_16 rfl rfl (fun _ _ _ _ _ _ _ _ _ _ _ h => h.2.2.2) rfl rfl de2.1.1 ?_
  have dm3 := de2.mv (J' := J2) (Gx.setX (T := T) (X := D) (t := 0) (v := some (D + 2)) (Gx.refl (G := H2))) (Or.inl ⟨rfl, by decide⟩) (fun _ _ => rfl)
  have de3 : DE T I G D 3 0 0 J2 (setR H2 D 0 (some (D + 2))) := dm3.next (fun e he z => by
    have e9 : e = (0, 2, 3) := (show ∀ e ∈ dL, e.2.2 = 3 → e = (0, 2, 3) by decide) e he z
    rw [e9]
    exact if_pos ⟨rfl, rfl⟩) (fun z => absurd z (by decide)) (fun e he z => absurd z ((show ∀ e ∈ hL, e.2 ≠ 3 by decide) e he)) (fun z => absurd z (by decide)) (fun z => absurd z (by decide)) (fun z => absurd z (by decide)) (fun z => absurd z (by decide)) (fun z => absurd z (by decide)) (fun z => absurd z (by decide))
  have hq3 : n0 T + gS (setR H2 D 0 (some (D + 2))) = D + 21 := hq2
  generalize setR H2 D 0 (some (D + 2)) = H3 at de3 hq3 ⊢
  clear dm3 de2
  refine Ex_aload_n dX8_init_22 rfl ?_
  refine Ex_wid (b := (95 + 1, 1155 + fN 1)) ?_ (by decide) (by decide)
  refine Ex_new dX8_init_23 (by decide) lX8_11 i_1.1 i_1.2 hq3 ?_
  refine Ex_dup dX8_init_26 rfl ?_
  refine Ex_aload_n dX8_init_27 rfl ?_
  refine Ex_wid (b := (77 + 18, 1008 + 147)) ?_ (by decide) (by decide)
  refine Ex_I1 (a := D + 21) (x1 := .ref (D + 1)) (mc := 18) (ms := 147) (b1 := 77) (b2 := 1008) dX8_init_28 sX8_13 (Nat.le_of_ble_eq_true rfl) (cX1_ini d (a := D + 21) (X := D + 1) (Is.new hq3) (by rw [alG_S]; omega) (by omega) ((de3.2.2.1 (by decide)).1.al hq3) ((alG_Nn (by omega)).trans (de3.2.2.1 (by decide)).2) (fun y => zI_s)) ?_
  rintro J4 H4 s1
  have c1 := s1.ct (by rw [alG_S]; omega)
  obtain ⟨x1, q1, m1⟩ := c1.nw hq3
  have dm4 := de3.mv (J' := J4) (x1 D 99) (Or.inl ⟨rfl, by decide⟩) (fun x hx => m1 x (by omega))
  have de4 : DE T I G D 4 0 0 J4 H4 := dm4.next (fun e he z => absurd z ((show ∀ e ∈ dL, e.2.2 ≠ 4 by decide) e he)) (fun z => absurd z (by decide)) (fun e he z => by
    have e9 : e = (21, 4) := (show ∀ e ∈ hL, e.2 = 4 → e = (21, 4) by decide) e he z
    rw [e9]
    exact s1.b) (fun z => absurd z (by decide)) (fun z => absurd z (by decide)) (fun z => absurd z (by decide)) (fun z => absurd z (by decide)) (fun z => absurd z (by decide)) (fun z => absurd z (by decide))
  have hq4 : n0 T + gS H4 = D + 40 := by omega
  clear dm4 de3 c1 s1 x1 m1 q1
  refine Ex_putrF dX8_init_31 fX8_20 rfl rfl (fun _ _ _ _ _ _ _ _ _ _ _ h => h.2.2.2) rfl rfl de4.1.1 ?_
  have dm5 := de4.mv (J' := J4) (Gx.setX (T := T) (X := D) (t := 1) (v := some (D + 21)) (Gx.refl (G := H4))) (Or.inl ⟨rfl, by decide⟩) (fun _ _ => rfl)
  have de5 : DE T I G D 5 0 0 J4 (setR H4 D 1 (some (D + 21))) := dm5.next (fun e he z => by
    have e9 : e = (1, 21, 5) := (show ∀ e ∈ dL, e.2.2 = 5 → e = (1, 21, 5) by decide) e he z
    rw [e9]
    exact if_pos ⟨rfl, rfl⟩) (fun z => absurd z (by decide)) (fun e he z => absurd z ((show ∀ e ∈ hL, e.2 ≠ 5 by decide) e he)) (fun z => absurd z (by decide)) (fun z => absurd z (by decide)) (fun z => absurd z (by decide)) (fun z => absurd z (by decide)) (fun z => absurd z (by decide)) (fun z => absurd z (by decide))
  have hq5 : n0 T + gS (setR H4 D 1 (some (D + 21))) = D + 40 := hq4
  generalize setR H4 D 1 (some (D + 21)) = H5 at de5 hq5 ⊢
  clear dm5 de4
  refine Ex_aload_n dX8_init_34 rfl ?_
  refine Ex_wid (b := (76 + 1, 997 + fN 1)) ?_ (by decide) (by decide)
  refine Ex_new dX8_init_35 (by decide) lX8_11 i_1.1 i_1.2 hq5 ?_
  refine Ex_dup dX8_init_38 rfl ?_
  refine Ex_aload_n dX8_init_39 rfl ?_
  refine Ex_wid (b := (58 + 18, 850 + 147)) ?_ (by decide) (by decide)
  refine Ex_I1 (a := D + 40) (x1 := .ref (D + 1)) (mc := 18) (ms := 147) (b1 := 58) (b2 := 850) dX8_init_40 sX8_13 (Nat.le_of_ble_eq_true rfl) (cX1_ini d (a := D + 40) (X := D + 1) (Is.new hq5) (by rw [alG_S]; omega) (by omega) ((de5.2.2.1 (by decide)).1.al hq5) ((alG_Nn (by omega)).trans (de5.2.2.1 (by decide)).2) (fun y => zI_s)) ?_
  rintro J6 H6 s1
  have c1 := s1.ct (by rw [alG_S]; omega)
  obtain ⟨x1, q1, m1⟩ := c1.nw hq5
  have dm6 := de5.mv (J' := J6) (x1 D 99) (Or.inl ⟨rfl, by decide⟩) (fun x hx => m1 x (by omega))
  have de6 : DE T I G D 6 0 0 J6 H6 := dm6.next (fun e he z => absurd z ((show ∀ e ∈ dL, e.2.2 ≠ 6 by decide) e he)) (fun z => absurd z (by decide)) (fun e he z => by
    have e9 : e = (40, 6) := (show ∀ e ∈ hL, e.2 = 6 → e = (40, 6) by decide) e he z
    rw [e9]
    exact s1.b) (fun z => absurd z (by decide)) (fun z => absurd z (by decide)) (fun z => absurd z (by decide)) (fun z => absurd z (by decide)) (fun z => absurd z (by decide)) (fun z => absurd z (by decide))
  have hq6 : n0 T + gS H6 = D + 59 := by omega
  clear dm6 de5 c1 s1 x1 m1 q1
  refine Ex_putrF dX8_init_43 fX8_23 rfl rfl (fun _ _ _ _ _ _ _ _ _ _ _ h => h.2.2.2) rfl rfl de6.1.1 ?_
  have dm7 := de6.mv (J' := J6) (Gx.setX (T := T) (X := D) (t := 2) (v := some (D + 40)) (Gx.refl (G := H6))) (Or.inl ⟨rfl, by decide⟩) (fun _ _ => rfl)
  have de7 : DE T I G D 7 0 0 J6 (setR H6 D 2 (some (D + 40))) := dm7.next (fun e he z => by
    have e9 : e = (2, 40, 7) := (show ∀ e ∈ dL, e.2.2 = 7 → e = (2, 40, 7) by decide) e he z
    rw [e9]
    exact if_pos ⟨rfl, rfl⟩) (fun z => absurd z (by decide)) (fun e he z => absurd z ((show ∀ e ∈ hL, e.2 ≠ 7 by decide) e he)) (fun z => absurd z (by decide)) (fun z => absurd z (by decide)) (fun z => absurd z (by decide)) (fun z => absurd z (by decide)) (fun z => absurd z (by decide)) (fun z => absurd z (by decide))
  have hq7 : n0 T + gS (setR H6 D 2 (some (D + 40))) = D + 59 := hq6
  generalize setR H6 D 2 (some (D + 40)) = H7 at de7 hq7 ⊢
  clear dm7 de6
  refine Ex_aload_n dX8_init_46 rfl ?_
  refine Ex_wid (b := (57 + 1, 848 + fN 6)) ?_ (by decide) (by decide)
  refine Ex_new dX8_init_47 (by decide) lX8_26 i_6.1 i_6.2 hq7 ?_
  refine Ex_dup dX8_init_50 rfl ?_
  refine Ex_wid (b := (56 + (0 + 1), 752 + (0 + 96))) ?_ (by decide) (by decide)
  refine Ex_J0 (a := D + 59) (mc := (0 + 1)) (ms := (0 + 96)) (b1 := 56) (b2 := 752) dX8_init_51 sX8_28 (Nat.le_of_ble_eq_true rfl) (cX6_ini (d + 1) (a := D + 59) (Is.new hq7) (by rw [alG_S]; omega)) ?_
  rintro J8 H8 hc8
  obtain ⟨c1, s1⟩ := hc8
  obtain ⟨x1, q1, m1⟩ := c1.nw hq7
  have dm8 := de7.mv (J' := J8) (x1 D 99) (Or.inl ⟨rfl, by decide⟩) (fun x hx => m1 x (by omega))
  have de8 : DE T I G D 8 0 0 J8 H8 := dm8.next (fun e he z => absurd z ((show ∀ e ∈ dL, e.2.2 ≠ 8 by decide) e he)) (fun z => absurd z (by decide)) (fun e he z => absurd z ((show ∀ e ∈ hL, e.2 ≠ 8 by decide) e he)) (fun _ => ⟨s1.1, s1.2.trans zI_s⟩) (fun z => absurd z (by decide)) (fun z => absurd z (by decide)) (fun z => absurd z (by decide)) (fun z => absurd z (by decide)) (fun z => absurd z (by decide))
  have hq8 : n0 T + gS H8 = D + 61 := by omega
  clear dm8 de7 c1 s1 x1 m1 q1
  refine Ex_putrF dX8_init_54 fX8_29 rfl rfl (fun _ _ _ _ _ _ _ _ _ _ _ h => h.2.2.2) rfl rfl de8.1.1 ?_
  have dm9 := de8.mv (J' := J8) (Gx.setX (T := T) (X := D) (t := 4) (v := some (D + 59)) (Gx.refl (G := H8))) (Or.inl ⟨rfl, by decide⟩) (fun _ _ => rfl)
  have de9 : DE T I G D 9 0 0 J8 (setR H8 D 4 (some (D + 59))) := dm9.next (fun e he z => by
    have e9 : e = (4, 59, 9) := (show ∀ e ∈ dL, e.2.2 = 9 → e = (4, 59, 9) by decide) e he z
    rw [e9]
    exact if_pos ⟨rfl, rfl⟩) (fun z => absurd z (by decide)) (fun e he z => absurd z ((show ∀ e ∈ hL, e.2 ≠ 9 by decide) e he)) (fun z => absurd z (by decide)) (fun z => absurd z (by decide)) (fun z => absurd z (by decide)) (fun z => absurd z (by decide)) (fun z => absurd z (by decide)) (fun z => absurd z (by decide))
  have hq9 : n0 T + gS (setR H8 D 4 (some (D + 59))) = D + 61 := hq8
  generalize setR H8 D 4 (some (D + 59)) = H9 at de9 hq9 ⊢
  clear dm9 de8
  refine Ex_aload_n dX8_init_57 rfl ?_
  refine Ex_wid (b := (55 + 1, 744 + fN 0)) ?_ (by decide) (by decide)
  refine Ex_new dX8_init_58 (by decide) lX8_33 i_0.1 i_0.2 hq9 ?_
  refine Ex_dup dX8_init_61 rfl ?_
  refine Ex_aload_n dX8_init_62 rfl ?_
  refine Ex_getr dX8_init_63 fX8_29 (de9.1.1.al hq9) ((congrFun (alG_Rn (by omega)) 4).trans (de9.2.1 (4, 59, 9) (by decide) (by decide))) ?_
  refine Ex_wid (b := (54 + (0 + 1), 648 + (0 + 96))) ?_ (by decide) (by decide)
  refine Ex_I1 (a := D + 61) (x1 := .ref (D + 59)) (mc := (0 + 1)) (ms := (0 + 96)) (b1 := 54) (b2 := 648) dX8_init_66 sX8_35 (Nat.le_of_ble_eq_true rfl) (cX0_ini (d + 1) (a := D + 61) (Is.new hq9) (by rw [alG_S]; omega) (D + 59)) ?_
  rintro J10 H10 hc10
  obtain ⟨c1, s1⟩ := hc10
  obtain ⟨x1, q1, m1⟩ := c1.nw hq9
  have dm10 := de9.mv (J' := J10) (x1 D 99) (Or.inl ⟨rfl, by decide⟩) (fun x hx => m1 x (by omega))
  have de10 : DE T I G D 10 0 0 J10 H10 := dm10.next (fun e he z => absurd z ((show ∀ e ∈ dL, e.2.2 ≠ 10 by decide) e he)) (fun z => absurd z (by decide)) (fun e he z => absurd z ((show ∀ e ∈ hL, e.2 ≠ 10 by decide) e he)) (fun z => absurd z (by decide)) (fun _ => s1) (fun z => absurd z (by decide)) (fun z => absurd z (by decide)) (fun z => absurd z (by decide)) (fun z => absurd z (by decide))
  have hq10 : n0 T + gS H10 = D + 63 := by omega
  clear dm10 de9 c1 s1 x1 m1 q1
  refine Ex_putrF dX8_init_69 fX8_38 rfl rfl (fun _ _ _ _ _ _ _ _ _ _ _ h => h.2.2.2) rfl rfl de10.1.1 ?_
  have dm11 := de10.mv (J' := J10) (Gx.setX (T := T) (X := D) (t := 5) (v := some (D + 61)) (Gx.refl (G := H10))) (Or.inl ⟨rfl, by decide⟩) (fun _ _ => rfl)
  have de11 : DE T I G D 11 0 0 J10 (setR H10 D 5 (some (D + 61))) := dm11.next (fun e he z => by
    have e9 : e = (5, 61, 11) := (show ∀ e ∈ dL, e.2.2 = 11 → e = (5, 61, 11) by decide) e he z
    rw [e9]
    exact if_pos ⟨rfl, rfl⟩) (fun z => absurd z (by decide)) (fun e he z => absurd z ((show ∀ e ∈ hL, e.2 ≠ 11 by decide) e he)) (fun z => absurd z (by decide)) (fun z => absurd z (by decide)) (fun z => absurd z (by decide)) (fun z => absurd z (by decide)) (fun z => absurd z (by decide)) (fun z => absurd z (by decide))
  have hq11 : n0 T + gS (setR H10 D 5 (some (D + 61))) = D + 63 := hq10
  generalize setR H10 D 5 (some (D + 61)) = H11 at de11 hq11 ⊢
  clear dm11 de10
  refine Ex_aload_n dX8_init_72 rfl ?_
  refine Ex_wid (b := (53 + 1, 644 + fN 2)) ?_ (by decide) (by decide)
  refine Ex_new dX8_init_73 (by decide) lX8_42 i_2.1 i_2.2 hq11 ?_
  refine Ex_dup dX8_init_76 rfl ?_
  refine Ex_wid (b := (36 + 17, 417 + 227)) ?_ (by decide) (by decide)
  refine Ex_J0 (a := D + 63) (mc := 17) (ms := 227) (b1 := 36) (b2 := 417) dX8_init_77 sX8_44 (Nat.le_of_ble_eq_true rfl) (cX2_ini (d + 1) (a := D + 63) (Is.new hq11) (by rw [alG_S]; omega)) ?_
  rintro J12 H12 hc12
  obtain ⟨c1, s1⟩ := hc12
  obtain ⟨x1, q1, m1⟩ := c1.nw hq11
  have dm12 := de11.mv (J' := J12) (x1 D 99) (Or.inl ⟨rfl, by decide⟩) (fun x hx => m1 x (by omega))
  have de12 : DE T I G D 12 0 0 J12 H12 := dm12.next (fun e he z => absurd z ((show ∀ e ∈ dL, e.2.2 ≠ 12 by decide) e he)) (fun z => absurd z (by decide)) (fun e he z => absurd z ((show ∀ e ∈ hL, e.2 ≠ 12 by decide) e he)) (fun z => absurd z (by decide)) (fun z => absurd z (by decide)) (fun _ => s1) (fun z => absurd z (by decide)) (fun z => absurd z (by decide)) (fun z => absurd z (by decide))
  have hq12 : n0 T + gS H12 = D + 81 := by omega
  clear dm12 de11 c1 s1 x1 m1 q1
  refine Ex_putrF dX8_init_80 fX8_45 rfl rfl (fun _ _ _ _ _ _ _ _ _ _ _ h => h.2.2.2) rfl rfl de12.1.1 ?_
  have dm13 := de12.mv (J' := J12) (Gx.setX (T := T) (X := D) (t := 6) (v := some (D + 63)) (Gx.refl (G := H12))) (Or.inl ⟨rfl, by decide⟩) (fun _ _ => rfl)
  have de13 : DE T I G D 13 0 0 J12 (setR H12 D 6 (some (D + 63))) := dm13.next (fun e he z => by
    have e9 : e = (6, 63, 13) := (show ∀ e ∈ dL, e.2.2 = 13 → e = (6, 63, 13) by decide) e he z
    rw [e9]
    exact if_pos ⟨rfl, rfl⟩) (fun z => absurd z (by decide)) (fun e he z => absurd z ((show ∀ e ∈ hL, e.2 ≠ 13 by decide) e he)) (fun z => absurd z (by decide)) (fun z => absurd z (by decide)) (fun z => absurd z (by decide)) (fun z => absurd z (by decide)) (fun z => absurd z (by decide)) (fun z => absurd z (by decide))
  have hq13 : n0 T + gS (setR H12 D 6 (some (D + 63))) = D + 81 := hq12
  generalize setR H12 D 6 (some (D + 63)) = H13 at de13 hq13 ⊢
  clear dm13 de12
  refine Ex_aload_n dX8_init_83 rfl ?_
  refine Ex_iconst (v := nI 4) dX8_init_84 (by rfl) ?_
  refine Ex_wid (b := (35 + 1, 413 + 4)) ?_ (by decide) (by decide)
  refine Ex_anewSh dX8_init_85 lX8_49 rfl (by decide) hq13 ?_
  have dm14 := de13.mv (J' := zI J12 (D + 81)) (Gx.al (T := T) (X := D) (t := 99) (k := 15) (n := 4) hq13) (Or.inl ⟨rfl, by decide⟩) (fun x hx => zI_n (by omega))
  have de14 : DE T I G D 14 0 0 (zI J12 (D + 81)) (alG H13 (D + 81) 15 4) := dm14.next (fun e he z => absurd z ((show ∀ e ∈ dL, e.2.2 ≠ 14 by decide) e he)) (fun z => absurd z (by decide)) (fun e he z => absurd z ((show ∀ e ∈ hL, e.2 ≠ 14 by decide) e he)) (fun z => absurd z (by decide)) (fun z => absurd z (by decide)) (fun z => absurd z (by decide)) (fun _ => ⟨rfl, Is.new hq13, if_pos rfl⟩) (fun z => absurd z (by decide)) (fun z => absurd z (by decide))
  have hq14 : n0 T + gS (alG H13 (D + 81) 15 4) = D + 82 := by rw [alG_S]; omega
  generalize zI J12 (D + 81) = J14 at de14 ⊢
  generalize alG H13 (D + 81) 15 4 = H14 at de14 hq14 ⊢
  clear dm14 de13
  refine Ex_putrF dX8_init_88 fX8_51 rfl rfl (fun _ _ _ _ _ _ _ _ _ _ _ h => h.2.2.2) rfl rfl de14.1.1 ?_
  have dm15 := de14.mv (J' := J14) (Gx.setX (T := T) (X := D) (t := 7) (v := some (D + 81)) (Gx.refl (G := H14))) (Or.inl ⟨rfl, by decide⟩) (fun _ _ => rfl)
  have de15 : DE T I G D 15 0 0 J14 (setR H14 D 7 (some (D + 81))) := dm15.next (fun e he z => by
    have e9 : e = (7, 81, 15) := (show ∀ e ∈ dL, e.2.2 = 15 → e = (7, 81, 15) by decide) e he z
    rw [e9]
    exact if_pos ⟨rfl, rfl⟩) (fun z => absurd z (by decide)) (fun e he z => absurd z ((show ∀ e ∈ hL, e.2 ≠ 15 by decide) e he)) (fun z => absurd z (by decide)) (fun z => absurd z (by decide)) (fun z => absurd z (by decide)) (fun z => absurd z (by decide)) (fun z => absurd z (by decide)) (fun z => absurd z (by decide))
  have hq15 : n0 T + gS (setR H14 D 7 (some (D + 81))) = D + 82 := hq14
  generalize setR H14 D 7 (some (D + 81)) = H15 at de15 hq15 ⊢
  clear dm15 de14
  refine Ex_iconst (v := nI 0) dX8_init_91 (by rfl) ?_
  refine Ex_istore_n dX8_init_92 (by decide) rfl ?_
  simp only [st_n0, st_n1, st_n2, st_n3, List.set_cons_zero, List.set_cons_succ]
  refine Ex_wid (b := (2 * 4 + 27, 27 * 4 + 305)) ?_ (by decide) (by decide)
  exact l8_sh (c0 := 27) (s0 := 305) d (fun J H de hq => by
    have de2 : DE T I G D 16 4 0 J H := de.next (fun e he z => absurd z ((show ∀ e ∈ dL, e.2.2 ≠ 16 by decide) e he)) (fun z => absurd z (by decide)) (fun e he z => absurd z ((show ∀ e ∈ hL, e.2 ≠ 16 by decide) e he)) (fun z => absurd z (by decide)) (fun z => absurd z (by decide)) (fun z => absurd z (by decide)) (fun z => absurd z (by decide)) (fun z => absurd z (by decide)) (fun z => absurd z (by decide))
    exact t8_b d de2 (by omega)) 4 0 _ _ rfl de15 (by omega)
