/-! the class: readings' constructor -/
theorem mn_is {T : TC} {G : MG} {q a k : Nat} (hq : n0 T + gS G = q) (h : Is T G a k) : Is T (mnG G q) a k := ⟨(mnG_K (by have := h.2.2; omega)).trans h.1, h.2.1, by have := h.2.2; show a < n0 T + (gS G + 14); omega⟩
set_option maxRecDepth 100000 in
set_option maxHeartbeats 4000000 in
theorem cX2_ini {T : TC} {I : MI} {G : MG} (d : Nat) {a : Nat} (ha : Is T G a 2) (hq : n0 T + gS G = a + 1) : Ok T mX2_init (d + 1) (17) (227) [.ref a] I G (fun v I' G' => v = none ∧ (Ct a 17 I G I' G' ∧ RdS T G' a)) := by
  refine Ok_of (own := RX2) (by decide) rfl (cat1 rfl) (Nat.le_of_ble_eq_true rfl) ?_
  refine Ex_wid (b := (17, 227)) ?_ (by omega) (by omega)
  show Ex T RX2 cX2_init 1 (d + 1) _ 0 [some (.ref a)] [] I G (17, 227)
  refine Ex_aload_n dX2_init_0 rfl ?_
  refine Ex_objInit dX2_init_1 sX2_3 oi_1 oi_2 (Nat.le_of_ble_eq_true rfl) ?_
  have q1 : n0 T + gS (setR (mnG G (a + 1)) a 0 (some (a + 1))) = a + 15 := by show n0 T + (gS G + 14) = _; omega
  have q2 : n0 T + gS (setR (alG (setR (mnG G (a + 1)) a 0 (some (a + 1))) (a + 15) 10 12) a 1 (some (a + 15))) = a + 16 := by show n0 T + (gS (setR (mnG G (a + 1)) a 0 (some (a + 1))) + 1) = _; omega
  have q3 : n0 T + gS (setR (alG (setR (alG (setR (mnG G (a + 1)) a 0 (some (a + 1))) (a + 15) 10 12) a 1 (some (a + 15))) (a + 16) 10 25) a 2 (some (a + 16))) = a + 17 := by show n0 T + (gS (setR (alG (setR (mnG G (a + 1)) a 0 (some (a + 1))) (a + 15) 10 12) a 1 (some (a + 15))) + 1) = _; omega
  have i0 : Is T (setR (mnG G (a + 1)) a 0 (some (a + 1))) a 2 := (mn_is hq ha).setR
  have x1 : Gx T a 1 (setR (mnG G (a + 1)) a 0 (some (a + 1))) (setR (alG (setR (mnG G (a + 1)) a 0 (some (a + 1))) (a + 15) 10 12) a 1 (some (a + 15))) := (Gx.al q1).setX
  have x2 : Gx T a 2 (setR (alG (setR (mnG G (a + 1)) a 0 (some (a + 1))) (a + 15) 10 12) a 1 (some (a + 15))) (setR (alG (setR (alG (setR (mnG G (a + 1)) a 0 (some (a + 1))) (a + 15) 10 12) a 1 (some (a + 15))) (a + 16) 10 25) a 2 (some (a + 16))) := (Gx.al q2).setX
  have x3 : Gx T a 3 (setR (alG (setR (alG (setR (mnG G (a + 1)) a 0 (some (a + 1))) (a + 15) 10 12) a 1 (some (a + 15))) (a + 16) 10 25) a 2 (some (a + 16))) (setR (alG (setR (alG (setR (alG (setR (mnG G (a + 1)) a 0 (some (a + 1))) (a + 15) 10 12) a 1 (some (a + 15))) (a + 16) 10 25) a 2 (some (a + 16))) (a + 17) 10 8) a 3 (some (a + 17))) := (Gx.al q3).setX
  have i1 := i0.gx x1
  have i2 := i1.gx x2
  refine Ex_aload_n dX2_init_4 rfl ?_
  refine Ex_bipush (v := nI 13) dX2_init_5 (by rfl) ?_
  refine Ex_bipush (v := nI 13) dX2_init_7 (by rfl) ?_
  refine Ex_wid (b := (3 + 14, 45 + 182)) ?_ (by decide) (by decide)
  refine Ex_mna dX2_init_9 hq ?_
  refine Ex_putrF dX2_init_13 fX2_11 rfl rfl (fun _ _ _ _ _ _ _ _ _ _ _ h => h.2.2.2) rfl rfl (mn_is hq ha) ?_
  refine Ex_aload_n dX2_init_16 rfl ?_
  refine Ex_bipush (v := nI 12) dX2_init_17 (by rfl) ?_
  refine Ex_wid (b := (2 + 1, 33 + 12)) ?_ (by decide) (by decide)
  refine Ex_newI dX2_init_19 ac_int rfl (by decide) q1 ?_
  refine Ex_putrF dX2_init_21 fX2_16 rfl rfl (fun _ _ _ _ _ _ _ _ _ _ _ h => h.2.2.2) rfl rfl (i0.al q1) ?_
  refine Ex_aload_n dX2_init_24 rfl ?_
  refine Ex_bipush (v := nI 25) dX2_init_25 (by rfl) ?_
  refine Ex_wid (b := (1 + 1, 8 + 25)) ?_ (by decide) (by decide)
  refine Ex_newI dX2_init_27 ac_int rfl (by decide) q2 ?_
  refine Ex_putrF dX2_init_29 fX2_20 rfl rfl (fun _ _ _ _ _ _ _ _ _ _ _ h => h.2.2.2) rfl rfl (i1.al q2) ?_
  refine Ex_aload_n dX2_init_32 rfl ?_
  refine Ex_bipush (v := nI 8) dX2_init_33 (by rfl) ?_
  refine Ex_wid (b := (0 + 1, 0 + 8)) ?_ (by decide) (by decide)
  refine Ex_newI dX2_init_35 ac_int rfl (by decide) q3 ?_
  refine Ex_putrF dX2_init_37 fX2_23 rfl rfl (fun _ _ _ _ _ _ _ _ _ _ _ h => h.2.2.2) rfl rfl (i2.al q3) ?_
  refine Ex_vret dX2_init_40 ?_
  have o1 : Is T (setR (mnG G (a + 1)) a 0 (some (a + 1))) (a + 1) 18 := ⟨if_pos rfl, by have := ha.2.1; omega, by show a + 1 < n0 T + (gS G + 14); omega⟩
  have o2 : gN (setR (mnG G (a + 1)) a 0 (some (a + 1))) (a + 1) = 13 := if_pos (by omega)
  have rw0 : ∀ i, i < 13 → gR (setR (mnG G (a + 1)) a 0 (some (a + 1))) (a + 1) i = some (a + 2 + i) ∧ Is T (setR (mnG G (a + 1)) a 0 (some (a + 1))) (a + 2 + i) 10 ∧ gN (setR (mnG G (a + 1)) a 0 (some (a + 1))) (a + 2 + i) = 13 := by
    intro i hi
    refine ⟨?_, ⟨?_, by have := ha.2.1; omega, by show a + 2 + i < n0 T + (gS G + 14); omega⟩, if_pos (by omega)⟩
    · rw [setR_Rn (by omega)]
      show (if a + 1 = a + 1 then (if i < 13 then some (a + 1 + 1 + i) else none) else _) = _
      rw [if_pos rfl, if_pos hi]
    · show (if a + 2 + i = a + 1 then 18 else if a + 1 < a + 2 + i ∧ a + 2 + i < a + 1 + 14 then 10 else _) = 10
      rw [if_neg (by omega), if_pos (by omega)]
  have c1 : Is T (setR (alG (setR (mnG G (a + 1)) a 0 (some (a + 1))) (a + 15) 10 12) a 1 (some (a + 15))) (a + 15) 10 := (Is.new q1).setR
  have c2 : Is T (setR (alG (setR (alG (setR (mnG G (a + 1)) a 0 (some (a + 1))) (a + 15) 10 12) a 1 (some (a + 15))) (a + 16) 10 25) a 2 (some (a + 16))) (a + 16) 10 := (Is.new q2).setR
  have c3 : Is T (setR (alG (setR (alG (setR (alG (setR (mnG G (a + 1)) a 0 (some (a + 1))) (a + 15) 10 12) a 1 (some (a + 15))) (a + 16) 10 25) a 2 (some (a + 16))) (a + 17) 10 8) a 3 (some (a + 17))) (a + 17) 10 := (Is.new q3).setR
  have e0 : gR (setR (mnG G (a + 1)) a 0 (some (a + 1))) a 0 = some (a + 1) := if_pos ⟨rfl, rfl⟩
  have e1 : gR (setR (alG (setR (mnG G (a + 1)) a 0 (some (a + 1))) (a + 15) 10 12) a 1 (some (a + 15))) a 1 = some (a + 15) := if_pos ⟨rfl, rfl⟩
  have e2 : gR (setR (alG (setR (alG (setR (mnG G (a + 1)) a 0 (some (a + 1))) (a + 15) 10 12) a 1 (some (a + 15))) (a + 16) 10 25) a 2 (some (a + 16))) a 2 = some (a + 16) := if_pos ⟨rfl, rfl⟩
  have e3 : gR (setR (alG (setR (alG (setR (alG (setR (mnG G (a + 1)) a 0 (some (a + 1))) (a + 15) 10 12) a 1 (some (a + 15))) (a + 16) 10 25) a 2 (some (a + 16))) (a + 17) 10 8) a 3 (some (a + 17))) a 3 = some (a + 17) := if_pos ⟨rfl, rfl⟩
  refine ⟨rfl, ⟨?_, fun x hx => ?_⟩, ⟨i2.gx x3, ⟨gR_gj i2 x3 (by omega) (gR_gj i1 x2 (by omega) (gR_gj i0 x1 (by omega) e0)), ((o1.gx x1).gx x2).gx x3, gN_gx ((o1.gx x1).gx x2) x3 (gN_gx (o1.gx x1) x2 (gN_gx o1 x1 o2))⟩, fun i hi => ?_, ⟨gR_gj i2 x3 (by omega) (gR_gj i1 x2 (by omega) e1), (c1.gx x2).gx x3, gN_gx (c1.gx x2) x3 (gN_gx c1 x2 (if_pos rfl))⟩, ⟨gR_gj i2 x3 (by omega) e2, c2.gx x3, gN_gx c2 x3 (if_pos rfl)⟩, ⟨e3, c3, if_pos rfl⟩⟩⟩
  · show gS G + 14 + 1 + 1 + 1 = _; omega
  · refine ⟨?_, ?_, ?_, ?_⟩
    · rw [setR_K, alG_Kn (by omega), setR_K, alG_Kn (by omega), setR_K, alG_Kn (by omega), setR_K, mnG_K (by omega)]
    · rw [setR_N, alG_Nn (by omega), setR_N, alG_Nn (by omega), setR_N, alG_Nn (by omega), setR_N, mnG_N (by omega)]
    · rw [setR_Rn (by omega), alG_Rn (by omega), setR_Rn (by omega), alG_Rn (by omega), setR_Rn (by omega), alG_Rn (by omega), setR_Rn (by omega), mnG_R (by omega)]
    · rw [zI_n (by omega), zI_n (by omega), zI_n (by omega), mnI_o (by omega)]
  · obtain ⟨r1, r2, r3⟩ := rw0 i hi
    exact ⟨gR_gx ((o1.gx x1).gx x2) x3 (by omega) (gR_gx (o1.gx x1) x2 (by omega) (gR_gx o1 x1 (by omega) r1)), ((r2.gx x1).gx x2).gx x3, gN_gx ((r2.gx x1).gx x2) x3 (gN_gx (r2.gx x1) x2 (gN_gx r2 x1 r3))⟩
/-! the class: its constructor -/
def dL : List (Nat × Nat × Nat) := [(0, 2, 3), (1, 21, 5), (2, 40, 7), (4, 59, 9), (5, 61, 11), (6, 63, 13), (7, 81, 15), (8, 90, 18), (9, 116, 21)]
def hL : List (Nat × Nat) := [(2, 2), (21, 4), (40, 6)]
def ShB (T : TC) (H : MG) (J : MI) (a : Nat) : Prop := ShS T H a ∧ J a 0 = (-1) ∧ J a 1 = 0 ∧ ∀ y, J (a + 1) y = 0
def SlB (T : TC) (H : MG) (J : MI) (a : Nat) : Prop := Is T H a 4 ∧ gR H a 1 = some (a + 1) ∧ SfS T H (a + 1) ∧ gR H a 2 = some (a + 3) ∧ ShS T H (a + 3) ∧ J a 0 = 0
def HlB (T : TC) (H : MG) (J : MI) (b X : Nat) : Prop := HlS T H b X ∧ J b = hv0 ∧ ∀ y, y < 3 → J (b + 2) y = (-1)
def DE (T : TC) (I : MI) (G : MG) (D n ksh ksl : Nat) (J : MI) (H : MG) : Prop :=
  (Is T H D 8 ∧ ksh ≤ 4 ∧ (∀ y, J D y = 0) ∧ ∀ x, x < D → gK H x = gK G x ∧ gN H x = gN G x ∧ gR H x = gR G x ∧ J x = I x) ∧
  (∀ e ∈ dL, e.2.2 ≤ n → gR H D e.1 = some (D + e.2.1)) ∧
  (1 ≤ n → Is T H (D + 1) 17 ∧ gN H (D + 1) = 14) ∧
  (∀ e ∈ hL, e.2 ≤ n → HlB T H J (D + e.1) (D + 1)) ∧
  (8 ≤ n → TpS T H (D + 59) ∧ J (D + 59) 1 = 0) ∧
  (10 ≤ n → Is T H (D + 61) 0 ∧ gR H (D + 61) 0 = some (D + 59) ∧ gR H (D + 61) 1 = some (D + 62) ∧ Is T H (D + 62) 10 ∧ gN H (D + 62) = 96) ∧
  (12 ≤ n → RdS T H (D + 63)) ∧
  (14 ≤ n → Is T H (D + 81) 15 ∧ gN H (D + 81) = 4 ∧ ∀ k, k < ksh → gR H (D + 81) k = some (D + 82 + 2 * k) ∧ ShB T H J (D + 82 + 2 * k)) ∧
  (17 ≤ n → Is T H (D + 90) 16 ∧ gN H (D + 90) = 5 ∧ ∀ k, k < ksl → gR H (D + 90) k = some (D + 91 + 5 * k) ∧ SlB T H J (D + 91 + 5 * k)) ∧
  (20 ≤ n → Is T H (D + 116) 10 ∧ gN H (D + 116) = 60)
section DEL
variable {T : TC} {I J J' : MI} {G H H' : MG} {D n ksh ksl X t a : Nat}
theorem ShB.mv (h : ShB T H J a) (g : Gx T X t H H') (hx : a ≠ X) (hm : ∀ x, x < n0 T + gS H → J' x = J x) : ShB T H' J' a := ⟨h.1.gx g hx, by rw [hm a h.1.1.2.2]; exact h.2.1, by rw [hm a h.1.1.2.2]; exact h.2.2.1, fun y => by rw [hm (a + 1) h.1.2.2.1.2.2]; exact h.2.2.2 y⟩
theorem SlB.mv (h : SlB T H J a) (g : Gx T X t H H') (hx : X < a) (hm : ∀ x, x < n0 T + gS H → J' x = J x) : SlB T H' J' a := ⟨h.1.gx g, gR_gx h.1 g (by omega) h.2.1, h.2.2.1.gx g (by omega), gR_gx h.1 g (by omega) h.2.2.2.1, h.2.2.2.2.1.gx g (by omega), by rw [hm a h.1.2.2]; exact h.2.2.2.2.2⟩
theorem HlB.mv {b Y : Nat} (h : HlB T H J b Y) (g : Gx T X t H H') (hx : X < b ∨ b + 19 ≤ X) (hm : ∀ x, x < n0 T + gS H → J' x = J x) : HlB T H' J' b Y := ⟨h.1.gy g hx, by rw [hm b h.1.1.2.2]; exact h.2.1, fun y hy => by rw [hm (b + 2) (hl_gI h.1).2.2]; exact h.2.2 y hy⟩
theorem DE.mv (h : DE T I G D n ksh ksl J H) (g : Gx T X t H H') (hX : (X = D ∧ ∀ e ∈ dL, e.2.2 ≤ n → e.1 ≠ t) ∨ (X = D + 81 ∧ ksh ≤ t) ∨ (X = D + 90 ∧ ksl ≤ t)) (hm : ∀ x, x < n0 T + gS H → J' x = J x) : DE T I G D n ksh ksl J' H' := by
  obtain ⟨⟨a0, a00, a01, a1⟩, a2, a3, a4, a5, a6, a7, a8, a9, a10⟩ := h
  have hDl := a0.2.2
  refine ⟨⟨a0.gx g, a00, fun y => by rw [hm D hDl]; exact a01 y, fun x hx => ?_⟩, fun e he hn => ?_, fun hn => ?_, fun e he hn => ?_, fun hn => ?_, fun hn => ?_, fun hn => ?_, fun hn => ?_, fun hn => ?_, fun hn => ?_⟩
  · obtain ⟨e1, e2, e3, e4⟩ := a1 x hx
    obtain ⟨f1, f2, f3⟩ := g.2 x (by omega)
    exact ⟨f1.trans e1, f2.trans e2, by rw [← e3]; funext y; exact f3 y (by omega), (hm x (by omega)).trans e4⟩
  · refine gR_gj a0 g ?_ (a2 e he hn)
    rcases hX with ⟨q, q2⟩ | ⟨q, -⟩ | ⟨q, -⟩
    · exact Or.inr (q2 e he hn)
    · exact Or.inl (by omega)
    · exact Or.inl (by omega)
  · exact ⟨(a3 hn).1.gx g, gN_gx (a3 hn).1 g (a3 hn).2⟩
  · have h40 : e.1 = 2 ∨ e.1 = 21 ∨ e.1 = 40 := (show ∀ e ∈ hL, e.1 = 2 ∨ e.1 = 21 ∨ e.1 = 40 by decide) e he
    exact (a4 e he hn).mv g (by omega) hm
  · exact ⟨(a5 hn).1.gx g (by omega), by rw [hm _ (a5 hn).1.1.2.2]; exact (a5 hn).2⟩
  · obtain ⟨e1, e2, e3, e4, e5⟩ := a6 hn
    exact ⟨e1.gx g, gR_gx e1 g (by omega) e2, gR_gx e1 g (by omega) e3, e4.gx g, gN_gx e4 g e5⟩
  · obtain ⟨e1, ⟨e2, e3, e4⟩, e5, ⟨e6, e7, e8⟩, ⟨e9, e10, e11⟩, ⟨e12, e13, e14⟩⟩ := a7 hn
    exact ⟨e1.gx g, ⟨gR_gx e1 g (by omega) e2, e3.gx g, gN_gx e3 g e4⟩, fun i hi => ⟨gR_gx e3 g (by omega) (e5 i hi).1, (e5 i hi).2.1.gx g, gN_gx (e5 i hi).2.1 g (e5 i hi).2.2⟩, ⟨gR_gx e1 g (by omega) e6, e7.gx g, gN_gx e7 g e8⟩, ⟨gR_gx e1 g (by omega) e9, e10.gx g, gN_gx e10 g e11⟩, ⟨gR_gx e1 g (by omega) e12, e13.gx g, gN_gx e13 g e14⟩⟩
  · obtain ⟨e1, e2, e3⟩ := a8 hn
    exact ⟨e1.gx g, gN_gx e1 g e2, fun k hk => ⟨gR_gj e1 g (by omega) (e3 k hk).1, (e3 k hk).2.mv g (by omega) hm⟩⟩
  · obtain ⟨e1, e2, e3⟩ := a9 hn
    exact ⟨e1.gx g, gN_gx e1 g e2, fun k hk => ⟨gR_gj e1 g (by omega) (e3 k hk).1, (e3 k hk).2.mv g (by omega) hm⟩⟩
  · exact ⟨(a10 hn).1.gx g, gN_gx (a10 hn).1 g (a10 hn).2⟩
theorem DE.next (h : DE T I G D n ksh ksl J H) (b2 : ∀ e ∈ dL, e.2.2 = n + 1 → gR H D e.1 = some (D + e.2.1)) (b3 : 1 = n + 1 → Is T H (D + 1) 17 ∧ gN H (D + 1) = 14) (b4 : ∀ e ∈ hL, e.2 = n + 1 → HlB T H J (D + e.1) (D + 1)) (b5 : 8 = n + 1 → TpS T H (D + 59) ∧ J (D + 59) 1 = 0) (b6 : 10 = n + 1 → Is T H (D + 61) 0 ∧ gR H (D + 61) 0 = some (D + 59) ∧ gR H (D + 61) 1 = some (D + 62) ∧ Is T H (D + 62) 10 ∧ gN H (D + 62) = 96) (b7 : 12 = n + 1 → RdS T H (D + 63)) (b8 : 14 = n + 1 → ksh = 0 ∧ Is T H (D + 81) 15 ∧ gN H (D + 81) = 4) (b9 : 17 = n + 1 → ksl = 0 ∧ Is T H (D + 90) 16 ∧ gN H (D + 90) = 5) (b10 : 20 = n + 1 → Is T H (D + 116) 10 ∧ gN H (D + 116) = 60) : DE T I G D (n + 1) ksh ksl J H := by
  obtain ⟨a1, a2, a3, a4, a5, a6, a7, a8, a9, a10⟩ := h
  refine ⟨a1, fun e he hn => ?_, fun hn => ?_, fun e he hn => ?_, fun hn => ?_, fun hn => ?_, fun hn => ?_, fun hn => ?_, fun hn => ?_, fun hn => ?_⟩
  · by_cases z : e.2.2 = n + 1
    · exact b2 e he z
    · exact a2 e he (by omega)
  · by_cases z : 1 = n + 1
    · exact b3 z
    · exact a3 (by omega)
  · by_cases z : e.2 = n + 1
    · exact b4 e he z
    · exact a4 e he (by omega)
  · by_cases z : 8 = n + 1
    · exact b5 z
    · exact a5 (by omega)
  · by_cases z : 10 = n + 1
    · exact b6 z
    · exact a6 (by omega)
  · by_cases z : 12 = n + 1
    · exact b7 z
    · exact a7 (by omega)
  · by_cases z : 14 = n + 1
    · obtain ⟨z0, z1, z2⟩ := b8 z
      exact ⟨z1, z2, fun k hk => by omega⟩
    · exact a8 (by omega)
  · by_cases z : 17 = n + 1
    · obtain ⟨z0, z1, z2⟩ := b9 z
      exact ⟨z1, z2, fun k hk => by omega⟩
    · exact a9 (by omega)
  · by_cases z : 20 = n + 1
    · exact b10 z
    · exact a10 (by omega)
end DEL
