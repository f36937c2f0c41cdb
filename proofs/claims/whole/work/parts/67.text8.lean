/-! the class: a text is made -/
theorem Ex_wid {T : TC} {own : String} {cc : ByteArray} {nL d pc : Nat} {F : FinT} {ls : List (Option Value)} {st : List Value} {I : MI} {G : MG} {b b' : Nat × Nat} (h : Ex T own cc nL d F pc ls st I G b) (h1 : b.1 ≤ b'.1) (h2 : b.2 ≤ b'.2) : Ex T own cc nL d F pc ls st I G b' :=
  fun p l e R s m args below meth c Z H locs cells slots rl B S hF M g1 g2 L => h p l e R s m args below meth c Z H locs cells slots rl B S hF M (by omega) (by omega) L
/-- cells come, and one reference at X, t -/
def Gx (T : TC) (X t : Nat) (G G' : MG) : Prop := gS G ≤ gS G' ∧ ∀ x, x < n0 T + gS G → gK G' x = gK G x ∧ gN G' x = gN G x ∧ ∀ j, ¬ (x = X ∧ j = t) → gR G' x j = gR G x j
section GX
variable {T : TC} {X t a k : Nat} {G G' G2 : MG}
theorem Gx.refl : Gx T X t G G := ⟨Nat.le_refl _, fun _ _ => ⟨rfl, rfl, fun _ _ => rfl⟩⟩
theorem Gx.trans (h : Gx T X t G G') (h2 : Gx T X t G' G2) : Gx T X t G G2 := ⟨Nat.le_trans h.1 h2.1, fun x hx => by
  obtain ⟨a1, a2, a3⟩ := h.2 x hx
  obtain ⟨b1, b2, b3⟩ := h2.2 x (by have := h.1; omega)
  exact ⟨b1.trans a1, b2.trans a2, fun j hj => (b3 j hj).trans (a3 j hj)⟩⟩
theorem Gx.al {q n : Nat} (hq : n0 T + gS G = q) : Gx T X t G (alG G q k n) := ⟨by rw [alG_S]; omega, fun x hx => ⟨alG_Kn (by omega), alG_Nn (by omega), fun j _ => congrFun (alG_Rn (by omega)) j⟩⟩
theorem Gx.setN {q j : Nat} {v : Option Nat} {G0 : MG} (hg : Gx T X t G0 G) (hq : n0 T + gS G0 ≤ q) : Gx T X t G0 (setR G q j v) := ⟨hg.1, fun x hx => ⟨(hg.2 x hx).1, (hg.2 x hx).2.1, fun j' hj => (if_neg (fun e => by omega)).trans ((hg.2 x hx).2.2 j' hj)⟩⟩
theorem Gx.setX {v : Option Nat} {G0 : MG} (hg : Gx T X t G0 G) : Gx T X t G0 (setR G X t v) := ⟨hg.1, fun x hx => ⟨(hg.2 x hx).1, (hg.2 x hx).2.1, fun j' hj => (if_neg hj).trans ((hg.2 x hx).2.2 j' hj)⟩⟩
theorem Is.gx (h : Is T G a k) (hg : Gx T X t G G') : Is T G' a k := ⟨(hg.2 a h.2.2).1.trans h.1, h.2.1, by have := h.2.2; have := hg.1; omega⟩
theorem gN_gx {n : Nat} (h : Is T G a k) (hg : Gx T X t G G') (e : gN G a = n) : gN G' a = n := ((hg.2 a h.2.2).2.1).trans e
theorem gR_gx {j : Nat} {v : Option Nat} (h : Is T G a k) (hg : Gx T X t G G') (hx : a ≠ X) (e : gR G a j = v) : gR G' a j = v := ((hg.2 a h.2.2).2.2 j (fun q => hx q.1)).trans e
theorem SfS.gx (h : SfS T G a) (hg : Gx T X t G G') (hx : a ≠ X) : SfS T G' a := ⟨h.1.gx hg, gR_gx h.1 hg hx h.2.1, h.2.2.1.gx hg, gN_gx h.2.2.1 hg h.2.2.2⟩
theorem ShS.gx (h : ShS T G a) (hg : Gx T X t G G') (hx : a ≠ X) : ShS T G' a := ⟨h.1.gx hg, gR_gx h.1 hg hx h.2.1, h.2.2.1.gx hg, gN_gx h.2.2.1 hg h.2.2.2⟩
theorem TpS.gx (h : TpS T G a) (hg : Gx T X t G G') (hx : a ≠ X) : TpS T G' a := ⟨h.1.gx hg, gR_gx h.1 hg hx h.2.1, h.2.2.1.gx hg, gN_gx h.2.2.1 hg h.2.2.2⟩
theorem TeS.gx {n : Nat} (h : TeS T G a n) (hg : Gx T X t G G') (hx : a ≠ X) : TeS T G' a n := ⟨h.1.gx hg, ⟨gR_gx h.1 hg hx h.2.1.1, h.2.1.2.1.gx hg, gN_gx h.2.1.2.1 hg h.2.1.2.2⟩, ⟨gR_gx h.1 hg hx h.2.2.1, h.2.2.2.1.gx hg, gN_gx h.2.2.2.1 hg h.2.2.2.2⟩⟩
theorem HlS.gx {b : Nat} (h : HlS T G b X) (hg : Gx T X t G G') (hx : X < b ∨ b + 19 ≤ X) : HlS T G' b X := ⟨h.1.gx hg, ⟨gR_gx h.1 hg (by omega) (hl_s h), (hl_sI h).gx hg, gN_gx (hl_sI h) hg (hl_sN h)⟩, ⟨gR_gx h.1 hg (by omega) (hl_g h), (hl_gI h).gx hg, gN_gx (hl_gI h) hg (hl_gN h)⟩, ⟨gR_gx h.1 hg (by omega) (hl_t h), (hl_tI h).gx hg, gN_gx (hl_tI h) hg (hl_tN h)⟩, fun k hk => ⟨gR_gx (hl_sI h) hg (by omega) (hl_k h k hk), (hl_S h k hk).gx hg (by omega)⟩⟩
theorem RdS.gx {r : Nat} (h : RdS T G r) (hg : Gx T X t G G') (hx : X < r) : RdS T G' r := by
  obtain ⟨h1, ⟨h2, h3, h4⟩, h5, ⟨h6, h7, h8⟩, ⟨h9, h10, h11⟩, ⟨h12, h13, h14⟩⟩ := h
  exact ⟨h1.gx hg, ⟨gR_gx h1 hg (by omega) h2, h3.gx hg, gN_gx h3 hg h4⟩, fun i hi => ⟨gR_gx h3 hg (by omega) (h5 i hi).1, (h5 i hi).2.1.gx hg, gN_gx (h5 i hi).2.1 hg (h5 i hi).2.2⟩, ⟨gR_gx h1 hg (by omega) h6, h7.gx hg, gN_gx h7 hg h8⟩, ⟨gR_gx h1 hg (by omega) h9, h10.gx hg, gN_gx h10 hg h11⟩, ⟨gR_gx h1 hg (by omega) h12, h13.gx hg, gN_gx h13 hg h14⟩⟩
theorem DS.gx {D N : Nat} (h : DS T G D N) (hg : Gx T (D + 1) t G G') : DS T G' D N := by
  have ho := ds_o h
  refine ⟨⟨ho.gx hg, ds_N h⟩, ⟨gR_gx ho hg (by omega) (ds_h h), gR_gx ho hg (by omega) (ds_i h), gR_gx ho hg (by omega) (ds_t h), gR_gx ho hg (by omega) (ds_tpr h), gR_gx ho hg (by omega) (ds_gr h), gR_gx ho hg (by omega) (ds_rdr h), gR_gx ho hg (by omega) (ds_sh h), gR_gx ho hg (by omega) (ds_sl h), gR_gx ho hg (by omega) (ds_w h)⟩, ⟨(ds_H h).gx hg (by omega), (ds_I h).gx hg (by omega), (ds_T h).gx hg (by omega)⟩, (ds_tp h).gx hg (by omega), ?_, (ds_rd h).gx hg (by omega), ⟨(ds_shI h).gx hg, gN_gx (ds_shI h) hg (ds_shN h), fun k hk => ⟨gR_gx (ds_shI h) hg (by omega) (ds_shk h k hk), (ds_shS h k hk).gx hg (by omega)⟩⟩, ⟨(ds_slI h).gx hg, gN_gx (ds_slI h) hg (ds_slN h), fun k hk => ⟨gR_gx (ds_slI h) hg (by omega) (ds_slk h k hk), (ds_slo h k hk).gx hg, gR_gx (ds_slo h k hk) hg (by omega) (ds_slf h k hk), (ds_slF h k hk).gx hg (by omega), gR_gx (ds_slo h k hk) hg (by omega) (ds_sls h k hk), (ds_slS h k hk).gx hg (by omega)⟩⟩, (ds_wI h).gx hg, gN_gx (ds_wI h) hg (ds_wN h)⟩
  obtain ⟨h1, h2, h3, h4, h5⟩ := ds_g h
  exact ⟨h1.gx hg, gR_gx h1 hg (by omega) h2, gR_gx h1 hg (by omega) h3, h4.gx hg, gN_gx h4 hg h5⟩
theorem MSh.gx {M : Nat} (h : MSh T G M) (hg : Gx T X t G G') (hx : X < M) : MSh T G' M := ⟨h.1.gx hg, fun e he => ⟨gR_gx h.1 hg (by omega) (h.2 e he).1, (h.2 e he).2.1.gx hg, gN_gx (h.2 e he).2.1 hg (h.2 e he).2.2⟩⟩
end GX
set_option maxRecDepth 100000 in
set_option maxHeartbeats 4000000 in
theorem cJ_copyOf {T : TC} {I : MI} {G : MG} (d : Nat) {a L q : Nat} (ha : Is T G a 10) (hn : gN G a = 96) (hL : L < 96) (hq : n0 T + gS G = q) : Ok T mJ7_copyOf_59c91 (d + 1) (0 + 1) (0 + L) [.ref a, .int (nI L)] I G (fun v I' G' => v = some (.ref q) ∧ I' = cpyI (zI I q) a q 0 0 L ∧ G' = alG G q 10 L) := by
  refine Ok_of (own := RJ7) (by decide) rfl (cat1 rfl) (Nat.le_of_ble_eq_true rfl) ?_
  refine Ex_wid (b := (0 + 1, 0 + L)) ?_ (by omega) (by omega)
  show Ex T RJ7 cJ7_copyOf_59c91 3 (d + 1) _ 0 [some (.ref a), some (.int (nI L)), none] [] I G (0 + 1, 0 + L)
  have hne : a ≠ q := by have := ha.2.2; omega
  refine Ex_iload_n dJ7_copyOf_59c91_0 rfl ?_
  refine Ex_aload_n dJ7_copyOf_59c91_1 rfl ?_
  refine Ex_alen dJ7_copyOf_59c91_2 ha (by decide) (by decide) (v := nI 96) (by rw [hn]; rfl) ?_
  refine Ex_icmp_neN (by omega) (by omega) (tgt := 14) dJ7_copyOf_59c91_3 (by decide) (fun h3 => ?_) (fun h3 => ?_)
  · have hn2 : gN (alG G q 10 L) a = 96 := (alG_Nn hne).trans hn
    have hn3 : gN (alG G q 10 L) q = L := if_pos rfl
    refine Ex_iload_n dJ7_copyOf_59c91_14 rfl ?_
    refine Ex_newI dJ7_copyOf_59c91_15 ac_int rfl (by omega) hq ?_
    refine Ex_astore_n dJ7_copyOf_59c91_17 (by decide) rfl ?_
    simp only [st_n0, st_n1, st_n2, st_n3, List.set_cons_zero, List.set_cons_succ]
    refine Ex_aload_n dJ7_copyOf_59c91_18 rfl ?_
    refine Ex_iconst (v := nI 0) dJ7_copyOf_59c91_19 (by rfl) ?_
    refine Ex_aload_n dJ7_copyOf_59c91_20 rfl ?_
    refine Ex_iconst (v := nI 0) dJ7_copyOf_59c91_21 (by rfl) ?_
    refine Ex_aload_n dJ7_copyOf_59c91_22 rfl ?_
    refine Ex_alen dJ7_copyOf_59c91_23 (ha.al hq) (by decide) (by decide) (v := nI 96) (by rw [hn2]; rfl) ?_
    refine Ex_iload_n dJ7_copyOf_59c91_24 rfl ?_
    refine Ex_min dJ7_copyOf_59c91_25 sJ7_304 (Nat.le_of_ble_eq_true rfl) ?_
    refine Ex_top (show _ = nI L from if_pos (nI_lt (by omega) (by omega))) ?_
    refine Ex_copy dJ7_copyOf_59c91_28 sJ7_150 (Nat.le_of_ble_eq_true rfl) (ha.al hq) (Is.new hq) rfl rfl rfl (by rw [hn2]; omega) (by rw [hn3]; omega) (by rw [hn2]; decide) (by rw [hn3]; omega) ?_
    refine Ex_aload_n dJ7_copyOf_59c91_31 rfl ?_
    refine Ex_aret dJ7_copyOf_59c91_32 (Or.inr ⟨_, rfl⟩) (by first | exact Or.inl rfl | exact Or.inr ⟨_, rfl⟩) ?_
    exact ⟨rfl, rfl, rfl⟩
  · omega
set_option maxRecDepth 100000 in
set_option maxHeartbeats 4000000 in
theorem cX7_ini {T : TC} {I : MI} {G : MG} (d : Nat) {a s L q : Nat} (ha : Is T G a 7) (hs : Is T G s 10) (hn : gN G s = L) (hL : L < 65536) (hq : n0 T + gS G = q) (ky at_ : Int32) : Ok T mX7_init (d + 1) (0 + 1) (0 + L) [.ref a, .int ky, .int at_, .ref s] I G (fun v I' G' => v = none ∧ (I' = zI (setI (setI I a 0 ky) a 1 at_) q ∧ G' = setR (alG (setR G a 2 (some s)) q 10 L) a 3 (some q))) := by
  refine Ok_of (own := RX7) (by decide) rfl (cat1 rfl) (Nat.le_of_ble_eq_true rfl) ?_
  refine Ex_wid (b := (0 + 1, 0 + L)) ?_ (by omega) (by omega)
  show Ex T RX7 cX7_init 4 (d + 1) _ 0 [some (.ref a), some (.int ky), some (.int at_), some (.ref s)] [] I G (0 + 1, 0 + L)
  refine Ex_aload_n dX7_init_0 rfl ?_
  refine Ex_objInit dX7_init_1 sX7_1 oi_1 oi_2 (Nat.le_of_ble_eq_true rfl) ?_
  refine Ex_aload_n dX7_init_4 rfl ?_
  refine Ex_iload_n dX7_init_5 rfl ?_
  refine Ex_putiF dX7_init_6 fX7_7 rfl rfl (fun _ _ _ _ _ _ _ _ _ _ _ h => h.2.2.2) rfl rfl ha ?_
  refine Ex_aload_n dX7_init_9 rfl ?_
  refine Ex_iload_n dX7_init_10 rfl ?_
  refine Ex_putiF dX7_init_11 fX7_13 rfl rfl (fun _ _ _ _ _ _ _ _ _ _ _ h => h.2.2.2) rfl rfl ha ?_
  refine Ex_aload_n dX7_init_14 rfl ?_
  refine Ex_aload_n dX7_init_15 rfl ?_
  refine Ex_putrF dX7_init_16 fX7_16 rfl rfl (fun _ _ _ _ _ _ _ _ _ _ _ h => h.2.2.2) rfl rfl ha ?_
  refine Ex_aload_n dX7_init_19 rfl ?_
  refine Ex_aload_n dX7_init_20 rfl ?_
  refine Ex_alen dX7_init_21 (Is.setR hs) (by decide) (by decide) (v := nI L) (by rw [setR_N, hn]; rfl) ?_
  refine Ex_newI dX7_init_22 ac_int rfl hL hq ?_
  refine Ex_putrF dX7_init_24 fX7_20 rfl rfl (fun _ _ _ _ _ _ _ _ _ _ _ h => h.2.2.2) rfl rfl (Is.al (G := setR G a 2 (some s)) hq ha.setR) ?_
  refine Ex_vret dX7_init_27 ?_
  exact ⟨rfl, rfl, rfl⟩
/-- a text of L steps has come at q -/
def NwT (T : TC) (I : MI) (G : MG) (st : Nat → Int32) (q L : Nat) (ky at_ : Int32) (I' : MI) (G' : MG) : Prop := (∀ X t, Gx T X t G G') ∧ gS G' = gS G + 3 ∧ (∀ x, x ≠ q → x ≠ q + 1 → x ≠ q + 2 → I' x = I x) ∧ TeS T G' q L ∧ I' q 0 = ky ∧ I' q 1 = at_ ∧ ∀ k, k < L → I' (q + 1) k = st k
theorem NwT_of {T : TC} {I : MI} {G : MG} {s q L : Nat} {ky at_ : Int32} (hq : n0 T + gS G = q) (hs : s < q) : NwT T I G (I s) q L ky at_ (zI (setI (setI (cpyI (zI (zI I q) (q + 1)) s (q + 1) 0 0 L) q 0 ky) q 1 at_) (q + 2)) (setR (alG (setR (alG (alG G q 7 0) (q + 1) 10 L) q 2 (some (q + 1))) (q + 2) 10 L) q 3 (some (q + 2))) := by
  refine ⟨fun X t => ?_, rfl, fun x h0 h1 h2 => ?_, ?_, ?_, ?_, fun k hk => ?_⟩
  · have g1 : Gx T X t G (alG G q 7 0) := Gx.al hq
    have g2 := g1.trans (Gx.al (T := T) (X := X) (t := t) (k := 10) (n := L) (G := alG G q 7 0) (q := q + 1) (by rw [alG_S]; omega))
    have g3 := g2.setN (q := q) (j := 2) (v := some (q + 1)) (by omega)
    have g4 := g3.trans (Gx.al (T := T) (X := X) (t := t) (k := 10) (n := L) (q := q + 2) (by rw [setR_S, alG_S, alG_S]; omega))
    exact g4.setN (by omega)
  · rw [zI_n h2, setI_a h0, setI_a h0, cpyI_n h1, zI_n h1, zI_n h0]
  · refine ⟨⟨?_, ?_, ?_⟩, ⟨?_, ⟨?_, ?_, ?_⟩, ?_⟩, ⟨?_, ⟨?_, ?_, ?_⟩, ?_⟩⟩
    · rw [setR_K, alG_Kn (by omega), setR_K, alG_Kn (by omega)]; exact if_pos rfl
    · omega
    · rw [setR_S, alG_S, setR_S, alG_S, alG_S]; omega
    · rw [setR_R]; show (if q = q ∧ 2 = 3 then _ else _) = _; rw [if_neg (by omega), alG_Rn (by omega), setR_R]; exact if_pos ⟨rfl, rfl⟩
    · rw [setR_K, alG_Kn (by omega), setR_K]; exact if_pos rfl
    · omega
    · rw [setR_S, alG_S, setR_S, alG_S, alG_S]; omega
    · rw [setR_N, alG_Nn (by omega), setR_N]; exact if_pos rfl
    · rw [setR_R]; exact if_pos ⟨rfl, rfl⟩
    · rw [setR_K]; exact if_pos rfl
    · omega
    · rw [setR_S, alG_S, setR_S, alG_S, alG_S]; omega
    · rw [setR_N]; exact if_pos rfl
  · rw [zI_n (by omega), setI_n (by omega), setI_s]
  · rw [zI_n (by omega), setI_s]
  · rw [zI_n (by omega), setI_a (by omega), setI_a (by omega), cpyI_s]
    unfold va_cpy
    rw [if_pos (by omega), zI_n (by omega), zI_n (by omega)]
    congr 1
    omega
set_option maxRecDepth 100000 in
set_option maxHeartbeats 4000000 in
theorem c0_makeText {T : TC} {I : MI} {G : MG} (d : Nat) {D NN : Nat} (hD : DS T G D NN) (L : Nat) (hL : L < 96) (ky at_ : Int32) {q : Nat} (hq : n0 T + gS G = q) (hk : I (D + 61) 4 = ky) (ha : I (D + 61) 3 = at_) (hl : I (D + 61) 2 = nI L) : Ok T mX0_makeText (d + 2) (0 + (0 + 1) + (0 + 1) + 1) (0 + (0 + L) + (0 + L) + fN 7) [.ref (D + 61)] I G (fun v I' G' => v = some (.ref q) ∧ NwT T I G (I (D + 62)) q L ky at_ I' G') := by
  refine Ok_of (own := RX0) (by decide) rfl (cat1 rfl) (Nat.le_of_ble_eq_true rfl) ?_
  refine Ex_wid (b := (0 + (0 + 1) + (0 + 1) + 1, 0 + (0 + L) + (0 + L) + fN 7)) ?_ (by omega) (by omega)
  show Ex T RX0 cX0_makeText 1 (d + 2) _ 0 [some (.ref (D + 61))] [] I G (0 + (0 + 1) + (0 + 1) + 1, 0 + (0 + L) + (0 + L) + fN 7)
  have hlt : D + 61 < q := by have := (ds_g hD).1.2.2; omega
  have hlt2 : D + 62 < q := by have := (ds_g hD).2.2.2.1.2.2; omega
  have ho : Is T (alG G q 7 0) (D + 61) 0 := (ds_g hD).1.al hq
  refine Ex_new dX0_makeText_0 (by decide) lX0_46 i_7.1 i_7.2 hq ?_
  refine Ex_dup dX0_makeText_3 rfl ?_
  refine Ex_aload_n dX0_makeText_4 rfl ?_
  refine Ex_geti dX0_makeText_5 fX0_36 ho ?_
  refine Ex_top (show _ = ky by rw [zI_n (by omega)]; exact hk) ?_
  refine Ex_aload_n dX0_makeText_8 rfl ?_
  refine Ex_geti dX0_makeText_9 fX0_23 ho ?_
  refine Ex_top (show _ = at_ by rw [zI_n (by omega)]; exact ha) ?_
  refine Ex_aload_n dX0_makeText_12 rfl ?_
  refine Ex_getr dX0_makeText_13 fX0_9 ho ((congrFun (alG_Rn (by omega)) 1).trans (ds_g hD).2.2.1) ?_
  refine Ex_aload_n dX0_makeText_16 rfl ?_
  refine Ex_geti dX0_makeText_17 fX0_19 ho ?_
  refine Ex_top (show _ = nI L by rw [zI_n (by omega)]; exact hl) ?_
  refine Ex_callS (As := [.ref (D + 62), .int (nI L)]) (rest := [.int at_, .int ky, .ref q, .ref q]) (mc := 0 + 1) (ms := 0 + L) (b1 := 0 + (0 + 1)) (b2 := 0 + (0 + L)) dX0_makeText_20 sX0_48 rfl rfl (Nat.le_of_ble_eq_true rfl) (cJ_copyOf d (a := D + 62) (q := q + 1) ((ds_g hD).2.2.2.1.al hq) ((alG_Nn (by have := (ds_g hD).2.2.2.1.2.2; omega)).trans (ds_g hD).2.2.2.2) hL (by rw [alG_S]; omega)) ?_
  rintro _ _ _ ⟨rfl, rfl, rfl⟩
  refine Ex_I3 (a := q) (x1 := .int ky) (x2 := .int at_) (x3 := .ref (q + 1)) (st := [.ref q]) (mc := 0 + 1) (ms := 0 + L) (b1 := 0) (b2 := 0) dX0_makeText_23 sX0_54 (Nat.le_of_ble_eq_true rfl) (cX7_ini d (G := alG (alG G q 7 0) (q + 1) 10 L) (a := q) (s := q + 1) (L := L) (q := q + 2) (Is.al (G := alG G q 7 0) (q := q + 1) (by rw [alG_S]; omega) (Is.new hq)) (Is.new (G := alG G q 7 0) (q := q + 1) (by rw [alG_S]; omega)) (if_pos rfl) (by omega) (by rw [alG_S, alG_S]; omega) ky at_) ?_
  rintro _ _ ⟨rfl, rfl⟩
  refine Ex_aret dX0_makeText_26 (Or.inl ⟨_, rfl⟩) (by first | exact Or.inl rfl | exact Or.inr ⟨_, rfl⟩) ?_
  exact ⟨rfl, NwT_of hq hlt2⟩
set_option maxRecDepth 100000 in
set_option maxHeartbeats 4000000 in
theorem c1_addText {T : TC} {I : MI} {G : MG} (d : Nat) {b X : Nat} (hS : HlS T G b X) (t w v : Nat) (ht : t < 14) (hw : w < 3) (hv : Is T G v 7) (hne : v ≠ b ∧ v ≠ b + 2) (h9 : I b 9 = nI t) (hk : I v 0 = nI w) : OkI T mX1_addText (d) [.ref b, .ref v] I G (fun r I' G' => r = nI t ∧ I' = setI (setI I (b + 2) w (nI t)) b 9 (nI (t + 1)) ∧ G' = setR G X t (some v)) := by
  refine Ok_of (own := RX1) (by decide) rfl (cat1 rfl) (Nat.le_of_ble_eq_true rfl) ?_
  show Ex T RX1 cX1_addText 2 (d) _ 0 [some (.ref b), some (.ref v)] [] I G (0, 0)
  have hbX : b ≠ X := fun e => by have h1 := (hl_o hS).1; have h2 := (hl_tI hS).1; rw [e] at h1; omega
  refine Ex_aload_n dX1_addText_0 rfl ?_
  refine Ex_geti dX1_addText_1 fX1_52 (hl_o hS) ?_
  refine Ex_top h9 ?_
  refine Ex_bipush (v := nI 14) dX1_addText_4 (by rfl) ?_
  refine Ex_icmp_ltN (by omega) (by omega) (tgt := 12) dX1_addText_6 (by decide) (fun h6 => ?_) (fun h6 => ?_)
  · refine Ex_aload_n dX1_addText_12 rfl ?_
    refine Ex_getr dX1_addText_13 fX1_31 (hl_o hS) (hl_t hS) ?_
    refine Ex_aload_n dX1_addText_16 rfl ?_
    refine Ex_geti dX1_addText_17 fX1_52 (hl_o hS) ?_
    refine Ex_top h9 ?_
    refine Ex_aload_n dX1_addText_20 rfl ?_
    refine Ex_aastTe dX1_addText_21 (hl_tI hS) hv rfl (by rw [hl_tN hS]; omega) (by rw [hl_tN hS]; decide) ?_
    have gRset : gR (setR G X t (some v)) b 10 = some (b + 2) := (if_neg (fun q => hbX q.1)).trans (hl_g hS)
    refine Ex_aload_n dX1_addText_22 rfl ?_
    refine Ex_getr dX1_addText_23 fX1_27 (hl_o hS).setR (show _ = some (b + 2) from ?_) ?_
    · exact gRset
    refine Ex_aload_n dX1_addText_26 rfl ?_
    refine Ex_geti dX1_addText_27 fX1_66 hv.setR ?_
    refine Ex_top hk ?_
    refine Ex_aload_n dX1_addText_30 rfl ?_
    refine Ex_geti dX1_addText_31 fX1_52 (hl_o hS).setR ?_
    refine Ex_top h9 ?_
    refine Ex_iast dX1_addText_34 ((hl_gI hS).setR) rfl (by rw [setR_N, hl_gN hS]; omega) (by rw [setR_N, hl_gN hS]; decide) ?_
    refine Ex_aload_n dX1_addText_35 rfl ?_
    refine Ex_dup dX1_addText_36 rfl ?_
    refine Ex_geti dX1_addText_37 fX1_52 (hl_o hS).setR ?_
    refine Ex_top (show _ = nI t by rw [setI_a (by omega)]; exact h9) ?_
    refine Ex_iconst (v := nI 1) dX1_addText_40 (by rfl) ?_
    first | with_reducible refine Ex_iaddN dX1_addText_41 ?_ | refine Ex_iadd dX1_addText_41 ?_
    refine Ex_puti dX1_addText_42 fX1_52 rfl rfl rfl (hl_o hS).setR ?_
    refine Ex_aload_n dX1_addText_45 rfl ?_
    refine Ex_geti dX1_addText_46 fX1_52 (hl_o hS).setR ?_
    refine Ex_top (show _ = nI (t + 1) from setI_s) ?_
    refine Ex_iconst (v := nI 1) dX1_addText_49 (by rfl) ?_
    refine Ex_isubN (by omega) dX1_addText_50 ?_
    refine Ex_iret dX1_addText_51 (by first | rfl | exact narrow_bI) ?_
    exact ⟨_, rfl, congrArg nI (Nat.add_sub_cancel t 1), rfl, rfl⟩
  · omega
