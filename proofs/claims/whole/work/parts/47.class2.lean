/-! Arrays.fill -/
set_option maxRecDepth 100000 in
set_option maxHeartbeats 4000000 in
theorem lJ_fill {T : TC} {I : MI} {G : MG} {F : FinT} {b : Nat × Nat} (d : Nat) {a : Nat} (hA : Is T G a 10) (v : Int32) (N : Nat) (hN : gN G a = N) (hb : N < 65536) (kx : Ex T RJ7 cJ7_fill_53178 4 (d) F 5 [some (.ref a), some (.int v), some (.int (nI N)), some (.int (nI N))] [] (rowI I a (preF (fun _ => v) (I a) N)) G b) : ∀ i k, k + i = N  → Ex T RJ7 cJ7_fill_53178 4 (d) F 5 [some (.ref a), some (.int v), some (.int (nI k)), some (.int (nI N))] [] (rowI I a (preF (fun _ => v) (I a) k)) G b := by
  intro i
  induction i with
  | zero => intro k h0; have e0 : k = N := by omega
            subst e0; exact kx
  | succ i ih0 =>
    intro k h0
    have ih := ih0 (k + 1)
    refine Ex_iload_n dJ7_fill_53178_5 rfl ?_
    refine Ex_iload_n dJ7_fill_53178_6 rfl ?_
    refine Ex_icmp_geN (by omega) (by omega) (tgt := 20) dJ7_fill_53178_7 (by decide) (fun h7 => ?_) (fun h7 => ?_)
    · omega
    · refine Ex_aload_n dJ7_fill_53178_10 rfl ?_
      refine Ex_iload_n dJ7_fill_53178_11 rfl ?_
      refine Ex_iload_n dJ7_fill_53178_12 rfl ?_
      refine Ex_iast dJ7_fill_53178_13 hA rfl (by omega) (by omega) ?_
      rw [setI_row, rowI_r, rowI_s, preF_s (f := fun _ => v)]
      first | refine Ex_iincN (m := 1) dJ7_fill_53178_14 rfl rfl (by decide) rfl ?_ | refine Ex_iinc dJ7_fill_53178_14 rfl rfl (by decide) rfl ?_
      simp only [List.set_cons_zero, List.set_cons_succ]
      refine Ex_goto (tgt := 5) dJ7_fill_53178_17 (by decide) ?_
      exact ih (by omega)
set_option maxRecDepth 100000 in
set_option maxHeartbeats 4000000 in
theorem cJ_fill {T : TC} {I : MI} {G : MG} (d : Nat) {a : Nat} (hA : Is T G a 10) (v : Int32) (N : Nat) (hN : gN G a = N) (hb : N < 65536)  : OkV T mJ7_fill_53178 (d) [.ref a, .int v] I G (fun I' G' => I' = rowI I a (preF (fun _ => v) (I a) N) ∧ G' = G) := by
  refine Ok_of (own := RJ7) (by decide) rfl (cat1 rfl) (Nat.le_of_ble_eq_true rfl) ?_
  show Ex T RJ7 cJ7_fill_53178 4 (d) _ 0 [some (.ref a), some (.int v), none, none] [] I G (0, 0)
  refine Ex_iconst (v := nI 0) dJ7_fill_53178_0 (by rfl) ?_
  refine Ex_istore_n dJ7_fill_53178_1 (by decide) rfl ?_
  simp only [st_n0, st_n1, st_n2, st_n3, List.set_cons_zero, List.set_cons_succ]
  refine Ex_aload_n dJ7_fill_53178_2 rfl ?_
  refine Ex_alen dJ7_fill_53178_3 hA (by decide) (by decide) (show _ = nI N by rw [hN]; rfl) ?_
  refine Ex_istore_n dJ7_fill_53178_4 (by decide) rfl ?_
  simp only [st_n0, st_n1, st_n2, st_n3, List.set_cons_zero, List.set_cons_succ]
  refine Ex_eqI (show _ = rowI I a (preF (fun _ => v) (I a) 0) by rw [preF_0, rowI_self]) ?_
  refine lJ_fill d hA v N hN hb ?_ N 0 (by omega)
  refine Ex_iload_n dJ7_fill_53178_5 rfl ?_
  refine Ex_iload_n dJ7_fill_53178_6 rfl ?_
  refine Ex_icmp_geN (by omega) (by omega) (tgt := 20) dJ7_fill_53178_7 (by decide) (fun h7 => ?_) (fun h7 => ?_)
  · refine Ex_vret dJ7_fill_53178_20 ?_
    exact ⟨rfl, rfl, rfl⟩
  · omega
/-! sheets -/
set_option maxRecDepth 100000 in
set_option maxHeartbeats 4000000 in
theorem c3_begin {T : TC} {I : MI} {G : MG} (d : Nat) {a : Nat} (hS : ShS T G a) (srt n : Int32)  : OkV T mX3_begin (d + 1) [.ref a, .int srt, .int n] I G (fun I' G' => I' = rowI (rowI I a (upd (upd (I a) 0 srt) 1 n)) (a + 1) (preF (fun _ => nI 0) (I (a + 1)) 24) ∧ G' = G) := by
  refine Ok_of (own := RX3) (by decide) rfl (cat1 rfl) (Nat.le_of_ble_eq_true rfl) ?_
  show Ex T RX3 cX3_begin 3 (d + 1) _ 0 [some (.ref a), some (.int srt), some (.int n)] [] I G (0, 0)
  refine Ex_aload_n dX3_begin_0 rfl ?_
  refine Ex_iload_n dX3_begin_1 rfl ?_
  refine Ex_puti dX3_begin_2 fX3_9 rfl rfl rfl hS.1 ?_
  refine Ex_aload_n dX3_begin_5 rfl ?_
  refine Ex_iload_n dX3_begin_6 rfl ?_
  refine Ex_puti dX3_begin_7 fX3_19 rfl rfl rfl hS.1 ?_
  refine Ex_aload_n dX3_begin_10 rfl ?_
  refine Ex_getr dX3_begin_11 fX3_15 hS.1 hS.2.1 ?_
  refine Ex_iconst (v := nI 0) dX3_begin_14 (by rfl) ?_
  refine Ex_S2v dX3_begin_15 sX3_22  (Nat.le_of_ble_eq_true rfl) (cJ_fill d hS.2.2.1 _ 24 hS.2.2.2 (by omega)) ?_
  rintro _ _ ⟨rfl, rfl⟩
  refine Ex_vret dX3_begin_18 ?_
  exact ⟨rfl, by simp only [setI_row, rowI_r, rowI_s]; rw [rowI_n (by omega)], rfl⟩
set_option maxRecDepth 100000 in
set_option maxHeartbeats 4000000 in
theorem c3_become {T : TC} {I : MI} {G : MG} (d : Nat) {a a2 : Nat} (hS : ShS T G a) (hO : ShS T G a2) (h1 : a2 ≠ a) (h2 : a2 ≠ a + 1) (h3 : a2 + 1 ≠ a)  : OkV T mX3_become (d + 1) [.ref a, .ref a2] I G (fun I' G' => (∀ w, w < 2 → I' a w = I a2 w) ∧ (∀ i, i < 24 → I' (a + 1) i = I (a2 + 1) i) ∧ Fr (P2 a) I I' ∧ G' = G) := by
  refine Ok_of (own := RX3) (by decide) rfl (cat1 rfl) (Nat.le_of_ble_eq_true rfl) ?_
  show Ex T RX3 cX3_become 2 (d + 1) _ 0 [some (.ref a), some (.ref a2)] [] I G (0, 0)
  refine Ex_aload_n dX3_become_0 rfl ?_
  refine Ex_aload_n dX3_become_1 rfl ?_
  refine Ex_geti dX3_become_2 fX3_9 hO.1 ?_
  refine Ex_puti dX3_become_5 fX3_9 rfl rfl rfl hS.1 ?_
  refine Ex_aload_n dX3_become_8 rfl ?_
  refine Ex_aload_n dX3_become_9 rfl ?_
  refine Ex_geti dX3_become_10 fX3_19 hO.1 ?_
  rw [setI_a h1]
  refine Ex_puti dX3_become_13 fX3_19 rfl rfl rfl hS.1 ?_
  refine Ex_aload_n dX3_become_16 rfl ?_
  refine Ex_getr dX3_become_17 fX3_15 hO.1 hO.2.1 ?_
  refine Ex_iconst (v := nI 0) dX3_become_20 (by rfl) ?_
  refine Ex_aload_n dX3_become_21 rfl ?_
  refine Ex_getr dX3_become_22 fX3_15 hS.1 hS.2.1 ?_
  refine Ex_iconst (v := nI 0) dX3_become_25 (by rfl) ?_
  refine Ex_bipush (v := nI 24) dX3_become_26 (by rfl) ?_
  refine Ex_copy dX3_become_28 sX3_28 (Nat.le_of_ble_eq_true rfl) hO.2.2.1 hS.2.2.1 rfl rfl rfl (by rw [hO.2.2.2]; omega) (by rw [hS.2.2.2]; omega) (by rw [hO.2.2.2]; decide) (by rw [hS.2.2.2]; decide) ?_
  refine Ex_vret dX3_become_31 ?_
  refine ⟨rfl, fun w hw => ?_, fun i hi => ?_, ?_, rfl⟩
  · rw [cpyI_n (by omega)]
    rcases (show w = 0 ∨ w = 1 by omega) with rfl | rfl
    · rw [setI_n (by omega), setI_s]
    · rw [setI_s]
  · rw [cpyI_s, pk_cpy_in (by omega) (by omega), setI_a h3, setI_a h3, Nat.sub_zero, Nat.zero_add]
  · exact ((Fr.refl.si (Or.inl rfl)).si (Or.inl rfl)).cp (Or.inr rfl)
set_option maxRecDepth 100000 in
set_option maxHeartbeats 4000000 in
theorem c3_isNumber {T : TC} {I : MI} {G : MG} (d : Nat) {a : Nat} (hS : ShS T G a) (k : Nat) (hk : k < 24) : OkP T mX3_isNumber (d) [.ref a, .int (nI k)] I G (bI (¬ I (a + 1) k = cNONE)) := by
  refine Ok_of (own := RX3) (by decide) rfl (cat1 rfl) (Nat.le_of_ble_eq_true rfl) ?_
  show Ex T RX3 cX3_isNumber 2 (d) _ 0 [some (.ref a), some (.int (nI k))] [] I G (0, 0)
  refine Ex_aload_n dX3_isNumber_0 rfl ?_
  refine Ex_getr dX3_isNumber_1 fX3_15 hS.1 hS.2.1 ?_
  refine Ex_iload_n dX3_isNumber_4 rfl ?_
  refine Ex_iald dX3_isNumber_5 hS.2.2.1 rfl (by rw [hS.2.2.2]; omega) (by rw [hS.2.2.2]; decide) ?_
  refine Ex_ldc dX3_isNumber_6 kX3_34 ?_
  refine Ex_icmp_eq (tgt := 15) dX3_isNumber_8 (by decide) (fun h8 => ?_) (fun h8 => ?_)
  · refine Ex_iconst (v := nI 0) dX3_isNumber_15 (by rfl) ?_
    refine Ex_iret dX3_isNumber_16 (by first | rfl | exact narrow_bI) ?_
    exact ⟨_, rfl, (bI_f (fun q => q h8)).symm, rfl, rfl⟩
  · refine Ex_iconst (v := nI 1) dX3_isNumber_11 (by rfl) ?_
    refine Ex_goto (tgt := 16) dX3_isNumber_12 (by decide) ?_
    refine Ex_iret dX3_isNumber_16 (by first | rfl | exact narrow_bI) ?_
    exact ⟨_, rfl, (bI_t h8).symm, rfl, rfl⟩
set_option maxRecDepth 100000 in
set_option maxHeartbeats 4000000 in
theorem l3_tellsDeeds {T : TC} {I : MI} {G : MG} {b : Nat × Nat} (d : Nat) {a : Nat} (hS : ShS T G a) (f : Nat → Int32) (z : Nat) (hz1 : I a 1 = nI z) (hz : z ≤ 24) (hf : ∀ k, k < z → I (a + 1) k = f k) : ∀ i k, k + i = z → rowP f k → Ex T RX3 cX3_tellsDeeds 2 (d + 1) (fm T "tellsDeeds" (some .boolean) (fun v I' G' => ∃ r, v = some (.int r) ∧ r = bI (rowP f z) ∧ I' = I ∧ G' = G)) 2 [some (.ref a), some (.int (nI k))] [] I G b := by
  intro i
  induction i with
  | zero =>
    intro k h0 hp
    have e0 : k = z := by omega
    subst e0
    refine Ex_iload_n dX3_tellsDeeds_2 rfl ?_
    refine Ex_aload_n dX3_tellsDeeds_3 rfl ?_
    refine Ex_geti dX3_tellsDeeds_4 fX3_19 hS.1 ?_
    refine Ex_top hz1 ?_
    refine Ex_icmp_geN (by omega) (by omega) (tgt := 32) dX3_tellsDeeds_7 (by decide) (fun h7 => ?_) (fun h7 => ?_)
    · refine Ex_iconst (v := nI 1) dX3_tellsDeeds_32 (by rfl) ?_
      refine Ex_iret dX3_tellsDeeds_33 (by first | rfl | exact narrow_bI) ?_
      exact ⟨_, rfl, (bI_t hp).symm, rfl, rfl⟩
    · omega
  | succ i ih =>
    intro k h0 hp
    refine Ex_iload_n dX3_tellsDeeds_2 rfl ?_
    refine Ex_aload_n dX3_tellsDeeds_3 rfl ?_
    refine Ex_geti dX3_tellsDeeds_4 fX3_19 hS.1 ?_
    refine Ex_top hz1 ?_
    refine Ex_icmp_geN (by omega) (by omega) (tgt := 32) dX3_tellsDeeds_7 (by decide) (fun h7 => ?_) (fun h7 => ?_)
    · omega
    · refine Ex_aload_n dX3_tellsDeeds_10 rfl ?_
      refine Ex_getr dX3_tellsDeeds_11 fX3_15 hS.1 hS.2.1 ?_
      refine Ex_iload_n dX3_tellsDeeds_14 rfl ?_
      refine Ex_iald dX3_tellsDeeds_15 hS.2.2.1 rfl (by rw [hS.2.2.2]; omega) (by rw [hS.2.2.2]; decide) ?_
      refine Ex_top (hf k (by omega)) ?_
      refine Ex_bipush (v := nI 10) dX3_tellsDeeds_16 (by rfl) ?_
      refine Ex_N2p dX3_tellsDeeds_18 sX3_35  (Nat.le_of_ble_eq_true rfl) (c8_isBelow d _ _) ?_
      refine Ex_if_neB (tgt := 26) dX3_tellsDeeds_21 (by decide) (fun h21 => ?_) (fun h21 => ?_)
      · first | refine Ex_iincN (m := 1) dX3_tellsDeeds_26 rfl rfl (by decide) rfl ?_ | refine Ex_iinc dX3_tellsDeeds_26 rfl rfl (by decide) rfl ?_
        simp only [List.set_cons_zero, List.set_cons_succ]
        refine Ex_goto (tgt := 2) dX3_tellsDeeds_29 (by decide) ?_
        refine ih (k + 1) (by omega) (fun x hx => ?_)
        by_cases e : x = k
        · subst e; exact h21
        · exact hp x (by omega)
      · refine Ex_iconst (v := nI 0) dX3_tellsDeeds_24 (by rfl) ?_
        refine Ex_iret dX3_tellsDeeds_25 (by first | rfl | exact narrow_bI) ?_
        exact ⟨_, rfl, (bI_f (fun q => h21 (q k (by omega)))).symm, rfl, rfl⟩
set_option maxRecDepth 100000 in
set_option maxHeartbeats 4000000 in
theorem c3_tellsDeeds {T : TC} {I : MI} {G : MG} (d : Nat) {a : Nat} (hS : ShS T G a) (f : Nat → Int32) (z : Nat) (hz1 : I a 1 = nI z) (hz : z ≤ 24) (hf : ∀ k, k < z → I (a + 1) k = f k) : OkP T mX3_tellsDeeds (d + 1) [.ref a] I G (bI (rowP f z)) := by
  refine Ok_of (own := RX3) (by decide) rfl (cat1 rfl) (Nat.le_of_ble_eq_true rfl) ?_
  show Ex T RX3 cX3_tellsDeeds 2 (d + 1) _ 0 [some (.ref a), none] [] I G (0, 0)
  refine Ex_iconst (v := nI 0) dX3_tellsDeeds_0 (by rfl) ?_
  refine Ex_istore_n dX3_tellsDeeds_1 (by decide) rfl ?_
  simp only [st_n0, st_n1, st_n2, st_n3, List.set_cons_zero, List.set_cons_succ]
  exact l3_tellsDeeds d hS f z hz1 hz hf z 0 (by omega) (fun x hx => absurd hx (by omega))
abbrev hpP (z : Nat) (p m : Int32) : Prop := 0 ≤ p.toInt ∧ 0 ≤ m.toInt ∧ p.toInt + m.toInt ≤ z
theorem sub_z {z : Nat} {m : Int32} (hz : z ≤ 24) (h0 : 0 ≤ m.toInt) (h1 : m.toInt ≤ z) : (nI z - m).toInt = z - m.toInt := by
  obtain ⟨j, hj, rfl⟩ := nI_of (x := m) (by rw [i_lt]; have := iz_0; omega)
  rw [nI_toInt hj] at h1 ⊢
  rw [pk_sub (by omega), nI_toInt (by omega)]
  omega
set_option maxRecDepth 100000 in
set_option maxHeartbeats 4000000 in
theorem c3_hasPlaces {T : TC} {I : MI} {G : MG} (d : Nat) {a : Nat} (hS : ShS T G a) (p m : Int32) (z : Nat) (hz1 : I a 1 = nI z) (hz : z ≤ 24) : OkP T mX3_hasPlaces (d) [.ref a, .int p, .int m] I G (bI (hpP z p m)) := by
  refine Ok_of (own := RX3) (by decide) rfl (cat1 rfl) (Nat.le_of_ble_eq_true rfl) ?_
  show Ex T RX3 cX3_hasPlaces 3 (d) _ 0 [some (.ref a), some (.int p), some (.int m)] [] I G (0, 0)
  refine Ex_iload_n dX3_hasPlaces_0 rfl ?_
  refine Ex_if_lt (tgt := 30) dX3_hasPlaces_1 (by decide) (fun h1 => ?_) (fun h1 => ?_)
  · refine Ex_iconst (v := nI 0) dX3_hasPlaces_30 (by rfl) ?_
    refine Ex_iret dX3_hasPlaces_31 (by first | rfl | exact narrow_bI) ?_
    exact ⟨_, rfl, (bI_f (fun q => by rw [i_lt] at h1; have := iz_0; omega)).symm, rfl, rfl⟩
  · refine Ex_iload_n dX3_hasPlaces_4 rfl ?_
    refine Ex_if_lt (tgt := 30) dX3_hasPlaces_5 (by decide) (fun h5 => ?_) (fun h5 => ?_)
    · refine Ex_iconst (v := nI 0) dX3_hasPlaces_30 (by rfl) ?_
      refine Ex_iret dX3_hasPlaces_31 (by first | rfl | exact narrow_bI) ?_
      exact ⟨_, rfl, (bI_f (fun q => by rw [i_lt] at h5; have := iz_0; omega)).symm, rfl, rfl⟩
    · refine Ex_iload_n dX3_hasPlaces_8 rfl ?_
      refine Ex_aload_n dX3_hasPlaces_9 rfl ?_
      refine Ex_geti dX3_hasPlaces_10 fX3_19 hS.1 ?_
      refine Ex_top hz1 ?_
      refine Ex_icmp_gt (tgt := 30) dX3_hasPlaces_13 (by decide) (fun h13 => ?_) (fun h13 => ?_)
      · refine Ex_iconst (v := nI 0) dX3_hasPlaces_30 (by rfl) ?_
        refine Ex_iret dX3_hasPlaces_31 (by first | rfl | exact narrow_bI) ?_
        exact ⟨_, rfl, (bI_f (fun q => by rw [i_lt, nI_toInt (by omega)] at h13; omega)).symm, rfl, rfl⟩
      · refine Ex_iload_n dX3_hasPlaces_16 rfl ?_
        refine Ex_aload_n dX3_hasPlaces_17 rfl ?_
        refine Ex_geti dX3_hasPlaces_18 fX3_19 hS.1 ?_
        refine Ex_top hz1 ?_
        refine Ex_iload_n dX3_hasPlaces_21 rfl ?_
        refine Ex_isub dX3_hasPlaces_22 ?_
        refine Ex_icmp_gt (tgt := 30) dX3_hasPlaces_23 (by decide) (fun h23 => ?_) (fun h23 => ?_)
        · refine Ex_iconst (v := nI 0) dX3_hasPlaces_30 (by rfl) ?_
          refine Ex_iret dX3_hasPlaces_31 (by first | rfl | exact narrow_bI) ?_
          rw [i_lt] at h1 h5
          rw [i_lt, nI_toInt (by omega)] at h13
          rw [i_lt, sub_z hz (by have := iz_0; omega) (by omega)] at h23
          exact ⟨_, rfl, (bI_f (fun q => by omega)).symm, rfl, rfl⟩
        · refine Ex_iconst (v := nI 1) dX3_hasPlaces_26 (by rfl) ?_
          refine Ex_goto (tgt := 31) dX3_hasPlaces_27 (by decide) ?_
          refine Ex_iret dX3_hasPlaces_31 (by first | rfl | exact narrow_bI) ?_
          rw [i_lt] at h1 h5
          rw [i_lt, nI_toInt (by omega)] at h13
          rw [i_lt, sub_z hz (by have := iz_0; omega) (by omega)] at h23
          exact ⟨_, rfl, (bI_t ⟨by have := iz_0; omega, by have := iz_0; omega, by omega⟩).symm, rfl, rfl⟩
set_option maxRecDepth 100000 in
set_option maxHeartbeats 4000000 in
theorem c4_refusalAs {T : TC} {I : MI} {G : MG} (d : Nat) {a : Nat} (hS : Is T G a 4) (w : Int32)  : OkP T mX4_refusalAs (d) [.ref a, .int w] I G (if I a 0 = 0 then cNOTHING else if I a 0 = w then nI 0 else cKIND) := by
  refine Ok_of (own := RX4) (by decide) rfl (cat1 rfl) (Nat.le_of_ble_eq_true rfl) ?_
  show Ex T RX4 cX4_refusalAs 2 (d) _ 0 [some (.ref a), some (.int w)] [] I G (0, 0)
  refine Ex_aload_n dX4_refusalAs_0 rfl ?_
  refine Ex_geti dX4_refusalAs_1 fX4_9 hS ?_
  refine Ex_if_ne (tgt := 10) dX4_refusalAs_4 (by decide) (fun h4 => ?_) (fun h4 => ?_)
  · refine Ex_aload_n dX4_refusalAs_10 rfl ?_
    refine Ex_geti dX4_refusalAs_11 fX4_9 hS ?_
    refine Ex_iload_n dX4_refusalAs_14 rfl ?_
    refine Ex_icmp_ne (tgt := 22) dX4_refusalAs_15 (by decide) (fun h15 => ?_) (fun h15 => ?_)
    · refine Ex_ldc dX4_refusalAs_22 kX4_30 ?_
      refine Ex_iret dX4_refusalAs_24 (by first | rfl | exact narrow_bI) ?_
      exact ⟨_, rfl, (by rw [if_neg h4, if_neg h15]), rfl, rfl⟩
    · refine Ex_iconst (v := nI 0) dX4_refusalAs_18 (by rfl) ?_
      refine Ex_goto (tgt := 24) dX4_refusalAs_19 (by decide) ?_
      refine Ex_iret dX4_refusalAs_24 (by first | rfl | exact narrow_bI) ?_
      exact ⟨_, rfl, (by rw [if_neg h4, if_pos (h15)]), rfl, rfl⟩
  · refine Ex_ldc dX4_refusalAs_7 kX4_29 ?_
    refine Ex_iret dX4_refusalAs_9 (by first | rfl | exact narrow_bI) ?_
    exact ⟨_, rfl, (if_pos (h4)).symm, rfl, rfl⟩
/-! the tape -/
def TpS (T : TC) (G : MG) (a : Nat) : Prop := Is T G a 6 ∧ gR G a 0 = some (a + 1) ∧ Is T G (a + 1) 10 ∧ gN G (a + 1) = 96
def shI : Nat → Int32
  | 0 => nI 24
  | 1 => nI 16
  | 2 => nI 8
  | 3 => nI 0
  | _ => (-8)
def cB (word : Int32) (k : Nat) : Int32 := (word.toUInt32 >>> ((shI k).toUInt32 &&& Int32.toUInt32 31)).toInt32 &&& nI 255
def tpW (f : Nat → Int32) (tp : Nat) (word : Int32) (k : Nat) : Nat → Int32 := fun j => if tp ≤ j ∧ j < tp + k then cB word (j - tp) else f j
theorem tpW_s {f : Nat → Int32} {tp : Nat} {word : Int32} {k : Nat} : upd (tpW f tp word k) (tp + k) (cB word k) = tpW f tp word (k + 1) := by
  funext j
  unfold tpW
  by_cases e : j = tp + k
  · subst e; rw [upd_s, if_pos (by omega)]; congr 1; omega
  · rw [upd_n e]
    by_cases h : tp ≤ j ∧ j < tp + k
    · rw [if_pos h, if_pos (by omega)]
    · rw [if_neg h, if_neg (by omega)]
theorem tpW_0 {f : Nat → Int32} {tp : Nat} {word : Int32} : tpW f tp word 0 = f := by
  funext j
  exact if_neg (by omega)
theorem shI_s {k : Nat} (h : k < 4) : shI k + Int32.ofInt (-8) = shI (k + 1) := by
  rcases w4 h with rfl | rfl | rfl | rfl <;> decide
theorem shI_p {k : Nat} (h : k < 4) : ¬ shI k < 0 := by
  rcases w4 h with rfl | rfl | rfl | rfl <;> decide
set_option maxRecDepth 100000 in
set_option maxHeartbeats 4000000 in
theorem l6_addBytes {T : TC} {I : MI} {G : MG} {F : FinT} {b : Nat × Nat} (d : Nat) {a : Nat} (hS : TpS T G a) (word : Int32) (tp : Nat) (ht : tp + 4 ≤ 96) (kx : Ex T RX6 cX6_addBytes 3 (d) F 3 [some (.ref a), some (.int word), some (.int (shI 4))] [] (rowI (rowI I (a + 1) (tpW (I (a + 1)) tp word 4)) a (upd (I a) 1 (nI (tp + 4)))) G b) : ∀ i k, k + i = 4  → Ex T RX6 cX6_addBytes 3 (d) F 3 [some (.ref a), some (.int word), some (.int (shI k))] [] (rowI (rowI I (a + 1) (tpW (I (a + 1)) tp word k)) a (upd (I a) 1 (nI (tp + k)))) G b := by
  intro i
  induction i with
  | zero => intro k h0; have e0 : k = 4 := by omega
            subst e0; exact kx
  | succ i ih0 =>
    intro k h0
    have ih := ih0 (k + 1)
    refine Ex_iload_n dX6_addBytes_3 rfl ?_
    refine Ex_if_lt (tgt := 48) dX6_addBytes_4 (by decide) (fun h4 => ?_) (fun h4 => ?_)
    · exact absurd h4 (shI_p (by omega))
    · refine Ex_aload_n dX6_addBytes_7 rfl ?_
      refine Ex_geti dX6_addBytes_8 fX6_15 hS.1 ?_
      refine Ex_top (show _ = nI (tp + k) by first | (rw [rowI_s, upd_s]) | (rw [setI_a (by omega), rowI_s, upd_s])) ?_
      refine Ex_bipush (v := nI 96) dX6_addBytes_11 (by rfl) ?_
      refine Ex_icmp_geN (by omega) (by omega) (tgt := 48) dX6_addBytes_13 (by decide) (fun h13 => ?_) (fun h13 => ?_)
      · omega
      · refine Ex_aload_n dX6_addBytes_16 rfl ?_
        refine Ex_getr dX6_addBytes_17 fX6_9 hS.1 hS.2.1 ?_
        refine Ex_aload_n dX6_addBytes_20 rfl ?_
        refine Ex_geti dX6_addBytes_21 fX6_15 hS.1 ?_
        refine Ex_top (show _ = nI (tp + k) by first | (rw [rowI_s, upd_s]) | (rw [setI_a (by omega), rowI_s, upd_s])) ?_
        refine Ex_iload_n dX6_addBytes_24 rfl ?_
        refine Ex_iload_n dX6_addBytes_25 rfl ?_
        refine Ex_iushr dX6_addBytes_26 ?_
        refine Ex_sipush (v := nI 255) dX6_addBytes_27 (by rfl) ?_
        refine Ex_iand dX6_addBytes_30 ?_
        refine Ex_top (show _ = cB word k from rfl) ?_
        refine Ex_iast dX6_addBytes_31 hS.2.2.1 rfl (by rw [hS.2.2.2]; omega) (by rw [hS.2.2.2]; decide) ?_
        refine Ex_aload_n dX6_addBytes_32 rfl ?_
        refine Ex_dup dX6_addBytes_33 rfl ?_
        refine Ex_geti dX6_addBytes_34 fX6_15 hS.1 ?_
        refine Ex_top (show _ = nI (tp + k) by first | (rw [rowI_s, upd_s]) | (rw [setI_a (by omega), rowI_s, upd_s])) ?_
        refine Ex_iconst (v := nI 1) dX6_addBytes_37 (by rfl) ?_
        first | with_reducible refine Ex_iaddN dX6_addBytes_38 ?_ | refine Ex_iadd dX6_addBytes_38 ?_
        refine Ex_puti dX6_addBytes_39 fX6_15 rfl rfl rfl hS.1 ?_
        refine Ex_eqI (show _ = (rowI (rowI I (a + 1) (tpW (I (a + 1)) tp word (k + 1))) a (upd (I a) 1 (nI (tp + (k + 1))))) by
          rw [setI_row, setI_row, rowI_n (show a + 1 ≠ a by omega), rowI_s, rowI_n (show a ≠ a + 1 by omega), rowI_s, tpW_s]
          funext x
          by_cases e1 : x = a
          · subst e1; rw [rowI_s, rowI_s]; funext j; by_cases e2 : j = 1 <;> simp [upd, e2, Nat.add_assoc]
          · rw [rowI_n e1, rowI_n e1]
            by_cases e3 : x = a + 1
            · subst e3; rw [rowI_s, rowI_s]
            · rw [rowI_n e3, rowI_n e3, rowI_n e1, rowI_n e3]) ?_
        refine Ex_iinc (v := shI (k + 1)) dX6_addBytes_42 rfl (shI_s (k := k) (by omega)) (by decide) rfl ?_
        simp only [List.set_cons_zero, List.set_cons_succ]
        refine Ex_goto (tgt := 3) dX6_addBytes_45 (by decide) ?_
        exact ih (by omega)
set_option maxRecDepth 100000 in
set_option maxHeartbeats 4000000 in
theorem c6_addBytes {T : TC} {I : MI} {G : MG} (d : Nat) {a : Nat} (hS : TpS T G a) (word : Int32) (tp : Nat) (ht : tp + 4 ≤ 96) (ht1 : I a 1 = nI tp) : OkV T mX6_addBytes (d) [.ref a, .int word] I G (fun I' G' => I' = (rowI (rowI I (a + 1) (tpW (I (a + 1)) tp word 4)) a (upd (I a) 1 (nI (tp + 4)))) ∧ G' = G) := by
  refine Ok_of (own := RX6) (by decide) rfl (cat1 rfl) (Nat.le_of_ble_eq_true rfl) ?_
  show Ex T RX6 cX6_addBytes 3 (d) _ 0 [some (.ref a), some (.int word), none] [] I G (0, 0)
  refine Ex_bipush (v := nI 24) dX6_addBytes_0 (by rfl) ?_
  refine Ex_istore_n dX6_addBytes_2 (by decide) rfl ?_
  simp only [st_n0, st_n1, st_n2, st_n3, List.set_cons_zero, List.set_cons_succ]
  refine Ex_eqI (show _ = (rowI (rowI I (a + 1) (tpW (I (a + 1)) tp word 0)) a (upd (I a) 1 (nI (tp + 0)))) by rw [tpW_0, rowI_self, Nat.add_zero, upd_same ht1, rowI_self]) ?_
  refine l6_addBytes d hS word tp ht ?_ 4 0 (by omega)
  refine Ex_iload_n dX6_addBytes_3 rfl ?_
  refine Ex_if_lt (tgt := 48) dX6_addBytes_4 (by decide) (fun h4 => ?_) (fun h4 => ?_)
  · refine Ex_vret dX6_addBytes_48 ?_
    exact ⟨rfl, rfl, rfl⟩
  · exact absurd (show shI 4 < 0 by decide) h4
/-! texts at work -/
def TeS (T : TC) (G : MG) (a n : Nat) : Prop := Is T G a 7 ∧ (gR G a 2 = some (a + 1) ∧ Is T G (a + 1) 10 ∧ gN G (a + 1) = n) ∧ (gR G a 3 = some (a + 2) ∧ Is T G (a + 2) 10 ∧ gN G (a + 2) = n)
def chN (c : Int32) : Nat := if c = (-1) then 124 else if c = (-2) then 38 else if c = (-3) then 60 else if c = (-4) then 61 else if c = (-5) then 62 else if c = (-6) then 43 else if c = (-7) then 45 else if c = (-8) then 42 else if c = (-9) then 47 else 33
def spI (c : Int32) : Int32 := if 0 ≤ c then c else nI (20000 + chN c)
def wkF (x a b : Int32) : Int32 := if x = nI 38 then bI (¬ a = 0 ∧ ¬ b = 0) else if x = nI 42 then a * b else if x = nI 43 then a + b else if x = nI 45 then a - b else if x = nI 47 then (if b = 0 then 0 else a / b) else if x = nI 60 then bI (a < b) else if x = nI 61 then bI (a = b) else if x = nI 62 then bI (b < a) else if x = nI 124 then bI (¬ a = 0 ∨ ¬ b = 0) else 0
theorem m9 {c : Int32} (h1 : (-9) ≤ c) (h2 : ¬ 0 ≤ c) : c = (-1) ∨ c = (-2) ∨ c = (-3) ∨ c = (-4) ∨ c = (-5) ∨ c = (-6) ∨ c = (-7) ∨ c = (-8) ∨ c = (-9) := by
  rw [i_le] at h1 h2
  have e0 := iz_0
  have e9 : (-9 : Int32).toInt = -9 := rfl
  rcases (show c.toInt = -1 ∨ c.toInt = -2 ∨ c.toInt = -3 ∨ c.toInt = -4 ∨ c.toInt = -5 ∨ c.toInt = -6 ∨ c.toInt = -7 ∨ c.toInt = -8 ∨ c.toInt = -9 by omega) with h | h | h | h | h | h | h | h | h
  · exact Or.inl ((i_eq _ _).mpr h)
  · exact Or.inr (Or.inl ((i_eq _ _).mpr h))
  · exact Or.inr (Or.inr (Or.inl ((i_eq _ _).mpr h)))
  · exact Or.inr (Or.inr (Or.inr (Or.inl ((i_eq _ _).mpr h))))
  · exact Or.inr (Or.inr (Or.inr (Or.inr (Or.inl ((i_eq _ _).mpr h)))))
  · exact Or.inr (Or.inr (Or.inr (Or.inr (Or.inr (Or.inl ((i_eq _ _).mpr h))))))
  · exact Or.inr (Or.inr (Or.inr (Or.inr (Or.inr (Or.inr (Or.inl ((i_eq _ _).mpr h)))))))
  · exact Or.inr (Or.inr (Or.inr (Or.inr (Or.inr (Or.inr (Or.inr (Or.inl ((i_eq _ _).mpr h))))))))
  · exact Or.inr (Or.inr (Or.inr (Or.inr (Or.inr (Or.inr (Or.inr (Or.inr ((i_eq _ _).mpr h))))))))
theorem wk_two {c a b : Int32} (h1 : (-9) ≤ c) (h2 : ¬ 0 ≤ c) : wkF (nI (chN c)) a b = twoF c a b := by
  rcases m9 h1 h2 with rfl | rfl | rfl | rfl | rfl | rfl | rfl | rfl | rfl <;> rfl
theorem chN_n33 {c : Int32} (h1 : (-9) ≤ c) (h2 : ¬ 0 ≤ c) : chN c ≠ 33 ∧ chN c < 125 := by
  rcases m9 h1 h2 with rfl | rfl | rfl | rfl | rfl | rfl | rfl | rfl | rfl <;> decide
theorem chN_le (c : Int32) : chN c < 125 := by
  unfold chN
  repeat (first | decide | split)
set_option maxRecDepth 100000 in
set_option maxHeartbeats 4000000 in
theorem c7_work {T : TC} {I : MI} {G : MG} (d : Nat) (x a b : Int32)  : OkP T mX7_work (d) [.int x, .int a, .int b] I G (wkF x a b) := by
  refine Ok_of (own := RX7) (by decide) rfl (cat1 rfl) (Nat.le_of_ble_eq_true rfl) ?_
  show Ex T RX7 cX7_work 3 (d) _ 0 [some (.int x), some (.int a), some (.int b)] [] I G (0, 0)
  refine Ex_iload_n dX7_work_0 rfl ?_
  by_cases hx1_0 : x = nI 38
  · refine Ex_lookup (tgt := 98) dX7_work_1 (by decide +kernel) (off := 97) (by rw [hx1_0]; decide +kernel) (by decide) ?_
    refine Ex_iload_n dX7_work_98 rfl ?_
    refine Ex_if_eq (tgt := 110) dX7_work_99 (by decide) (fun h99 => ?_) (fun h99 => ?_)
    · refine Ex_iconst (v := nI 0) dX7_work_110 (by rfl) ?_
      refine Ex_iret dX7_work_111 (by first | rfl | exact narrow_bI) ?_
      exact ⟨_, rfl, (by unfold wkF; rw [if_pos hx1_0]; exact (bI_f (fun q => q.1 h99)).symm), rfl, rfl⟩
    · refine Ex_iload_n dX7_work_102 rfl ?_
      refine Ex_if_eq (tgt := 110) dX7_work_103 (by decide) (fun h103 => ?_) (fun h103 => ?_)
      · refine Ex_iconst (v := nI 0) dX7_work_110 (by rfl) ?_
        refine Ex_iret dX7_work_111 (by first | rfl | exact narrow_bI) ?_
        exact ⟨_, rfl, (by unfold wkF; rw [if_pos hx1_0]; exact (bI_f (fun q => q.2 h103)).symm), rfl, rfl⟩
      · refine Ex_iconst (v := nI 1) dX7_work_106 (by rfl) ?_
        refine Ex_goto (tgt := 111) dX7_work_107 (by decide) ?_
        refine Ex_iret dX7_work_111 (by first | rfl | exact narrow_bI) ?_
        exact ⟨_, rfl, (by unfold wkF; rw [if_pos hx1_0]; exact (bI_t ⟨h99, h103⟩).symm), rfl, rfl⟩
  by_cases hx1_1 : x = nI 42
  · refine Ex_lookup (tgt := 153) dX7_work_1 (by decide +kernel) (off := 152) (by rw [hx1_1]; decide +kernel) (by decide) ?_
    refine Ex_iload_n dX7_work_153 rfl ?_
    refine Ex_iload_n dX7_work_154 rfl ?_
    first | with_reducible refine Ex_imulN dX7_work_155 ?_ | refine Ex_imul dX7_work_155 ?_
    refine Ex_iret dX7_work_156 (by first | rfl | exact narrow_bI) ?_
    exact ⟨_, rfl, (by unfold wkF; rw [if_neg hx1_0, if_pos hx1_1]), rfl, rfl⟩
  by_cases hx1_2 : x = nI 43
  · refine Ex_lookup (tgt := 145) dX7_work_1 (by decide +kernel) (off := 144) (by rw [hx1_2]; decide +kernel) (by decide) ?_
    refine Ex_iload_n dX7_work_145 rfl ?_
    refine Ex_iload_n dX7_work_146 rfl ?_
    first | with_reducible refine Ex_iaddN dX7_work_147 ?_ | refine Ex_iadd dX7_work_147 ?_
    refine Ex_iret dX7_work_148 (by first | rfl | exact narrow_bI) ?_
    exact ⟨_, rfl, (by unfold wkF; rw [if_neg hx1_0, if_neg hx1_1, if_pos hx1_2]), rfl, rfl⟩
  by_cases hx1_3 : x = nI 45
  · refine Ex_lookup (tgt := 149) dX7_work_1 (by decide +kernel) (off := 148) (by rw [hx1_3]; decide +kernel) (by decide) ?_
    refine Ex_iload_n dX7_work_149 rfl ?_
    refine Ex_iload_n dX7_work_150 rfl ?_
    refine Ex_isub dX7_work_151 ?_
    refine Ex_iret dX7_work_152 (by first | rfl | exact narrow_bI) ?_
    exact ⟨_, rfl, (by unfold wkF; rw [if_neg hx1_0, if_neg hx1_1, if_neg hx1_2, if_pos hx1_3]), rfl, rfl⟩
  by_cases hx1_4 : x = nI 47
  · refine Ex_lookup (tgt := 157) dX7_work_1 (by decide +kernel) (off := 156) (by rw [hx1_4]; decide +kernel) (by decide) ?_
    refine Ex_iload_n dX7_work_157 rfl ?_
    refine Ex_if_ne (tgt := 165) dX7_work_158 (by decide) (fun h158 => ?_) (fun h158 => ?_)
    · refine Ex_iload_n dX7_work_165 rfl ?_
      refine Ex_iload_n dX7_work_166 rfl ?_
      refine Ex_idiv dX7_work_167 h158 ?_
      refine Ex_iret dX7_work_168 (by first | rfl | exact narrow_bI) ?_
      exact ⟨_, rfl, (by unfold wkF; rw [if_neg hx1_0, if_neg hx1_1, if_neg hx1_2, if_neg hx1_3, if_pos hx1_4]; rw [if_neg h158]), rfl, rfl⟩
    · refine Ex_iconst (v := nI 0) dX7_work_161 (by rfl) ?_
      refine Ex_goto (tgt := 168) dX7_work_162 (by decide) ?_
      refine Ex_iret dX7_work_168 (by first | rfl | exact narrow_bI) ?_
      exact ⟨_, rfl, (by unfold wkF; rw [if_neg hx1_0, if_neg hx1_1, if_neg hx1_2, if_neg hx1_3, if_pos hx1_4]; rw [if_pos (h158)]; rfl), rfl, rfl⟩
  by_cases hx1_5 : x = nI 60
  · refine Ex_lookup (tgt := 112) dX7_work_1 (by decide +kernel) (off := 111) (by rw [hx1_5]; decide +kernel) (by decide) ?_
    refine Ex_iload_n dX7_work_112 rfl ?_
    refine Ex_iload_n dX7_work_113 rfl ?_
    refine Ex_icmp_ge (tgt := 121) dX7_work_114 (by decide) (fun h114 => ?_) (fun h114 => ?_)
    · refine Ex_iconst (v := nI 0) dX7_work_121 (by rfl) ?_
      refine Ex_iret dX7_work_122 (by first | rfl | exact narrow_bI) ?_
      exact ⟨_, rfl, (by unfold wkF; rw [if_neg hx1_0, if_neg hx1_1, if_neg hx1_2, if_neg hx1_3, if_neg hx1_4, if_pos hx1_5]; exact (bI_f (Int32.not_lt.mpr h114)).symm), rfl, rfl⟩
    · refine Ex_iconst (v := nI 1) dX7_work_117 (by rfl) ?_
      refine Ex_goto (tgt := 122) dX7_work_118 (by decide) ?_
      refine Ex_iret dX7_work_122 (by first | rfl | exact narrow_bI) ?_
      exact ⟨_, rfl, (by unfold wkF; rw [if_neg hx1_0, if_neg hx1_1, if_neg hx1_2, if_neg hx1_3, if_neg hx1_4, if_pos hx1_5]; exact (bI_t (Int32.not_le.mp h114)).symm), rfl, rfl⟩
  by_cases hx1_6 : x = nI 61
  · refine Ex_lookup (tgt := 123) dX7_work_1 (by decide +kernel) (off := 122) (by rw [hx1_6]; decide +kernel) (by decide) ?_
    refine Ex_iload_n dX7_work_123 rfl ?_
    refine Ex_iload_n dX7_work_124 rfl ?_
    refine Ex_icmp_ne (tgt := 132) dX7_work_125 (by decide) (fun h125 => ?_) (fun h125 => ?_)
    · refine Ex_iconst (v := nI 0) dX7_work_132 (by rfl) ?_
      refine Ex_iret dX7_work_133 (by first | rfl | exact narrow_bI) ?_
      exact ⟨_, rfl, (by unfold wkF; rw [if_neg hx1_0, if_neg hx1_1, if_neg hx1_2, if_neg hx1_3, if_neg hx1_4, if_neg hx1_5, if_pos hx1_6]; exact (bI_f h125).symm), rfl, rfl⟩
    · refine Ex_iconst (v := nI 1) dX7_work_128 (by rfl) ?_
      refine Ex_goto (tgt := 133) dX7_work_129 (by decide) ?_
      refine Ex_iret dX7_work_133 (by first | rfl | exact narrow_bI) ?_
      exact ⟨_, rfl, (by unfold wkF; rw [if_neg hx1_0, if_neg hx1_1, if_neg hx1_2, if_neg hx1_3, if_neg hx1_4, if_neg hx1_5, if_pos hx1_6]; exact (bI_t (h125)).symm), rfl, rfl⟩
  by_cases hx1_7 : x = nI 62
  · refine Ex_lookup (tgt := 134) dX7_work_1 (by decide +kernel) (off := 133) (by rw [hx1_7]; decide +kernel) (by decide) ?_
    refine Ex_iload_n dX7_work_134 rfl ?_
    refine Ex_iload_n dX7_work_135 rfl ?_
    refine Ex_icmp_le (tgt := 143) dX7_work_136 (by decide) (fun h136 => ?_) (fun h136 => ?_)
    · refine Ex_iconst (v := nI 0) dX7_work_143 (by rfl) ?_
      refine Ex_iret dX7_work_144 (by first | rfl | exact narrow_bI) ?_
      exact ⟨_, rfl, (by unfold wkF; rw [if_neg hx1_0, if_neg hx1_1, if_neg hx1_2, if_neg hx1_3, if_neg hx1_4, if_neg hx1_5, if_neg hx1_6, if_pos hx1_7]; exact (bI_f (Int32.not_lt.mpr h136)).symm), rfl, rfl⟩
    · refine Ex_iconst (v := nI 1) dX7_work_139 (by rfl) ?_
      refine Ex_goto (tgt := 144) dX7_work_140 (by decide) ?_
      refine Ex_iret dX7_work_144 (by first | rfl | exact narrow_bI) ?_
      exact ⟨_, rfl, (by unfold wkF; rw [if_neg hx1_0, if_neg hx1_1, if_neg hx1_2, if_neg hx1_3, if_neg hx1_4, if_neg hx1_5, if_neg hx1_6, if_pos hx1_7]; exact (bI_t (Int32.not_le.mp h136)).symm), rfl, rfl⟩
  by_cases hx1_8 : x = nI 124
  · refine Ex_lookup (tgt := 84) dX7_work_1 (by decide +kernel) (off := 83) (by rw [hx1_8]; decide +kernel) (by decide) ?_
    refine Ex_iload_n dX7_work_84 rfl ?_
    refine Ex_if_ne (tgt := 92) dX7_work_85 (by decide) (fun h85 => ?_) (fun h85 => ?_)
    · refine Ex_iconst (v := nI 1) dX7_work_92 (by rfl) ?_
      refine Ex_goto (tgt := 97) dX7_work_93 (by decide) ?_
      refine Ex_iret dX7_work_97 (by first | rfl | exact narrow_bI) ?_
      exact ⟨_, rfl, (by unfold wkF; rw [if_neg hx1_0, if_neg hx1_1, if_neg hx1_2, if_neg hx1_3, if_neg hx1_4, if_neg hx1_5, if_neg hx1_6, if_neg hx1_7, if_pos hx1_8]; exact (bI_t (Or.inl h85)).symm), rfl, rfl⟩
    · refine Ex_iload_n dX7_work_88 rfl ?_
      refine Ex_if_eq (tgt := 96) dX7_work_89 (by decide) (fun h89 => ?_) (fun h89 => ?_)
      · refine Ex_iconst (v := nI 0) dX7_work_96 (by rfl) ?_
        refine Ex_iret dX7_work_97 (by first | rfl | exact narrow_bI) ?_
        exact ⟨_, rfl, (by unfold wkF; rw [if_neg hx1_0, if_neg hx1_1, if_neg hx1_2, if_neg hx1_3, if_neg hx1_4, if_neg hx1_5, if_neg hx1_6, if_neg hx1_7, if_pos hx1_8]; exact (bI_f (fun q => q.elim (fun w => w (h85)) (fun w => w h89))).symm), rfl, rfl⟩
      · refine Ex_iconst (v := nI 1) dX7_work_92 (by rfl) ?_
        refine Ex_goto (tgt := 97) dX7_work_93 (by decide) ?_
        refine Ex_iret dX7_work_97 (by first | rfl | exact narrow_bI) ?_
        exact ⟨_, rfl, (by unfold wkF; rw [if_neg hx1_0, if_neg hx1_1, if_neg hx1_2, if_neg hx1_3, if_neg hx1_4, if_neg hx1_5, if_neg hx1_6, if_neg hx1_7, if_pos hx1_8]; exact (bI_t (Or.inr h89)).symm), rfl, rfl⟩
  refine Ex_lookup (tgt := 169) dX7_work_1 (by decide +kernel) (off := 168) (by simp only [Op.lookupswitch.offset]; rw [if_neg (lv_neS hx1_0 (by decide))]; rw [if_neg (lv_neS hx1_1 (by decide))]; rw [if_neg (lv_neS hx1_2 (by decide))]; rw [if_neg (lv_neS hx1_3 (by decide))]; rw [if_neg (lv_neS hx1_4 (by decide))]; rw [if_neg (lv_neS hx1_5 (by decide))]; rw [if_neg (lv_neS hx1_6 (by decide))]; rw [if_neg (lv_neS hx1_7 (by decide))]; rw [if_neg (lv_neS hx1_8 (by decide))]; done) (by decide) ?_
  refine Ex_iconst (v := nI 0) dX7_work_169 (by rfl) ?_
  refine Ex_iret dX7_work_170 (by first | rfl | exact narrow_bI) ?_
  exact ⟨_, rfl, (by unfold wkF; rw [if_neg hx1_0, if_neg hx1_1, if_neg hx1_2, if_neg hx1_3, if_neg hx1_4, if_neg hx1_5, if_neg hx1_6, if_neg hx1_7, if_neg hx1_8]; rfl), rfl, rfl⟩
theorem sp_lo {c : Int32} (h : spI c < nI 10000) : 0 ≤ c ∧ c < nI 10000 ∧ spI c = c := by
  unfold spI at *
  by_cases h0 : 0 ≤ c
  · rw [if_pos h0] at h ⊢; exact ⟨h0, h, rfl⟩
  · rw [if_neg h0] at h
    have := chN_le c
    exact absurd h (nI_nlt (by omega) (by omega))
theorem sp_mid {c : Int32} (h1 : ¬ spI c < nI 10000) (h : spI c < nI 20000) : 0 ≤ c ∧ ¬ c < nI 10000 ∧ spI c = c := by
  unfold spI at *
  by_cases h0 : 0 ≤ c
  · rw [if_pos h0] at h h1 ⊢; exact ⟨h0, h1, rfl⟩
  · rw [if_neg h0] at h
    have := chN_le c
    exact absurd h (nI_nlt (by omega) (by omega))
theorem sp_hi {c : Int32} {nm : Nat} {P Q : Prop} (hnm : nm ≤ 3) (hc : if 0 ≤ c then (c < nI 10000) ∨ ∃ i, i < nm ∧ c = nI (10000 + i) else if c = (-10) then P else Q) (h : ¬ spI c < nI 20000) : ¬ 0 ≤ c ∧ spI c = nI (20000 + chN c) := by
  unfold spI at *
  by_cases h0 : 0 ≤ c
  · rw [if_pos h0] at hc h
    exfalso
    rcases hc with hc | ⟨i, hi, rfl⟩
    · exact h (by rw [i_lt] at *; have e1 : (nI 10000).toInt = 10000 := rfl; have e2 : (nI 20000).toInt = 20000 := rfl; omega)
    · exact h (nI_lt (by omega) (by omega))
  · rw [if_neg h0]; exact ⟨h0, rfl⟩
set_option maxRecDepth 100000 in
set_option maxHeartbeats 4000000 in
theorem l7_gives {T : TC} {I : MI} {G : MG} {F : FinT} {b : Nat × Nat} (d : Nat) {a : Nat} (code : Nat → Int32) (N nm : Nat) (x1 x2 x3 : Int32) (hN : N ≤ 96) (hnm : nm ≤ 3) (hst : ∀ k, k < N → I (a + 1) k = spI (code k)) (hC : CdOk code nm N) (hS : TeS T G a N) (kx : ∀ f, SR f (evL code (fct x1 x2 x3) N) → Ex T RX7 cX7_gives 7 (d + 1) F 6 [some (.ref a), some (.int x1), some (.int x2), some (.int x3), some (.int (nI (dp code N))), some (.int (nI N)), none] [] (rowI I (a + 2) f) G b) : ∀ i k f, k + i = N → SR f (evL code (fct x1 x2 x3) k) → Ex T RX7 cX7_gives 7 (d + 1) F 6 [some (.ref a), some (.int x1), some (.int x2), some (.int x3), some (.int (nI (dp code k))), some (.int (nI k)), none] [] (rowI I (a + 2) f) G b := by
  intro i
  induction i with
  | zero => intro k f h0 hs; have e0 : k = N := by omega
            subst e0; exact kx f hs
  | succ i ih0 =>
    intro k f h0 hs
    have hc := hC.1 k (by omega)
    have hq := evL_len (fc := fct x1 x2 x3) hC k (by omega)
    have hqk := dp_le (code := code) k
    have ek : evL code (fct x1 x2 x3) (k + 1) = evSt (fct x1 x2 x3) (code k) (evL code (fct x1 x2 x3) k) := rfl
    have ed : dp code (k + 1) = if 0 ≤ code k then dp code k + 1 else if code k = (-10) then dp code k else dp code k - 1 := rfl
    have rg : ∀ f, rowI I (a + 2) f (a + 1) k = spI (code k) := fun f => by rw [rowI_n (by omega)]; exact hst k (by omega)
    generalize hcd : code k = c at hc ek ed rg
    generalize hL : evL code (fct x1 x2 x3) k = L at hs hq ek
    generalize hdq : dp code k = q at hq hqk ed hc ⊢
    refine Ex_iload dX7_gives_6 rfl ?_
    refine Ex_aload_n dX7_gives_8 rfl ?_
    refine Ex_getr dX7_gives_9 fX7_16 hS.1 hS.2.1.1 ?_
    refine Ex_alen dX7_gives_12 hS.2.1.2.1 (by decide) (by decide) (show _ = nI N by rw [hS.2.1.2.2]; rfl) ?_
    refine Ex_icmp_geN (by omega) (by omega) (tgt := 186) dX7_gives_13 (by decide) (fun h13 => ?_) (fun h13 => ?_)
    · omega
    · refine Ex_aload_n dX7_gives_16 rfl ?_
      refine Ex_getr dX7_gives_17 fX7_16 hS.1 hS.2.1.1 ?_
      refine Ex_iload dX7_gives_20 rfl ?_
      refine Ex_iald dX7_gives_22 hS.2.1.2.1 rfl (by rw [hS.2.1.2.2]; omega) (by rw [hS.2.1.2.2]; omega) ?_
      refine Ex_top (rg f) ?_
      refine Ex_istore dX7_gives_23 (by decide) rfl ?_
      simp only [List.set_cons_zero, List.set_cons_succ]
      refine Ex_iload dX7_gives_25 rfl ?_
      refine Ex_sipush (v := nI 10000) dX7_gives_27 (by rfl) ?_
      refine Ex_icmp_ge (tgt := 48) dX7_gives_30 (by decide) (fun h30 => ?_) (fun h30 => ?_)
      · refine Ex_iload dX7_gives_48 rfl ?_
        refine Ex_sipush (v := nI 20000) dX7_gives_50 (by rfl) ?_
        refine Ex_icmp_ge (tgt := 94) dX7_gives_53 (by decide) (fun h53 => ?_) (fun h53 => ?_)
        · obtain ⟨hc0, hc2⟩ := sp_hi hnm hc (Int32.not_lt.mpr h53)
          rw [if_neg hc0] at hc
          refine Ex_iload dX7_gives_94 rfl ?_
          refine Ex_sipush (v := nI 20033) dX7_gives_96 (by rfl) ?_
          refine Ex_icmp_ne (tgt := 137) dX7_gives_99 (by decide) (fun h99 => ?_) (fun h99 => ?_)
          · have hc1 : ¬ c = (-10) := fun e => h99 (by rw [hc2, e]; rfl)
            rw [if_neg hc1] at hc
            obtain ⟨y, x, r, rfl⟩ : ∃ y x r, L = y :: x :: r := by cases L with | nil => (simp at hq; omega) | cons y r => cases r with | nil => (simp at hq; omega) | cons x r => exact ⟨y, x, r, rfl⟩
            simp only [List.length_cons] at hq
            refine Ex_iload dX7_gives_137 rfl ?_
            refine Ex_iconst (v := nI 2) dX7_gives_139 (by rfl) ?_
            refine Ex_icmp_ltN (by omega) (by omega) (tgt := 180) dX7_gives_140 (by decide) (fun h140 => ?_) (fun h140 => ?_)
            · omega
            · refine Ex_iinc (v := nI (q - 1)) dX7_gives_143 rfl (by rw [nI_dec, pk_sub (by omega)]) (by decide) rfl ?_
              simp only [List.set_cons_zero, List.set_cons_succ]
              refine Ex_aload_n dX7_gives_146 rfl ?_
              refine Ex_getr dX7_gives_147 fX7_20 hS.1 hS.2.2.1 ?_
              refine Ex_iload dX7_gives_150 rfl ?_
              refine Ex_iconst (v := nI 1) dX7_gives_152 (by rfl) ?_
              refine Ex_isubN (by omega) dX7_gives_153 ?_
              refine Ex_iload dX7_gives_154 rfl ?_
              refine Ex_sipush (v := nI 20000) dX7_gives_156 (by rfl) ?_
              refine Ex_isub dX7_gives_159 ?_
              refine Ex_top (show _ = nI (chN c) by rw [hc2, pk_sub (by omega)]; congr 1; omega) ?_
              refine Ex_aload_n dX7_gives_160 rfl ?_
              refine Ex_getr dX7_gives_161 fX7_20 hS.1 hS.2.2.1 ?_
              refine Ex_iload dX7_gives_164 rfl ?_
              refine Ex_iconst (v := nI 1) dX7_gives_166 (by rfl) ?_
              refine Ex_isubN (by omega) dX7_gives_167 ?_
              refine Ex_iald dX7_gives_168 hS.2.2.2.1 rfl (by rw [hS.2.2.2.2]; omega) (by rw [hS.2.2.2.2]; omega) ?_
              refine Ex_top (show _ = x by rw [rowI_s, show q - 1 - 1 = r.length by omega]; exact hs.2.1) ?_
              refine Ex_aload_n dX7_gives_169 rfl ?_
              refine Ex_getr dX7_gives_170 fX7_20 hS.1 hS.2.2.1 ?_
              refine Ex_iload dX7_gives_173 rfl ?_
              refine Ex_iald dX7_gives_175 hS.2.2.2.1 rfl (by rw [hS.2.2.2.2]; omega) (by rw [hS.2.2.2.2]; omega) ?_
              refine Ex_top (show _ = y by rw [rowI_s, show q - 1 = r.length + 1 by omega]; exact hs.1) ?_
              refine Ex_S3p dX7_gives_176 sX7_23  (Nat.le_of_ble_eq_true rfl) ((c7_work d _ _ _).of (wk_two hc.2 hc0)) ?_
              refine Ex_iast dX7_gives_179 hS.2.2.2.1 rfl (by rw [hS.2.2.2.2]; omega) (by rw [hS.2.2.2.2]; omega) ?_
              first | refine Ex_iincN (m := 1) dX7_gives_180 rfl rfl (by decide) rfl ?_ | refine Ex_iinc dX7_gives_180 rfl rfl (by decide) rfl ?_
              simp only [List.set_cons_zero, List.set_cons_succ]
              refine Ex_goto (tgt := 6) dX7_gives_183 (by decide) ?_
              refine Ex_drop 6 ?_
              simp only [List.set_cons_zero, List.set_cons_succ]
              rw [setI_row, rowI_s, rowI_r]
              have e1 : dp code (k + 1) = q - 1 := by rw [ed, if_neg hc0, if_neg hc1]
              have key := ih0 (k + 1) (upd f (q - 1 - 1) (twoF c x y)) (by omega) (by rw [ek]; unfold evSt; rw [if_neg hc0, if_neg hc1]; show SR _ (twoF c x y :: r); rw [show q - 1 - 1 = r.length by omega]; exact SR_push hs.2.2)
              rw [e1] at key; exact key
          · have h99' := (nI_eq (by have := chN_le c; omega) (by omega)).mp (hc2 ▸ h99)
            have hc1 : c = (-10) := by
              by_cases e : c = (-10)
              · exact e
              · rw [if_neg e] at hc
                exact absurd (show chN c = 33 by omega) (chN_n33 hc.2 hc0).1
            rw [if_pos hc1] at hc
            obtain ⟨x, r, rfl⟩ : ∃ x r, L = x :: r := by cases L with | nil => (simp at hq; omega) | cons x r => exact ⟨x, r, rfl⟩
            simp only [List.length_cons] at hq
            refine Ex_iload dX7_gives_102 rfl ?_
            refine Ex_iconst (v := nI 1) dX7_gives_104 (by rfl) ?_
            refine Ex_icmp_ltN (by omega) (by omega) (tgt := 137) dX7_gives_105 (by decide) (fun h105 => ?_) (fun h105 => ?_)
            · omega
            · refine Ex_aload_n dX7_gives_108 rfl ?_
              refine Ex_getr dX7_gives_109 fX7_20 hS.1 hS.2.2.1 ?_
              refine Ex_iload dX7_gives_112 rfl ?_
              refine Ex_iconst (v := nI 1) dX7_gives_114 (by rfl) ?_
              refine Ex_isubN (by omega) dX7_gives_115 ?_
              refine Ex_aload_n dX7_gives_116 rfl ?_
              refine Ex_getr dX7_gives_117 fX7_20 hS.1 hS.2.2.1 ?_
              refine Ex_iload dX7_gives_120 rfl ?_
              refine Ex_iconst (v := nI 1) dX7_gives_122 (by rfl) ?_
              refine Ex_isubN (by omega) dX7_gives_123 ?_
              refine Ex_iald dX7_gives_124 hS.2.2.2.1 rfl (by rw [hS.2.2.2.2]; omega) (by rw [hS.2.2.2.2]; omega) ?_
              refine Ex_top (show _ = x by rw [rowI_s, show q - 1 = r.length by omega]; exact hs.1) ?_
              refine Ex_if_ne (tgt := 132) dX7_gives_125 (by decide) (fun h125 => ?_) (fun h125 => ?_)
              · refine Ex_iconst (v := nI 0) dX7_gives_132 (by rfl) ?_
                refine Ex_iast dX7_gives_133 hS.2.2.2.1 rfl (by rw [hS.2.2.2.2]; omega) (by rw [hS.2.2.2.2]; omega) ?_
                refine Ex_goto (tgt := 180) dX7_gives_134 (by decide) ?_
                first | refine Ex_iincN (m := 1) dX7_gives_180 rfl rfl (by decide) rfl ?_ | refine Ex_iinc dX7_gives_180 rfl rfl (by decide) rfl ?_
                simp only [List.set_cons_zero, List.set_cons_succ]
                refine Ex_goto (tgt := 6) dX7_gives_183 (by decide) ?_
                refine Ex_drop 6 ?_
                simp only [List.set_cons_zero, List.set_cons_succ]
                rw [setI_row, rowI_s, rowI_r]
                have e1 : dp code (k + 1) = q := by rw [ed, if_neg hc0, if_pos hc1]
                have key := ih0 (k + 1) (upd f (q - 1) (nI 0)) (by omega) (by rw [ek]; unfold evSt; rw [if_neg hc0, if_pos hc1]; have hb : bI (x = 0) = nI 0 := if_neg h125; show SR _ (bI (x = 0) :: r); rw [hb, show q - 1 = r.length by omega]; exact SR_push hs.2)
                rw [e1] at key; exact key
              · refine Ex_iconst (v := nI 1) dX7_gives_128 (by rfl) ?_
                refine Ex_goto (tgt := 133) dX7_gives_129 (by decide) ?_
                refine Ex_iast dX7_gives_133 hS.2.2.2.1 rfl (by rw [hS.2.2.2.2]; omega) (by rw [hS.2.2.2.2]; omega) ?_
                refine Ex_goto (tgt := 180) dX7_gives_134 (by decide) ?_
                first | refine Ex_iincN (m := 1) dX7_gives_180 rfl rfl (by decide) rfl ?_ | refine Ex_iinc dX7_gives_180 rfl rfl (by decide) rfl ?_
                simp only [List.set_cons_zero, List.set_cons_succ]
                refine Ex_goto (tgt := 6) dX7_gives_183 (by decide) ?_
                refine Ex_drop 6 ?_
                simp only [List.set_cons_zero, List.set_cons_succ]
                rw [setI_row, rowI_s, rowI_r]
                have e1 : dp code (k + 1) = q := by rw [ed, if_neg hc0, if_pos hc1]
                have key := ih0 (k + 1) (upd f (q - 1) (nI 1)) (by omega) (by rw [ek]; unfold evSt; rw [if_neg hc0, if_pos hc1]; have hb : bI (x = 0) = nI 1 := if_pos (h125); show SR _ (bI (x = 0) :: r); rw [hb, show q - 1 = r.length by omega]; exact SR_push hs.2)
                rw [e1] at key; exact key
        · obtain ⟨hc0, hc1, hc2⟩ := sp_mid (Int32.not_lt.mpr h30) (Int32.not_le.mp h53)
          refine Ex_aload_n dX7_gives_56 rfl ?_
          refine Ex_getr dX7_gives_57 fX7_20 hS.1 hS.2.2.1 ?_
          refine Ex_iload dX7_gives_60 rfl ?_
          refine Ex_iload dX7_gives_62 rfl ?_
          refine Ex_top hc2 ?_
          refine Ex_sipush (v := nI 10000) dX7_gives_64 (by rfl) ?_
          refine Ex_icmp_ne (tgt := 74) dX7_gives_67 (by decide) (fun h67 => ?_) (fun h67 => ?_)
          · refine Ex_iload dX7_gives_74 rfl ?_
            refine Ex_top hc2 ?_
            refine Ex_sipush (v := nI 10001) dX7_gives_76 (by rfl) ?_
            refine Ex_icmp_ne (tgt := 86) dX7_gives_79 (by decide) (fun h79 => ?_) (fun h79 => ?_)
            · refine Ex_iload_n dX7_gives_86 rfl ?_
              refine Ex_iast dX7_gives_87 hS.2.2.2.1 rfl (by rw [hS.2.2.2.2]; omega) (by rw [hS.2.2.2.2]; omega) ?_
              first | refine Ex_iincN (m := 1) dX7_gives_88 rfl rfl (by decide) rfl ?_ | refine Ex_iinc dX7_gives_88 rfl rfl (by decide) rfl ?_
              simp only [List.set_cons_zero, List.set_cons_succ]
              refine Ex_goto (tgt := 180) dX7_gives_91 (by decide) ?_
              first | refine Ex_iincN (m := 1) dX7_gives_180 rfl rfl (by decide) rfl ?_ | refine Ex_iinc dX7_gives_180 rfl rfl (by decide) rfl ?_
              simp only [List.set_cons_zero, List.set_cons_succ]
              refine Ex_goto (tgt := 6) dX7_gives_183 (by decide) ?_
              refine Ex_drop 6 ?_
              simp only [List.set_cons_zero, List.set_cons_succ]
              rw [setI_row, rowI_s, rowI_r]
              have e1 : dp code (k + 1) = q + 1 := by rw [ed, if_pos hc0]
              have ev : fct x1 x2 x3 c = x3 := by unfold fct; rw [if_neg h67, if_neg h79]
              have key := ih0 (k + 1) (upd f q x3) (by omega) (by rw [ek]; unfold evSt; rw [if_pos hc0, if_neg hc1, ev, ← hq]; exact SR_push hs)
              rw [e1] at key; exact key
            · refine Ex_iload_n dX7_gives_82 rfl ?_
              refine Ex_goto (tgt := 87) dX7_gives_83 (by decide) ?_
              refine Ex_iast dX7_gives_87 hS.2.2.2.1 rfl (by rw [hS.2.2.2.2]; omega) (by rw [hS.2.2.2.2]; omega) ?_
              first | refine Ex_iincN (m := 1) dX7_gives_88 rfl rfl (by decide) rfl ?_ | refine Ex_iinc dX7_gives_88 rfl rfl (by decide) rfl ?_
              simp only [List.set_cons_zero, List.set_cons_succ]
              refine Ex_goto (tgt := 180) dX7_gives_91 (by decide) ?_
              first | refine Ex_iincN (m := 1) dX7_gives_180 rfl rfl (by decide) rfl ?_ | refine Ex_iinc dX7_gives_180 rfl rfl (by decide) rfl ?_
              simp only [List.set_cons_zero, List.set_cons_succ]
              refine Ex_goto (tgt := 6) dX7_gives_183 (by decide) ?_
              have h79' := h79
              refine Ex_drop 6 ?_
              simp only [List.set_cons_zero, List.set_cons_succ]
              rw [setI_row, rowI_s, rowI_r]
              have e1 : dp code (k + 1) = q + 1 := by rw [ed, if_pos hc0]
              have ev : fct x1 x2 x3 c = x2 := by unfold fct; rw [if_neg h67, if_pos h79']
              have key := ih0 (k + 1) (upd f q x2) (by omega) (by rw [ek]; unfold evSt; rw [if_pos hc0, if_neg hc1, ev, ← hq]; exact SR_push hs)
              rw [e1] at key; exact key
          · refine Ex_iload_n dX7_gives_70 rfl ?_
            refine Ex_goto (tgt := 87) dX7_gives_71 (by decide) ?_
            refine Ex_iast dX7_gives_87 hS.2.2.2.1 rfl (by rw [hS.2.2.2.2]; omega) (by rw [hS.2.2.2.2]; omega) ?_
            first | refine Ex_iincN (m := 1) dX7_gives_88 rfl rfl (by decide) rfl ?_ | refine Ex_iinc dX7_gives_88 rfl rfl (by decide) rfl ?_
            simp only [List.set_cons_zero, List.set_cons_succ]
            refine Ex_goto (tgt := 180) dX7_gives_91 (by decide) ?_
            first | refine Ex_iincN (m := 1) dX7_gives_180 rfl rfl (by decide) rfl ?_ | refine Ex_iinc dX7_gives_180 rfl rfl (by decide) rfl ?_
            simp only [List.set_cons_zero, List.set_cons_succ]
            refine Ex_goto (tgt := 6) dX7_gives_183 (by decide) ?_
            have h67' := h67
            refine Ex_drop 6 ?_
            simp only [List.set_cons_zero, List.set_cons_succ]
            rw [setI_row, rowI_s, rowI_r]
            have e1 : dp code (k + 1) = q + 1 := by rw [ed, if_pos hc0]
            have ev : fct x1 x2 x3 c = x1 := by unfold fct; rw [if_pos h67']
            have key := ih0 (k + 1) (upd f q x1) (by omega) (by rw [ek]; unfold evSt; rw [if_pos hc0, if_neg hc1, ev, ← hq]; exact SR_push hs)
            rw [e1] at key; exact key
      · obtain ⟨hc0, hc1, hc2⟩ := sp_lo (Int32.not_le.mp h30)
        refine Ex_aload_n dX7_gives_33 rfl ?_
        refine Ex_getr dX7_gives_34 fX7_20 hS.1 hS.2.2.1 ?_
        refine Ex_iload dX7_gives_37 rfl ?_
        refine Ex_iload dX7_gives_39 rfl ?_
        refine Ex_top hc2 ?_
        refine Ex_iast dX7_gives_41 hS.2.2.2.1 rfl (by rw [hS.2.2.2.2]; omega) (by rw [hS.2.2.2.2]; omega) ?_
        first | refine Ex_iincN (m := 1) dX7_gives_42 rfl rfl (by decide) rfl ?_ | refine Ex_iinc dX7_gives_42 rfl rfl (by decide) rfl ?_
        simp only [List.set_cons_zero, List.set_cons_succ]
        refine Ex_goto (tgt := 180) dX7_gives_45 (by decide) ?_
        first | refine Ex_iincN (m := 1) dX7_gives_180 rfl rfl (by decide) rfl ?_ | refine Ex_iinc dX7_gives_180 rfl rfl (by decide) rfl ?_
        simp only [List.set_cons_zero, List.set_cons_succ]
        refine Ex_goto (tgt := 6) dX7_gives_183 (by decide) ?_
        refine Ex_drop 6 ?_
        simp only [List.set_cons_zero, List.set_cons_succ]
        rw [setI_row, rowI_s, rowI_r]
        have e1 : dp code (k + 1) = q + 1 := by rw [ed, if_pos hc0]
        have key := ih0 (k + 1) (upd f q c) (by omega) (by rw [ek]; unfold evSt; rw [if_pos hc0, if_pos hc1, ← hq]; exact SR_push hs)
        rw [e1] at key; exact key
set_option maxRecDepth 100000 in
set_option maxHeartbeats 4000000 in
theorem c7_gives {T : TC} {I : MI} {G : MG} (d : Nat) {a : Nat} (code : Nat → Int32) (N nm : Nat) (x1 x2 x3 : Int32) (hN : N ≤ 96) (hnm : nm ≤ 3) (hst : ∀ k, k < N → I (a + 1) k = spI (code k)) (hC : CdOk code nm N) (hS : TeS T G a N) : OkI T mX7_gives (d + 1) [.ref a, .int x1, .int x2, .int x3] I G (fun r I' G' => r = (evL code (fct x1 x2 x3) N).headD 0 ∧ Fr (fun x => x = a + 2) I I' ∧ G' = G) := by
  refine Ok_of (own := RX7) (by decide) rfl (cat1 rfl) (Nat.le_of_ble_eq_true rfl) ?_
  show Ex T RX7 cX7_gives 7 (d + 1) _ 0 [some (.ref a), some (.int x1), some (.int x2), some (.int x3), none, none, none] [] I G (0, 0)
  refine Ex_iconst (v := nI 0) dX7_gives_0 (by rfl) ?_
  refine Ex_istore dX7_gives_1 (by decide) rfl ?_
  simp only [List.set_cons_zero, List.set_cons_succ]
  refine Ex_iconst (v := nI 0) dX7_gives_3 (by rfl) ?_
  refine Ex_istore dX7_gives_4 (by decide) rfl ?_
  simp only [List.set_cons_zero, List.set_cons_succ]
  refine Ex_eqI (rowI_self (a := a + 2)).symm ?_
  refine l7_gives d code N nm x1 x2 x3 hN hnm hst hC hS ?_ N 0 _ (by omega) trivial
  intro f hf
  have hf0 : f 0 = (evL code (fct x1 x2 x3) N).headD 0 := by
    have hl := evL_len (fc := fct x1 x2 x3) hC N (Nat.le_refl _)
    rw [hC.2] at hl
    cases hL : evL code (fct x1 x2 x3) N with
    | nil => rw [hL] at hl; simp at hl
    | cons x r => rw [hL] at hl hf; cases r with | nil => exact hf.1 | cons y r => simp at hl
  have hN0 : 0 < N := by
    rcases Nat.eq_zero_or_pos N with e | e
    · have := hC.2; rw [e] at this; exact absurd this (by simp [dp])
    · exact e
  refine Ex_iload dX7_gives_6 rfl ?_
  refine Ex_aload_n dX7_gives_8 rfl ?_
  refine Ex_getr dX7_gives_9 fX7_16 hS.1 hS.2.1.1 ?_
  refine Ex_alen dX7_gives_12 hS.2.1.2.1 (by decide) (by decide) (show _ = nI N by rw [hS.2.1.2.2]; rfl) ?_
  refine Ex_icmp_geN (by omega) (by omega) (tgt := 186) dX7_gives_13 (by decide) (fun h13 => ?_) (fun h13 => ?_)
  · refine Ex_iload dX7_gives_186 rfl ?_
    refine Ex_if_le (tgt := 200) dX7_gives_188 (by decide) (fun h188 => ?_) (fun h188 => ?_)
    · exact absurd h188 (by rw [hC.2]; decide)
    · refine Ex_aload_n dX7_gives_191 rfl ?_
      refine Ex_getr dX7_gives_192 fX7_20 hS.1 hS.2.2.1 ?_
      refine Ex_iconst (v := nI 0) dX7_gives_195 (by rfl) ?_
      refine Ex_iald dX7_gives_196 hS.2.2.2.1 rfl (by rw [hS.2.2.2.2]; omega) (by rw [hS.2.2.2.2]; omega) ?_
      refine Ex_top (show _ = (evL code (fct x1 x2 x3) N).headD 0 by rw [rowI_s]; exact hf0) ?_
      refine Ex_goto (tgt := 201) dX7_gives_197 (by decide) ?_
      refine Ex_iret dX7_gives_201 (by first | rfl | exact narrow_bI) ?_
      exact ⟨_, rfl, rfl, Fr.row rfl, rfl⟩
  · omega
