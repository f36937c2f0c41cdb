/-! the class: surfaces -/
def SfS (T : TC) (G : MG) (a : Nat) : Prop := Is T G a 5 ∧ gR G a 4 = some (a + 1) ∧ Is T G (a + 1) 10 ∧ gN G (a + 1) = 12
def ShS (T : TC) (G : MG) (a : Nat) : Prop := Is T G a 3 ∧ gR G a 2 = some (a + 1) ∧ Is T G (a + 1) 10 ∧ gN G (a + 1) = 24
/-- a surface of the class holds surface s of g -/
def SfR (I : MI) (a : Nat) (g : Nat → Int32) (s : Nat) : Prop := (∀ w, w < 4 → I a w = g (8 + 17 * s + w)) ∧ ∀ i, i < mN g s → I (a + 1) i = g (8 + 17 * s + (4 + i))
def ShR (I : MI) (a : Nat) (srt : Int32) (z : Nat) (f : Nat → Int32) : Prop := I a 0 = srt ∧ I a 1 = nI z ∧ z ≤ 24 ∧ ∀ k, k < 24 → I (a + 1) k = f k
def P2 (a : Nat) : Nat → Prop := fun x => x = a ∨ x = a + 1
theorem Fr.si {P : Nat → Prop} {I J : MI} {a j : Nat} {v : Int32} (h : Fr P I J) (ha : P a) : Fr P I (setI J a j v) := fun x hx => (setI_a (show x ≠ a from fun e => hx (e ▸ ha))).trans (h x hx)
theorem Fr.cp {P : Nat → Prop} {I J : MI} {a0 a sp dp n : Nat} (h : Fr P I J) (ha : P a) : Fr P I (cpyI J a0 a sp dp n) := fun x hx => (cpyI_n (show x ≠ a from fun e => hx (e ▸ ha))).trans (h x hx)
theorem isB_nat {k m : Nat} (hk : k < 2 ^ 31) (hm : m < 2 ^ 31) : (0 ≤ nI k ∧ nI k < nI m) ↔ k < m := ⟨fun h => (nI_ltI hk hm).mp h.2, fun h => ⟨nI_pos' hk, nI_lt h hm⟩⟩
theorem mmw {v a b : Int32} (h : a ≤ b) : (if a < (if v < b then v else b) then (if v < b then v else b) else a) = wth v a b := by
  unfold wth
  rw [i_le] at h
  by_cases h1 : v < b
  · rw [if_pos h1]
    by_cases h2 : a < v
    · rw [if_pos h2, if_neg (by rw [i_lt] at *; omega), if_neg (by rw [i_lt] at *; omega)]
    · rw [if_neg h2]
      by_cases h3 : v < a
      · rw [if_pos h3]
      · rw [if_neg h3, if_neg (by rw [i_lt] at *; omega)]
        rw [i_eq]; rw [i_lt] at *; omega
  · rw [if_neg h1]
    by_cases h3 : v < a
    · rw [if_pos h3]
      have : ¬ a < b := by rw [i_lt] at *; omega
      rw [if_neg this]
    · rw [if_neg h3]
      by_cases h4 : b < v
      · rw [if_pos h4]
        by_cases h5 : a < b
        · rw [if_pos h5]
        · rw [if_neg h5, i_eq]; rw [i_lt] at *; omega
      · rw [if_neg h4]
        have e : v = b := by rw [i_eq]; rw [i_lt] at *; omega
        subst e
        by_cases h5 : a < v
        · rw [if_pos h5]
        · rw [if_neg h5, i_eq]; rw [i_lt] at *; omega
theorem mmw2 {v b : Int32} (h : nI 0 ≤ b) : (if nI 0 < (if b < v then b else v) then (if b < v then b else v) else nI 0) = wth v (nI 0) b := by
  rw [← mmw h]
  have e : (if b < v then b else v) = (if v < b then v else b) := by
    by_cases h1 : b < v
    · rw [if_pos h1, if_neg (by rw [i_lt] at *; omega)]
    · rw [if_neg h1]
      by_cases h2 : v < b
      · rw [if_pos h2]
      · rw [if_neg h2, i_eq]; rw [i_lt] at *; omega
  rw [e]
set_option maxRecDepth 100000 in
set_option maxHeartbeats 4000000 in
theorem c8_isBelow {T : TC} {I : MI} {G : MG} (d : Nat) (v n : Int32)  : OkP T mX8_isBelow (d) [.int v, .int n] I G (bI (0 ≤ v ∧ v < n)) := by
  refine Ok_of (own := RX8) (by decide) rfl (cat1 rfl) (Nat.le_of_ble_eq_true rfl) ?_
  show Ex T RX8 cX8_isBelow 2 (d) _ 0 [some (.int v), some (.int n)] [] I G (0, 0)
  refine Ex_iload_n dX8_isBelow_0 rfl ?_
  refine Ex_if_lt (tgt := 13) dX8_isBelow_1 (by decide) (fun h1 => ?_) (fun h1 => ?_)
  · refine Ex_iconst (v := nI 0) dX8_isBelow_13 (by rfl) ?_
    refine Ex_iret dX8_isBelow_14 (by first | rfl | exact narrow_bI) ?_
    exact ⟨_, rfl, (bI_f (fun q => absurd q.1 (Int32.not_le.mpr h1))).symm, rfl, rfl⟩
  · refine Ex_iload_n dX8_isBelow_4 rfl ?_
    refine Ex_iload_n dX8_isBelow_5 rfl ?_
    refine Ex_icmp_ge (tgt := 13) dX8_isBelow_6 (by decide) (fun h6 => ?_) (fun h6 => ?_)
    · refine Ex_iconst (v := nI 0) dX8_isBelow_13 (by rfl) ?_
      refine Ex_iret dX8_isBelow_14 (by first | rfl | exact narrow_bI) ?_
      exact ⟨_, rfl, (bI_f (fun q => absurd q.2 (Int32.not_lt.mpr h6))).symm, rfl, rfl⟩
    · refine Ex_iconst (v := nI 1) dX8_isBelow_9 (by rfl) ?_
      refine Ex_goto (tgt := 14) dX8_isBelow_10 (by decide) ?_
      refine Ex_iret dX8_isBelow_14 (by first | rfl | exact narrow_bI) ?_
      exact ⟨_, rfl, (bI_t ⟨Int32.not_lt.mp h1, Int32.not_le.mp h6⟩).symm, rfl, rfl⟩
set_option maxRecDepth 100000 in
set_option maxHeartbeats 4000000 in
theorem c8_within {T : TC} {I : MI} {G : MG} (d : Nat) (v a b : Int32) (h : a ≤ b) : OkP T mX8_within (d + 1) [.int v, .int a, .int b] I G (wth v a b) := by
  refine Ok_of (own := RX8) (by decide) rfl (cat1 rfl) (Nat.le_of_ble_eq_true rfl) ?_
  show Ex T RX8 cX8_within 3 (d + 1) _ 0 [some (.int v), some (.int a), some (.int b)] [] I G (0, 0)
  refine Ex_iload_n dX8_within_0 rfl ?_
  refine Ex_iload_n dX8_within_1 rfl ?_
  refine Ex_iload_n dX8_within_2 rfl ?_
  refine Ex_min dX8_within_3 sX8_140 (Nat.le_of_ble_eq_true rfl) ?_
  refine Ex_max dX8_within_6 sX8_327 (Nat.le_of_ble_eq_true rfl) ?_
  refine Ex_iret dX8_within_9 (by first | rfl | exact narrow_bI) ?_
  exact ⟨_, rfl, mmw h, rfl, rfl⟩
set_option maxRecDepth 100000 in
set_option maxHeartbeats 4000000 in
theorem c5_begin {T : TC} {I : MI} {G : MG} (d : Nat) {a : Nat} (hS : SfS T G a) (kind damp : Int32)  : OkV T mX5_begin (d) [.ref a, .int kind, .int damp] I G (fun I' G' => I' = rowI I a (upd (upd (upd (upd (I a) 0 kind) 1 damp) 2 (nI 0)) 3 (nI 0)) ∧ G' = G) := by
  refine Ok_of (own := RX5) (by decide) rfl (cat1 rfl) (Nat.le_of_ble_eq_true rfl) ?_
  show Ex T RX5 cX5_begin 3 (d) _ 0 [some (.ref a), some (.int kind), some (.int damp)] [] I G (0, 0)
  refine Ex_aload_n dX5_begin_0 rfl ?_
  refine Ex_iload_n dX5_begin_1 rfl ?_
  refine Ex_puti dX5_begin_2 fX5_15 rfl rfl rfl hS.1 ?_
  refine Ex_aload_n dX5_begin_5 rfl ?_
  refine Ex_iload_n dX5_begin_6 rfl ?_
  refine Ex_puti dX5_begin_7 fX5_19 rfl rfl rfl hS.1 ?_
  refine Ex_aload_n dX5_begin_10 rfl ?_
  refine Ex_iconst (v := nI 0) dX5_begin_11 (by rfl) ?_
  refine Ex_puti dX5_begin_12 fX5_22 rfl rfl rfl hS.1 ?_
  refine Ex_aload_n dX5_begin_15 rfl ?_
  refine Ex_iconst (v := nI 0) dX5_begin_16 (by rfl) ?_
  refine Ex_puti dX5_begin_17 fX5_25 rfl rfl rfl hS.1 ?_
  refine Ex_vret dX5_begin_20 ?_
  exact ⟨rfl, by simp only [setI_row, rowI_r, rowI_s], rfl⟩
set_option maxRecDepth 100000 in
set_option maxHeartbeats 4000000 in
theorem c5_become {T : TC} {I : MI} {G : MG} (d : Nat) {a a2 : Nat} (hS : SfS T G a) (hO : SfS T G a2) (h1 : a2 ≠ a) (h2 : a2 ≠ a + 1) (h3 : a2 + 1 ≠ a)  : OkV T mX5_become (d + 1) [.ref a, .ref a2] I G (fun I' G' => (∀ w, w < 4 → I' a w = I a2 w) ∧ (∀ i, i < 12 → I' (a + 1) i = I (a2 + 1) i) ∧ Fr (P2 a) I I' ∧ G' = G) := by
  refine Ok_of (own := RX5) (by decide) rfl (cat1 rfl) (Nat.le_of_ble_eq_true rfl) ?_
  show Ex T RX5 cX5_become 2 (d + 1) _ 0 [some (.ref a), some (.ref a2)] [] I G (0, 0)
  refine Ex_aload_n dX5_become_0 rfl ?_
  refine Ex_aload_n dX5_become_1 rfl ?_
  refine Ex_geti dX5_become_2 fX5_15 hO.1 ?_
  refine Ex_puti dX5_become_5 fX5_15 rfl rfl rfl hS.1 ?_
  refine Ex_aload_n dX5_become_8 rfl ?_
  refine Ex_aload_n dX5_become_9 rfl ?_
  refine Ex_geti dX5_become_10 fX5_19 hO.1 ?_
  rw [setI_a h1]
  refine Ex_puti dX5_become_13 fX5_19 rfl rfl rfl hS.1 ?_
  refine Ex_aload_n dX5_become_16 rfl ?_
  refine Ex_aload_n dX5_become_17 rfl ?_
  refine Ex_geti dX5_become_18 fX5_22 hO.1 ?_
  rw [setI_a h1, setI_a h1]
  refine Ex_puti dX5_become_21 fX5_22 rfl rfl rfl hS.1 ?_
  refine Ex_aload_n dX5_become_24 rfl ?_
  refine Ex_aload_n dX5_become_25 rfl ?_
  refine Ex_geti dX5_become_26 fX5_25 hO.1 ?_
  rw [setI_a h1, setI_a h1, setI_a h1]
  refine Ex_puti dX5_become_29 fX5_25 rfl rfl rfl hS.1 ?_
  refine Ex_aload_n dX5_become_32 rfl ?_
  refine Ex_getr dX5_become_33 fX5_9 hO.1 hO.2.1 ?_
  refine Ex_iconst (v := nI 0) dX5_become_36 (by rfl) ?_
  refine Ex_aload_n dX5_become_37 rfl ?_
  refine Ex_getr dX5_become_38 fX5_9 hS.1 hS.2.1 ?_
  refine Ex_iconst (v := nI 0) dX5_become_41 (by rfl) ?_
  refine Ex_bipush (v := nI 12) dX5_become_42 (by rfl) ?_
  refine Ex_copy dX5_become_44 sX5_28 (Nat.le_of_ble_eq_true rfl) hO.2.2.1 hS.2.2.1 rfl rfl rfl (by rw [hO.2.2.2]; omega) (by rw [hS.2.2.2]; omega) (by rw [hO.2.2.2]; decide) (by rw [hS.2.2.2]; decide) ?_
  refine Ex_vret dX5_become_47 ?_
  refine ⟨rfl, fun w hw => ?_, fun i hi => ?_, ?_, rfl⟩
  · rw [cpyI_n (by omega)]
    rcases (show w = 0 ∨ w = 1 ∨ w = 2 ∨ w = 3 by omega) with rfl | rfl | rfl | rfl
    · rw [setI_n (by omega), setI_n (by omega), setI_n (by omega), setI_s]
    · rw [setI_n (by omega), setI_n (by omega), setI_s]
    · rw [setI_n (by omega), setI_s]
    · rw [setI_s]
  · rw [cpyI_s, pk_cpy_in (by omega) (by omega), setI_a h3, setI_a h3, setI_a h3, setI_a h3, Nat.sub_zero, Nat.zero_add]
  · exact ((((Fr.refl.si (Or.inl rfl)).si (Or.inl rfl)).si (Or.inl rfl)).si (Or.inl rfl)).cp (Or.inr rfl)
theorem settle_3 {g : Nat → Int32} {s m : Nat} {e : Int32} : settleG g s m e (8 + 17 * s + 3) = if m < 12 then g (8 + 17 * s + 3) else g (8 + 17 * s + 3) + nI 1 := by
  unfold settleG
  split
  · exact setl_3
  · exact upd_s
theorem w4 {w : Nat} (h : w < 4) : w = 0 ∨ w = 1 ∨ w = 2 ∨ w = 3 := by omega
theorem sf_set1 {I : MI} {a s m : Nat} {g : Nat → Int32} {e : Int32} (hR : SfR I a g s) (hm : mN g s = m) (h : m < 12) : SfR (setI (setI I (a + 1) m e) a 2 (nI (m + 1))) a (settleG g s m e) s := by
  have e2 := settle_2 (g := g) (s := s) (e := e) (m := m) (by omega)
  rw [if_pos h] at e2
  have em : mN (settleG g s m e) s = m + 1 := mN_of e2 (by omega)
  refine ⟨fun w hw => ?_, fun i hi => ?_⟩
  · rcases w4 hw with rfl | rfl | rfl | rfl
    · rw [setI_n (by omega), setI_a (by omega), settle_w (by omega) (by omega)]; exact hR.1 0 (by omega)
    · rw [setI_n (by omega), setI_a (by omega), settle_w (by omega) (by omega)]; exact hR.1 1 (by omega)
    · rw [setI_s, e2]
    · rw [setI_n (by omega), setI_a (by omega), settle_3, if_pos h]; exact hR.1 3 (by omega)
  · rw [em] at hi
    rw [setI_a (by omega), settle_l (by omega) (by rw [if_pos h]; exact hi), if_pos h]
    by_cases e1 : i = m
    · rw [if_pos e1, e1, setI_s]
    · rw [if_neg e1, setI_n (by omega)]; exact hR.2 i (by omega)
theorem sf_set2 {I : MI} {a s : Nat} {g : Nat → Int32} {e : Int32} (hR : SfR I a g s) (hm : mN g s = 12) : SfR (setI (setI (setI (setI (cpyI I (a + 1) (a + 1) 1 0 11) a 2 (nI 11)) a 3 (g (8 + 17 * s + 3) + nI 1)) (a + 1) 11 e) a 2 (nI 12)) a (settleG g s 12 e) s := by
  have e2 := settle_2 (g := g) (s := s) (e := e) (m := 12) (by omega)
  rw [if_neg (by omega)] at e2
  have em : mN (settleG g s 12 e) s = 12 := mN_of e2 (by omega)
  refine ⟨fun w hw => ?_, fun i hi => ?_⟩
  · rcases w4 hw with rfl | rfl | rfl | rfl
    · rw [setI_n (by omega), setI_a (by omega), setI_n (by omega), setI_n (by omega), cpyI_n (by omega), settle_w (by omega) (by omega)]; exact hR.1 0 (by omega)
    · rw [setI_n (by omega), setI_a (by omega), setI_n (by omega), setI_n (by omega), cpyI_n (by omega), settle_w (by omega) (by omega)]; exact hR.1 1 (by omega)
    · rw [setI_s, e2]
    · rw [setI_n (by omega), setI_a (by omega), setI_s, settle_3, if_neg (by omega)]
  · rw [em] at hi
    rw [setI_a (by omega), settle_l (by omega) (by rw [if_neg (by omega)]; exact hi), if_neg (by omega)]
    by_cases e1 : i = 11
    · rw [if_pos e1, e1, setI_s]
    · rw [if_neg e1, setI_n (by omega), setI_a (by omega), setI_a (by omega), cpyI_s, pk_cpy_in (by omega) (by omega)]
      rw [hR.2 _ (by omega), Nat.sub_zero]
      congr 1; omega
theorem sf_take {I : MI} {a s m k : Nat} {g : Nat → Int32} (hR : SfR I a g s) (hm : mN g s = m) (h : m ≤ 12) (hk : k < m) : SfR (setI (cpyI I (a + 1) (a + 1) (k + 1) k (m - k - 1)) a 2 (nI (m - 1))) a (takeG g s m k) s := by
  have e2 : takeG g s m k (8 + 17 * s + 2) = nI (m - 1) := take_2
  have em : mN (takeG g s m k) s = m - 1 := mN_of e2 (by omega)
  refine ⟨fun w hw => ?_, fun i hi => ?_⟩
  · rcases w4 hw with rfl | rfl | rfl | rfl
    · rw [setI_n (by omega), cpyI_n (by omega), take_w (by omega)]; exact hR.1 0 (by omega)
    · rw [setI_n (by omega), cpyI_n (by omega), take_w (by omega)]; exact hR.1 1 (by omega)
    · rw [setI_s, e2]
    · rw [setI_n (by omega), cpyI_n (by omega), take_3]; exact hR.1 3 (by omega)
  · rw [em] at hi
    rw [setI_a (by omega), cpyI_s, take_l (by omega)]
    by_cases e1 : k ≤ i
    · rw [if_pos e1, pk_cpy_in (by omega) (by omega), hR.2 _ (by omega)]
      congr 1; omega
    · rw [if_neg e1, pk_cpy_out (by omega), hR.2 _ (by omega)]
set_option maxRecDepth 100000 in
set_option maxHeartbeats 4000000 in
theorem c5_settle {T : TC} {I : MI} {G : MG} (d : Nat) {a : Nat} (hS : SfS T G a) (g : Nat → Int32) (s m : Nat) (e : Int32) (hR : SfR I a g s) (hm1 : g (8 + 17 * s + 2) = nI m) (hmN : mN g s = m) (hm : m ≤ 12) : OkV T mX5_settle (d + 1) [.ref a, .int e] I G (fun I' G' => SfR I' a (settleG g s m e) s ∧ Fr (P2 a) I I' ∧ G' = G) := by
  refine Ok_of (own := RX5) (by decide) rfl (cat1 rfl) (Nat.le_of_ble_eq_true rfl) ?_
  show Ex T RX5 cX5_settle 2 (d + 1) _ 0 [some (.ref a), some (.int e)] [] I G (0, 0)
  refine Ex_aload_n dX5_settle_0 rfl ?_
  refine Ex_geti dX5_settle_1 fX5_22 hS.1 ?_
  have hm2 : I a 2 = nI m := (hR.1 2 (by omega)).trans hm1
  refine Ex_top hm2 ?_
  refine Ex_bipush (v := nI 12) dX5_settle_4 (by rfl) ?_
  refine Ex_icmp_ltN (by omega) (by omega) (tgt := 40) dX5_settle_6 (by decide) (fun h6 => ?_) (fun h6 => ?_)
  · refine Ex_aload_n dX5_settle_40 rfl ?_
    refine Ex_getr dX5_settle_41 fX5_9 hS.1 hS.2.1 ?_
    refine Ex_aload_n dX5_settle_44 rfl ?_
    refine Ex_geti dX5_settle_45 fX5_22 hS.1 ?_
    refine Ex_top (show _ = nI m by exact hm2) ?_
    refine Ex_iload_n dX5_settle_48 rfl ?_
    refine Ex_iast dX5_settle_49 hS.2.2.1 rfl (by rw [hS.2.2.2]; omega) (by rw [hS.2.2.2]; decide) ?_
    refine Ex_aload_n dX5_settle_50 rfl ?_
    refine Ex_dup dX5_settle_51 rfl ?_
    refine Ex_geti dX5_settle_52 fX5_22 hS.1 ?_
    refine Ex_top (show _ = nI m by rw [setI_a (by omega)]; exact hm2) ?_
    refine Ex_iconst (v := nI 1) dX5_settle_55 (by rfl) ?_
    first | with_reducible refine Ex_iaddN dX5_settle_56 ?_ | refine Ex_iadd dX5_settle_56 ?_
    refine Ex_puti dX5_settle_57 fX5_22 rfl rfl rfl hS.1 ?_
    refine Ex_vret dX5_settle_60 ?_
    exact ⟨rfl, sf_set1 hR hmN h6, (Fr.refl.si (Or.inr rfl)).si (Or.inl rfl), rfl⟩
  · refine Ex_aload_n dX5_settle_9 rfl ?_
    refine Ex_getr dX5_settle_10 fX5_9 hS.1 hS.2.1 ?_
    refine Ex_iconst (v := nI 1) dX5_settle_13 (by rfl) ?_
    refine Ex_aload_n dX5_settle_14 rfl ?_
    refine Ex_getr dX5_settle_15 fX5_9 hS.1 hS.2.1 ?_
    refine Ex_iconst (v := nI 0) dX5_settle_18 (by rfl) ?_
    refine Ex_bipush (v := nI 11) dX5_settle_19 (by rfl) ?_
    refine Ex_copy dX5_settle_21 sX5_28 (Nat.le_of_ble_eq_true rfl) hS.2.2.1 hS.2.2.1 rfl rfl rfl (by rw [hS.2.2.2]; omega) (by rw [hS.2.2.2]; omega) (by rw [hS.2.2.2]; decide) (by rw [hS.2.2.2]; decide) ?_
    refine Ex_aload_n dX5_settle_24 rfl ?_
    refine Ex_bipush (v := nI 11) dX5_settle_25 (by rfl) ?_
    refine Ex_puti dX5_settle_27 fX5_22 rfl rfl rfl hS.1 ?_
    refine Ex_aload_n dX5_settle_30 rfl ?_
    refine Ex_dup dX5_settle_31 rfl ?_
    refine Ex_geti dX5_settle_32 fX5_25 hS.1 ?_
    refine Ex_top (show _ = g (8 + 17 * s + 3) by rw [setI_n (by omega), cpyI_n (by omega)]; exact hR.1 3 (by omega)) ?_
    refine Ex_iconst (v := nI 1) dX5_settle_35 (by rfl) ?_
    first | with_reducible refine Ex_iaddN dX5_settle_36 ?_ | refine Ex_iadd dX5_settle_36 ?_
    refine Ex_puti dX5_settle_37 fX5_25 rfl rfl rfl hS.1 ?_
    refine Ex_aload_n dX5_settle_40 rfl ?_
    refine Ex_getr dX5_settle_41 fX5_9 hS.1 hS.2.1 ?_
    refine Ex_aload_n dX5_settle_44 rfl ?_
    refine Ex_geti dX5_settle_45 fX5_22 hS.1 ?_
    refine Ex_top (show _ = nI 11 by rw [setI_n (by omega), setI_s]) ?_
    refine Ex_iload_n dX5_settle_48 rfl ?_
    refine Ex_iast dX5_settle_49 hS.2.2.1 rfl (by rw [hS.2.2.2]; omega) (by rw [hS.2.2.2]; decide) ?_
    refine Ex_aload_n dX5_settle_50 rfl ?_
    refine Ex_dup dX5_settle_51 rfl ?_
    refine Ex_geti dX5_settle_52 fX5_22 hS.1 ?_
    refine Ex_top (show _ = nI 11 by rw [setI_a (by omega), setI_n (by omega), setI_s]) ?_
    refine Ex_iconst (v := nI 1) dX5_settle_55 (by rfl) ?_
    first | with_reducible refine Ex_iaddN dX5_settle_56 ?_ | refine Ex_iadd dX5_settle_56 ?_
    refine Ex_puti dX5_settle_57 fX5_22 rfl rfl rfl hS.1 ?_
    refine Ex_vret dX5_settle_60 ?_
    have e12 : m = 12 := by omega
    subst e12
    exact ⟨rfl, sf_set2 hR hmN, ((((Fr.refl.cp (Or.inr rfl)).si (Or.inl rfl)).si (Or.inl rfl)).si (Or.inr rfl)).si (Or.inl rfl), rfl⟩
set_option maxRecDepth 100000 in
set_option maxHeartbeats 4000000 in
theorem c5_takeNewest {T : TC} {I : MI} {G : MG} (d : Nat) {a : Nat} (hS : SfS T G a) (w : Int32) (h0 : nI 0 ≤ I a 2) : OkI T mX5_takeNewest (d + 1) [.ref a, .int w] I G (fun r I' G' => r = wth w (nI 0) (I a 2) ∧ I' = setI I a 2 (I a 2 - wth w (nI 0) (I a 2)) ∧ G' = G) := by
  refine Ok_of (own := RX5) (by decide) rfl (cat1 rfl) (Nat.le_of_ble_eq_true rfl) ?_
  show Ex T RX5 cX5_takeNewest 3 (d + 1) _ 0 [some (.ref a), some (.int w), none] [] I G (0, 0)
  refine Ex_iconst (v := nI 0) dX5_takeNewest_0 (by rfl) ?_
  refine Ex_iload_n dX5_takeNewest_1 rfl ?_
  refine Ex_aload_n dX5_takeNewest_2 rfl ?_
  refine Ex_geti dX5_takeNewest_3 fX5_22 hS.1 ?_
  refine Ex_min dX5_takeNewest_6 sX5_44 (Nat.le_of_ble_eq_true rfl) ?_
  refine Ex_max dX5_takeNewest_9 sX5_50 (Nat.le_of_ble_eq_true rfl) ?_
  refine Ex_top (mmw2 h0) ?_
  refine Ex_istore_n dX5_takeNewest_12 (by decide) rfl ?_
  simp only [st_n0, st_n1, st_n2, st_n3, List.set_cons_zero, List.set_cons_succ]
  refine Ex_aload_n dX5_takeNewest_13 rfl ?_
  refine Ex_dup dX5_takeNewest_14 rfl ?_
  refine Ex_geti dX5_takeNewest_15 fX5_22 hS.1 ?_
  refine Ex_iload_n dX5_takeNewest_18 rfl ?_
  refine Ex_isub dX5_takeNewest_19 ?_
  refine Ex_puti dX5_takeNewest_20 fX5_22 rfl rfl rfl hS.1 ?_
  refine Ex_iload_n dX5_takeNewest_23 rfl ?_
  refine Ex_iret dX5_takeNewest_24 (by first | rfl | exact narrow_bI) ?_
  exact ⟨_, rfl, rfl, rfl, rfl⟩
set_option maxRecDepth 100000 in
set_option maxHeartbeats 4000000 in
theorem c5_liftOut {T : TC} {I : MI} {G : MG} (d : Nat) {a : Nat} (hS : SfS T G a) (g : Nat → Int32) (s m k : Nat) (hR : SfR I a g s) (hm1 : g (8 + 17 * s + 2) = nI m) (hmN : mN g s = m) (hm : m ≤ 12) (hk : k < 2 ^ 31) : OkI T mX5_liftOut (d + 1) [.ref a, .int (nI k)] I G (fun r I' G' => (r = (if k < m then g (8 + 17 * s + (4 + k)) else cNONE) ∧ SfR I' a (if k < m then takeG g s m k else g) s) ∧ Fr (P2 a) I I' ∧ G' = G) := by
  refine Ok_of (own := RX5) (by decide) rfl (cat1 rfl) (Nat.le_of_ble_eq_true rfl) ?_
  show Ex T RX5 cX5_liftOut 3 (d + 1) _ 0 [some (.ref a), some (.int (nI k)), none] [] I G (0, 0)
  refine Ex_iload_n dX5_liftOut_0 rfl ?_
  refine Ex_aload_n dX5_liftOut_1 rfl ?_
  refine Ex_geti dX5_liftOut_2 fX5_22 hS.1 ?_
  refine Ex_N2p dX5_liftOut_5 sX5_53  (Nat.le_of_ble_eq_true rfl) (c8_isBelow d _ _) ?_
  have hm2 : I a 2 = nI m := (hR.1 2 (by omega)).trans hm1
  refine Ex_top (show _ = bI (k < m) by rw [hm2]; exact bI_congr (isB_nat hk (by omega))) ?_
  refine Ex_if_neB (tgt := 14) dX5_liftOut_8 (by decide) (fun h8 => ?_) (fun h8 => ?_)
  · refine Ex_aload_n dX5_liftOut_14 rfl ?_
    refine Ex_getr dX5_liftOut_15 fX5_9 hS.1 hS.2.1 ?_
    refine Ex_iload_n dX5_liftOut_18 rfl ?_
    refine Ex_iald dX5_liftOut_19 hS.2.2.1 rfl (by rw [hS.2.2.2]; omega) (by rw [hS.2.2.2]; decide) ?_
    refine Ex_istore_n dX5_liftOut_20 (by decide) rfl ?_
    simp only [st_n0, st_n1, st_n2, st_n3, List.set_cons_zero, List.set_cons_succ]
    refine Ex_aload_n dX5_liftOut_21 rfl ?_
    refine Ex_getr dX5_liftOut_22 fX5_9 hS.1 hS.2.1 ?_
    refine Ex_iload_n dX5_liftOut_25 rfl ?_
    refine Ex_iconst (v := nI 1) dX5_liftOut_26 (by rfl) ?_
    first | with_reducible refine Ex_iaddN dX5_liftOut_27 ?_ | refine Ex_iadd dX5_liftOut_27 ?_
    refine Ex_aload_n dX5_liftOut_28 rfl ?_
    refine Ex_getr dX5_liftOut_29 fX5_9 hS.1 hS.2.1 ?_
    refine Ex_iload_n dX5_liftOut_32 rfl ?_
    refine Ex_aload_n dX5_liftOut_33 rfl ?_
    refine Ex_geti dX5_liftOut_34 fX5_22 hS.1 ?_
    refine Ex_top hm2 ?_
    refine Ex_iload_n dX5_liftOut_37 rfl ?_
    refine Ex_isubN (by omega) dX5_liftOut_38 ?_
    refine Ex_iconst (v := nI 1) dX5_liftOut_39 (by rfl) ?_
    refine Ex_isubN (by omega) dX5_liftOut_40 ?_
    refine Ex_copy dX5_liftOut_41 sX5_28 (Nat.le_of_ble_eq_true rfl) hS.2.2.1 hS.2.2.1 rfl rfl rfl (by rw [hS.2.2.2]; omega) (by rw [hS.2.2.2]; omega) (by rw [hS.2.2.2]; decide) (by rw [hS.2.2.2]; decide) ?_
    refine Ex_aload_n dX5_liftOut_44 rfl ?_
    refine Ex_dup dX5_liftOut_45 rfl ?_
    refine Ex_geti dX5_liftOut_46 fX5_22 hS.1 ?_
    refine Ex_top (show _ = nI m by rw [cpyI_n (by omega)]; exact hm2) ?_
    refine Ex_iconst (v := nI 1) dX5_liftOut_49 (by rfl) ?_
    refine Ex_isubN (by omega) dX5_liftOut_50 ?_
    refine Ex_puti dX5_liftOut_51 fX5_22 rfl rfl rfl hS.1 ?_
    refine Ex_iload_n dX5_liftOut_54 rfl ?_
    refine Ex_iret dX5_liftOut_55 (by first | rfl | exact narrow_bI) ?_
    exact ⟨_, rfl, by rw [if_pos h8, if_pos h8]; exact ⟨hR.2 k (by omega), sf_take hR hmN hm h8⟩, (Fr.refl.cp (Or.inr rfl)).si (Or.inl rfl), rfl⟩
  · refine Ex_ldc dX5_liftOut_11 kX5_57 ?_
    refine Ex_iret dX5_liftOut_13 (by first | rfl | exact narrow_bI) ?_
    exact ⟨_, rfl, by rw [if_neg h8, if_neg h8]; exact ⟨rfl, hR⟩, Fr.refl, rfl⟩
theorem lt3 {x : Int32} : nI 2 < x ↔ ¬ x < nI 3 := by
  rw [i_lt, i_lt]
  have e2 : (nI 2).toInt = 2 := rfl
  have e3 : (nI 3).toInt = 3 := rfl
  omega
theorem catchI_1 {a b c e : Int32} (h : a = nI 1) : catchI a b c e = bI (nI 2 < c) := by subst h; rfl
theorem catchI_2 {a b c e : Int32} (h : a = nI 2) : catchI a b c e = offI c e := by subst h; rfl
theorem catchI_3 {a b c e : Int32} (h : a = nI 3) : catchI a b c e = bI (nI 2 < c ∨ c = 0) := by subst h; rfl
theorem catchI_4 {a b c e : Int32} (h : a = nI 4) : catchI a b c e = if offI c e = 0 then 0 else bI (nI 2 < b) := by subst h; rfl
theorem catchI_d {a b c e : Int32} (h : a.toInt < 1 ∨ 4 < a.toInt) : catchI a b c e = 1 := by
  unfold catchI
  rw [if_neg (fun q => swo h (k := 1) (by decide) (by decide) q), if_neg (fun q => swo h (k := 2) (by decide) (by decide) q), if_neg (fun q => swo h (k := 3) (by decide) (by decide) q), if_neg (fun q => swo h (k := 4) (by decide) (by decide) q)]
set_option maxRecDepth 100000 in
set_option maxHeartbeats 4000000 in
theorem c5_catches {T : TC} {I : MI} {G : MG} (d : Nat) {a : Nat} (hS : SfS T G a) (deed day : Int32)  : OkP T mX5_catches (d) [.ref a, .int deed, .int day] I G (catchI (I a 0) (I a 1) deed day) := by
  refine Ok_of (own := RX5) (by decide) rfl (cat1 rfl) (Nat.le_of_ble_eq_true rfl) ?_
  show Ex T RX5 cX5_catches 3 (d) _ 0 [some (.ref a), some (.int deed), some (.int day)] [] I G (0, 0)
  refine Ex_aload_n dX5_catches_0 rfl ?_
  refine Ex_geti dX5_catches_1 fX5_15 hS.1 ?_
  rcases sw_cases (I a 0) (1) (4) (by decide) (by decide) with ⟨k4, hk4, hl4, hx4⟩ | hx4
  · rcases (show k4 = 1 ∨ k4 = 2 ∨ k4 = 3 ∨ k4 = 4 by omega) with rfl | rfl | rfl | rfl
    · have hx4 : I a 0 = nI 1 := hx4
      refine Ex_tabIn (tgt := 36) dX5_catches_4 (by rw [hx4]; decide) (by rw [hx4]; decide) (off := 32) (by rw [hx4]; rfl) (by decide) ?_
      refine Ex_iload_n dX5_catches_36 rfl ?_
      refine Ex_iconst (v := nI 3) dX5_catches_37 (by rfl) ?_
      refine Ex_icmp_lt (tgt := 45) dX5_catches_38 (by decide) (fun h38 => ?_) (fun h38 => ?_)
      · refine Ex_iconst (v := nI 0) dX5_catches_45 (by rfl) ?_
        refine Ex_iret dX5_catches_46 (by first | rfl | exact narrow_bI) ?_
        exact ⟨_, rfl, (by rw [catchI_1 hx4]; exact (bI_f (fun q => lt3.mp q h38)).symm), rfl, rfl⟩
      · refine Ex_iconst (v := nI 1) dX5_catches_41 (by rfl) ?_
        refine Ex_goto (tgt := 46) dX5_catches_42 (by decide) ?_
        refine Ex_iret dX5_catches_46 (by first | rfl | exact narrow_bI) ?_
        exact ⟨_, rfl, (by rw [catchI_1 hx4]; exact (bI_t (lt3.mpr h38)).symm), rfl, rfl⟩
    · have hx4 : I a 0 = nI 2 := hx4
      refine Ex_tabIn (tgt := 62) dX5_catches_4 (by rw [hx4]; decide) (by rw [hx4]; decide) (off := 58) (by rw [hx4]; rfl) (by decide) ?_
      refine Ex_iload_n dX5_catches_62 rfl ?_
      refine Ex_iload_n dX5_catches_63 rfl ?_
      first | with_reducible refine Ex_iaddN dX5_catches_64 ?_ | refine Ex_iadd dX5_catches_64 ?_
      refine Ex_iconst (v := nI 3) dX5_catches_65 (by rfl) ?_
      refine Ex_irem dX5_catches_66 (by decide) ?_
      refine Ex_if_eq (tgt := 74) dX5_catches_67 (by decide) (fun h67 => ?_) (fun h67 => ?_)
      · refine Ex_iconst (v := nI 0) dX5_catches_74 (by rfl) ?_
        refine Ex_iret dX5_catches_75 (by first | rfl | exact narrow_bI) ?_
        exact ⟨_, rfl, (by rw [catchI_2 hx4, offI_0 h67]; rfl), rfl, rfl⟩
      · refine Ex_iconst (v := nI 1) dX5_catches_70 (by rfl) ?_
        refine Ex_goto (tgt := 75) dX5_catches_71 (by decide) ?_
        refine Ex_iret dX5_catches_75 (by first | rfl | exact narrow_bI) ?_
        exact ⟨_, rfl, (by rw [catchI_2 hx4, offI_1 h67]; rfl), rfl, rfl⟩
    · have hx4 : I a 0 = nI 3 := hx4
      refine Ex_tabIn (tgt := 47) dX5_catches_4 (by rw [hx4]; decide) (by rw [hx4]; decide) (off := 43) (by rw [hx4]; rfl) (by decide) ?_
      refine Ex_iload_n dX5_catches_47 rfl ?_
      refine Ex_iconst (v := nI 3) dX5_catches_48 (by rfl) ?_
      refine Ex_icmp_ge (tgt := 56) dX5_catches_49 (by decide) (fun h49 => ?_) (fun h49 => ?_)
      · refine Ex_iconst (v := nI 1) dX5_catches_56 (by rfl) ?_
        refine Ex_goto (tgt := 61) dX5_catches_57 (by decide) ?_
        refine Ex_iret dX5_catches_61 (by first | rfl | exact narrow_bI) ?_
        exact ⟨_, rfl, (by rw [catchI_3 hx4]; exact (bI_t (Or.inl (lt3.mpr (Int32.not_lt.mpr h49)))).symm), rfl, rfl⟩
      · refine Ex_iload_n dX5_catches_52 rfl ?_
        refine Ex_if_ne (tgt := 60) dX5_catches_53 (by decide) (fun h53 => ?_) (fun h53 => ?_)
        · refine Ex_iconst (v := nI 0) dX5_catches_60 (by rfl) ?_
          refine Ex_iret dX5_catches_61 (by first | rfl | exact narrow_bI) ?_
          exact ⟨_, rfl, (by rw [catchI_3 hx4]; exact (bI_f (fun q => q.elim (fun q => lt3.mp q (Int32.not_le.mp h49)) h53)).symm), rfl, rfl⟩
        · refine Ex_iconst (v := nI 1) dX5_catches_56 (by rfl) ?_
          refine Ex_goto (tgt := 61) dX5_catches_57 (by decide) ?_
          refine Ex_iret dX5_catches_61 (by first | rfl | exact narrow_bI) ?_
          exact ⟨_, rfl, (by rw [catchI_3 hx4]; exact (bI_t (Or.inr (h53))).symm), rfl, rfl⟩
    · have hx4 : I a 0 = nI 4 := hx4
      refine Ex_tabIn (tgt := 76) dX5_catches_4 (by rw [hx4]; decide) (by rw [hx4]; decide) (off := 72) (by rw [hx4]; rfl) (by decide) ?_
      refine Ex_aload_n dX5_catches_76 rfl ?_
      refine Ex_geti dX5_catches_77 fX5_19 hS.1 ?_
      refine Ex_iconst (v := nI 3) dX5_catches_80 (by rfl) ?_
      refine Ex_icmp_lt (tgt := 96) dX5_catches_81 (by decide) (fun h81 => ?_) (fun h81 => ?_)
      · refine Ex_iconst (v := nI 0) dX5_catches_96 (by rfl) ?_
        refine Ex_iret dX5_catches_97 (by first | rfl | exact narrow_bI) ?_
        exact ⟨_, rfl, (by rw [catchI_4 hx4, bI_f (fun q => lt3.mp q h81)]; split <;> rfl), rfl, rfl⟩
      · refine Ex_iload_n dX5_catches_84 rfl ?_
        refine Ex_iload_n dX5_catches_85 rfl ?_
        first | with_reducible refine Ex_iaddN dX5_catches_86 ?_ | refine Ex_iadd dX5_catches_86 ?_
        refine Ex_iconst (v := nI 3) dX5_catches_87 (by rfl) ?_
        refine Ex_irem dX5_catches_88 (by decide) ?_
        refine Ex_if_eq (tgt := 96) dX5_catches_89 (by decide) (fun h89 => ?_) (fun h89 => ?_)
        · refine Ex_iconst (v := nI 0) dX5_catches_96 (by rfl) ?_
          refine Ex_iret dX5_catches_97 (by first | rfl | exact narrow_bI) ?_
          exact ⟨_, rfl, (by rw [catchI_4 hx4, if_pos (offI_0 h89)]; rfl), rfl, rfl⟩
        · refine Ex_iconst (v := nI 1) dX5_catches_92 (by rfl) ?_
          refine Ex_goto (tgt := 97) dX5_catches_93 (by decide) ?_
          refine Ex_iret dX5_catches_97 (by first | rfl | exact narrow_bI) ?_
          exact ⟨_, rfl, (by rw [catchI_4 hx4, if_neg (by rw [offI_1 h89]; decide)]; exact (bI_t (lt3.mpr h81)).symm), rfl, rfl⟩
  · refine Ex_tabOut (tgt := 98) dX5_catches_4 hx4 (by decide) ?_
    refine Ex_iconst (v := nI 1) dX5_catches_98 (by rfl) ?_
    refine Ex_iret dX5_catches_99 (by first | rfl | exact narrow_bI) ?_
    exact ⟨_, rfl, (by exact (catchI_d hx4).symm), rfl, rfl⟩
def csK (kind damp day : Int32) : Nat → Int32
  | 0 => nI 0
  | k + 1 => csK kind damp day k ||| (if catchI kind damp (nI k) day = 0 then nI 0 else nI 1 <<< (nI k &&& 31))
theorem csK_G {g : Nat → Int32} {s : Nat} : ∀ k, csK (g (8 + 17 * s + 0)) (g (8 + 17 * s + 1)) (g 2) k = csG g s k
  | 0 => rfl
  | k + 1 => by unfold csK csG; rw [csK_G k]
theorem or_0 (x : Int32) : x ||| nI 0 = x := by
  rw [nI_0]; exact Int32.or_zero
set_option maxRecDepth 100000 in
set_option maxHeartbeats 4000000 in
theorem l5_caughtSet {T : TC} {I : MI} {G : MG} {F : FinT} {b : Nat × Nat} (d : Nat) {a : Nat} (hS : SfS T G a) (day : Int32) (kx : Ex T RX5 cX5_caughtSet 4 (d + 1) F 4 [some (.ref a), some (.int day), some (.int (csK (I a 0) (I a 1) day 10)), some (.int (nI 10))] [] I G b) : ∀ i k, k + i = 10  → Ex T RX5 cX5_caughtSet 4 (d + 1) F 4 [some (.ref a), some (.int day), some (.int (csK (I a 0) (I a 1) day k)), some (.int (nI k))] [] I G b := by
  intro i
  induction i with
  | zero => intro k h0; have e0 : k = 10 := by omega
            subst e0; exact kx
  | succ i ih0 =>
    intro k h0
    have ih := ih0 (k + 1)
    refine Ex_iload_n dX5_caughtSet_4 rfl ?_
    refine Ex_bipush (v := nI 10) dX5_caughtSet_5 (by rfl) ?_
    refine Ex_icmp_geN (by omega) (by omega) (tgt := 31) dX5_caughtSet_7 (by decide) (fun h7 => ?_) (fun h7 => ?_)
    · omega
    · refine Ex_aload_n dX5_caughtSet_10 rfl ?_
      refine Ex_iload_n dX5_caughtSet_11 rfl ?_
      refine Ex_iload_n dX5_caughtSet_12 rfl ?_
      refine Ex_V2p dX5_caughtSet_13 sX5_61 hS.1 (Nat.le_of_ble_eq_true rfl) (c5_catches d hS _ _) ?_
      refine Ex_if_eq (tgt := 25) dX5_caughtSet_16 (by decide) (fun h16 => ?_) (fun h16 => ?_)
      · first | refine Ex_iincN (m := 1) dX5_caughtSet_25 rfl rfl (by decide) rfl ?_ | refine Ex_iinc dX5_caughtSet_25 rfl rfl (by decide) rfl ?_
        simp only [List.set_cons_zero, List.set_cons_succ]
        refine Ex_goto (tgt := 4) dX5_caughtSet_28 (by decide) ?_
        have ec : csK (I a 0) (I a 1) day (k + 1) = csK (I a 0) (I a 1) day k := by show csK _ _ _ k ||| _ = _; rw [if_pos h16, or_0]
        have key := ih (by omega)
        rw [ec] at key
        exact key
      · refine Ex_iload_n dX5_caughtSet_19 rfl ?_
        refine Ex_iconst (v := nI 1) dX5_caughtSet_20 (by rfl) ?_
        refine Ex_iload_n dX5_caughtSet_21 rfl ?_
        refine Ex_ishl dX5_caughtSet_22 ?_
        refine Ex_ior dX5_caughtSet_23 ?_
        refine Ex_istore_n dX5_caughtSet_24 (by decide) rfl ?_
        simp only [st_n0, st_n1, st_n2, st_n3, List.set_cons_zero, List.set_cons_succ]
        first | refine Ex_iincN (m := 1) dX5_caughtSet_25 rfl rfl (by decide) rfl ?_ | refine Ex_iinc dX5_caughtSet_25 rfl rfl (by decide) rfl ?_
        simp only [List.set_cons_zero, List.set_cons_succ]
        refine Ex_goto (tgt := 4) dX5_caughtSet_28 (by decide) ?_
        have ec : csK (I a 0) (I a 1) day (k + 1) = csK (I a 0) (I a 1) day k ||| (nI 1 <<< (nI k &&& 31)) := by show csK _ _ _ k ||| _ = _; rw [if_neg h16]
        have key := ih (by omega)
        rw [ec] at key
        exact key
set_option maxRecDepth 100000 in
set_option maxHeartbeats 4000000 in
theorem c5_caughtSet {T : TC} {I : MI} {G : MG} (d : Nat) {a : Nat} (hS : SfS T G a) (day : Int32)  : OkP T mX5_caughtSet (d + 1) [.ref a, .int day] I G (csK (I a 0) (I a 1) day 10) := by
  refine Ok_of (own := RX5) (by decide) rfl (cat1 rfl) (Nat.le_of_ble_eq_true rfl) ?_
  show Ex T RX5 cX5_caughtSet 4 (d + 1) _ 0 [some (.ref a), some (.int day), none, none] [] I G (0, 0)
  refine Ex_iconst (v := nI 0) dX5_caughtSet_0 (by rfl) ?_
  refine Ex_istore_n dX5_caughtSet_1 (by decide) rfl ?_
  simp only [st_n0, st_n1, st_n2, st_n3, List.set_cons_zero, List.set_cons_succ]
  refine Ex_iconst (v := nI 0) dX5_caughtSet_2 (by rfl) ?_
  refine Ex_istore_n dX5_caughtSet_3 (by decide) rfl ?_
  simp only [st_n0, st_n1, st_n2, st_n3, List.set_cons_zero, List.set_cons_succ]
  refine l5_caughtSet d hS day ?_ 10 0 (by omega)
  refine Ex_iload_n dX5_caughtSet_4 rfl ?_
  refine Ex_bipush (v := nI 10) dX5_caughtSet_5 (by rfl) ?_
  refine Ex_icmp_geN (by omega) (by omega) (tgt := 31) dX5_caughtSet_7 (by decide) (fun h7 => ?_) (fun h7 => ?_)
  · refine Ex_iload_n dX5_caughtSet_31 rfl ?_
    refine Ex_iret dX5_caughtSet_32 (by first | rfl | exact narrow_bI) ?_
    exact ⟨_, rfl, rfl, rfl, rfl⟩
  · omega
theorem brm {p : Nat} (h : p < 2 ^ 30) : (if nI 0 < nI p - nI 1 then nI p - nI 1 else nI 0) = if nI p = 0 then nI 0 else nI p - nI 1 := by
  by_cases h0 : p = 0
  · subst h0; rfl
  · rw [if_neg (nI_ne0 (by omega) (by omega)), pk_sub (by omega)]
    by_cases h1 : p = 1
    · subst h1; rfl
    · rw [if_pos (nI_lt (by omega) (by omega))]
theorem w21 (x : Int32) : nI 24 - x - nI 3 = nI 21 - x := by
  have e : nI 24 = nI 21 + nI 3 := rfl
  rw [e, Int32.sub_eq_add_neg, Int32.sub_eq_add_neg, Int32.sub_eq_add_neg, Int32.add_assoc, Int32.add_assoc, Int32.add_comm (-x) (-nI 3), ← Int32.add_assoc (nI 3), Int32.add_right_neg, Int32.zero_add]
set_option maxRecDepth 100000 in
set_option maxHeartbeats 4000000 in
theorem c5_broomTakes {T : TC} {I : MI} {G : MG} (d : Nat) {a : Nat} (hS : SfS T G a) (p : Nat) (h : p < 2 ^ 30) : OkP T mX5_broomTakes (d + 1) [.ref a, .int (nI p)] I G (liftK (I a 0) (nI p)) := by
  refine Ok_of (own := RX5) (by decide) rfl (cat1 rfl) (Nat.le_of_ble_eq_true rfl) ?_
  show Ex T RX5 cX5_broomTakes 2 (d + 1) _ 0 [some (.ref a), some (.int (nI p))] [] I G (0, 0)
  refine Ex_aload_n dX5_broomTakes_0 rfl ?_
  refine Ex_geti dX5_broomTakes_1 fX5_15 hS.1 ?_
  rcases sw_cases (I a 0) (1) (5) (by decide) (by decide) with ⟨k4, hk4, hl4, hx4⟩ | hx4
  · rcases (show k4 = 1 ∨ k4 = 2 ∨ k4 = 3 ∨ k4 = 4 ∨ k4 = 5 by omega) with rfl | rfl | rfl | rfl | rfl
    · have hx4 : I a 0 = nI 1 := hx4
      refine Ex_tabIn (tgt := 40) dX5_broomTakes_4 (by rw [hx4]; decide) (by rw [hx4]; decide) (off := 36) (by rw [hx4]; rfl) (by decide) ?_
      refine Ex_iconst (v := nI 0) dX5_broomTakes_40 (by rfl) ?_
      refine Ex_iload_n dX5_broomTakes_41 rfl ?_
      refine Ex_iconst (v := nI 1) dX5_broomTakes_42 (by rfl) ?_
      refine Ex_isub dX5_broomTakes_43 ?_
      refine Ex_max dX5_broomTakes_44 sX5_50 (Nat.le_of_ble_eq_true rfl) ?_
      refine Ex_iret dX5_broomTakes_47 (by first | rfl | exact narrow_bI) ?_
      exact ⟨_, rfl, (by rw [hx4, brm h]; rfl), rfl, rfl⟩
    · have hx4 : I a 0 = nI 2 := hx4
      refine Ex_tabIn (tgt := 48) dX5_broomTakes_4 (by rw [hx4]; decide) (by rw [hx4]; decide) (off := 44) (by rw [hx4]; rfl) (by decide) ?_
      refine Ex_iconst (v := nI 2) dX5_broomTakes_48 (by rfl) ?_
      refine Ex_iload_n dX5_broomTakes_49 rfl ?_
      first | with_reducible refine Ex_imulN dX5_broomTakes_50 ?_ | refine Ex_imul dX5_broomTakes_50 ?_
      refine Ex_iret dX5_broomTakes_51 (by first | rfl | exact narrow_bI) ?_
      exact ⟨_, rfl, (by rw [hx4]; first | rfl | (show _ = nI 2 * nI p; rw [pk_mul]) | (show _ = nI 2 * nI p + nI 1; rw [pk_mul, nI_add])), rfl, rfl⟩
    · have hx4 : I a 0 = nI 3 := hx4
      refine Ex_tabIn (tgt := 58) dX5_broomTakes_4 (by rw [hx4]; decide) (by rw [hx4]; decide) (off := 54) (by rw [hx4]; rfl) (by decide) ?_
      refine Ex_iconst (v := nI 0) dX5_broomTakes_58 (by rfl) ?_
      refine Ex_iret dX5_broomTakes_59 (by first | rfl | exact narrow_bI) ?_
      exact ⟨_, rfl, (by rw [hx4]; first | rfl | (show _ = nI 2 * nI p; rw [pk_mul]) | (show _ = nI 2 * nI p + nI 1; rw [pk_mul, nI_add])), rfl, rfl⟩
    · have hx4 : I a 0 = nI 4 := hx4
      refine Ex_tabIn (tgt := 52) dX5_broomTakes_4 (by rw [hx4]; decide) (by rw [hx4]; decide) (off := 48) (by rw [hx4]; rfl) (by decide) ?_
      refine Ex_iconst (v := nI 2) dX5_broomTakes_52 (by rfl) ?_
      refine Ex_iload_n dX5_broomTakes_53 rfl ?_
      first | with_reducible refine Ex_imulN dX5_broomTakes_54 ?_ | refine Ex_imul dX5_broomTakes_54 ?_
      refine Ex_iconst (v := nI 1) dX5_broomTakes_55 (by rfl) ?_
      first | with_reducible refine Ex_iaddN dX5_broomTakes_56 ?_ | refine Ex_iadd dX5_broomTakes_56 ?_
      refine Ex_iret dX5_broomTakes_57 (by first | rfl | exact narrow_bI) ?_
      exact ⟨_, rfl, (by rw [hx4]; first | rfl | (show _ = nI 2 * nI p; rw [pk_mul]) | (show _ = nI 2 * nI p + nI 1; rw [pk_mul, nI_add])), rfl, rfl⟩
    · have hx4 : I a 0 = nI 5 := hx4
      refine Ex_tabIn (tgt := 58) dX5_broomTakes_4 (by rw [hx4]; decide) (by rw [hx4]; decide) (off := 54) (by rw [hx4]; rfl) (by decide) ?_
      refine Ex_iconst (v := nI 0) dX5_broomTakes_58 (by rfl) ?_
      refine Ex_iret dX5_broomTakes_59 (by first | rfl | exact narrow_bI) ?_
      exact ⟨_, rfl, (by rw [hx4]; first | rfl | (show _ = nI 2 * nI p; rw [pk_mul]) | (show _ = nI 2 * nI p + nI 1; rw [pk_mul, nI_add])), rfl, rfl⟩
  · refine Ex_tabOut (tgt := 60) dX5_broomTakes_4 hx4 (by decide) ?_
    refine Ex_iload_n dX5_broomTakes_60 rfl ?_
    refine Ex_iret dX5_broomTakes_61 (by first | rfl | exact narrow_bI) ?_
    exact ⟨_, rfl, (liftK_d hx4).symm, rfl, rfl⟩
set_option maxRecDepth 100000 in
set_option maxHeartbeats 4000000 in
theorem c5_worth {T : TC} {I : MI} {G : MG} (d : Nat) {a : Nat} (hS : SfS T G a)  : OkP T mX5_worth (d) [.ref a] I G (worthK (I a 0) (I a 2)) := by
  refine Ok_of (own := RX5) (by decide) rfl (cat1 rfl) (Nat.le_of_ble_eq_true rfl) ?_
  show Ex T RX5 cX5_worth 1 (d) _ 0 [some (.ref a)] [] I G (0, 0)
  refine Ex_aload_n dX5_worth_0 rfl ?_
  refine Ex_geti dX5_worth_1 fX5_15 hS.1 ?_
  rcases sw_cases (I a 0) (1) (5) (by decide) (by decide) with ⟨k4, hk4, hl4, hx4⟩ | hx4
  · rcases (show k4 = 1 ∨ k4 = 2 ∨ k4 = 3 ∨ k4 = 4 ∨ k4 = 5 by omega) with rfl | rfl | rfl | rfl | rfl
    · have hx4 : I a 0 = nI 1 := hx4
      refine Ex_tabIn (tgt := 40) dX5_worth_4 (by rw [hx4]; decide) (by rw [hx4]; decide) (off := 36) (by rw [hx4]; rfl) (by decide) ?_
      refine Ex_aload_n dX5_worth_40 rfl ?_
      refine Ex_geti dX5_worth_41 fX5_22 hS.1 ?_
      refine Ex_iconst (v := nI 4) dX5_worth_44 (by rfl) ?_
      first | with_reducible refine Ex_iaddN dX5_worth_45 ?_ | refine Ex_iadd dX5_worth_45 ?_
      refine Ex_iret dX5_worth_46 (by first | rfl | exact narrow_bI) ?_
      exact ⟨_, rfl, (by rw [hx4]; rfl), rfl, rfl⟩
    · have hx4 : I a 0 = nI 2 := hx4
      refine Ex_tabIn (tgt := 56) dX5_worth_4 (by rw [hx4]; decide) (by rw [hx4]; decide) (off := 52) (by rw [hx4]; rfl) (by decide) ?_
      refine Ex_bipush (v := nI 24) dX5_worth_56 (by rfl) ?_
      refine Ex_aload_n dX5_worth_58 rfl ?_
      refine Ex_geti dX5_worth_59 fX5_22 hS.1 ?_
      refine Ex_isub dX5_worth_62 ?_
      refine Ex_iret dX5_worth_63 (by first | rfl | exact narrow_bI) ?_
      exact ⟨_, rfl, (by rw [hx4]; rfl), rfl, rfl⟩
    · have hx4 : I a 0 = nI 3 := hx4
      refine Ex_tabIn (tgt := 47) dX5_worth_4 (by rw [hx4]; decide) (by rw [hx4]; decide) (off := 43) (by rw [hx4]; rfl) (by decide) ?_
      refine Ex_iconst (v := nI 2) dX5_worth_47 (by rfl) ?_
      refine Ex_aload_n dX5_worth_48 rfl ?_
      refine Ex_geti dX5_worth_49 fX5_22 hS.1 ?_
      refine Ex_iconst (v := nI 4) dX5_worth_52 (by rfl) ?_
      first | with_reducible refine Ex_iaddN dX5_worth_53 ?_ | refine Ex_iadd dX5_worth_53 ?_
      first | with_reducible refine Ex_imulN dX5_worth_54 ?_ | refine Ex_imul dX5_worth_54 ?_
      refine Ex_iret dX5_worth_55 (by first | rfl | exact narrow_bI) ?_
      exact ⟨_, rfl, (by rw [hx4]; rfl), rfl, rfl⟩
    · have hx4 : I a 0 = nI 4 := hx4
      refine Ex_tabIn (tgt := 64) dX5_worth_4 (by rw [hx4]; decide) (by rw [hx4]; decide) (off := 60) (by rw [hx4]; rfl) (by decide) ?_
      refine Ex_bipush (v := nI 24) dX5_worth_64 (by rfl) ?_
      refine Ex_aload_n dX5_worth_66 rfl ?_
      refine Ex_geti dX5_worth_67 fX5_22 hS.1 ?_
      refine Ex_isub dX5_worth_70 ?_
      refine Ex_iconst (v := nI 3) dX5_worth_71 (by rfl) ?_
      refine Ex_isub dX5_worth_72 ?_
      refine Ex_iret dX5_worth_73 (by first | rfl | exact narrow_bI) ?_
      exact ⟨_, rfl, (by rw [hx4]; exact w21 _), rfl, rfl⟩
    · have hx4 : I a 0 = nI 5 := hx4
      refine Ex_tabIn (tgt := 74) dX5_worth_4 (by rw [hx4]; decide) (by rw [hx4]; decide) (off := 70) (by rw [hx4]; rfl) (by decide) ?_
      refine Ex_bipush (v := nI 7) dX5_worth_74 (by rfl) ?_
      refine Ex_iret dX5_worth_76 (by first | rfl | exact narrow_bI) ?_
      exact ⟨_, rfl, (by rw [hx4]; rfl), rfl, rfl⟩
  · refine Ex_tabOut (tgt := 77) dX5_worth_4 hx4 (by decide) ?_
    refine Ex_aload_n dX5_worth_77 rfl ?_
    refine Ex_geti dX5_worth_78 fX5_22 hS.1 ?_
    refine Ex_iret dX5_worth_81 (by first | rfl | exact narrow_bI) ?_
    exact ⟨_, rfl, (worthK_d hx4).symm, rfl, rfl⟩
theorem pvF_st {row lay : Nat → Int32} {n k : Nat} (h : pvF row n lay k = n) : ∀ i, pvF row n lay (k + i) = n
  | 0 => h
  | i + 1 => by
    have ih := pvF_st h i
    have e : pvF row n lay (k + (i + 1)) = if pvF row n lay (k + i) < n ∧ lay (k + i) = row (pvF row n lay (k + i)) then pvF row n lay (k + i) + 1 else pvF row n lay (k + i) := rfl
    rw [e, if_neg (fun q => absurd q.1 (by omega))]
    exact ih
set_option maxRecDepth 100000 in
set_option maxHeartbeats 4000000 in
theorem l5_readable {T : TC} {I : MI} {G : MG} {b : Nat × Nat} (d : Nat) {a w : Nat} (hS : SfS T G a) (hR : ShS T G w) (row lay : Nat → Int32) (z m : Nat) (hz1 : I w 1 = nI z) (hz : z ≤ 24) (hrow : ∀ k, k < z → I (w + 1) k = row k) (hm2 : I a 2 = nI m) (hm : m ≤ 12) (hlay : ∀ k, k < m → I (a + 1) k = lay k) : ∀ i k, k + i = m → Ex T RX5 cX5_readable 4 d (fm T "readable" (some .int) (fun v I' G' => ∃ r, v = some (.int r) ∧ r = nI (pvF row z lay m) ∧ I' = I ∧ G' = G)) 4 [some (.ref a), some (.ref w), some (.int (nI (pvF row z lay k))), some (.int (nI k))] [] I G b := by
  intro i
  induction i with
  | zero =>
    intro k h0
    have e0 : k = m := by omega
    subst e0
    refine Ex_iload_n dX5_readable_4 rfl ?_
    refine Ex_aload_n dX5_readable_5 rfl ?_
    refine Ex_geti dX5_readable_6 fX5_22 hS.1 ?_
    refine Ex_top hm2 ?_
    refine Ex_icmp_geN (by omega) (by omega) (tgt := 44) dX5_readable_9 (by decide) (fun h9 => ?_) (fun h9 => ?_)
    · refine Ex_iload_n dX5_readable_44 rfl ?_
      refine Ex_iret dX5_readable_45 (by first | rfl | exact narrow_bI) ?_
      exact ⟨_, rfl, rfl, rfl, rfl⟩
    · omega
  | succ i ih =>
    intro k h0
    have hpn := pvF_n (row := row) (lay := lay) (n := z) k
    refine Ex_iload_n dX5_readable_4 rfl ?_
    refine Ex_aload_n dX5_readable_5 rfl ?_
    refine Ex_geti dX5_readable_6 fX5_22 hS.1 ?_
    refine Ex_top hm2 ?_
    refine Ex_icmp_geN (by omega) (by omega) (tgt := 44) dX5_readable_9 (by decide) (fun h9 => ?_) (fun h9 => ?_)
    · omega
    · refine Ex_iload_n dX5_readable_12 rfl ?_
      refine Ex_aload_n dX5_readable_13 rfl ?_
      refine Ex_geti dX5_readable_14 fX5_34 hR.1 ?_
      refine Ex_top hz1 ?_
      refine Ex_icmp_geN (by omega) (by omega) (tgt := 44) dX5_readable_17 (by decide) (fun h17 => ?_) (fun h17 => ?_)
      · refine Ex_iload_n dX5_readable_44 rfl ?_
        refine Ex_iret dX5_readable_45 (by first | rfl | exact narrow_bI) ?_
        have hp := pvF_st (k := k) (show pvF row z lay k = z by omega) (m - k)
        rw [show k + (m - k) = m by omega] at hp
        exact ⟨_, rfl, by rw [hp, show pvF row z lay k = z by omega], rfl, rfl⟩
      · refine Ex_aload_n dX5_readable_20 rfl ?_
        refine Ex_getr dX5_readable_21 fX5_9 hS.1 hS.2.1 ?_
        refine Ex_iload_n dX5_readable_24 rfl ?_
        refine Ex_iald dX5_readable_25 hS.2.2.1 rfl (by rw [hS.2.2.2]; omega) (by rw [hS.2.2.2]; decide) ?_
        refine Ex_top (hlay k (by omega)) ?_
        refine Ex_aload_n dX5_readable_26 rfl ?_
        refine Ex_getr dX5_readable_27 fX5_37 hR.1 hR.2.1 ?_
        refine Ex_iload_n dX5_readable_30 rfl ?_
        refine Ex_iald dX5_readable_31 hR.2.2.1 rfl (by rw [hR.2.2.2]; omega) (by rw [hR.2.2.2]; decide) ?_
        refine Ex_top (hrow (pvF row z lay k) (by omega)) ?_
        refine Ex_icmp_ne (tgt := 38) dX5_readable_32 (by decide) (fun h32 => ?_) (fun h32 => ?_)
        · first | refine Ex_iincN (m := 1) dX5_readable_38 rfl rfl (by decide) rfl ?_ | refine Ex_iinc dX5_readable_38 rfl rfl (by decide) rfl ?_
          simp only [List.set_cons_zero, List.set_cons_succ]
          refine Ex_goto (tgt := 4) dX5_readable_41 (by decide) ?_
          have ec : pvF row z lay (k + 1) = pvF row z lay k := if_neg (fun q => h32 q.2)
          have key := ih (k + 1) (by omega)
          rw [ec] at key
          exact key
        · first | refine Ex_iincN (m := 1) dX5_readable_35 rfl rfl (by decide) rfl ?_ | refine Ex_iinc dX5_readable_35 rfl rfl (by decide) rfl ?_
          simp only [List.set_cons_zero, List.set_cons_succ]
          first | refine Ex_iincN (m := 1) dX5_readable_38 rfl rfl (by decide) rfl ?_ | refine Ex_iinc dX5_readable_38 rfl rfl (by decide) rfl ?_
          simp only [List.set_cons_zero, List.set_cons_succ]
          refine Ex_goto (tgt := 4) dX5_readable_41 (by decide) ?_
          have ec : pvF row z lay (k + 1) = pvF row z lay k + 1 := if_pos ⟨by omega, h32⟩
          have key := ih (k + 1) (by omega)
          rw [ec] at key
          exact key
set_option maxRecDepth 100000 in
set_option maxHeartbeats 4000000 in
theorem c5_readable {T : TC} {I : MI} {G : MG} (d : Nat) {a w : Nat} (hS : SfS T G a) (hR : ShS T G w) (row lay : Nat → Int32) (z m : Nat) (hz1 : I w 1 = nI z) (hz : z ≤ 24) (hrow : ∀ k, k < z → I (w + 1) k = row k) (hm2 : I a 2 = nI m) (hm : m ≤ 12) (hlay : ∀ k, k < m → I (a + 1) k = lay k) : OkP T mX5_readable (d) [.ref a, .ref w] I G (nI (pvF row z lay m)) := by
  refine Ok_of (own := RX5) (by decide) rfl (cat1 rfl) (Nat.le_of_ble_eq_true rfl) ?_
  show Ex T RX5 cX5_readable 4 (d) _ 0 [some (.ref a), some (.ref w), none, none] [] I G (0, 0)
  refine Ex_iconst (v := nI 0) dX5_readable_0 (by rfl) ?_
  refine Ex_istore_n dX5_readable_1 (by decide) rfl ?_
  simp only [st_n0, st_n1, st_n2, st_n3, List.set_cons_zero, List.set_cons_succ]
  refine Ex_iconst (v := nI 0) dX5_readable_2 (by rfl) ?_
  refine Ex_istore_n dX5_readable_3 (by decide) rfl ?_
  simp only [st_n0, st_n1, st_n2, st_n3, List.set_cons_zero, List.set_cons_succ]
  exact l5_readable d hS hR row lay z m hz1 hz hrow hm2 hm hlay m 0 (by omega)
set_option maxRecDepth 100000 in
set_option maxHeartbeats 4000000 in
theorem c5_bears {T : TC} {I : MI} {G : MG} (d : Nat) {a w : Nat} (hS : SfS T G a) (hR : ShS T G w) (row lay : Nat → Int32) (z m : Nat) (hz1 : I w 1 = nI z) (hz : z ≤ 24) (hrow : ∀ k, k < z → I (w + 1) k = row k) (hm2 : I a 2 = nI m) (hm : m ≤ 12) (hlay : ∀ k, k < m → I (a + 1) k = lay k) : OkP T mX5_bears (d + 1) [.ref a, .ref w] I G (bI (pvF row z lay m = z)) := by
  refine Ok_of (own := RX5) (by decide) rfl (cat1 rfl) (Nat.le_of_ble_eq_true rfl) ?_
  show Ex T RX5 cX5_bears 2 (d + 1) _ 0 [some (.ref a), some (.ref w)] [] I G (0, 0)
  refine Ex_aload_n dX5_bears_0 rfl ?_
  refine Ex_aload_n dX5_bears_1 rfl ?_
  refine Ex_V1p dX5_bears_2 sX5_64 hS.1 (Nat.le_of_ble_eq_true rfl) (c5_readable d hS hR row lay z m hz1 hz hrow hm2 hm hlay) ?_
  refine Ex_aload_n dX5_bears_5 rfl ?_
  refine Ex_geti dX5_bears_6 fX5_34 hR.1 ?_
  refine Ex_top hz1 ?_
  have hpn := pvF_n (row := row) (lay := lay) (n := z) m
  refine Ex_icmp_neN (by omega) (by omega) (tgt := 16) dX5_bears_9 (by decide) (fun h9 => ?_) (fun h9 => ?_)
  · refine Ex_iconst (v := nI 0) dX5_bears_16 (by rfl) ?_
    refine Ex_iret dX5_bears_17 (by first | rfl | exact narrow_bI) ?_
    exact ⟨_, rfl, (bI_f h9).symm, rfl, rfl⟩
  · refine Ex_iconst (v := nI 1) dX5_bears_12 (by rfl) ?_
    refine Ex_goto (tgt := 17) dX5_bears_13 (by decide) ?_
    refine Ex_iret dX5_bears_17 (by first | rfl | exact narrow_bI) ?_
    exact ⟨_, rfl, (bI_t h9).symm, rfl, rfl⟩
def nxI (k : Nat) : Int32 := if k = 12 then (-1) else nI k
set_option maxRecDepth 100000 in
set_option maxHeartbeats 4000000 in
theorem l5_nextOf {T : TC} {I : MI} {G : MG} {b : Nat × Nat} (d : Nat) {a : Nat} (hS : SfS T G a) (lay : Nat → Int32) (m : Nat) (e : Int32) (hm2 : I a 2 = nI m) (hm : m ≤ 12) (hlay : ∀ k, k < m → I (a + 1) k = lay k) (k0 : Nat) : ∀ i k, k + i = m → fsN (fun k => decide (lay k = e)) i k = fsF lay m e k0 → Ex T RX5 cX5_nextOf 4 d (fm T "nextOf" (some .int) (fun v I' G' => ∃ r, v = some (.int r) ∧ r = nxI (fsF lay m e k0) ∧ I' = I ∧ G' = G)) 2 [some (.ref a), some (.int e), some (.int (nI k0)), some (.int (nI k))] [] I G b := by
  intro i
  induction i with
  | zero =>
    intro k h0 hk
    have e0 : k = m := by omega
    subst e0
    refine Ex_iload_n dX5_nextOf_2 rfl ?_
    refine Ex_aload_n dX5_nextOf_3 rfl ?_
    refine Ex_geti dX5_nextOf_4 fX5_22 hS.1 ?_
    refine Ex_top hm2 ?_
    refine Ex_icmp_geN (by omega) (by omega) (tgt := 28) dX5_nextOf_7 (by decide) (fun h7 => ?_) (fun h7 => ?_)
    · refine Ex_iconst (v := (-1)) dX5_nextOf_28 (by rfl) ?_
      refine Ex_iret dX5_nextOf_29 (by first | rfl | exact narrow_bI) ?_
      exact ⟨_, rfl, (by rw [← hk]; rfl), rfl, rfl⟩
    · omega
  | succ i ih =>
    intro k h0 hk
    have hk2 : (if (decide (lay k = e)) = true then k else fsN (fun k => decide (lay k = e)) i (k + 1)) = fsF lay m e k0 := hk
    refine Ex_iload_n dX5_nextOf_2 rfl ?_
    refine Ex_aload_n dX5_nextOf_3 rfl ?_
    refine Ex_geti dX5_nextOf_4 fX5_22 hS.1 ?_
    refine Ex_top hm2 ?_
    refine Ex_icmp_geN (by omega) (by omega) (tgt := 28) dX5_nextOf_7 (by decide) (fun h7 => ?_) (fun h7 => ?_)
    · omega
    · refine Ex_aload_n dX5_nextOf_10 rfl ?_
      refine Ex_getr dX5_nextOf_11 fX5_9 hS.1 hS.2.1 ?_
      refine Ex_iload_n dX5_nextOf_14 rfl ?_
      refine Ex_iald dX5_nextOf_15 hS.2.2.1 rfl (by rw [hS.2.2.2]; omega) (by rw [hS.2.2.2]; decide) ?_
      refine Ex_top (hlay k (by omega)) ?_
      refine Ex_iload_n dX5_nextOf_16 rfl ?_
      refine Ex_icmp_ne (tgt := 22) dX5_nextOf_17 (by decide) (fun h17 => ?_) (fun h17 => ?_)
      · first | refine Ex_iincN (m := 1) dX5_nextOf_22 rfl rfl (by decide) rfl ?_ | refine Ex_iinc dX5_nextOf_22 rfl rfl (by decide) rfl ?_
        simp only [List.set_cons_zero, List.set_cons_succ]
        refine Ex_goto (tgt := 2) dX5_nextOf_25 (by decide) ?_
        exact ih (k + 1) (by omega) (by rw [if_neg (by simpa using h17)] at hk2; exact hk2)
      · refine Ex_iload_n dX5_nextOf_20 rfl ?_
        refine Ex_iret dX5_nextOf_21 (by first | rfl | exact narrow_bI) ?_
        rw [if_pos (by simpa using h17)] at hk2
        exact ⟨_, rfl, (by rw [← hk2]; exact (if_neg (by omega)).symm), rfl, rfl⟩
set_option maxRecDepth 100000 in
set_option maxHeartbeats 4000000 in
theorem c5_nextOf {T : TC} {I : MI} {G : MG} (d : Nat) {a : Nat} (hS : SfS T G a) (k0 : Nat) (lay : Nat → Int32) (m : Nat) (e : Int32) (hm2 : I a 2 = nI m) (hm : m ≤ 12) (hlay : ∀ k, k < m → I (a + 1) k = lay k) (hk : k0 ≤ m) : OkP T mX5_nextOf (d) [.ref a, .int e, .int (nI k0)] I G (nxI (fsF lay m e k0)) := by
  refine Ok_of (own := RX5) (by decide) rfl (cat1 rfl) (Nat.le_of_ble_eq_true rfl) ?_
  show Ex T RX5 cX5_nextOf 4 (d) _ 0 [some (.ref a), some (.int e), some (.int (nI k0)), none] [] I G (0, 0)
  refine Ex_iload_n dX5_nextOf_0 rfl ?_
  refine Ex_istore_n dX5_nextOf_1 (by decide) rfl ?_
  simp only [st_n0, st_n1, st_n2, st_n3, List.set_cons_zero, List.set_cons_succ]
  exact l5_nextOf d hS lay m e hm2 hm hlay k0 (m - k0) k0 (by omega) rfl
theorem mN_st {g : Nat → Int32} {s : Nat} {row : Nat → Int32} (h1 : g (8 + 17 * s + 2) = nI (mN g s)) (h : mN g s ≤ 12) : ∀ k, stG g s row k (8 + 17 * s + 2) = nI (mN (stG g s row k) s) ∧ mN (stG g s row k) s ≤ 12
  | 0 => ⟨h1, h⟩
  | k + 1 => by
    have ih := mN_st (row := row) h1 h k
    have e2 := settle_2 (g := stG g s row k) (s := s) (e := row k) ih.2
    have e3 : mN (stG g s row (k + 1)) s = if mN (stG g s row k) s < 12 then mN (stG g s row k) s + 1 else 12 := mN_of e2 (by split <;> omega)
    exact ⟨by rw [e3]; exact e2, by rw [e3]; split <;> omega⟩
set_option maxRecDepth 100000 in
set_option maxHeartbeats 4000000 in
theorem l5_settleRow {T : TC} {I : MI} {G : MG} {F : FinT} {b : Nat × Nat} (d : Nat) {a w : Nat} (hS : SfS T G a) (hR : ShS T G w) (g : Nat → Int32) (s : Nat) (row : Nat → Int32) (z : Nat) (hz1 : I w 1 = nI z) (hz : z ≤ 24) (hrow : ∀ k, k < z → I (w + 1) k = row k) (hm1 : g (8 + 17 * s + 2) = nI (mN g s)) (hm : mN g s ≤ 12) (h1 : w ≠ a) (h2 : w ≠ a + 1) (h3 : w + 1 ≠ a) (kx : ∀ J, SfR J a (stG g s row z) s → Fr (P2 a) I J → Ex T RX5 cX5_settleRow 3 (d + 2) F 2 [some (.ref a), some (.ref w), some (.int (nI z))] [] J G b) : ∀ i k J, k + i = z → SfR J a (stG g s row k) s → Fr (P2 a) I J → Ex T RX5 cX5_settleRow 3 (d + 2) F 2 [some (.ref a), some (.ref w), some (.int (nI k))] [] J G b := by
  intro i
  induction i with
  | zero => intro k J h0 g1 g2; have e0 : k = z := by omega
            subst e0; exact kx J g1 g2
  | succ i ih =>
    intro k J h0 g1 g2
    have ew : J w = I w := g2 w (fun q => q.elim h1 h2)
    have ew1 : J (w + 1) = I (w + 1) := g2 (w + 1) (fun q => q.elim h3 (by omega))
    have hk := mN_st (row := row) hm1 hm k
    refine Ex_iload_n dX5_settleRow_2 rfl ?_
    refine Ex_aload_n dX5_settleRow_3 rfl ?_
    refine Ex_geti dX5_settleRow_4 fX5_34 hR.1 ?_
    refine Ex_top (show _ = nI z by rw [ew]; exact hz1) ?_
    refine Ex_icmp_geN (by omega) (by omega) (tgt := 26) dX5_settleRow_7 (by decide) (fun h7 => ?_) (fun h7 => ?_)
    · omega
    · refine Ex_aload_n dX5_settleRow_10 rfl ?_
      refine Ex_aload_n dX5_settleRow_11 rfl ?_
      refine Ex_getr dX5_settleRow_12 fX5_37 hR.1 hR.2.1 ?_
      refine Ex_iload_n dX5_settleRow_15 rfl ?_
      refine Ex_iald dX5_settleRow_16 hR.2.2.1 rfl (by rw [hR.2.2.2]; omega) (by rw [hR.2.2.2]; decide) ?_
      refine Ex_top (show _ = row k by rw [ew1]; exact hrow k (by omega)) ?_
      refine Ex_V1v dX5_settleRow_17 sX5_40 hS.1 (Nat.le_of_ble_eq_true rfl) (c5_settle d hS (stG g s row k) s _ (row k) g1 hk.1 rfl hk.2) ?_
      rintro J2 _ ⟨hj, hf, rfl⟩
      first | refine Ex_iincN (m := 1) dX5_settleRow_20 rfl rfl (by decide) rfl ?_ | refine Ex_iinc dX5_settleRow_20 rfl rfl (by decide) rfl ?_
      simp only [List.set_cons_zero, List.set_cons_succ]
      refine Ex_goto (tgt := 2) dX5_settleRow_23 (by decide) ?_
      exact ih (k + 1) J2 (by omega) hj (g2.trans hf)
set_option maxRecDepth 100000 in
set_option maxHeartbeats 4000000 in
theorem c5_settleRow {T : TC} {I : MI} {G : MG} (d : Nat) {a w : Nat} (hS : SfS T G a) (hR : ShS T G w) (g : Nat → Int32) (s : Nat) (row : Nat → Int32) (z : Nat) (hz1 : I w 1 = nI z) (hz : z ≤ 24) (hrow : ∀ k, k < z → I (w + 1) k = row k) (hm1 : g (8 + 17 * s + 2) = nI (mN g s)) (hm : mN g s ≤ 12) (h1 : w ≠ a) (h2 : w ≠ a + 1) (h3 : w + 1 ≠ a) (hI : SfR I a g s) : OkV T mX5_settleRow (d + 2) [.ref a, .ref w] I G (fun I' G' => SfR I' a (stG g s row z) s ∧ Fr (P2 a) I I' ∧ G' = G) := by
  refine Ok_of (own := RX5) (by decide) rfl (cat1 rfl) (Nat.le_of_ble_eq_true rfl) ?_
  show Ex T RX5 cX5_settleRow 3 (d + 2) _ 0 [some (.ref a), some (.ref w), none] [] I G (0, 0)
  refine Ex_iconst (v := nI 0) dX5_settleRow_0 (by rfl) ?_
  refine Ex_istore_n dX5_settleRow_1 (by decide) rfl ?_
  simp only [st_n0, st_n1, st_n2, st_n3, List.set_cons_zero, List.set_cons_succ]
  refine l5_settleRow d hS hR g s row z hz1 hz hrow hm1 hm h1 h2 h3 ?_ z 0 I (by omega) hI Fr.refl
  intro J hJ1 hJ2
  refine Ex_iload_n dX5_settleRow_2 rfl ?_
  refine Ex_aload_n dX5_settleRow_3 rfl ?_
  refine Ex_geti dX5_settleRow_4 fX5_34 hR.1 ?_
  refine Ex_top (show _ = nI z by rw [hJ2 w (fun q => q.elim h1 h2)]; exact hz1) ?_
  refine Ex_icmp_geN (by omega) (by omega) (tgt := 26) dX5_settleRow_7 (by decide) (fun h7 => ?_) (fun h7 => ?_)
  · refine Ex_vret dX5_settleRow_26 ?_
    exact ⟨rfl, hJ1, hJ2, rfl⟩
  · omega
