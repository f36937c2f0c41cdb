/-! rows -/
abbrev rowP (c : Nat → Int32) (n : Nat) : Prop := ∀ k, k < n → inR (c k) 10
theorem rowP_s {c : Nat → Int32} {n : Nat} : rowP c (n + 1) ↔ rowP c n ∧ inR (c n) 10 := by
  constructor
  · intro h; exact ⟨fun k hk => h k (by omega), h n (by omega)⟩
  · intro h k hk
    by_cases e : k = n
    · subst e; exact h.2
    · exact h.1 k (by omega)
/-- how many places of a row lie on layers -/
def pvF (row : Nat → Int32) (n : Nat) (lay : Nat → Int32) : Nat → Nat
  | 0 => 0
  | k + 1 => if pvF row n lay k < n ∧ lay k = row (pvF row n lay k) then pvF row n lay k + 1 else pvF row n lay k
def layF (g : Nat → Int32) (s : Nat) : Nat → Int32 := fun k => g (8 + 17 * s + (4 + k))
def prF (g row : Nat → Int32) (n s : Nat) : Nat := pvF row n (layF g s) (mN g s)
def lsG (g row : Nat → Int32) (n : Nat) : Nat → Int32
  | 0 => nI 0
  | s + 1 => lsG g row n s ||| (if prF g row n s = n then nI 1 <<< (nI s &&& 31) else nI 0)
theorem pvF_le {row lay : Nat → Int32} {n : Nat} : ∀ k, pvF row n lay k ≤ k
  | 0 => Nat.le_refl _
  | k + 1 => by
    have := pvF_le (row := row) (lay := lay) (n := n) k
    unfold pvF
    split <;> omega
theorem pvF_n {row lay : Nat → Int32} {n : Nat} : ∀ k, pvF row n lay k ≤ n
  | 0 => Nat.zero_le _
  | k + 1 => by
    have := pvF_n (row := row) (lay := lay) (n := n) k
    unfold pvF
    split
    · rename_i h; have := h.1; omega
    · exact this
theorem pvF_row {row row' lay : Nat → Int32} {n : Nat} (h : ∀ k, k < n → row' k = row k) : ∀ k, pvF row' n lay k = pvF row n lay k
  | 0 => rfl
  | k + 1 => by
    have ih := pvF_row (lay := lay) h k
    unfold pvF
    rw [ih]
    by_cases c : pvF row n lay k < n
    · rw [h _ c]
    · rw [if_neg (fun q => c q.1), if_neg (fun q => c q.1)]
theorem pvF_lay {row lay lay' : Nat → Int32} {n : Nat} : ∀ k, (∀ i, i < k → lay' i = lay i) → pvF row n lay' k = pvF row n lay k
  | 0, _ => rfl
  | k + 1, h => by
    have ih := pvF_lay (row := row) (n := n) k (fun i hi => h i (by omega))
    unfold pvF
    rw [ih, h k (by omega)]
set_option maxRecDepth 100000 in
set_option maxHeartbeats 4000000 in
theorem l9_isRowOf {T : TC} {I : MI} {G : MG} {F : FinT} {b : Nat × Nat} (d : Nat) {M : Nat} (hM : MSh T G M) (s z : Nat) (hs : s < 4) (hz : z ≤ 24) (kx : Ex T RX9 cX9_isRowOf 4 (d + 2) F 14 [some (.ref M), some (.int (nI s)), some (.int (bI (rowP (fun k => I (M + 20) (24 * s + k)) z))), some (.int (nI z))] [] (rowI (rowI I M (upd (I M) 5 (nI z))) (M + 4) (preF (fun k => I (M + 20) (24 * s + k)) (I (M + 4)) z)) G b) : ∀ i k, k + i = z  → Ex T RX9 cX9_isRowOf 4 (d + 2) F 14 [some (.ref M), some (.int (nI s)), some (.int (bI (rowP (fun k => I (M + 20) (24 * s + k)) k))), some (.int (nI k))] [] (rowI (rowI I M (upd (I M) 5 (nI z))) (M + 4) (preF (fun k => I (M + 20) (24 * s + k)) (I (M + 4)) k)) G b := by
  intro i
  induction i with
  | zero => intro k h0; have e0 : k = z := by omega
            subst e0; exact kx
  | succ i ih0 =>
    intro k h0
    have ih := ih0 (k + 1)
    refine Ex_iload_n dX9_isRowOf_14 rfl ?_
    refine Ex_aload_n dX9_isRowOf_15 rfl ?_
    refine Ex_geti dX9_isRowOf_16 fX9_172 hM.1 ?_
    refine Ex_top (show _ = nI z by rw [rowI_n (by omega), rowI_s, upd_s]) ?_
    refine Ex_icmp_geN (by omega) (by omega) (tgt := 67) dX9_isRowOf_19 (by decide) (fun h19 => ?_) (fun h19 => ?_)
    · omega
    · refine Ex_aload_n dX9_isRowOf_22 rfl ?_
      refine Ex_getr dX9_isRowOf_23 fX9_19 hM.1 (mF4 hM).1 ?_
      refine Ex_iload_n dX9_isRowOf_26 rfl ?_
      refine Ex_aload_n dX9_isRowOf_27 rfl ?_
      refine Ex_getr dX9_isRowOf_28 fX9_70 hM.1 (mF31 hM).1 ?_
      refine Ex_bipush (v := nI 24) dX9_isRowOf_31 (by rfl) ?_
      refine Ex_iload_n dX9_isRowOf_33 rfl ?_
      first | with_reducible refine Ex_imulN dX9_isRowOf_34 ?_ | refine Ex_imul dX9_isRowOf_34 ?_
      refine Ex_iload_n dX9_isRowOf_35 rfl ?_
      first | with_reducible refine Ex_iaddN dX9_isRowOf_36 ?_ | refine Ex_iadd dX9_isRowOf_36 ?_
      refine Ex_iald dX9_isRowOf_37 (mF31 hM).2.1 rfl (by rw [(mF31 hM).2.2]; omega) (by rw [(mF31 hM).2.2]; decide) ?_
      refine Ex_top (show _ = I (M + 20) (24 * s + k) by rw [rowI_n (by omega), rowI_n (by omega)]) ?_
      refine Ex_iast dX9_isRowOf_38 (mF4 hM).2.1 rfl (by rw [(mF4 hM).2.2]; omega) (by rw [(mF4 hM).2.2]; decide) ?_
      rw [setI_row, rowI_r, rowI_s]
      have hps := preF_s (f := (fun k => I (M + 20) (24 * s + k))) (g := I (M + 4)) (n := k)
      rw [hps]
      refine Ex_iload_n dX9_isRowOf_39 rfl ?_
      refine Ex_if_eqB (tgt := 59) dX9_isRowOf_40 (by decide) (fun h40 => ?_) (fun h40 => ?_)
      · refine Ex_iconst (v := nI 0) dX9_isRowOf_59 (by rfl) ?_
        refine Ex_istore_n dX9_isRowOf_60 (by decide) rfl ?_
        simp only [st_n0, st_n1, st_n2, st_n3, List.set_cons_zero, List.set_cons_succ]
        first | refine Ex_iincN (m := 1) dX9_isRowOf_61 rfl rfl (by decide) rfl ?_ | refine Ex_iinc dX9_isRowOf_61 rfl rfl (by decide) rfl ?_
        simp only [List.set_cons_zero, List.set_cons_succ]
        refine Ex_goto (tgt := 14) dX9_isRowOf_64 (by decide) ?_
        have key := ih (by omega)
        rw [bI_f (c := rowP (fun k => I (M + 20) (24 * s + k)) (k + 1)) (fun q => h40 (rowP_s.mp q).1)] at key
        exact key
      · refine Ex_aload_n dX9_isRowOf_43 rfl ?_
        refine Ex_getr dX9_isRowOf_44 fX9_19 hM.1 (mF4 hM).1 ?_
        refine Ex_iload_n dX9_isRowOf_47 rfl ?_
        refine Ex_iald dX9_isRowOf_48 (mF4 hM).2.1 rfl (by rw [(mF4 hM).2.2]; omega) (by rw [(mF4 hM).2.2]; decide) ?_
        refine Ex_top (show _ = I (M + 20) (24 * s + k) by rw [rowI_s]; exact if_pos (by omega)) ?_
        refine Ex_S1p dX9_isRowOf_49 sX9_144  (Nat.le_of_ble_eq_true rfl) (c9_isDeedR d _) ?_
        refine Ex_if_eqB (tgt := 59) dX9_isRowOf_52 (by decide) (fun h52 => ?_) (fun h52 => ?_)
        · refine Ex_iconst (v := nI 0) dX9_isRowOf_59 (by rfl) ?_
          refine Ex_istore_n dX9_isRowOf_60 (by decide) rfl ?_
          simp only [st_n0, st_n1, st_n2, st_n3, List.set_cons_zero, List.set_cons_succ]
          first | refine Ex_iincN (m := 1) dX9_isRowOf_61 rfl rfl (by decide) rfl ?_ | refine Ex_iinc dX9_isRowOf_61 rfl rfl (by decide) rfl ?_
          simp only [List.set_cons_zero, List.set_cons_succ]
          refine Ex_goto (tgt := 14) dX9_isRowOf_64 (by decide) ?_
          have key := ih (by omega)
          rw [bI_f (c := rowP (fun k => I (M + 20) (24 * s + k)) (k + 1)) (fun q => h52 (rowP_s.mp q).2)] at key
          exact key
        · refine Ex_iconst (v := nI 1) dX9_isRowOf_55 (by rfl) ?_
          refine Ex_goto (tgt := 60) dX9_isRowOf_56 (by decide) ?_
          refine Ex_istore_n dX9_isRowOf_60 (by decide) rfl ?_
          simp only [st_n0, st_n1, st_n2, st_n3, List.set_cons_zero, List.set_cons_succ]
          first | refine Ex_iincN (m := 1) dX9_isRowOf_61 rfl rfl (by decide) rfl ?_ | refine Ex_iinc dX9_isRowOf_61 rfl rfl (by decide) rfl ?_
          simp only [List.set_cons_zero, List.set_cons_succ]
          refine Ex_goto (tgt := 14) dX9_isRowOf_64 (by decide) ?_
          have key := ih (by omega)
          rw [bI_t (c := rowP (fun k => I (M + 20) (24 * s + k)) (k + 1)) (rowP_s.mpr ⟨h40, h52⟩)] at key
          exact key
set_option maxRecDepth 100000 in
set_option maxHeartbeats 4000000 in
theorem c9_isRowOf {T : TC} {I : MI} {G : MG} (d : Nat) {M : Nat} (hM : MSh T G M) (s z : Nat) (hs : s < 4) (hz1 : I (M + 19) s = nI z) (hz : z ≤ 24) : OkI T mX9_isRowOf (d + 2) [.ref M, .int (nI s)] I G (fun r I' G' => r = bI (rowP (fun k => I (M + 20) (24 * s + k)) z) ∧ I' = (rowI (rowI I M (upd (I M) 5 (nI z))) (M + 4) (preF (fun k => I (M + 20) (24 * s + k)) (I (M + 4)) z)) ∧ G' = G) := by
  refine Ok_of (own := RX9) (by decide) rfl (cat1 rfl) (Nat.le_of_ble_eq_true rfl) ?_
  show Ex T RX9 cX9_isRowOf 4 (d + 2) _ 0 [some (.ref M), some (.int (nI s)), none, none] [] I G (0, 0)
  refine Ex_iconst (v := nI 1) dX9_isRowOf_0 (by rfl) ?_
  refine Ex_istore_n dX9_isRowOf_1 (by decide) rfl ?_
  simp only [st_n0, st_n1, st_n2, st_n3, List.set_cons_zero, List.set_cons_succ]
  refine Ex_aload_n dX9_isRowOf_2 rfl ?_
  refine Ex_aload_n dX9_isRowOf_3 rfl ?_
  refine Ex_getr dX9_isRowOf_4 fX9_67 hM.1 (mF30 hM).1 ?_
  refine Ex_iload_n dX9_isRowOf_7 rfl ?_
  refine Ex_iald dX9_isRowOf_8 (mF30 hM).2.1 rfl (by rw [(mF30 hM).2.2]; omega) (by rw [(mF30 hM).2.2]; decide) ?_
  refine Ex_top hz1 ?_
  refine Ex_puti dX9_isRowOf_9 fX9_172 rfl rfl rfl hM.1 ?_
  rw [setI_row]
  refine Ex_iconst (v := nI 0) dX9_isRowOf_12 (by rfl) ?_
  refine Ex_istore_n dX9_isRowOf_13 (by decide) rfl ?_
  simp only [st_n0, st_n1, st_n2, st_n3, List.set_cons_zero, List.set_cons_succ]
  refine Ex_eqI (show _ = (rowI (rowI I M (upd (I M) 5 (nI z))) (M + 4) (preF (fun k => I (M + 20) (24 * s + k)) (I (M + 4)) 0)) by rw [preF_0]; exact (rowI_0 (by rw [rowI_n (by omega)])).symm) ?_
  have key := fun kx => l9_isRowOf (T := T) (I := I) (G := G) (b := (0, 0)) (F := fm T mX9_isRowOf.1.name mX9_isRowOf.2.2.2 (fun v I' G' => ∃ r, v = some (.int r) ∧ r = bI (rowP (fun k => I (M + 20) (24 * s + k)) z) ∧ I' = (rowI (rowI I M (upd (I M) 5 (nI z))) (M + 4) (preF (fun k => I (M + 20) (24 * s + k)) (I (M + 4)) z)) ∧ G' = G)) d hM s z hs hz kx z 0 (by omega)
  rw [bI_t (c := rowP (fun k => I (M + 20) (24 * s + k)) 0) (fun k hk => absurd hk (Nat.not_lt_zero k))] at key
  refine key ?_
  refine Ex_iload_n dX9_isRowOf_14 rfl ?_
  refine Ex_aload_n dX9_isRowOf_15 rfl ?_
  refine Ex_geti dX9_isRowOf_16 fX9_172 hM.1 ?_
  refine Ex_top (show _ = nI z by rw [rowI_n (by omega), rowI_s, upd_s]) ?_
  refine Ex_icmp_geN (by omega) (by omega) (tgt := 67) dX9_isRowOf_19 (by decide) (fun h19 => ?_) (fun h19 => ?_)
  · refine Ex_iload_n dX9_isRowOf_67 rfl ?_
    refine Ex_iret dX9_isRowOf_68 (by first | rfl | exact narrow_bI) ?_
    exact ⟨_, rfl, rfl, rfl, rfl⟩
  · omega
set_option maxRecDepth 100000 in
set_option maxHeartbeats 4000000 in
theorem l9_proved {T : TC} {I : MI} {G : MG} {F : FinT} {b : Nat × Nat} (d : Nat) {M : Nat} (hM : MSh T G M) (s z m : Nat) (hs : s < 8) (hz1 : I M 5 = nI z) (hz : z ≤ 24) (hm1 : I (M + 1) (8 + 17 * s + 2) = nI m) (hm : m ≤ 12) (kx : Ex T RX9 cX9_proved 4 (d + 1) F 4 [some (.ref M), some (.int (nI s)), some (.int (nI (pvF (I (M + 4)) z (layF (I (M + 1)) s) m))), some (.int (nI m))] [] I G b) : ∀ i k, k + i = m  → Ex T RX9 cX9_proved 4 (d + 1) F 4 [some (.ref M), some (.int (nI s)), some (.int (nI (pvF (I (M + 4)) z (layF (I (M + 1)) s) k))), some (.int (nI k))] [] I G b := by
  intro i
  induction i with
  | zero => intro k h0; have e0 : k = m := by omega
            subst e0; exact kx
  | succ i ih0 =>
    intro k h0
    have ih := ih0 (k + 1)
    have hpl := pvF_n (row := I (M + 4)) (lay := layF (I (M + 1)) s) (n := z) k
    refine Ex_iload_n dX9_proved_4 rfl ?_
    refine Ex_aload_n dX9_proved_5 rfl ?_
    refine Ex_iload_n dX9_proved_6 rfl ?_
    refine Ex_iconst (v := nI 2) dX9_proved_7 (by rfl) ?_
    refine Ex_V2p dX9_proved_8 sX9_105 hM.1 (Nat.le_of_ble_eq_true rfl) (c9_of d hM s 2 (by omega)) ?_
    refine Ex_top hm1 ?_
    refine Ex_icmp_geN (by omega) (by omega) (tgt := 53) dX9_proved_11 (by decide) (fun h11 => ?_) (fun h11 => ?_)
    · omega
    · refine Ex_iload_n dX9_proved_14 rfl ?_
      refine Ex_iload_n dX9_proved_15 rfl ?_
      refine Ex_aload_n dX9_proved_16 rfl ?_
      refine Ex_geti dX9_proved_17 fX9_172 hM.1 ?_
      refine Ex_top hz1 ?_
      refine Ex_icmp_geN (by omega) (by omega) (tgt := 44) dX9_proved_20 (by decide) (fun h20 => ?_) (fun h20 => ?_)
      · refine Ex_iconst (v := nI 0) dX9_proved_44 (by rfl) ?_
        first | with_reducible refine Ex_iaddN dX9_proved_45 ?_ | refine Ex_iadd dX9_proved_45 ?_
        refine Ex_istore_n dX9_proved_46 (by decide) rfl ?_
        simp only [st_n0, st_n1, st_n2, st_n3, List.set_cons_zero, List.set_cons_succ]
        first | refine Ex_iincN (m := 1) dX9_proved_47 rfl rfl (by decide) rfl ?_ | refine Ex_iinc dX9_proved_47 rfl rfl (by decide) rfl ?_
        simp only [List.set_cons_zero, List.set_cons_succ]
        refine Ex_goto (tgt := 4) dX9_proved_50 (by decide) ?_
        have ep : pvF (I (M + 4)) z (layF (I (M + 1)) s) (k + 1) = pvF (I (M + 4)) z (layF (I (M + 1)) s) k := if_neg (fun q => absurd q.1 (by omega))
        have key := ih (by omega)
        rw [ep] at key
        exact key
      · refine Ex_aload_n dX9_proved_23 rfl ?_
        refine Ex_iload_n dX9_proved_24 rfl ?_
        refine Ex_iconst (v := nI 4) dX9_proved_25 (by rfl) ?_
        refine Ex_iload_n dX9_proved_26 rfl ?_
        first | with_reducible refine Ex_iaddN dX9_proved_27 ?_ | refine Ex_iadd dX9_proved_27 ?_
        refine Ex_V2p dX9_proved_28 sX9_105 hM.1 (Nat.le_of_ble_eq_true rfl) (c9_of d hM s (4 + k) (by omega)) ?_
        refine Ex_aload_n dX9_proved_31 rfl ?_
        refine Ex_getr dX9_proved_32 fX9_19 hM.1 (mF4 hM).1 ?_
        refine Ex_iload_n dX9_proved_35 rfl ?_
        refine Ex_iald dX9_proved_36 (mF4 hM).2.1 rfl (by rw [(mF4 hM).2.2]; omega) (by rw [(mF4 hM).2.2]; decide) ?_
        refine Ex_icmp_ne (tgt := 44) dX9_proved_37 (by decide) (fun h37 => ?_) (fun h37 => ?_)
        · refine Ex_iconst (v := nI 0) dX9_proved_44 (by rfl) ?_
          first | with_reducible refine Ex_iaddN dX9_proved_45 ?_ | refine Ex_iadd dX9_proved_45 ?_
          refine Ex_istore_n dX9_proved_46 (by decide) rfl ?_
          simp only [st_n0, st_n1, st_n2, st_n3, List.set_cons_zero, List.set_cons_succ]
          first | refine Ex_iincN (m := 1) dX9_proved_47 rfl rfl (by decide) rfl ?_ | refine Ex_iinc dX9_proved_47 rfl rfl (by decide) rfl ?_
          simp only [List.set_cons_zero, List.set_cons_succ]
          refine Ex_goto (tgt := 4) dX9_proved_50 (by decide) ?_
          have ep : pvF (I (M + 4)) z (layF (I (M + 1)) s) (k + 1) = pvF (I (M + 4)) z (layF (I (M + 1)) s) k := if_neg (fun q => h37 q.2)
          have key := ih (by omega)
          rw [ep] at key
          exact key
        · refine Ex_iconst (v := nI 1) dX9_proved_40 (by rfl) ?_
          refine Ex_goto (tgt := 45) dX9_proved_41 (by decide) ?_
          first | with_reducible refine Ex_iaddN dX9_proved_45 ?_ | refine Ex_iadd dX9_proved_45 ?_
          refine Ex_istore_n dX9_proved_46 (by decide) rfl ?_
          simp only [st_n0, st_n1, st_n2, st_n3, List.set_cons_zero, List.set_cons_succ]
          first | refine Ex_iincN (m := 1) dX9_proved_47 rfl rfl (by decide) rfl ?_ | refine Ex_iinc dX9_proved_47 rfl rfl (by decide) rfl ?_
          simp only [List.set_cons_zero, List.set_cons_succ]
          refine Ex_goto (tgt := 4) dX9_proved_50 (by decide) ?_
          have ep : pvF (I (M + 4)) z (layF (I (M + 1)) s) (k + 1) = pvF (I (M + 4)) z (layF (I (M + 1)) s) k + 1 := if_pos ⟨by omega, h37⟩
          have key := ih (by omega)
          rw [ep] at key
          exact key
set_option maxRecDepth 100000 in
set_option maxHeartbeats 4000000 in
theorem c9_proved {T : TC} {I : MI} {G : MG} (d : Nat) {M : Nat} (hM : MSh T G M) (s z m : Nat) (hs : s < 8) (hz1 : I M 5 = nI z) (hz : z ≤ 24) (hm1 : I (M + 1) (8 + 17 * s + 2) = nI m) (hm : m ≤ 12) : OkP T mX9_proved (d + 1) [.ref M, .int (nI s)] I G (nI (pvF (I (M + 4)) z (layF (I (M + 1)) s) m)) := by
  refine Ok_of (own := RX9) (by decide) rfl (cat1 rfl) (Nat.le_of_ble_eq_true rfl) ?_
  show Ex T RX9 cX9_proved 4 (d + 1) _ 0 [some (.ref M), some (.int (nI s)), none, none] [] I G (0, 0)
  refine Ex_iconst (v := nI 0) dX9_proved_0 (by rfl) ?_
  refine Ex_istore_n dX9_proved_1 (by decide) rfl ?_
  simp only [st_n0, st_n1, st_n2, st_n3, List.set_cons_zero, List.set_cons_succ]
  refine Ex_iconst (v := nI 0) dX9_proved_2 (by rfl) ?_
  refine Ex_istore_n dX9_proved_3 (by decide) rfl ?_
  simp only [st_n0, st_n1, st_n2, st_n3, List.set_cons_zero, List.set_cons_succ]
  refine l9_proved d hM s z m hs hz1 hz hm1 hm ?_ m 0 (by omega)
  refine Ex_iload_n dX9_proved_4 rfl ?_
  refine Ex_aload_n dX9_proved_5 rfl ?_
  refine Ex_iload_n dX9_proved_6 rfl ?_
  refine Ex_iconst (v := nI 2) dX9_proved_7 (by rfl) ?_
  refine Ex_V2p dX9_proved_8 sX9_105 hM.1 (Nat.le_of_ble_eq_true rfl) (c9_of d hM s 2 (by omega)) ?_
  refine Ex_top hm1 ?_
  refine Ex_icmp_geN (by omega) (by omega) (tgt := 53) dX9_proved_11 (by decide) (fun h11 => ?_) (fun h11 => ?_)
  · refine Ex_iload_n dX9_proved_53 rfl ?_
    refine Ex_iret dX9_proved_54 (by first | rfl | exact narrow_bI) ?_
    exact ⟨_, rfl, rfl, rfl, rfl⟩
  · omega
set_option maxRecDepth 100000 in
set_option maxHeartbeats 4000000 in
theorem c9_doesLie {T : TC} {I : MI} {G : MG} (d : Nat) {M : Nat} (hM : MSh T G M) (s z m : Nat) (hs : s < 8) (hz1 : I M 5 = nI z) (hz : z ≤ 24) (hm1 : I (M + 1) (8 + 17 * s + 2) = nI m) (hm : m ≤ 12) : OkP T mX9_doesLie (d + 2) [.ref M, .int (nI s)] I G (bI (pvF (I (M + 4)) z (layF (I (M + 1)) s) m = z)) := by
  refine Ok_of (own := RX9) (by decide) rfl (cat1 rfl) (Nat.le_of_ble_eq_true rfl) ?_
  show Ex T RX9 cX9_doesLie 2 (d + 2) _ 0 [some (.ref M), some (.int (nI s))] [] I G (0, 0)
  have hpl := pvF_n (row := I (M + 4)) (lay := layF (I (M + 1)) s) (n := z) m
  refine Ex_aload_n dX9_doesLie_0 rfl ?_
  refine Ex_iload_n dX9_doesLie_1 rfl ?_
  refine Ex_V1p dX9_doesLie_2 sX9_176 hM.1 (Nat.le_of_ble_eq_true rfl) (c9_proved d hM s z m hs hz1 hz hm1 hm) ?_
  refine Ex_aload_n dX9_doesLie_5 rfl ?_
  refine Ex_geti dX9_doesLie_6 fX9_172 hM.1 ?_
  refine Ex_top hz1 ?_
  refine Ex_icmp_neN (by omega) (by omega) (tgt := 16) dX9_doesLie_9 (by decide) (fun h9 => ?_) (fun h9 => ?_)
  · refine Ex_iconst (v := nI 0) dX9_doesLie_16 (by rfl) ?_
    refine Ex_iret dX9_doesLie_17 (by first | rfl | exact narrow_bI) ?_
    exact ⟨_, rfl, (bI_f h9).symm, rfl, rfl⟩
  · refine Ex_iconst (v := nI 1) dX9_doesLie_12 (by rfl) ?_
    refine Ex_goto (tgt := 17) dX9_doesLie_13 (by decide) ?_
    refine Ex_iret dX9_doesLie_17 (by first | rfl | exact narrow_bI) ?_
    exact ⟨_, rfl, (bI_t h9).symm, rfl, rfl⟩
/-- the row stands: its size and its places -/
def RwI (I : MI) (M : Nat) (row : Nat → Int32) (z : Nat) : Prop := I M 5 = nI z ∧ ∀ k, k < z → I (M + 4) k = row k
def Pr (M : Nat) : Nat → Prop := fun a => a = M ∨ a = M + 4
theorem RwI_of {I : MI} {M z : Nat} {row : Nat → Int32} : RwI (rowI (rowI I M (upd (I M) 5 (nI z))) (M + 4) (preF row (I (M + 4)) z)) M row z :=
  ⟨by rw [rowI_n (by omega), rowI_s, upd_s], fun k hk => by rw [rowI_s]; exact if_pos hk⟩
theorem prF_eq {I : MI} {M z s m : Nat} {row g : Nat → Int32} (hR : RwI I M row z) (hg : I (M + 1) = g) (hm : mN g s = m) : pvF (I (M + 4)) z (layF (I (M + 1)) s) m = prF g row z s := by
  unfold prF
  rw [pvF_row hR.2, hg, hm]
def r_lies (g so : Nat → Int32) (sz : Nat → Nat) (ce : Nat → Nat → Int32) (s : Int32) : Int32 := if inR s 4 then (if so (cl s) < 0 then cNOTHING else if rowP (ce (cl s)) (sz (cl s)) then lsG g (ce (cl s)) (sz (cl s)) (nS g) else cSIZE) else cBAD
def r_proof (g so : Nat → Int32) (sz : Nat → Nat) (ce : Nat → Nat → Int32) (s u : Int32) : Int32 := if inR s 4 ∧ inR u (nS g) then (if so (cl s) < 0 then cNOTHING else if rowP (ce (cl s)) (sz (cl s)) then (if prF g (ce (cl s)) (sz (cl s)) (cl u) = sz (cl s) then cNONE else nI (prF g (ce (cl s)) (sz (cl s)) (cl u))) else cSIZE) else cBAD
/-- what a method keeps of the reference's rows but for the scratch: M's own fields but for rowSize, and the places of the row -/
def Kr (M : Nat) (P : Nat → Prop) (I I' : MI) : Prop := (∀ j, j ≠ 5 → I' M j = I M j) ∧ Fr (fun a => a = M ∨ a = M + 4 ∨ P a) I I'
theorem Kr.refl {M : Nat} {P : Nat → Prop} {I : MI} : Kr M P I I := ⟨fun _ _ => rfl, Fr.refl⟩
theorem Kr_row {M z : Nat} {P : Nat → Prop} {I : MI} {f : Nat → Int32} : Kr M P I (rowI (rowI I M (upd (I M) 5 (nI z))) (M + 4) f) :=
  ⟨fun j hj => by rw [rowI_n (by omega), rowI_s, upd_n hj], (Fr.row (Or.inl rfl)).trans (Fr.row (Or.inr (Or.inl rfl)))⟩
theorem Kr.step {M : Nat} {P : Nat → Prop} {I I' I2 : MI} (h : Kr M P I I') (hf : Fr P I' I2) (hP : ¬ P M) : Kr M P I I2 :=
  ⟨fun j hj => by rw [hf M hP]; exact h.1 j hj, h.2.trans (hf.mono (fun a ha => Or.inr (Or.inr ha)))⟩
set_option maxRecDepth 100000 in
set_option maxHeartbeats 4000000 in
theorem l9_lies {T : TC} {I : MI} {G : MG} {F : FinT} {b : Nat × Nat} (d : Nat) {M : Nat} (hM : MSh T G M) (g row : Nat → Int32) (hg : I (M + 1) = g) (hW : WfG g) (z n : Nat) (hR : RwI I M row z) (hz : z ≤ 24) (hn1 : g 1 = nI n) (hn8 : n ≤ 8) (x1 : Int32) (kx : Ex T RX9 cX9_lies 4 (d + 3) F 37 [some (.ref M), some (.int x1), some (.int (lsG g row z n)), some (.int (nI n))] [] I G b) : ∀ i k, k + i = n  → Ex T RX9 cX9_lies 4 (d + 3) F 37 [some (.ref M), some (.int x1), some (.int (lsG g row z k)), some (.int (nI k))] [] I G b := by
  intro i
  induction i with
  | zero => intro k h0; have e0 : k = n := by omega
            subst e0; exact kx
  | succ i ih0 =>
    intro k h0
    have ih := ih0 (k + 1)
    obtain ⟨hm1, hm2, -, -⟩ := hW.2.2.1 k (by omega)
    refine Ex_iload_n dX9_lies_37 rfl ?_
    refine Ex_aload_n dX9_lies_38 rfl ?_
    refine Ex_getr dX9_lies_39 fX9_9 hM.1 (mF0 hM).1 ?_
    refine Ex_iconst (v := nI 1) dX9_lies_42 (by rfl) ?_
    refine Ex_iald dX9_lies_43 (mF0 hM).2.1 rfl (by rw [(mF0 hM).2.2]; omega) (by rw [(mF0 hM).2.2]; decide) ?_
    refine Ex_top (show _ = nI n by rw [hg]; exact hn1) ?_
    refine Ex_icmp_geN (by omega) (by omega) (tgt := 71) dX9_lies_44 (by decide) (fun h44 => ?_) (fun h44 => ?_)
    · omega
    · refine Ex_iload_n dX9_lies_47 rfl ?_
      refine Ex_aload_n dX9_lies_48 rfl ?_
      refine Ex_iload_n dX9_lies_49 rfl ?_
      refine Ex_V1p dX9_lies_50 sX9_187 hM.1 (Nat.le_of_ble_eq_true rfl) (c9_doesLie d hM k z _ (by omega) hR.1 hz (by rw [hg]; exact hm1) hm2) ?_
      refine Ex_if_eqB (tgt := 62) dX9_lies_53 (by decide) (fun h53 => ?_) (fun h53 => ?_)
      · refine Ex_iconst (v := nI 0) dX9_lies_62 (by rfl) ?_
        refine Ex_ior dX9_lies_63 ?_
        refine Ex_istore_n dX9_lies_64 (by decide) rfl ?_
        simp only [st_n0, st_n1, st_n2, st_n3, List.set_cons_zero, List.set_cons_succ]
        first | refine Ex_iincN (m := 1) dX9_lies_65 rfl rfl (by decide) rfl ?_ | refine Ex_iinc dX9_lies_65 rfl rfl (by decide) rfl ?_
        simp only [List.set_cons_zero, List.set_cons_succ]
        refine Ex_goto (tgt := 37) dX9_lies_68 (by decide) ?_
        have ec : lsG g row z (k + 1) = lsG g row z k ||| nI 0 := by show lsG _ _ _ k ||| _ = _; rw [if_neg (by rw [← prF_eq hR hg rfl]; exact h53)]
        have key := ih (by omega)
        rw [ec] at key
        exact key
      · refine Ex_iconst (v := nI 1) dX9_lies_56 (by rfl) ?_
        refine Ex_iload_n dX9_lies_57 rfl ?_
        refine Ex_ishl dX9_lies_58 ?_
        refine Ex_goto (tgt := 63) dX9_lies_59 (by decide) ?_
        refine Ex_ior dX9_lies_63 ?_
        refine Ex_istore_n dX9_lies_64 (by decide) rfl ?_
        simp only [st_n0, st_n1, st_n2, st_n3, List.set_cons_zero, List.set_cons_succ]
        first | refine Ex_iincN (m := 1) dX9_lies_65 rfl rfl (by decide) rfl ?_ | refine Ex_iinc dX9_lies_65 rfl rfl (by decide) rfl ?_
        simp only [List.set_cons_zero, List.set_cons_succ]
        refine Ex_goto (tgt := 37) dX9_lies_68 (by decide) ?_
        have ec : lsG g row z (k + 1) = lsG g row z k ||| (nI 1 <<< (nI k &&& 31)) := by show lsG _ _ _ k ||| _ = _; rw [if_pos (by rw [← prF_eq hR hg rfl]; exact h53)]
        have key := ih (by omega)
        rw [ec] at key
        exact key
set_option maxRecDepth 100000 in
set_option maxHeartbeats 4000000 in
theorem C9_lies {T : TC} {I : MI} {G : MG} (d : Nat) {M : Nat} (hM : MSh T G M) (hW : WfG (I (M + 1))) (sz : Nat → Nat) (hz : SzR I M sz) (s : Int32)  : OkI T mX9_lies (d + 3) [.ref M, .int s] I G (fun r I' G' => r = r_lies (I (M + 1)) (I (M + 18)) sz (fun s k => I (M + 20) (24 * s + k)) s ∧ I' (M + 1) = I (M + 1) ∧ Kr M (fun _ => False) I I' ∧ G' = G) := by
  refine Ok_of (own := RX9) (by decide) rfl (cat1 rfl) (Nat.le_of_ble_eq_true rfl) ?_
  show Ex T RX9 cX9_lies 4 (d + 3) _ 0 [some (.ref M), some (.int s), none, none] [] I G (0, 0)
  refine Ex_iload_n dX9_lies_0 rfl ?_
  refine Ex_S1p dX9_lies_1 sX9_179  (Nat.le_of_ble_eq_true rfl) (c9_isSheet (d + 1) _) ?_
  refine Ex_if_neB (tgt := 10) dX9_lies_4 (by decide) (fun h4 => ?_) (fun h4 => ?_)
  · obtain ⟨s', hs', e4⟩ := (rng_k (by omega)).mp h4
    have hcl : cl (nI s') = s' := cl_nI (by omega)
    subst e4
    refine Ex_aload_n dX9_lies_10 rfl ?_
    refine Ex_getr dX9_lies_11 fX9_64 hM.1 (mF29 hM).1 ?_
    refine Ex_iload_n dX9_lies_14 rfl ?_
    refine Ex_iald dX9_lies_15 (mF29 hM).2.1 rfl (by rw [(mF29 hM).2.2]; omega) (by rw [(mF29 hM).2.2]; decide) ?_
    refine Ex_if_ge (tgt := 22) dX9_lies_16 (by decide) (fun h16 => ?_) (fun h16 => ?_)
    · obtain ⟨hz1, hz2⟩ := hz s' hs'
      have hn8 := hW.2.1
      refine Ex_aload_n dX9_lies_22 rfl ?_
      refine Ex_iload_n dX9_lies_23 rfl ?_
      refine Ex_V1i dX9_lies_24 sX9_183 hM.1 (Nat.le_of_ble_eq_true rfl) (c9_isRowOf d hM s' (sz s') hs' hz1 hz2) ?_
      rintro r J _ ⟨rfl, hJ, rfl⟩
      have hR : RwI J M (fun k => I (M + 20) (24 * s' + k)) (sz s') := by rw [hJ]; exact RwI_of
      have hg : J (M + 1) = I (M + 1) := by rw [hJ, rowI_n (by omega), rowI_n (by omega)]
      have hK : Kr M (fun _ => False) I J := by rw [hJ]; exact Kr_row
      refine Ex_if_neB (tgt := 33) dX9_lies_27 (by decide) (fun h27 => ?_) (fun h27 => ?_)
      · refine Ex_iconst (v := nI 0) dX9_lies_33 (by rfl) ?_
        refine Ex_istore_n dX9_lies_34 (by decide) rfl ?_
        simp only [st_n0, st_n1, st_n2, st_n3, List.set_cons_zero, List.set_cons_succ]
        refine Ex_iconst (v := nI 0) dX9_lies_35 (by rfl) ?_
        refine Ex_istore_n dX9_lies_36 (by decide) rfl ?_
        simp only [st_n0, st_n1, st_n2, st_n3, List.set_cons_zero, List.set_cons_succ]
        refine l9_lies d hM (I (M + 1)) _ hg hW (sz s') (nS (I (M + 1))) hR hz2 hW.1 hn8 _ ?_ (nS (I (M + 1))) 0 (by omega)
        refine Ex_iload_n dX9_lies_37 rfl ?_
        refine Ex_aload_n dX9_lies_38 rfl ?_
        refine Ex_getr dX9_lies_39 fX9_9 hM.1 (mF0 hM).1 ?_
        refine Ex_iconst (v := nI 1) dX9_lies_42 (by rfl) ?_
        refine Ex_iald dX9_lies_43 (mF0 hM).2.1 rfl (by rw [(mF0 hM).2.2]; omega) (by rw [(mF0 hM).2.2]; decide) ?_
        refine Ex_top (show _ = nI (nS (I (M + 1))) by rw [hg]; exact hW.1) ?_
        refine Ex_icmp_geN (by omega) (by omega) (tgt := 71) dX9_lies_44 (by decide) (fun h44 => ?_) (fun h44 => ?_)
        · refine Ex_iload_n dX9_lies_71 rfl ?_
          refine Ex_iret dX9_lies_72 (by first | rfl | exact narrow_bI) ?_
          exact ⟨_, rfl, (by unfold r_lies; rw [if_pos h4, hcl, if_neg (Int32.not_lt.mpr h16), if_pos h27]), hg, hK, rfl⟩
        · omega
      · refine Ex_ldc dX9_lies_30 kX9_186 ?_
        refine Ex_iret dX9_lies_32 (by first | rfl | exact narrow_bI) ?_
        exact ⟨_, rfl, (by unfold r_lies; rw [if_pos h4, hcl, if_neg (Int32.not_lt.mpr h16), if_neg h27]), hg, hK, rfl⟩
    · refine Ex_ldc dX9_lies_19 kX9_182 ?_
      refine Ex_iret dX9_lies_21 (by first | rfl | exact narrow_bI) ?_
      exact ⟨_, rfl, (by unfold r_lies; rw [if_pos h4, hcl, if_pos (Int32.not_le.mp h16)]), rfl, Kr.refl, rfl⟩
  · refine Ex_ldc dX9_lies_7 kX9_99 ?_
    refine Ex_iret dX9_lies_9 (by first | rfl | exact narrow_bI) ?_
    exact ⟨_, rfl, (by unfold r_lies; rw [if_neg h4]), rfl, Kr.refl, rfl⟩
set_option maxRecDepth 100000 in
set_option maxHeartbeats 4000000 in
theorem C9_proof {T : TC} {I : MI} {G : MG} (d : Nat) {M : Nat} (hM : MSh T G M) (hW : WfG (I (M + 1))) (sz : Nat → Nat) (hz : SzR I M sz) (s u : Int32)  : OkI T mX9_proof (d + 3) [.ref M, .int s, .int u] I G (fun r I' G' => r = r_proof (I (M + 1)) (I (M + 18)) sz (fun s k => I (M + 20) (24 * s + k)) s u ∧ I' (M + 1) = I (M + 1) ∧ Kr M (fun _ => False) I I' ∧ G' = G) := by
  refine Ok_of (own := RX9) (by decide) rfl (cat1 rfl) (Nat.le_of_ble_eq_true rfl) ?_
  show Ex T RX9 cX9_proof 3 (d + 3) _ 0 [some (.ref M), some (.int s), some (.int u)] [] I G (0, 0)
  refine Ex_iload_n dX9_proof_0 rfl ?_
  refine Ex_S1p dX9_proof_1 sX9_179  (Nat.le_of_ble_eq_true rfl) (c9_isSheet (d + 1) _) ?_
  refine Ex_if_eqB (tgt := 15) dX9_proof_4 (by decide) (fun h4 => ?_) (fun h4 => ?_)
  · refine Ex_ldc dX9_proof_15 kX9_99 ?_
    refine Ex_iret dX9_proof_17 (by first | rfl | exact narrow_bI) ?_
    exact ⟨_, rfl, (by unfold r_proof; rw [if_neg (fun q => h4 q.1)]), rfl, Kr.refl, rfl⟩
  · refine Ex_aload_n dX9_proof_7 rfl ?_
    refine Ex_iload_n dX9_proof_8 rfl ?_
    refine Ex_V1p dX9_proof_9 sX9_119 hM.1 (Nat.le_of_ble_eq_true rfl) (c9_isS (d + 1) hM hW _) ?_
    refine Ex_if_neB (tgt := 18) dX9_proof_12 (by decide) (fun h12 => ?_) (fun h12 => ?_)
    · obtain ⟨s', hs', e4⟩ := (rng_k (by omega)).mp h4
      have hcl : cl (nI s') = s' := cl_nI (by omega)
      subst e4
      refine Ex_aload_n dX9_proof_18 rfl ?_
      refine Ex_getr dX9_proof_19 fX9_64 hM.1 (mF29 hM).1 ?_
      refine Ex_iload_n dX9_proof_22 rfl ?_
      refine Ex_iald dX9_proof_23 (mF29 hM).2.1 rfl (by rw [(mF29 hM).2.2]; omega) (by rw [(mF29 hM).2.2]; decide) ?_
      refine Ex_if_ge (tgt := 30) dX9_proof_24 (by decide) (fun h24 => ?_) (fun h24 => ?_)
      · obtain ⟨hz1, hz2⟩ := hz s' hs'
        refine Ex_aload_n dX9_proof_30 rfl ?_
        refine Ex_iload_n dX9_proof_31 rfl ?_
        refine Ex_V1i dX9_proof_32 sX9_183 hM.1 (Nat.le_of_ble_eq_true rfl) (c9_isRowOf d hM s' (sz s') hs' hz1 hz2) ?_
        rintro r J _ ⟨rfl, hJ, rfl⟩
        have hR : RwI J M (fun k => I (M + 20) (24 * s' + k)) (sz s') := by rw [hJ]; exact RwI_of
        have hg : J (M + 1) = I (M + 1) := by rw [hJ, rowI_n (by omega), rowI_n (by omega)]
        have hK : Kr M (fun _ => False) I J := by rw [hJ]; exact Kr_row
        refine Ex_if_neB (tgt := 41) dX9_proof_35 (by decide) (fun h35 => ?_) (fun h35 => ?_)
        · obtain ⟨u', hu', eu⟩ := (rng_k (by have := hW.2.1; omega)).mp h12
          have hcu : cl (nI u') = u' := cl_nI (by have := hW.2.1; omega)
          subst eu
          have hu8 : u' < 8 := by have := hW.2.1; omega
          obtain ⟨hm1, hm2, -, -⟩ := hW.2.2.1 u' hu8
          refine Ex_aload_n dX9_proof_41 rfl ?_
          refine Ex_iload_n dX9_proof_42 rfl ?_
          refine Ex_V1p dX9_proof_43 sX9_187 hM.1 (Nat.le_of_ble_eq_true rfl) (c9_doesLie d hM u' (sz s') _ hu8 hR.1 hz2 (by rw [hg]; exact hm1) hm2) ?_
          refine Ex_if_eqB (tgt := 54) dX9_proof_46 (by decide) (fun h46 => ?_) (fun h46 => ?_)
          · refine Ex_aload_n dX9_proof_54 rfl ?_
            refine Ex_iload_n dX9_proof_55 rfl ?_
            refine Ex_V1p dX9_proof_56 sX9_176 hM.1 (Nat.le_of_ble_eq_true rfl) (c9_proved (d + 1) hM u' (sz s') _ hu8 hR.1 hz2 (by rw [hg]; exact hm1) hm2) ?_
            refine Ex_iret dX9_proof_59 (by first | rfl | exact narrow_bI) ?_
            exact ⟨_, rfl, (by unfold r_proof; rw [if_pos ⟨h4, h12⟩, hcl, if_neg (Int32.not_lt.mpr h24), if_pos h35, hcu, if_neg (by rw [← prF_eq hR hg rfl]; exact h46)]; exact congrArg nI (prF_eq hR hg rfl)), hg, hK, rfl⟩
          · refine Ex_ldc dX9_proof_49 kX9_133 ?_
            refine Ex_goto (tgt := 59) dX9_proof_51 (by decide) ?_
            refine Ex_iret dX9_proof_59 (by first | rfl | exact narrow_bI) ?_
            exact ⟨_, rfl, (by unfold r_proof; rw [if_pos ⟨h4, h12⟩, hcl, if_neg (Int32.not_lt.mpr h24), if_pos h35, hcu, if_pos (by rw [← prF_eq hR hg rfl]; exact h46)]), hg, hK, rfl⟩
        · refine Ex_ldc dX9_proof_38 kX9_186 ?_
          refine Ex_iret dX9_proof_40 (by first | rfl | exact narrow_bI) ?_
          exact ⟨_, rfl, (by unfold r_proof; rw [if_pos ⟨h4, h12⟩, hcl, if_neg (Int32.not_lt.mpr h24), if_neg h35]), hg, hK, rfl⟩
      · refine Ex_ldc dX9_proof_27 kX9_182 ?_
        refine Ex_iret dX9_proof_29 (by first | rfl | exact narrow_bI) ?_
        exact ⟨_, rfl, (by unfold r_proof; rw [if_pos ⟨h4, h12⟩, hcl, if_pos (Int32.not_le.mp h24)]), rfl, Kr.refl, rfl⟩
    · refine Ex_ldc dX9_proof_15 kX9_99 ?_
      refine Ex_iret dX9_proof_17 (by first | rfl | exact narrow_bI) ?_
      exact ⟨_, rfl, (by unfold r_proof; rw [if_neg (fun q => h12 q.2)]), rfl, Kr.refl, rfl⟩
