/-! the reference: layers -/
theorem takeK_2 {g : Nat → Int32} {s m k i : Nat} : takeK g s m k i (8 + 17 * s + 2) = nI (m - 1) := if_pos rfl
theorem takeK_r {g : Nat → Int32} {s m k i w : Nat} (h : 4 + i ≤ w) : takeK g s m k i (8 + 17 * s + w) = g (8 + 17 * s + w) := by
  unfold takeK
  rw [if_neg (by omega), if_neg (by omega)]
theorem takeK_s {g : Nat → Int32} {s m k i : Nat} (h : k ≤ i) : upd (takeK g s m k i) (8 + 17 * s + (4 + i)) (g (8 + 17 * s + (4 + i + 1))) = takeK g s m k (i + 1) := by
  funext j
  by_cases e : j = 8 + 17 * s + (4 + i)
  · subst e
    rw [upd_s]
    unfold takeK
    rw [if_neg (by omega), if_pos (by omega)]
    rfl
  · rw [upd_n e]
    unfold takeK
    by_cases e2 : j = 8 + 17 * s + 2
    · rw [if_pos e2, if_pos e2]
    · rw [if_neg e2, if_neg e2]
      by_cases e3 : 8 + 17 * s + (4 + k) ≤ j ∧ j < 8 + 17 * s + (4 + i)
      · rw [if_pos e3, if_pos (by omega)]
      · rw [if_neg e3, if_neg (show ¬ (8 + 17 * s + (4 + k) ≤ j ∧ j < 8 + 17 * s + (4 + (i + 1))) by omega)]
theorem takeK_0 {g : Nat → Int32} {s m k : Nat} : upd g (8 + 17 * s + 2) (nI (m - 1)) = takeK g s m k k := by
  funext j
  unfold takeK upd
  by_cases e2 : j = 8 + 17 * s + 2
  · rw [if_pos e2, if_pos e2]
  · rw [if_neg e2, if_neg e2, if_neg (by omega)]
set_option maxRecDepth 100000 in
set_option maxHeartbeats 4000000 in
theorem l9_takesOut {T : TC} {I : MI} {G : MG} {F : FinT} {b : Nat × Nat} (d : Nat) {M : Nat} (hM : MSh T G M) (g : Nat → Int32) (s m k : Nat) (hs : s < 8) (hm : m ≤ 13) (v : Int32) (kx : Ex T RX9 cX9_takesOut 5 (d + 1) F 26 [some (.ref M), some (.int (nI s)), some (.int (nI k)), some (.int v), some (.int (nI (m - 1)))] [] (rowI I (M + 1) (takeK g s m k (m - 1))) G b) : ∀ i i0, i0 + i = m - 1 ∧ k ≤ i0 → Ex T RX9 cX9_takesOut 5 (d + 1) F 26 [some (.ref M), some (.int (nI s)), some (.int (nI k)), some (.int v), some (.int (nI i0))] [] (rowI I (M + 1) (takeK g s m k i0)) G b := by
  intro i
  induction i with
  | zero => intro i0 h0; have e0 : i0 = m - 1 := by omega
            subst e0; exact kx
  | succ i ih0 =>
    intro i0 h0
    have ih := ih0 (i0 + 1)
    refine Ex_iload dX9_takesOut_26 rfl ?_
    refine Ex_aload_n dX9_takesOut_28 rfl ?_
    refine Ex_iload_n dX9_takesOut_29 rfl ?_
    refine Ex_iconst (v := nI 2) dX9_takesOut_30 (by rfl) ?_
    refine Ex_V2p dX9_takesOut_31 sX9_105 hM.1 (Nat.le_of_ble_eq_true rfl) (c9_of d hM s 2 (by omega)) ?_
    refine Ex_top (show _ = nI (m - 1) by rw [rowI_s]; exact takeK_2) ?_
    refine Ex_icmp_geN (by omega) (by omega) (tgt := 63) dX9_takesOut_34 (by decide) (fun h34 => ?_) (fun h34 => ?_)
    · omega
    · refine Ex_aload_n dX9_takesOut_37 rfl ?_
      refine Ex_iload_n dX9_takesOut_38 rfl ?_
      refine Ex_iconst (v := nI 4) dX9_takesOut_39 (by rfl) ?_
      refine Ex_iload dX9_takesOut_40 rfl ?_
      first | with_reducible refine Ex_iaddN dX9_takesOut_42 ?_ | refine Ex_iadd dX9_takesOut_42 ?_
      refine Ex_aload_n dX9_takesOut_43 rfl ?_
      refine Ex_iload_n dX9_takesOut_44 rfl ?_
      refine Ex_iconst (v := nI 4) dX9_takesOut_45 (by rfl) ?_
      refine Ex_iload dX9_takesOut_46 rfl ?_
      first | with_reducible refine Ex_iaddN dX9_takesOut_48 ?_ | refine Ex_iadd dX9_takesOut_48 ?_
      refine Ex_iconst (v := nI 1) dX9_takesOut_49 (by rfl) ?_
      first | with_reducible refine Ex_iaddN dX9_takesOut_50 ?_ | refine Ex_iadd dX9_takesOut_50 ?_
      refine Ex_V2p dX9_takesOut_51 sX9_105 hM.1 (Nat.le_of_ble_eq_true rfl) (c9_of d hM s (4 + i0 + 1) (by omega)) ?_
      refine Ex_top (show _ = g (8 + 17 * s + (4 + i0 + 1)) by rw [rowI_s]; exact takeK_r (by omega)) ?_
      refine Ex_V3v dX9_takesOut_54 sX9_95 hM.1 (Nat.le_of_ble_eq_true rfl) (c9_put d hM s (4 + i0) _ (by omega)) ?_
      rintro _ _ ⟨rfl, rfl⟩
      rw [rowI_r, rowI_s, takeK_s (by omega)]
      first | refine Ex_iincN (m := 1) dX9_takesOut_57 rfl rfl (by decide) rfl ?_ | refine Ex_iinc dX9_takesOut_57 rfl rfl (by decide) rfl ?_
      simp only [List.set_cons_zero, List.set_cons_succ]
      refine Ex_goto (tgt := 26) dX9_takesOut_60 (by decide) ?_
      exact ih (by omega)
set_option maxRecDepth 100000 in
set_option maxHeartbeats 4000000 in
theorem c9_takesOut {T : TC} {I : MI} {G : MG} (d : Nat) {M : Nat} (hM : MSh T G M) (s m k : Nat) (hm1 : I (M + 1) (8 + 17 * s + 2) = nI m) (hs : s < 8) (hm : m ≤ 13) (hk : k < m) : OkI T mX9_takesOut (d + 1) [.ref M, .int (nI s), .int (nI k)] I G (fun r I' G' => r = I (M + 1) (8 + 17 * s + (4 + k)) ∧ I' = rowI I (M + 1) (takeG (I (M + 1)) s m k) ∧ G' = G) := by
  refine Ok_of (own := RX9) (by decide) rfl (cat1 rfl) (Nat.le_of_ble_eq_true rfl) ?_
  show Ex T RX9 cX9_takesOut 5 (d + 1) _ 0 [some (.ref M), some (.int (nI s)), some (.int (nI k)), none, none] [] I G (0, 0)
  refine Ex_aload_n dX9_takesOut_0 rfl ?_
  refine Ex_iload_n dX9_takesOut_1 rfl ?_
  refine Ex_iconst (v := nI 4) dX9_takesOut_2 (by rfl) ?_
  refine Ex_iload_n dX9_takesOut_3 rfl ?_
  first | with_reducible refine Ex_iaddN dX9_takesOut_4 ?_ | refine Ex_iadd dX9_takesOut_4 ?_
  refine Ex_V2p dX9_takesOut_5 sX9_105 hM.1 (Nat.le_of_ble_eq_true rfl) (c9_of d hM s (4 + k) (by omega)) ?_
  refine Ex_istore_n dX9_takesOut_8 (by decide) rfl ?_
  simp only [st_n0, st_n1, st_n2, st_n3, List.set_cons_zero, List.set_cons_succ]
  refine Ex_aload_n dX9_takesOut_9 rfl ?_
  refine Ex_iload_n dX9_takesOut_10 rfl ?_
  refine Ex_iconst (v := nI 2) dX9_takesOut_11 (by rfl) ?_
  refine Ex_aload_n dX9_takesOut_12 rfl ?_
  refine Ex_iload_n dX9_takesOut_13 rfl ?_
  refine Ex_iconst (v := nI 2) dX9_takesOut_14 (by rfl) ?_
  refine Ex_V2p dX9_takesOut_15 sX9_105 hM.1 (Nat.le_of_ble_eq_true rfl) (c9_of d hM s 2 (by omega)) ?_
  refine Ex_top hm1 ?_
  refine Ex_iconst (v := nI 1) dX9_takesOut_18 (by rfl) ?_
  refine Ex_isubN (by omega) dX9_takesOut_19 ?_
  refine Ex_V3v dX9_takesOut_20 sX9_95 hM.1 (Nat.le_of_ble_eq_true rfl) (c9_put d hM s 2 _ (by omega)) ?_
  rintro _ _ ⟨rfl, rfl⟩
  rw [takeK_0 (k := k)]
  refine Ex_iload_n dX9_takesOut_23 rfl ?_
  refine Ex_istore dX9_takesOut_24 (by decide) rfl ?_
  simp only [List.set_cons_zero, List.set_cons_succ]
  refine l9_takesOut d hM (I (M + 1)) s m k hs hm _ ?_ (m - 1 - k) k (by omega)
  refine Ex_iload dX9_takesOut_26 rfl ?_
  refine Ex_aload_n dX9_takesOut_28 rfl ?_
  refine Ex_iload_n dX9_takesOut_29 rfl ?_
  refine Ex_iconst (v := nI 2) dX9_takesOut_30 (by rfl) ?_
  refine Ex_V2p dX9_takesOut_31 sX9_105 hM.1 (Nat.le_of_ble_eq_true rfl) (c9_of d hM s 2 (by omega)) ?_
  refine Ex_top (show _ = nI (m - 1) by rw [rowI_s]; exact takeK_2) ?_
  refine Ex_icmp_geN (by omega) (by omega) (tgt := 63) dX9_takesOut_34 (by decide) (fun h34 => ?_) (fun h34 => ?_)
  · refine Ex_iload_n dX9_takesOut_63 rfl ?_
    refine Ex_iret dX9_takesOut_64 (by first | rfl | exact narrow_bI) ?_
    exact ⟨_, rfl, rfl, rfl, rfl⟩
  · omega
theorem setl_2 {g : Nat → Int32} {s m : Nat} {e : Int32} : setlG g s m e (8 + 17 * s + 2) = nI (m + 1) := upd_s
theorem setl_3 {g : Nat → Int32} {s m : Nat} {e : Int32} : setlG g s m e (8 + 17 * s + 3) = g (8 + 17 * s + 3) := by
  unfold setlG
  rw [upd_n (by omega), upd_n (by omega)]
theorem take_3 {g : Nat → Int32} {s m k : Nat} : takeG g s m k (8 + 17 * s + 3) = g (8 + 17 * s + 3) := by
  unfold takeG takeK
  rw [if_neg (by omega), if_neg (by omega)]
set_option maxRecDepth 100000 in
set_option maxHeartbeats 4000000 in
theorem c9_settlesOn {T : TC} {I : MI} {G : MG} (d : Nat) {M : Nat} (hM : MSh T G M) (s m : Nat) (deed : Int32) (hm1 : I (M + 1) (8 + 17 * s + 2) = nI m) (hs : s < 8) (hm : m ≤ 12) : OkV T mX9_settlesOn (d + 2) [.ref M, .int (nI s), .int deed] I G (fun I' G' => I' = rowI I (M + 1) (settleG (I (M + 1)) s m deed) ∧ G' = G) := by
  refine Ok_of (own := RX9) (by decide) rfl (cat1 rfl) (Nat.le_of_ble_eq_true rfl) ?_
  show Ex T RX9 cX9_settlesOn 4 (d + 2) _ 0 [some (.ref M), some (.int (nI s)), some (.int deed), none] [] I G (0, 0)
  refine Ex_aload_n dX9_settlesOn_0 rfl ?_
  refine Ex_iload_n dX9_settlesOn_1 rfl ?_
  refine Ex_iconst (v := nI 4) dX9_settlesOn_2 (by rfl) ?_
  refine Ex_aload_n dX9_settlesOn_3 rfl ?_
  refine Ex_iload_n dX9_settlesOn_4 rfl ?_
  refine Ex_iconst (v := nI 2) dX9_settlesOn_5 (by rfl) ?_
  refine Ex_V2p dX9_settlesOn_6 sX9_105 hM.1 (Nat.le_of_ble_eq_true rfl) (c9_of (d + 1) hM s 2 (by omega)) ?_
  refine Ex_top hm1 ?_
  first | with_reducible refine Ex_iaddN dX9_settlesOn_9 ?_ | refine Ex_iadd dX9_settlesOn_9 ?_
  refine Ex_iload_n dX9_settlesOn_10 rfl ?_
  refine Ex_V3v dX9_settlesOn_11 sX9_95 hM.1 (Nat.le_of_ble_eq_true rfl) (c9_put (d + 1) hM s (4 + m) _ (by omega)) ?_
  rintro _ _ ⟨rfl, rfl⟩
  refine Ex_aload_n dX9_settlesOn_14 rfl ?_
  refine Ex_iload_n dX9_settlesOn_15 rfl ?_
  refine Ex_iconst (v := nI 2) dX9_settlesOn_16 (by rfl) ?_
  refine Ex_aload_n dX9_settlesOn_17 rfl ?_
  refine Ex_iload_n dX9_settlesOn_18 rfl ?_
  refine Ex_iconst (v := nI 2) dX9_settlesOn_19 (by rfl) ?_
  refine Ex_V2p dX9_settlesOn_20 sX9_105 hM.1 (Nat.le_of_ble_eq_true rfl) (c9_of (d + 1) hM s 2 (by omega)) ?_
  refine Ex_top (show _ = nI m by rw [rowI_s, upd_n (by omega)]; exact hm1) ?_
  refine Ex_iconst (v := nI 1) dX9_settlesOn_23 (by rfl) ?_
  first | with_reducible refine Ex_iaddN dX9_settlesOn_24 ?_ | refine Ex_iadd dX9_settlesOn_24 ?_
  refine Ex_V3v dX9_settlesOn_25 sX9_95 hM.1 (Nat.le_of_ble_eq_true rfl) (c9_put (d + 1) hM s 2 _ (by omega)) ?_
  rintro _ _ ⟨rfl, rfl⟩
  rw [rowI_r, rowI_s]
  refine Ex_eqI (show _ = rowI I (M + 1) (setlG (I (M + 1)) s m deed) from rfl) ?_
  refine Ex_aload_n dX9_settlesOn_28 rfl ?_
  refine Ex_iload_n dX9_settlesOn_29 rfl ?_
  refine Ex_iconst (v := nI 2) dX9_settlesOn_30 (by rfl) ?_
  refine Ex_V2p dX9_settlesOn_31 sX9_105 hM.1 (Nat.le_of_ble_eq_true rfl) (c9_of (d + 1) hM s 2 (by omega)) ?_
  refine Ex_top (show _ = nI (m + 1) by rw [rowI_s]; exact setl_2) ?_
  refine Ex_bipush (v := nI 12) dX9_settlesOn_34 (by rfl) ?_
  refine Ex_icmp_leN (by omega) (by omega) (tgt := 60) dX9_settlesOn_36 (by decide) (fun h36 => ?_) (fun h36 => ?_)
  · refine Ex_vret dX9_settlesOn_60 ?_
    exact ⟨rfl, by unfold settleG; rw [if_pos (by omega)], rfl⟩
  · refine Ex_aload_n dX9_settlesOn_39 rfl ?_
    refine Ex_iload_n dX9_settlesOn_40 rfl ?_
    refine Ex_iconst (v := nI 0) dX9_settlesOn_41 (by rfl) ?_
    refine Ex_V2i dX9_settlesOn_42 sX9_141 hM.1 (Nat.le_of_ble_eq_true rfl) (c9_takesOut d hM s (m + 1) 0 (by rw [rowI_s]; exact setl_2) hs (by omega) (by omega)) ?_
    rintro r _ _ ⟨rfl, rfl, rfl⟩
    rw [rowI_r, rowI_s]
    refine Ex_istore_n dX9_settlesOn_45 (by decide) rfl ?_
    simp only [st_n0, st_n1, st_n2, st_n3, List.set_cons_zero, List.set_cons_succ]
    refine Ex_aload_n dX9_settlesOn_46 rfl ?_
    refine Ex_iload_n dX9_settlesOn_47 rfl ?_
    refine Ex_iconst (v := nI 3) dX9_settlesOn_48 (by rfl) ?_
    refine Ex_aload_n dX9_settlesOn_49 rfl ?_
    refine Ex_iload_n dX9_settlesOn_50 rfl ?_
    refine Ex_iconst (v := nI 3) dX9_settlesOn_51 (by rfl) ?_
    refine Ex_V2p dX9_settlesOn_52 sX9_105 hM.1 (Nat.le_of_ble_eq_true rfl) (c9_of (d + 1) hM s 3 (by omega)) ?_
    refine Ex_top (show _ = I (M + 1) (8 + 17 * s + 3) by rw [rowI_s, take_3, setl_3]) ?_
    refine Ex_iconst (v := nI 1) dX9_settlesOn_55 (by rfl) ?_
    first | with_reducible refine Ex_iaddN dX9_settlesOn_56 ?_ | refine Ex_iadd dX9_settlesOn_56 ?_
    refine Ex_V3v dX9_settlesOn_57 sX9_95 hM.1 (Nat.le_of_ble_eq_true rfl) (c9_put (d + 1) hM s 3 _ (by omega)) ?_
    rintro _ _ ⟨rfl, rfl⟩
    refine Ex_vret dX9_settlesOn_60 ?_
    exact ⟨rfl, by unfold settleG; rw [if_neg (by omega), rowI_r, rowI_s], rfl⟩
theorem dw_eq (z : Int32) : ((nz z).toUInt32 >>> ((nI 8).toUInt32 &&& Int32.toUInt32 31)).toInt32 = nI (dw z) := by
  have h := pk_ushr (nz z) (nI 8) 8 (by decide)
  have hlt : dw z < 2 ^ 32 := by
    unfold dw
    have := (nz z).toBitVec.isLt
    omega
  apply Int32.toBitVec_inj.mp
  apply BitVec.eq_of_toNat_eq
  rw [h, pk_tn hlt]
  rfl
theorem dw_lt (z : Int32) : dw z < 2 ^ 31 := by
  unfold dw
  have := (nz z).toBitVec.isLt
  omega
set_option maxRecDepth 100000 in
set_option maxHeartbeats 4000000 in
theorem c9_draw {T : TC} {I : MI} {G : MG} (d : Nat) {M : Nat} (hM : MSh T G M)  : OkI T mX9_draw (d) [.ref M] I G (fun r I' G' => r = nI (dw (I (M + 1) 0)) ∧ I' = rowI I (M + 1) (drawG (I (M + 1))) ∧ G' = G) := by
  refine Ok_of (own := RX9) (by decide) rfl (cat1 rfl) (Nat.le_of_ble_eq_true rfl) ?_
  show Ex T RX9 cX9_draw 1 (d) _ 0 [some (.ref M)] [] I G (0, 0)
  refine Ex_aload_n dX9_draw_0 rfl ?_
  refine Ex_getr dX9_draw_1 fX9_9 hM.1 (mF0 hM).1 ?_
  refine Ex_iconst (v := nI 0) dX9_draw_4 (by rfl) ?_
  refine Ex_aload_n dX9_draw_5 rfl ?_
  refine Ex_getr dX9_draw_6 fX9_9 hM.1 (mF0 hM).1 ?_
  refine Ex_iconst (v := nI 0) dX9_draw_9 (by rfl) ?_
  refine Ex_iald dX9_draw_10 (mF0 hM).2.1 rfl (by rw [(mF0 hM).2.2]; omega) (by rw [(mF0 hM).2.2]; decide) ?_
  refine Ex_ldc dX9_draw_11 kX9_154 ?_
  first | with_reducible refine Ex_imulN dX9_draw_13 ?_ | refine Ex_imul dX9_draw_13 ?_
  refine Ex_sipush (v := nI 12345) dX9_draw_14 (by rfl) ?_
  first | with_reducible refine Ex_iaddN dX9_draw_17 ?_ | refine Ex_iadd dX9_draw_17 ?_
  refine Ex_iast dX9_draw_18 (mF0 hM).2.1 rfl (by rw [(mF0 hM).2.2]; omega) (by rw [(mF0 hM).2.2]; decide) ?_
  rw [setI_row]
  refine Ex_eqI (show _ = rowI I (M + 1) (drawG (I (M + 1))) from rfl) ?_
  refine Ex_aload_n dX9_draw_19 rfl ?_
  refine Ex_getr dX9_draw_20 fX9_9 hM.1 (mF0 hM).1 ?_
  refine Ex_iconst (v := nI 0) dX9_draw_23 (by rfl) ?_
  refine Ex_iald dX9_draw_24 (mF0 hM).2.1 rfl (by rw [(mF0 hM).2.2]; omega) (by rw [(mF0 hM).2.2]; decide) ?_
  refine Ex_top (show _ = nz (I (M + 1) 0) by rw [rowI_s]; exact upd_s) ?_
  refine Ex_bipush (v := nI 8) dX9_draw_25 (by rfl) ?_
  refine Ex_iushr dX9_draw_27 ?_
  refine Ex_top (dw_eq _) ?_
  refine Ex_iret dX9_draw_28 (by first | rfl | exact narrow_bI) ?_
  exact ⟨_, rfl, rfl, rfl, rfl⟩
