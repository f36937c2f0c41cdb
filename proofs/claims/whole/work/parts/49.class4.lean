/-! the class: a hall's days -/
theorem nS_catch {g : Nat → Int32} {e n : Nat} (hW : WfG g) (he : e < 10) (hn : n ≤ 8) : nS (catchG (nI e) g n) = nS g := by unfold nS; rw [catch_oW hW he (by omega) hn]
set_option maxRecDepth 100000 in
set_option maxHeartbeats 4000000 in
theorem l1_catch {T : TC} {I : MI} {G : MG} {F : FinT} {bb : Nat × Nat} (d : Nat) {b X N : Nat} {g : Nat → Int32} (hW : WfG g) (e n : Nat) (he : e < 10) (hn : nS g = n) (hn8 : n ≤ 8) (kx : ∀ J, Hl T J G b X N (catchG (nI e) g n) → Fr (PH b N) I J → Ex T RX1 cX1_settleWhereCaught 3 (d + 2) F 2 [some (.ref b), some (.int (nI e)), some (.int (nI n))] [] J G bb) : ∀ i k J, k + i = n → Hl T J G b X N (catchG (nI e) g k) → Fr (PH b N) I J → Ex T RX1 cX1_settleWhereCaught 3 (d + 2) F 2 [some (.ref b), some (.int (nI e)), some (.int (nI k))] [] J G bb := by
  intro i
  induction i with
  | zero => intro k J h0 h1 h2; have e0 : k = n := by omega
            subst e0; exact kx J h1 h2
  | succ i ih =>
    intro k J h0 h1 h2
    have hS := h1.1
    have hnk := nS_catch (n := k) hW he (by omega)
    have hn1 : J b 1 = nI n := by rw [h1.n, hnk, hn]
    have hsf := h1.sf (s := k) (by rw [hnk]; omega)
    have hl := h1.ly (s := k) (by omega)
    refine Ex_iload_n dX1_settleWhereCaught_2 rfl ?_
    refine Ex_aload_n dX1_settleWhereCaught_3 rfl ?_
    refine Ex_geti dX1_settleWhereCaught_4 fX1_36 (hl_o hS) ?_
    refine Ex_top hn1 ?_
    refine Ex_icmp_geN (by omega) (by omega) (tgt := 43) dX1_settleWhereCaught_7 (by decide) (fun h7 => ?_) (fun h7 => ?_)
    · omega
    · refine Ex_aload_n dX1_settleWhereCaught_10 rfl ?_
      refine Ex_getr dX1_settleWhereCaught_11 fX1_11 (hl_o hS) (hl_s hS) ?_
      refine Ex_iload_n dX1_settleWhereCaught_14 rfl ?_
      refine Ex_aaldSu dX1_settleWhereCaught_15 (hl_sI hS) rfl (by rw [hl_sN hS]; omega) (by rw [hl_sN hS]; decide) (hl_k hS k (by omega)) ?_
      refine Ex_iload_n dX1_settleWhereCaught_16 rfl ?_
      refine Ex_aload_n dX1_settleWhereCaught_17 rfl ?_
      refine Ex_geti dX1_settleWhereCaught_18 fX1_49 (hl_o hS) ?_
      refine Ex_top (h1.fx (j := 6) (q := 2) (by decide)) ?_
      refine Ex_V2p dX1_settleWhereCaught_21 sX1_90 (hl_S hS k (by omega)).1 (Nat.le_of_ble_eq_true rfl) (c5_catches (d + 1) (hl_S hS k (by omega)) _ _) ?_
      refine Ex_top (show _ = catchI (catchG (nI e) g k (8 + 17 * k + 0)) (catchG (nI e) g k (8 + 17 * k + 1)) (nI e) (catchG (nI e) g k 2) by rw [hsf.1 0 (by omega), hsf.1 1 (by omega)]) ?_
      refine Ex_if_eq (tgt := 37) dX1_settleWhereCaught_24 (by decide) (fun h24 => ?_) (fun h24 => ?_)
      · first | refine Ex_iincN (m := 1) dX1_settleWhereCaught_37 rfl rfl (by decide) rfl ?_ | refine Ex_iinc dX1_settleWhereCaught_37 rfl rfl (by decide) rfl ?_
        simp only [List.set_cons_zero, List.set_cons_succ]
        refine Ex_goto (tgt := 2) dX1_settleWhereCaught_40 (by decide) ?_
        have ec : catchG (nI e) g (k + 1) = catchG (nI e) g k := if_pos h24
        exact ih (k + 1) J (by omega) (by rw [ec]; exact h1) h2
      · refine Ex_aload_n dX1_settleWhereCaught_27 rfl ?_
        refine Ex_getr dX1_settleWhereCaught_28 fX1_11 (hl_o hS) (hl_s hS) ?_
        refine Ex_iload_n dX1_settleWhereCaught_31 rfl ?_
        refine Ex_aaldSu dX1_settleWhereCaught_32 (hl_sI hS) rfl (by rw [hl_sN hS]; omega) (by rw [hl_sN hS]; decide) (hl_k hS k (by omega)) ?_
        refine Ex_iload_n dX1_settleWhereCaught_33 rfl ?_
        refine Ex_V1v dX1_settleWhereCaught_34 sX1_94 (hl_S hS k (by omega)).1 (Nat.le_of_ble_eq_true rfl) (c5_settle d (hl_S hS k (by omega)) (catchG (nI e) g k) k _ (nI e) hsf hl.1 rfl hl.2.1) ?_
        rintro J2 _ ⟨hj, hf, rfl⟩
        first | refine Ex_iincN (m := 1) dX1_settleWhereCaught_37 rfl rfl (by decide) rfl ?_ | refine Ex_iinc dX1_settleWhereCaught_37 rfl rfl (by decide) rfl ?_
        simp only [List.set_cons_zero, List.set_cons_succ]
        refine Ex_goto (tgt := 2) dX1_settleWhereCaught_40 (by decide) ?_
        have ec : catchG (nI e) g (k + 1) = settleG (catchG (nI e) g k) k (mN (catchG (nI e) g k) k) (nI e) := if_neg h24
        exact ih (k + 1) J2 (by omega) (by rw [ec]; exact h1.surf (by omega) hj hf (fun j hj => settle_o hj hl.2.1) (Ly_settle hl he)) (h2.trans (hf.mono (fun x q => P2H (by omega) q)))
set_option maxRecDepth 100000 in
set_option maxHeartbeats 4000000 in
theorem c1_settleWhereCaught {T : TC} {I : MI} {G : MG} (d : Nat) {b X N : Nat} {g : Nat → Int32} (hH : Hl T I G b X N g) (e : Nat) (he : e < 10) : OkV T mX1_settleWhereCaught (d + 2) [.ref b, .int (nI e)] I G (fun I' G' => Hl T I' G b X N (catchG (nI e) g (nS g)) ∧ Fr (PH b N) I I' ∧ G' = G) := by
  refine Ok_of (own := RX1) (by decide) rfl (cat1 rfl) (Nat.le_of_ble_eq_true rfl) ?_
  show Ex T RX1 cX1_settleWhereCaught 3 (d + 2) _ 0 [some (.ref b), some (.int (nI e)), none] [] I G (0, 0)
  refine Ex_iconst (v := nI 0) dX1_settleWhereCaught_0 (by rfl) ?_
  refine Ex_istore_n dX1_settleWhereCaught_1 (by decide) rfl ?_
  simp only [st_n0, st_n1, st_n2, st_n3, List.set_cons_zero, List.set_cons_succ]
  have hn8 := hH.n8
  generalize hnn : nS g = n at hn8
  refine l1_catch d hH.w e n he hnn hn8 ?_ n 0 I (by omega) hH Fr.refl
  intro J hJ1 hJ2
  have hS := hJ1.1
  have hn1 : J b 1 = nI n := by rw [hJ1.n, nS_catch hH.w he hn8, hnn]
  refine Ex_iload_n dX1_settleWhereCaught_2 rfl ?_
  refine Ex_aload_n dX1_settleWhereCaught_3 rfl ?_
  refine Ex_geti dX1_settleWhereCaught_4 fX1_36 (hl_o hS) ?_
  refine Ex_top hn1 ?_
  refine Ex_icmp_geN (by omega) (by omega) (tgt := 43) dX1_settleWhereCaught_7 (by decide) (fun h7 => ?_) (fun h7 => ?_)
  · refine Ex_vret dX1_settleWhereCaught_43 ?_
    exact ⟨rfl, hJ1, hJ2, rfl⟩
  · omega
theorem nxt_mod {s n : Nat} (hs : s < n) : (s + 1) % n = if s + 1 < n then s + 1 else 0 := by
  split
  · rename_i h; exact Nat.mod_eq_of_lt h
  · rename_i h; rw [show s + 1 = n by omega]; exact Nat.mod_self n
set_option maxRecDepth 100000 in
set_option maxHeartbeats 4000000 in
theorem t1_blow {T : TC} {I : MI} {G : MG} (d : Nat) {b X N : Nat} {g : Nat → Int32} (hH : Hl T I G b X N g) (s n nx : Nat) (hs : s < n) (hn1 : 1 < n) (hn : nS g = n) (hm0 : ¬ mN g s = 0) (hnx : nx = (s + 1) % n) : Ex T RX1 cX1_blowFrom 4 (d + 2) (fm T "blowFrom" none (fun v I' G' => v = none ∧ Hl T I' G b X N (blowG g s n) ∧ Fr (PH b N) I I' ∧ G' = G)) 42 [some (.ref b), some (.int (nI s)), some (.ref (b + 3 + 2 * s)), none] [.int (nI nx)] (setI I (b + 3 + 2 * s) 2 (nI (mN g s - 1))) G (0, 0) := by
  have hS := hH.1
  have hn8 := hH.n8
  have hl := hH.ly (s := s) (by omega)
  have hsf := hH.sf (s := s) (by omega)
  have hp := sf_pop hsf rfl hl.2.1 (by omega)
  have hH1 := hH.surf (by omega) hp (Fr.refl.si (Or.inl rfl)) (fun j hj => take_o hj (by have := hl.2.1; omega)) (Ly_take hl (by omega))
  have hnn : nx < n := by rw [hnx]; exact Nat.mod_lt _ (by omega)
  have hne : nx ≠ s := by rw [hnx, nxt_mod hs]; split <;> omega
  generalize hgt : takeG g s (mN g s) (mN g s - 1) = gt at hp hH1
  have hnS : nS gt = n := by rw [← hn, ← hgt]; unfold nS; rw [take_o (by omega) (by have := hl.2.1; omega)]
  have hl2 := hH1.ly (s := nx) (by omega)
  have hsf2 := hH1.sf (s := nx) (by omega)
  obtain ⟨e, he, ee⟩ := hl.2.2.1 (mN g s - 1) (by omega)
  have hd9 : I (b + 3 + 2 * s + 1) (mN g s - 1) = nI e := (hsf.2 _ (by omega)).trans ee
  refine Ex_istore_n dX1_blowFrom_42 (by decide) rfl ?_
  simp only [st_n0, st_n1, st_n2, st_n3, List.set_cons_zero, List.set_cons_succ]
  refine Ex_aload_n dX1_blowFrom_43 rfl ?_
  refine Ex_getr dX1_blowFrom_44 fX1_11 (hl_o hS) (hl_s hS) ?_
  refine Ex_iload_n dX1_blowFrom_47 rfl ?_
  refine Ex_aaldSu dX1_blowFrom_48 (hl_sI hS) rfl (by rw [hl_sN hS]; omega) (by rw [hl_sN hS]; decide) (hl_k hS nx (by omega)) ?_
  refine Ex_aload_n dX1_blowFrom_49 rfl ?_
  refine Ex_getr dX1_blowFrom_50 fX1_98 (hl_S hS s (by omega)).1 (hl_S hS s (by omega)).2.1 ?_
  refine Ex_aload_n dX1_blowFrom_53 rfl ?_
  refine Ex_geti dX1_blowFrom_54 fX1_97 (hl_S hS s (by omega)).1 ?_
  refine Ex_top (show _ = nI (mN g s - 1) from setI_s) ?_
  refine Ex_iald dX1_blowFrom_57 (hl_S hS s (by omega)).2.2.1 rfl (by rw [(hl_S hS s (by omega)).2.2.2]; have := hl.2.1; omega) (by rw [(hl_S hS s (by omega)).2.2.2]; decide) ?_
  refine Ex_top (show _ = nI e by rw [setI_a (by omega)]; exact hd9) ?_
  refine Ex_V1v dX1_blowFrom_58 sX1_94 (hl_S hS nx (by omega)).1 (Nat.le_of_ble_eq_true rfl) (c5_settle d (hl_S hS nx (by omega)) gt nx _ (nI e) hsf2 hl2.1 rfl hl2.2.1) ?_
  rintro J2 _ ⟨hj, hf, rfl⟩
  have hH2 := hH1.surf (by omega) hj hf (fun j hj => settle_o hj hl2.2.1) (Ly_settle hl2 he)
  refine Ex_aload_n dX1_blowFrom_61 rfl ?_
  refine Ex_dup dX1_blowFrom_62 rfl ?_
  refine Ex_geti dX1_blowFrom_63 fX1_46 (hl_o hS) ?_
  refine Ex_top (show _ = g 6 by rw [hH2.fx (j := 5) (q := 6) (by decide), settle_o (by omega) hl2.2.1, ← hgt, take_o (by omega) (by have := hl.2.1; omega)]) ?_
  refine Ex_iconst (v := nI 1) dX1_blowFrom_66 (by rfl) ?_
  first | with_reducible refine Ex_iaddN dX1_blowFrom_67 ?_ | refine Ex_iadd dX1_blowFrom_67 ?_
  refine Ex_puti dX1_blowFrom_68 fX1_46 rfl rfl rfl (hl_o hS) ?_
  refine Ex_vret dX1_blowFrom_71 ?_
  refine ⟨rfl, ?_, ?_, rfl⟩
  · have e9 : blowG g s n = upd (settleG gt nx (mN gt nx) (nI e)) 6 (g 6 + nI 1) := by unfold blowG; rw [if_neg hm0, hgt, ← hnx, ee]
    rw [e9]; exact hH2.fld (by decide) (by decide) (by decide)
  · exact ((Fr.refl.si (P2H (s := s) (by omega) (Or.inl rfl))).trans (hf.mono (fun x q => P2H (by omega) q))).si (Or.inl ⟨by omega, by omega⟩)
set_option maxRecDepth 100000 in
set_option maxHeartbeats 4000000 in
theorem c1_blowFrom {T : TC} {I : MI} {G : MG} (d : Nat) {b X N : Nat} {g : Nat → Int32} (hH : Hl T I G b X N g) (s n : Nat) (hs : s < n) (hn1 : 1 < n) (hn : nS g = n) : OkV T mX1_blowFrom (d + 2) [.ref b, .int (nI s)] I G (fun I' G' => Hl T I' G b X N (blowG g s n) ∧ Fr (PH b N) I I' ∧ G' = G) := by
  refine Ok_of (own := RX1) (by decide) rfl (cat1 rfl) (Nat.le_of_ble_eq_true rfl) ?_
  show Ex T RX1 cX1_blowFrom 4 (d + 2) _ 0 [some (.ref b), some (.int (nI s)), none, none] [] I G (0, 0)
  have hS := hH.1
  have hn8 := hH.n8
  have hl := hH.ly (s := s) (by omega)
  have hsf := hH.sf (s := s) (by omega)
  refine Ex_aload_n dX1_blowFrom_0 rfl ?_
  refine Ex_getr dX1_blowFrom_1 fX1_11 (hl_o hS) (hl_s hS) ?_
  refine Ex_iload_n dX1_blowFrom_4 rfl ?_
  refine Ex_aaldSu dX1_blowFrom_5 (hl_sI hS) rfl (by rw [hl_sN hS]; omega) (by rw [hl_sN hS]; decide) (hl_k hS s (by omega)) ?_
  refine Ex_astore_n dX1_blowFrom_6 (by decide) rfl ?_
  simp only [st_n0, st_n1, st_n2, st_n3, List.set_cons_zero, List.set_cons_succ]
  refine Ex_aload_n dX1_blowFrom_7 rfl ?_
  refine Ex_geti dX1_blowFrom_8 fX1_97 (hl_S hS s (by omega)).1 ?_
  refine Ex_top ((hsf.1 2 (by omega)).trans hl.1) ?_
  refine Ex_if_ne (tgt := 15) dX1_blowFrom_11 (by decide) (fun h11 => ?_) (fun h11 => ?_)
  · refine Ex_aload_n dX1_blowFrom_15 rfl ?_
    refine Ex_dup dX1_blowFrom_16 rfl ?_
    refine Ex_geti dX1_blowFrom_17 fX1_97 (hl_S hS s (by omega)).1 ?_
    refine Ex_top ((hsf.1 2 (by omega)).trans hl.1) ?_
    have hm0 : ¬ mN g s = 0 := fun e => h11 (by rw [e]; rfl)
    refine Ex_iconst (v := nI 1) dX1_blowFrom_20 (by rfl) ?_
    refine Ex_isubN (by omega) dX1_blowFrom_21 ?_
    refine Ex_puti dX1_blowFrom_22 fX1_97 rfl rfl rfl (hl_S hS s (by omega)).1 ?_
    refine Ex_iload_n dX1_blowFrom_25 rfl ?_
    refine Ex_iconst (v := nI 1) dX1_blowFrom_26 (by rfl) ?_
    first | with_reducible refine Ex_iaddN dX1_blowFrom_27 ?_ | refine Ex_iadd dX1_blowFrom_27 ?_
    refine Ex_aload_n dX1_blowFrom_28 rfl ?_
    refine Ex_geti dX1_blowFrom_29 fX1_36 (hl_o hS) ?_
    refine Ex_top (show _ = nI n by rw [setI_a (by omega), hH.n, hn]) ?_
    refine Ex_icmp_geN (by omega) (by omega) (tgt := 41) dX1_blowFrom_32 (by decide) (fun h32 => ?_) (fun h32 => ?_)
    · refine Ex_iconst (v := nI 0) dX1_blowFrom_41 (by rfl) ?_
      exact t1_blow d hH s n _ hs hn1 hn hm0 (by rw [nxt_mod hs, if_neg (by omega)])
    · refine Ex_iload_n dX1_blowFrom_35 rfl ?_
      refine Ex_iconst (v := nI 1) dX1_blowFrom_36 (by rfl) ?_
      first | with_reducible refine Ex_iaddN dX1_blowFrom_37 ?_ | refine Ex_iadd dX1_blowFrom_37 ?_
      refine Ex_goto (tgt := 42) dX1_blowFrom_38 (by decide) ?_
      exact t1_blow d hH s n _ hs hn1 hn hm0 (by rw [nxt_mod hs, if_pos (by omega)])
  · refine Ex_vret dX1_blowFrom_14 ?_
    exact ⟨rfl, by unfold blowG; rw [if_pos ((nI_eq (b := 0) (by have := hl.2.1; omega) (by omega)).mp h11)]; exact hH, Fr.refl, rfl⟩
set_option maxRecDepth 100000 in
set_option maxHeartbeats 4000000 in
theorem t1_dayD {T : TC} {I0 I : MI} {G : MG} (d : Nat) {b X N : Nat} {g g0 : Nat → Int32} (hJ : Fr (PH b N) I0 I) (hH : Hl T I G b X N g) (hfin : dayD g = dayG g0) : Ex T RX1 cX1_passDay 1 (d + 4) (fm T "passDay" none (fun v I' G' => v = none ∧ Hl T I' G b X N (dayG g0) ∧ Fr (PH b N) I0 I' ∧ G' = G)) 86 [some (.ref b)] [] I G (0, 0) := by
  have hS := hH.1
  refine Ex_aload_n dX1_passDay_86 rfl ?_
  refine Ex_dup dX1_passDay_87 rfl ?_
  refine Ex_geti dX1_passDay_88 fX1_49 (hl_o hS) ?_
  refine Ex_top (hH.fx (j := 6) (q := 2) (by decide)) ?_
  refine Ex_iconst (v := nI 1) dX1_passDay_91 (by rfl) ?_
  first | with_reducible refine Ex_iaddN dX1_passDay_92 ?_ | refine Ex_iadd dX1_passDay_92 ?_
  refine Ex_puti dX1_passDay_93 fX1_49 rfl rfl rfl (hl_o hS) ?_
  refine Ex_vret dX1_passDay_96 ?_
  exact ⟨rfl, by rw [← hfin]; exact hH.fld (by decide) (by decide) (by decide), hJ.si (Or.inl ⟨by omega, by omega⟩), rfl⟩
set_option maxRecDepth 100000 in
set_option maxHeartbeats 4000000 in
theorem t1_dayC {T : TC} {I0 I : MI} {G : MG} (d : Nat) {b X N : Nat} {g g0 : Nat → Int32} (hJ : Fr (PH b N) I0 I) (hH : Hl T I G b X N g) (hfin : dayD (dayC g) = dayG g0) : Ex T RX1 cX1_passDay 1 (d + 4) (fm T "passDay" none (fun v I' G' => v = none ∧ Hl T I' G b X N (dayG g0) ∧ Fr (PH b N) I0 I' ∧ G' = G)) 51 [some (.ref b)] [] I G (0, 0) := by
  have hS := hH.1
  have hn8 := hH.n8
  generalize hnn : nS g = n at hn8
  have n1 : nS (drawG g) = n := by rw [← hnn]; unfold nS; rw [drawG_n (by omega)]
  have n2 : nS (drawG (drawG g)) = n := by rw [← n1]; unfold nS; rw [drawG_n (by omega)]
  refine Ex_aload_n dX1_passDay_51 rfl ?_
  refine Ex_V0i dX1_passDay_52 sX1_75 (hl_o hS) (Nat.le_of_ble_eq_true rfl) (c1_draw (d + 3) hH) ?_
  rintro r I1 _ ⟨rfl, hH1, hF1, rfl⟩
  refine Ex_bipush (v := nI 100) dX1_passDay_55 (by rfl) ?_
  refine Ex_iremN (dw_lt _) (by omega) (by omega) dX1_passDay_57 ?_
  refine Ex_aload_n dX1_passDay_58 rfl ?_
  refine Ex_geti dX1_passDay_59 fX1_21 (hl_o hS) ?_
  refine Ex_top (show _ = g 4 by rw [hH1.fx (j := 3) (q := 4) (by decide), drawG_n (by omega)]) ?_
  refine Ex_icmp_ge (tgt := 86) dX1_passDay_62 (by decide) (fun h62 => ?_) (fun h62 => ?_)
  · have eC : dayC g = drawG g := if_neg (fun q => absurd q.1 (Int32.not_lt.mpr h62))
    exact t1_dayD d (hJ.trans hF1) hH1 (by rw [← eC]; exact hfin)
  · refine Ex_aload_n dX1_passDay_65 rfl ?_
    refine Ex_geti dX1_passDay_66 fX1_36 (hl_o hS) ?_
    refine Ex_top (show _ = nI n by rw [hH1.n, n1]) ?_
    refine Ex_iconst (v := nI 1) dX1_passDay_69 (by rfl) ?_
    refine Ex_icmp_leN (by omega) (by omega) (tgt := 86) dX1_passDay_70 (by decide) (fun h70 => ?_) (fun h70 => ?_)
    · have eC : dayC g = drawG g := if_neg (fun q => absurd q.2 (by rw [hnn]; omega))
      exact t1_dayD d (hJ.trans hF1) hH1 (by rw [← eC]; exact hfin)
    · refine Ex_aload_n dX1_passDay_73 rfl ?_
      refine Ex_aload_n dX1_passDay_74 rfl ?_
      refine Ex_V0i dX1_passDay_75 sX1_75 (hl_o hS) (Nat.le_of_ble_eq_true rfl) (c1_draw (d + 3) hH1) ?_
      rintro r I2 _ ⟨rfl, hH2, hF2, rfl⟩
      refine Ex_aload_n dX1_passDay_78 rfl ?_
      refine Ex_geti dX1_passDay_79 fX1_36 (hl_o hS) ?_
      refine Ex_top (show _ = nI n by rw [hH2.n, n2]) ?_
      refine Ex_iremN (dw_lt _) (by omega) (by omega) dX1_passDay_82 ?_
      refine Ex_V1v dX1_passDay_83 sX1_87 (hl_o hS) (Nat.le_of_ble_eq_true rfl) (c1_blowFrom (d + 1) hH2 (dw (drawG g 0) % n) n (Nat.mod_lt _ (by omega)) (by omega) n2) ?_
      rintro J2 _ ⟨hj, hf, rfl⟩
      have eC : dayC g = blowG (drawG (drawG g)) (dw (drawG g 0) % n) n := by unfold dayC; rw [hnn]; exact if_pos ⟨Int32.not_le.mp h62, by omega⟩
      exact t1_dayD d (((hJ.trans hF1).trans hF2).trans hf) hj (by rw [← eC]; exact hfin)
set_option maxRecDepth 100000 in
set_option maxHeartbeats 4000000 in
theorem t1_dayB {T : TC} {I0 I : MI} {G : MG} (d : Nat) {b X N : Nat} {g g0 : Nat → Int32} (hJ : Fr (PH b N) I0 I) (hH : Hl T I G b X N g) (hfin : dayD (dayC (dayB g)) = dayG g0) : Ex T RX1 cX1_passDay 1 (d + 4) (fm T "passDay" none (fun v I' G' => v = none ∧ Hl T I' G b X N (dayG g0) ∧ Fr (PH b N) I0 I' ∧ G' = G)) 11 [some (.ref b)] [] I G (0, 0) := by
  have hS := hH.1
  have hn8 := hH.n8
  generalize hnn : nS g = n at hn8
  have n1 : nS (drawG g) = n := by rw [← hnn]; unfold nS; rw [drawG_n (by omega)]
  have n2 : nS (drawG (drawG g)) = n := by rw [← n1]; unfold nS; rw [drawG_n (by omega)]
  refine Ex_aload_n dX1_passDay_11 rfl ?_
  refine Ex_V0i dX1_passDay_12 sX1_75 (hl_o hS) (Nat.le_of_ble_eq_true rfl) (c1_draw (d + 3) hH) ?_
  rintro r I1 _ ⟨rfl, hH1, hF1, rfl⟩
  refine Ex_bipush (v := nI 100) dX1_passDay_15 (by rfl) ?_
  refine Ex_iremN (dw_lt _) (by omega) (by omega) dX1_passDay_17 ?_
  refine Ex_aload_n dX1_passDay_18 rfl ?_
  refine Ex_geti dX1_passDay_19 fX1_17 (hl_o hS) ?_
  refine Ex_top (show _ = g 3 by rw [hH1.fx (j := 2) (q := 3) (by decide), drawG_n (by omega)]) ?_
  refine Ex_icmp_ge (tgt := 51) dX1_passDay_22 (by decide) (fun h22 => ?_) (fun h22 => ?_)
  · have eB : dayB g = drawG g := if_neg (fun q => absurd q.1 (Int32.not_lt.mpr h22))
    exact t1_dayC d (hJ.trans hF1) hH1 (by rw [← eB]; exact hfin)
  · refine Ex_aload_n dX1_passDay_25 rfl ?_
    refine Ex_geti dX1_passDay_26 fX1_36 (hl_o hS) ?_
    refine Ex_top (show _ = nI n by rw [hH1.n, n1]) ?_
    refine Ex_if_le (tgt := 51) dX1_passDay_29 (by decide) (fun h29 => ?_) (fun h29 => ?_)
    · have eB : dayB g = drawG g := if_neg (fun q => absurd q.2 (by rw [hnn, nI_le0 (by omega) h29]; omega))
      exact t1_dayC d (hJ.trans hF1) hH1 (by rw [← eB]; exact hfin)
    · have hn0 : 0 < n := by
        rcases Nat.eq_zero_or_pos n with e | e
        · exact absurd (show nI n ≤ 0 by rw [e]; decide) h29
        · exact e
      refine Ex_aload_n dX1_passDay_32 rfl ?_
      refine Ex_aload_n dX1_passDay_33 rfl ?_
      refine Ex_getr dX1_passDay_34 fX1_11 (hl_o hS) (hl_s hS) ?_
      refine Ex_aload_n dX1_passDay_37 rfl ?_
      refine Ex_V0i dX1_passDay_38 sX1_75 (hl_o hS) (Nat.le_of_ble_eq_true rfl) (c1_draw (d + 3) hH1) ?_
      rintro r I2 _ ⟨rfl, hH2, hF2, rfl⟩
      refine Ex_aload_n dX1_passDay_41 rfl ?_
      refine Ex_geti dX1_passDay_42 fX1_36 (hl_o hS) ?_
      refine Ex_top (show _ = nI n by rw [hH2.n, n2]) ?_
      refine Ex_iremN (dw_lt _) (by omega) (by omega) dX1_passDay_45 ?_
      have hsn := Nat.mod_lt (dw (drawG g 0)) (show n > 0 by omega)
      refine Ex_aaldSu dX1_passDay_46 (hl_sI hS) rfl (by rw [hl_sN hS]; omega) (by rw [hl_sN hS]; decide) (hl_k hS (dw (drawG g 0) % n) (by omega)) ?_
      refine Ex_V1i dX1_passDay_47 sX1_83 (hl_o hS) (Nat.le_of_ble_eq_true rfl) (c1_sweep d hH2 (dw (drawG g 0) % n) (by rw [n2]; exact hsn)) ?_
      rintro r J2 _ ⟨-, hj, hf, rfl⟩
      refine Ex_pop dX1_passDay_50 rfl ?_
      have eB : dayB g = sweepG (drawG (drawG g)) (dw (drawG g 0) % n) := by unfold dayB; rw [hnn]; exact if_pos ⟨Int32.not_le.mp h22, by omega⟩
      exact t1_dayC d (((hJ.trans hF1).trans hF2).trans hf) hj (by rw [← eB]; exact hfin)
set_option maxRecDepth 100000 in
set_option maxHeartbeats 4000000 in
theorem c1_passDay {T : TC} {I : MI} {G : MG} (d : Nat) {b X N : Nat} {g : Nat → Int32} (hH : Hl T I G b X N g)  : OkV T mX1_passDay (d + 4) [.ref b] I G (fun I' G' => Hl T I' G b X N (dayG g) ∧ Fr (PH b N) I I' ∧ G' = G) := by
  refine Ok_of (own := RX1) (by decide) rfl (cat1 rfl) (Nat.le_of_ble_eq_true rfl) ?_
  show Ex T RX1 cX1_passDay 1 (d + 4) _ 0 [some (.ref b)] [] I G (0, 0)
  have hS := hH.1
  refine Ex_aload_n dX1_passDay_0 rfl ?_
  refine Ex_aload_n dX1_passDay_1 rfl ?_
  refine Ex_V0i dX1_passDay_2 sX1_75 (hl_o hS) (Nat.le_of_ble_eq_true rfl) (c1_draw (d + 3) hH) ?_
  rintro r I1 _ ⟨rfl, hH1, hF1, rfl⟩
  refine Ex_bipush (v := nI 10) dX1_passDay_5 (by rfl) ?_
  refine Ex_iremN (dw_lt _) (by omega) (by omega) dX1_passDay_7 ?_
  refine Ex_V1v dX1_passDay_8 sX1_79 (hl_o hS) (Nat.le_of_ble_eq_true rfl) (c1_settleWhereCaught (d + 1) hH1 _ (Nat.mod_lt (dw (g 0)) (show 10 > 0 by omega))) ?_
  rintro J2 _ ⟨hj, hf, rfl⟩
  have eA : catchG (nI (dw (g 0) % 10)) (drawG g) (nS (drawG g)) = dayA g := by unfold dayA; rw [show nS (drawG g) = nS g by unfold nS; rw [drawG_n (by omega)]]
  rw [eA] at hj
  exact t1_dayB d (hF1.trans hf) hj rfl
set_option maxRecDepth 100000 in
set_option maxHeartbeats 4000000 in
theorem l1_passDays {T : TC} {I : MI} {G : MG} {F : FinT} {bb : Nat × Nat} (d : Nat) {b X N : Nat} {g : Nat → Int32} (n : Nat) (hn : n < 2 ^ 31) (kx : ∀ J, Hl T J G b X N (daysG g n) → Fr (PH b N) I J → Ex T RX1 cX1_passDays 3 (d + 5) F 2 [some (.ref b), some (.int (nI n)), some (.int (nI n))] [] J G bb) : ∀ i k J, k + i = n → Hl T J G b X N (daysG g k) → Fr (PH b N) I J → Ex T RX1 cX1_passDays 3 (d + 5) F 2 [some (.ref b), some (.int (nI n)), some (.int (nI k))] [] J G bb := by
  intro i
  induction i with
  | zero => intro k J h0 h1 h2; have e0 : k = n := by omega
            subst e0; exact kx J h1 h2
  | succ i ih =>
    intro k J h0 h1 h2
    have hS := h1.1
    refine Ex_iload_n dX1_passDays_2 rfl ?_
    refine Ex_iload_n dX1_passDays_3 rfl ?_
    refine Ex_icmp_geN (by omega) (by omega) (tgt := 17) dX1_passDays_4 (by decide) (fun h4 => ?_) (fun h4 => ?_)
    · omega
    · refine Ex_aload_n dX1_passDays_7 rfl ?_
      refine Ex_V0v dX1_passDays_8 sX1_72 (hl_o hS) (Nat.le_of_ble_eq_true rfl) (c1_passDay d h1) ?_
      rintro J2 _ ⟨hj, hf, rfl⟩
      first | refine Ex_iincN (m := 1) dX1_passDays_11 rfl rfl (by decide) rfl ?_ | refine Ex_iinc dX1_passDays_11 rfl rfl (by decide) rfl ?_
      simp only [List.set_cons_zero, List.set_cons_succ]
      refine Ex_goto (tgt := 2) dX1_passDays_14 (by decide) ?_
      exact ih (k + 1) J2 (by omega) hj (h2.trans hf)
set_option maxRecDepth 100000 in
set_option maxHeartbeats 4000000 in
theorem c1_passDays {T : TC} {I : MI} {G : MG} (d : Nat) {b X N : Nat} {g : Nat → Int32} (hH : Hl T I G b X N g) (n : Nat) (hn : n < 2 ^ 31) : OkV T mX1_passDays (d + 5) [.ref b, .int (nI n)] I G (fun I' G' => Hl T I' G b X N (daysG g n) ∧ Fr (PH b N) I I' ∧ G' = G) := by
  refine Ok_of (own := RX1) (by decide) rfl (cat1 rfl) (Nat.le_of_ble_eq_true rfl) ?_
  show Ex T RX1 cX1_passDays 3 (d + 5) _ 0 [some (.ref b), some (.int (nI n)), none] [] I G (0, 0)
  refine Ex_iconst (v := nI 0) dX1_passDays_0 (by rfl) ?_
  refine Ex_istore_n dX1_passDays_1 (by decide) rfl ?_
  simp only [st_n0, st_n1, st_n2, st_n3, List.set_cons_zero, List.set_cons_succ]
  refine l1_passDays d n hn ?_ n 0 I (by omega) hH Fr.refl
  intro J hJ1 hJ2
  have hS := hJ1.1
  refine Ex_iload_n dX1_passDays_2 rfl ?_
  refine Ex_iload_n dX1_passDays_3 rfl ?_
  refine Ex_icmp_geN (by omega) (by omega) (tgt := 17) dX1_passDays_4 (by decide) (fun h4 => ?_) (fun h4 => ?_)
  · refine Ex_vret dX1_passDays_17 ?_
    exact ⟨rfl, hJ1, hJ2, rfl⟩
  · omega
set_option maxRecDepth 100000 in
set_option maxHeartbeats 4000000 in
theorem l1_allPressed {T : TC} {I : MI} {G : MG} {F : FinT} {b : Nat × Nat} (d : Nat) {b0 X N : Nat} {g : Nat → Int32} (hH : Hl T I G b0 X N g) (hS : HlS T G b0 X) (n : Nat) (hn : nS g = n) (hn8 : n ≤ 8) (kx : Ex T RX1 cX1_allPressed 3 (d) F 4 [some (.ref b0), some (.int (sumG g 3 n)), some (.int (nI n))] [] I G b) : ∀ i s0, s0 + i = n  → Ex T RX1 cX1_allPressed 3 (d) F 4 [some (.ref b0), some (.int (sumG g 3 s0)), some (.int (nI s0))] [] I G b := by
  intro i
  induction i with
  | zero => intro s0 h0; have e0 : s0 = n := by omega
            subst e0; exact kx
  | succ i ih0 =>
    intro s0 h0
    have ih := ih0 (s0 + 1)
    refine Ex_iload_n dX1_allPressed_4 rfl ?_
    refine Ex_aload_n dX1_allPressed_5 rfl ?_
    refine Ex_geti dX1_allPressed_6 fX1_36 (hl_o hS) ?_
    refine Ex_top (show _ = nI n by rw [hH.n, hn]) ?_
    refine Ex_icmp_geN (by omega) (by omega) (tgt := 30) dX1_allPressed_9 (by decide) (fun h9 => ?_) (fun h9 => ?_)
    · omega
    · refine Ex_iload_n dX1_allPressed_12 rfl ?_
      refine Ex_aload_n dX1_allPressed_13 rfl ?_
      refine Ex_getr dX1_allPressed_14 fX1_11 (hl_o hS) (hl_s hS) ?_
      refine Ex_iload_n dX1_allPressed_17 rfl ?_
      refine Ex_aaldSu dX1_allPressed_18 (hl_sI hS) rfl (by rw [hl_sN hS]; omega) (by rw [hl_sN hS]; decide) (hl_k hS s0 (by omega)) ?_
      refine Ex_geti dX1_allPressed_19 fX1_125 (hl_S hS s0 (by omega)).1 ?_
      refine Ex_top ((hH.sf (s := s0) (by omega)).1 3 (by omega)) ?_
      first | with_reducible refine Ex_iaddN dX1_allPressed_22 ?_ | refine Ex_iadd dX1_allPressed_22 ?_
      refine Ex_istore_n dX1_allPressed_23 (by decide) rfl ?_
      simp only [st_n0, st_n1, st_n2, st_n3, List.set_cons_zero, List.set_cons_succ]
      first | refine Ex_iincN (m := 1) dX1_allPressed_24 rfl rfl (by decide) rfl ?_ | refine Ex_iinc dX1_allPressed_24 rfl rfl (by decide) rfl ?_
      simp only [List.set_cons_zero, List.set_cons_succ]
      refine Ex_goto (tgt := 4) dX1_allPressed_27 (by decide) ?_
      exact ih (by omega)
set_option maxRecDepth 100000 in
set_option maxHeartbeats 4000000 in
theorem c1_allPressed {T : TC} {I : MI} {G : MG} (d : Nat) {b X N : Nat} {g : Nat → Int32} (hH : Hl T I G b X N g)  : OkP T mX1_allPressed (d) [.ref b] I G (sumG g 3 (nS g)) := by
  refine Ok_of (own := RX1) (by decide) rfl (cat1 rfl) (Nat.le_of_ble_eq_true rfl) ?_
  show Ex T RX1 cX1_allPressed 3 (d) _ 0 [some (.ref b), none, none] [] I G (0, 0)
  refine Ex_iconst (v := nI 0) dX1_allPressed_0 (by rfl) ?_
  refine Ex_istore_n dX1_allPressed_1 (by decide) rfl ?_
  simp only [st_n0, st_n1, st_n2, st_n3, List.set_cons_zero, List.set_cons_succ]
  refine Ex_iconst (v := nI 0) dX1_allPressed_2 (by rfl) ?_
  refine Ex_istore_n dX1_allPressed_3 (by decide) rfl ?_
  simp only [st_n0, st_n1, st_n2, st_n3, List.set_cons_zero, List.set_cons_succ]
  have hS := hH.1
  have hn8 := hH.n8
  refine l1_allPressed d hH hS (nS g) rfl hn8 ?_ (nS g) 0 (by omega)
  refine Ex_iload_n dX1_allPressed_4 rfl ?_
  refine Ex_aload_n dX1_allPressed_5 rfl ?_
  refine Ex_geti dX1_allPressed_6 fX1_36 (hl_o hS) ?_
  refine Ex_top (hH.n) ?_
  refine Ex_icmp_geN (by omega) (by omega) (tgt := 30) dX1_allPressed_9 (by decide) (fun h9 => ?_) (fun h9 => ?_)
  · refine Ex_iload_n dX1_allPressed_30 rfl ?_
    refine Ex_iret dX1_allPressed_31 (by first | rfl | exact narrow_bI) ?_
    exact ⟨_, rfl, rfl, rfl, rfl⟩
  · omega
set_option maxRecDepth 100000 in
set_option maxHeartbeats 4000000 in
theorem l1_allLayers {T : TC} {I : MI} {G : MG} {F : FinT} {b : Nat × Nat} (d : Nat) {b0 X N : Nat} {g : Nat → Int32} (hH : Hl T I G b0 X N g) (hS : HlS T G b0 X) (n : Nat) (hn : nS g = n) (hn8 : n ≤ 8) (kx : Ex T RX1 cX1_allLayers 3 (d) F 4 [some (.ref b0), some (.int (sumG g 2 n)), some (.int (nI n))] [] I G b) : ∀ i s0, s0 + i = n  → Ex T RX1 cX1_allLayers 3 (d) F 4 [some (.ref b0), some (.int (sumG g 2 s0)), some (.int (nI s0))] [] I G b := by
  intro i
  induction i with
  | zero => intro s0 h0; have e0 : s0 = n := by omega
            subst e0; exact kx
  | succ i ih0 =>
    intro s0 h0
    have ih := ih0 (s0 + 1)
    refine Ex_iload_n dX1_allLayers_4 rfl ?_
    refine Ex_aload_n dX1_allLayers_5 rfl ?_
    refine Ex_geti dX1_allLayers_6 fX1_36 (hl_o hS) ?_
    refine Ex_top (show _ = nI n by rw [hH.n, hn]) ?_
    refine Ex_icmp_geN (by omega) (by omega) (tgt := 30) dX1_allLayers_9 (by decide) (fun h9 => ?_) (fun h9 => ?_)
    · omega
    · refine Ex_iload_n dX1_allLayers_12 rfl ?_
      refine Ex_aload_n dX1_allLayers_13 rfl ?_
      refine Ex_getr dX1_allLayers_14 fX1_11 (hl_o hS) (hl_s hS) ?_
      refine Ex_iload_n dX1_allLayers_17 rfl ?_
      refine Ex_aaldSu dX1_allLayers_18 (hl_sI hS) rfl (by rw [hl_sN hS]; omega) (by rw [hl_sN hS]; decide) (hl_k hS s0 (by omega)) ?_
      refine Ex_geti dX1_allLayers_19 fX1_97 (hl_S hS s0 (by omega)).1 ?_
      refine Ex_top ((hH.sf (s := s0) (by omega)).1 2 (by omega)) ?_
      first | with_reducible refine Ex_iaddN dX1_allLayers_22 ?_ | refine Ex_iadd dX1_allLayers_22 ?_
      refine Ex_istore_n dX1_allLayers_23 (by decide) rfl ?_
      simp only [st_n0, st_n1, st_n2, st_n3, List.set_cons_zero, List.set_cons_succ]
      first | refine Ex_iincN (m := 1) dX1_allLayers_24 rfl rfl (by decide) rfl ?_ | refine Ex_iinc dX1_allLayers_24 rfl rfl (by decide) rfl ?_
      simp only [List.set_cons_zero, List.set_cons_succ]
      refine Ex_goto (tgt := 4) dX1_allLayers_27 (by decide) ?_
      exact ih (by omega)
set_option maxRecDepth 100000 in
set_option maxHeartbeats 4000000 in
theorem c1_allLayers {T : TC} {I : MI} {G : MG} (d : Nat) {b X N : Nat} {g : Nat → Int32} (hH : Hl T I G b X N g)  : OkP T mX1_allLayers (d) [.ref b] I G (sumG g 2 (nS g)) := by
  refine Ok_of (own := RX1) (by decide) rfl (cat1 rfl) (Nat.le_of_ble_eq_true rfl) ?_
  show Ex T RX1 cX1_allLayers 3 (d) _ 0 [some (.ref b), none, none] [] I G (0, 0)
  refine Ex_iconst (v := nI 0) dX1_allLayers_0 (by rfl) ?_
  refine Ex_istore_n dX1_allLayers_1 (by decide) rfl ?_
  simp only [st_n0, st_n1, st_n2, st_n3, List.set_cons_zero, List.set_cons_succ]
  refine Ex_iconst (v := nI 0) dX1_allLayers_2 (by rfl) ?_
  refine Ex_istore_n dX1_allLayers_3 (by decide) rfl ?_
  simp only [st_n0, st_n1, st_n2, st_n3, List.set_cons_zero, List.set_cons_succ]
  have hS := hH.1
  have hn8 := hH.n8
  refine l1_allLayers d hH hS (nS g) rfl hn8 ?_ (nS g) 0 (by omega)
  refine Ex_iload_n dX1_allLayers_4 rfl ?_
  refine Ex_aload_n dX1_allLayers_5 rfl ?_
  refine Ex_geti dX1_allLayers_6 fX1_36 (hl_o hS) ?_
  refine Ex_top (hH.n) ?_
  refine Ex_icmp_geN (by omega) (by omega) (tgt := 30) dX1_allLayers_9 (by decide) (fun h9 => ?_) (fun h9 => ?_)
  · refine Ex_iload_n dX1_allLayers_30 rfl ?_
    refine Ex_iret dX1_allLayers_31 (by first | rfl | exact narrow_bI) ?_
    exact ⟨_, rfl, rfl, rfl, rfl⟩
  · omega
set_option maxRecDepth 100000 in
set_option maxHeartbeats 4000000 in
theorem l1_bareSet {T : TC} {I : MI} {G : MG} {F : FinT} {b : Nat × Nat} (d : Nat) {b0 X N : Nat} {g : Nat → Int32} (hH : Hl T I G b0 X N g) (hS : HlS T G b0 X) (n : Nat) (hn : nS g = n) (hn8 : n ≤ 8) (kx : Ex T RX1 cX1_bareSet 3 (d) F 4 [some (.ref b0), some (.int (bareG g n)), some (.int (nI n))] [] I G b) : ∀ i s0, s0 + i = n  → Ex T RX1 cX1_bareSet 3 (d) F 4 [some (.ref b0), some (.int (bareG g s0)), some (.int (nI s0))] [] I G b := by
  intro i
  induction i with
  | zero => intro s0 h0; have e0 : s0 = n := by omega
            subst e0; exact kx
  | succ i ih0 =>
    intro s0 h0
    have ih := ih0 (s0 + 1)
    refine Ex_iload_n dX1_bareSet_4 rfl ?_
    refine Ex_aload_n dX1_bareSet_5 rfl ?_
    refine Ex_geti dX1_bareSet_6 fX1_36 (hl_o hS) ?_
    refine Ex_top (show _ = nI n by rw [hH.n, hn]) ?_
    refine Ex_icmp_geN (by omega) (by omega) (tgt := 36) dX1_bareSet_9 (by decide) (fun h9 => ?_) (fun h9 => ?_)
    · omega
    · refine Ex_aload_n dX1_bareSet_12 rfl ?_
      refine Ex_getr dX1_bareSet_13 fX1_11 (hl_o hS) (hl_s hS) ?_
      refine Ex_iload_n dX1_bareSet_16 rfl ?_
      refine Ex_aaldSu dX1_bareSet_17 (hl_sI hS) rfl (by rw [hl_sN hS]; omega) (by rw [hl_sN hS]; decide) (hl_k hS s0 (by omega)) ?_
      refine Ex_geti dX1_bareSet_18 fX1_97 (hl_S hS s0 (by omega)).1 ?_
      refine Ex_top ((hH.sf (s := s0) (by omega)).1 2 (by omega)) ?_
      refine Ex_if_ne (tgt := 30) dX1_bareSet_21 (by decide) (fun h21 => ?_) (fun h21 => ?_)
      · first | refine Ex_iincN (m := 1) dX1_bareSet_30 rfl rfl (by decide) rfl ?_ | refine Ex_iinc dX1_bareSet_30 rfl rfl (by decide) rfl ?_
        simp only [List.set_cons_zero, List.set_cons_succ]
        refine Ex_goto (tgt := 4) dX1_bareSet_33 (by decide) ?_
        have ec : bareG g (s0 + 1) = bareG g s0 := by show bareG g s0 ||| _ = _; rw [if_neg h21, or_0]
        have key := ih (by omega)
        rw [ec] at key
        exact key
      · refine Ex_iload_n dX1_bareSet_24 rfl ?_
        refine Ex_iconst (v := nI 1) dX1_bareSet_25 (by rfl) ?_
        refine Ex_iload_n dX1_bareSet_26 rfl ?_
        refine Ex_ishl dX1_bareSet_27 ?_
        refine Ex_ior dX1_bareSet_28 ?_
        refine Ex_istore_n dX1_bareSet_29 (by decide) rfl ?_
        simp only [st_n0, st_n1, st_n2, st_n3, List.set_cons_zero, List.set_cons_succ]
        first | refine Ex_iincN (m := 1) dX1_bareSet_30 rfl rfl (by decide) rfl ?_ | refine Ex_iinc dX1_bareSet_30 rfl rfl (by decide) rfl ?_
        simp only [List.set_cons_zero, List.set_cons_succ]
        refine Ex_goto (tgt := 4) dX1_bareSet_33 (by decide) ?_
        have ec : bareG g (s0 + 1) = bareG g s0 ||| (nI 1 <<< (nI s0 &&& 31)) := by show bareG g s0 ||| _ = _; rw [if_pos h21]
        have key := ih (by omega)
        rw [ec] at key
        exact key
set_option maxRecDepth 100000 in
set_option maxHeartbeats 4000000 in
theorem c1_bareSet {T : TC} {I : MI} {G : MG} (d : Nat) {b X N : Nat} {g : Nat → Int32} (hH : Hl T I G b X N g)  : OkP T mX1_bareSet (d) [.ref b] I G (bareG g (nS g)) := by
  refine Ok_of (own := RX1) (by decide) rfl (cat1 rfl) (Nat.le_of_ble_eq_true rfl) ?_
  show Ex T RX1 cX1_bareSet 3 (d) _ 0 [some (.ref b), none, none] [] I G (0, 0)
  refine Ex_iconst (v := nI 0) dX1_bareSet_0 (by rfl) ?_
  refine Ex_istore_n dX1_bareSet_1 (by decide) rfl ?_
  simp only [st_n0, st_n1, st_n2, st_n3, List.set_cons_zero, List.set_cons_succ]
  refine Ex_iconst (v := nI 0) dX1_bareSet_2 (by rfl) ?_
  refine Ex_istore_n dX1_bareSet_3 (by decide) rfl ?_
  simp only [st_n0, st_n1, st_n2, st_n3, List.set_cons_zero, List.set_cons_succ]
  have hS := hH.1
  have hn8 := hH.n8
  refine l1_bareSet d hH hS (nS g) rfl hn8 ?_ (nS g) 0 (by omega)
  refine Ex_iload_n dX1_bareSet_4 rfl ?_
  refine Ex_aload_n dX1_bareSet_5 rfl ?_
  refine Ex_geti dX1_bareSet_6 fX1_36 (hl_o hS) ?_
  refine Ex_top (hH.n) ?_
  refine Ex_icmp_geN (by omega) (by omega) (tgt := 36) dX1_bareSet_9 (by decide) (fun h9 => ?_) (fun h9 => ?_)
  · refine Ex_iload_n dX1_bareSet_36 rfl ?_
    refine Ex_iret dX1_bareSet_37 (by first | rfl | exact narrow_bI) ?_
    exact ⟨_, rfl, rfl, rfl, rfl⟩
  · omega
