/-! takesE, its contract -/
set_option maxRecDepth 100000 in
set_option maxHeartbeats 4000000 in
theorem c9_takesE {T : TC} {G : MG} (d : Nat) {A : MI} {M : Nat} {c cd wt te : Nat → Int32} {ky cs aa hd tk vl en : Int32} (hM : MSh T G M) (tb : Nat → Nat) (N : Nat) (hT : TpO A M tb N) (hc : c 12 = nI N) (p f : Nat) (hk : TkI N p f tk)  : OkI T mX9_takesE (d + 3) [.ref M] (PM A M c cd wt te ky cs aa hd (nI p) (nI f) tk vl en) G (fun r I' G' => (r = bI ((syE tb N ky (N + 1) true p f tk vl en [] [] 0 0 0 (upd te 0 (nI 0))).1 = true) ∧ ∃ cd' wt' te' hd' nx' tk' vl' en', I' = PM A M c cd' wt' te' ky (nI (syE tb N ky (N + 1) true p f tk vl en [] [] 0 0 0 (upd te 0 (nI 0))).2.2.1.length) (nI (syE tb N ky (N + 1) true p f tk vl en [] [] 0 0 0 (upd te 0 (nI 0))).2.2.2) hd' nx' (nI (syE tb N ky (N + 1) true p f tk vl en [] [] 0 0 0 (upd te 0 (nI 0))).2.1) tk' vl' en' ∧ SR cd' (syE tb N ky (N + 1) true p f tk vl en [] [] 0 0 0 (upd te 0 (nI 0))).2.2.1) ∧ G' = G) := by
  refine Ok_of (own := RX9) (by decide) rfl (cat1 rfl) (Nat.le_of_ble_eq_true rfl) ?_
  show Ex T RX9 cX9_takesE 5 (d + 3) _ 0 [some (.ref M), none, none, none, none] [] (PM A M c cd wt te ky cs aa hd (nI p) (nI f) tk vl en) G (0, 0)
  refine Ex_iconst (v := nI 0) dX9_takesE_0 (by rfl) ?_
  refine Ex_istore_n dX9_takesE_1 (by decide) rfl ?_
  simp only [st_n0, st_n1, st_n2, st_n3, List.set_cons_zero, List.set_cons_succ]
  refine Ex_iconst (v := nI 0) dX9_takesE_2 (by rfl) ?_
  refine Ex_istore_n dX9_takesE_3 (by decide) rfl ?_
  simp only [st_n0, st_n1, st_n2, st_n3, List.set_cons_zero, List.set_cons_succ]
  refine Ex_iconst (v := nI 1) dX9_takesE_4 (by rfl) ?_
  refine Ex_istore_n dX9_takesE_5 (by decide) rfl ?_
  simp only [st_n0, st_n1, st_n2, st_n3, List.set_cons_zero, List.set_cons_succ]
  refine Ex_aload_n dX9_takesE_6 rfl ?_
  refine Ex_iconst (v := nI 0) dX9_takesE_7 (by rfl) ?_
  refine Ex_puti dX9_takesE_8 fX9_247 rfl rfl rfl hM.1 ?_
  rw [qw22]
  refine Ex_aload_n dX9_takesE_11 rfl ?_
  refine Ex_iconst (v := nI 0) dX9_takesE_12 (by rfl) ?_
  refine Ex_puti dX9_takesE_13 fX9_253 rfl rfl rfl hM.1 ?_
  rw [qw23]
  refine Ex_aload_n dX9_takesE_16 rfl ?_
  refine Ex_iconst (v := nI 0) dX9_takesE_17 (by rfl) ?_
  refine Ex_puti dX9_takesE_18 fX9_241 rfl rfl rfl hM.1 ?_
  rw [qw25]
  refine Ex_aload_n dX9_takesE_21 rfl ?_
  refine Ex_getr dX9_takesE_22 fX9_54 hM.1 (mF26 hM).1 ?_
  refine Ex_iconst (v := nI 0) dX9_takesE_25 (by rfl) ?_
  refine Ex_iconst (v := nI 0) dX9_takesE_26 (by rfl) ?_
  refine Ex_zast dX9_takesE_27 (mF26 hM).2.1 rfl (by rw [(mF26 hM).2.2]; omega) (by rw [(mF26 hM).2.2]; decide) rfl ?_
  rw [qs15]
  have hW := hk
  generalize hR : syE tb N ky (N + 1) true p f tk vl en [] [] 0 0 0 (upd te 0 (nI 0)) = R
  exact (l9_takesE (b := (0, 0)) (ky := ky) (c := c) (A := A) d hM tb N hT hc R (N + 1)).1 p f tk vl en [] [] 0 0 0 (upd te 0 (nI 0)) cd wt none hk (by omega) (Nat.zero_le _) rfl (by omega) (by omega) trivial trivial hR
