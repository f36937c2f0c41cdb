/-! the reference: text -/
/-- the text t comes: key w, code q (last first), atoms a -/
def txG (g cd : Nat → Int32) (w : Nat) (q : List Int32) (a : Nat) : Nat → Int32 := upd (tcG (upd (upd g (144 + 2 * tN g) (nI (1000 * w + q.length))) (144 + 2 * tN g + 1) (nI a)) cd (tN g) q.length) 7 (nI (tN g + 1))
theorem En_0 {tb : Nat → Nat} {N : Nat} (h96 : N ≤ 96) : EnI tb N (gF tb N 0) (-1) := by
  have h1 := gF_le (tb := tb) (Nat.zero_le N)
  refine ⟨Or.inl rfl, ⟨fun h => absurd h ?_, fun h => ?_⟩⟩
  · intro e
    have := congrArg Int32.toInt e
    rw [nI_toInt (by omega)] at this
    have h2 : (-1 : Int32).toInt = -1 := by decide
    omega
  · exfalso
    obtain ⟨h0, h2⟩ := h
    have h3 : tb (gF tb N 0 - 1) = 32 := (run_prev (P := isBl tb N) _ _ h0).2
    rcases h2 with z | z
    · have := z.2; omega
    · have := z.2; omega
theorem gT_1 {tb : Nat → Nat} {N f : Nat} (en : Int32) (h : gT tb N f en = nI 1) : cT tb N f = 1 := by
  unfold gT at h
  split at h
  · exact absurd h (by decide)
  · split at h
    · exact cT_1.mpr (by assumption)
    · split at h
      · split at h <;> exact absurd h (by decide)
      · exact absurd h (by decide)
theorem gT_1' {tb : Nat → Nat} {N f : Nat} (h96 : N ≤ 96) (h : cT tb N f = 1) : gT tb N f (-1) = nI 1 := by
  have h1 := cT_1.mp h
  have h2 := h1.1
  unfold gT
  rw [if_neg (by omega), if_pos h1, if_neg]
  intro e
  have := congrArg Int32.toInt e
  rw [nI_toInt (by omega)] at this
  have h2 : (-1 : Int32).toInt = -1 := by decide
  omega
set_option maxRecDepth 100000 in
set_option maxHeartbeats 4000000 in
theorem qa1 {A : MI} {M : Nat} {c cd wt te : Nat → Int32} {ky cs aa hd nz fr tk vl en : Int32} : PM A M c cd wt te ky cs aa hd nz fr tk vl en (M + 1) = A (M + 1) := by
  unfold PM ar3
  rw [rowI_n (by omega), rowI_n (by omega), rowI_n (by omega), rowI_n (by omega)]
set_option maxRecDepth 100000 in
set_option maxHeartbeats 4000000 in
theorem t9_text {T : TC} {G : MG} {b : Nat × Nat} (d : Nat) {A : MI} {M : Nat} {c cd wt te : Nat → Int32} {hd nz fr tk vl en : Int32} {Q : Option Value → MI → MG → Prop} (hM : MSh T G M) (hX : TxAll (A (M + 1))) (w : Nat) (q : List Int32) (a : Nat) (hl : q.length ≤ 96) (x1 : Int32) (k1 : tN (A (M + 1)) = 14 → Q (some (.int cFULL)) (PM A M c cd wt te (nI w) (nI q.length) (nI a) hd nz fr tk vl en) G) (k2 : tN (A (M + 1)) < 14 → Q (some (.int (nI (tN (A (M + 1)))))) (PM (rowI A (M + 1) (txG (A (M + 1)) cd w q a)) M c cd wt te (nI w) (nI q.length) (nI a) hd nz fr tk vl en) G) : Ex T RX9 cX9_text 4 (d + 4) (fm T "text" (some .int) Q) 51 [some (.ref M), some (.int x1), none, none] [] (PM A M c cd wt te (nI w) (nI q.length) (nI a) hd nz fr tk vl en) G b := by
  have h7 := hX.1
  have h14 := hX.2.1
  generalize ht : tN (A (M + 1)) = t at *
  refine Ex_aload_n dX9_text_51 rfl ?_
  refine Ex_getr dX9_text_52 fX9_9 hM.1 (mF0 hM).1 ?_
  refine Ex_bipush (v := nI 7) dX9_text_55 (by rfl) ?_
  refine Ex_iald dX9_text_57 (mF0 hM).2.1 rfl (by rw [(mF0 hM).2.2]; omega) (by rw [(mF0 hM).2.2]; decide) ?_
  rw [qa1]
  refine Ex_top h7 ?_
  refine Ex_bipush (v := nI 14) dX9_text_58 (by rfl) ?_
  refine Ex_icmp_neN (by omega) (by omega) (tgt := 66) dX9_text_60 (by decide) (fun h60 => ?_) (fun h60 => ?_)
  · refine Ex_aload_n dX9_text_66 rfl ?_
    refine Ex_getr dX9_text_67 fX9_9 hM.1 (mF0 hM).1 ?_
    refine Ex_bipush (v := nI 7) dX9_text_70 (by rfl) ?_
    refine Ex_iald dX9_text_72 (mF0 hM).2.1 rfl (by rw [(mF0 hM).2.2]; omega) (by rw [(mF0 hM).2.2]; decide) ?_
    rw [qa1]
    refine Ex_top h7 ?_
    refine Ex_istore_n dX9_text_73 (by decide) rfl ?_
    simp only [st_n0, st_n1, st_n2, st_n3, List.set_cons_zero, List.set_cons_succ]
    refine Ex_aload_n dX9_text_74 rfl ?_
    refine Ex_getr dX9_text_75 fX9_9 hM.1 (mF0 hM).1 ?_
    refine Ex_sipush (v := nI 144) dX9_text_78 (by rfl) ?_
    refine Ex_iconst (v := nI 2) dX9_text_81 (by rfl) ?_
    refine Ex_iload_n dX9_text_82 rfl ?_
    first | with_reducible refine Ex_imulN dX9_text_83 ?_ | refine Ex_imul dX9_text_83 ?_
    first | with_reducible refine Ex_iaddN dX9_text_84 ?_ | refine Ex_iadd dX9_text_84 ?_
    refine Ex_sipush (v := nI 1000) dX9_text_85 (by rfl) ?_
    refine Ex_aload_n dX9_text_88 rfl ?_
    refine Ex_geti dX9_text_89 fX9_235 hM.1 ?_
    rw [qd18]
    first | with_reducible refine Ex_imulN dX9_text_92 ?_ | refine Ex_imul dX9_text_92 ?_
    refine Ex_aload_n dX9_text_93 rfl ?_
    refine Ex_geti dX9_text_94 fX9_247 hM.1 ?_
    rw [qd22]
    first | with_reducible refine Ex_iaddN dX9_text_97 ?_ | refine Ex_iadd dX9_text_97 ?_
    refine Ex_iast dX9_text_98 (mF0 hM).2.1 rfl (by rw [(mF0 hM).2.2]; omega) (by rw [(mF0 hM).2.2]; decide) ?_
    rw [qs1]
    refine Ex_aload_n dX9_text_99 rfl ?_
    refine Ex_getr dX9_text_100 fX9_9 hM.1 (mF0 hM).1 ?_
    refine Ex_sipush (v := nI 144) dX9_text_103 (by rfl) ?_
    refine Ex_iconst (v := nI 2) dX9_text_106 (by rfl) ?_
    refine Ex_iload_n dX9_text_107 rfl ?_
    first | with_reducible refine Ex_imulN dX9_text_108 ?_ | refine Ex_imul dX9_text_108 ?_
    first | with_reducible refine Ex_iaddN dX9_text_109 ?_ | refine Ex_iadd dX9_text_109 ?_
    refine Ex_iconst (v := nI 1) dX9_text_110 (by rfl) ?_
    first | with_reducible refine Ex_iaddN dX9_text_111 ?_ | refine Ex_iadd dX9_text_111 ?_
    refine Ex_aload_n dX9_text_112 rfl ?_
    refine Ex_geti dX9_text_113 fX9_253 hM.1 ?_
    rw [qd23]
    refine Ex_iast dX9_text_116 (mF0 hM).2.1 rfl (by rw [(mF0 hM).2.2]; omega) (by rw [(mF0 hM).2.2]; decide) ?_
    rw [qs1, rowI_s, rowI_r]
    refine Ex_iconst (v := nI 0) dX9_text_117 (by rfl) ?_
    refine Ex_istore_n dX9_text_118 (by decide) rfl ?_
    simp only [st_n0, st_n1, st_n2, st_n3, List.set_cons_zero, List.set_cons_succ]
    rw [← tcG_0 (g := upd (upd (A (M + 1)) (144 + 2 * t) (nI (1000 * w + q.length))) (144 + 2 * t + 1) (nI a)) (cd := cd) (t := t)]
    refine l9_text d hM _ t q.length (by omega) hl ?_ q.length 0 (by omega)
    refine Ex_aload_n dX9_text_154 rfl ?_
    refine Ex_getr dX9_text_155 fX9_9 hM.1 (mF0 hM).1 ?_
    refine Ex_bipush (v := nI 7) dX9_text_158 (by rfl) ?_
    refine Ex_dup2 dX9_text_160 rfl rfl ?_
    refine Ex_iald dX9_text_161 (mF0 hM).2.1 rfl (by rw [(mF0 hM).2.2]; omega) (by rw [(mF0 hM).2.2]; decide) ?_
    rw [qa1, rowI_s]
    refine Ex_top (show _ = nI t from ?_) ?_
    · unfold tcG; rw [if_neg (by omega), upd_n (by omega), upd_n (by omega)]; exact h7
    refine Ex_iconst (v := nI 1) dX9_text_162 (by rfl) ?_
    first | with_reducible refine Ex_iaddN dX9_text_163 ?_ | refine Ex_iadd dX9_text_163 ?_
    refine Ex_iast dX9_text_164 (mF0 hM).2.1 rfl (by rw [(mF0 hM).2.2]; omega) (by rw [(mF0 hM).2.2]; decide) ?_
    rw [qs1, rowI_s, rowI_r]
    refine Ex_iload_n dX9_text_165 rfl ?_
    refine Ex_iret dX9_text_166 (by first | rfl | exact narrow_bI) ?_
    have := k2 (by omega)
    unfold txG at this
    rw [ht] at this
    exact this
  · refine Ex_ldc dX9_text_63 kX9_100 ?_
    refine Ex_iret dX9_text_65 (by first | rfl | exact narrow_bI) ?_
    exact k1 h60
set_option maxRecDepth 100000 in
set_option maxHeartbeats 4000000 in
theorem C9_text {T : TC} {G : MG} (d : Nat) {A : MI} {M : Nat} {c cd wt te : Nat → Int32} {ky cs aa hd nz fr tk vl en : Int32} (hM : MSh T G M) (tb : Nat → Nat) (N : Nat) (hT : TpO A M tb N) (hK : KyO A M) (hc : c 12 = nI N) (hX : TxAll (A (M + 1)))  : OkI T mX9_text (d + 4) [.ref M] (PM A M c cd wt te ky cs aa hd nz fr tk vl en) G (fun r I' G' => (∃ A' cd' wt' te' ky' cs' aa' hd' nx' fr' tk' vl' en', I' = PM A' M (upd c 12 (nI 0)) cd' wt' te' ky' cs' aa' hd' nx' fr' tk' vl' en' ∧ (((ptC tb N).2.1 = false ∧ r = (-100) - nI (ptC tb N).2.2.1 ∧ A' = A) ∨ ((ptC tb N).2.1 = true ∧ tN (A (M + 1)) = 14 ∧ r = cFULL ∧ A' = A) ∨ (∃ w, (ptC tb N).1 = some w ∧ (ptC tb N).2.1 = true ∧ tN (A (M + 1)) < 14 ∧ r = nI (tN (A (M + 1))) ∧ SR cd' (ptC tb N).2.2.2.1 ∧ A' = rowI A (M + 1) (txG (A (M + 1)) cd' w (ptC tb N).2.2.2.1 (ptC tb N).2.2.2.2)))) ∧ G' = G) := by
  refine Ok_of (own := RX9) (by decide) rfl (cat1 rfl) (Nat.le_of_ble_eq_true rfl) ?_
  show Ex T RX9 cX9_text 4 (d + 4) _ 0 [some (.ref M), none, none, none] [] (PM A M c cd wt te ky cs aa hd nz fr tk vl en) G (0, 0)
  have h96 := hT.1
  refine Ex_aload_n dX9_text_0 rfl ?_
  refine Ex_iconst (v := nI 0) dX9_text_1 (by rfl) ?_
  refine Ex_puti dX9_text_2 fX9_214 rfl rfl rfl hM.1 ?_
  rw [qw13]
  refine Ex_aload_n dX9_text_5 rfl ?_
  refine Ex_iconst (v := (-1)) dX9_text_6 (by rfl) ?_
  refine Ex_puti dX9_text_7 fX9_220 rfl rfl rfl hM.1 ?_
  rw [qw17]
  refine Ex_aload_n dX9_text_10 rfl ?_
  refine Ex_V0v dX9_text_11 sX9_238 hM.1 (Nat.le_of_ble_eq_true rfl) (c9_goP (d + 2) hM tb N hT hc 0 (Nat.zero_le _)) ?_
  rintro _ _ ⟨rfl, e2⟩
  subst e2
  refine Ex_aload_n dX9_text_14 rfl ?_
  refine Ex_V0i dX9_text_15 sX9_269 hM.1 (Nat.le_of_ble_eq_true rfl) (c9_takesKey (d + 1) hM tb N hT hK hc _ _ (gE_le (gF_le (Nat.zero_le N)).2).1 (gE_le (gF_le (Nat.zero_le N)).2).2) ?_
  rintro r _ _ ⟨hor, e2⟩
  subst e2
  rcases hor with ⟨htk, w, hw, rfl, rfl⟩ | ⟨hno, rfl, rfl⟩
  · skip
    have hkw : kyC tb N (gF tb N 0) = some w := by unfold kyC; rw [if_pos (gT_1 _ htk), hw]
    have hfl : (gF tb N 0) < N := (cT_1.mp (gT_1 _ htk)).1
    have hx := nx_gt (tb := tb) hfl
    refine Ex_if_eq (tgt := 32) dX9_text_18 (by decide) (fun h18 => ?_) (fun h18 => ?_)
    · exact absurd h18 (by decide)
    · refine Ex_aload_n dX9_text_21 rfl ?_
      refine Ex_V0i dX9_text_22 sX9_272 hM.1 (Nat.le_of_ble_eq_true rfl) (c9_takesE d hM tb N hT hc _ _ (TkI_go (gE_le (gF_le (Nat.zero_le N)).2).2)) ?_
      rintro r _ _ ⟨⟨rfl, cd2, wt2, te2, hd2, nx2, tk2, vl2, en2, rfl, hq2⟩, e2⟩
      subst e2
      have hag := agreeE (ky := nI w) (vl := gV tb N (gF tb N 0) vl) (te := te) (fun j hj => (hT.2 j hj).2) h96 hx.2 (En_next h96 hfl (En_0 h96)) (mes N 0 (nx tb N (gF tb N 0))) (Nat.le_refl _)
      have hr9 := rcd_f (tb := tb) (N := N) (ky := nI w) (mes N 0 (nx tb N (gF tb N 0))) 0 none 0 0 (nx tb N (gF tb N 0)) [] 0 hx.2
      unfold nx at hag
      generalize syE tb N (nI w) (N + 1) true _ _ _ _ _ [] [] 0 0 0 (upd te 0 (nI 0)) = Y at hag hq2 ⊢
      rcases hag with ⟨⟨ha1, ha2⟩, hY⟩ | ⟨hno, hY1, hY2⟩
      · skip
        refine Ex_if_eqB (tgt := 32) dX9_text_25 (by decide) (fun h25 => ?_) (fun h25 => ?_)
        · rw [hY] at h25; exact absurd rfl h25
        · refine Ex_iconst (v := nI 1) dX9_text_28 (by rfl) ?_
          refine Ex_goto (tgt := 33) dX9_text_29 (by decide) ?_
          refine Ex_istore_n dX9_text_33 (by decide) rfl ?_
          simp only [st_n0, st_n1, st_n2, st_n3, List.set_cons_zero, List.set_cons_succ]
          refine Ex_aload_n dX9_text_34 rfl ?_
          refine Ex_iconst (v := nI 0) dX9_text_35 (by rfl) ?_
          refine Ex_puti dX9_text_36 fX9_211 rfl rfl rfl hM.1 ?_
          rw [qw12]
          refine Ex_iload_n dX9_text_39 rfl ?_
          refine Ex_if_ne (tgt := 51) dX9_text_40 (by decide) (fun h40 => ?_) (fun h40 => ?_)
          · rw [hY] at hq2 ⊢
            have hpt := ptC_s hkw
            rw [decide_eq_true (show (rcW tb N w).1 = true ∧ (rcW tb N w).2.1 = N from ⟨ha1, ha2⟩)] at hpt
            refine t9_text d hM hX w (rcW tb N w).2.2.1 (rcW tb N w).2.2.2 (by have e1 : (rcW tb N w).2.2.1.length + (nx tb N (gF tb N 0)) ≤ (rcW tb N w).2.1 + 0 := (hr9.2.2 ha1).2; have e2 : (rcW tb N w).2.1 ≤ N := hr9.2.1; omega) _ (fun h14 => ?_) (fun h14 => ?_)
            · exact ⟨_, rfl, ⟨⟨A, _, _, _, _, _, _, _, _, _, _, _, _, rfl, Or.inr (Or.inl ⟨by rw [hpt], h14, rfl, rfl⟩)⟩, rfl⟩⟩
            · exact ⟨_, rfl, ⟨⟨_, _, _, _, _, _, _, _, _, _, _, _, _, rfl, Or.inr (Or.inr ⟨w, by rw [hpt], by rw [hpt], h14, rfl, by rw [hpt]; exact hq2, by rw [hpt]⟩)⟩, rfl⟩⟩
          · exact absurd h40 (by decide)
      · skip
        refine Ex_if_eqB (tgt := 32) dX9_text_25 (by decide) (fun h25 => ?_) (fun h25 => ?_)
        · refine Ex_iconst (v := nI 0) dX9_text_32 (by rfl) ?_
          refine Ex_istore_n dX9_text_33 (by decide) rfl ?_
          simp only [st_n0, st_n1, st_n2, st_n3, List.set_cons_zero, List.set_cons_succ]
          refine Ex_aload_n dX9_text_34 rfl ?_
          refine Ex_iconst (v := nI 0) dX9_text_35 (by rfl) ?_
          refine Ex_puti dX9_text_36 fX9_211 rfl rfl rfl hM.1 ?_
          rw [qw12]
          refine Ex_iload_n dX9_text_39 rfl ?_
          refine Ex_if_ne (tgt := 51) dX9_text_40 (by decide) (fun h40 => ?_) (fun h40 => ?_)
          · exact absurd rfl h40
          · refine Ex_bipush (v := (-100)) dX9_text_43 (by rfl) ?_
            refine Ex_aload_n dX9_text_45 rfl ?_
            refine Ex_geti dX9_text_46 fX9_217 hM.1 ?_
            rw [qd14]
            refine Ex_isub dX9_text_49 ?_
            refine Ex_iret dX9_text_50 (by first | rfl | exact narrow_bI) ?_
            have hpt := ptC_s hkw
            rw [decide_eq_false (show ¬ ((rcW tb N w).1 = true ∧ (rcW tb N w).2.1 = N) from hno)] at hpt
            exact ⟨_, rfl, ⟨⟨A, _, _, _, _, _, _, _, _, _, _, _, _, rfl, Or.inl ⟨by rw [hpt], by rw [hpt, hY2]; rfl, rfl⟩⟩, rfl⟩⟩
        · rw [hY1] at h25; cases h25
  · skip
    have hkn : kyC tb N (gF tb N 0) = none := by
      unfold kyC
      by_cases h1 : cT tb N (gF tb N 0) = 1
      · rw [if_pos h1, Classical.not_not.mp (fun h2 => hno ⟨gT_1' h96 h1, h2⟩)]
      · rw [if_neg h1]
    refine Ex_if_eq (tgt := 32) dX9_text_18 (by decide) (fun h18 => ?_) (fun h18 => ?_)
    · refine Ex_iconst (v := nI 0) dX9_text_32 (by rfl) ?_
      refine Ex_istore_n dX9_text_33 (by decide) rfl ?_
      simp only [st_n0, st_n1, st_n2, st_n3, List.set_cons_zero, List.set_cons_succ]
      refine Ex_aload_n dX9_text_34 rfl ?_
      refine Ex_iconst (v := nI 0) dX9_text_35 (by rfl) ?_
      refine Ex_puti dX9_text_36 fX9_211 rfl rfl rfl hM.1 ?_
      rw [qw12]
      refine Ex_iload_n dX9_text_39 rfl ?_
      refine Ex_if_ne (tgt := 51) dX9_text_40 (by decide) (fun h40 => ?_) (fun h40 => ?_)
      · exact absurd rfl h40
      · refine Ex_bipush (v := (-100)) dX9_text_43 (by rfl) ?_
        refine Ex_aload_n dX9_text_45 rfl ?_
        refine Ex_geti dX9_text_46 fX9_217 hM.1 ?_
        rw [qd14]
        refine Ex_isub dX9_text_49 ?_
        refine Ex_iret dX9_text_50 (by first | rfl | exact narrow_bI) ?_
        exact ⟨_, rfl, ⟨⟨A, _, _, _, _, _, _, _, _, _, _, _, _, rfl, Or.inl ⟨by rw [ptC_n hkn], by rw [ptC_n hkn], rfl⟩⟩, rfl⟩⟩
    · exact absurd rfl h18
