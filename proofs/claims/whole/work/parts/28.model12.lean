/-! hiding -/
def hS (row : Nat → Int32) (n : Nat) (x : Int32) (f : Nat → Nat) (p : Nat) : Nat := if 1 ≤ p ∧ p - 1 < n ∧ x = row (p - 1) then Nat.min (f (p - 1)) (if p < n ∧ x = row p then f p + 1 else f p) else (if p < n ∧ x = row p then f p + 1 else f p)
def hG (inf : Nat) (row : Nat → Int32) (n : Nat) (lay : Nat → Int32) : Nat → Nat → Nat
  | 0 => fun p => if p = 0 then 0 else inf
  | k + 1 => hS row n (lay k) (hG inf row n lay k)
def mnF (f : Nat → Nat) (a : Nat) : Nat → Nat
  | 0 => a
  | p + 1 => Nat.min (f p) (mnF f a p)
def hidF (g row : Nat → Int32) (n s : Nat) : Nat := mnF (hG 99 row n (layF g s) (mN g s)) 99 n
theorem hS_le {row : Nat → Int32} {n : Nat} {x : Int32} {f : Nat → Nat} {b : Nat} (h : ∀ p, f p ≤ b) (p : Nat) : hS row n x f p ≤ b + 1 := by
  unfold hS
  have h1 := h p
  have h2 := h (p - 1)
  split
  · exact Nat.le_trans (Nat.min_le_left _ _) (by omega)
  · split <;> omega
theorem hG_le {inf : Nat} {row lay : Nat → Int32} {n : Nat} : ∀ k p, hG inf row n lay k p ≤ inf + k
  | 0, p => by
    show (if p = 0 then 0 else inf) ≤ inf + 0
    split <;> omega
  | k + 1, p => by
    have := hS_le (row := row) (n := n) (x := lay k) (fun p => hG_le (inf := inf) (row := row) (lay := lay) (n := n) k p) p
    exact Nat.le_trans this (by omega)
def hIn (row : Nat → Int32) (n : Nat) (x : Int32) (f : Nat → Nat) (p j : Nat) : Nat := if j < p then f j else if j = p then (if p < n ∧ x = row p then f p + 1 else f p) else hS row n x f j
theorem hIn_n {row : Nat → Int32} {n j : Nat} {x : Int32} {f : Nat → Nat} (hj : j ≤ n) : hIn row n x f n j = f j := by
  unfold hIn
  by_cases h : j < n
  · rw [if_pos h]
  · have : j = n := by omega
    subst this
    rw [if_neg h, if_pos rfl, if_neg (by omega)]
theorem hIn_0 {row : Nat → Int32} {n j : Nat} {x : Int32} {f : Nat → Nat} : hIn row n x f 0 j = hS row n x f j := by
  unfold hIn
  rw [if_neg (by omega)]
  by_cases h : j = 0
  · subst h
    rw [if_pos rfl]
    unfold hS
    rw [if_neg (show ¬ (1 ≤ 0 ∧ 0 - 1 < n ∧ x = row (0 - 1)) from fun q => absurd q.1 (by omega))]
  · rw [if_neg h]
theorem hIn_no {row : Nat → Int32} {n p : Nat} {x : Int32} {f : Nat → Nat} (h : ¬ x = row p) (j : Nat) : hIn row n x f p j = hIn row n x f (p + 1) j := by
  unfold hIn
  by_cases h1 : j < p
  · rw [if_pos h1, if_pos (by omega)]
  · rw [if_neg h1]
    by_cases h2 : j = p
    · subst h2
      rw [if_pos rfl, if_neg (show ¬ (j < n ∧ x = row j) from fun q => h q.2), if_pos (show j < j + 1 by omega)]
    · rw [if_neg h2, if_neg (by omega)]
      by_cases h3 : j = p + 1
      · subst h3
        rw [if_pos rfl]
        unfold hS
        rw [if_neg (fun q => h q.2.2)]
      · rw [if_neg h3]
theorem hIn_yes {row : Nat → Int32} {n p : Nat} {x : Int32} {f : Nat → Nat} (hp : p < n) (h : x = row p) (j : Nat) : hIn row n x f p j = if j = p then hIn row n x f (p + 1) p + 1 else if j = p + 1 then Nat.min (hIn row n x f (p + 1) p) (hIn row n x f (p + 1) (p + 1)) else hIn row n x f (p + 1) j := by
  have e0 : hIn row n x f (p + 1) p = f p := by unfold hIn; rw [if_pos (by omega)]
  have e1 : hIn row n x f (p + 1) (p + 1) = if p + 1 < n ∧ x = row (p + 1) then f (p + 1) + 1 else f (p + 1) := by unfold hIn; rw [if_neg (by omega), if_pos rfl]
  rw [e0, e1]
  unfold hIn
  by_cases h1 : j < p
  · rw [if_pos h1, if_neg (by omega), if_neg (by omega), if_pos (by omega)]
  · rw [if_neg h1]
    by_cases h2 : j = p
    · subst h2
      rw [if_pos rfl, if_pos rfl, if_pos ⟨hp, h⟩]
    · rw [if_neg h2, if_neg h2]
      by_cases h3 : j = p + 1
      · subst h3
        rw [if_pos rfl]
        unfold hS
        rw [if_pos ⟨by omega, by omega, h⟩]
        rfl
      · rw [if_neg h3, if_neg (by omega), if_neg h3]
set_option maxRecDepth 100000 in
set_option maxHeartbeats 4000000 in
theorem l9_hid0 {T : TC} {I : MI} {G : MG} {F : FinT} {b : Nat × Nat} (d : Nat) {M : Nat} (hM : MSh T G M) (row : Nat → Int32) (s z : Nat) (hs : s < 8) (hR : RwI I M row z) (hz : z ≤ 24) (kx : ∀ f, (∀ j, j ≤ z → f j = nI (hG 99 row z (layF (I (M + 1)) s) 0 j)) → Ex T RX9 cX9_hidingOf 4 (d + 1) F 2 [some (.ref M), some (.int (nI s)), some (.int (nI (z + 1))), none] [] (rowI I (M + 7) f) G b) : ∀ i k f, k + i = z + 1 → (∀ j, j < k → f j = nI (hG 99 row z (layF (I (M + 1)) s) 0 j)) → Ex T RX9 cX9_hidingOf 4 (d + 1) F 2 [some (.ref M), some (.int (nI s)), some (.int (nI k)), none] [] (rowI I (M + 7) f) G b := by
  intro i
  induction i with
  | zero => intro k f h0 hf; have e0 : k = z + 1 := by omega
            subst e0; exact kx f (fun j hj => hf j (by omega))
  | succ i ih =>
    intro k f h0 hf
    refine Ex_iload_n dX9_hidingOf_2 rfl ?_
    refine Ex_aload_n dX9_hidingOf_3 rfl ?_
    refine Ex_geti dX9_hidingOf_4 fX9_172 hM.1 ?_
    refine Ex_top (show _ = nI z by rw [rowI_n (by omega)]; exact hR.1) ?_
    refine Ex_icmp_gtN (by omega) (by omega) (tgt := 32) dX9_hidingOf_7 (by decide) (fun h7 => ?_) (fun h7 => ?_)
    · omega
    · refine Ex_aload_n dX9_hidingOf_10 rfl ?_
      refine Ex_getr dX9_hidingOf_11 fX9_28 hM.1 (mF8 hM).1 ?_
      refine Ex_iload_n dX9_hidingOf_14 rfl ?_
      refine Ex_iload_n dX9_hidingOf_15 rfl ?_
      refine Ex_if_ne (tgt := 23) dX9_hidingOf_16 (by decide) (fun h16 => ?_) (fun h16 => ?_)
      · refine Ex_bipush (v := nI 99) dX9_hidingOf_23 (by rfl) ?_
        refine Ex_iast dX9_hidingOf_25 (mF8 hM).2.1 rfl (by rw [(mF8 hM).2.2]; omega) (by rw [(mF8 hM).2.2]; decide) ?_
        rw [setI_row, rowI_r, rowI_s]
        first | refine Ex_iincN (m := 1) dX9_hidingOf_26 rfl rfl (by decide) rfl ?_ | refine Ex_iinc dX9_hidingOf_26 rfl rfl (by decide) rfl ?_
        simp only [List.set_cons_zero, List.set_cons_succ]
        refine Ex_goto (tgt := 2) dX9_hidingOf_29 (by decide) ?_
        refine ih (k + 1) _ (by omega) (fun j hj => ?_)
        by_cases e : j = k
        · subst e
          rw [upd_s]
          have hk0 : ¬ j = 0 := fun q => h16 (by rw [q]; rfl)
          show _ = nI (if j = 0 then 0 else 99)
          rw [if_neg hk0]
        · rw [upd_n e]; exact hf j (by omega)
      · refine Ex_iconst (v := nI 0) dX9_hidingOf_19 (by rfl) ?_
        refine Ex_goto (tgt := 25) dX9_hidingOf_20 (by decide) ?_
        refine Ex_iast dX9_hidingOf_25 (mF8 hM).2.1 rfl (by rw [(mF8 hM).2.2]; omega) (by rw [(mF8 hM).2.2]; decide) ?_
        rw [setI_row, rowI_r, rowI_s]
        first | refine Ex_iincN (m := 1) dX9_hidingOf_26 rfl rfl (by decide) rfl ?_ | refine Ex_iinc dX9_hidingOf_26 rfl rfl (by decide) rfl ?_
        simp only [List.set_cons_zero, List.set_cons_succ]
        refine Ex_goto (tgt := 2) dX9_hidingOf_29 (by decide) ?_
        refine ih (k + 1) _ (by omega) (fun j hj => ?_)
        by_cases e : j = k
        · subst e
          rw [upd_s]
          have hk0 : j = 0 := by
            have := (nI_eq (a := j) (b := 0) (by omega) (by omega)).mp h16
            exact this
          show _ = nI (if j = 0 then 0 else 99)
          rw [if_pos hk0]
        · rw [upd_n e]; exact hf j (by omega)
set_option maxRecDepth 100000 in
set_option maxHeartbeats 4000000 in
theorem l9_hid1 {T : TC} {I : MI} {G : MG} {F : FinT} {b : Nat × Nat} (d : Nat) {M : Nat} (hM : MSh T G M) (row : Nat → Int32) (s z : Nat) (hs : s < 8) (hR : RwI I M row z) (hz : z ≤ 24) (k m : Nat) (hk : k < m) (hm : m ≤ 12) (f0 : Nat → Nat) (hb : ∀ j, f0 j < 1000) (x : Int32) (hx : I (M + 1) (8 + 17 * s + (4 + k)) = x) (kx : ∀ f, (∀ j, j ≤ z → f j = nI (hS row z x f0 j)) → Ex T RX9 cX9_hidingOf 4 (d + 1) F 51 [some (.ref M), some (.int (nI s)), some (.int (nI k)), some (.int (nI 0 - nI 1))] [] (rowI I (M + 7) f) G b) : ∀ p f, p ≤ z → (∀ j, j ≤ z → f j = nI (hIn row z x f0 p j)) → Ex T RX9 cX9_hidingOf 4 (d + 1) F 51 [some (.ref M), some (.int (nI s)), some (.int (nI k)), some (.int (nI p - nI 1))] [] (rowI I (M + 7) f) G b := by
  intro p
  induction p with
  | zero => intro f h0 hf; exact kx f (fun j hj => by rw [hf j hj, hIn_0])
  | succ p ih =>
    intro f h0 hf
    have e1 : nI (p + 1) - nI 1 = nI p := pk_sub (by omega)
    rw [e1]
    have hbb : ∀ j, hIn row z x f0 (p + 1) j < 2 ^ 30 := fun j => by
      have h1 := hb j
      have h2 := hS_le (row := row) (n := z) (x := x) (f := f0) (b := 1000) (fun j => Nat.le_of_lt (hb j)) j
      have h3 := hb (p + 1)
      unfold hIn
      split
      · omega
      · split
        · split <;> omega
        · omega
    have g0 := hf p (by omega)
    have g1 := hf (p + 1) (by omega)
    have hb0 := hbb p
    have hb1 := hbb (p + 1)
    have hy := fun (h : x = row p) j => hIn_yes (f := f0) (n := z) (by omega : p < z) h j
    have hno := fun (h : ¬ x = row p) j => hIn_no (f := f0) (n := z) h j
    generalize ea : hIn row z x f0 (p + 1) p = a0 at g0 hb0 hy
    generalize eb : hIn row z x f0 (p + 1) (p + 1) = a1 at g1 hb1 hy
    refine Ex_iload_n dX9_hidingOf_51 rfl ?_
    refine Ex_if_lt (tgt := 130) dX9_hidingOf_52 (by decide) (fun h52 => ?_) (fun h52 => ?_)
    · exact absurd h52 (nI_pos (by omega))
    · refine Ex_aload_n dX9_hidingOf_55 rfl ?_
      refine Ex_iload_n dX9_hidingOf_56 rfl ?_
      refine Ex_iconst (v := nI 4) dX9_hidingOf_57 (by rfl) ?_
      refine Ex_iload_n dX9_hidingOf_58 rfl ?_
      first | with_reducible refine Ex_iaddN dX9_hidingOf_59 ?_ | refine Ex_iadd dX9_hidingOf_59 ?_
      refine Ex_V2p dX9_hidingOf_60 sX9_105 hM.1 (Nat.le_of_ble_eq_true rfl) (c9_of d hM s (4 + k) (by omega)) ?_
      refine Ex_top (show _ = x by rw [rowI_n (by omega)]; exact hx) ?_
      refine Ex_aload_n dX9_hidingOf_63 rfl ?_
      refine Ex_getr dX9_hidingOf_64 fX9_19 hM.1 (mF4 hM).1 ?_
      refine Ex_iload_n dX9_hidingOf_67 rfl ?_
      refine Ex_iald dX9_hidingOf_68 (mF4 hM).2.1 rfl (by rw [(mF4 hM).2.2]; omega) (by rw [(mF4 hM).2.2]; decide) ?_
      refine Ex_top (show _ = row p by rw [rowI_n (by omega)]; exact hR.2 p (by omega)) ?_
      refine Ex_icmp_ne (tgt := 124) dX9_hidingOf_69 (by decide) (fun h69 => ?_) (fun h69 => ?_)
      · have h69' : ¬ x = row p := h69
        refine Ex_iinc (v := nI p - nI 1) dX9_hidingOf_124 rfl (nI_dec p) (by decide) rfl ?_
        simp only [st_n0, st_n1, st_n2, st_n3, List.set_cons_zero, List.set_cons_succ]
        refine Ex_goto (tgt := 51) dX9_hidingOf_127 (by decide) ?_
        refine ih _ (by omega) (fun j hj => ?_)
        rw [hf j hj, hno h69']
      · have h69' : x = row p := h69
        refine Ex_aload_n dX9_hidingOf_72 rfl ?_
        refine Ex_getr dX9_hidingOf_73 fX9_28 hM.1 (mF8 hM).1 ?_
        refine Ex_iload_n dX9_hidingOf_76 rfl ?_
        refine Ex_iconst (v := nI 1) dX9_hidingOf_77 (by rfl) ?_
        first | with_reducible refine Ex_iaddN dX9_hidingOf_78 ?_ | refine Ex_iadd dX9_hidingOf_78 ?_
        refine Ex_aload_n dX9_hidingOf_79 rfl ?_
        refine Ex_getr dX9_hidingOf_80 fX9_28 hM.1 (mF8 hM).1 ?_
        refine Ex_iload_n dX9_hidingOf_83 rfl ?_
        refine Ex_iald dX9_hidingOf_84 (mF8 hM).2.1 rfl (by rw [(mF8 hM).2.2]; omega) (by rw [(mF8 hM).2.2]; decide) ?_
        refine Ex_top (show _ = nI a0 by rw [rowI_s]; exact g0) ?_
        refine Ex_aload_n dX9_hidingOf_85 rfl ?_
        refine Ex_getr dX9_hidingOf_86 fX9_28 hM.1 (mF8 hM).1 ?_
        refine Ex_iload_n dX9_hidingOf_89 rfl ?_
        refine Ex_iconst (v := nI 1) dX9_hidingOf_90 (by rfl) ?_
        first | with_reducible refine Ex_iaddN dX9_hidingOf_91 ?_ | refine Ex_iadd dX9_hidingOf_91 ?_
        refine Ex_iald dX9_hidingOf_92 (mF8 hM).2.1 rfl (by rw [(mF8 hM).2.2]; omega) (by rw [(mF8 hM).2.2]; decide) ?_
        refine Ex_top (show _ = nI a1 by rw [rowI_s]; exact g1) ?_
        refine Ex_icmp_geN (by omega) (by omega) (tgt := 105) dX9_hidingOf_93 (by decide) (fun h93 => ?_) (fun h93 => ?_)
        · refine Ex_aload_n dX9_hidingOf_105 rfl ?_
          refine Ex_getr dX9_hidingOf_106 fX9_28 hM.1 (mF8 hM).1 ?_
          refine Ex_iload_n dX9_hidingOf_109 rfl ?_
          refine Ex_iconst (v := nI 1) dX9_hidingOf_110 (by rfl) ?_
          first | with_reducible refine Ex_iaddN dX9_hidingOf_111 ?_ | refine Ex_iadd dX9_hidingOf_111 ?_
          refine Ex_iald dX9_hidingOf_112 (mF8 hM).2.1 rfl (by rw [(mF8 hM).2.2]; omega) (by rw [(mF8 hM).2.2]; decide) ?_
          refine Ex_top (show _ = nI a1 by rw [rowI_s]; exact g1) ?_
          refine Ex_iast dX9_hidingOf_113 (mF8 hM).2.1 rfl (by rw [(mF8 hM).2.2]; omega) (by rw [(mF8 hM).2.2]; decide) ?_
          rw [setI_row, rowI_r, rowI_s]
          refine Ex_aload_n dX9_hidingOf_114 rfl ?_
          refine Ex_getr dX9_hidingOf_115 fX9_28 hM.1 (mF8 hM).1 ?_
          refine Ex_iload_n dX9_hidingOf_118 rfl ?_
          refine Ex_dup2 dX9_hidingOf_119 rfl rfl ?_
          refine Ex_iald dX9_hidingOf_120 (mF8 hM).2.1 rfl (by rw [(mF8 hM).2.2]; omega) (by rw [(mF8 hM).2.2]; decide) ?_
          refine Ex_top (show _ = nI a0 by rw [rowI_s, upd_n (by omega)]; exact g0) ?_
          refine Ex_iconst (v := nI 1) dX9_hidingOf_121 (by rfl) ?_
          first | with_reducible refine Ex_iaddN dX9_hidingOf_122 ?_ | refine Ex_iadd dX9_hidingOf_122 ?_
          refine Ex_iast dX9_hidingOf_123 (mF8 hM).2.1 rfl (by rw [(mF8 hM).2.2]; omega) (by rw [(mF8 hM).2.2]; decide) ?_
          rw [setI_row, rowI_r, rowI_s]
          
          refine Ex_iinc (v := nI p - nI 1) dX9_hidingOf_124 rfl (nI_dec p) (by decide) rfl ?_
          simp only [st_n0, st_n1, st_n2, st_n3, List.set_cons_zero, List.set_cons_succ]
          refine Ex_goto (tgt := 51) dX9_hidingOf_127 (by decide) ?_
          refine ih _ (by omega) (fun j hj => ?_)
          rw [hy h69' j]
          by_cases e : j = p
          · subst e; rw [if_pos rfl, upd_s]
          · rw [if_neg e, upd_n e]
            by_cases e2 : j = p + 1
            · subst e2; rw [if_pos rfl, upd_s]; congr 1; exact (Nat.min_eq_right (by omega)).symm
            · rw [if_neg e2, upd_n e2]; exact hf j hj
        · refine Ex_aload_n dX9_hidingOf_96 rfl ?_
          refine Ex_getr dX9_hidingOf_97 fX9_28 hM.1 (mF8 hM).1 ?_
          refine Ex_iload_n dX9_hidingOf_100 rfl ?_
          refine Ex_iald dX9_hidingOf_101 (mF8 hM).2.1 rfl (by rw [(mF8 hM).2.2]; omega) (by rw [(mF8 hM).2.2]; decide) ?_
          refine Ex_top (show _ = nI a0 by rw [rowI_s]; exact g0) ?_
          refine Ex_goto (tgt := 113) dX9_hidingOf_102 (by decide) ?_
          refine Ex_iast dX9_hidingOf_113 (mF8 hM).2.1 rfl (by rw [(mF8 hM).2.2]; omega) (by rw [(mF8 hM).2.2]; decide) ?_
          rw [setI_row, rowI_r, rowI_s]
          refine Ex_aload_n dX9_hidingOf_114 rfl ?_
          refine Ex_getr dX9_hidingOf_115 fX9_28 hM.1 (mF8 hM).1 ?_
          refine Ex_iload_n dX9_hidingOf_118 rfl ?_
          refine Ex_dup2 dX9_hidingOf_119 rfl rfl ?_
          refine Ex_iald dX9_hidingOf_120 (mF8 hM).2.1 rfl (by rw [(mF8 hM).2.2]; omega) (by rw [(mF8 hM).2.2]; decide) ?_
          refine Ex_top (show _ = nI a0 by rw [rowI_s, upd_n (by omega)]; exact g0) ?_
          refine Ex_iconst (v := nI 1) dX9_hidingOf_121 (by rfl) ?_
          first | with_reducible refine Ex_iaddN dX9_hidingOf_122 ?_ | refine Ex_iadd dX9_hidingOf_122 ?_
          refine Ex_iast dX9_hidingOf_123 (mF8 hM).2.1 rfl (by rw [(mF8 hM).2.2]; omega) (by rw [(mF8 hM).2.2]; decide) ?_
          rw [setI_row, rowI_r, rowI_s]
          
          refine Ex_iinc (v := nI p - nI 1) dX9_hidingOf_124 rfl (nI_dec p) (by decide) rfl ?_
          simp only [st_n0, st_n1, st_n2, st_n3, List.set_cons_zero, List.set_cons_succ]
          refine Ex_goto (tgt := 51) dX9_hidingOf_127 (by decide) ?_
          refine ih _ (by omega) (fun j hj => ?_)
          rw [hy h69' j]
          by_cases e : j = p
          · subst e; rw [if_pos rfl, upd_s]
          · rw [if_neg e, upd_n e]
            by_cases e2 : j = p + 1
            · subst e2; rw [if_pos rfl, upd_s]; congr 1; exact (Nat.min_eq_left (by omega)).symm
            · rw [if_neg e2, upd_n e2]; exact hf j hj
set_option maxRecDepth 100000 in
set_option maxHeartbeats 4000000 in
theorem l9_hid2 {T : TC} {I : MI} {G : MG} {F : FinT} {b : Nat × Nat} (d : Nat) {M : Nat} (hM : MSh T G M) (row : Nat → Int32) (s z : Nat) (hs : s < 8) (hR : RwI I M row z) (hz : z ≤ 24) (m : Nat) (hm1 : I (M + 1) (8 + 17 * s + 2) = nI m) (hm : m ≤ 12) (kx : ∀ f, (∀ j, j ≤ z → f j = nI (hG 99 row z (layF (I (M + 1)) s) m j)) → Ex T RX9 cX9_hidingOf 4 (d + 1) F 34 [some (.ref M), some (.int (nI s)), some (.int (nI m)), none] [] (rowI I (M + 7) f) G b) : ∀ i k f, k + i = m → (∀ j, j ≤ z → f j = nI (hG 99 row z (layF (I (M + 1)) s) k j)) → Ex T RX9 cX9_hidingOf 4 (d + 1) F 34 [some (.ref M), some (.int (nI s)), some (.int (nI k)), none] [] (rowI I (M + 7) f) G b := by
  intro i
  induction i with
  | zero => intro k f h0 hf; have e0 : k = m := by omega
            subst e0; exact kx f hf
  | succ i ih =>
    intro k f h0 hf
    have hb : ∀ j, hG 99 row z (layF (I (M + 1)) s) k j < 1000 := fun j => by have := hG_le (inf := 99) (row := row) (lay := layF (I (M + 1)) s) (n := z) k j; omega
    refine Ex_iload_n dX9_hidingOf_34 rfl ?_
    refine Ex_aload_n dX9_hidingOf_35 rfl ?_
    refine Ex_iload_n dX9_hidingOf_36 rfl ?_
    refine Ex_iconst (v := nI 2) dX9_hidingOf_37 (by rfl) ?_
    refine Ex_V2p dX9_hidingOf_38 sX9_105 hM.1 (Nat.le_of_ble_eq_true rfl) (c9_of d hM s 2 (by omega)) ?_
    refine Ex_top (show _ = nI m by rw [rowI_n (by omega)]; exact hm1) ?_
    refine Ex_icmp_geN (by omega) (by omega) (tgt := 136) dX9_hidingOf_41 (by decide) (fun h41 => ?_) (fun h41 => ?_)
    · omega
    · refine Ex_aload_n dX9_hidingOf_44 rfl ?_
      refine Ex_geti dX9_hidingOf_45 fX9_172 hM.1 ?_
      refine Ex_top (show _ = nI z by rw [rowI_n (by omega)]; exact hR.1) ?_
      refine Ex_iconst (v := nI 1) dX9_hidingOf_48 (by rfl) ?_
      refine Ex_isub dX9_hidingOf_49 ?_
      refine Ex_istore_n dX9_hidingOf_50 (by decide) rfl ?_
      simp only [st_n0, st_n1, st_n2, st_n3, List.set_cons_zero, List.set_cons_succ]
      refine l9_hid1 d hM row s z hs hR hz k m (by omega) hm _ hb _ rfl ?_ z f (Nat.le_refl _) (fun j hj => by rw [hIn_n hj]; exact hf j hj)
      intro f2 hf2
      refine Ex_iload_n dX9_hidingOf_51 rfl ?_
      refine Ex_if_lt (tgt := 130) dX9_hidingOf_52 (by decide) (fun h52 => ?_) (fun h52 => ?_)
      · first | refine Ex_iincN (m := 1) dX9_hidingOf_130 rfl rfl (by decide) rfl ?_ | refine Ex_iinc dX9_hidingOf_130 rfl rfl (by decide) rfl ?_
        simp only [List.set_cons_zero, List.set_cons_succ]
        refine Ex_goto (tgt := 34) dX9_hidingOf_133 (by decide) ?_
        refine Ex_drop 3 ?_
        simp only [st_n0, st_n1, st_n2, st_n3, List.set_cons_zero, List.set_cons_succ]
        exact ih (k + 1) f2 (by omega) hf2
      · exact absurd m1_lt h52
set_option maxRecDepth 100000 in
set_option maxHeartbeats 4000000 in
theorem l9_hid3 {T : TC} {I : MI} {G : MG} {F : FinT} {b : Nat × Nat} (d : Nat) {M : Nat} (hM : MSh T G M) (row : Nat → Int32) (s z : Nat) (hs : s < 8) (hR : RwI I M row z) (hz : z ≤ 24) (f0 : Nat → Nat) (hb : ∀ j, f0 j < 1000) (f : Nat → Int32) (hf : ∀ j, j ≤ z → f j = nI (f0 j)) (kx : Ex T RX9 cX9_hidingOf 4 (d + 1) F 141 [some (.ref M), some (.int (nI s)), some (.int (nI (mnF f0 99 z))), some (.int (nI z))] [] (rowI I (M + 7) f) G b) : ∀ i k, k + i = z → mnF f0 99 k < 1000 → Ex T RX9 cX9_hidingOf 4 (d + 1) F 141 [some (.ref M), some (.int (nI s)), some (.int (nI (mnF f0 99 k))), some (.int (nI k))] [] (rowI I (M + 7) f) G b := by
  intro i
  induction i with
  | zero => intro k h0 _; have e0 : k = z := by omega
            subst e0; exact kx
  | succ i ih =>
    intro k h0 hl
    have hbk := hb k
    refine Ex_iload_n dX9_hidingOf_141 rfl ?_
    refine Ex_aload_n dX9_hidingOf_142 rfl ?_
    refine Ex_geti dX9_hidingOf_143 fX9_172 hM.1 ?_
    refine Ex_top (show _ = nI z by rw [rowI_n (by omega)]; exact hR.1) ?_
    refine Ex_icmp_geN (by omega) (by omega) (tgt := 176) dX9_hidingOf_146 (by decide) (fun h146 => ?_) (fun h146 => ?_)
    · omega
    · refine Ex_aload_n dX9_hidingOf_149 rfl ?_
      refine Ex_getr dX9_hidingOf_150 fX9_28 hM.1 (mF8 hM).1 ?_
      refine Ex_iload_n dX9_hidingOf_153 rfl ?_
      refine Ex_iald dX9_hidingOf_154 (mF8 hM).2.1 rfl (by rw [(mF8 hM).2.2]; omega) (by rw [(mF8 hM).2.2]; decide) ?_
      refine Ex_top (show _ = nI (f0 k) by rw [rowI_s]; exact hf k (by omega)) ?_
      refine Ex_iload_n dX9_hidingOf_155 rfl ?_
      refine Ex_icmp_geN (by omega) (by omega) (tgt := 168) dX9_hidingOf_156 (by decide) (fun h156 => ?_) (fun h156 => ?_)
      · refine Ex_iload_n dX9_hidingOf_168 rfl ?_
        refine Ex_istore_n dX9_hidingOf_169 (by decide) rfl ?_
        simp only [st_n0, st_n1, st_n2, st_n3, List.set_cons_zero, List.set_cons_succ]
        first | refine Ex_iincN (m := 1) dX9_hidingOf_170 rfl rfl (by decide) rfl ?_ | refine Ex_iinc dX9_hidingOf_170 rfl rfl (by decide) rfl ?_
        simp only [List.set_cons_zero, List.set_cons_succ]
        refine Ex_goto (tgt := 141) dX9_hidingOf_173 (by decide) ?_
        have em : mnF f0 99 (k + 1) = mnF f0 99 k := Nat.min_eq_right (by omega)
        have key := ih (k + 1) (by omega) (by rw [em]; omega)
        rw [em] at key
        exact key
      · refine Ex_aload_n dX9_hidingOf_159 rfl ?_
        refine Ex_getr dX9_hidingOf_160 fX9_28 hM.1 (mF8 hM).1 ?_
        refine Ex_iload_n dX9_hidingOf_163 rfl ?_
        refine Ex_iald dX9_hidingOf_164 (mF8 hM).2.1 rfl (by rw [(mF8 hM).2.2]; omega) (by rw [(mF8 hM).2.2]; decide) ?_
        refine Ex_top (show _ = nI (f0 k) by rw [rowI_s]; exact hf k (by omega)) ?_
        refine Ex_goto (tgt := 169) dX9_hidingOf_165 (by decide) ?_
        refine Ex_istore_n dX9_hidingOf_169 (by decide) rfl ?_
        simp only [st_n0, st_n1, st_n2, st_n3, List.set_cons_zero, List.set_cons_succ]
        first | refine Ex_iincN (m := 1) dX9_hidingOf_170 rfl rfl (by decide) rfl ?_ | refine Ex_iinc dX9_hidingOf_170 rfl rfl (by decide) rfl ?_
        simp only [List.set_cons_zero, List.set_cons_succ]
        refine Ex_goto (tgt := 141) dX9_hidingOf_173 (by decide) ?_
        have em : mnF f0 99 (k + 1) = f0 k := Nat.min_eq_left (by omega)
        have key := ih (k + 1) (by omega) (by rw [em]; omega)
        rw [em] at key
        exact key
set_option maxRecDepth 100000 in
set_option maxHeartbeats 4000000 in
theorem c9_hidingOf {T : TC} {I : MI} {G : MG} (d : Nat) {M : Nat} (hM : MSh T G M) (row : Nat → Int32) (s z m : Nat) (hs : s < 8) (hR : RwI I M row z) (hz : z ≤ 24) (hm1 : I (M + 1) (8 + 17 * s + 2) = nI m) (hm : m ≤ 12) : OkI T mX9_hidingOf (d + 1) [.ref M, .int (nI s)] I G (fun r I' G' => r = nI (mnF (hG 99 row z (layF (I (M + 1)) s) m) 99 z) ∧ Fr (fun a => a = M + 7) I I' ∧ G' = G) := by
  refine Ok_of (own := RX9) (by decide) rfl (cat1 rfl) (Nat.le_of_ble_eq_true rfl) ?_
  show Ex T RX9 cX9_hidingOf 4 (d + 1) _ 0 [some (.ref M), some (.int (nI s)), none, none] [] I G (0, 0)
  refine Ex_iconst (v := nI 0) dX9_hidingOf_0 (by rfl) ?_
  refine Ex_istore_n dX9_hidingOf_1 (by decide) rfl ?_
  simp only [st_n0, st_n1, st_n2, st_n3, List.set_cons_zero, List.set_cons_succ]
  refine Ex_eqI (rowI_self (a := M + 7)).symm ?_
  refine l9_hid0 d hM row s z hs hR hz ?_ (z + 1) 0 _ (by omega) (fun j hj => absurd hj (Nat.not_lt_zero j))
  intro f1 hf1
  refine Ex_iload_n dX9_hidingOf_2 rfl ?_
  refine Ex_aload_n dX9_hidingOf_3 rfl ?_
  refine Ex_geti dX9_hidingOf_4 fX9_172 hM.1 ?_
  refine Ex_top (show _ = nI z by rw [rowI_n (by omega)]; exact hR.1) ?_
  refine Ex_icmp_gtN (by omega) (by omega) (tgt := 32) dX9_hidingOf_7 (by decide) (fun h7 => ?_) (fun h7 => ?_)
  · refine Ex_iconst (v := nI 0) dX9_hidingOf_32 (by rfl) ?_
    refine Ex_istore_n dX9_hidingOf_33 (by decide) rfl ?_
    simp only [st_n0, st_n1, st_n2, st_n3, List.set_cons_zero, List.set_cons_succ]
    refine l9_hid2 d hM row s z hs hR hz m hm1 hm ?_ m 0 f1 (by omega) hf1
    intro f2 hf2
    refine Ex_iload_n dX9_hidingOf_34 rfl ?_
    refine Ex_aload_n dX9_hidingOf_35 rfl ?_
    refine Ex_iload_n dX9_hidingOf_36 rfl ?_
    refine Ex_iconst (v := nI 2) dX9_hidingOf_37 (by rfl) ?_
    refine Ex_V2p dX9_hidingOf_38 sX9_105 hM.1 (Nat.le_of_ble_eq_true rfl) (c9_of d hM s 2 (by omega)) ?_
    refine Ex_top (show _ = nI m by rw [rowI_n (by omega)]; exact hm1) ?_
    refine Ex_icmp_geN (by omega) (by omega) (tgt := 136) dX9_hidingOf_41 (by decide) (fun h41 => ?_) (fun h41 => ?_)
    · refine Ex_bipush (v := nI 99) dX9_hidingOf_136 (by rfl) ?_
      refine Ex_istore_n dX9_hidingOf_138 (by decide) rfl ?_
      simp only [st_n0, st_n1, st_n2, st_n3, List.set_cons_zero, List.set_cons_succ]
      refine Ex_iconst (v := nI 0) dX9_hidingOf_139 (by rfl) ?_
      refine Ex_istore_n dX9_hidingOf_140 (by decide) rfl ?_
      simp only [st_n0, st_n1, st_n2, st_n3, List.set_cons_zero, List.set_cons_succ]
      have hb : ∀ j, hG 99 row z (layF (I (M + 1)) s) m j < 1000 := fun j => by have := hG_le (inf := 99) (row := row) (lay := layF (I (M + 1)) s) (n := z) m j; omega
      refine l9_hid3 d hM row s z hs hR hz _ hb f2 hf2 ?_ z 0 (by omega) (by show 99 < 1000; omega)
      refine Ex_iload_n dX9_hidingOf_141 rfl ?_
      refine Ex_aload_n dX9_hidingOf_142 rfl ?_
      refine Ex_geti dX9_hidingOf_143 fX9_172 hM.1 ?_
      refine Ex_top (show _ = nI z by rw [rowI_n (by omega)]; exact hR.1) ?_
      refine Ex_icmp_geN (by omega) (by omega) (tgt := 176) dX9_hidingOf_146 (by decide) (fun h146 => ?_) (fun h146 => ?_)
      · refine Ex_iload_n dX9_hidingOf_176 rfl ?_
        refine Ex_iret dX9_hidingOf_177 (by first | rfl | exact narrow_bI) ?_
        exact ⟨_, rfl, rfl, Fr.row rfl, rfl⟩
      · omega
    · omega
  · omega
def r_hiding (g so : Nat → Int32) (sz : Nat → Nat) (ce : Nat → Nat → Int32) (s u : Int32) : Int32 := if inR s 4 ∧ inR u (nS g) then (if so (cl s) < 0 then cNOTHING else if rowP (ce (cl s)) (sz (cl s)) then (if sz (cl s) = 0 then cNONE else nI (hidF g (ce (cl s)) (sz (cl s)) (cl u))) else cSIZE) else cBAD
set_option maxRecDepth 100000 in
set_option maxHeartbeats 4000000 in
theorem C9_hiding {T : TC} {I : MI} {G : MG} (d : Nat) {M : Nat} (hM : MSh T G M) (hW : WfG (I (M + 1))) (sz : Nat → Nat) (hz : SzR I M sz) (s u : Int32)  : OkI T mX9_hiding (d + 3) [.ref M, .int s, .int u] I G (fun r I' G' => r = r_hiding (I (M + 1)) (I (M + 18)) sz (fun s k => I (M + 20) (24 * s + k)) s u ∧ I' (M + 1) = I (M + 1) ∧ Kr M (fun a => a = M + 7) I I' ∧ G' = G) := by
  refine Ok_of (own := RX9) (by decide) rfl (cat1 rfl) (Nat.le_of_ble_eq_true rfl) ?_
  show Ex T RX9 cX9_hiding 3 (d + 3) _ 0 [some (.ref M), some (.int s), some (.int u)] [] I G (0, 0)
  refine Ex_iload_n dX9_hiding_0 rfl ?_
  refine Ex_S1p dX9_hiding_1 sX9_179  (Nat.le_of_ble_eq_true rfl) (c9_isSheet (d + 1) _) ?_
  refine Ex_if_eqB (tgt := 15) dX9_hiding_4 (by decide) (fun h4 => ?_) (fun h4 => ?_)
  · refine Ex_ldc dX9_hiding_15 kX9_99 ?_
    refine Ex_iret dX9_hiding_17 (by first | rfl | exact narrow_bI) ?_
    exact ⟨_, rfl, (by unfold r_hiding; rw [if_neg (fun q => h4 q.1)]), rfl, Kr.refl, rfl⟩
  · refine Ex_aload_n dX9_hiding_7 rfl ?_
    refine Ex_iload_n dX9_hiding_8 rfl ?_
    refine Ex_V1p dX9_hiding_9 sX9_119 hM.1 (Nat.le_of_ble_eq_true rfl) (c9_isS (d + 1) hM hW _) ?_
    refine Ex_if_neB (tgt := 18) dX9_hiding_12 (by decide) (fun h12 => ?_) (fun h12 => ?_)
    · obtain ⟨s', hs', e4⟩ := (rng_k (by omega)).mp h4
      have hcl : cl (nI s') = s' := cl_nI (by omega)
      subst e4
      refine Ex_aload_n dX9_hiding_18 rfl ?_
      refine Ex_getr dX9_hiding_19 fX9_64 hM.1 (mF29 hM).1 ?_
      refine Ex_iload_n dX9_hiding_22 rfl ?_
      refine Ex_iald dX9_hiding_23 (mF29 hM).2.1 rfl (by rw [(mF29 hM).2.2]; omega) (by rw [(mF29 hM).2.2]; decide) ?_
      refine Ex_if_ge (tgt := 30) dX9_hiding_24 (by decide) (fun h24 => ?_) (fun h24 => ?_)
      · obtain ⟨hz1, hz2⟩ := hz s' hs'
        refine Ex_aload_n dX9_hiding_30 rfl ?_
        refine Ex_iload_n dX9_hiding_31 rfl ?_
        refine Ex_V1i dX9_hiding_32 sX9_183 hM.1 (Nat.le_of_ble_eq_true rfl) (c9_isRowOf d hM s' (sz s') hs' hz1 hz2) ?_
        rintro r J _ ⟨rfl, hJ, rfl⟩
        have hR : RwI J M (fun k => I (M + 20) (24 * s' + k)) (sz s') := by rw [hJ]; exact RwI_of
        have hg : J (M + 1) = I (M + 1) := by rw [hJ, rowI_n (by omega), rowI_n (by omega)]
        have hK : Kr M (fun _ => False) I J := by rw [hJ]; exact Kr_row
        refine Ex_if_neB (tgt := 41) dX9_hiding_35 (by decide) (fun h35 => ?_) (fun h35 => ?_)
        · obtain ⟨u', hu', eu⟩ := (rng_k (by have := hW.2.1; omega)).mp h12
          have hcu : cl (nI u') = u' := cl_nI (by have := hW.2.1; omega)
          subst eu
          have hu8 : u' < 8 := by have := hW.2.1; omega
          obtain ⟨hm1, hm2, -, -⟩ := hW.2.2.1 u' hu8
          refine Ex_aload_n dX9_hiding_41 rfl ?_
          refine Ex_geti dX9_hiding_42 fX9_172 hM.1 ?_
          refine Ex_top hR.1 ?_
          refine Ex_if_ne (tgt := 53) dX9_hiding_45 (by decide) (fun h45 => ?_) (fun h45 => ?_)
          · refine Ex_aload_n dX9_hiding_53 rfl ?_
            refine Ex_iload_n dX9_hiding_54 rfl ?_
            refine Ex_V1i dX9_hiding_55 sX9_199 hM.1 (Nat.le_of_ble_eq_true rfl) (c9_hidingOf (d + 1) hM _ u' (sz s') (mN (I (M + 1)) u') hu8 hR hz2 (by rw [hg]; exact hm1) hm2) ?_
            rintro r I2 _ ⟨rfl, hF2, rfl⟩
            have hK2 : Kr M (fun a => a = M + 7) I I2 := Kr.step ⟨hK.1, hK.2.mono (fun a h => h.elim Or.inl (fun h => Or.inr (h.elim Or.inl (fun h => h.elim))))⟩ hF2 (by omega)
            refine Ex_iret dX9_hiding_58 (by first | rfl | exact narrow_bI) ?_
            exact ⟨_, rfl, (by unfold r_hiding hidF; rw [if_pos ⟨h4, h12⟩, hcl, if_neg (Int32.not_lt.mpr h24), if_pos h35, hcu, if_neg (fun q => h45 (by rw [q]; rfl)), hg]), (by rw [hF2 _ (by omega)]; exact hg), hK2, rfl⟩
          · refine Ex_ldc dX9_hiding_48 kX9_133 ?_
            refine Ex_goto (tgt := 58) dX9_hiding_50 (by decide) ?_
            refine Ex_iret dX9_hiding_58 (by first | rfl | exact narrow_bI) ?_
            exact ⟨_, rfl, (by unfold r_hiding; rw [if_pos ⟨h4, h12⟩, hcl, if_neg (Int32.not_lt.mpr h24), if_pos h35, if_pos ((nI_eq (b := 0) (by omega) (by omega)).mp h45)]), hg, ⟨hK.1, hK.2.mono (fun a h => h.elim Or.inl (fun h => Or.inr (h.elim Or.inl (fun h => h.elim))))⟩, rfl⟩
        · refine Ex_ldc dX9_hiding_38 kX9_186 ?_
          refine Ex_iret dX9_hiding_40 (by first | rfl | exact narrow_bI) ?_
          exact ⟨_, rfl, (by unfold r_hiding; rw [if_pos ⟨h4, h12⟩, hcl, if_neg (Int32.not_lt.mpr h24), if_neg h35]), hg, ⟨hK.1, hK.2.mono (fun a h => h.elim Or.inl (fun h => Or.inr (h.elim Or.inl (fun h => h.elim))))⟩, rfl⟩
      · refine Ex_ldc dX9_hiding_27 kX9_182 ?_
        refine Ex_iret dX9_hiding_29 (by first | rfl | exact narrow_bI) ?_
        exact ⟨_, rfl, (by unfold r_hiding; rw [if_pos ⟨h4, h12⟩, hcl, if_pos (Int32.not_le.mp h24)]), rfl, Kr.refl, rfl⟩
    · refine Ex_ldc dX9_hiding_15 kX9_99 ?_
      refine Ex_iret dX9_hiding_17 (by first | rfl | exact narrow_bI) ?_
      exact ⟨_, rfl, (by unfold r_hiding; rw [if_neg (fun q => h12 q.2)]), rfl, Kr.refl, rfl⟩
