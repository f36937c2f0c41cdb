/-! the class: hiding -/
def clM (f : Nat → Nat) : Nat → Nat
  | 0 => f 0
  | p + 1 => Nat.min (clM f p) (f (p + 1))
theorem nmin (a b : Nat) : Nat.min a b = if a ≤ b then a else b := by
  by_cases h : a ≤ b
  · rw [if_pos h]; exact Nat.min_eq_left h
  · rw [if_neg h]; exact Nat.min_eq_right (by omega)
theorem hG_0 {inf : Nat} {row lay : Nat → Int32} {n : Nat} : ∀ k, hG inf row n lay k 0 ≤ k
  | 0 => Nat.le_refl _
  | k + 1 => by
    have := hG_0 (inf := inf) (row := row) (lay := lay) (n := n) k
    show hS row n (lay k) (hG inf row n lay k) 0 ≤ k + 1
    unfold hS
    rw [if_neg (fun q => absurd q.1 (by omega))]
    split <;> omega
def hRl (u v k : Nat) : Prop := (u = v ∧ u ≤ k) ∨ (13 ≤ u ∧ 99 ≤ v)
theorem hG_rel {row lay : Nat → Int32} {n : Nat} : ∀ k, k ≤ 12 → ∀ p, hRl (hG 13 row n lay k p) (hG 99 row n lay k p) k
  | 0, _, p => by
    show hRl (if p = 0 then 0 else 13) (if p = 0 then 0 else 99) 0
    by_cases h : p = 0
    · rw [if_pos h, if_pos h]; exact Or.inl ⟨rfl, Nat.le_refl _⟩
    · rw [if_neg h, if_neg h]; exact Or.inr ⟨Nat.le_refl _, Nat.le_refl _⟩
  | k + 1, hk, p => by
    have ih := hG_rel (row := row) (lay := lay) (n := n) k (by omega)
    show hRl (hS row n (lay k) (hG 13 row n lay k) p) (hS row n (lay k) (hG 99 row n lay k) p) (k + 1)
    have h1 := ih p
    have h2 := ih (p - 1)
    unfold hRl at *
    unfold hS
    by_cases c1 : 1 ≤ p ∧ p - 1 < n ∧ lay k = row (p - 1)
    · rw [if_pos c1, if_pos c1, nmin, nmin]
      by_cases c2 : p < n ∧ lay k = row p
      · rw [if_pos c2, if_pos c2]
        split <;> split <;> omega
      · rw [if_neg c2, if_neg c2]
        split <;> split <;> omega
    · rw [if_neg c1, if_neg c1]
      by_cases c2 : p < n ∧ lay k = row p
      · rw [if_pos c2, if_pos c2]; omega
      · rw [if_neg c2, if_neg c2]; omega
theorem hid_eq {row lay : Nat → Int32} {n m : Nat} (hm : m ≤ 12) : ∀ p, clM (hG 13 row n lay m) p = mnF (hG 99 row n lay m) 99 (p + 1) ∧ clM (hG 13 row n lay m) p ≤ 12
  | 0 => by
    have h := hG_rel (row := row) (lay := lay) (n := n) m hm 0
    have h0 := hG_0 (inf := 13) (row := row) (lay := lay) (n := n) m
    unfold hRl at h
    show hG 13 row n lay m 0 = Nat.min (hG 99 row n lay m 0) 99 ∧ hG 13 row n lay m 0 ≤ 12
    rw [nmin]
    split <;> omega
  | p + 1 => by
    have ih := hid_eq (row := row) (lay := lay) (n := n) hm p
    have h := hG_rel (row := row) (lay := lay) (n := n) m hm (p + 1)
    unfold hRl at h
    show Nat.min (clM (hG 13 row n lay m) p) (hG 13 row n lay m (p + 1)) = Nat.min (hG 99 row n lay m (p + 1)) (mnF (hG 99 row n lay m) 99 (p + 1)) ∧ Nat.min (clM (hG 13 row n lay m) p) (hG 13 row n lay m (p + 1)) ≤ 12
    rw [← ih.1, nmin, nmin]
    split <;> split <;> omega
theorem clM_le {f : Nat → Nat} {c : Nat} (h : f 0 ≤ c) : ∀ p, clM f p ≤ c
  | 0 => h
  | p + 1 => by
    have := clM_le h p
    unfold clM
    rw [nmin]
    split <;> omega
set_option maxRecDepth 100000 in
set_option maxHeartbeats 4000000 in
theorem l2_hd1 {T : TC} {I : MI} {G : MG} {F : FinT} {bb : Nat × Nat} (d : Nat) {r u w : Nat} (hD : RdS T G r) (hU : SfS T G u) (hR : ShS T G w) (row a : Nat → Int32) (z m : Nat) (hz1 : I w 1 = nI z) (hz0 : 0 < z) (hz : z ≤ 24) (hrow : ∀ k, k < z → I (w + 1) k = row k) (hA : SfA I u m a) (hw1 : ¬ PR r w) (hw2 : ¬ PR r (w + 1)) (hu1 : ¬ PR r u) (hu2 : ¬ PR r (u + 1)) (k : Nat) (hk : k < m) (f0 : Nat → Nat) (hb : ∀ j, f0 j < 1000) (kx : ∀ f, (∀ j, j ≤ z → f j = nI (hS row z (a k) f0 j)) → Ex T RX2 cX2_fewestToHide 5 (d + 1) F 34 [some (.ref r), some (.ref w), some (.ref u), some (.int (nI k)), some (.int (nI 0 - nI 1))] [] (rowI I (r + 16) f) G bb) : ∀ p f, p ≤ z → (∀ j, j ≤ z → f j = nI (hIn row z (a k) f0 p j)) → Ex T RX2 cX2_fewestToHide 5 (d + 1) F 34 [some (.ref r), some (.ref w), some (.ref u), some (.int (nI k)), some (.int (nI p - nI 1))] [] (rowI I (r + 16) f) G bb := by
  have n16 : PR r (r + 16) := ⟨by omega, by omega⟩
  have ew1 : w ≠ r + 16 := fun q => hw1 (by rw [q]; exact n16)
  have ew2 : w + 1 ≠ r + 16 := fun q => hw2 (by rw [q]; exact n16)
  have eu1 : u ≠ r + 16 := fun q => hu1 (by rw [q]; exact n16)
  have eu2 : u + 1 ≠ r + 16 := fun q => hu2 (by rw [q]; exact n16)
  have hm := hA.2.1
  generalize hx : a k = x
  intro p
  induction p with
  | zero => intro f h0 hf; exact kx f (fun j hj => by rw [hf j hj, hIn_0, hx])
  | succ p ih =>
    intro f h0 hf
    have e1 : nI (p + 1) - nI 1 = nI p := pk_sub (by omega)
    rw [e1]
    have hbb : ∀ j, hIn row z x f0 (p + 1) j < 2 ^ 30 := fun j => by
      have h1 := hb j
      have h2 := hS_le (row := row) (n := z) (x := x) (f := f0) (b := 1000) (fun j => Nat.le_of_lt (hb j)) j
      have h3 := hb (p + 1)
      unfold hIn
      split
      · omega
      · split
        · split <;> omega
        · omega
    have g0 := hf p (by omega)
    have g1 := hf (p + 1) (by omega)
    have hb0 := hbb p
    have hb1 := hbb (p + 1)
    have hy := fun (h : x = row p) j => hIn_yes (f := f0) (n := z) (by omega : p < z) h j
    have hno := fun (h : ¬ x = row p) j => hIn_no (f := f0) (n := z) h j
    generalize ea : hIn row z x f0 (p + 1) p = a0 at g0 hb0 hy
    generalize eb : hIn row z x f0 (p + 1) (p + 1) = a1 at g1 hb1 hy
    refine Ex_iload dX2_fewestToHide_34 rfl ?_
    refine Ex_if_lt (tgt := 100) dX2_fewestToHide_36 (by decide) (fun h36 => ?_) (fun h36 => ?_)
    · exact absurd h36 (nI_pos (by omega))
    · refine Ex_aload_n dX2_fewestToHide_39 rfl ?_
      refine Ex_getr dX2_fewestToHide_40 fX2_61 hR.1 hR.2.1 ?_
      refine Ex_iload dX2_fewestToHide_43 rfl ?_
      refine Ex_iald dX2_fewestToHide_45 hR.2.2.1 rfl (by rw [hR.2.2.2]; omega) (by rw [hR.2.2.2]; decide) ?_
      refine Ex_top (show _ = row p by rw [rowI_n ew2]; exact hrow p (by omega)) ?_
      refine Ex_aload_n dX2_fewestToHide_46 rfl ?_
      refine Ex_getr dX2_fewestToHide_47 fX2_38 hU.1 hU.2.1 ?_
      refine Ex_iload_n dX2_fewestToHide_50 rfl ?_
      refine Ex_iald dX2_fewestToHide_51 hU.2.2.1 rfl (by rw [hU.2.2.2]; omega) (by rw [hU.2.2.2]; decide) ?_
      refine Ex_top (show _ = x by rw [rowI_n eu2, hA.2.2 k hk, hx]) ?_
      refine Ex_icmp_ne (tgt := 94) dX2_fewestToHide_52 (by decide) (fun h52 => ?_) (fun h52 => ?_)
      · refine Ex_iinc (v := nI p - nI 1) dX2_fewestToHide_94 rfl (nI_dec p) (by decide) rfl ?_
        simp only [List.set_cons_zero, List.set_cons_succ]
        refine Ex_goto (tgt := 34) dX2_fewestToHide_97 (by decide) ?_
        refine ih _ (by omega) (fun j hj => ?_)
        rw [hf j hj, hno (fun q => h52 q.symm)]
      · refine Ex_aload_n dX2_fewestToHide_55 rfl ?_
        refine Ex_getr dX2_fewestToHide_56 fX2_20 (rd_o hD) (rd_f hD) ?_
        refine Ex_iload dX2_fewestToHide_59 rfl ?_
        refine Ex_iconst (v := nI 1) dX2_fewestToHide_61 (by rfl) ?_
        first | with_reducible refine Ex_iaddN dX2_fewestToHide_62 ?_ | refine Ex_iadd dX2_fewestToHide_62 ?_
        refine Ex_aload_n dX2_fewestToHide_63 rfl ?_
        refine Ex_getr dX2_fewestToHide_64 fX2_20 (rd_o hD) (rd_f hD) ?_
        refine Ex_iload dX2_fewestToHide_67 rfl ?_
        refine Ex_iconst (v := nI 1) dX2_fewestToHide_69 (by rfl) ?_
        first | with_reducible refine Ex_iaddN dX2_fewestToHide_70 ?_ | refine Ex_iadd dX2_fewestToHide_70 ?_
        refine Ex_iald dX2_fewestToHide_71 (rd_fI hD) rfl (by rw [rd_fN hD]; omega) (by rw [rd_fN hD]; decide) ?_
        refine Ex_top (show _ = nI a1 by rw [rowI_s]; exact g1) ?_
        refine Ex_aload_n dX2_fewestToHide_72 rfl ?_
        refine Ex_getr dX2_fewestToHide_73 fX2_20 (rd_o hD) (rd_f hD) ?_
        refine Ex_iload dX2_fewestToHide_76 rfl ?_
        refine Ex_iald dX2_fewestToHide_78 (rd_fI hD) rfl (by rw [rd_fN hD]; omega) (by rw [rd_fN hD]; decide) ?_
        refine Ex_top (show _ = nI a0 by rw [rowI_s]; exact g0) ?_
        refine Ex_min dX2_fewestToHide_79 sX2_64 (Nat.le_of_ble_eq_true rfl) ?_
        refine Ex_top (mnN (by omega) (by omega)) ?_
        refine Ex_iast dX2_fewestToHide_82 (rd_fI hD) rfl (by rw [rd_fN hD]; omega) (by rw [rd_fN hD]; decide) ?_
        rw [setI_row, rowI_r, rowI_s]
        refine Ex_aload_n dX2_fewestToHide_83 rfl ?_
        refine Ex_getr dX2_fewestToHide_84 fX2_20 (rd_o hD) (rd_f hD) ?_
        refine Ex_iload dX2_fewestToHide_87 rfl ?_
        refine Ex_dup2 dX2_fewestToHide_89 rfl rfl ?_
        refine Ex_iald dX2_fewestToHide_90 (rd_fI hD) rfl (by rw [rd_fN hD]; omega) (by rw [rd_fN hD]; decide) ?_
        refine Ex_top (show _ = nI a0 by rw [rowI_s, upd_n (by omega)]; exact g0) ?_
        refine Ex_iconst (v := nI 1) dX2_fewestToHide_91 (by rfl) ?_
        first | with_reducible refine Ex_iaddN dX2_fewestToHide_92 ?_ | refine Ex_iadd dX2_fewestToHide_92 ?_
        refine Ex_iast dX2_fewestToHide_93 (rd_fI hD) rfl (by rw [rd_fN hD]; omega) (by rw [rd_fN hD]; decide) ?_
        rw [setI_row, rowI_r, rowI_s]
        refine Ex_iinc (v := nI p - nI 1) dX2_fewestToHide_94 rfl (nI_dec p) (by decide) rfl ?_
        simp only [List.set_cons_zero, List.set_cons_succ]
        refine Ex_goto (tgt := 34) dX2_fewestToHide_97 (by decide) ?_
        refine ih _ (by omega) (fun j hj => ?_)
        rw [hy h52.symm j]
        by_cases e : j = p
        · subst e; rw [if_pos rfl, upd_s]
        · rw [if_neg e, upd_n e]
          by_cases e2 : j = p + 1
          · subst e2; rw [if_pos rfl, upd_s]; congr 1; exact Nat.min_comm _ _
          · rw [if_neg e2, upd_n e2]; exact hf j hj
set_option maxRecDepth 100000 in
set_option maxHeartbeats 4000000 in
theorem l2_hd2 {T : TC} {I : MI} {G : MG} {F : FinT} {bb : Nat × Nat} (d : Nat) {r u w : Nat} (hD : RdS T G r) (hU : SfS T G u) (hR : ShS T G w) (row a : Nat → Int32) (z m : Nat) (hz1 : I w 1 = nI z) (hz0 : 0 < z) (hz : z ≤ 24) (hrow : ∀ k, k < z → I (w + 1) k = row k) (hA : SfA I u m a) (hw1 : ¬ PR r w) (hw2 : ¬ PR r (w + 1)) (hu1 : ¬ PR r u) (hu2 : ¬ PR r (u + 1)) (kx : ∀ f, (∀ j, j ≤ z → f j = nI (hG 13 row z a m j)) → Ex T RX2 cX2_fewestToHide 5 (d + 1) F 18 [some (.ref r), some (.ref w), some (.ref u), some (.int (nI m)), none] [] (rowI I (r + 16) f) G bb) : ∀ i k f, k + i = m → (∀ j, j ≤ z → f j = nI (hG 13 row z a k j)) → Ex T RX2 cX2_fewestToHide 5 (d + 1) F 18 [some (.ref r), some (.ref w), some (.ref u), some (.int (nI k)), none] [] (rowI I (r + 16) f) G bb := by
  have n16 : PR r (r + 16) := ⟨by omega, by omega⟩
  have ew1 : w ≠ r + 16 := fun q => hw1 (by rw [q]; exact n16)
  have ew2 : w + 1 ≠ r + 16 := fun q => hw2 (by rw [q]; exact n16)
  have eu1 : u ≠ r + 16 := fun q => hu1 (by rw [q]; exact n16)
  have eu2 : u + 1 ≠ r + 16 := fun q => hu2 (by rw [q]; exact n16)
  have hm := hA.2.1
  intro i
  induction i with
  | zero => intro k f h0 hf; have e0 : k = m := by omega
            subst e0; exact kx f hf
  | succ i ih =>
    intro k f h0 hf
    have hb : ∀ j, hG 13 row z a k j < 1000 := fun j => by have := hG_le (inf := 13) (row := row) (lay := a) (n := z) k j; omega
    refine Ex_iload_n dX2_fewestToHide_18 rfl ?_
    refine Ex_aload_n dX2_fewestToHide_19 rfl ?_
    refine Ex_geti dX2_fewestToHide_20 fX2_26 hU.1 ?_
    refine Ex_top (show _ = nI m by rw [rowI_n eu1]; exact hA.1) ?_
    refine Ex_icmp_geN (by omega) (by omega) (tgt := 106) dX2_fewestToHide_23 (by decide) (fun h23 => ?_) (fun h23 => ?_)
    · omega
    · refine Ex_aload_n dX2_fewestToHide_26 rfl ?_
      refine Ex_geti dX2_fewestToHide_27 fX2_58 hR.1 ?_
      refine Ex_top (show _ = nI z by rw [rowI_n ew1]; exact hz1) ?_
      refine Ex_iconst (v := nI 1) dX2_fewestToHide_30 (by rfl) ?_
      refine Ex_isub dX2_fewestToHide_31 ?_
      refine Ex_istore dX2_fewestToHide_32 (by decide) rfl ?_
      simp only [List.set_cons_zero, List.set_cons_succ]
      refine l2_hd1 d hD hU hR row a z m hz1 hz0 hz hrow hA hw1 hw2 hu1 hu2 k (by omega) _ hb ?_ z f (Nat.le_refl _) (fun j hj => by rw [hIn_n hj]; exact hf j hj)
      intro f2 hf2
      refine Ex_iload dX2_fewestToHide_34 rfl ?_
      refine Ex_if_lt (tgt := 100) dX2_fewestToHide_36 (by decide) (fun h36 => ?_) (fun h36 => ?_)
      · first | refine Ex_iincN (m := 1) dX2_fewestToHide_100 rfl rfl (by decide) rfl ?_ | refine Ex_iinc dX2_fewestToHide_100 rfl rfl (by decide) rfl ?_
        simp only [List.set_cons_zero, List.set_cons_succ]
        refine Ex_goto (tgt := 18) dX2_fewestToHide_103 (by decide) ?_
        refine Ex_drop 4 ?_
        simp only [List.set_cons_zero, List.set_cons_succ]
        exact ih (k + 1) f2 (by omega) hf2
      · exact absurd m1_neg h36
set_option maxRecDepth 100000 in
set_option maxHeartbeats 4000000 in
theorem l2_hd3 {T : TC} {I : MI} {G : MG} {F : FinT} {bb : Nat × Nat} (d : Nat) {r u w : Nat} (hD : RdS T G r) (hU : SfS T G u) (hR : ShS T G w) (row a : Nat → Int32) (z m : Nat) (hz1 : I w 1 = nI z) (hz0 : 0 < z) (hz : z ≤ 24) (hrow : ∀ k, k < z → I (w + 1) k = row k) (hA : SfA I u m a) (hw1 : ¬ PR r w) (hw2 : ¬ PR r (w + 1)) (hu1 : ¬ PR r u) (hu2 : ¬ PR r (u + 1)) (f0 : Nat → Nat) (hb : ∀ j, f0 j < 1000) (f : Nat → Int32) (hf : ∀ j, j ≤ z → f j = nI (f0 j)) (kx : Ex T RX2 cX2_fewestToHide 5 (d + 1) F 116 [some (.ref r), some (.ref w), some (.ref u), some (.int (nI (clM f0 (z - 1)))), some (.int (nI z))] [] (rowI I (r + 16) f) G bb) : ∀ i k, k + 1 + i = z → Ex T RX2 cX2_fewestToHide 5 (d + 1) F 116 [some (.ref r), some (.ref w), some (.ref u), some (.int (nI (clM f0 k))), some (.int (nI (k + 1)))] [] (rowI I (r + 16) f) G bb := by
  have n16 : PR r (r + 16) := ⟨by omega, by omega⟩
  have ew1 : w ≠ r + 16 := fun q => hw1 (by rw [q]; exact n16)
  have ew2 : w + 1 ≠ r + 16 := fun q => hw2 (by rw [q]; exact n16)
  have eu1 : u ≠ r + 16 := fun q => hu1 (by rw [q]; exact n16)
  have eu2 : u + 1 ≠ r + 16 := fun q => hu2 (by rw [q]; exact n16)
  have hm := hA.2.1
  intro i
  induction i with
  | zero => intro k h0; have e0 : k = z - 1 := by omega
            subst e0; rw [show z - 1 + 1 = z by omega]; exact kx
  | succ i ih =>
    intro k h0
    have c1 := clM_le (f := f0) (Nat.le_of_lt (hb 0)) k
    have c2 := hb (k + 1)
    refine Ex_iload dX2_fewestToHide_116 rfl ?_
    refine Ex_aload_n dX2_fewestToHide_118 rfl ?_
    refine Ex_geti dX2_fewestToHide_119 fX2_58 hR.1 ?_
    refine Ex_top (show _ = nI z by rw [rowI_n ew1]; exact hz1) ?_
    refine Ex_icmp_geN (by omega) (by omega) (tgt := 143) dX2_fewestToHide_122 (by decide) (fun h122 => ?_) (fun h122 => ?_)
    · omega
    · refine Ex_iload_n dX2_fewestToHide_125 rfl ?_
      refine Ex_aload_n dX2_fewestToHide_126 rfl ?_
      refine Ex_getr dX2_fewestToHide_127 fX2_20 (rd_o hD) (rd_f hD) ?_
      refine Ex_iload dX2_fewestToHide_130 rfl ?_
      refine Ex_iald dX2_fewestToHide_132 (rd_fI hD) rfl (by rw [rd_fN hD]; omega) (by rw [rd_fN hD]; decide) ?_
      refine Ex_top (show _ = nI (f0 (k + 1)) by rw [rowI_s]; exact hf _ (by omega)) ?_
      refine Ex_min dX2_fewestToHide_133 sX2_64 (Nat.le_of_ble_eq_true rfl) ?_
      refine Ex_top (mnN (by omega) (by omega)) ?_
      refine Ex_istore_n dX2_fewestToHide_136 (by decide) rfl ?_
      simp only [st_n0, st_n1, st_n2, st_n3, List.set_cons_zero, List.set_cons_succ]
      first | refine Ex_iincN (m := 1) dX2_fewestToHide_137 rfl rfl (by decide) rfl ?_ | refine Ex_iinc dX2_fewestToHide_137 rfl rfl (by decide) rfl ?_
      simp only [List.set_cons_zero, List.set_cons_succ]
      refine Ex_goto (tgt := 116) dX2_fewestToHide_140 (by decide) ?_
      exact ih (k + 1) (by omega)
set_option maxRecDepth 100000 in
set_option maxHeartbeats 4000000 in
theorem c2_fewestToHide {T : TC} {I : MI} {G : MG} (d : Nat) {r u w : Nat} (hD : RdS T G r) (hU : SfS T G u) (hR : ShS T G w) (row a : Nat → Int32) (z m : Nat) (hz1 : I w 1 = nI z) (hz0 : 0 < z) (hz : z ≤ 24) (hrow : ∀ k, k < z → I (w + 1) k = row k) (hA : SfA I u m a) (hw1 : ¬ PR r w) (hw2 : ¬ PR r (w + 1)) (hu1 : ¬ PR r u) (hu2 : ¬ PR r (u + 1)) : OkI T mX2_fewestToHide (d + 1) [.ref r, .ref w, .ref u] I G (fun r' I' G' => r' = nI (mnF (hG 99 row z a m) 99 z) ∧ Fr (PR r) I I' ∧ G' = G) := by
  refine Ok_of (own := RX2) (by decide) rfl (cat1 rfl) (Nat.le_of_ble_eq_true rfl) ?_
  show Ex T RX2 cX2_fewestToHide 5 (d + 1) _ 0 [some (.ref r), some (.ref w), some (.ref u), none, none] [] I G (0, 0)
  have n16 : PR r (r + 16) := ⟨by omega, by omega⟩
  have ew1 : w ≠ r + 16 := fun q => hw1 (by rw [q]; exact n16)
  have ew2 : w + 1 ≠ r + 16 := fun q => hw2 (by rw [q]; exact n16)
  have eu1 : u ≠ r + 16 := fun q => hu1 (by rw [q]; exact n16)
  have eu2 : u + 1 ≠ r + 16 := fun q => hu2 (by rw [q]; exact n16)
  have hm := hA.2.1
  refine Ex_aload_n dX2_fewestToHide_0 rfl ?_
  refine Ex_getr dX2_fewestToHide_1 fX2_20 (rd_o hD) (rd_f hD) ?_
  refine Ex_bipush (v := nI 13) dX2_fewestToHide_4 (by rfl) ?_
  refine Ex_S2v dX2_fewestToHide_6 sX2_32  (Nat.le_of_ble_eq_true rfl) (cJ_fill d (rd_fI hD) _ 25 (rd_fN hD) (by omega)) ?_
  rintro _ _ ⟨rfl, rfl⟩
  refine Ex_aload_n dX2_fewestToHide_9 rfl ?_
  refine Ex_getr dX2_fewestToHide_10 fX2_20 (rd_o hD) (rd_f hD) ?_
  refine Ex_iconst (v := nI 0) dX2_fewestToHide_13 (by rfl) ?_
  refine Ex_iconst (v := nI 0) dX2_fewestToHide_14 (by rfl) ?_
  refine Ex_iast dX2_fewestToHide_15 (rd_fI hD) rfl (by rw [rd_fN hD]; omega) (by rw [rd_fN hD]; decide) ?_
  rw [setI_row, rowI_r, rowI_s]
  refine Ex_iconst (v := nI 0) dX2_fewestToHide_16 (by rfl) ?_
  refine Ex_istore_n dX2_fewestToHide_17 (by decide) rfl ?_
  simp only [st_n0, st_n1, st_n2, st_n3, List.set_cons_zero, List.set_cons_succ]
  refine l2_hd2 d hD hU hR row a z m hz1 hz0 hz hrow hA hw1 hw2 hu1 hu2 ?_ m 0 _ (by omega) (fun j hj => ?_)
  · intro f2 hf2
    refine Ex_iload_n dX2_fewestToHide_18 rfl ?_
    refine Ex_aload_n dX2_fewestToHide_19 rfl ?_
    refine Ex_geti dX2_fewestToHide_20 fX2_26 hU.1 ?_
    refine Ex_top (show _ = nI m by rw [rowI_n eu1]; exact hA.1) ?_
    refine Ex_icmp_geN (by omega) (by omega) (tgt := 106) dX2_fewestToHide_23 (by decide) (fun h23 => ?_) (fun h23 => ?_)
    · refine Ex_aload_n dX2_fewestToHide_106 rfl ?_
      refine Ex_getr dX2_fewestToHide_107 fX2_20 (rd_o hD) (rd_f hD) ?_
      refine Ex_iconst (v := nI 0) dX2_fewestToHide_110 (by rfl) ?_
      refine Ex_iald dX2_fewestToHide_111 (rd_fI hD) rfl (by rw [rd_fN hD]; omega) (by rw [rd_fN hD]; decide) ?_
      refine Ex_top (show _ = nI (clM (hG 13 row z a m) 0) by rw [rowI_s]; exact hf2 0 (by omega)) ?_
      refine Ex_istore_n dX2_fewestToHide_112 (by decide) rfl ?_
      simp only [st_n0, st_n1, st_n2, st_n3, List.set_cons_zero, List.set_cons_succ]
      refine Ex_iconst (v := nI 1) dX2_fewestToHide_113 (by rfl) ?_
      refine Ex_istore dX2_fewestToHide_114 (by decide) rfl ?_
      simp only [List.set_cons_zero, List.set_cons_succ]
      refine l2_hd3 d hD hU hR row a z m hz1 hz0 hz hrow hA hw1 hw2 hu1 hu2 (hG 13 row z a m) (fun j => by have := hG_le (inf := 13) (row := row) (lay := a) (n := z) m j; omega) f2 hf2 ?_ (z - 1) 0 (by omega)
      refine Ex_iload dX2_fewestToHide_116 rfl ?_
      refine Ex_aload_n dX2_fewestToHide_118 rfl ?_
      refine Ex_geti dX2_fewestToHide_119 fX2_58 hR.1 ?_
      refine Ex_top (show _ = nI z by rw [rowI_n ew1]; exact hz1) ?_
      refine Ex_icmp_geN (by omega) (by omega) (tgt := 143) dX2_fewestToHide_122 (by decide) (fun h122 => ?_) (fun h122 => ?_)
      · refine Ex_iload_n dX2_fewestToHide_143 rfl ?_
        refine Ex_iret dX2_fewestToHide_144 (by first | rfl | exact narrow_bI) ?_
        exact ⟨_, rfl, by rw [(hid_eq hm (z - 1)).1, show z - 1 + 1 = z by omega], Fr.row n16, rfl⟩
      · omega
    · omega
  · show _ = nI (if j = 0 then 0 else 13)
    by_cases e : j = 0
    · rw [if_pos e, e, upd_s]
    · rw [if_neg e, upd_n e]; exact if_pos (by omega)
/-! the class: differences -/
theorem sbI {a b : Int32} (h1 : -2147483648 ≤ a.toInt - b.toInt) (h2 : a.toInt - b.toInt < 2147483648) : (a - b).toInt = a.toInt - b.toInt := by
  rw [Int32.toInt_sub, Int.bmod_eq_of_le (by omega) (by omega)]
theorem abs_wA {v : Int32} {mm : Nat} (hm : mm ≤ 12) (hv : ¬ v = cNONE) (hb : -99999 ≤ v.toInt ∧ v.toInt ≤ 99999) : (if 0 ≤ nI mm - v then nI mm - v else 0 - (nI mm - v)) = nI (wA v (nI mm)) := by
  have em : (nI mm).toInt = mm := nI_toInt (by omega)
  have e1 : (nI mm - v).toInt = mm - v.toInt := by rw [sbI (by omega) (by omega), em]
  unfold wA
  rw [if_neg hv, em]
  by_cases h : 0 ≤ nI mm - v
  · rw [if_pos h, i_eq, nI_toInt (by omega), e1]
    rw [i_le, e1, iz_0] at h
    omega
  · rw [if_neg h, i_eq, nI_toInt (by omega)]
    rw [i_le, e1, iz_0] at h
    rw [sbI (by rw [iz_0, e1]; omega) (by rw [iz_0, e1]; omega), iz_0, e1]
    omega
def PQ (b N q : Nat) : Nat → Prop := fun x => PH b N x ∨ x = q
theorem Hl.q {T : TC} {I I' : MI} {G : MG} {b X N q : Nat} {g : Nat → Int32} (h : Hl T I G b X N g) (hF : ∀ x, x ≠ q → I' x = I x) (hq : ¬ PB b q) (hN : q < N) : Hl T I' G b X N g :=
  ⟨h.1, h.2.1, h.2.2.1.fr (P := fun x => x = q) (fun x hx => hF x hx) (fun x e q => hq (e ▸ q)) h.n8, h.2.2.2.1.fr (P := fun x => x = q) (fun x hx => hF x hx) (fun x e => by omega), h.2.2.2.2⟩
def BdR (row : Nat → Int32) (z : Nat) : Prop := ∀ k, k < z → row k = cNONE ∨ (-99999 ≤ (row k).toInt ∧ (row k).toInt ≤ 99999)
set_option maxRecDepth 100000 in
set_option maxHeartbeats 4000000 in
theorem l1_df1 {T : TC} {I : MI} {G : MG} {F : FinT} {bb : Nat × Nat} (d : Nat) {b X N w q : Nat} {g : Nat → Int32} (hW : WfG g) (hR : ShS T G w) (hq : Is T G q 10) (hqN : gN G q = 8) (row : Nat → Int32) (z n : Nat) (hn : nS g = n) (hz1 : I w 1 = nI z) (hz : z ≤ 24) (hrow : ∀ k, k < z → I (w + 1) k = row k) (hbd : BdR row z) (hw1 : ¬ PQ b N q w) (hw2 : ¬ PQ b N q (w + 1)) (hq1 : ¬ PH b N q) (hq2 : q < N) (hn8 : n ≤ 8) (k : Nat) (hk : k < z) (hnn : ¬ row k = cNONE) (J : MI) (hJ : Hl T J G b X N (daysG g k)) (hFJ : Fr (PQ b N q) I J) (kx : ∀ K, (∀ s, s < n → K q s = nI (wD g row s (k + 1))) → (∀ x, x ≠ q → K x = J x) → Ex T RX1 cX1_addDifferences 5 (d + 5) F 26 [some (.ref b), some (.ref w), some (.ref q), some (.int (nI k)), some (.int (nI n))] [] K G bb) : ∀ i s0 K, s0 + i = n → (∀ s, s < s0 → K q s = nI (wD g row s (k + 1))) → (∀ s, s0 ≤ s → s < n → K q s = nI (wD g row s k)) → (∀ x, x ≠ q → K x = J x) → Ex T RX1 cX1_addDifferences 5 (d + 5) F 26 [some (.ref b), some (.ref w), some (.ref q), some (.int (nI k)), some (.int (nI s0))] [] K G bb := by
  intro i
  induction i with
  | zero => intro s0 K h0 h1 h2 h3; have e0 : s0 = n := by omega
            subst e0; exact kx K h1 h3
  | succ i ih =>
    intro s0 K h0 h1 h2 h3
    have hK := hJ.q h3 (fun w => hq1 (PBH w)) hq2
    have hS := hK.1
    have hnk : nS (daysG g k) = n := by rw [nS_days hW, hn]
    have hsf := hK.sf (s := s0) (by omega)
    have hl := hK.ly (s := s0) (by omega)
    have ew : K (w + 1) = I (w + 1) := by rw [h3 _ (fun e => hw2 (Or.inr e))]; exact hFJ _ hw2
    have hb := (hbd k hk).resolve_left hnn
    refine Ex_iload dX1_addDifferences_26 rfl ?_
    refine Ex_aload_n dX1_addDifferences_28 rfl ?_
    refine Ex_geti dX1_addDifferences_29 fX1_36 (hl_o hS) ?_
    refine Ex_top (show _ = nI n by rw [hK.n, hnk]) ?_
    refine Ex_icmp_geN (by omega) (by omega) (tgt := 68) dX1_addDifferences_32 (by decide) (fun h32 => ?_) (fun h32 => ?_)
    · omega
    · refine Ex_aload_n dX1_addDifferences_35 rfl ?_
      refine Ex_iload dX1_addDifferences_36 rfl ?_
      refine Ex_dup2 dX1_addDifferences_38 rfl rfl ?_
      refine Ex_iald dX1_addDifferences_39 hq rfl (by rw [hqN]; omega) (by rw [hqN]; decide) ?_
      refine Ex_top (h2 s0 (by omega) (by omega)) ?_
      refine Ex_aload_n dX1_addDifferences_40 rfl ?_
      refine Ex_getr dX1_addDifferences_41 fX1_11 (hl_o hS) (hl_s hS) ?_
      refine Ex_iload dX1_addDifferences_44 rfl ?_
      refine Ex_aaldSu dX1_addDifferences_46 (hl_sI hS) rfl (by rw [hl_sN hS]; omega) (by rw [hl_sN hS]; decide) (hl_k hS s0 (by omega)) ?_
      refine Ex_geti dX1_addDifferences_47 fX1_97 (hl_S hS s0 (by omega)).1 ?_
      refine Ex_top ((hsf.1 2 (by omega)).trans hl.1) ?_
      refine Ex_aload_n dX1_addDifferences_50 rfl ?_
      refine Ex_getr dX1_addDifferences_51 fX1_145 hR.1 hR.2.1 ?_
      refine Ex_iload_n dX1_addDifferences_54 rfl ?_
      refine Ex_iald dX1_addDifferences_55 hR.2.2.1 rfl (by rw [hR.2.2.2]; omega) (by rw [hR.2.2.2]; decide) ?_
      refine Ex_top (show _ = row k by rw [ew]; exact hrow k hk) ?_
      refine Ex_isub dX1_addDifferences_56 ?_
      refine Ex_abs dX1_addDifferences_57 sX1_148 (Nat.le_of_ble_eq_true rfl) ?_
      refine Ex_top (abs_wA hl.2.1 hnn hb) ?_
      first | with_reducible refine Ex_iaddN dX1_addDifferences_60 ?_ | refine Ex_iadd dX1_addDifferences_60 ?_
      refine Ex_iast dX1_addDifferences_61 hq rfl (by rw [hqN]; omega) (by rw [hqN]; decide) ?_
      first | refine Ex_iincN (m := 1) dX1_addDifferences_62 rfl rfl (by decide) rfl ?_ | refine Ex_iinc dX1_addDifferences_62 rfl rfl (by decide) rfl ?_
      simp only [List.set_cons_zero, List.set_cons_succ]
      refine Ex_goto (tgt := 26) dX1_addDifferences_65 (by decide) ?_
      refine ih (s0 + 1) _ (by omega) (fun s hs => ?_) (fun s hs1 hs2 => ?_) (fun x hx => by rw [setI_a hx]; exact h3 x hx)
      · by_cases e : s = s0
        · subst e
          rw [setI_s]
          show _ = nI (wD g row s k + wA (row k) (daysG g k (8 + 17 * s + 2)))
          rw [hl.1]
        · rw [setI_n (by omega)]; exact h1 s (by omega)
      · rw [setI_n (by omega)]; exact h2 s (by omega) hs2
set_option maxRecDepth 100000 in
set_option maxHeartbeats 4000000 in
theorem l1_df2 {T : TC} {I : MI} {G : MG} {F : FinT} {bb : Nat × Nat} (d : Nat) {b X N w q : Nat} {g : Nat → Int32} (hW : WfG g) (hR : ShS T G w) (hq : Is T G q 10) (hqN : gN G q = 8) (row : Nat → Int32) (z n : Nat) (hn : nS g = n) (hz1 : I w 1 = nI z) (hz : z ≤ 24) (hrow : ∀ k, k < z → I (w + 1) k = row k) (hbd : BdR row z) (hw1 : ¬ PQ b N q w) (hw2 : ¬ PQ b N q (w + 1)) (hq1 : ¬ PH b N q) (hq2 : q < N) (hn8 : n ≤ 8) (kx : ∀ J, (∀ s, s < n → J q s = nI (wD g row s z)) → Fr (PQ b N q) I J → Ex T RX1 cX1_addDifferences 5 (d + 5) F 7 [some (.ref b), some (.ref w), some (.ref q), some (.int (nI z)), none] [] J G bb) : ∀ i k J, k + i = z → Hl T J G b X N (daysG g k) → (∀ s, s < n → J q s = nI (wD g row s k)) → Fr (PQ b N q) I J → Ex T RX1 cX1_addDifferences 5 (d + 5) F 7 [some (.ref b), some (.ref w), some (.ref q), some (.int (nI k)), none] [] J G bb := by
  intro i
  induction i with
  | zero => intro k J h0 h1 h2 h3; have e0 : k = z := by omega
            subst e0; exact kx J h2 h3
  | succ i ih =>
    intro k J h0 h1 h2 h3
    have hS := h1.1
    have hnk : nS (daysG g k) = n := by rw [nS_days hW, hn]
    have ew1 : J (w + 1) = I (w + 1) := h3 _ hw2
    have ew0 : J w = I w := h3 _ hw1
    refine Ex_iload_n dX1_addDifferences_7 rfl ?_
    refine Ex_aload_n dX1_addDifferences_8 rfl ?_
    refine Ex_geti dX1_addDifferences_9 fX1_138 hR.1 ?_
    refine Ex_top (show _ = nI z by rw [ew0]; exact hz1) ?_
    refine Ex_icmp_geN (by omega) (by omega) (tgt := 78) dX1_addDifferences_12 (by decide) (fun h12 => ?_) (fun h12 => ?_)
    · omega
    · refine Ex_aload_n dX1_addDifferences_15 rfl ?_
      refine Ex_iload_n dX1_addDifferences_16 rfl ?_
      refine Ex_V1p dX1_addDifferences_17 sX1_141 hR.1 (Nat.le_of_ble_eq_true rfl) (c3_isNumber (d + 4) hR k (by omega)) ?_
      refine Ex_top (show _ = bI (¬ row k = cNONE) by rw [ew1, hrow k (by omega)]) ?_
      refine Ex_if_eqB (tgt := 68) dX1_addDifferences_20 (by decide) (fun h20 => ?_) (fun h20 => ?_)
      · refine Ex_aload_n dX1_addDifferences_68 rfl ?_
        refine Ex_V0v dX1_addDifferences_69 sX1_72 (hl_o hS) (Nat.le_of_ble_eq_true rfl) (c1_passDay d h1) ?_
        rintro J2 _ ⟨hj, hf, rfl⟩
        first | refine Ex_iincN (m := 1) dX1_addDifferences_72 rfl rfl (by decide) rfl ?_ | refine Ex_iinc dX1_addDifferences_72 rfl rfl (by decide) rfl ?_
        simp only [List.set_cons_zero, List.set_cons_succ]
        refine Ex_goto (tgt := 7) dX1_addDifferences_75 (by decide) ?_
        refine ih (k + 1) J2 (by omega) hj (fun s hs => ?_) (h3.trans (hf.mono (fun x q => Or.inl q)))
        rw [hf q hq1, h2 s hs]
        show _ = nI (wD g row s k + wA (row k) (daysG g k (8 + 17 * s + 2)))
        unfold wA
        rw [if_pos (Decidable.not_not.mp h20), Nat.add_zero]
      · refine Ex_iconst (v := nI 0) dX1_addDifferences_23 (by rfl) ?_
        refine Ex_istore dX1_addDifferences_24 (by decide) rfl ?_
        simp only [List.set_cons_zero, List.set_cons_succ]
        refine l1_df1 d hW hR hq hqN row z n hn hz1 hz hrow hbd hw1 hw2 hq1 hq2 hn8 k (by omega) h20 J h1 h3 ?_ n 0 J (by omega) (fun s hs => absurd hs (by omega)) (fun s _ hs => h2 s hs) (fun _ _ => rfl)
        intro K k1 k2
        have hK := h1.q k2 (fun w => hq1 (PBH w)) hq2
        refine Ex_iload dX1_addDifferences_26 rfl ?_
        refine Ex_aload_n dX1_addDifferences_28 rfl ?_
        refine Ex_geti dX1_addDifferences_29 fX1_36 (hl_o hS) ?_
        refine Ex_top (show _ = nI n by rw [hK.n, hnk]) ?_
        refine Ex_icmp_geN (by omega) (by omega) (tgt := 68) dX1_addDifferences_32 (by decide) (fun h32 => ?_) (fun h32 => ?_)
        · refine Ex_aload_n dX1_addDifferences_68 rfl ?_
          refine Ex_V0v dX1_addDifferences_69 sX1_72 (hl_o hS) (Nat.le_of_ble_eq_true rfl) (c1_passDay d hK) ?_
          rintro J2 _ ⟨hj, hf, rfl⟩
          first | refine Ex_iincN (m := 1) dX1_addDifferences_72 rfl rfl (by decide) rfl ?_ | refine Ex_iinc dX1_addDifferences_72 rfl rfl (by decide) rfl ?_
          simp only [List.set_cons_zero, List.set_cons_succ]
          refine Ex_goto (tgt := 7) dX1_addDifferences_75 (by decide) ?_
          refine Ex_drop 4 ?_
          simp only [List.set_cons_zero, List.set_cons_succ]
          refine ih (k + 1) J2 (by omega) hj (fun s hs => by rw [hf q hq1]; exact k1 s hs) ((h3.trans (fun x hx => k2 x (fun e => hx (Or.inr e)))).trans (hf.mono (fun x q => Or.inl q)))
        · omega
set_option maxRecDepth 100000 in
set_option maxHeartbeats 4000000 in
theorem c1_addDifferences {T : TC} {I : MI} {G : MG} (d : Nat) {b X N w q : Nat} {g : Nat → Int32} (hW : WfG g) (hR : ShS T G w) (hq : Is T G q 10) (hqN : gN G q = 8) (row : Nat → Int32) (z n : Nat) (hn : nS g = n) (hz1 : I w 1 = nI z) (hz : z ≤ 24) (hrow : ∀ k, k < z → I (w + 1) k = row k) (hbd : BdR row z) (hw1 : ¬ PQ b N q w) (hw2 : ¬ PQ b N q (w + 1)) (hq1 : ¬ PH b N q) (hq2 : q < N) (hH : Hl T I G b X N g)  : OkV T mX1_addDifferences (d + 5) [.ref b, .ref w, .ref q] I G (fun I' G' => (∀ s, s < n → I' q s = nI (wD g row s z)) ∧ Fr (PQ b N q) I I' ∧ G' = G) := by
  refine Ok_of (own := RX1) (by decide) rfl (cat1 rfl) (Nat.le_of_ble_eq_true rfl) ?_
  show Ex T RX1 cX1_addDifferences 5 (d + 5) _ 0 [some (.ref b), some (.ref w), some (.ref q), none, none] [] I G (0, 0)
  refine Ex_aload_n dX1_addDifferences_0 rfl ?_
  refine Ex_iconst (v := nI 0) dX1_addDifferences_1 (by rfl) ?_
  refine Ex_S2v dX1_addDifferences_2 sX1_132  (Nat.le_of_ble_eq_true rfl) (cJ_fill (d + 4) hq _ 8 hqN (by omega)) ?_
  rintro _ _ ⟨rfl, rfl⟩
  refine Ex_iconst (v := nI 0) dX1_addDifferences_5 (by rfl) ?_
  refine Ex_istore_n dX1_addDifferences_6 (by decide) rfl ?_
  simp only [st_n0, st_n1, st_n2, st_n3, List.set_cons_zero, List.set_cons_succ]
  have hn8 := hH.n8
  rw [hn] at hn8
  have hS := hH.1
  refine l1_df2 d hW hR hq hqN row z n hn hz1 hz hrow hbd hw1 hw2 hq1 hq2 hn8 ?_ z 0 _ (by omega) (hH.q (fun x hx => rowI_n hx) (fun w => hq1 (PBH w)) hq2) (fun s hs => by rw [rowI_s]; exact if_pos (by omega)) (Fr.row (Or.inr rfl))
  intro J j1 j2
  refine Ex_iload_n dX1_addDifferences_7 rfl ?_
  refine Ex_aload_n dX1_addDifferences_8 rfl ?_
  refine Ex_geti dX1_addDifferences_9 fX1_138 hR.1 ?_
  refine Ex_top (show _ = nI z by rw [j2 w hw1]; exact hz1) ?_
  refine Ex_icmp_geN (by omega) (by omega) (tgt := 78) dX1_addDifferences_12 (by decide) (fun h12 => ?_) (fun h12 => ?_)
  · refine Ex_vret dX1_addDifferences_78 ?_
    exact ⟨rfl, j1, j2, rfl⟩
  · omega
