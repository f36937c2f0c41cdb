/-! the class: readings -/
def RdS (T : TC) (G : MG) (r : Nat) : Prop := Is T G r 2 ∧ (gR G r 0 = some (r + 1) ∧ Is T G (r + 1) 18 ∧ gN G (r + 1) = 13) ∧ (∀ i, i < 13 → gR G (r + 1) i = some (r + 2 + i) ∧ Is T G (r + 2 + i) 10 ∧ gN G (r + 2 + i) = 13) ∧ (gR G r 1 = some (r + 15) ∧ Is T G (r + 15) 10 ∧ gN G (r + 15) = 12) ∧ (gR G r 2 = some (r + 16) ∧ Is T G (r + 16) 10 ∧ gN G (r + 16) = 25) ∧ (gR G r 3 = some (r + 17) ∧ Is T G (r + 17) 10 ∧ gN G (r + 17) = 8)
section RDS
variable {T : TC} {G : MG} {r : Nat}
theorem rd_o (h : RdS T G r) : Is T G r 2 := h.1
theorem rd_l (h : RdS T G r) : gR G r 0 = some (r + 1) := h.2.1.1
theorem rd_lI (h : RdS T G r) : Is T G (r + 1) 18 := h.2.1.2.1
theorem rd_lN (h : RdS T G r) : gN G (r + 1) = 13 := h.2.1.2.2
theorem rd_k (h : RdS T G r) (i : Nat) (hi : i < 13) : gR G (r + 1) i = some (r + 2 + i) := (h.2.2.1 i hi).1
theorem rd_kI (h : RdS T G r) (i : Nat) (hi : i < 13) : Is T G (r + 2 + i) 10 := (h.2.2.1 i hi).2.1
theorem rd_kN (h : RdS T G r) (i : Nat) (hi : i < 13) : gN G (r + 2 + i) = 13 := (h.2.2.1 i hi).2.2
theorem rd_c (h : RdS T G r) : gR G r 1 = some (r + 15) := h.2.2.2.1.1
theorem rd_cI (h : RdS T G r) : Is T G (r + 15) 10 := h.2.2.2.1.2.1
theorem rd_cN (h : RdS T G r) : gN G (r + 15) = 12 := h.2.2.2.1.2.2
theorem rd_f (h : RdS T G r) : gR G r 2 = some (r + 16) := h.2.2.2.2.1.1
theorem rd_fI (h : RdS T G r) : Is T G (r + 16) 10 := h.2.2.2.2.1.2.1
theorem rd_fN (h : RdS T G r) : gN G (r + 16) = 25 := h.2.2.2.2.1.2.2
theorem rd_d (h : RdS T G r) : gR G r 3 = some (r + 17) := h.2.2.2.2.2.1
theorem rd_dI (h : RdS T G r) : Is T G (r + 17) 10 := h.2.2.2.2.2.2.1
theorem rd_dN (h : RdS T G r) : gN G (r + 17) = 8 := h.2.2.2.2.2.2.2
end RDS
def PR (r : Nat) : Nat → Prop := fun x => r + 2 ≤ x ∧ x < r + 18
/-- a surface's layers as they are read -/
def SfA (I : MI) (u m : Nat) (a : Nat → Int32) : Prop := I u 2 = nI m ∧ m ≤ 12 ∧ ∀ k, k < m → I (u + 1) k = a k
theorem SfA.fr {I J : MI} {u m : Nat} {a : Nat → Int32} {P : Nat → Prop} (h : SfA I u m a) (hF : Fr P I J) (h1 : ¬ P u) (h2 : ¬ P (u + 1)) : SfA J u m a := ⟨by rw [hF u h1]; exact h.1, h.2.1, fun k hk => by rw [hF (u + 1) h2]; exact h.2.2 k hk⟩
def Rr (J : MI) (r : Nat) (a b : Nat → Int32) (m n i : Nat) : Prop := ∀ i' j', i ≤ i' → i' ≤ m → j' ≤ n → J (r + 2 + i') j' = nI (lcR a b m n (m - i') (n - j'))
theorem mxN {p q : Nat} (hp : p < 2 ^ 31) (hq : q < 2 ^ 31) : (if nI p < nI q then nI q else nI p) = nI (Nat.max p q) := by
  by_cases h : p < q
  · rw [if_pos (nI_lt h hq)]; congr 1; exact (Nat.max_eq_right (by omega)).symm
  · rw [if_neg (nI_nlt (by omega) hp)]; congr 1; exact (Nat.max_eq_left (by omega)).symm
theorem mnN {p q : Nat} (hp : p < 2 ^ 31) (hq : q < 2 ^ 31) : (if nI q < nI p then nI q else nI p) = nI (Nat.min p q) := by
  by_cases h : q < p
  · rw [if_pos (nI_lt h hp)]; congr 1; exact (Nat.min_eq_right (by omega)).symm
  · rw [if_neg (nI_nlt (by omega) hq)]; congr 1; exact (Nat.min_eq_left (by omega)).symm
theorem m1_neg : nI 0 - nI 1 < 0 := by decide
set_option maxRecDepth 100000 in
set_option maxHeartbeats 4000000 in
theorem l2_cl1 {T : TC} {I : MI} {G : MG} {F : FinT} {bb : Nat × Nat} (d : Nat) {r u v : Nat} (hS : RdS T G r) (hU : SfS T G u) (hV : SfS T G v) (a b : Nat → Int32) (m n : Nat) (hA : SfA I u m a) (hB : SfA I v n b) (hu1 : ¬ PR r u) (hu2 : ¬ PR r (u + 1)) (hv1 : ¬ PR r v) (hv2 : ¬ PR r (v + 1)) (i : Nat) (hi : i < m) (kx : ∀ J, Rr J r a b m n i → Fr (PR r) I J → Ex T RX2 cX2_commonLength 5 (d + 1) F 44 [some (.ref r), some (.ref u), some (.ref v), some (.int (nI i)), some (.int (nI 0 - nI 1))] [] J G bb) : ∀ q J, q ≤ n → Rr J r a b m n (i + 1) → (∀ j', q ≤ j' → j' ≤ n → J (r + 2 + i) j' = nI (lcR a b m n (m - i) (n - j'))) → Fr (PR r) I J → Ex T RX2 cX2_commonLength 5 (d + 1) F 44 [some (.ref r), some (.ref u), some (.ref v), some (.int (nI i)), some (.int (nI q - nI 1))] [] J G bb := by
  have hm := hA.2.1
  have hn := hB.2.1
  intro q
  induction q with
  | zero =>
    intro J h0 h1 h2 h3
    refine kx J (fun i' j' g1 g2 g3 => ?_) h3
    by_cases e : i' = i
    · subst e; exact h2 j' (by omega) g3
    · exact h1 i' j' (by omega) g2 g3
  | succ q ih =>
    intro J h0 h1 h2 h3
    have e1 : nI (q + 1) - nI 1 = nI q := pk_sub (by omega)
    rw [e1]
    have hA' := hA.fr h3 hu1 hu2
    have hB' := hB.fr h3 hv1 hv2
    have er := lc_rec (a := a) (b := b) (m := m) (n := n) hi (show q < n by omega)
    have l1 := lc_le (a := a) (b := b) (m := m) (n := n) (m - (i + 1)) (n - q)
    have l2 := lc_le (a := a) (b := b) (m := m) (n := n) (m - i) (n - (q + 1))
    refine Ex_iload dX2_commonLength_44 rfl ?_
    refine Ex_if_lt (tgt := 123) dX2_commonLength_46 (by decide) (fun h46 => ?_) (fun h46 => ?_)
    · exact absurd h46 (nI_pos (by omega))
    · refine Ex_aload_n dX2_commonLength_49 rfl ?_
      refine Ex_getr dX2_commonLength_50 fX2_11 (rd_o hS) (rd_l hS) ?_
      refine Ex_iload_n dX2_commonLength_53 rfl ?_
      refine Ex_aaldI dX2_commonLength_54 (rd_lI hS) rfl (by rw [rd_lN hS]; omega) (by rw [rd_lN hS]; decide) (rd_k hS (i) (by omega)) ?_
      refine Ex_iload dX2_commonLength_55 rfl ?_
      refine Ex_aload_n dX2_commonLength_57 rfl ?_
      refine Ex_getr dX2_commonLength_58 fX2_38 hU.1 hU.2.1 ?_
      refine Ex_iload_n dX2_commonLength_61 rfl ?_
      refine Ex_iald dX2_commonLength_62 hU.2.2.1 rfl (by rw [hU.2.2.2]; omega) (by rw [hU.2.2.2]; decide) ?_
      refine Ex_top (hA'.2.2 i hi) ?_
      refine Ex_aload_n dX2_commonLength_63 rfl ?_
      refine Ex_getr dX2_commonLength_64 fX2_38 hV.1 hV.2.1 ?_
      refine Ex_iload dX2_commonLength_67 rfl ?_
      refine Ex_iald dX2_commonLength_69 hV.2.2.1 rfl (by rw [hV.2.2.2]; omega) (by rw [hV.2.2.2]; decide) ?_
      refine Ex_top (hB'.2.2 q (by omega)) ?_
      refine Ex_icmp_ne (tgt := 91) dX2_commonLength_70 (by decide) (fun h70 => ?_) (fun h70 => ?_)
      · refine Ex_aload_n dX2_commonLength_91 rfl ?_
        refine Ex_getr dX2_commonLength_92 fX2_11 (rd_o hS) (rd_l hS) ?_
        refine Ex_iload_n dX2_commonLength_95 rfl ?_
        refine Ex_iconst (v := nI 1) dX2_commonLength_96 (by rfl) ?_
        first | with_reducible refine Ex_iaddN dX2_commonLength_97 ?_ | refine Ex_iadd dX2_commonLength_97 ?_
        refine Ex_aaldI dX2_commonLength_98 (rd_lI hS) rfl (by rw [rd_lN hS]; omega) (by rw [rd_lN hS]; decide) (rd_k hS (i + 1) (by omega)) ?_
        refine Ex_iload dX2_commonLength_99 rfl ?_
        refine Ex_iald dX2_commonLength_101 (rd_kI hS (i + 1) (by omega)) rfl (by rw [rd_kN hS (i + 1) (by omega)]; omega) (by rw [rd_kN hS (i + 1) (by omega)]; decide) ?_
        refine Ex_top (h1 (i + 1) q (by omega) (by omega) (by omega)) ?_
        refine Ex_aload_n dX2_commonLength_102 rfl ?_
        refine Ex_getr dX2_commonLength_103 fX2_11 (rd_o hS) (rd_l hS) ?_
        refine Ex_iload_n dX2_commonLength_106 rfl ?_
        refine Ex_aaldI dX2_commonLength_107 (rd_lI hS) rfl (by rw [rd_lN hS]; omega) (by rw [rd_lN hS]; decide) (rd_k hS (i) (by omega)) ?_
        refine Ex_iload dX2_commonLength_108 rfl ?_
        refine Ex_iconst (v := nI 1) dX2_commonLength_110 (by rfl) ?_
        first | with_reducible refine Ex_iaddN dX2_commonLength_111 ?_ | refine Ex_iadd dX2_commonLength_111 ?_
        refine Ex_iald dX2_commonLength_112 (rd_kI hS (i) (by omega)) rfl (by rw [rd_kN hS (i) (by omega)]; omega) (by rw [rd_kN hS (i) (by omega)]; decide) ?_
        refine Ex_top (h2 (q + 1) (by omega) (by omega)) ?_
        refine Ex_max dX2_commonLength_113 sX2_41 (Nat.le_of_ble_eq_true rfl) ?_
        refine Ex_top (mxN (by omega) (by omega)) ?_
        refine Ex_iast dX2_commonLength_116 (rd_kI hS (i) (by omega)) rfl (by rw [rd_kN hS (i) (by omega)]; omega) (by rw [rd_kN hS (i) (by omega)]; decide) ?_
        refine Ex_iinc (v := nI q - nI 1) dX2_commonLength_117 rfl (nI_dec q) (by decide) rfl ?_
        simp only [List.set_cons_zero, List.set_cons_succ]
        refine Ex_goto (tgt := 44) dX2_commonLength_120 (by decide) ?_
        rw [if_neg h70] at er
        refine ih _ (by omega) (fun i' j' g1 g2 g3 => ?_) (fun j' g1 g2 => ?_) (h3.si ⟨by omega, by omega⟩)
        · rw [setI_a (by omega)]; exact h1 i' j' g1 g2 g3
        · by_cases e : j' = q
          · subst e; rw [setI_s, er]
          · rw [setI_n (by omega)]; exact h2 j' (by omega) g2
      · refine Ex_iconst (v := nI 1) dX2_commonLength_73 (by rfl) ?_
        refine Ex_aload_n dX2_commonLength_74 rfl ?_
        refine Ex_getr dX2_commonLength_75 fX2_11 (rd_o hS) (rd_l hS) ?_
        refine Ex_iload_n dX2_commonLength_78 rfl ?_
        refine Ex_iconst (v := nI 1) dX2_commonLength_79 (by rfl) ?_
        first | with_reducible refine Ex_iaddN dX2_commonLength_80 ?_ | refine Ex_iadd dX2_commonLength_80 ?_
        refine Ex_aaldI dX2_commonLength_81 (rd_lI hS) rfl (by rw [rd_lN hS]; omega) (by rw [rd_lN hS]; decide) (rd_k hS (i + 1) (by omega)) ?_
        refine Ex_iload dX2_commonLength_82 rfl ?_
        refine Ex_iconst (v := nI 1) dX2_commonLength_84 (by rfl) ?_
        first | with_reducible refine Ex_iaddN dX2_commonLength_85 ?_ | refine Ex_iadd dX2_commonLength_85 ?_
        refine Ex_iald dX2_commonLength_86 (rd_kI hS (i + 1) (by omega)) rfl (by rw [rd_kN hS (i + 1) (by omega)]; omega) (by rw [rd_kN hS (i + 1) (by omega)]; decide) ?_
        refine Ex_top (h1 (i + 1) (q + 1) (by omega) (by omega) (by omega)) ?_
        first | with_reducible refine Ex_iaddN dX2_commonLength_87 ?_ | refine Ex_iadd dX2_commonLength_87 ?_
        refine Ex_goto (tgt := 116) dX2_commonLength_88 (by decide) ?_
        refine Ex_iast dX2_commonLength_116 (rd_kI hS (i) (by omega)) rfl (by rw [rd_kN hS (i) (by omega)]; omega) (by rw [rd_kN hS (i) (by omega)]; decide) ?_
        refine Ex_iinc (v := nI q - nI 1) dX2_commonLength_117 rfl (nI_dec q) (by decide) rfl ?_
        simp only [List.set_cons_zero, List.set_cons_succ]
        refine Ex_goto (tgt := 44) dX2_commonLength_120 (by decide) ?_
        rw [if_pos h70] at er
        refine ih _ (by omega) (fun i' j' g1 g2 g3 => ?_) (fun j' g1 g2 => ?_) (h3.si ⟨by omega, by omega⟩)
        · rw [setI_a (by omega)]; exact h1 i' j' g1 g2 g3
        · by_cases e : j' = q
          · subst e; rw [setI_s, er]
          · rw [setI_n (by omega)]; exact h2 j' (by omega) g2
set_option maxRecDepth 100000 in
set_option maxHeartbeats 4000000 in
theorem l2_cl2 {T : TC} {I : MI} {G : MG} {F : FinT} {bb : Nat × Nat} (d : Nat) {r u v : Nat} (hS : RdS T G r) (hU : SfS T G u) (hV : SfS T G v) (a b : Nat → Int32) (m n : Nat) (hA : SfA I u m a) (hB : SfA I v n b) (hu1 : ¬ PR r u) (hu2 : ¬ PR r (u + 1)) (hv1 : ¬ PR r v) (hv2 : ¬ PR r (v + 1)) (kx : ∀ J, Rr J r a b m n 0 → Fr (PR r) I J → Ex T RX2 cX2_commonLength 5 (d + 1) F 20 [some (.ref r), some (.ref u), some (.ref v), some (.int (nI 0 - nI 1)), none] [] J G bb) : ∀ k J, k ≤ m → Rr J r a b m n k → Fr (PR r) I J → Ex T RX2 cX2_commonLength 5 (d + 1) F 20 [some (.ref r), some (.ref u), some (.ref v), some (.int (nI k - nI 1)), none] [] J G bb := by
  have hm := hA.2.1
  have hn := hB.2.1
  intro k
  induction k with
  | zero => intro J h0 h1 h2; exact kx J h1 h2
  | succ k ih =>
    intro J h0 h1 h3
    have e1 : nI (k + 1) - nI 1 = nI k := pk_sub (by omega)
    rw [e1]
    have hB' := hB.fr h3 hv1 hv2
    refine Ex_iload_n dX2_commonLength_20 rfl ?_
    refine Ex_if_lt (tgt := 129) dX2_commonLength_21 (by decide) (fun h21 => ?_) (fun h21 => ?_)
    · exact absurd h21 (nI_pos (by omega))
    · refine Ex_aload_n dX2_commonLength_24 rfl ?_
      refine Ex_getr dX2_commonLength_25 fX2_11 (rd_o hS) (rd_l hS) ?_
      refine Ex_iload_n dX2_commonLength_28 rfl ?_
      refine Ex_aaldI dX2_commonLength_29 (rd_lI hS) rfl (by rw [rd_lN hS]; omega) (by rw [rd_lN hS]; decide) (rd_k hS (k) (by omega)) ?_
      refine Ex_aload_n dX2_commonLength_30 rfl ?_
      refine Ex_geti dX2_commonLength_31 fX2_26 hV.1 ?_
      refine Ex_top hB'.1 ?_
      refine Ex_iconst (v := nI 0) dX2_commonLength_34 (by rfl) ?_
      refine Ex_iast dX2_commonLength_35 (rd_kI hS (k) (by omega)) rfl (by rw [rd_kN hS (k) (by omega)]; omega) (by rw [rd_kN hS (k) (by omega)]; decide) ?_
      refine Ex_aload_n dX2_commonLength_36 rfl ?_
      refine Ex_geti dX2_commonLength_37 fX2_26 hV.1 ?_
      refine Ex_top (show _ = nI n by rw [setI_a (fun q => hv1 (by rw [q]; exact ⟨by omega, by omega⟩))]; exact hB'.1) ?_
      refine Ex_iconst (v := nI 1) dX2_commonLength_40 (by rfl) ?_
      refine Ex_isub dX2_commonLength_41 ?_
      refine Ex_istore dX2_commonLength_42 (by decide) rfl ?_
      simp only [List.set_cons_zero, List.set_cons_succ]
      refine l2_cl1 d hS hU hV a b m n hA hB hu1 hu2 hv1 hv2 k (by omega) ?_ n _ (Nat.le_refl _) (fun i' j' g1 g2 g3 => by rw [setI_a (by omega)]; exact h1 i' j' g1 g2 g3) (fun j' g1 g2 => ?_) (h3.si ⟨by omega, by omega⟩)
      · intro J2 g1 g2
        refine Ex_iload dX2_commonLength_44 rfl ?_
        refine Ex_if_lt (tgt := 123) dX2_commonLength_46 (by decide) (fun h46 => ?_) (fun h46 => ?_)
        · refine Ex_iinc (v := nI k - nI 1) dX2_commonLength_123 rfl (nI_dec k) (by decide) rfl ?_
          simp only [List.set_cons_zero, List.set_cons_succ]
          refine Ex_goto (tgt := 20) dX2_commonLength_126 (by decide) ?_
          refine Ex_drop 4 ?_
          simp only [List.set_cons_zero, List.set_cons_succ]
          exact ih J2 (by omega) g1 g2
        · exact absurd m1_neg h46
      · have e : j' = n := by omega
        subst e
        rw [setI_s, Nat.sub_self, lcR_s0]
set_option maxRecDepth 100000 in
set_option maxHeartbeats 4000000 in
theorem c2_commonLength {T : TC} {I : MI} {G : MG} (d : Nat) {r u v : Nat} (hS : RdS T G r) (hU : SfS T G u) (hV : SfS T G v) (a b : Nat → Int32) (m n : Nat) (hA : SfA I u m a) (hB : SfA I v n b) (hu1 : ¬ PR r u) (hu2 : ¬ PR r (u + 1)) (hv1 : ¬ PR r v) (hv2 : ¬ PR r (v + 1))  : OkI T mX2_commonLength (d + 1) [.ref r, .ref u, .ref v] I G (fun r' I' G' => r' = nI (lcR a b m n m n) ∧ Rr I' r a b m n 0 ∧ Fr (PR r) I I' ∧ G' = G) := by
  refine Ok_of (own := RX2) (by decide) rfl (cat1 rfl) (Nat.le_of_ble_eq_true rfl) ?_
  show Ex T RX2 cX2_commonLength 5 (d + 1) _ 0 [some (.ref r), some (.ref u), some (.ref v), none, none] [] I G (0, 0)
  have hm := hA.2.1
  have hn := hB.2.1
  refine Ex_aload_n dX2_commonLength_0 rfl ?_
  refine Ex_getr dX2_commonLength_1 fX2_11 (rd_o hS) (rd_l hS) ?_
  refine Ex_aload_n dX2_commonLength_4 rfl ?_
  refine Ex_geti dX2_commonLength_5 fX2_26 hU.1 ?_
  refine Ex_top hA.1 ?_
  refine Ex_aaldI dX2_commonLength_8 (rd_lI hS) rfl (by rw [rd_lN hS]; omega) (by rw [rd_lN hS]; decide) (rd_k hS (m) (by omega)) ?_
  refine Ex_iconst (v := nI 0) dX2_commonLength_9 (by rfl) ?_
  refine Ex_S2v dX2_commonLength_10 sX2_32  (Nat.le_of_ble_eq_true rfl) (cJ_fill d (rd_kI hS m (by omega)) _ 13 (rd_kN hS m (by omega)) (by omega)) ?_
  rintro _ _ ⟨rfl, rfl⟩
  refine Ex_aload_n dX2_commonLength_13 rfl ?_
  refine Ex_geti dX2_commonLength_14 fX2_26 hU.1 ?_
  refine Ex_top (show _ = nI m by rw [rowI_n (fun q => hu1 (by rw [q]; exact ⟨by omega, by omega⟩))]; exact hA.1) ?_
  refine Ex_iconst (v := nI 1) dX2_commonLength_17 (by rfl) ?_
  refine Ex_isub dX2_commonLength_18 ?_
  refine Ex_istore_n dX2_commonLength_19 (by decide) rfl ?_
  simp only [st_n0, st_n1, st_n2, st_n3, List.set_cons_zero, List.set_cons_succ]
  refine l2_cl2 d hS hU hV a b m n hA hB hu1 hu2 hv1 hv2 ?_ m _ (Nat.le_refl _) (fun i' j' g1 g2 g3 => ?_) (Fr.row ⟨by omega, by omega⟩)
  · intro J g1 g2
    refine Ex_iload_n dX2_commonLength_20 rfl ?_
    refine Ex_if_lt (tgt := 129) dX2_commonLength_21 (by decide) (fun h21 => ?_) (fun h21 => ?_)
    · refine Ex_aload_n dX2_commonLength_129 rfl ?_
      refine Ex_getr dX2_commonLength_130 fX2_11 (rd_o hS) (rd_l hS) ?_
      refine Ex_iconst (v := nI 0) dX2_commonLength_133 (by rfl) ?_
      refine Ex_aaldI dX2_commonLength_134 (rd_lI hS) rfl (by rw [rd_lN hS]; omega) (by rw [rd_lN hS]; decide) (rd_k hS (0) (by omega)) ?_
      refine Ex_iconst (v := nI 0) dX2_commonLength_135 (by rfl) ?_
      refine Ex_iald dX2_commonLength_136 (rd_kI hS (0) (by omega)) rfl (by rw [rd_kN hS (0) (by omega)]; omega) (by rw [rd_kN hS (0) (by omega)]; decide) ?_
      refine Ex_top (g1 0 0 (by omega) (by omega) (by omega)) ?_
      refine Ex_iret dX2_commonLength_137 (by first | rfl | exact narrow_bI) ?_
      exact ⟨_, rfl, rfl, g1, g2, rfl⟩
    · exact absurd m1_neg h21
  · have e : i' = m := by omega
    subst e
    rw [rowI_s, Nat.sub_self, lcR_0]
    exact if_pos (by omega)
theorem nx_neg {k : Nat} (hk : k ≤ 12) : nxI k < 0 ↔ k = 12 := by
  unfold nxI
  split
  · rename_i h; exact ⟨fun _ => h, fun _ => by decide⟩
  · rename_i h; exact ⟨fun q => absurd q (nI_pos (by omega)), fun q => absurd q h⟩
theorem nx_pos {k : Nat} (h : ¬ k = 12) : nxI k = nI k := if_neg h
theorem fsF_12 {lay : Nat → Int32} {m k : Nat} {e : Int32} (hm : m ≤ 12) : fsF lay m e k ≤ 12 := by
  by_cases h : fsF lay m e k = 12
  · omega
  · have := (fsF_some hm h).2.1; omega
set_option maxRecDepth 100000 in
set_option maxHeartbeats 4000000 in
theorem l2_least {T : TC} {I : MI} {G : MG} {bb : Nat × Nat} (d : Nat) {r u v : Nat} (hS : RdS T G r) (hU : SfS T G u) (hV : SfS T G v) (a b : Nat → Int32) (m n i j L : Nat) (hA : SfA I u m a) (hB : SfA I v n b) (hRr : Rr I r a b m n 0) (hi : i ≤ m) (hj : j ≤ n) (ha : ∀ x, x < m → ∃ e, e < 10 ∧ a x = nI e) (hl : lcR a b m n (m - i) (n - j) = L + 1) : ∀ c e, e + c = 10 → fsN (chP a b m n i j L) c e = chF a b m n i j L → Ex T RX2 cX2_leastDeedThatKeeps 9 (d + 1) (fm T "leastDeedThatKeeps" (some .int) (fun w I' G' => ∃ r', w = some (.int r') ∧ r' = nI (chF a b m n i j L) ∧ I' = I ∧ G' = G)) 3 [some (.ref r), some (.int (nI L)), some (.ref u), some (.int (nI i)), some (.ref v), some (.int (nI j)), some (.int (nI e)), none, none] [] I G bb := by
  have hm := hA.2.1
  have hn := hB.2.1
  have hsp := ch_spec (b := b) (n := n) hm hn hi hj ha hl
  have hL := lc_le (a := a) (b := b) (m := m) (n := n) (m - i) (n - j)
  intro c
  induction c with
  | zero =>
    intro e h0 h1
    exfalso
    have h12 : (12 : Nat) = chF a b m n i j L := h1
    have := hsp.1
    omega
  | succ c ih =>
    intro e h0 h1
    have h1' : (if chP a b m n i j L e = true then e else fsN (chP a b m n i j L) c (e + 1)) = chF a b m n i j L := h1
    have f1 := fsF_12 (lay := a) (k := i) (e := nI e) hm
    have f2 := fsF_12 (lay := b) (k := j) (e := nI e) hn
    have s1 := fsF_some (lay := a) (k := i) (e := nI e) hm
    have s2 := fsF_some (lay := b) (k := j) (e := nI e) hn
    have hle := ch_le (a := a) (b := b) (m := m) (n := n) (e := e) hm hn hl
    have hch : chP a b m n i j L e = decide (¬ fsF a m (nI e) i = 12 ∧ ¬ fsF b n (nI e) j = 12 ∧ lcR a b m n (m - (fsF a m (nI e) i + 1)) (n - (fsF b n (nI e) j + 1)) = L) := rfl
    refine Ex_iload dX2_leastDeedThatKeeps_3 rfl ?_
    refine Ex_bipush (v := nI 10) dX2_leastDeedThatKeeps_5 (by rfl) ?_
    refine Ex_icmp_geN (by omega) (by omega) (tgt := 67) dX2_leastDeedThatKeeps_7 (by decide) (fun h7 => ?_) (fun h7 => ?_)
    · omega
    · refine Ex_aload_n dX2_leastDeedThatKeeps_10 rfl ?_
      refine Ex_iload dX2_leastDeedThatKeeps_11 rfl ?_
      refine Ex_iload_n dX2_leastDeedThatKeeps_13 rfl ?_
      refine Ex_V2p dX2_leastDeedThatKeeps_14 sX2_55 hU.1 (Nat.le_of_ble_eq_true rfl) ((c5_nextOf d hU i a m (nI e) hA.1 hA.2.1 hA.2.2 (by omega))) ?_
      refine Ex_istore dX2_leastDeedThatKeeps_17 (by decide) rfl ?_
      simp only [List.set_cons_zero, List.set_cons_succ]
      refine Ex_aload dX2_leastDeedThatKeeps_19 rfl ?_
      refine Ex_iload dX2_leastDeedThatKeeps_21 rfl ?_
      refine Ex_iload dX2_leastDeedThatKeeps_23 rfl ?_
      refine Ex_V2p dX2_leastDeedThatKeeps_25 sX2_55 hV.1 (Nat.le_of_ble_eq_true rfl) ((c5_nextOf d hV j b n (nI e) hB.1 hB.2.1 hB.2.2 (by omega))) ?_
      refine Ex_istore dX2_leastDeedThatKeeps_28 (by decide) rfl ?_
      simp only [List.set_cons_zero, List.set_cons_succ]
      generalize fsF a m (nI e) i = p at f1 s1 hle hch
      generalize fsF b n (nI e) j = q at f2 s2 hle hch
      refine Ex_iload dX2_leastDeedThatKeeps_30 rfl ?_
      refine Ex_if_lt (tgt := 61) dX2_leastDeedThatKeeps_32 (by decide) (fun h32 => ?_) (fun h32 => ?_)
      · first | refine Ex_iincN (m := 1) dX2_leastDeedThatKeeps_61 rfl rfl (by decide) rfl ?_ | refine Ex_iinc dX2_leastDeedThatKeeps_61 rfl rfl (by decide) rfl ?_
        simp only [List.set_cons_zero, List.set_cons_succ]
        refine Ex_goto (tgt := 3) dX2_leastDeedThatKeeps_64 (by decide) ?_
        have hno : ¬ chP a b m n i j L e = true := fun w => (fun w => w.1 ((nx_neg f1).mp h32) : ¬ (¬ p = 12 ∧ ¬ q = 12 ∧ lcR a b m n (m - (p + 1)) (n - (q + 1)) = L)) (of_decide_eq_true (hch ▸ w))
        refine Ex_drop 7 ?_
        refine Ex_drop 8 ?_
        simp only [List.set_cons_zero, List.set_cons_succ]
        exact ih (e + 1) (by omega) (by rw [if_neg hno] at h1'; exact h1')
      · refine Ex_iload dX2_leastDeedThatKeeps_35 rfl ?_
        refine Ex_if_lt (tgt := 61) dX2_leastDeedThatKeeps_37 (by decide) (fun h37 => ?_) (fun h37 => ?_)
        · first | refine Ex_iincN (m := 1) dX2_leastDeedThatKeeps_61 rfl rfl (by decide) rfl ?_ | refine Ex_iinc dX2_leastDeedThatKeeps_61 rfl rfl (by decide) rfl ?_
          simp only [List.set_cons_zero, List.set_cons_succ]
          refine Ex_goto (tgt := 3) dX2_leastDeedThatKeeps_64 (by decide) ?_
          have hno : ¬ chP a b m n i j L e = true := fun w => (fun w => w.2.1 ((nx_neg f2).mp h37) : ¬ (¬ p = 12 ∧ ¬ q = 12 ∧ lcR a b m n (m - (p + 1)) (n - (q + 1)) = L)) (of_decide_eq_true (hch ▸ w))
          refine Ex_drop 7 ?_
          refine Ex_drop 8 ?_
          simp only [List.set_cons_zero, List.set_cons_succ]
          exact ih (e + 1) (by omega) (by rw [if_neg hno] at h1'; exact h1')
        · have p0 : ¬ p = 12 := fun w => h32 ((nx_neg f1).mpr w)
          have q0 : ¬ q = 12 := fun w => h37 ((nx_neg f2).mpr w)
          obtain ⟨-, p2, -⟩ := s1 p0
          obtain ⟨-, q2, -⟩ := s2 q0
          have hle := hle p0 q0
          refine Ex_aload_n dX2_leastDeedThatKeeps_40 rfl ?_
          refine Ex_getr dX2_leastDeedThatKeeps_41 fX2_11 (rd_o hS) (rd_l hS) ?_
          refine Ex_iload dX2_leastDeedThatKeeps_44 rfl ?_
          refine Ex_top (nx_pos p0) ?_
          refine Ex_iconst (v := nI 1) dX2_leastDeedThatKeeps_46 (by rfl) ?_
          first | with_reducible refine Ex_iaddN dX2_leastDeedThatKeeps_47 ?_ | refine Ex_iadd dX2_leastDeedThatKeeps_47 ?_
          refine Ex_aaldI dX2_leastDeedThatKeeps_48 (rd_lI hS) rfl (by rw [rd_lN hS]; omega) (by rw [rd_lN hS]; decide) (rd_k hS (p + 1) (by omega)) ?_
          refine Ex_iload dX2_leastDeedThatKeeps_49 rfl ?_
          refine Ex_top (nx_pos q0) ?_
          refine Ex_iconst (v := nI 1) dX2_leastDeedThatKeeps_51 (by rfl) ?_
          first | with_reducible refine Ex_iaddN dX2_leastDeedThatKeeps_52 ?_ | refine Ex_iadd dX2_leastDeedThatKeeps_52 ?_
          refine Ex_iald dX2_leastDeedThatKeeps_53 (rd_kI hS (p + 1) (by omega)) rfl (by rw [rd_kN hS (p + 1) (by omega)]; omega) (by rw [rd_kN hS (p + 1) (by omega)]; decide) ?_
          refine Ex_top (hRr (p + 1) (q + 1) (by omega) (by omega) (by omega)) ?_
          refine Ex_iload_n dX2_leastDeedThatKeeps_54 rfl ?_
          refine Ex_icmp_ltN (by omega) (by omega) (tgt := 61) dX2_leastDeedThatKeeps_55 (by decide) (fun h55 => ?_) (fun h55 => ?_)
          · first | refine Ex_iincN (m := 1) dX2_leastDeedThatKeeps_61 rfl rfl (by decide) rfl ?_ | refine Ex_iinc dX2_leastDeedThatKeeps_61 rfl rfl (by decide) rfl ?_
            simp only [List.set_cons_zero, List.set_cons_succ]
            refine Ex_goto (tgt := 3) dX2_leastDeedThatKeeps_64 (by decide) ?_
            have hno : ¬ chP a b m n i j L e = true := fun w => (fun w => by have := w.2.2; omega : ¬ (¬ p = 12 ∧ ¬ q = 12 ∧ lcR a b m n (m - (p + 1)) (n - (q + 1)) = L)) (of_decide_eq_true (hch ▸ w))
            refine Ex_drop 7 ?_
            refine Ex_drop 8 ?_
            simp only [List.set_cons_zero, List.set_cons_succ]
            exact ih (e + 1) (by omega) (by rw [if_neg hno] at h1'; exact h1')
          · refine Ex_iload dX2_leastDeedThatKeeps_58 rfl ?_
            refine Ex_iret dX2_leastDeedThatKeeps_60 (by first | rfl | exact narrow_bI) ?_
            have hy : chP a b m n i j L e = true := by rw [hch]; exact decide_eq_true ⟨p0, q0, by omega⟩
            exact ⟨_, rfl, (by rw [if_pos hy] at h1'; rw [h1']), rfl, rfl⟩
set_option maxRecDepth 100000 in
set_option maxHeartbeats 4000000 in
theorem c2_least {T : TC} {I : MI} {G : MG} (d : Nat) {r u v : Nat} (hS : RdS T G r) (hU : SfS T G u) (hV : SfS T G v) (a b : Nat → Int32) (m n i j L : Nat) (hA : SfA I u m a) (hB : SfA I v n b) (hRr : Rr I r a b m n 0) (hi : i ≤ m) (hj : j ≤ n) (ha : ∀ x, x < m → ∃ e, e < 10 ∧ a x = nI e) (hl : lcR a b m n (m - i) (n - j) = L + 1)  : OkP T mX2_leastDeedThatKeeps (d + 1) [.ref r, .int (nI L), .ref u, .int (nI i), .ref v, .int (nI j)] I G (nI (chF a b m n i j L)) := by
  refine Ok_of (own := RX2) (by decide) rfl (cat1 rfl) (Nat.le_of_ble_eq_true rfl) ?_
  show Ex T RX2 cX2_leastDeedThatKeeps 9 (d + 1) _ 0 [some (.ref r), some (.int (nI L)), some (.ref u), some (.int (nI i)), some (.ref v), some (.int (nI j)), none, none, none] [] I G (0, 0)
  refine Ex_iconst (v := nI 0) dX2_leastDeedThatKeeps_0 (by rfl) ?_
  refine Ex_istore dX2_leastDeedThatKeeps_1 (by decide) rfl ?_
  simp only [List.set_cons_zero, List.set_cons_succ]
  exact l2_least d hS hU hV a b m n i j L hA hB hRr hi hj ha hl 10 0 (by omega) rfl
set_option maxRecDepth 100000 in
set_option maxHeartbeats 4000000 in
theorem l2_find {T : TC} {I : MI} {G : MG} {F : FinT} {bb : Nat × Nat} (d : Nat) {r u v : Nat} (hS : RdS T G r) (hU : SfS T G u) (hV : SfS T G v) (a b : Nat → Int32) (m n : Nat) (hA : SfA I u m a) (hB : SfA I v n b) (hu1 : ¬ PR r u) (hu2 : ¬ PR r (u + 1)) (hv1 : ¬ PR r v) (hv2 : ¬ PR r (v + 1)) (ha : ∀ x, x < m → ∃ e, e < 10 ∧ a x = nI e) (L : Nat) (hL : lcR a b m n m n = L) (kx : ∀ J, Rr J r a b m n 0 → (∀ x, x < L → J (r + 15) x = nI (cmE a b m n L x)) → Fr (PR r) I J → Ex T RX2 cX2_findCommon 8 (d + 2) F 16 [some (.ref r), some (.ref u), some (.ref v), some (.int (nI L)), some (.int (nI (cmI a b m n L L).1)), some (.int (nI (cmI a b m n L L).2)), some (.int (nI L)), none] [] J G bb) : ∀ c k J, k + c = L → Rr J r a b m n 0 → (∀ x, x < k → J (r + 15) x = nI (cmE a b m n L x)) → Fr (PR r) I J → Ex T RX2 cX2_findCommon 8 (d + 2) F 16 [some (.ref r), some (.ref u), some (.ref v), some (.int (nI L)), some (.int (nI (cmI a b m n L k).1)), some (.int (nI (cmI a b m n L k).2)), some (.int (nI k)), none] [] J G bb := by
  have hm := hA.2.1
  have hn := hB.2.1
  have hL12 := lc_le (a := a) (b := b) (m := m) (n := n) m n
  intro c
  induction c with
  | zero => intro k J h0 h1 h2 h3; have e0 : k = L := by omega
            subst e0; exact kx J h1 h2 h3
  | succ c ih =>
    intro k J h0 h1 h2 h3
    have hA' := hA.fr h3 hu1 hu2
    have hB' := hB.fr h3 hv1 hv2
    have hinv := cm_inv (b := b) (n := n) hm hn ha k (by omega)
    rw [hL] at hinv
    have hce : cmE a b m n L k = chF a b m n (cmI a b m n L k).1 (cmI a b m n L k).2 (L - k - 1) := rfl
    have hci : cmI a b m n L (k + 1) = (fsF a m (nI (chF a b m n (cmI a b m n L k).1 (cmI a b m n L k).2 (L - k - 1))) (cmI a b m n L k).1 + 1, fsF b n (nI (chF a b m n (cmI a b m n L k).1 (cmI a b m n L k).2 (L - k - 1))) (cmI a b m n L k).2 + 1) := rfl
    have key := ih (k + 1)
    rw [hci] at key
    generalize (cmI a b m n L k).1 = i at hinv hce key ⊢
    generalize (cmI a b m n L k).2 = j at hinv hce key ⊢
    obtain ⟨hi, hj, hl⟩ := hinv
    have hsp := ch_spec (b := b) (n := n) (r := L - k - 1) hm hn hi hj ha (by omega)
    obtain ⟨c1, c2, c3⟩ := of_decide_eq_true hsp.2.1
    have hch10 := hsp.1
    generalize hcc : chF a b m n i j (L - k - 1) = e at c1 c2 c3 key hce hch10
    obtain ⟨-, p2, -⟩ := fsF_some hm c1
    obtain ⟨-, q2, -⟩ := fsF_some hn c2
    refine Ex_iload dX2_findCommon_16 rfl ?_
    refine Ex_iload_n dX2_findCommon_18 rfl ?_
    refine Ex_icmp_geN (by omega) (by omega) (tgt := 87) dX2_findCommon_19 (by decide) (fun h19 => ?_) (fun h19 => ?_)
    · omega
    · refine Ex_aload_n dX2_findCommon_22 rfl ?_
      refine Ex_iload_n dX2_findCommon_23 rfl ?_
      refine Ex_iload dX2_findCommon_24 rfl ?_
      refine Ex_isubN (by omega) dX2_findCommon_26 ?_
      refine Ex_iconst (v := nI 1) dX2_findCommon_27 (by rfl) ?_
      refine Ex_isubN (by omega) dX2_findCommon_28 ?_
      refine Ex_aload_n dX2_findCommon_29 rfl ?_
      refine Ex_iload dX2_findCommon_30 rfl ?_
      refine Ex_aload_n dX2_findCommon_32 rfl ?_
      refine Ex_iload dX2_findCommon_33 rfl ?_
      refine Ex_V5p dX2_findCommon_35 sX2_51 (rd_o hS) (Nat.le_of_ble_eq_true rfl) (c2_least d hS hU hV a b m n i j (L - k - 1) hA' hB' h1 hi hj ha (by omega)) ?_
      refine Ex_top (show _ = nI e by rw [hcc]) ?_
      refine Ex_istore dX2_findCommon_38 (by decide) rfl ?_
      simp only [List.set_cons_zero, List.set_cons_succ]
      refine Ex_iload dX2_findCommon_40 rfl ?_
      refine Ex_if_ge (tgt := 48) dX2_findCommon_42 (by decide) (fun h42 => ?_) (fun h42 => ?_)
      · refine Ex_aload_n dX2_findCommon_48 rfl ?_
        refine Ex_getr dX2_findCommon_49 fX2_16 (rd_o hS) (rd_c hS) ?_
        refine Ex_iload dX2_findCommon_52 rfl ?_
        refine Ex_iload dX2_findCommon_54 rfl ?_
        refine Ex_iast dX2_findCommon_56 (rd_cI hS) rfl (by rw [rd_cN hS]; omega) (by rw [rd_cN hS]; decide) ?_
        have hF2 : Fr (PR r) J (setI J (r + 15) k (nI e)) := Fr.refl.si ⟨by omega, by omega⟩
        have hA2 := hA'.fr hF2 hu1 hu2
        have hB2 := hB'.fr hF2 hv1 hv2
        refine Ex_aload_n dX2_findCommon_57 rfl ?_
        refine Ex_iload dX2_findCommon_58 rfl ?_
        refine Ex_iload dX2_findCommon_60 rfl ?_
        refine Ex_V2p dX2_findCommon_62 sX2_55 hU.1 (Nat.le_of_ble_eq_true rfl) (c5_nextOf (d + 1) hU i a m (nI e) hA2.1 hA2.2.1 hA2.2.2 (by omega)) ?_
        refine Ex_top (nx_pos c1) ?_
        refine Ex_iconst (v := nI 1) dX2_findCommon_65 (by rfl) ?_
        first | with_reducible refine Ex_iaddN dX2_findCommon_66 ?_ | refine Ex_iadd dX2_findCommon_66 ?_
        refine Ex_istore dX2_findCommon_67 (by decide) rfl ?_
        simp only [List.set_cons_zero, List.set_cons_succ]
        refine Ex_aload_n dX2_findCommon_69 rfl ?_
        refine Ex_iload dX2_findCommon_70 rfl ?_
        refine Ex_iload dX2_findCommon_72 rfl ?_
        refine Ex_V2p dX2_findCommon_74 sX2_55 hV.1 (Nat.le_of_ble_eq_true rfl) (c5_nextOf (d + 1) hV j b n (nI e) hB2.1 hB2.2.1 hB2.2.2 (by omega)) ?_
        refine Ex_top (nx_pos c2) ?_
        refine Ex_iconst (v := nI 1) dX2_findCommon_77 (by rfl) ?_
        first | with_reducible refine Ex_iaddN dX2_findCommon_78 ?_ | refine Ex_iadd dX2_findCommon_78 ?_
        refine Ex_istore dX2_findCommon_79 (by decide) rfl ?_
        simp only [List.set_cons_zero, List.set_cons_succ]
        first | refine Ex_iincN (m := 1) dX2_findCommon_81 rfl rfl (by decide) rfl ?_ | refine Ex_iinc dX2_findCommon_81 rfl rfl (by decide) rfl ?_
        simp only [List.set_cons_zero, List.set_cons_succ]
        refine Ex_goto (tgt := 16) dX2_findCommon_84 (by decide) ?_
        refine Ex_drop 7 ?_
        simp only [List.set_cons_zero, List.set_cons_succ]
        refine key _ (by omega) (fun i' j' g1 g2 g3 => by rw [setI_a (by omega)]; exact h1 i' j' g1 g2 g3) (fun x hx => ?_) (h3.trans hF2)
        by_cases ex : x = k
        · subst ex; rw [setI_s, hce]
        · rw [setI_n (by omega)]; exact h2 x (by omega)
      · exact absurd (nI_pos' (by omega)) h42
set_option maxRecDepth 100000 in
set_option maxHeartbeats 4000000 in
theorem c2_findCommon {T : TC} {I : MI} {G : MG} (d : Nat) {r u v : Nat} (hS : RdS T G r) (hU : SfS T G u) (hV : SfS T G v) (a b : Nat → Int32) (m n : Nat) (hA : SfA I u m a) (hB : SfA I v n b) (hu1 : ¬ PR r u) (hu2 : ¬ PR r (u + 1)) (hv1 : ¬ PR r v) (hv2 : ¬ PR r (v + 1)) (ha : ∀ x, x < m → ∃ e, e < 10 ∧ a x = nI e)  : OkI T mX2_findCommon (d + 2) [.ref r, .ref u, .ref v] I G (fun r' I' G' => r' = nI (lcR a b m n m n) ∧ (∀ x, x < lcR a b m n m n → I' (r + 15) x = nI (cmE a b m n (lcR a b m n m n) x)) ∧ Fr (PR r) I I' ∧ G' = G) := by
  refine Ok_of (own := RX2) (by decide) rfl (cat1 rfl) (Nat.le_of_ble_eq_true rfl) ?_
  show Ex T RX2 cX2_findCommon 8 (d + 2) _ 0 [some (.ref r), some (.ref u), some (.ref v), none, none, none, none, none] [] I G (0, 0)
  refine Ex_aload_n dX2_findCommon_0 rfl ?_
  refine Ex_aload_n dX2_findCommon_1 rfl ?_
  refine Ex_aload_n dX2_findCommon_2 rfl ?_
  refine Ex_V2i dX2_findCommon_3 sX2_47 (rd_o hS) (Nat.le_of_ble_eq_true rfl) (c2_commonLength d hS hU hV a b m n hA hB hu1 hu2 hv1 hv2) ?_
  rintro r' J _ ⟨rfl, hJ1, hJ2, rfl⟩
  refine Ex_istore_n dX2_findCommon_6 (by decide) rfl ?_
  simp only [st_n0, st_n1, st_n2, st_n3, List.set_cons_zero, List.set_cons_succ]
  refine Ex_iconst (v := nI 0) dX2_findCommon_7 (by rfl) ?_
  refine Ex_istore dX2_findCommon_8 (by decide) rfl ?_
  simp only [List.set_cons_zero, List.set_cons_succ]
  refine Ex_iconst (v := nI 0) dX2_findCommon_10 (by rfl) ?_
  refine Ex_istore dX2_findCommon_11 (by decide) rfl ?_
  simp only [List.set_cons_zero, List.set_cons_succ]
  refine Ex_iconst (v := nI 0) dX2_findCommon_13 (by rfl) ?_
  refine Ex_istore dX2_findCommon_14 (by decide) rfl ?_
  simp only [List.set_cons_zero, List.set_cons_succ]
  have hm := hA.2.1
  have hL12 := lc_le (a := a) (b := b) (m := m) (n := n) m n
  refine l2_find d hS hU hV a b m n hA hB hu1 hu2 hv1 hv2 ha _ rfl ?_ (lcR a b m n m n) 0 J (by omega) hJ1 (fun x hx => absurd hx (by omega)) hJ2
  intro J2 g1 g2 g3
  refine Ex_iload dX2_findCommon_16 rfl ?_
  refine Ex_iload_n dX2_findCommon_18 rfl ?_
  refine Ex_icmp_geN (by omega) (by omega) (tgt := 87) dX2_findCommon_19 (by decide) (fun h19 => ?_) (fun h19 => ?_)
  · refine Ex_iload_n dX2_findCommon_87 rfl ?_
    refine Ex_iret dX2_findCommon_88 (by first | rfl | exact narrow_bI) ?_
    exact ⟨_, rfl, rfl, g2, g3, rfl⟩
  · omega
