/-! the reference: texts at work -/
theorem Ex_drop {T : TC} {own : String} {cc : ByteArray} {nL d pc : Nat} {F : FinT} {ls : List (Option Value)} {st : List Value} {I : MI} {G : MG} {b : Nat × Nat} (i : Nat) (k : Ex T own cc nL d F pc (ls.set i none) st I G b) : Ex T own cc nL d F pc ls st I G b := by
  intro p l e R s m args below meth c Z H locs cells slots rl B S hF M h1 h2 L
  refine k p l e R s m args below meth c Z H locs cells slots rl B S hF M h1 h2 ⟨L.1, L.2.1, fun j v hj => ?_⟩
  by_cases e : j = i
  · subst e
    have hl : j < ls.length := by
      have := (List.getElem?_eq_some_iff.mp hj).1
      simpa using this
    rw [List.getElem?_set_self hl] at hj
    cases hj
  · rw [List.getElem?_set_ne (fun q => e q.symm)] at hj
    exact L.2.2 j v hj
theorem swn {x v : Int32} {lo hi : Int} (h : x.toInt < lo ∨ hi < x.toInt) (h1 : lo ≤ v.toInt) (h2 : v.toInt ≤ hi) : ¬ x = v := by
  rintro rfl
  omega
def cntI (o : Option Nat) : Int32 := match o with
  | none => (-1)
  | some t => nI t
theorem nI_dec (t : Nat) : nI t + Int32.ofInt (-1) = nI t - nI 1 := by
  apply Int32.toBitVec_inj.mp
  show (nI t).toBitVec + BitVec.ofInt 32 (-1) = (nI t).toBitVec - (nI 1).toBitVec
  rw [BitVec.sub_eq_add_neg]
  rfl
theorem m1_lt : nI 0 - nI 1 < 0 := by decide
set_option maxRecDepth 100000 in
set_option maxHeartbeats 4000000 in
theorem l9_counts {T : TC} {I : MI} {G : MG} {Q : Option Value → MI → MG → Prop} {b : Nat × Nat} (d : Nat) {M : Nat} (hM : MSh T G M) (key : Int32) : ∀ t, t ≤ 14 → Q (some (.int (cntI (cntF (I (M + 1)) key t)))) I G → Ex T RX9 cX9_counts 3 d (fm T "counts" (some .int) Q) 10 [some (.ref M), some (.int key), some (.int (nI t - nI 1))] [] I G b := by
  intro t
  induction t with
  | zero =>
    intro ht hq
    refine Ex_iload_n dX9_counts_10 rfl ?_
    refine Ex_if_lt (tgt := 42) dX9_counts_11 (by decide) (fun h11 => ?_) (fun h11 => ?_)
    · refine Ex_iconst (v := (-1)) dX9_counts_42 (by rfl) ?_
      refine Ex_iret dX9_counts_43 (by first | rfl | exact narrow_bI) ?_
      exact hq
    · exact absurd m1_lt h11
  | succ t ih =>
    intro ht hq
    have e1 : nI (t + 1) - nI 1 = nI t := pk_sub (by omega)
    rw [e1]
    refine Ex_iload_n dX9_counts_10 rfl ?_
    refine Ex_if_lt (tgt := 42) dX9_counts_11 (by decide) (fun h11 => ?_) (fun h11 => ?_)
    · exact absurd h11 (nI_pos (by omega))
    · refine Ex_aload_n dX9_counts_14 rfl ?_
      refine Ex_getr dX9_counts_15 fX9_9 hM.1 (mF0 hM).1 ?_
      refine Ex_sipush (v := nI 144) dX9_counts_18 (by rfl) ?_
      refine Ex_iconst (v := nI 2) dX9_counts_21 (by rfl) ?_
      refine Ex_iload_n dX9_counts_22 rfl ?_
      first | with_reducible refine Ex_imulN dX9_counts_23 ?_ | refine Ex_imul dX9_counts_23 ?_
      first | with_reducible refine Ex_iaddN dX9_counts_24 ?_ | refine Ex_iadd dX9_counts_24 ?_
      refine Ex_iald dX9_counts_25 (mF0 hM).2.1 rfl (by rw [(mF0 hM).2.2]; omega) (by rw [(mF0 hM).2.2]; decide) ?_
      refine Ex_sipush (v := nI 1000) dX9_counts_26 (by rfl) ?_
      refine Ex_idiv dX9_counts_29 (by decide) ?_
      refine Ex_iload_n dX9_counts_30 rfl ?_
      refine Ex_icmp_ne (tgt := 36) dX9_counts_31 (by decide) (fun h31 => ?_) (fun h31 => ?_)
      · refine Ex_iinc (v := nI t - nI 1) dX9_counts_36 rfl (nI_dec t) (by decide) rfl ?_
        simp only [st_n0, st_n1, st_n2, st_n3, List.set_cons_zero, List.set_cons_succ]
        refine Ex_goto (tgt := 10) dX9_counts_39 (by decide) ?_
        refine ih (by omega) ?_
        have e2 : cntF (I (M + 1)) key (t + 1) = cntF (I (M + 1)) key t := if_neg h31
        rw [← e2]; exact hq
      · refine Ex_iload_n dX9_counts_34 rfl ?_
        refine Ex_iret dX9_counts_35 (by first | rfl | exact narrow_bI) ?_
        have e2 : cntF (I (M + 1)) key (t + 1) = some t := if_pos h31
        rw [e2] at hq; exact hq
set_option maxRecDepth 100000 in
set_option maxHeartbeats 4000000 in
theorem c9_counts {T : TC} {I : MI} {G : MG} (d : Nat) {M : Nat} (hM : MSh T G M) (key : Int32) (t : Nat) (ht : I (M + 1) 7 = nI t) (h14 : t ≤ 14) : OkP T mX9_counts (d) [.ref M, .int key] I G (cntI (cntF (I (M + 1)) key t)) := by
  refine Ok_of (own := RX9) (by decide) rfl (cat1 rfl) (Nat.le_of_ble_eq_true rfl) ?_
  show Ex T RX9 cX9_counts 3 (d) _ 0 [some (.ref M), some (.int key), none] [] I G (0, 0)
  refine Ex_aload_n dX9_counts_0 rfl ?_
  refine Ex_getr dX9_counts_1 fX9_9 hM.1 (mF0 hM).1 ?_
  refine Ex_bipush (v := nI 7) dX9_counts_4 (by rfl) ?_
  refine Ex_iald dX9_counts_6 (mF0 hM).2.1 rfl (by rw [(mF0 hM).2.2]; omega) (by rw [(mF0 hM).2.2]; decide) ?_
  refine Ex_top ht ?_
  refine Ex_iconst (v := nI 1) dX9_counts_7 (by rfl) ?_
  refine Ex_isub dX9_counts_8 ?_
  refine Ex_istore_n dX9_counts_9 (by decide) rfl ?_
  simp only [st_n0, st_n1, st_n2, st_n3, List.set_cons_zero, List.set_cons_succ]
  exact l9_counts d hM key t h14 ⟨_, rfl, rfl, rfl, rfl⟩
theorem two_m1 (a b : Int32) : twoF (-1) a b = bI (¬ a = 0 ∨ ¬ b = 0) := by
  unfold twoF
  rw [if_pos rfl]
theorem two_m2 (a b : Int32) : twoF (-2) a b = bI (¬ a = 0 ∧ ¬ b = 0) := by
  unfold twoF
  rw [if_neg (by decide), if_pos rfl]
theorem two_m3 (a b : Int32) : twoF (-3) a b = bI (a < b) := by
  unfold twoF
  rw [if_neg (by decide), if_neg (by decide), if_pos rfl]
theorem two_m4 (a b : Int32) : twoF (-4) a b = bI (a = b) := by
  unfold twoF
  rw [if_neg (by decide), if_neg (by decide), if_neg (by decide), if_pos rfl]
theorem two_m5 (a b : Int32) : twoF (-5) a b = bI (b < a) := by
  unfold twoF
  rw [if_neg (by decide), if_neg (by decide), if_neg (by decide), if_neg (by decide), if_pos rfl]
theorem two_m6 (a b : Int32) : twoF (-6) a b = a + b := by
  unfold twoF
  rw [if_neg (by decide), if_neg (by decide), if_neg (by decide), if_neg (by decide), if_neg (by decide), if_pos rfl]
theorem two_m7 (a b : Int32) : twoF (-7) a b = a - b := by
  unfold twoF
  rw [if_neg (by decide), if_neg (by decide), if_neg (by decide), if_neg (by decide), if_neg (by decide), if_neg (by decide), if_pos rfl]
theorem two_m8 (a b : Int32) : twoF (-8) a b = a * b := by
  unfold twoF
  rw [if_neg (by decide), if_neg (by decide), if_neg (by decide), if_neg (by decide), if_neg (by decide), if_neg (by decide), if_neg (by decide), if_pos rfl]
theorem two_d {c a b : Int32} (h : c.toInt < (-8) ∨ (-1) < c.toInt) : twoF c a b = if b = 0 then 0 else a / b := by
  unfold twoF
  rw [if_neg (swn h (by decide) (by decide)), if_neg (swn h (by decide) (by decide)), if_neg (swn h (by decide) (by decide)), if_neg (swn h (by decide) (by decide)), if_neg (swn h (by decide) (by decide)), if_neg (swn h (by decide) (by decide)), if_neg (swn h (by decide) (by decide)), if_neg (swn h (by decide) (by decide))]
set_option maxRecDepth 100000 in
set_option maxHeartbeats 4000000 in
theorem c9_two {T : TC} {I : MI} {G : MG} (d : Nat) (c a b : Int32)  : OkP T mX9_two (d) [.int c, .int a, .int b] I G (twoF c a b) := by
  refine Ok_of (own := RX9) (by decide) rfl (cat1 rfl) (Nat.le_of_ble_eq_true rfl) ?_
  show Ex T RX9 cX9_two 3 (d) _ 0 [some (.int c), some (.int a), some (.int b)] [] I G (0, 0)
  refine Ex_iload_n dX9_two_0 rfl ?_
  rcases sw_cases (c) (-8) (-1) (by decide) (by decide) with ⟨k1, hk1, hl1, hx1⟩ | hx1
  · rcases (show k1 = -8 ∨ k1 = -7 ∨ k1 = -6 ∨ k1 = -5 ∨ k1 = -4 ∨ k1 = -3 ∨ k1 = -2 ∨ k1 = -1 by omega) with rfl | rfl | rfl | rfl | rfl | rfl | rfl | rfl
    · have hx1 : c = (-8) := hx1
      refine Ex_tabIn (tgt := 117) dX9_two_1 (by rw [hx1]; decide) (by rw [hx1]; decide) (off := 116) (by rw [hx1]; rfl) (by decide) ?_
      refine Ex_iload_n dX9_two_117 rfl ?_
      refine Ex_iload_n dX9_two_118 rfl ?_
      first | with_reducible refine Ex_imulN dX9_two_119 ?_ | refine Ex_imul dX9_two_119 ?_
      refine Ex_iret dX9_two_120 (by first | rfl | exact narrow_bI) ?_
      exact ⟨_, rfl, (by rw [hx1, two_m8]), rfl, rfl⟩
    · have hx1 : c = (-7) := hx1
      refine Ex_tabIn (tgt := 113) dX9_two_1 (by rw [hx1]; decide) (by rw [hx1]; decide) (off := 112) (by rw [hx1]; rfl) (by decide) ?_
      refine Ex_iload_n dX9_two_113 rfl ?_
      refine Ex_iload_n dX9_two_114 rfl ?_
      refine Ex_isub dX9_two_115 ?_
      refine Ex_iret dX9_two_116 (by first | rfl | exact narrow_bI) ?_
      exact ⟨_, rfl, (by rw [hx1, two_m7]), rfl, rfl⟩
    · have hx1 : c = (-6) := hx1
      refine Ex_tabIn (tgt := 109) dX9_two_1 (by rw [hx1]; decide) (by rw [hx1]; decide) (off := 108) (by rw [hx1]; rfl) (by decide) ?_
      refine Ex_iload_n dX9_two_109 rfl ?_
      refine Ex_iload_n dX9_two_110 rfl ?_
      first | with_reducible refine Ex_iaddN dX9_two_111 ?_ | refine Ex_iadd dX9_two_111 ?_
      refine Ex_iret dX9_two_112 (by first | rfl | exact narrow_bI) ?_
      exact ⟨_, rfl, (by rw [hx1, two_m6]), rfl, rfl⟩
    · have hx1 : c = (-5) := hx1
      refine Ex_tabIn (tgt := 98) dX9_two_1 (by rw [hx1]; decide) (by rw [hx1]; decide) (off := 97) (by rw [hx1]; rfl) (by decide) ?_
      refine Ex_iload_n dX9_two_98 rfl ?_
      refine Ex_iload_n dX9_two_99 rfl ?_
      refine Ex_icmp_le (tgt := 107) dX9_two_100 (by decide) (fun h100 => ?_) (fun h100 => ?_)
      · refine Ex_iconst (v := nI 0) dX9_two_107 (by rfl) ?_
        refine Ex_iret dX9_two_108 (by first | rfl | exact narrow_bI) ?_
        exact ⟨_, rfl, (by rw [hx1, two_m5]; exact (bI_f (Int32.not_lt.mpr h100)).symm), rfl, rfl⟩
      · refine Ex_iconst (v := nI 1) dX9_two_103 (by rfl) ?_
        refine Ex_goto (tgt := 108) dX9_two_104 (by decide) ?_
        refine Ex_iret dX9_two_108 (by first | rfl | exact narrow_bI) ?_
        exact ⟨_, rfl, (by rw [hx1, two_m5]; exact (bI_t (Int32.not_le.mp h100)).symm), rfl, rfl⟩
    · have hx1 : c = (-4) := hx1
      refine Ex_tabIn (tgt := 87) dX9_two_1 (by rw [hx1]; decide) (by rw [hx1]; decide) (off := 86) (by rw [hx1]; rfl) (by decide) ?_
      refine Ex_iload_n dX9_two_87 rfl ?_
      refine Ex_iload_n dX9_two_88 rfl ?_
      refine Ex_icmp_ne (tgt := 96) dX9_two_89 (by decide) (fun h89 => ?_) (fun h89 => ?_)
      · refine Ex_iconst (v := nI 0) dX9_two_96 (by rfl) ?_
        refine Ex_iret dX9_two_97 (by first | rfl | exact narrow_bI) ?_
        exact ⟨_, rfl, (by rw [hx1, two_m4]; exact (bI_f h89).symm), rfl, rfl⟩
      · refine Ex_iconst (v := nI 1) dX9_two_92 (by rfl) ?_
        refine Ex_goto (tgt := 97) dX9_two_93 (by decide) ?_
        refine Ex_iret dX9_two_97 (by first | rfl | exact narrow_bI) ?_
        exact ⟨_, rfl, (by rw [hx1, two_m4]; exact (bI_t h89).symm), rfl, rfl⟩
    · have hx1 : c = (-3) := hx1
      refine Ex_tabIn (tgt := 76) dX9_two_1 (by rw [hx1]; decide) (by rw [hx1]; decide) (off := 75) (by rw [hx1]; rfl) (by decide) ?_
      refine Ex_iload_n dX9_two_76 rfl ?_
      refine Ex_iload_n dX9_two_77 rfl ?_
      refine Ex_icmp_ge (tgt := 85) dX9_two_78 (by decide) (fun h78 => ?_) (fun h78 => ?_)
      · refine Ex_iconst (v := nI 0) dX9_two_85 (by rfl) ?_
        refine Ex_iret dX9_two_86 (by first | rfl | exact narrow_bI) ?_
        exact ⟨_, rfl, (by rw [hx1, two_m3]; exact (bI_f (Int32.not_lt.mpr h78)).symm), rfl, rfl⟩
      · refine Ex_iconst (v := nI 1) dX9_two_81 (by rfl) ?_
        refine Ex_goto (tgt := 86) dX9_two_82 (by decide) ?_
        refine Ex_iret dX9_two_86 (by first | rfl | exact narrow_bI) ?_
        exact ⟨_, rfl, (by rw [hx1, two_m3]; exact (bI_t (Int32.not_le.mp h78)).symm), rfl, rfl⟩
    · have hx1 : c = (-2) := hx1
      refine Ex_tabIn (tgt := 62) dX9_two_1 (by rw [hx1]; decide) (by rw [hx1]; decide) (off := 61) (by rw [hx1]; rfl) (by decide) ?_
      refine Ex_iload_n dX9_two_62 rfl ?_
      refine Ex_if_eq (tgt := 74) dX9_two_63 (by decide) (fun h63 => ?_) (fun h63 => ?_)
      · refine Ex_iconst (v := nI 0) dX9_two_74 (by rfl) ?_
        refine Ex_iret dX9_two_75 (by first | rfl | exact narrow_bI) ?_
        exact ⟨_, rfl, (by rw [hx1, two_m2]; exact (bI_f (fun q => q.1 h63)).symm), rfl, rfl⟩
      · refine Ex_iload_n dX9_two_66 rfl ?_
        refine Ex_if_eq (tgt := 74) dX9_two_67 (by decide) (fun h67 => ?_) (fun h67 => ?_)
        · refine Ex_iconst (v := nI 0) dX9_two_74 (by rfl) ?_
          refine Ex_iret dX9_two_75 (by first | rfl | exact narrow_bI) ?_
          exact ⟨_, rfl, (by rw [hx1, two_m2]; exact (bI_f (fun q => q.2 h67)).symm), rfl, rfl⟩
        · refine Ex_iconst (v := nI 1) dX9_two_70 (by rfl) ?_
          refine Ex_goto (tgt := 75) dX9_two_71 (by decide) ?_
          refine Ex_iret dX9_two_75 (by first | rfl | exact narrow_bI) ?_
          exact ⟨_, rfl, (by rw [hx1, two_m2]; exact (bI_t ⟨h63, h67⟩).symm), rfl, rfl⟩
    · have hx1 : c = (-1) := hx1
      refine Ex_tabIn (tgt := 48) dX9_two_1 (by rw [hx1]; decide) (by rw [hx1]; decide) (off := 47) (by rw [hx1]; rfl) (by decide) ?_
      refine Ex_iload_n dX9_two_48 rfl ?_
      refine Ex_if_ne (tgt := 56) dX9_two_49 (by decide) (fun h49 => ?_) (fun h49 => ?_)
      · refine Ex_iconst (v := nI 1) dX9_two_56 (by rfl) ?_
        refine Ex_goto (tgt := 61) dX9_two_57 (by decide) ?_
        refine Ex_iret dX9_two_61 (by first | rfl | exact narrow_bI) ?_
        exact ⟨_, rfl, (by rw [hx1, two_m1]; exact (bI_t (Or.inl h49)).symm), rfl, rfl⟩
      · refine Ex_iload_n dX9_two_52 rfl ?_
        refine Ex_if_eq (tgt := 60) dX9_two_53 (by decide) (fun h53 => ?_) (fun h53 => ?_)
        · refine Ex_iconst (v := nI 0) dX9_two_60 (by rfl) ?_
          refine Ex_iret dX9_two_61 (by first | rfl | exact narrow_bI) ?_
          exact ⟨_, rfl, (by rw [hx1, two_m1]; exact (bI_f (fun q => q.elim (fun w => w h49) (fun w => w h53))).symm), rfl, rfl⟩
        · refine Ex_iconst (v := nI 1) dX9_two_56 (by rfl) ?_
          refine Ex_goto (tgt := 61) dX9_two_57 (by decide) ?_
          refine Ex_iret dX9_two_61 (by first | rfl | exact narrow_bI) ?_
          exact ⟨_, rfl, (by rw [hx1, two_m1]; exact (bI_t (Or.inr h53)).symm), rfl, rfl⟩
  · refine Ex_tabOut (tgt := 121) dX9_two_1 hx1 (by decide) ?_
    refine Ex_iload_n dX9_two_121 rfl ?_
    refine Ex_if_ne (tgt := 129) dX9_two_122 (by decide) (fun h122 => ?_) (fun h122 => ?_)
    · refine Ex_iload_n dX9_two_129 rfl ?_
      refine Ex_iload_n dX9_two_130 rfl ?_
      refine Ex_idiv dX9_two_131 h122 ?_
      refine Ex_iret dX9_two_132 (by first | rfl | exact narrow_bI) ?_
      exact ⟨_, rfl, (by rw [two_d hx1, if_neg h122]), rfl, rfl⟩
    · refine Ex_iconst (v := nI 0) dX9_two_125 (by rfl) ?_
      refine Ex_goto (tgt := 132) dX9_two_126 (by decide) ?_
      refine Ex_iret dX9_two_132 (by first | rfl | exact narrow_bI) ?_
      exact ⟨_, rfl, (by rw [two_d hx1, if_pos h122]; rfl), rfl, rfl⟩
set_option maxRecDepth 100000 in
set_option maxHeartbeats 4000000 in
theorem l9_worksOut {T : TC} {I : MI} {G : MG} {F : FinT} {b : Nat × Nat} (d : Nat) {M : Nat} (hM : MSh T G M) (g : Nat → Int32) (hg : I (M + 1) = g) (t N nm : Nat) (ht : t < 14) (hN : N ≤ 96) (hnm : nm ≤ 3) (fc : Int32 → Int32) (hfc : ∀ i, i < nm → fc (nI (10000 + i)) = I (M + 17) i) (hC : CdOk (cdF g t) nm N) (kx : ∀ f, SR f (evL (cdF g t) fc N) → Ex T RX9 cX9_worksOut 6 (d + 1) F 22 [some (.ref M), some (.int (nI t)), some (.int (nI (dp (cdF g t) N))), some (.int (nI N)), some (.int (nI N)), none] [] (rowI I (M + 16) f) G b) : ∀ i k f, k + i = N → SR f (evL (cdF g t) fc k) → Ex T RX9 cX9_worksOut 6 (d + 1) F 22 [some (.ref M), some (.int (nI t)), some (.int (nI (dp (cdF g t) k))), some (.int (nI N)), some (.int (nI k)), none] [] (rowI I (M + 16) f) G b := by
  intro i
  induction i with
  | zero => intro k f h0 hs; have e0 : k = N := by omega
            subst e0; exact kx f hs
  | succ i ih0 =>
    intro k f h0 hs
    have hc := hC.1 k (by omega)
    have hq := evL_len (fc := fc) hC k (by omega)
    have hqk := dp_le (code := cdF g t) k
    have ek : evL (cdF g t) fc (k + 1) = evSt fc (cdF g t k) (evL (cdF g t) fc k) := rfl
    have ed : dp (cdF g t) (k + 1) = if 0 ≤ cdF g t k then dp (cdF g t) k + 1 else if cdF g t k = (-10) then dp (cdF g t) k else dp (cdF g t) k - 1 := rfl
    have rg : ∀ f, rowI I (M + 16) f (M + 1) (172 + 96 * t + k) = cdF g t k := fun f => by rw [rowI_n (by omega), hg]; rfl
    generalize hcd : cdF g t k = c at hc ek ed rg
    generalize hL : evL (cdF g t) fc k = L at hs hq ek
    generalize hdq : dp (cdF g t) k = q at hq hqk ed hc ⊢
    refine Ex_iload dX9_worksOut_22 rfl ?_
    refine Ex_iload_n dX9_worksOut_24 rfl ?_
    refine Ex_icmp_geN (by omega) (by omega) (tgt := 157) dX9_worksOut_25 (by decide) (fun h25 => ?_) (fun h25 => ?_)
    · omega
    · refine Ex_aload_n dX9_worksOut_28 rfl ?_
      refine Ex_getr dX9_worksOut_29 fX9_9 hM.1 (mF0 hM).1 ?_
      refine Ex_sipush (v := nI 172) dX9_worksOut_32 (by rfl) ?_
      refine Ex_bipush (v := nI 96) dX9_worksOut_35 (by rfl) ?_
      refine Ex_iload_n dX9_worksOut_37 rfl ?_
      first | with_reducible refine Ex_imulN dX9_worksOut_38 ?_ | refine Ex_imul dX9_worksOut_38 ?_
      first | with_reducible refine Ex_iaddN dX9_worksOut_39 ?_ | refine Ex_iadd dX9_worksOut_39 ?_
      refine Ex_iload dX9_worksOut_40 rfl ?_
      first | with_reducible refine Ex_iaddN dX9_worksOut_42 ?_ | refine Ex_iadd dX9_worksOut_42 ?_
      refine Ex_iald dX9_worksOut_43 (mF0 hM).2.1 rfl (by rw [(mF0 hM).2.2]; omega) (by rw [(mF0 hM).2.2]; decide) ?_
      refine Ex_top (rg f) ?_
      refine Ex_istore dX9_worksOut_44 (by decide) rfl ?_
      simp only [List.set_cons_zero, List.set_cons_succ]
      refine Ex_iload dX9_worksOut_46 rfl ?_
      refine Ex_if_lt (tgt := 87) dX9_worksOut_48 (by decide) (fun h48 => ?_) (fun h48 => ?_)
      · have h48' : ¬ 0 ≤ c := Int32.not_le.mpr h48
        rw [if_neg h48'] at hc
        refine Ex_iload dX9_worksOut_87 rfl ?_
        refine Ex_bipush (v := (-10)) dX9_worksOut_89 (by rfl) ?_
        refine Ex_icmp_ne (tgt := 121) dX9_worksOut_91 (by decide) (fun h91 => ?_) (fun h91 => ?_)
        · rw [if_neg h91] at hc
          obtain ⟨y, x, r, rfl⟩ : ∃ y x r, L = y :: x :: r := by cases L with | nil => (simp at hq; omega) | cons y r => cases r with | nil => (simp at hq; omega) | cons x r => exact ⟨y, x, r, rfl⟩
          simp only [List.length_cons] at hq
          refine Ex_iinc (v := nI (q - 1)) dX9_worksOut_121 rfl (by rw [nI_dec, pk_sub (by omega)]) (by decide) rfl ?_
          simp only [st_n0, st_n1, st_n2, st_n3, List.set_cons_zero, List.set_cons_succ]
          refine Ex_aload_n dX9_worksOut_124 rfl ?_
          refine Ex_getr dX9_worksOut_125 fX9_58 hM.1 (mF27 hM).1 ?_
          refine Ex_iload_n dX9_worksOut_128 rfl ?_
          refine Ex_iconst (v := nI 1) dX9_worksOut_129 (by rfl) ?_
          refine Ex_isubN (by omega) dX9_worksOut_130 ?_
          refine Ex_iload dX9_worksOut_131 rfl ?_
          refine Ex_aload_n dX9_worksOut_133 rfl ?_
          refine Ex_getr dX9_worksOut_134 fX9_58 hM.1 (mF27 hM).1 ?_
          refine Ex_iload_n dX9_worksOut_137 rfl ?_
          refine Ex_iconst (v := nI 1) dX9_worksOut_138 (by rfl) ?_
          refine Ex_isubN (by omega) dX9_worksOut_139 ?_
          refine Ex_iald dX9_worksOut_140 (mF27 hM).2.1 rfl (by rw [(mF27 hM).2.2]; omega) (by rw [(mF27 hM).2.2]; decide) ?_
          refine Ex_top (show _ = x by rw [rowI_s, show q - 1 - 1 = r.length by omega]; exact hs.2.1) ?_
          refine Ex_aload_n dX9_worksOut_141 rfl ?_
          refine Ex_getr dX9_worksOut_142 fX9_58 hM.1 (mF27 hM).1 ?_
          refine Ex_iload_n dX9_worksOut_145 rfl ?_
          refine Ex_iald dX9_worksOut_146 (mF27 hM).2.1 rfl (by rw [(mF27 hM).2.2]; omega) (by rw [(mF27 hM).2.2]; decide) ?_
          refine Ex_top (show _ = y by rw [rowI_s, show q - 1 = r.length + 1 by omega]; exact hs.1) ?_
          refine Ex_S3p dX9_worksOut_147 sX9_275  (Nat.le_of_ble_eq_true rfl) (c9_two d _ _ _) ?_
          refine Ex_iast dX9_worksOut_150 (mF27 hM).2.1 rfl (by rw [(mF27 hM).2.2]; omega) (by rw [(mF27 hM).2.2]; decide) ?_
          first | refine Ex_iincN (m := 1) dX9_worksOut_151 rfl rfl (by decide) rfl ?_ | refine Ex_iinc dX9_worksOut_151 rfl rfl (by decide) rfl ?_
          simp only [List.set_cons_zero, List.set_cons_succ]
          refine Ex_goto (tgt := 22) dX9_worksOut_154 (by decide) ?_
          refine Ex_drop 5 ?_
          simp only [List.set_cons_zero, List.set_cons_succ]
          rw [setI_row, rowI_s, rowI_r]
          have e1 : dp (cdF g t) (k + 1) = q - 1 := by rw [ed, if_neg h48', if_neg h91]
          have key := ih0 (k + 1) (upd f (q - 1 - 1) (twoF c x y)) (by omega) (by rw [ek]; unfold evSt; rw [if_neg h48', if_neg h91]; show SR _ (twoF c x y :: r); rw [show q - 1 - 1 = r.length by omega]; exact SR_push hs.2.2)
          rw [e1] at key; exact key
        · rw [if_pos h91] at hc
          obtain ⟨x, r, rfl⟩ : ∃ x r, L = x :: r := by cases L with | nil => (simp at hq; omega) | cons x r => exact ⟨x, r, rfl⟩
          simp only [List.length_cons] at hq
          refine Ex_aload_n dX9_worksOut_94 rfl ?_
          refine Ex_getr dX9_worksOut_95 fX9_58 hM.1 (mF27 hM).1 ?_
          refine Ex_iload_n dX9_worksOut_98 rfl ?_
          refine Ex_iconst (v := nI 1) dX9_worksOut_99 (by rfl) ?_
          refine Ex_isubN (by omega) dX9_worksOut_100 ?_
          refine Ex_aload_n dX9_worksOut_101 rfl ?_
          refine Ex_getr dX9_worksOut_102 fX9_58 hM.1 (mF27 hM).1 ?_
          refine Ex_iload_n dX9_worksOut_105 rfl ?_
          refine Ex_iconst (v := nI 1) dX9_worksOut_106 (by rfl) ?_
          refine Ex_isubN (by omega) dX9_worksOut_107 ?_
          refine Ex_iald dX9_worksOut_108 (mF27 hM).2.1 rfl (by rw [(mF27 hM).2.2]; omega) (by rw [(mF27 hM).2.2]; decide) ?_
          refine Ex_top (show _ = x by rw [rowI_s, show q - 1 = r.length by omega]; exact hs.1) ?_
          refine Ex_if_ne (tgt := 116) dX9_worksOut_109 (by decide) (fun h109 => ?_) (fun h109 => ?_)
          · refine Ex_iconst (v := nI 0) dX9_worksOut_116 (by rfl) ?_
            refine Ex_iast dX9_worksOut_117 (mF27 hM).2.1 rfl (by rw [(mF27 hM).2.2]; omega) (by rw [(mF27 hM).2.2]; decide) ?_
            refine Ex_goto (tgt := 151) dX9_worksOut_118 (by decide) ?_
            first | refine Ex_iincN (m := 1) dX9_worksOut_151 rfl rfl (by decide) rfl ?_ | refine Ex_iinc dX9_worksOut_151 rfl rfl (by decide) rfl ?_
            simp only [List.set_cons_zero, List.set_cons_succ]
            refine Ex_goto (tgt := 22) dX9_worksOut_154 (by decide) ?_
            refine Ex_drop 5 ?_
            simp only [List.set_cons_zero, List.set_cons_succ]
            rw [setI_row, rowI_s, rowI_r]
            have e1 : dp (cdF g t) (k + 1) = q := by rw [ed, if_neg h48', if_pos h91]
            have key := ih0 (k + 1) (upd f (q - 1) (nI 0)) (by omega) (by rw [ek]; unfold evSt; rw [if_neg h48', if_pos h91]; have hb : bI (x = 0) = nI 0 := if_neg h109; show SR _ (bI (x = 0) :: r); rw [hb, show q - 1 = r.length by omega]; exact SR_push hs.2)
            rw [e1] at key; exact key
          · refine Ex_iconst (v := nI 1) dX9_worksOut_112 (by rfl) ?_
            refine Ex_goto (tgt := 117) dX9_worksOut_113 (by decide) ?_
            refine Ex_iast dX9_worksOut_117 (mF27 hM).2.1 rfl (by rw [(mF27 hM).2.2]; omega) (by rw [(mF27 hM).2.2]; decide) ?_
            refine Ex_goto (tgt := 151) dX9_worksOut_118 (by decide) ?_
            first | refine Ex_iincN (m := 1) dX9_worksOut_151 rfl rfl (by decide) rfl ?_ | refine Ex_iinc dX9_worksOut_151 rfl rfl (by decide) rfl ?_
            simp only [List.set_cons_zero, List.set_cons_succ]
            refine Ex_goto (tgt := 22) dX9_worksOut_154 (by decide) ?_
            refine Ex_drop 5 ?_
            simp only [List.set_cons_zero, List.set_cons_succ]
            rw [setI_row, rowI_s, rowI_r]
            have e1 : dp (cdF g t) (k + 1) = q := by rw [ed, if_neg h48', if_pos h91]
            have key := ih0 (k + 1) (upd f (q - 1) (nI 1)) (by omega) (by rw [ek]; unfold evSt; rw [if_neg h48', if_pos h91]; have hb : bI (x = 0) = nI 1 := if_pos h109; show SR _ (bI (x = 0) :: r); rw [hb, show q - 1 = r.length by omega]; exact SR_push hs.2)
            rw [e1] at key; exact key
      · have h48' : 0 ≤ c := Int32.not_lt.mp h48
        rw [if_pos h48'] at hc
        refine Ex_aload_n dX9_worksOut_51 rfl ?_
        refine Ex_getr dX9_worksOut_52 fX9_58 hM.1 (mF27 hM).1 ?_
        refine Ex_iload_n dX9_worksOut_55 rfl ?_
        refine Ex_iload dX9_worksOut_56 rfl ?_
        refine Ex_sipush (v := nI 10000) dX9_worksOut_58 (by rfl) ?_
        refine Ex_icmp_ge (tgt := 69) dX9_worksOut_61 (by decide) (fun h61 => ?_) (fun h61 => ?_)
        · obtain ⟨ci, hci1, hci⟩ : ∃ i, i < nm ∧ c = nI (10000 + i) := hc.resolve_left (Int32.not_lt.mpr h61)
          have hci9 : c - nI 10000 = nI ci := by rw [hci, pk_sub (by omega)]; congr 1; omega
          refine Ex_aload_n dX9_worksOut_69 rfl ?_
          refine Ex_getr dX9_worksOut_70 fX9_61 hM.1 (mF28 hM).1 ?_
          refine Ex_iload dX9_worksOut_73 rfl ?_
          refine Ex_sipush (v := nI 10000) dX9_worksOut_75 (by rfl) ?_
          refine Ex_isub dX9_worksOut_78 ?_
          refine Ex_top hci9 ?_
          refine Ex_iald dX9_worksOut_79 (mF28 hM).2.1 rfl (by rw [(mF28 hM).2.2]; omega) (by rw [(mF28 hM).2.2]; decide) ?_
          refine Ex_top (show _ = fc c by rw [rowI_n (by omega), hci, hfc ci hci1]) ?_
          refine Ex_iast dX9_worksOut_80 (mF27 hM).2.1 rfl (by rw [(mF27 hM).2.2]; omega) (by rw [(mF27 hM).2.2]; decide) ?_
          first | refine Ex_iincN (m := 1) dX9_worksOut_81 rfl rfl (by decide) rfl ?_ | refine Ex_iinc dX9_worksOut_81 rfl rfl (by decide) rfl ?_
          simp only [List.set_cons_zero, List.set_cons_succ]
          refine Ex_goto (tgt := 151) dX9_worksOut_84 (by decide) ?_
          first | refine Ex_iincN (m := 1) dX9_worksOut_151 rfl rfl (by decide) rfl ?_ | refine Ex_iinc dX9_worksOut_151 rfl rfl (by decide) rfl ?_
          simp only [List.set_cons_zero, List.set_cons_succ]
          refine Ex_goto (tgt := 22) dX9_worksOut_154 (by decide) ?_
          refine Ex_drop 5 ?_
          simp only [List.set_cons_zero, List.set_cons_succ]
          rw [setI_row, rowI_s, rowI_r]
          have e1 : dp (cdF g t) (k + 1) = q + 1 := by rw [ed, if_pos h48']
          have key := ih0 (k + 1) (upd f q (fc c)) (by omega) (by rw [ek]; unfold evSt; rw [if_pos h48', if_neg (Int32.not_lt.mpr h61), ← hq]; exact SR_push hs)
          rw [e1] at key; exact key
        · refine Ex_iload dX9_worksOut_64 rfl ?_
          refine Ex_goto (tgt := 80) dX9_worksOut_66 (by decide) ?_
          refine Ex_iast dX9_worksOut_80 (mF27 hM).2.1 rfl (by rw [(mF27 hM).2.2]; omega) (by rw [(mF27 hM).2.2]; decide) ?_
          first | refine Ex_iincN (m := 1) dX9_worksOut_81 rfl rfl (by decide) rfl ?_ | refine Ex_iinc dX9_worksOut_81 rfl rfl (by decide) rfl ?_
          simp only [List.set_cons_zero, List.set_cons_succ]
          refine Ex_goto (tgt := 151) dX9_worksOut_84 (by decide) ?_
          first | refine Ex_iincN (m := 1) dX9_worksOut_151 rfl rfl (by decide) rfl ?_ | refine Ex_iinc dX9_worksOut_151 rfl rfl (by decide) rfl ?_
          simp only [List.set_cons_zero, List.set_cons_succ]
          refine Ex_goto (tgt := 22) dX9_worksOut_154 (by decide) ?_
          refine Ex_drop 5 ?_
          simp only [List.set_cons_zero, List.set_cons_succ]
          rw [setI_row, rowI_s, rowI_r]
          have e1 : dp (cdF g t) (k + 1) = q + 1 := by rw [ed, if_pos h48']
          have key := ih0 (k + 1) (upd f q (c)) (by omega) (by rw [ek]; unfold evSt; rw [if_pos h48', if_pos (Int32.not_le.mp h61), ← hq]; exact SR_push hs)
          rw [e1] at key; exact key
set_option maxRecDepth 100000 in
set_option maxHeartbeats 4000000 in
theorem c9_worksOut {T : TC} {I : MI} {G : MG} (d : Nat) {M : Nat} (hM : MSh T G M) (g : Nat → Int32) (t : Nat) (fc : Int32 → Int32) (hg : I (M + 1) = g) (ht : t < 14) (hT : TxOk g t) (hfc : ∀ i, i < nmOf (kyN g t) → fc (nI (10000 + i)) = I (M + 17) i) : OkI T mX9_worksOut (d + 1) [.ref M, .int (nI t)] I G (fun r I' G' => r = evF g t fc ∧ Fr (fun a => a = M + 16) I I' ∧ G' = G) := by
  refine Ok_of (own := RX9) (by decide) rfl (cat1 rfl) (Nat.le_of_ble_eq_true rfl) ?_
  show Ex T RX9 cX9_worksOut 6 (d + 1) _ 0 [some (.ref M), some (.int (nI t)), none, none, none, none] [] I G (0, 0)
  obtain ⟨hk3, h96, he, hC⟩ := hT
  have hnm : nmOf (kyN g t) ≤ 3 := by unfold nmOf; split <;> omega
  refine Ex_iconst (v := nI 0) dX9_worksOut_0 (by rfl) ?_
  refine Ex_istore_n dX9_worksOut_1 (by decide) rfl ?_
  simp only [st_n0, st_n1, st_n2, st_n3, List.set_cons_zero, List.set_cons_succ]
  refine Ex_aload_n dX9_worksOut_2 rfl ?_
  refine Ex_getr dX9_worksOut_3 fX9_9 hM.1 (mF0 hM).1 ?_
  refine Ex_sipush (v := nI 144) dX9_worksOut_6 (by rfl) ?_
  refine Ex_iconst (v := nI 2) dX9_worksOut_9 (by rfl) ?_
  refine Ex_iload_n dX9_worksOut_10 rfl ?_
  first | with_reducible refine Ex_imulN dX9_worksOut_11 ?_ | refine Ex_imul dX9_worksOut_11 ?_
  first | with_reducible refine Ex_iaddN dX9_worksOut_12 ?_ | refine Ex_iadd dX9_worksOut_12 ?_
  refine Ex_iald dX9_worksOut_13 (mF0 hM).2.1 rfl (by rw [(mF0 hM).2.2]; omega) (by rw [(mF0 hM).2.2]; decide) ?_
  refine Ex_top (show _ = nI (1000 * kyN g t + cdN g t) by rw [hg]; exact he) ?_
  refine Ex_sipush (v := nI 1000) dX9_worksOut_14 (by rfl) ?_
  refine Ex_iremN (by omega) (by omega) (by omega) dX9_worksOut_17 ?_
  refine Ex_top (show nI ((1000 * kyN g t + cdN g t) % 1000) = nI (cdN g t) by congr 1; omega) ?_
  refine Ex_istore_n dX9_worksOut_18 (by decide) rfl ?_
  simp only [st_n0, st_n1, st_n2, st_n3, List.set_cons_zero, List.set_cons_succ]
  refine Ex_iconst (v := nI 0) dX9_worksOut_19 (by rfl) ?_
  refine Ex_istore dX9_worksOut_20 (by decide) rfl ?_
  simp only [List.set_cons_zero, List.set_cons_succ]
  refine Ex_eqI (rowI_self (a := M + 16)).symm ?_
  refine l9_worksOut d hM g hg t (cdN g t) _ ht h96 hnm fc hfc hC ?_ (cdN g t) 0 _ (by omega) trivial
  intro f hf
  have hf0 : f 0 = evF g t fc := by
    have hl := evL_len (fc := fc) hC (cdN g t) (Nat.le_refl _)
    rw [hC.2] at hl
    unfold evF
    cases hL : evL (cdF g t) fc (cdN g t) with
    | nil => rw [hL] at hl; simp at hl
    | cons x r => rw [hL] at hl hf; cases r with | nil => exact hf.1 | cons y r => simp at hl
  refine Ex_iload dX9_worksOut_22 rfl ?_
  refine Ex_iload_n dX9_worksOut_24 rfl ?_
  refine Ex_icmp_geN (by omega) (by omega) (tgt := 157) dX9_worksOut_25 (by decide) (fun h25 => ?_) (fun h25 => ?_)
  · refine Ex_aload_n dX9_worksOut_157 rfl ?_
    refine Ex_getr dX9_worksOut_158 fX9_58 hM.1 (mF27 hM).1 ?_
    refine Ex_iconst (v := nI 0) dX9_worksOut_161 (by rfl) ?_
    refine Ex_iald dX9_worksOut_162 (mF27 hM).2.1 rfl (by rw [(mF27 hM).2.2]; omega) (by rw [(mF27 hM).2.2]; decide) ?_
    refine Ex_top (show _ = evF g t fc by rw [rowI_s]; exact hf0) ?_
    refine Ex_iret dX9_worksOut_163 (by first | rfl | exact narrow_bI) ?_
    exact ⟨_, rfl, rfl, Fr.row rfl, rfl⟩
  · omega
