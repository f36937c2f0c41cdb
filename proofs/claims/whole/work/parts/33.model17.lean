/-! whose -/
def jN (n : Nat) : Int64 := Int64.ofNat n
theorem jN_add {a b : Nat} : jN a + jN b = jN (a + b) := (Int64.ofNat_add a b).symm
theorem jN_toInt {n : Nat} (h : n < 2 ^ 63) : (jN n).toInt = n := lg_ofNat_toInt h
theorem jN_i {n : Nat} : (jN n).toInt32 = nI n := by
  unfold jN
  exact Int64.toInt32_ofNat
theorem jN_ge {a b : Nat} (ha : a < 2 ^ 63) (hb : b < 2 ^ 63) : 0 ≤ lg_cmp (jN a) (jN b) ↔ ¬ a < b := by
  rw [lg_cmp_ge, Int64.le_iff_toInt_le, jN_toInt ha, jN_toInt hb]
  omega
def LG (G : MG) (L : Nat → Nat → Int64) : MG := (gR G, L, gK G, gN G, gS G)
theorem LG_s {G : MG} {L : Nat → Nat → Int64} {a j : Nat} {v : Int64} : setG (LG G L) a j v = LG G (fun x y => if x = a ∧ y = j then v else L x y) := rfl
theorem LG_L {G : MG} : LG G (gL G) = G := rfl
theorem MSh_L {T : TC} {G : MG} {M : Nat} {L : Nat → Nat → Int64} (h : MSh T G M) : MSh T (LG G L) M := h
def wA (v m : Int32) : Nat := if v = cNONE then 0 else (v.toInt - m.toInt).natAbs
def wD (g row : Nat → Int32) (s : Nat) : Nat → Nat
  | 0 => 0
  | k + 1 => wD g row s k + wA (row k) (daysG g k (8 + 17 * s + 2))
def wb (f : Nat → Nat) : Nat → Nat
  | 0 => 0
  | n + 1 => if f n < f (wb f n) then n else wb f n
theorem wb_lt {f : Nat → Nat} : ∀ n, wb f (n + 1) < n + 1
  | 0 => by unfold wb; split <;> (show (_ : Nat) < 1; first | omega | exact Nat.lt_succ_self 0)
  | n + 1 => by
    have := wb_lt (f := f) n
    rw [wb]
    split <;> omega
theorem wb_1 {f : Nat → Nat} : wb f (0 + 1) = 0 := by
  show (if f 0 < f 0 then 0 else 0) = 0
  split <;> rfl
def wR (f : Nat → Nat) (n : Nat) (w : Int32) : Int32 := if n = 0 then cNONE else if w = 0 then nI (wb f n) else nI (f (wb f n))
def r_whose (g so : Nat → Int32) (sz : Nat → Nat) (ce : Nat → Nat → Int32) (s w : Int32) : Int32 := if inR s 4 ∧ inR w 2 then (if so (cl s) < 0 then cNOTHING else wR (fun j => wD g (ce (cl s)) j (sz (cl s))) (nS g) w) else cBAD
theorem i32_b (x : Int32) : -2 ^ 31 ≤ x.toInt ∧ x.toInt < 2 ^ 31 := ⟨Int32.le_toInt x, Int32.toInt_lt x⟩
theorem wA_le {v m : Int32} : wA v m ≤ 2 ^ 32 := by
  have h1 := i32_b v
  have h2 := i32_b m
  unfold wA
  split <;> omega
theorem wD_le {g row : Nat → Int32} {s : Nat} : ∀ k, wD g row s k ≤ k * 2 ^ 32
  | 0 => Nat.le_refl _
  | k + 1 => by
    have := wD_le (g := g) (row := row) (s := s) k
    have h := wA_le (v := row k) (m := daysG g k (8 + 17 * s + 2))
    unfold wD
    omega
theorem i64_b (x : Int64) : -2 ^ 63 ≤ x.toInt ∧ x.toInt < 2 ^ 63 := ⟨Int64.le_toInt x, Int64.toInt_lt x⟩
theorem wA_0 {v m : Int32} (h : v = cNONE) : (0 : Int64) = jN (wA v m) := by unfold wA; rw [if_pos h]; rfl
theorem wA_p {v m : Int32} (h : ¬ v = cNONE) (h2 : 0 ≤ lg_cmp (v.toInt64 - m.toInt64) 0) : v.toInt64 - m.toInt64 = jN (wA v m) := by
  have h1 := i32_b v
  have h3 := i32_b m
  rw [lg_cmp_ge, Int64.le_iff_toInt_le, lg_i2l_sub] at h2
  have h0 : (0 : Int64).toInt = 0 := rfl
  unfold wA
  rw [if_neg h, ← Int64.toInt_inj, lg_i2l_sub, jN_toInt (by omega)]
  omega
theorem wA_m {v m : Int32} (h : ¬ v = cNONE) (h2 : ¬ 0 ≤ lg_cmp (v.toInt64 - m.toInt64) 0) : -(v.toInt64 - m.toInt64) = jN (wA v m) := by
  have h1 := i32_b v
  have h3 := i32_b m
  rw [lg_cmp_ge, Int64.le_iff_toInt_le, lg_i2l_sub] at h2
  have h0 : (0 : Int64).toInt = 0 := rfl
  unfold wA
  rw [if_neg h, ← Int64.toInt_inj, Int64.toInt_neg, lg_i2l_sub, jN_toInt (by omega), Int.bmod_eq_of_le (by omega) (by omega)]
  omega
theorem wh_step {L : Nat → Nat → Int64} {a n s : Nat} {f e : Nat → Nat} {X : Int64} (hL : ∀ j, j < n → L a j = jN (f j + if j < s then e j else 0)) (hs : s < n) (hX : X = jN (e s)) : ∀ j, j < n → (if a = a ∧ j = s then L a s + X else L a j) = jN (f j + if j < s + 1 then e j else 0) := by
  intro j hj
  by_cases h : j = s
  · rw [if_pos ⟨rfl, h⟩, hL s hs, hX, jN_add, if_neg (by omega), h, if_pos (by omega)]; rfl
  · rw [if_neg (fun q => h q.2), hL j hj]
    by_cases h2 : j < s
    · rw [if_pos h2, if_pos (by omega)]
    · rw [if_neg h2, if_neg (by omega)]
set_option maxRecDepth 100000 in
set_option maxHeartbeats 4000000 in
theorem z9_whose {T : TC} {G : MG} {b : Nat × Nat} {F : _} (d : Nat) {M : Nat} (hM : MSh T G M) (a w : Int32) (n : Nat) (hn : n ≤ 8) (x5 x6 x7 x8 : Option Value) (J : MI) (K : ∀ L', (∀ j, j < n → L' (M + 9) j = jN 0) → Ex T RX9 cX9_whose 9 (d + 5) F 65 [some (.ref M), some (.int a), some (.int w), some (.int (nI n)), some (.int (nI n)), x5, x6, x7, x8] [] J (LG G L') b) : ∀ i s L, s + i = n → (∀ j, j < s → L (M + 9) j = jN 0) → Ex T RX9 cX9_whose 9 (d + 5) F 45 [some (.ref M), some (.int a), some (.int w), some (.int (nI n)), some (.int (nI s)), x5, x6, x7, x8] [] J (LG G L) b := by
  intro i
  induction i with
  | zero =>
    intro s L h0 hL
    have e : s = n := h0
    subst e
    refine Ex_iload dX9_whose_45 rfl ?_
    refine Ex_iload_n dX9_whose_47 rfl ?_
    refine Ex_icmp_geN (by omega) (by omega) (tgt := 65) dX9_whose_48 (by decide) (fun h48 => ?_) (fun h48 => ?_)
    · exact K L hL
    · omega
  | succ i ih =>
    intro s L h0 hL
    have hM : MSh T (LG G L) M := MSh_L hM
    refine Ex_iload dX9_whose_45 rfl ?_
    refine Ex_iload_n dX9_whose_47 rfl ?_
    refine Ex_icmp_geN (by omega) (by omega) (tgt := 65) dX9_whose_48 (by decide) (fun h48 => ?_) (fun h48 => ?_)
    · omega
    · refine Ex_aload_n dX9_whose_51 rfl ?_
      refine Ex_getr dX9_whose_52 fX9_34 hM.1 (mF10 hM).1 ?_
      refine Ex_iload dX9_whose_55 rfl ?_
      refine Ex_lconst (v := 0) dX9_whose_57 (by rfl) ?_
      refine Ex_last dX9_whose_58 (mF10 hM).2.1 rfl (by rw [(mF10 hM).2.2]; omega) (by rw [(mF10 hM).2.2]; decide) ?_
      rw [LG_s]
      first | refine Ex_iincN (m := 1) dX9_whose_59 rfl rfl (by decide) rfl ?_ | refine Ex_iinc dX9_whose_59 rfl rfl (by decide) rfl ?_
      simp only [List.set_cons_zero, List.set_cons_succ]
      refine Ex_goto (tgt := 45) dX9_whose_62 (by decide) ?_
      refine ih (s + 1) _ (by omega) (fun j hj => ?_)
      by_cases h : j = s
      · exact if_pos ⟨rfl, h⟩
      · exact (if_neg (fun q => h q.2)).trans (hL j (by omega))
set_option maxRecDepth 100000 in
set_option maxHeartbeats 4000000 in
theorem i9_whose {T : TC} {G : MG} {b : Nat × Nat} {F : _} (d : Nat) {M : Nat} (hM : MSh T G M) (a w v : Int32) (n k : Nat) (hn : n ≤ 8) (J : MI) (f : Nat → Nat) (K : ∀ x7 x8 L', (∀ j, j < n → L' (M + 9) j = jN (f j + wA v (J (M + 1) (8 + 17 * j + 2)))) → Ex T RX9 cX9_whose 9 (d + 5) F 158 [some (.ref M), some (.int a), some (.int w), some (.int (nI n)), some (.int (nI k)), some (.int v), some (.int (nI n)), x7, x8] [] J (LG G L') b) : ∀ i s L x7 x8, s + i = n → (∀ j, j < n → L (M + 9) j = jN (f j + if j < s then wA v (J (M + 1) (8 + 17 * j + 2)) else 0)) → Ex T RX9 cX9_whose 9 (d + 5) F 96 [some (.ref M), some (.int a), some (.int w), some (.int (nI n)), some (.int (nI k)), some (.int v), some (.int (nI s)), x7, x8] [] J (LG G L) b := by
  intro i
  induction i with
  | zero =>
    intro s L x7 x8 h0 hL
    have e : s = n := h0
    subst e
    refine Ex_iload dX9_whose_96 rfl ?_
    refine Ex_iload_n dX9_whose_98 rfl ?_
    refine Ex_icmp_geN (by omega) (by omega) (tgt := 158) dX9_whose_99 (by decide) (fun h99 => ?_) (fun h99 => ?_)
    · exact K _ _ L (fun j hj => by rw [hL j hj, if_pos hj])
    · omega
  | succ i ih =>
    intro s L x7 x8 h0 hL
    have hM : MSh T (LG G L) M := MSh_L hM
    refine Ex_iload dX9_whose_96 rfl ?_
    refine Ex_iload_n dX9_whose_98 rfl ?_
    refine Ex_icmp_geN (by omega) (by omega) (tgt := 158) dX9_whose_99 (by decide) (fun h99 => ?_) (fun h99 => ?_)
    · omega
    · refine Ex_iload dX9_whose_102 rfl ?_
      refine Ex_i2l dX9_whose_104 ?_
      refine Ex_aload_n dX9_whose_105 rfl ?_
      refine Ex_iload dX9_whose_106 rfl ?_
      refine Ex_iconst (v := nI 2) dX9_whose_108 (by rfl) ?_
      refine Ex_V2p dX9_whose_109 sX9_105 hM.1 (Nat.le_of_ble_eq_true rfl) (c9_of (d + 4) hM s 2 (by omega)) ?_
      refine Ex_i2l dX9_whose_112 ?_
      refine Ex_lsub dX9_whose_113 ?_
      refine Ex_lstore dX9_whose_114 (by decide) rfl ?_
      simp only [List.set_cons_zero, List.set_cons_succ]
      refine Ex_aload_n dX9_whose_116 rfl ?_
      refine Ex_getr dX9_whose_117 fX9_34 hM.1 (mF10 hM).1 ?_
      refine Ex_iload dX9_whose_120 rfl ?_
      refine Ex_dup2 dX9_whose_122 rfl rfl ?_
      refine Ex_lald dX9_whose_123 (mF10 hM).2.1 rfl (by rw [(mF10 hM).2.2]; omega) (by rw [(mF10 hM).2.2]; decide) ?_
      refine Ex_iload dX9_whose_124 rfl ?_
      refine Ex_ldc dX9_whose_126 kX9_133 ?_
      refine Ex_icmp_ne (tgt := 135) dX9_whose_128 (by decide) (fun h128 => ?_) (fun h128 => ?_)
      · refine Ex_lload dX9_whose_135 rfl ?_
        refine Ex_lconst (v := 0) dX9_whose_137 (by rfl) ?_
        refine Ex_lcmp dX9_whose_138 ?_
        refine Ex_if_ge (tgt := 148) dX9_whose_139 (by decide) (fun h139 => ?_) (fun h139 => ?_)
        · refine Ex_lload dX9_whose_148 rfl ?_
          refine Ex_ladd dX9_whose_150 ?_
          refine Ex_last dX9_whose_151 (mF10 hM).2.1 rfl (by rw [(mF10 hM).2.2]; omega) (by rw [(mF10 hM).2.2]; decide) ?_
          rw [LG_s]
          first | refine Ex_iincN (m := 1) dX9_whose_152 rfl rfl (by decide) rfl ?_ | refine Ex_iinc dX9_whose_152 rfl rfl (by decide) rfl ?_
          simp only [List.set_cons_zero, List.set_cons_succ]
          refine Ex_goto (tgt := 96) dX9_whose_155 (by decide) ?_
          exact ih (s + 1) _ _ _ (by omega) (wh_step (e := fun j => wA v (J (M + 1) (8 + 17 * j + 2))) hL (by omega) (wA_p h128 h139))
        · refine Ex_lload dX9_whose_142 rfl ?_
          refine Ex_lneg dX9_whose_144 ?_
          refine Ex_goto (tgt := 150) dX9_whose_145 (by decide) ?_
          refine Ex_ladd dX9_whose_150 ?_
          refine Ex_last dX9_whose_151 (mF10 hM).2.1 rfl (by rw [(mF10 hM).2.2]; omega) (by rw [(mF10 hM).2.2]; decide) ?_
          rw [LG_s]
          first | refine Ex_iincN (m := 1) dX9_whose_152 rfl rfl (by decide) rfl ?_ | refine Ex_iinc dX9_whose_152 rfl rfl (by decide) rfl ?_
          simp only [List.set_cons_zero, List.set_cons_succ]
          refine Ex_goto (tgt := 96) dX9_whose_155 (by decide) ?_
          exact ih (s + 1) _ _ _ (by omega) (wh_step (e := fun j => wA v (J (M + 1) (8 + 17 * j + 2))) hL (by omega) (wA_m h128 h139))
      · refine Ex_lconst (v := 0) dX9_whose_131 (by rfl) ?_
        refine Ex_goto (tgt := 150) dX9_whose_132 (by decide) ?_
        refine Ex_ladd dX9_whose_150 ?_
        refine Ex_last dX9_whose_151 (mF10 hM).2.1 rfl (by rw [(mF10 hM).2.2]; omega) (by rw [(mF10 hM).2.2]; decide) ?_
        rw [LG_s]
        first | refine Ex_iincN (m := 1) dX9_whose_152 rfl rfl (by decide) rfl ?_ | refine Ex_iinc dX9_whose_152 rfl rfl (by decide) rfl ?_
        simp only [List.set_cons_zero, List.set_cons_succ]
        refine Ex_goto (tgt := 96) dX9_whose_155 (by decide) ?_
        exact ih (s + 1) _ _ _ (by omega) (wh_step (e := fun j => wA v (J (M + 1) (8 + 17 * j + 2))) hL (by omega) (wA_0 h128))
set_option maxRecDepth 100000 in
set_option maxHeartbeats 4000000 in
theorem o9_whose {T : TC} {G : MG} {b : Nat × Nat} {F : _} (d : Nat) {M : Nat} (hM : MSh T G M) (w : Int32) (I : MI) (g : Nat → Int32) (hW : WfG g) (n s' z : Nat) (hn : n ≤ 8) (hs' : s' < 4) (hz : z ≤ 24) (hz1 : I (M + 19) s' = nI z) (K : ∀ J L x5 x6 x7 x8, J (M + 1) = daysG g z → Th M g I J → (∀ j, j < n → L (M + 9) j = jN (wD g (fun k => I (M + 20) (24 * s' + k)) j z)) → Ex T RX9 cX9_whose 9 (d + 5) F 168 [some (.ref M), some (.int (nI s')), some (.int w), some (.int (nI n)), some (.int (nI z)), x5, x6, x7, x8] [] J (LG G L) b) : ∀ i k J L x5 x6 x7 x8, k + i = z → J (M + 1) = daysG g k → Th M g I J → (∀ j, j < n → L (M + 9) j = jN (wD g (fun k => I (M + 20) (24 * s' + k)) j k)) → Ex T RX9 cX9_whose 9 (d + 5) F 68 [some (.ref M), some (.int (nI s')), some (.int w), some (.int (nI n)), some (.int (nI k)), x5, x6, x7, x8] [] J (LG G L) b := by
  intro i
  induction i with
  | zero =>
    intro k J L x5 x6 x7 x8 h0 h1 hT hL
    have e : k = z := h0
    subst e
    have hM : MSh T (LG G L) M := MSh_L hM
    refine Ex_iload dX9_whose_68 rfl ?_
    refine Ex_aload_n dX9_whose_70 rfl ?_
    refine Ex_getr dX9_whose_71 fX9_67 hM.1 (mF30 hM).1 ?_
    refine Ex_iload_n dX9_whose_74 rfl ?_
    refine Ex_iald dX9_whose_75 (mF30 hM).2.1 rfl (by rw [(mF30 hM).2.2]; omega) (by rw [(mF30 hM).2.2]; decide) ?_
    refine Ex_top (show _ = nI k by rw [hT.2 _ (by unfold Pt; omega)]; exact hz1) ?_
    refine Ex_icmp_geN (by omega) (by omega) (tgt := 168) dX9_whose_76 (by decide) (fun h76 => ?_) (fun h76 => ?_)
    · exact K J L _ _ _ _ h1 hT hL
    · omega
  | succ i ih =>
    intro k J L x5 x6 x7 x8 h0 h1 hT hL
    have hM0 := hM
    have hM : MSh T (LG G L) M := MSh_L hM
    refine Ex_iload dX9_whose_68 rfl ?_
    refine Ex_aload_n dX9_whose_70 rfl ?_
    refine Ex_getr dX9_whose_71 fX9_67 hM.1 (mF30 hM).1 ?_
    refine Ex_iload_n dX9_whose_74 rfl ?_
    refine Ex_iald dX9_whose_75 (mF30 hM).2.1 rfl (by rw [(mF30 hM).2.2]; omega) (by rw [(mF30 hM).2.2]; decide) ?_
    refine Ex_top (show _ = nI z by rw [hT.2 _ (by unfold Pt; omega)]; exact hz1) ?_
    refine Ex_icmp_geN (by omega) (by omega) (tgt := 168) dX9_whose_76 (by decide) (fun h76 => ?_) (fun h76 => ?_)
    · omega
    · refine Ex_aload_n dX9_whose_79 rfl ?_
      refine Ex_getr dX9_whose_80 fX9_70 hM.1 (mF31 hM).1 ?_
      refine Ex_bipush (v := nI 24) dX9_whose_83 (by rfl) ?_
      refine Ex_iload_n dX9_whose_85 rfl ?_
      first | with_reducible refine Ex_imulN dX9_whose_86 ?_ | refine Ex_imul dX9_whose_86 ?_
      refine Ex_iload dX9_whose_87 rfl ?_
      first | with_reducible refine Ex_iaddN dX9_whose_89 ?_ | refine Ex_iadd dX9_whose_89 ?_
      refine Ex_iald dX9_whose_90 (mF31 hM).2.1 rfl (by rw [(mF31 hM).2.2]; omega) (by rw [(mF31 hM).2.2]; decide) ?_
      refine Ex_top (show _ = I (M + 20) (24 * s' + k) by rw [hT.2 _ (by unfold Pt; omega)]) ?_
      refine Ex_istore dX9_whose_91 (by decide) rfl ?_
      simp only [List.set_cons_zero, List.set_cons_succ]
      refine Ex_iconst (v := nI 0) dX9_whose_93 (by rfl) ?_
      refine Ex_istore dX9_whose_94 (by decide) rfl ?_
      simp only [List.set_cons_zero, List.set_cons_succ]
      refine i9_whose d hM0 (nI s') w (I (M + 20) (24 * s' + k)) n k hn J (fun j => wD g (fun k => I (M + 20) (24 * s' + k)) j k) ?_ n 0 L _ _ (by omega) (fun j hj => by rw [hL j hj, if_neg (by omega)]; rfl)
      intro y7 y8 L2 hL2
      have hM : MSh T (LG G L2) M := MSh_L hM0
      refine Ex_aload_n dX9_whose_158 rfl ?_
      refine Ex_V0v dX9_whose_159 sX9_163 hM.1 (Nat.le_of_ble_eq_true rfl) (c9_day d hM (by rw [h1]; exact WfG_days hW k)) ?_
      rintro J2 _ ⟨hj, hf, rfl⟩
      first | refine Ex_iincN (m := 1) dX9_whose_162 rfl rfl (by decide) rfl ?_ | refine Ex_iinc dX9_whose_162 rfl rfl (by decide) rfl ?_
      simp only [List.set_cons_zero, List.set_cons_succ]
      refine Ex_goto (tgt := 68) dX9_whose_165 (by decide) ?_
      exact ih (k + 1) J2 L2 _ _ _ _ (by omega) (by rw [hj, h1]; rfl) (hT.step hf) (fun j hj => by rw [hL2 j hj, h1]; rfl)
set_option maxRecDepth 100000 in
set_option maxHeartbeats 4000000 in
theorem f9_whose {T : TC} {I : MI} {G : MG} {b : Nat × Nat} (d : Nat) {M : Nat} (hM : MSh T G M) (a w : Int32) (n : Nat) (hn : n ≤ 8) (f : Nat → Nat) (hf : ∀ j, j < n → f j < 2 ^ 63) (J : MI) (L : Nat → Nat → Int64) (hJ : J (M + 1) = I (M + 1)) (hF : Fr (Pt M) I J) (hL : ∀ j, j < n → L (M + 9) j = jN (f j)) (x6 x7 x8 : Option Value) (q : Nat) : Ex T RX9 cX9_whose 9 (d + 5) (fm T "whose" (some .int) (fun v I' G' => ∃ x, v = some (.int x) ∧ x = wR f n w ∧ I' (M + 1) = I (M + 1) ∧ Fr (Pt M) I I' ∧ ∃ L, G' = LG G L)) 217 [some (.ref M), some (.int a), some (.int w), some (.int (nI n)), some (.int (nI (wb f n))), some (.int (nI q)), x6, x7, x8] [] J (LG G L) b := by
  have hM : MSh T (LG G L) M := MSh_L hM
  refine Ex_iload_n dX9_whose_217 rfl ?_
  refine Ex_if_ne (tgt := 226) dX9_whose_218 (by decide) (fun h218 => ?_) (fun h218 => ?_)
  · refine Ex_iload_n dX9_whose_226 rfl ?_
    refine Ex_if_ne (tgt := 235) dX9_whose_227 (by decide) (fun h227 => ?_) (fun h227 => ?_)
    · have hw0 : wb f n < n := by
        have h0 : ¬ n = 0 := fun q => h218 (by rw [q]; rfl)
        obtain ⟨m, rfl⟩ : ∃ m, n = m + 1 := ⟨n - 1, by omega⟩
        exact wb_lt m
      refine Ex_aload_n dX9_whose_235 rfl ?_
      refine Ex_getr dX9_whose_236 fX9_34 hM.1 (mF10 hM).1 ?_
      refine Ex_iload dX9_whose_239 rfl ?_
      refine Ex_lald dX9_whose_241 (mF10 hM).2.1 rfl (by rw [(mF10 hM).2.2]; omega) (by rw [(mF10 hM).2.2]; decide) ?_
      refine Ex_l2i dX9_whose_242 ?_
      refine Ex_top (show _ = nI (f (wb f n)) from (congrArg Int64.toInt32 (hL _ hw0)).trans jN_i) ?_
      refine Ex_iret dX9_whose_243 (by first | rfl | exact narrow_bI) ?_
      exact ⟨_, rfl, (by unfold wR; rw [if_neg (fun q => h218 (by rw [q]; rfl)), if_neg h227]), hJ, hF, ⟨L, rfl⟩⟩
    · refine Ex_iload dX9_whose_230 rfl ?_
      refine Ex_goto (tgt := 243) dX9_whose_232 (by decide) ?_
      refine Ex_iret dX9_whose_243 (by first | rfl | exact narrow_bI) ?_
      exact ⟨_, rfl, (by unfold wR; rw [if_neg (fun q => h218 (by rw [q]; rfl)), if_pos h227]), hJ, hF, ⟨L, rfl⟩⟩
  · refine Ex_ldc dX9_whose_221 kX9_133 ?_
    refine Ex_goto (tgt := 243) dX9_whose_223 (by decide) ?_
    refine Ex_iret dX9_whose_243 (by first | rfl | exact narrow_bI) ?_
    exact ⟨_, rfl, (by unfold wR; rw [if_pos ((nI_eq (b := 0) (by omega) (by omega)).mp h218)]), hJ, hF, ⟨L, rfl⟩⟩
set_option maxRecDepth 100000 in
set_option maxHeartbeats 4000000 in
theorem e9_whose {T : TC} {I : MI} {G : MG} {b : Nat × Nat} (d : Nat) {M : Nat} (hM : MSh T G M) (a w : Int32) (n : Nat) (hn : n ≤ 8) (f : Nat → Nat) (hf : ∀ j, j < n → f j < 2 ^ 63) (J : MI) (L : Nat → Nat → Int64) (hJ : J (M + 1) = I (M + 1)) (hF : Fr (Pt M) I J) (hL : ∀ j, j < n → L (M + 9) j = jN (f j)) (x6 x7 x8 : Option Value) : ∀ i q, q + 1 + i = n → Ex T RX9 cX9_whose 9 (d + 5) (fm T "whose" (some .int) (fun v I' G' => ∃ x, v = some (.int x) ∧ x = wR f n w ∧ I' (M + 1) = I (M + 1) ∧ Fr (Pt M) I I' ∧ ∃ L, G' = LG G L)) 178 [some (.ref M), some (.int a), some (.int w), some (.int (nI n)), some (.int (nI (wb f (q + 1)))), some (.int (nI (q + 1))), x6, x7, x8] [] J (LG G L) b := by
  intro i
  have hM0 := hM
  have hM : MSh T (LG G L) M := MSh_L hM
  induction i with
  | zero =>
    intro q h0
    have e : q + 1 = n := h0
    subst e
    refine Ex_iload dX9_whose_178 rfl ?_
    refine Ex_iload_n dX9_whose_180 rfl ?_
    refine Ex_icmp_geN (by omega) (by omega) (tgt := 217) dX9_whose_181 (by decide) (fun h181 => ?_) (fun h181 => ?_)
    · exact f9_whose d hM0 a w (q + 1) hn f hf J L hJ hF hL x6 x7 x8 _
    · omega
  | succ i ih =>
    intro q h0
    have hw0 := wb_lt (f := f) q
    have hwb : wb f (q + 1 + 1) = if f (q + 1) < f (wb f (q + 1)) then q + 1 else wb f (q + 1) := rfl
    refine Ex_iload dX9_whose_178 rfl ?_
    refine Ex_iload_n dX9_whose_180 rfl ?_
    refine Ex_icmp_geN (by omega) (by omega) (tgt := 217) dX9_whose_181 (by decide) (fun h181 => ?_) (fun h181 => ?_)
    · omega
    · refine Ex_aload_n dX9_whose_184 rfl ?_
      refine Ex_getr dX9_whose_185 fX9_34 hM.1 (mF10 hM).1 ?_
      refine Ex_iload dX9_whose_188 rfl ?_
      refine Ex_lald dX9_whose_190 (mF10 hM).2.1 rfl (by rw [(mF10 hM).2.2]; omega) (by rw [(mF10 hM).2.2]; decide) ?_
      rw [show gL (LG G L) (M + 9) (q + 1) = jN (f (q + 1)) from hL _ (by omega)]
      refine Ex_aload_n dX9_whose_191 rfl ?_
      refine Ex_getr dX9_whose_192 fX9_34 hM.1 (mF10 hM).1 ?_
      refine Ex_iload dX9_whose_195 rfl ?_
      refine Ex_lald dX9_whose_197 (mF10 hM).2.1 rfl (by rw [(mF10 hM).2.2]; omega) (by rw [(mF10 hM).2.2]; decide) ?_
      rw [show gL (LG G L) (M + 9) (wb f (q + 1)) = jN (f (wb f (q + 1))) from hL _ (by omega)]
      refine Ex_lcmp dX9_whose_198 ?_
      refine Ex_if_ge (tgt := 207) dX9_whose_199 (by decide) (fun h199 => ?_) (fun h199 => ?_)
      · refine Ex_iload dX9_whose_207 rfl ?_
        refine Ex_istore dX9_whose_209 (by decide) rfl ?_
        simp only [List.set_cons_zero, List.set_cons_succ]
        first | refine Ex_iincN (m := 1) dX9_whose_211 rfl rfl (by decide) rfl ?_ | refine Ex_iinc dX9_whose_211 rfl rfl (by decide) rfl ?_
        simp only [List.set_cons_zero, List.set_cons_succ]
        refine Ex_goto (tgt := 178) dX9_whose_214 (by decide) ?_
        have key := ih (q + 1) (by omega)
        rw [hwb, if_neg ((jN_ge (hf _ (by omega)) (hf _ (by omega))).mp h199)] at key
        exact key
      · refine Ex_iload dX9_whose_202 rfl ?_
        refine Ex_goto (tgt := 209) dX9_whose_204 (by decide) ?_
        refine Ex_istore dX9_whose_209 (by decide) rfl ?_
        simp only [List.set_cons_zero, List.set_cons_succ]
        first | refine Ex_iincN (m := 1) dX9_whose_211 rfl rfl (by decide) rfl ?_ | refine Ex_iinc dX9_whose_211 rfl rfl (by decide) rfl ?_
        simp only [List.set_cons_zero, List.set_cons_succ]
        refine Ex_goto (tgt := 178) dX9_whose_214 (by decide) ?_
        have key := ih (q + 1) (by omega)
        rw [hwb, if_pos (Classical.not_not.mp (fun q => h199 ((jN_ge (hf _ (by omega)) (hf _ (by omega))).mpr q)))] at key
        exact key
set_option maxRecDepth 100000 in
set_option maxHeartbeats 4000000 in
theorem C9_whose {T : TC} {I : MI} {G : MG} (d : Nat) {M : Nat} (hM : MSh T G M) (hW : WfG (I (M + 1))) (sz : Nat → Nat) (hz : SzR I M sz) (s w : Int32)  : OkI T mX9_whose (d + 5) [.ref M, .int s, .int w] I G (fun r I' G' => r = r_whose (I (M + 1)) (I (M + 18)) sz (fun s k => I (M + 20) (24 * s + k)) s w ∧ I' (M + 1) = I (M + 1) ∧ Fr (Pt M) I I' ∧ ∃ L, G' = LG G L) := by
  refine Ok_of (own := RX9) (by decide) rfl (cat1 rfl) (Nat.le_of_ble_eq_true rfl) ?_
  show Ex T RX9 cX9_whose 9 (d + 5) _ 0 [some (.ref M), some (.int s), some (.int w), none, none, none, none, none, none] [] I G (0, 0)
  refine Ex_iload_n dX9_whose_0 rfl ?_
  refine Ex_S1p dX9_whose_1 sX9_179  (Nat.le_of_ble_eq_true rfl) (c9_isSheet (d + 3) _) ?_
  refine Ex_if_eqB (tgt := 16) dX9_whose_4 (by decide) (fun h4 => ?_) (fun h4 => ?_)
  · refine Ex_ldc dX9_whose_16 kX9_99 ?_
    refine Ex_iret dX9_whose_18 (by first | rfl | exact narrow_bI) ?_
    exact ⟨_, rfl, (by unfold r_whose; rw [if_neg (fun q => h4 q.1)]), rfl, Fr.refl, ⟨gL G, rfl⟩⟩
  · refine Ex_iload_n dX9_whose_7 rfl ?_
    refine Ex_iconst (v := nI 0) dX9_whose_8 (by rfl) ?_
    refine Ex_iconst (v := nI 1) dX9_whose_9 (by rfl) ?_
    refine Ex_S3p dX9_whose_10 sX9_91  (Nat.le_of_ble_eq_true rfl) (c9_inR (d + 4) _ 1 (by omega)) ?_
    refine Ex_if_neB (tgt := 19) dX9_whose_13 (by decide) (fun h13 => ?_) (fun h13 => ?_)
    · obtain ⟨s', hs', e4⟩ := (rng_k (by omega)).mp h4
      have hcl : cl (nI s') = s' := cl_nI (by omega)
      subst e4
      refine Ex_aload_n dX9_whose_19 rfl ?_
      refine Ex_getr dX9_whose_20 fX9_64 hM.1 (mF29 hM).1 ?_
      refine Ex_iload_n dX9_whose_23 rfl ?_
      refine Ex_iald dX9_whose_24 (mF29 hM).2.1 rfl (by rw [(mF29 hM).2.2]; omega) (by rw [(mF29 hM).2.2]; decide) ?_
      refine Ex_if_ge (tgt := 31) dX9_whose_25 (by decide) (fun h25 => ?_) (fun h25 => ?_)
      · obtain ⟨hz1, hz2⟩ := hz s' hs'
        have hn8 := hW.2.1
        refine Ex_aload_n dX9_whose_31 rfl ?_
        refine Ex_V0v dX9_whose_32 sX9_202 hM.1 (Nat.le_of_ble_eq_true rfl) (c9_thinks (d + 4) hM) ?_
        rintro _ G2 ⟨rfl, e2⟩
        rw [e2]
        clear e2 G2
        have hT0 := Th_of (M := M) (I := I)
        have hg0 : rowI I (M + 8) (preF (I (M + 1)) (I (M + 8)) 144) (M + 1) = I (M + 1) := rowI_n (by omega)
        generalize rowI I (M + 8) (preF (I (M + 1)) (I (M + 8)) 144) = J0 at hT0 hg0 ⊢
        refine Ex_aload_n dX9_whose_35 rfl ?_
        refine Ex_getr dX9_whose_36 fX9_9 hM.1 (mF0 hM).1 ?_
        refine Ex_iconst (v := nI 1) dX9_whose_39 (by rfl) ?_
        refine Ex_iald dX9_whose_40 (mF0 hM).2.1 rfl (by rw [(mF0 hM).2.2]; omega) (by rw [(mF0 hM).2.2]; decide) ?_
        refine Ex_top (show _ = nI (nS (I (M + 1))) by rw [hg0]; exact hW.1) ?_
        refine Ex_istore_n dX9_whose_41 (by decide) rfl ?_
        simp only [st_n0, st_n1, st_n2, st_n3, List.set_cons_zero, List.set_cons_succ]
        refine Ex_iconst (v := nI 0) dX9_whose_42 (by rfl) ?_
        refine Ex_istore dX9_whose_43 (by decide) rfl ?_
        simp only [List.set_cons_zero, List.set_cons_succ]
        have er : r_whose (I (M + 1)) (I (M + 18)) sz (fun s k => I (M + 20) (24 * s + k)) (nI s') w = wR (fun j => wD (I (M + 1)) (fun k => I (M + 20) (24 * s' + k)) j (sz s')) (nS (I (M + 1))) w := by unfold r_whose; rw [if_pos ⟨h4, h13⟩, hcl, if_neg (Int32.not_lt.mpr h25)]
        rw [er]
        refine z9_whose d hM (nI s') w (nS (I (M + 1))) hn8 none none none none J0 ?_ (nS (I (M + 1))) 0 (gL G) (by omega) (fun j hj => by omega)
        intro L0 hL0
        refine Ex_iconst (v := nI 0) dX9_whose_65 (by rfl) ?_
        refine Ex_istore dX9_whose_66 (by decide) rfl ?_
        simp only [List.set_cons_zero, List.set_cons_succ]
        refine o9_whose d hM w I (I (M + 1)) hW (nS (I (M + 1))) s' (sz s') hn8 hs' hz2 hz1 ?_ (sz s') 0 J0 L0 none none none none (by omega) hg0 hT0 hL0
        intro J L x5 x6 x7 x8 h1 hT hL
        have hM0 := hM
        have hM : MSh T (LG G L) M := MSh_L hM
        refine Ex_aload_n dX9_whose_168 rfl ?_
        refine Ex_V0v dX9_whose_169 sX9_205 hM.1 (Nat.le_of_ble_eq_true rfl) (c9_putsBack (d + 4) hM) ?_
        rintro _ _ ⟨rfl, rfl⟩
        rw [back_eq hT.1 (fun j hj => by rw [h1, days_o hW (by omega) (by omega) (by omega) (by omega) (by omega)])]
        refine Ex_iconst (v := nI 0) dX9_whose_172 (by rfl) ?_
        refine Ex_istore dX9_whose_173 (by decide) rfl ?_
        simp only [List.set_cons_zero, List.set_cons_succ]
        refine Ex_iconst (v := nI 1) dX9_whose_175 (by rfl) ?_
        refine Ex_istore dX9_whose_176 (by decide) rfl ?_
        simp only [List.set_cons_zero, List.set_cons_succ]
        have hbd : ∀ j, j < nS (I (M + 1)) → wD (I (M + 1)) (fun k => I (M + 20) (24 * s' + k)) j (sz s') < 2 ^ 63 := fun j _ => by
          have := wD_le (g := I (M + 1)) (row := fun k => I (M + 20) (24 * s' + k)) (s := j) (sz s')
          omega
        have hFr : Fr (Pt M) I (rowI J (M + 1) (I (M + 1))) := hT.2.trans (Fr.row (Or.inl rfl))
        by_cases h0 : nS (I (M + 1)) = 0
        · skip
          refine Ex_iload dX9_whose_178 rfl ?_
          refine Ex_iload_n dX9_whose_180 rfl ?_
          refine Ex_icmp_geN (by omega) (by omega) (tgt := 217) dX9_whose_181 (by decide) (fun h181 => ?_) (fun h181 => ?_)
          · have key := f9_whose (b := (0, 0)) d hM0 (nI s') w (nS (I (M + 1))) hn8 (fun j => wD (I (M + 1)) (fun k => I (M + 20) (24 * s' + k)) j (sz s')) hbd _ L rowI_s hFr hL x6 x7 x8 1
            rw [show wb (fun j => wD (I (M + 1)) (fun k => I (M + 20) (24 * s' + k)) j (sz s')) (nS (I (M + 1))) = 0 by rw [h0]; rfl] at key
            exact key
          · omega
        · have key := e9_whose (b := (0, 0)) d hM0 (nI s') w (nS (I (M + 1))) hn8 (fun j => wD (I (M + 1)) (fun k => I (M + 20) (24 * s' + k)) j (sz s')) hbd _ L rowI_s hFr hL x6 x7 x8 (nS (I (M + 1)) - 1) 0 (by omega)
          rw [wb_1] at key
          exact key
      · refine Ex_ldc dX9_whose_28 kX9_182 ?_
        refine Ex_iret dX9_whose_30 (by first | rfl | exact narrow_bI) ?_
        exact ⟨_, rfl, (by unfold r_whose; rw [if_pos ⟨h4, h13⟩, hcl, if_pos (Int32.not_le.mp h25)]), rfl, Fr.refl, ⟨gL G, rfl⟩⟩
    · refine Ex_ldc dX9_whose_16 kX9_99 ?_
      refine Ex_iret dX9_whose_18 (by first | rfl | exact narrow_bI) ?_
      exact ⟨_, rfl, (by unfold r_whose; rw [if_neg (fun q => h13 q.2)]), rfl, Fr.refl, ⟨gL G, rfl⟩⟩
