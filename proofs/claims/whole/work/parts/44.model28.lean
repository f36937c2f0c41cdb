/-! text, its copying loop -/
def tcG (g cd : Nat → Int32) (t k : Nat) : Nat → Int32 := fun j => if 172 + 96 * t ≤ j ∧ j < 172 + 96 * t + k then cd (j - (172 + 96 * t)) else g j
theorem tcG_0 {g cd : Nat → Int32} {t : Nat} : tcG g cd t 0 = g := by
  funext j
  unfold tcG
  rw [if_neg (by omega)]
theorem tcG_s {g cd : Nat → Int32} {t k : Nat} : upd (tcG g cd t k) (172 + 96 * t + k) (cd k) = tcG g cd t (k + 1) := by
  funext j
  by_cases h : j = 172 + 96 * t + k
  · subst h
    rw [upd_s]
    unfold tcG
    rw [if_pos (by omega), Nat.add_sub_cancel_left]
  · rw [upd_n h]
    unfold tcG
    by_cases h2 : 172 + 96 * t ≤ j ∧ j < 172 + 96 * t + k
    · rw [if_pos h2, if_pos (by omega)]
    · rw [if_neg h2, if_neg (by omega)]
set_option maxRecDepth 100000 in
set_option maxHeartbeats 4000000 in
theorem l9_text {T : TC} {A : MI} {G : MG} {b : Nat × Nat} {F : _} (d : Nat) {M : Nat} {c cd wt te g : Nat → Int32} {ky aa hd nx fr tk vl en : Int32} (hM : MSh T G M) (x1 : Option Value) (t z : Nat) (ht : t < 14) (hz : z ≤ 96) (K : Ex T RX9 cX9_text 4 (d + 4) F 154 [some (.ref M), x1, some (.int (nI t)), some (.int (nI z))] [] (PM (rowI A (M + 1) (tcG g cd t z)) M c cd wt te ky (nI z) aa hd nx fr tk vl en) G b) : ∀ i k, k + i = z → Ex T RX9 cX9_text 4 (d + 4) F 119 [some (.ref M), x1, some (.int (nI t)), some (.int (nI k))] [] (PM (rowI A (M + 1) (tcG g cd t k)) M c cd wt te ky (nI z) aa hd nx fr tk vl en) G b := by
  intro i
  induction i with
  | zero =>
    intro k h0
    have e : k = z := h0
    subst e
    refine Ex_iload_n dX9_text_119 rfl ?_
    refine Ex_aload_n dX9_text_120 rfl ?_
    refine Ex_geti dX9_text_121 fX9_247 hM.1 ?_
    rw [qd22]
    refine Ex_icmp_geN (by omega) (by omega) (tgt := 154) dX9_text_124 (by decide) (fun h124 => ?_) (fun h124 => ?_)
    · exact K
    · omega
  | succ i ih =>
    intro k h0
    refine Ex_iload_n dX9_text_119 rfl ?_
    refine Ex_aload_n dX9_text_120 rfl ?_
    refine Ex_geti dX9_text_121 fX9_247 hM.1 ?_
    rw [qd22]
    refine Ex_icmp_geN (by omega) (by omega) (tgt := 154) dX9_text_124 (by decide) (fun h124 => ?_) (fun h124 => ?_)
    · omega
    · refine Ex_aload_n dX9_text_127 rfl ?_
      refine Ex_getr dX9_text_128 fX9_9 hM.1 (mF0 hM).1 ?_
      refine Ex_sipush (v := nI 172) dX9_text_131 (by rfl) ?_
      refine Ex_bipush (v := nI 96) dX9_text_134 (by rfl) ?_
      refine Ex_iload_n dX9_text_136 rfl ?_
      first | with_reducible refine Ex_imulN dX9_text_137 ?_ | refine Ex_imul dX9_text_137 ?_
      first | with_reducible refine Ex_iaddN dX9_text_138 ?_ | refine Ex_iadd dX9_text_138 ?_
      refine Ex_iload_n dX9_text_139 rfl ?_
      first | with_reducible refine Ex_iaddN dX9_text_140 ?_ | refine Ex_iadd dX9_text_140 ?_
      refine Ex_aload_n dX9_text_141 rfl ?_
      refine Ex_getr dX9_text_142 fX9_48 hM.1 (mF21 hM).1 ?_
      refine Ex_iload_n dX9_text_145 rfl ?_
      refine Ex_iald dX9_text_146 (mF21 hM).2.1 rfl (by rw [(mF21 hM).2.2]; omega) (by rw [(mF21 hM).2.2]; decide) ?_
      rw [qa13]
      refine Ex_iast dX9_text_147 (mF0 hM).2.1 rfl (by rw [(mF0 hM).2.2]; omega) (by rw [(mF0 hM).2.2]; decide) ?_
      rw [qs1, rowI_s, rowI_r, tcG_s]
      first | refine Ex_iincN (m := 1) dX9_text_148 rfl rfl (by decide) rfl ?_ | refine Ex_iinc dX9_text_148 rfl rfl (by decide) rfl ?_
      simp only [List.set_cons_zero, List.set_cons_succ]
      refine Ex_goto (tgt := 119) dX9_text_151 (by decide) ?_
      exact ih (k + 1) (by omega)
