/-! the reference: its shape and its small methods -/
def mtab : List (Nat × Nat × Nat × Nat) := [(0, 1, 10, 1516), (1, 2, 10, 1516), (2, 3, 10, 1516), (4, 4, 10, 24), (6, 5, 10, 169), (7, 6, 10, 12), (8, 7, 10, 25), (9, 8, 10, 144), (10, 9, 13, 8), (11, 10, 10, 96), (19, 11, 12, 11), (20, 12, 10, 4), (21, 13, 10, 96), (24, 14, 10, 96), (26, 15, 11, 10), (27, 16, 10, 96), (28, 17, 10, 4), (29, 18, 10, 4), (30, 19, 10, 4), (31, 20, 10, 96), (32, 21, 10, 5), (33, 22, 10, 5), (34, 23, 10, 5), (35, 24, 10, 120), (36, 25, 10, 24), (37, 26, 10, 60)]
def MSh (T : TC) (G : MG) (M : Nat) : Prop := Is T G M 9 ∧ ∀ t ∈ mtab, gR G M t.1 = some (M + t.2.1) ∧ Is T G (M + t.2.1) t.2.2.1 ∧ gN G (M + t.2.1) = t.2.2.2
theorem mF0 {T : TC} {G : MG} {M : Nat} (h : MSh T G M) : gR G M 0 = some (M + 1) ∧ Is T G (M + 1) 10 ∧ gN G (M + 1) = 1516 := h.2 (0, 1, 10, 1516) (by decide)
theorem mF1 {T : TC} {G : MG} {M : Nat} (h : MSh T G M) : gR G M 1 = some (M + 2) ∧ Is T G (M + 2) 10 ∧ gN G (M + 2) = 1516 := h.2 (1, 2, 10, 1516) (by decide)
theorem mF2 {T : TC} {G : MG} {M : Nat} (h : MSh T G M) : gR G M 2 = some (M + 3) ∧ Is T G (M + 3) 10 ∧ gN G (M + 3) = 1516 := h.2 (2, 3, 10, 1516) (by decide)
theorem mF4 {T : TC} {G : MG} {M : Nat} (h : MSh T G M) : gR G M 4 = some (M + 4) ∧ Is T G (M + 4) 10 ∧ gN G (M + 4) = 24 := h.2 (4, 4, 10, 24) (by decide)
theorem mF6 {T : TC} {G : MG} {M : Nat} (h : MSh T G M) : gR G M 6 = some (M + 5) ∧ Is T G (M + 5) 10 ∧ gN G (M + 5) = 169 := h.2 (6, 5, 10, 169) (by decide)
theorem mF7 {T : TC} {G : MG} {M : Nat} (h : MSh T G M) : gR G M 7 = some (M + 6) ∧ Is T G (M + 6) 10 ∧ gN G (M + 6) = 12 := h.2 (7, 6, 10, 12) (by decide)
theorem mF8 {T : TC} {G : MG} {M : Nat} (h : MSh T G M) : gR G M 8 = some (M + 7) ∧ Is T G (M + 7) 10 ∧ gN G (M + 7) = 25 := h.2 (8, 7, 10, 25) (by decide)
theorem mF9 {T : TC} {G : MG} {M : Nat} (h : MSh T G M) : gR G M 9 = some (M + 8) ∧ Is T G (M + 8) 10 ∧ gN G (M + 8) = 144 := h.2 (9, 8, 10, 144) (by decide)
theorem mF10 {T : TC} {G : MG} {M : Nat} (h : MSh T G M) : gR G M 10 = some (M + 9) ∧ Is T G (M + 9) 13 ∧ gN G (M + 9) = 8 := h.2 (10, 9, 13, 8) (by decide)
theorem mF11 {T : TC} {G : MG} {M : Nat} (h : MSh T G M) : gR G M 11 = some (M + 10) ∧ Is T G (M + 10) 10 ∧ gN G (M + 10) = 96 := h.2 (11, 10, 10, 96) (by decide)
theorem mF19 {T : TC} {G : MG} {M : Nat} (h : MSh T G M) : gR G M 19 = some (M + 11) ∧ Is T G (M + 11) 12 ∧ gN G (M + 11) = 11 := h.2 (19, 11, 12, 11) (by decide)
theorem mF20 {T : TC} {G : MG} {M : Nat} (h : MSh T G M) : gR G M 20 = some (M + 12) ∧ Is T G (M + 12) 10 ∧ gN G (M + 12) = 4 := h.2 (20, 12, 10, 4) (by decide)
theorem mF21 {T : TC} {G : MG} {M : Nat} (h : MSh T G M) : gR G M 21 = some (M + 13) ∧ Is T G (M + 13) 10 ∧ gN G (M + 13) = 96 := h.2 (21, 13, 10, 96) (by decide)
theorem mF24 {T : TC} {G : MG} {M : Nat} (h : MSh T G M) : gR G M 24 = some (M + 14) ∧ Is T G (M + 14) 10 ∧ gN G (M + 14) = 96 := h.2 (24, 14, 10, 96) (by decide)
theorem mF26 {T : TC} {G : MG} {M : Nat} (h : MSh T G M) : gR G M 26 = some (M + 15) ∧ Is T G (M + 15) 11 ∧ gN G (M + 15) = 10 := h.2 (26, 15, 11, 10) (by decide)
theorem mF27 {T : TC} {G : MG} {M : Nat} (h : MSh T G M) : gR G M 27 = some (M + 16) ∧ Is T G (M + 16) 10 ∧ gN G (M + 16) = 96 := h.2 (27, 16, 10, 96) (by decide)
theorem mF28 {T : TC} {G : MG} {M : Nat} (h : MSh T G M) : gR G M 28 = some (M + 17) ∧ Is T G (M + 17) 10 ∧ gN G (M + 17) = 4 := h.2 (28, 17, 10, 4) (by decide)
theorem mF29 {T : TC} {G : MG} {M : Nat} (h : MSh T G M) : gR G M 29 = some (M + 18) ∧ Is T G (M + 18) 10 ∧ gN G (M + 18) = 4 := h.2 (29, 18, 10, 4) (by decide)
theorem mF30 {T : TC} {G : MG} {M : Nat} (h : MSh T G M) : gR G M 30 = some (M + 19) ∧ Is T G (M + 19) 10 ∧ gN G (M + 19) = 4 := h.2 (30, 19, 10, 4) (by decide)
theorem mF31 {T : TC} {G : MG} {M : Nat} (h : MSh T G M) : gR G M 31 = some (M + 20) ∧ Is T G (M + 20) 10 ∧ gN G (M + 20) = 96 := h.2 (31, 20, 10, 96) (by decide)
theorem mF32 {T : TC} {G : MG} {M : Nat} (h : MSh T G M) : gR G M 32 = some (M + 21) ∧ Is T G (M + 21) 10 ∧ gN G (M + 21) = 5 := h.2 (32, 21, 10, 5) (by decide)
theorem mF33 {T : TC} {G : MG} {M : Nat} (h : MSh T G M) : gR G M 33 = some (M + 22) ∧ Is T G (M + 22) 10 ∧ gN G (M + 22) = 5 := h.2 (33, 22, 10, 5) (by decide)
theorem mF34 {T : TC} {G : MG} {M : Nat} (h : MSh T G M) : gR G M 34 = some (M + 23) ∧ Is T G (M + 23) 10 ∧ gN G (M + 23) = 5 := h.2 (34, 23, 10, 5) (by decide)
theorem mF35 {T : TC} {G : MG} {M : Nat} (h : MSh T G M) : gR G M 35 = some (M + 24) ∧ Is T G (M + 24) 10 ∧ gN G (M + 24) = 120 := h.2 (35, 24, 10, 120) (by decide)
theorem mF36 {T : TC} {G : MG} {M : Nat} (h : MSh T G M) : gR G M 36 = some (M + 25) ∧ Is T G (M + 25) 10 ∧ gN G (M + 25) = 24 := h.2 (36, 25, 10, 24) (by decide)
theorem mF37 {T : TC} {G : MG} {M : Nat} (h : MSh T G M) : gR G M 37 = some (M + 26) ∧ Is T G (M + 26) 10 ∧ gN G (M + 26) = 60 := h.2 (37, 26, 10, 60) (by decide)
set_option maxRecDepth 100000 in
set_option maxHeartbeats 4000000 in
theorem c9_in {T : TC} {I : MI} {G : MG} (d : Nat) (v a b : Int32)  : OkP T mX9_in (d) [.int v, .int a, .int b] I G (bI (a ≤ v ∧ v ≤ b)) := by
  refine Ok_of (own := RX9) (by decide) rfl (cat1 rfl) (Nat.le_of_ble_eq_true rfl) ?_
  show Ex T RX9 cX9_in 3 (d) _ 0 [some (.int v), some (.int a), some (.int b)] [] I G (0, 0)
  refine Ex_iload_n dX9_in_0 rfl ?_
  refine Ex_iload_n dX9_in_1 rfl ?_
  refine Ex_icmp_lt (tgt := 14) dX9_in_2 (by decide) (fun h2 => ?_) (fun h2 => ?_)
  · refine Ex_iconst (v := nI 0) dX9_in_14 (by rfl) ?_
    refine Ex_iret dX9_in_15 (by first | rfl | exact narrow_bI) ?_
    exact ⟨_, rfl, (bI_f (fun q => absurd q.1 (Int32.not_le.mpr h2))).symm, rfl, rfl⟩
  · refine Ex_iload_n dX9_in_5 rfl ?_
    refine Ex_iload_n dX9_in_6 rfl ?_
    refine Ex_icmp_gt (tgt := 14) dX9_in_7 (by decide) (fun h7 => ?_) (fun h7 => ?_)
    · refine Ex_iconst (v := nI 0) dX9_in_14 (by rfl) ?_
      refine Ex_iret dX9_in_15 (by first | rfl | exact narrow_bI) ?_
      exact ⟨_, rfl, (bI_f (fun q => absurd q.2 (Int32.not_le.mpr h7))).symm, rfl, rfl⟩
    · refine Ex_iconst (v := nI 1) dX9_in_10 (by rfl) ?_
      refine Ex_goto (tgt := 15) dX9_in_11 (by decide) ?_
      refine Ex_iret dX9_in_15 (by first | rfl | exact narrow_bI) ?_
      exact ⟨_, rfl, (bI_t ⟨Int32.not_lt.mp h2, Int32.not_lt.mp h7⟩).symm, rfl, rfl⟩
def wth (v a b : Int32) : Int32 := if v < a then a else if b < v then b else v
set_option maxRecDepth 100000 in
set_option maxHeartbeats 4000000 in
theorem c9_within {T : TC} {I : MI} {G : MG} (d : Nat) (v a b : Int32)  : OkP T mX9_within (d) [.int v, .int a, .int b] I G (wth v a b) := by
  refine Ok_of (own := RX9) (by decide) rfl (cat1 rfl) (Nat.le_of_ble_eq_true rfl) ?_
  show Ex T RX9 cX9_within 3 (d) _ 0 [some (.int v), some (.int a), some (.int b)] [] I G (0, 0)
  refine Ex_iload_n dX9_within_0 rfl ?_
  refine Ex_iload_n dX9_within_1 rfl ?_
  refine Ex_icmp_ge (tgt := 9) dX9_within_2 (by decide) (fun h2 => ?_) (fun h2 => ?_)
  · refine Ex_iload_n dX9_within_9 rfl ?_
    refine Ex_iload_n dX9_within_10 rfl ?_
    refine Ex_icmp_le (tgt := 18) dX9_within_11 (by decide) (fun h11 => ?_) (fun h11 => ?_)
    · refine Ex_iload_n dX9_within_18 rfl ?_
      refine Ex_iret dX9_within_19 (by first | rfl | exact narrow_bI) ?_
      exact ⟨_, rfl, (by unfold wth; rw [if_neg (Int32.not_lt.mpr h2), if_neg (Int32.not_lt.mpr h11)]), rfl, rfl⟩
    · refine Ex_iload_n dX9_within_14 rfl ?_
      refine Ex_goto (tgt := 19) dX9_within_15 (by decide) ?_
      refine Ex_iret dX9_within_19 (by first | rfl | exact narrow_bI) ?_
      exact ⟨_, rfl, (by unfold wth; rw [if_neg (Int32.not_lt.mpr h2), if_pos (Int32.not_le.mp h11)]), rfl, rfl⟩
  · refine Ex_iload_n dX9_within_5 rfl ?_
    refine Ex_goto (tgt := 19) dX9_within_6 (by decide) ?_
    refine Ex_iret dX9_within_19 (by first | rfl | exact narrow_bI) ?_
    exact ⟨_, rfl, (by unfold wth; rw [if_pos (Int32.not_le.mp h2)]), rfl, rfl⟩
set_option maxRecDepth 100000 in
set_option maxHeartbeats 4000000 in
theorem c9_of {T : TC} {I : MI} {G : MG} (d : Nat) {M : Nat} (hM : MSh T G M) (s w : Nat) (h : 8 + 17 * s + w < 1516) : OkP T mX9_of (d) [.ref M, .int (nI s), .int (nI w)] I G (I (M + 1) (8 + 17 * s + w)) := by
  refine Ok_of (own := RX9) (by decide) rfl (cat1 rfl) (Nat.le_of_ble_eq_true rfl) ?_
  show Ex T RX9 cX9_of 3 (d) _ 0 [some (.ref M), some (.int (nI s)), some (.int (nI w))] [] I G (0, 0)
  refine Ex_aload_n dX9_of_0 rfl ?_
  refine Ex_getr dX9_of_1 fX9_9 hM.1 (mF0 hM).1 ?_
  refine Ex_bipush (v := nI 8) dX9_of_4 (by rfl) ?_
  refine Ex_bipush (v := nI 17) dX9_of_6 (by rfl) ?_
  refine Ex_iload_n dX9_of_8 rfl ?_
  first | refine Ex_imulN dX9_of_9 ?_ | refine Ex_imul dX9_of_9 ?_
  first | refine Ex_iaddN dX9_of_10 ?_ | refine Ex_iadd dX9_of_10 ?_
  refine Ex_iload_n dX9_of_11 rfl ?_
  first | refine Ex_iaddN dX9_of_12 ?_ | refine Ex_iadd dX9_of_12 ?_
  refine Ex_iald dX9_of_13 (mF0 hM).2.1 rfl (by rw [(mF0 hM).2.2]; exact h) (by rw [(mF0 hM).2.2]; decide) ?_
  refine Ex_iret dX9_of_14 (by first | rfl | exact narrow_bI) ?_
  exact ⟨_, rfl, rfl, rfl, rfl⟩
theorem isS_iff {s : Int32} {n : Nat} (h : n ≤ 8) : (nI 0 ≤ s ∧ s ≤ nI n - nI 1) ↔ (0 ≤ s ∧ s < nI n) := by
  have e : (nI n - nI 1).toInt = (n : Int) - 1 := by rw [pk_sub_toInt (by omega) (by omega)]; rfl
  have e0 : (nI 0).toInt = 0 := rfl
  have en : (nI n).toInt = (n : Int) := nI_toInt (by omega)
  rw [i_le, i_le, i_le, i_lt, e, e0, en, iz_0]
  omega
set_option maxRecDepth 100000 in
set_option maxHeartbeats 4000000 in
theorem c9_isSurface {T : TC} {I : MI} {G : MG} (d : Nat) {M : Nat} (hM : MSh T G M) (s : Int32) (n : Nat) (hn : I (M + 1) 1 = nI n) (h8 : n ≤ 8) : OkP T mX9_isSurface (d + 1) [.ref M, .int s] I G (bI (0 ≤ s ∧ s < nI n)) := by
  refine Ok_of (own := RX9) (by decide) rfl (cat1 rfl) (Nat.le_of_ble_eq_true rfl) ?_
  show Ex T RX9 cX9_isSurface 2 (d + 1) _ 0 [some (.ref M), some (.int s)] [] I G (0, 0)
  refine Ex_iload_n dX9_isSurface_0 rfl ?_
  refine Ex_iconst (v := nI 0) dX9_isSurface_1 (by rfl) ?_
  refine Ex_aload_n dX9_isSurface_2 rfl ?_
  refine Ex_getr dX9_isSurface_3 fX9_9 hM.1 (mF0 hM).1 ?_
  refine Ex_iconst (v := nI 1) dX9_isSurface_6 (by rfl) ?_
  refine Ex_iald dX9_isSurface_7 (mF0 hM).2.1 rfl (by rw [(mF0 hM).2.2]; decide) (by rw [(mF0 hM).2.2]; decide) ?_
  refine Ex_iconst (v := nI 1) dX9_isSurface_8 (by rfl) ?_
  refine Ex_isub dX9_isSurface_9 ?_
  refine Ex_S3p dX9_isSurface_10 sX9_91  (Nat.le_of_ble_eq_true rfl) (c9_in d _ _ _) ?_
  refine Ex_iret dX9_isSurface_13 (by first | rfl | exact narrow_bI) ?_
  exact ⟨_, rfl, bI_congr (by rw [hn]; exact isS_iff h8), rfl, rfl⟩
set_option maxRecDepth 100000 in
set_option maxHeartbeats 4000000 in
theorem c9_isDeed {T : TC} {I : MI} {G : MG} (d : Nat) (v : Int32)  : OkP T mX9_isDeed (d + 1) [.int v] I G (bI (nI 0 ≤ v ∧ v ≤ nI 9)) := by
  refine Ok_of (own := RX9) (by decide) rfl (cat1 rfl) (Nat.le_of_ble_eq_true rfl) ?_
  show Ex T RX9 cX9_isDeed 1 (d + 1) _ 0 [some (.int v)] [] I G (0, 0)
  refine Ex_iload_n dX9_isDeed_0 rfl ?_
  refine Ex_iconst (v := nI 0) dX9_isDeed_1 (by rfl) ?_
  refine Ex_bipush (v := nI 9) dX9_isDeed_2 (by rfl) ?_
  refine Ex_S3p dX9_isDeed_4 sX9_91  (Nat.le_of_ble_eq_true rfl) (c9_in d _ _ _) ?_
  refine Ex_iret dX9_isDeed_7 (by first | rfl | exact narrow_bI) ?_
  exact ⟨_, rfl, rfl, rfl, rfl⟩
