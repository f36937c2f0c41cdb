/-! tokens -/
def tkU (b : Nat → Int32) (nx fr tk vl en : Int32) : Nat → Int32 := fun j => if j = 13 then nx else if j = 14 then fr else if j = 15 then tk else if j = 16 then vl else if j = 17 then en else b j
theorem rd12 {A : MI} {M : Nat} {b : Nat → Int32} {nx fr tk vl en : Int32} : rowI A M (tkU b nx fr tk vl en) M 12 = b 12 := congrFun rowI_s 12
theorem rd13 {A : MI} {M : Nat} {b : Nat → Int32} {nx fr tk vl en : Int32} : rowI A M (tkU b nx fr tk vl en) M 13 = nx := congrFun rowI_s 13
theorem wr13 {A : MI} {M : Nat} {b : Nat → Int32} {nx fr tk vl en v : Int32} : setI (rowI A M (tkU b nx fr tk vl en)) M 13 v = rowI A M (tkU b v fr tk vl en) := by
  rw [setI_row, rowI_s, rowI_r]
  congr 1
  funext j
  by_cases h : j = 13
  · subst h; rfl
  · rw [upd_n h]; simp [tkU, h]
theorem rd14 {A : MI} {M : Nat} {b : Nat → Int32} {nx fr tk vl en : Int32} : rowI A M (tkU b nx fr tk vl en) M 14 = fr := congrFun rowI_s 14
theorem wr14 {A : MI} {M : Nat} {b : Nat → Int32} {nx fr tk vl en v : Int32} : setI (rowI A M (tkU b nx fr tk vl en)) M 14 v = rowI A M (tkU b nx v tk vl en) := by
  rw [setI_row, rowI_s, rowI_r]
  congr 1
  funext j
  by_cases h : j = 14
  · subst h; rfl
  · rw [upd_n h]; simp [tkU, h]
theorem rd15 {A : MI} {M : Nat} {b : Nat → Int32} {nx fr tk vl en : Int32} : rowI A M (tkU b nx fr tk vl en) M 15 = tk := congrFun rowI_s 15
theorem wr15 {A : MI} {M : Nat} {b : Nat → Int32} {nx fr tk vl en v : Int32} : setI (rowI A M (tkU b nx fr tk vl en)) M 15 v = rowI A M (tkU b nx fr v vl en) := by
  rw [setI_row, rowI_s, rowI_r]
  congr 1
  funext j
  by_cases h : j = 15
  · subst h; rfl
  · rw [upd_n h]; simp [tkU, h]
theorem rd16 {A : MI} {M : Nat} {b : Nat → Int32} {nx fr tk vl en : Int32} : rowI A M (tkU b nx fr tk vl en) M 16 = vl := congrFun rowI_s 16
theorem wr16 {A : MI} {M : Nat} {b : Nat → Int32} {nx fr tk vl en v : Int32} : setI (rowI A M (tkU b nx fr tk vl en)) M 16 v = rowI A M (tkU b nx fr tk v en) := by
  rw [setI_row, rowI_s, rowI_r]
  congr 1
  funext j
  by_cases h : j = 16
  · subst h; rfl
  · rw [upd_n h]; simp [tkU, h]
theorem rd17 {A : MI} {M : Nat} {b : Nat → Int32} {nx fr tk vl en : Int32} : rowI A M (tkU b nx fr tk vl en) M 17 = en := congrFun rowI_s 17
theorem wr17 {A : MI} {M : Nat} {b : Nat → Int32} {nx fr tk vl en v : Int32} : setI (rowI A M (tkU b nx fr tk vl en)) M 17 v = rowI A M (tkU b nx fr tk vl v) := by
  rw [setI_row, rowI_s, rowI_r]
  congr 1
  funext j
  by_cases h : j = 17
  · subst h; rfl
  · rw [upd_n h]; simp [tkU, h]
theorem tk_id {A : MI} {M : Nat} : rowI A M (tkU (A M) (A M 13) (A M 14) (A M 15) (A M 16) (A M 17)) = A := by
  refine rowI_0 (funext fun j => ?_)
  unfold tkU
  by_cases h : j = 13
  · rw [if_pos h, h]
  by_cases h2 : j = 14
  · rw [if_neg h, if_pos h2, h2]
  by_cases h3 : j = 15
  · rw [if_neg h, if_neg h2, if_pos h3, h3]
  by_cases h4 : j = 16
  · rw [if_neg h, if_neg h2, if_neg h3, if_pos h4, h4]
  by_cases h5 : j = 17
  · rw [if_neg h, if_neg h2, if_neg h3, if_neg h4, if_pos h5, h5]
  rw [if_neg h, if_neg h2, if_neg h3, if_neg h4, if_neg h5]
/-- the tape -/
def TpO (A : MI) (M : Nat) (tb : Nat → Nat) (N : Nat) : Prop := N ≤ 96 ∧ ∀ j, j < N → A (M + 10) j = nI (tb j) ∧ tb j < 256
abbrev isBl (tb : Nat → Nat) (N p : Nat) : Prop := p < N ∧ tb p = 32
abbrev isLe (tb : Nat → Nat) (N p : Nat) : Prop := p < N ∧ 97 ≤ tb p ∧ tb p ≤ 122
abbrev isFi (tb : Nat → Nat) (N p : Nat) : Prop := p < N ∧ 48 ≤ tb p ∧ tb p ≤ 57
def run (P : Nat → Prop) [DecidablePred P] : Nat → Nat → Nat
  | 0, p => p
  | i + 1, p => if P p then run P i (p + 1) else p
theorem run_le {P : Nat → Prop} [DecidablePred P] : ∀ i p, p ≤ run P i p ∧ run P i p ≤ p + i
  | 0, _ => ⟨Nat.le_refl _, Nat.le_refl _⟩
  | i + 1, p => by
    have := run_le (P := P) i (p + 1)
    unfold run
    split <;> omega
/-- what the figures from p on make, those of a place below f + 4 -/
def numR (tb : Nat → Nat) (N f : Nat) : Nat → Nat → Nat → Nat
  | 0, _, v => v
  | i + 1, p, v => if isFi tb N p then numR tb N f i (p + 1) (if p - f < 4 then 10 * v + tb p - 48 else v) else v
set_option maxRecDepth 100000 in
set_option maxHeartbeats 4000000 in
theorem c9_isLetter {T : TC} {G : MG} (d : Nat) {A : MI} {M : Nat} (hM : MSh T G M) (tb : Nat → Nat) (N : Nat) (hT : TpO A M tb N) (u : Nat → Int32) (hu : u 12 = nI N) (k : Nat) (hk : k ≤ 96)  : OkP T mX9_isLetter (d) [.ref M, .int (nI k)] (rowI A M u) G (bI (isLe tb N k)) := by
  refine Ok_of (own := RX9) (by decide) rfl (cat1 rfl) (Nat.le_of_ble_eq_true rfl) ?_
  show Ex T RX9 cX9_isLetter 2 (d) _ 0 [some (.ref M), some (.int (nI k))] [] (rowI A M u) G (0, 0)
  have h96 := hT.1
  refine Ex_iload_n dX9_isLetter_0 rfl ?_
  refine Ex_aload_n dX9_isLetter_1 rfl ?_
  refine Ex_geti dX9_isLetter_2 fX9_211 hM.1 ?_
  refine Ex_top (show _ = nI N from (congrFun rowI_s 12).trans hu) ?_
  refine Ex_icmp_geN (by omega) (by omega) (tgt := 34) dX9_isLetter_5 (by decide) (fun h5 => ?_) (fun h5 => ?_)
  · refine Ex_iconst (v := nI 0) dX9_isLetter_34 (by rfl) ?_
    refine Ex_iret dX9_isLetter_35 (by first | rfl | exact narrow_bI) ?_
    exact ⟨_, rfl, (bI_f (fun q => absurd q.1 (by omega))).symm, rfl, rfl⟩
  · obtain ⟨hk1, hk2⟩ := hT.2 k (by omega)
    refine Ex_aload_n dX9_isLetter_8 rfl ?_
    refine Ex_getr dX9_isLetter_9 fX9_38 hM.1 (mF11 hM).1 ?_
    refine Ex_iload_n dX9_isLetter_12 rfl ?_
    refine Ex_iald dX9_isLetter_13 (mF11 hM).2.1 rfl (by rw [(mF11 hM).2.2]; omega) (by rw [(mF11 hM).2.2]; decide) ?_
    refine Ex_top (show _ = nI (tb k) by rw [rowI_n (by omega)]; exact hk1) ?_
    refine Ex_bipush (v := nI 97) dX9_isLetter_14 (by rfl) ?_
    refine Ex_icmp_ltN (by omega) (by omega) (tgt := 34) dX9_isLetter_16 (by decide) (fun h16 => ?_) (fun h16 => ?_)
    · refine Ex_iconst (v := nI 0) dX9_isLetter_34 (by rfl) ?_
      refine Ex_iret dX9_isLetter_35 (by first | rfl | exact narrow_bI) ?_
      exact ⟨_, rfl, (bI_f (fun q => absurd q.2.1 (by omega))).symm, rfl, rfl⟩
    · refine Ex_aload_n dX9_isLetter_19 rfl ?_
      refine Ex_getr dX9_isLetter_20 fX9_38 hM.1 (mF11 hM).1 ?_
      refine Ex_iload_n dX9_isLetter_23 rfl ?_
      refine Ex_iald dX9_isLetter_24 (mF11 hM).2.1 rfl (by rw [(mF11 hM).2.2]; omega) (by rw [(mF11 hM).2.2]; decide) ?_
      refine Ex_top (show _ = nI (tb k) by rw [rowI_n (by omega)]; exact hk1) ?_
      refine Ex_bipush (v := nI 122) dX9_isLetter_25 (by rfl) ?_
      refine Ex_icmp_gtN (by omega) (by omega) (tgt := 34) dX9_isLetter_27 (by decide) (fun h27 => ?_) (fun h27 => ?_)
      · refine Ex_iconst (v := nI 0) dX9_isLetter_34 (by rfl) ?_
        refine Ex_iret dX9_isLetter_35 (by first | rfl | exact narrow_bI) ?_
        exact ⟨_, rfl, (bI_f (fun q => absurd q.2.2 (by omega))).symm, rfl, rfl⟩
      · refine Ex_iconst (v := nI 1) dX9_isLetter_30 (by rfl) ?_
        refine Ex_goto (tgt := 35) dX9_isLetter_31 (by decide) ?_
        refine Ex_iret dX9_isLetter_35 (by first | rfl | exact narrow_bI) ?_
        exact ⟨_, rfl, (bI_t ⟨by omega, by omega, by omega⟩).symm, rfl, rfl⟩
set_option maxRecDepth 100000 in
set_option maxHeartbeats 4000000 in
theorem c9_isFigure {T : TC} {G : MG} (d : Nat) {A : MI} {M : Nat} (hM : MSh T G M) (tb : Nat → Nat) (N : Nat) (hT : TpO A M tb N) (u : Nat → Int32) (hu : u 12 = nI N) (k : Nat) (hk : k ≤ 96)  : OkP T mX9_isFigure (d) [.ref M, .int (nI k)] (rowI A M u) G (bI (isFi tb N k)) := by
  refine Ok_of (own := RX9) (by decide) rfl (cat1 rfl) (Nat.le_of_ble_eq_true rfl) ?_
  show Ex T RX9 cX9_isFigure 2 (d) _ 0 [some (.ref M), some (.int (nI k))] [] (rowI A M u) G (0, 0)
  have h96 := hT.1
  refine Ex_iload_n dX9_isFigure_0 rfl ?_
  refine Ex_aload_n dX9_isFigure_1 rfl ?_
  refine Ex_geti dX9_isFigure_2 fX9_211 hM.1 ?_
  refine Ex_top (show _ = nI N from (congrFun rowI_s 12).trans hu) ?_
  refine Ex_icmp_geN (by omega) (by omega) (tgt := 34) dX9_isFigure_5 (by decide) (fun h5 => ?_) (fun h5 => ?_)
  · refine Ex_iconst (v := nI 0) dX9_isFigure_34 (by rfl) ?_
    refine Ex_iret dX9_isFigure_35 (by first | rfl | exact narrow_bI) ?_
    exact ⟨_, rfl, (bI_f (fun q => absurd q.1 (by omega))).symm, rfl, rfl⟩
  · obtain ⟨hk1, hk2⟩ := hT.2 k (by omega)
    refine Ex_aload_n dX9_isFigure_8 rfl ?_
    refine Ex_getr dX9_isFigure_9 fX9_38 hM.1 (mF11 hM).1 ?_
    refine Ex_iload_n dX9_isFigure_12 rfl ?_
    refine Ex_iald dX9_isFigure_13 (mF11 hM).2.1 rfl (by rw [(mF11 hM).2.2]; omega) (by rw [(mF11 hM).2.2]; decide) ?_
    refine Ex_top (show _ = nI (tb k) by rw [rowI_n (by omega)]; exact hk1) ?_
    refine Ex_bipush (v := nI 48) dX9_isFigure_14 (by rfl) ?_
    refine Ex_icmp_ltN (by omega) (by omega) (tgt := 34) dX9_isFigure_16 (by decide) (fun h16 => ?_) (fun h16 => ?_)
    · refine Ex_iconst (v := nI 0) dX9_isFigure_34 (by rfl) ?_
      refine Ex_iret dX9_isFigure_35 (by first | rfl | exact narrow_bI) ?_
      exact ⟨_, rfl, (bI_f (fun q => absurd q.2.1 (by omega))).symm, rfl, rfl⟩
    · refine Ex_aload_n dX9_isFigure_19 rfl ?_
      refine Ex_getr dX9_isFigure_20 fX9_38 hM.1 (mF11 hM).1 ?_
      refine Ex_iload_n dX9_isFigure_23 rfl ?_
      refine Ex_iald dX9_isFigure_24 (mF11 hM).2.1 rfl (by rw [(mF11 hM).2.2]; omega) (by rw [(mF11 hM).2.2]; decide) ?_
      refine Ex_top (show _ = nI (tb k) by rw [rowI_n (by omega)]; exact hk1) ?_
      refine Ex_bipush (v := nI 57) dX9_isFigure_25 (by rfl) ?_
      refine Ex_icmp_gtN (by omega) (by omega) (tgt := 34) dX9_isFigure_27 (by decide) (fun h27 => ?_) (fun h27 => ?_)
      · refine Ex_iconst (v := nI 0) dX9_isFigure_34 (by rfl) ?_
        refine Ex_iret dX9_isFigure_35 (by first | rfl | exact narrow_bI) ?_
        exact ⟨_, rfl, (bI_f (fun q => absurd q.2.2 (by omega))).symm, rfl, rfl⟩
      · refine Ex_iconst (v := nI 1) dX9_isFigure_30 (by rfl) ?_
        refine Ex_goto (tgt := 35) dX9_isFigure_31 (by decide) ?_
        refine Ex_iret dX9_isFigure_35 (by first | rfl | exact narrow_bI) ?_
        exact ⟨_, rfl, (bI_t ⟨by omega, by omega, by omega⟩).symm, rfl, rfl⟩
set_option maxRecDepth 100000 in
set_option maxHeartbeats 4000000 in
theorem b9_go {T : TC} {A : MI} {G : MG} {b0 : Nat × Nat} {F : _} (d : Nat) {M : Nat} (hM : MSh T G M) (tb : Nat → Nat) (N : Nat) (hT : TpO A M tb N) (b : Nat → Int32) (hu : b 12 = nI N) (fr tk vl en : Int32) (R : Nat) (K : Ex T RX9 cX9_go 2 (d + 1) F 38 [some (.ref M), none] [] (rowI A M (tkU b (nI R) fr tk vl en)) G b0) : ∀ i p, p + i = N → run (isBl tb N) i p = R → Ex T RX9 cX9_go 2 (d + 1) F 0 [some (.ref M), none] [] (rowI A M (tkU b (nI p) fr tk vl en)) G b0 := by
  have h96 := hT.1
  intro i
  induction i with
  | zero =>
    intro p h0 hr
    have e : p = R := hr
    subst e
    refine Ex_aload_n dX9_go_0 rfl ?_
    refine Ex_geti dX9_go_1 fX9_214 hM.1 ?_
    rw [rd13]
    refine Ex_aload_n dX9_go_4 rfl ?_
    refine Ex_geti dX9_go_5 fX9_211 hM.1 ?_
    rw [rd12, hu]
    refine Ex_icmp_geN (by omega) (by omega) (tgt := 38) dX9_go_8 (by decide) (fun h8 => ?_) (fun h8 => ?_)
    · exact K
    · omega
  | succ i ih =>
    intro p h0 hr
    have hrs : run (isBl tb N) (i + 1) p = if isBl tb N p then run (isBl tb N) i (p + 1) else p := rfl
    rw [hrs] at hr
    have hb := (hT.2 p (by omega)).2
    refine Ex_aload_n dX9_go_0 rfl ?_
    refine Ex_geti dX9_go_1 fX9_214 hM.1 ?_
    rw [rd13]
    refine Ex_aload_n dX9_go_4 rfl ?_
    refine Ex_geti dX9_go_5 fX9_211 hM.1 ?_
    rw [rd12, hu]
    refine Ex_icmp_geN (by omega) (by omega) (tgt := 38) dX9_go_8 (by decide) (fun h8 => ?_) (fun h8 => ?_)
    · omega
    · refine Ex_aload_n dX9_go_11 rfl ?_
      refine Ex_getr dX9_go_12 fX9_38 hM.1 (mF11 hM).1 ?_
      refine Ex_aload_n dX9_go_15 rfl ?_
      refine Ex_geti dX9_go_16 fX9_214 hM.1 ?_
      rw [rd13]
      refine Ex_iald dX9_go_19 (mF11 hM).2.1 rfl (by rw [(mF11 hM).2.2]; omega) (by rw [(mF11 hM).2.2]; decide) ?_
      refine Ex_top (show _ = nI (tb p) by rw [rowI_n (by omega)]; exact (hT.2 p (by omega)).1) ?_
      refine Ex_bipush (v := nI 32) dX9_go_20 (by rfl) ?_
      refine Ex_icmp_neN (by omega) (by omega) (tgt := 38) dX9_go_22 (by decide) (fun h22 => ?_) (fun h22 => ?_)
      · rw [if_neg (fun q => h22 q.2)] at hr
        subst hr
        exact K
      · refine Ex_aload_n dX9_go_25 rfl ?_
        refine Ex_dup dX9_go_26 rfl ?_
        refine Ex_geti dX9_go_27 fX9_214 hM.1 ?_
        rw [rd13]
        refine Ex_iconst (v := nI 1) dX9_go_30 (by rfl) ?_
        first | with_reducible refine Ex_iaddN dX9_go_31 ?_ | refine Ex_iadd dX9_go_31 ?_
        refine Ex_puti dX9_go_32 fX9_214 rfl rfl rfl hM.1 ?_
        rw [wr13]
        refine Ex_goto (tgt := 0) dX9_go_35 (by decide) ?_
        rw [if_pos ⟨by omega, h22⟩] at hr
        exact ih (p + 1) (by omega) hr
set_option maxRecDepth 100000 in
set_option maxHeartbeats 4000000 in
theorem l9_go {T : TC} {A : MI} {G : MG} {b0 : Nat × Nat} {F : _} (d : Nat) {M : Nat} (hM : MSh T G M) (tb : Nat → Nat) (N : Nat) (hT : TpO A M tb N) (b : Nat → Int32) (hu : b 12 = nI N) (fr tk vl en : Int32) (x1 : Option Value) (R : Nat) (K : Ex T RX9 cX9_go 2 (d + 1) F 117 [some (.ref M), x1] [] (rowI A M (tkU b (nI R) fr tk vl en)) G b0) : ∀ i p, p + i = N → run (isLe tb N) i p = R → Ex T RX9 cX9_go 2 (d + 1) F 93 [some (.ref M), x1] [] (rowI A M (tkU b (nI p) fr tk vl en)) G b0 := by
  have h96 := hT.1
  intro i
  induction i with
  | zero =>
    intro p h0 hr
    have e : p = R := hr
    subst e
    refine Ex_aload_n dX9_go_93 rfl ?_
    refine Ex_aload_n dX9_go_94 rfl ?_
    refine Ex_geti dX9_go_95 fX9_214 hM.1 ?_
    rw [rd13]
    refine Ex_V1p dX9_go_98 sX9_226 hM.1 (Nat.le_of_ble_eq_true rfl) (c9_isLetter d hM tb N hT _ (show tkU b _ _ _ _ _ 12 = nI N from hu) p (by omega)) ?_
    refine Ex_if_eqB (tgt := 117) dX9_go_101 (by decide) (fun h101 => ?_) (fun h101 => ?_)
    · exact K
    · (exfalso; have := h101.1; omega)
  | succ i ih =>
    intro p h0 hr
    have hrs : run (isLe tb N) (i + 1) p = if isLe tb N p then run (isLe tb N) i (p + 1) else p := rfl
    rw [hrs] at hr
    refine Ex_aload_n dX9_go_93 rfl ?_
    refine Ex_aload_n dX9_go_94 rfl ?_
    refine Ex_geti dX9_go_95 fX9_214 hM.1 ?_
    rw [rd13]
    refine Ex_V1p dX9_go_98 sX9_226 hM.1 (Nat.le_of_ble_eq_true rfl) (c9_isLetter d hM tb N hT _ (show tkU b _ _ _ _ _ 12 = nI N from hu) p (by omega)) ?_
    refine Ex_if_eqB (tgt := 117) dX9_go_101 (by decide) (fun h101 => ?_) (fun h101 => ?_)
    · rw [if_neg h101] at hr
      subst hr
      exact K
    · refine Ex_aload_n dX9_go_104 rfl ?_
      refine Ex_dup dX9_go_105 rfl ?_
      refine Ex_geti dX9_go_106 fX9_214 hM.1 ?_
      rw [rd13]
      refine Ex_iconst (v := nI 1) dX9_go_109 (by rfl) ?_
      first | with_reducible refine Ex_iaddN dX9_go_110 ?_ | refine Ex_iadd dX9_go_110 ?_
      refine Ex_puti dX9_go_111 fX9_214 rfl rfl rfl hM.1 ?_
      rw [wr13]
      refine Ex_goto (tgt := 93) dX9_go_114 (by decide) ?_
      rw [if_pos h101] at hr
      exact ih (p + 1) (by omega) hr
set_option maxRecDepth 100000 in
set_option maxHeartbeats 4000000 in
theorem n9_go {T : TC} {A : MI} {G : MG} {b0 : Nat × Nat} {F : _} (d : Nat) {M : Nat} (hM : MSh T G M) (tb : Nat → Nat) (N : Nat) (hT : TpO A M tb N) (b : Nat → Int32) (hu : b 12 = nI N) (f : Nat) (tk en : Int32) (x1 : Option Value) (R V : Nat) (K : Ex T RX9 cX9_go 2 (d + 1) F 238 [some (.ref M), x1] [] (rowI A M (tkU b (nI R) (nI f) tk (nI V) en)) G b0) : ∀ i p v, p + i = N → f ≤ p → run (isFi tb N) i p = R → numR tb N f i p v = V → Ex T RX9 cX9_go 2 (d + 1) F 170 [some (.ref M), x1] [] (rowI A M (tkU b (nI p) (nI f) tk (nI v) en)) G b0 := by
  have h96 := hT.1
  intro i
  induction i with
  | zero =>
    intro p v h0 hf hr hv
    have e : p = R := hr
    have e2 : v = V := hv
    subst e
    subst e2
    refine Ex_aload_n dX9_go_170 rfl ?_
    refine Ex_aload_n dX9_go_171 rfl ?_
    refine Ex_geti dX9_go_172 fX9_214 hM.1 ?_
    rw [rd13]
    refine Ex_V1p dX9_go_175 sX9_232 hM.1 (Nat.le_of_ble_eq_true rfl) (c9_isFigure d hM tb N hT _ (show tkU b _ _ _ _ _ 12 = nI N from hu) p (by omega)) ?_
    refine Ex_if_eqB (tgt := 238) dX9_go_178 (by decide) (fun h178 => ?_) (fun h178 => ?_)
    · exact K
    · (exfalso; have := h178.1; omega)
  | succ i ih =>
    intro p v h0 hf hr hv
    have hrs : run (isFi tb N) (i + 1) p = if isFi tb N p then run (isFi tb N) i (p + 1) else p := rfl
    have hvs : numR tb N f (i + 1) p v = if isFi tb N p then numR tb N f i (p + 1) (if p - f < 4 then 10 * v + tb p - 48 else v) else v := rfl
    rw [hrs] at hr
    rw [hvs] at hv
    refine Ex_aload_n dX9_go_170 rfl ?_
    refine Ex_aload_n dX9_go_171 rfl ?_
    refine Ex_geti dX9_go_172 fX9_214 hM.1 ?_
    rw [rd13]
    refine Ex_V1p dX9_go_175 sX9_232 hM.1 (Nat.le_of_ble_eq_true rfl) (c9_isFigure d hM tb N hT _ (show tkU b _ _ _ _ _ 12 = nI N from hu) p (by omega)) ?_
    refine Ex_if_eqB (tgt := 238) dX9_go_178 (by decide) (fun h178 => ?_) (fun h178 => ?_)
    · rw [if_neg h178] at hr
      rw [if_neg h178] at hv
      subst hr
      subst hv
      exact K
    · have h178b := h178.2.1
      refine Ex_aload_n dX9_go_181 rfl ?_
      refine Ex_aload_n dX9_go_182 rfl ?_
      refine Ex_geti dX9_go_183 fX9_214 hM.1 ?_
      rw [rd13]
      refine Ex_aload_n dX9_go_186 rfl ?_
      refine Ex_geti dX9_go_187 fX9_217 hM.1 ?_
      rw [rd14]
      refine Ex_isub dX9_go_190 ?_
      refine Ex_top (pk_sub (by omega)) ?_
      refine Ex_iconst (v := nI 4) dX9_go_191 (by rfl) ?_
      refine Ex_icmp_geN (by omega) (by omega) (tgt := 218) dX9_go_192 (by decide) (fun h192 => ?_) (fun h192 => ?_)
      · refine Ex_aload_n dX9_go_218 rfl ?_
        refine Ex_geti dX9_go_219 fX9_229 hM.1 ?_
        rw [rd16]
        refine Ex_puti dX9_go_222 fX9_229 rfl rfl rfl hM.1 ?_
        rw [wr16]
        refine Ex_aload_n dX9_go_225 rfl ?_
        refine Ex_dup dX9_go_226 rfl ?_
        refine Ex_geti dX9_go_227 fX9_214 hM.1 ?_
        rw [rd13]
        refine Ex_iconst (v := nI 1) dX9_go_230 (by rfl) ?_
        first | with_reducible refine Ex_iaddN dX9_go_231 ?_ | refine Ex_iadd dX9_go_231 ?_
        refine Ex_puti dX9_go_232 fX9_214 rfl rfl rfl hM.1 ?_
        rw [wr13]
        refine Ex_goto (tgt := 170) dX9_go_235 (by decide) ?_
        rw [if_pos h178] at hr
        rw [if_pos h178, if_neg (by omega)] at hv
        exact ih (p + 1) _ (by omega) (by omega) hr hv
      · refine Ex_bipush (v := nI 10) dX9_go_195 (by rfl) ?_
        refine Ex_aload_n dX9_go_197 rfl ?_
        refine Ex_geti dX9_go_198 fX9_229 hM.1 ?_
        rw [rd16]
        first | with_reducible refine Ex_imulN dX9_go_201 ?_ | refine Ex_imul dX9_go_201 ?_
        refine Ex_aload_n dX9_go_202 rfl ?_
        refine Ex_getr dX9_go_203 fX9_38 hM.1 (mF11 hM).1 ?_
        refine Ex_aload_n dX9_go_206 rfl ?_
        refine Ex_geti dX9_go_207 fX9_214 hM.1 ?_
        rw [rd13]
        refine Ex_iald dX9_go_210 (mF11 hM).2.1 rfl (by rw [(mF11 hM).2.2]; omega) (by rw [(mF11 hM).2.2]; decide) ?_
        refine Ex_top (show _ = nI (tb p) by rw [rowI_n (by omega)]; exact (hT.2 p (by omega)).1) ?_
        first | with_reducible refine Ex_iaddN dX9_go_211 ?_ | refine Ex_iadd dX9_go_211 ?_
        refine Ex_bipush (v := nI 48) dX9_go_212 (by rfl) ?_
        refine Ex_isub dX9_go_214 ?_
        refine Ex_top (pk_sub (by omega)) ?_
        refine Ex_goto (tgt := 222) dX9_go_215 (by decide) ?_
        refine Ex_puti dX9_go_222 fX9_229 rfl rfl rfl hM.1 ?_
        rw [wr16]
        refine Ex_aload_n dX9_go_225 rfl ?_
        refine Ex_dup dX9_go_226 rfl ?_
        refine Ex_geti dX9_go_227 fX9_214 hM.1 ?_
        rw [rd13]
        refine Ex_iconst (v := nI 1) dX9_go_230 (by rfl) ?_
        first | with_reducible refine Ex_iaddN dX9_go_231 ?_ | refine Ex_iadd dX9_go_231 ?_
        refine Ex_puti dX9_go_232 fX9_214 rfl rfl rfl hM.1 ?_
        rw [wr13]
        refine Ex_goto (tgt := 170) dX9_go_235 (by decide) ?_
        rw [if_pos h178] at hr
        rw [if_pos h178, if_pos (by omega)] at hv
        exact ih (p + 1) _ (by omega) (by omega) hr hv
