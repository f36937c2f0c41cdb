/-! the small methods of takesE -/
theorem lv_neS {x v : Int32} {k : Int} (h : ¬ x = v) (hk : v.toInt = k) : ¬ k = x.toInt := fun q => h (Int32.toInt_inj.mp (q.symm.trans hk.symm))
def gF (tb : Nat → Nat) (N p : Nat) : Nat := run (isBl tb N) (N - p) p
def gE (tb : Nat → Nat) (N f : Nat) : Nat := if f = N then f else if isLe tb N f then run (isLe tb N) (N - f) f else if isFi tb N f then run (isFi tb N) (N - f) f else f + 1
def gT (tb : Nat → Nat) (N f : Nat) (en : Int32) : Int32 := if f = N then nI 0 else if isLe tb N f then (if nI f = en then nI 4 else nI 1) else if isFi tb N f then (if nI f = en ∨ 4 < run (isFi tb N) (N - f) f - f then nI 4 else nI 2) else nI 3
def gV (tb : Nat → Nat) (N f : Nat) (vl : Int32) : Int32 := if f = N then vl else if isLe tb N f then nI (tb f) else if isFi tb N f then nI (numR tb N f (N - f) f 0) else nI (tb f)
def gD (tb : Nat → Nat) (N f : Nat) (en : Int32) : Int32 := if f = N then en else if isLe tb N f then nI (run (isLe tb N) (N - f) f) else if isFi tb N f then nI (run (isFi tb N) (N - f) f) else en
theorem goU_eq {b : Nat → Int32} {tb : Nat → Nat} {N p : Nat} {vl en : Int32} : goU b tb N p vl en = tkU b (nI (gE tb N (gF tb N p))) (nI (gF tb N p)) (gT tb N (gF tb N p) en) (gV tb N (gF tb N p) vl) (gD tb N (gF tb N p) en) := by
  show goV b tb N (gF tb N p) vl en = _
  unfold goV gE gT gV gD
  by_cases h : gF tb N p = N
  · simp only [if_pos h]
  · simp only [if_neg h]
    by_cases h2 : isLe tb N (gF tb N p)
    · simp only [if_pos h2]
    · simp only [if_neg h2]
      by_cases h3 : isFi tb N (gF tb N p)
      · simp only [if_pos h3]
      · simp only [if_neg h3]
theorem gF_le {tb : Nat → Nat} {N p : Nat} (h : p ≤ N) : p ≤ gF tb N p ∧ gF tb N p ≤ N := by
  have := run_le (P := isBl tb N) (N - p) p
  unfold gF
  omega
theorem gE_le {tb : Nat → Nat} {N f : Nat} (h : f ≤ N) : f ≤ gE tb N f ∧ gE tb N f ≤ N := by
  have h1 := run_le (P := isLe tb N) (N - f) f
  have h2 := run_le (P := isFi tb N) (N - f) f
  unfold gE
  split
  · omega
  · split
    · omega
    · split <;> omega
def pbU (c : Nat → Int32) (ky cs aa hd : Int32) : Nat → Int32 := fun j => if j = 18 then ky else if j = 22 then cs else if j = 23 then aa else if j = 25 then hd else c j
def ar3 (A : MI) (M : Nat) (cd wt te : Nat → Int32) : MI := rowI (rowI (rowI A (M + 13) cd) (M + 14) wt) (M + 15) te
def PM (A : MI) (M : Nat) (c cd wt te : Nat → Int32) (ky cs aa hd nx fr tk vl en : Int32) : MI := rowI (ar3 A M cd wt te) M (tkU (pbU c ky cs aa hd) nx fr tk vl en)
theorem qd13 {A : MI} {M : Nat} {c cd wt te : Nat → Int32} {ky cs aa hd nx fr tk vl en : Int32} : PM A M c cd wt te ky cs aa hd nx fr tk vl en M 13 = nx := congrFun rowI_s 13
theorem qw13 {A : MI} {M : Nat} {c cd wt te : Nat → Int32} {ky cs aa hd nx fr tk vl en : Int32} {v : Int32} : setI (PM A M c cd wt te ky cs aa hd nx fr tk vl en) M 13 v = PM A M c cd wt te ky cs aa hd v fr tk vl en := by
  unfold PM
  rw [setI_row, rowI_s, rowI_r]
  congr 1
  funext j
  by_cases h : j = 13
  · subst h; rfl
  · rw [upd_n h]; simp [tkU, pbU, h]
theorem qd14 {A : MI} {M : Nat} {c cd wt te : Nat → Int32} {ky cs aa hd nx fr tk vl en : Int32} : PM A M c cd wt te ky cs aa hd nx fr tk vl en M 14 = fr := congrFun rowI_s 14
theorem qw14 {A : MI} {M : Nat} {c cd wt te : Nat → Int32} {ky cs aa hd nx fr tk vl en : Int32} {v : Int32} : setI (PM A M c cd wt te ky cs aa hd nx fr tk vl en) M 14 v = PM A M c cd wt te ky cs aa hd nx v tk vl en := by
  unfold PM
  rw [setI_row, rowI_s, rowI_r]
  congr 1
  funext j
  by_cases h : j = 14
  · subst h; rfl
  · rw [upd_n h]; simp [tkU, pbU, h]
theorem qd15 {A : MI} {M : Nat} {c cd wt te : Nat → Int32} {ky cs aa hd nx fr tk vl en : Int32} : PM A M c cd wt te ky cs aa hd nx fr tk vl en M 15 = tk := congrFun rowI_s 15
theorem qw15 {A : MI} {M : Nat} {c cd wt te : Nat → Int32} {ky cs aa hd nx fr tk vl en : Int32} {v : Int32} : setI (PM A M c cd wt te ky cs aa hd nx fr tk vl en) M 15 v = PM A M c cd wt te ky cs aa hd nx fr v vl en := by
  unfold PM
  rw [setI_row, rowI_s, rowI_r]
  congr 1
  funext j
  by_cases h : j = 15
  · subst h; rfl
  · rw [upd_n h]; simp [tkU, pbU, h]
theorem qd16 {A : MI} {M : Nat} {c cd wt te : Nat → Int32} {ky cs aa hd nx fr tk vl en : Int32} : PM A M c cd wt te ky cs aa hd nx fr tk vl en M 16 = vl := congrFun rowI_s 16
theorem qw16 {A : MI} {M : Nat} {c cd wt te : Nat → Int32} {ky cs aa hd nx fr tk vl en : Int32} {v : Int32} : setI (PM A M c cd wt te ky cs aa hd nx fr tk vl en) M 16 v = PM A M c cd wt te ky cs aa hd nx fr tk v en := by
  unfold PM
  rw [setI_row, rowI_s, rowI_r]
  congr 1
  funext j
  by_cases h : j = 16
  · subst h; rfl
  · rw [upd_n h]; simp [tkU, pbU, h]
theorem qd17 {A : MI} {M : Nat} {c cd wt te : Nat → Int32} {ky cs aa hd nx fr tk vl en : Int32} : PM A M c cd wt te ky cs aa hd nx fr tk vl en M 17 = en := congrFun rowI_s 17
theorem qw17 {A : MI} {M : Nat} {c cd wt te : Nat → Int32} {ky cs aa hd nx fr tk vl en : Int32} {v : Int32} : setI (PM A M c cd wt te ky cs aa hd nx fr tk vl en) M 17 v = PM A M c cd wt te ky cs aa hd nx fr tk vl v := by
  unfold PM
  rw [setI_row, rowI_s, rowI_r]
  congr 1
  funext j
  by_cases h : j = 17
  · subst h; rfl
  · rw [upd_n h]; simp [tkU, pbU, h]
theorem qd18 {A : MI} {M : Nat} {c cd wt te : Nat → Int32} {ky cs aa hd nx fr tk vl en : Int32} : PM A M c cd wt te ky cs aa hd nx fr tk vl en M 18 = ky := congrFun rowI_s 18
theorem qw18 {A : MI} {M : Nat} {c cd wt te : Nat → Int32} {ky cs aa hd nx fr tk vl en : Int32} {v : Int32} : setI (PM A M c cd wt te ky cs aa hd nx fr tk vl en) M 18 v = PM A M c cd wt te v cs aa hd nx fr tk vl en := by
  unfold PM
  rw [setI_row, rowI_s, rowI_r]
  congr 1
  funext j
  by_cases h : j = 18
  · subst h; rfl
  · rw [upd_n h]; simp [tkU, pbU, h]
theorem qd22 {A : MI} {M : Nat} {c cd wt te : Nat → Int32} {ky cs aa hd nx fr tk vl en : Int32} : PM A M c cd wt te ky cs aa hd nx fr tk vl en M 22 = cs := congrFun rowI_s 22
theorem qw22 {A : MI} {M : Nat} {c cd wt te : Nat → Int32} {ky cs aa hd nx fr tk vl en : Int32} {v : Int32} : setI (PM A M c cd wt te ky cs aa hd nx fr tk vl en) M 22 v = PM A M c cd wt te ky v aa hd nx fr tk vl en := by
  unfold PM
  rw [setI_row, rowI_s, rowI_r]
  congr 1
  funext j
  by_cases h : j = 22
  · subst h; rfl
  · rw [upd_n h]; simp [tkU, pbU, h]
theorem qd23 {A : MI} {M : Nat} {c cd wt te : Nat → Int32} {ky cs aa hd nx fr tk vl en : Int32} : PM A M c cd wt te ky cs aa hd nx fr tk vl en M 23 = aa := congrFun rowI_s 23
theorem qw23 {A : MI} {M : Nat} {c cd wt te : Nat → Int32} {ky cs aa hd nx fr tk vl en : Int32} {v : Int32} : setI (PM A M c cd wt te ky cs aa hd nx fr tk vl en) M 23 v = PM A M c cd wt te ky cs v hd nx fr tk vl en := by
  unfold PM
  rw [setI_row, rowI_s, rowI_r]
  congr 1
  funext j
  by_cases h : j = 23
  · subst h; rfl
  · rw [upd_n h]; simp [tkU, pbU, h]
theorem qd25 {A : MI} {M : Nat} {c cd wt te : Nat → Int32} {ky cs aa hd nx fr tk vl en : Int32} : PM A M c cd wt te ky cs aa hd nx fr tk vl en M 25 = hd := congrFun rowI_s 25
theorem qw25 {A : MI} {M : Nat} {c cd wt te : Nat → Int32} {ky cs aa hd nx fr tk vl en : Int32} {v : Int32} : setI (PM A M c cd wt te ky cs aa hd nx fr tk vl en) M 25 v = PM A M c cd wt te ky cs aa v nx fr tk vl en := by
  unfold PM
  rw [setI_row, rowI_s, rowI_r]
  congr 1
  funext j
  by_cases h : j = 25
  · subst h; rfl
  · rw [upd_n h]; simp [tkU, pbU, h]
theorem qd12 {A : MI} {M : Nat} {c cd wt te : Nat → Int32} {ky cs aa hd nx fr tk vl en : Int32} : PM A M c cd wt te ky cs aa hd nx fr tk vl en M 12 = c 12 := congrFun rowI_s 12
theorem qa13 {A : MI} {M : Nat} {c cd wt te : Nat → Int32} {ky cs aa hd nx fr tk vl en : Int32} : PM A M c cd wt te ky cs aa hd nx fr tk vl en (M + 13) = cd := by
  unfold PM ar3
  rw [rowI_n (by omega), rowI_n (by omega), rowI_n (by omega), rowI_s]
theorem qa14 {A : MI} {M : Nat} {c cd wt te : Nat → Int32} {ky cs aa hd nx fr tk vl en : Int32} : PM A M c cd wt te ky cs aa hd nx fr tk vl en (M + 14) = wt := by
  unfold PM ar3
  rw [rowI_n (by omega), rowI_n (by omega), rowI_s]
theorem qa15 {A : MI} {M : Nat} {c cd wt te : Nat → Int32} {ky cs aa hd nx fr tk vl en : Int32} : PM A M c cd wt te ky cs aa hd nx fr tk vl en (M + 15) = te := by
  unfold PM ar3
  rw [rowI_n (by omega), rowI_s]
theorem rowI_c {I : MI} {a a' : Nat} {f f' : Nat → Int32} (h : a ≠ a') : rowI (rowI I a f) a' f' = rowI (rowI I a' f') a f := by
  funext x
  unfold rowI
  by_cases h1 : x = a
  · by_cases h2 : x = a'
    · exact absurd (h1.symm.trans h2) h
    · simp [h1, h]
  · by_cases h2 : x = a'
    · simp [h2, Ne.symm h]
    · simp [h1, h2]
theorem qs13 {A : MI} {M : Nat} {c cd wt te : Nat → Int32} {ky cs aa hd nx fr tk vl en : Int32} {k : Nat} {v : Int32} : setI (PM A M c cd wt te ky cs aa hd nx fr tk vl en) (M + 13) k v = PM A M c (upd cd k v) wt te ky cs aa hd nx fr tk vl en := by
  rw [setI_row, qa13]
  unfold PM ar3
  rw [rowI_c (show M ≠ M + 13 by omega), rowI_c (show M + 15 ≠ M + 13 by omega), rowI_c (show M + 14 ≠ M + 13 by omega), rowI_r]
theorem qs14 {A : MI} {M : Nat} {c cd wt te : Nat → Int32} {ky cs aa hd nx fr tk vl en : Int32} {k : Nat} {v : Int32} : setI (PM A M c cd wt te ky cs aa hd nx fr tk vl en) (M + 14) k v = PM A M c cd (upd wt k v) te ky cs aa hd nx fr tk vl en := by
  rw [setI_row, qa14]
  unfold PM ar3
  rw [rowI_c (show M ≠ M + 14 by omega), rowI_c (show M + 15 ≠ M + 14 by omega), rowI_r]
theorem qs15 {A : MI} {M : Nat} {c cd wt te : Nat → Int32} {ky cs aa hd nx fr tk vl en : Int32} {k : Nat} {v : Int32} : setI (PM A M c cd wt te ky cs aa hd nx fr tk vl en) (M + 15) k v = PM A M c cd wt (upd te k v) ky cs aa hd nx fr tk vl en := by
  rw [setI_row, qa15]
  unfold PM ar3
  rw [rowI_c (show M ≠ M + 15 by omega), rowI_r]
theorem qo {A : MI} {M : Nat} {c cd wt te : Nat → Int32} {ky cs aa hd nx fr tk vl en : Int32} {x : Nat} (h : x ≠ M) (h1 : x ≠ M + 13) (h2 : x ≠ M + 14) (h3 : x ≠ M + 15) : PM A M c cd wt te ky cs aa hd nx fr tk vl en x = A x := by
  unfold PM ar3
  rw [rowI_n h, rowI_n h3, rowI_n h2, rowI_n h1]
def rkI (x : Int32) : Int32 := if x = (-1) then nI 1 else if x = (-2) then nI 2 else if x < (-5) then (if x < (-7) then (if x < (-9) then nI 6 else nI 5) else nI 4) else nI 3
set_option maxRecDepth 100000 in
set_option maxHeartbeats 4000000 in
theorem c9_rank {T : TC} {I : MI} {G : MG} (d : Nat) (x : Int32)  : OkP T mX9_rank (d) [.int x] I G (rkI x) := by
  refine Ok_of (own := RX9) (by decide) rfl (cat1 rfl) (Nat.le_of_ble_eq_true rfl) ?_
  show Ex T RX9 cX9_rank 1 (d) _ 0 [some (.int x)] [] I G (0, 0)
  refine Ex_iload_n dX9_rank_0 rfl ?_
  refine Ex_iconst (v := (-1)) dX9_rank_1 (by rfl) ?_
  refine Ex_icmp_ne (tgt := 9) dX9_rank_2 (by decide) (fun h2 => ?_) (fun h2 => ?_)
  · refine Ex_iload_n dX9_rank_9 rfl ?_
    refine Ex_bipush (v := (-2)) dX9_rank_10 (by rfl) ?_
    refine Ex_icmp_ne (tgt := 19) dX9_rank_12 (by decide) (fun h12 => ?_) (fun h12 => ?_)
    · refine Ex_iload_n dX9_rank_19 rfl ?_
      refine Ex_bipush (v := (-5)) dX9_rank_20 (by rfl) ?_
      refine Ex_icmp_lt (tgt := 29) dX9_rank_22 (by decide) (fun h22 => ?_) (fun h22 => ?_)
      · refine Ex_iload_n dX9_rank_29 rfl ?_
        refine Ex_bipush (v := (-7)) dX9_rank_30 (by rfl) ?_
        refine Ex_icmp_lt (tgt := 39) dX9_rank_32 (by decide) (fun h32 => ?_) (fun h32 => ?_)
        · refine Ex_iload_n dX9_rank_39 rfl ?_
          refine Ex_bipush (v := (-9)) dX9_rank_40 (by rfl) ?_
          refine Ex_icmp_lt (tgt := 49) dX9_rank_42 (by decide) (fun h42 => ?_) (fun h42 => ?_)
          · refine Ex_bipush (v := nI 6) dX9_rank_49 (by rfl) ?_
            refine Ex_iret dX9_rank_51 (by first | rfl | exact narrow_bI) ?_
            exact ⟨_, rfl, (by unfold rkI; rw [if_neg h2, if_neg h12, if_pos h22, if_pos h32, if_pos h42]), rfl, rfl⟩
          · refine Ex_iconst (v := nI 5) dX9_rank_45 (by rfl) ?_
            refine Ex_goto (tgt := 51) dX9_rank_46 (by decide) ?_
            refine Ex_iret dX9_rank_51 (by first | rfl | exact narrow_bI) ?_
            exact ⟨_, rfl, (by unfold rkI; rw [if_neg h2, if_neg h12, if_pos h22, if_pos h32, if_neg h42]), rfl, rfl⟩
        · refine Ex_iconst (v := nI 4) dX9_rank_35 (by rfl) ?_
          refine Ex_goto (tgt := 51) dX9_rank_36 (by decide) ?_
          refine Ex_iret dX9_rank_51 (by first | rfl | exact narrow_bI) ?_
          exact ⟨_, rfl, (by unfold rkI; rw [if_neg h2, if_neg h12, if_pos h22, if_neg h32]), rfl, rfl⟩
      · refine Ex_iconst (v := nI 3) dX9_rank_25 (by rfl) ?_
        refine Ex_goto (tgt := 51) dX9_rank_26 (by decide) ?_
        refine Ex_iret dX9_rank_51 (by first | rfl | exact narrow_bI) ?_
        exact ⟨_, rfl, (by unfold rkI; rw [if_neg h2, if_neg h12, if_neg h22]), rfl, rfl⟩
    · refine Ex_iconst (v := nI 2) dX9_rank_15 (by rfl) ?_
      refine Ex_goto (tgt := 51) dX9_rank_16 (by decide) ?_
      refine Ex_iret dX9_rank_51 (by first | rfl | exact narrow_bI) ?_
      exact ⟨_, rfl, (by unfold rkI; rw [if_neg h2, if_pos h12]), rfl, rfl⟩
  · refine Ex_iconst (v := nI 1) dX9_rank_5 (by rfl) ?_
    refine Ex_goto (tgt := 51) dX9_rank_6 (by decide) ?_
    refine Ex_iret dX9_rank_51 (by first | rfl | exact narrow_bI) ?_
    exact ⟨_, rfl, (by unfold rkI; rw [if_pos h2]), rfl, rfl⟩
def nmI (ky x : Int32) : Int32 := if ky = nI 0 then (if x = nI 110 then nI 0 else if x = nI 100 then nI 1 else if x = nI 116 then nI 2 else (-1)) else if ky = nI 1 then (if x = nI 115 then nI 0 else if x = nI 98 then nI 1 else (-1)) else (if x = nI 110 then nI 0 else if x = nI 112 then nI 1 else (-1))
def sgI (tk vl : Int32) : Int32 := if tk = nI 3 then (if vl = nI 38 then (-2) else if vl = nI 42 then (-8) else if vl = nI 43 then (-6) else if vl = nI 45 then (-7) else if vl = nI 47 then (-9) else if vl = nI 60 then (-3) else if vl = nI 61 then (-4) else if vl = nI 62 then (-5) else if vl = nI 124 then (-1) else nI 0) else nI 0
set_option maxRecDepth 100000 in
set_option maxHeartbeats 4000000 in
theorem c9_nameOf {T : TC} {I : MI} {G : MG} (d : Nat) {M : Nat} (hM : MSh T G M) (x ky : Int32) (hk : I M 18 = ky)  : OkP T mX9_nameOf (d) [.ref M, .int x] I G (nmI ky x) := by
  refine Ok_of (own := RX9) (by decide) rfl (cat1 rfl) (Nat.le_of_ble_eq_true rfl) ?_
  show Ex T RX9 cX9_nameOf 2 (d) _ 0 [some (.ref M), some (.int x)] [] I G (0, 0)
  refine Ex_aload_n dX9_nameOf_0 rfl ?_
  refine Ex_geti dX9_nameOf_1 fX9_235 hM.1 ?_
  refine Ex_top hk ?_
  by_cases hx4_0 : ky = nI 0
  · refine Ex_lookup (tgt := 32) dX9_nameOf_4 (by decide +kernel) (off := 28) (by rw [hx4_0]; decide +kernel) (by decide) ?_
    refine Ex_iload_n dX9_nameOf_32 rfl ?_
    refine Ex_bipush (v := nI 110) dX9_nameOf_33 (by rfl) ?_
    refine Ex_icmp_ne (tgt := 42) dX9_nameOf_35 (by decide) (fun h35 => ?_) (fun h35 => ?_)
    · refine Ex_iload_n dX9_nameOf_42 rfl ?_
      refine Ex_bipush (v := nI 100) dX9_nameOf_43 (by rfl) ?_
      refine Ex_icmp_ne (tgt := 52) dX9_nameOf_45 (by decide) (fun h45 => ?_) (fun h45 => ?_)
      · refine Ex_iload_n dX9_nameOf_52 rfl ?_
        refine Ex_bipush (v := nI 116) dX9_nameOf_53 (by rfl) ?_
        refine Ex_icmp_ne (tgt := 62) dX9_nameOf_55 (by decide) (fun h55 => ?_) (fun h55 => ?_)
        · refine Ex_iconst (v := (-1)) dX9_nameOf_62 (by rfl) ?_
          refine Ex_iret dX9_nameOf_63 (by first | rfl | exact narrow_bI) ?_
          exact ⟨_, rfl, (by unfold nmI; rw [if_pos hx4_0, if_neg h35, if_neg h45, if_neg h55]), rfl, rfl⟩
        · refine Ex_iconst (v := nI 2) dX9_nameOf_58 (by rfl) ?_
          refine Ex_goto (tgt := 63) dX9_nameOf_59 (by decide) ?_
          refine Ex_iret dX9_nameOf_63 (by first | rfl | exact narrow_bI) ?_
          exact ⟨_, rfl, (by unfold nmI; rw [if_pos hx4_0, if_neg h35, if_neg h45, if_pos h55]), rfl, rfl⟩
      · refine Ex_iconst (v := nI 1) dX9_nameOf_48 (by rfl) ?_
        refine Ex_goto (tgt := 63) dX9_nameOf_49 (by decide) ?_
        refine Ex_iret dX9_nameOf_63 (by first | rfl | exact narrow_bI) ?_
        exact ⟨_, rfl, (by unfold nmI; rw [if_pos hx4_0, if_neg h35, if_pos h45]), rfl, rfl⟩
    · refine Ex_iconst (v := nI 0) dX9_nameOf_38 (by rfl) ?_
      refine Ex_goto (tgt := 63) dX9_nameOf_39 (by decide) ?_
      refine Ex_iret dX9_nameOf_63 (by first | rfl | exact narrow_bI) ?_
      exact ⟨_, rfl, (by unfold nmI; rw [if_pos hx4_0, if_pos h35]), rfl, rfl⟩
  by_cases hx4_1 : ky = nI 1
  · refine Ex_lookup (tgt := 64) dX9_nameOf_4 (by decide +kernel) (off := 60) (by rw [hx4_1]; decide +kernel) (by decide) ?_
    refine Ex_iload_n dX9_nameOf_64 rfl ?_
    refine Ex_bipush (v := nI 115) dX9_nameOf_65 (by rfl) ?_
    refine Ex_icmp_ne (tgt := 74) dX9_nameOf_67 (by decide) (fun h67 => ?_) (fun h67 => ?_)
    · refine Ex_iload_n dX9_nameOf_74 rfl ?_
      refine Ex_bipush (v := nI 98) dX9_nameOf_75 (by rfl) ?_
      refine Ex_icmp_ne (tgt := 84) dX9_nameOf_77 (by decide) (fun h77 => ?_) (fun h77 => ?_)
      · refine Ex_iconst (v := (-1)) dX9_nameOf_84 (by rfl) ?_
        refine Ex_iret dX9_nameOf_85 (by first | rfl | exact narrow_bI) ?_
        exact ⟨_, rfl, (by unfold nmI; rw [if_neg hx4_0, if_pos hx4_1, if_neg h67, if_neg h77]), rfl, rfl⟩
      · refine Ex_iconst (v := nI 1) dX9_nameOf_80 (by rfl) ?_
        refine Ex_goto (tgt := 85) dX9_nameOf_81 (by decide) ?_
        refine Ex_iret dX9_nameOf_85 (by first | rfl | exact narrow_bI) ?_
        exact ⟨_, rfl, (by unfold nmI; rw [if_neg hx4_0, if_pos hx4_1, if_neg h67, if_pos h77]), rfl, rfl⟩
    · refine Ex_iconst (v := nI 0) dX9_nameOf_70 (by rfl) ?_
      refine Ex_goto (tgt := 85) dX9_nameOf_71 (by decide) ?_
      refine Ex_iret dX9_nameOf_85 (by first | rfl | exact narrow_bI) ?_
      exact ⟨_, rfl, (by unfold nmI; rw [if_neg hx4_0, if_pos hx4_1, if_pos h67]), rfl, rfl⟩
  refine Ex_lookup (tgt := 86) dX9_nameOf_4 (by decide +kernel) (off := 82) (by simp only [Op.lookupswitch.offset]; rw [if_neg (lv_neS hx4_0 (by decide))]; rw [if_neg (lv_neS hx4_1 (by decide))]; done) (by decide) ?_
  refine Ex_iload_n dX9_nameOf_86 rfl ?_
  refine Ex_bipush (v := nI 110) dX9_nameOf_87 (by rfl) ?_
  refine Ex_icmp_ne (tgt := 96) dX9_nameOf_89 (by decide) (fun h89 => ?_) (fun h89 => ?_)
  · refine Ex_iload_n dX9_nameOf_96 rfl ?_
    refine Ex_bipush (v := nI 112) dX9_nameOf_97 (by rfl) ?_
    refine Ex_icmp_ne (tgt := 106) dX9_nameOf_99 (by decide) (fun h99 => ?_) (fun h99 => ?_)
    · refine Ex_iconst (v := (-1)) dX9_nameOf_106 (by rfl) ?_
      refine Ex_iret dX9_nameOf_107 (by first | rfl | exact narrow_bI) ?_
      exact ⟨_, rfl, (by unfold nmI; rw [if_neg hx4_0, if_neg hx4_1, if_neg h89, if_neg h99]), rfl, rfl⟩
    · refine Ex_iconst (v := nI 1) dX9_nameOf_102 (by rfl) ?_
      refine Ex_goto (tgt := 107) dX9_nameOf_103 (by decide) ?_
      refine Ex_iret dX9_nameOf_107 (by first | rfl | exact narrow_bI) ?_
      exact ⟨_, rfl, (by unfold nmI; rw [if_neg hx4_0, if_neg hx4_1, if_neg h89, if_pos h99]), rfl, rfl⟩
  · refine Ex_iconst (v := nI 0) dX9_nameOf_92 (by rfl) ?_
    refine Ex_goto (tgt := 107) dX9_nameOf_93 (by decide) ?_
    refine Ex_iret dX9_nameOf_107 (by first | rfl | exact narrow_bI) ?_
    exact ⟨_, rfl, (by unfold nmI; rw [if_neg hx4_0, if_neg hx4_1, if_pos h89]), rfl, rfl⟩
set_option maxRecDepth 100000 in
set_option maxHeartbeats 4000000 in
theorem c9_signHere {T : TC} {I : MI} {G : MG} (d : Nat) {M : Nat} (hM : MSh T G M) (tk vl : Int32) (hk : I M 15 = tk) (hv : I M 16 = vl)  : OkP T mX9_signHere (d) [.ref M] I G (sgI tk vl) := by
  refine Ok_of (own := RX9) (by decide) rfl (cat1 rfl) (Nat.le_of_ble_eq_true rfl) ?_
  show Ex T RX9 cX9_signHere 1 (d) _ 0 [some (.ref M)] [] I G (0, 0)
  refine Ex_aload_n dX9_signHere_0 rfl ?_
  refine Ex_geti dX9_signHere_1 fX9_223 hM.1 ?_
  refine Ex_top hk ?_
  refine Ex_iconst (v := nI 3) dX9_signHere_4 (by rfl) ?_
  refine Ex_icmp_eq (tgt := 10) dX9_signHere_5 (by decide) (fun h5 => ?_) (fun h5 => ?_)
  · refine Ex_aload_n dX9_signHere_10 rfl ?_
    refine Ex_geti dX9_signHere_11 fX9_229 hM.1 ?_
    refine Ex_top hv ?_
    by_cases hx14_0 : vl = nI 38
    · refine Ex_lookup (tgt := 98) dX9_signHere_14 (by decide +kernel) (off := 84) (by rw [hx14_0]; decide +kernel) (by decide) ?_
      refine Ex_bipush (v := (-2)) dX9_signHere_98 (by rfl) ?_
      refine Ex_iret dX9_signHere_100 (by first | rfl | exact narrow_bI) ?_
      exact ⟨_, rfl, (by unfold sgI; rw [if_pos h5, if_pos hx14_0]), rfl, rfl⟩
    by_cases hx14_1 : vl = nI 42
    · refine Ex_lookup (tgt := 116) dX9_signHere_14 (by decide +kernel) (off := 102) (by rw [hx14_1]; decide +kernel) (by decide) ?_
      refine Ex_bipush (v := (-8)) dX9_signHere_116 (by rfl) ?_
      refine Ex_iret dX9_signHere_118 (by first | rfl | exact narrow_bI) ?_
      exact ⟨_, rfl, (by unfold sgI; rw [if_pos h5, if_neg hx14_0, if_pos hx14_1]), rfl, rfl⟩
    by_cases hx14_2 : vl = nI 43
    · refine Ex_lookup (tgt := 110) dX9_signHere_14 (by decide +kernel) (off := 96) (by rw [hx14_2]; decide +kernel) (by decide) ?_
      refine Ex_bipush (v := (-6)) dX9_signHere_110 (by rfl) ?_
      refine Ex_iret dX9_signHere_112 (by first | rfl | exact narrow_bI) ?_
      exact ⟨_, rfl, (by unfold sgI; rw [if_pos h5, if_neg hx14_0, if_neg hx14_1, if_pos hx14_2]), rfl, rfl⟩
    by_cases hx14_3 : vl = nI 45
    · refine Ex_lookup (tgt := 113) dX9_signHere_14 (by decide +kernel) (off := 99) (by rw [hx14_3]; decide +kernel) (by decide) ?_
      refine Ex_bipush (v := (-7)) dX9_signHere_113 (by rfl) ?_
      refine Ex_iret dX9_signHere_115 (by first | rfl | exact narrow_bI) ?_
      exact ⟨_, rfl, (by unfold sgI; rw [if_pos h5, if_neg hx14_0, if_neg hx14_1, if_neg hx14_2, if_pos hx14_3]), rfl, rfl⟩
    by_cases hx14_4 : vl = nI 47
    · refine Ex_lookup (tgt := 119) dX9_signHere_14 (by decide +kernel) (off := 105) (by rw [hx14_4]; decide +kernel) (by decide) ?_
      refine Ex_bipush (v := (-9)) dX9_signHere_119 (by rfl) ?_
      refine Ex_iret dX9_signHere_121 (by first | rfl | exact narrow_bI) ?_
      exact ⟨_, rfl, (by unfold sgI; rw [if_pos h5, if_neg hx14_0, if_neg hx14_1, if_neg hx14_2, if_neg hx14_3, if_pos hx14_4]), rfl, rfl⟩
    by_cases hx14_5 : vl = nI 60
    · refine Ex_lookup (tgt := 101) dX9_signHere_14 (by decide +kernel) (off := 87) (by rw [hx14_5]; decide +kernel) (by decide) ?_
      refine Ex_bipush (v := (-3)) dX9_signHere_101 (by rfl) ?_
      refine Ex_iret dX9_signHere_103 (by first | rfl | exact narrow_bI) ?_
      exact ⟨_, rfl, (by unfold sgI; rw [if_pos h5, if_neg hx14_0, if_neg hx14_1, if_neg hx14_2, if_neg hx14_3, if_neg hx14_4, if_pos hx14_5]), rfl, rfl⟩
    by_cases hx14_6 : vl = nI 61
    · refine Ex_lookup (tgt := 104) dX9_signHere_14 (by decide +kernel) (off := 90) (by rw [hx14_6]; decide +kernel) (by decide) ?_
      refine Ex_bipush (v := (-4)) dX9_signHere_104 (by rfl) ?_
      refine Ex_iret dX9_signHere_106 (by first | rfl | exact narrow_bI) ?_
      exact ⟨_, rfl, (by unfold sgI; rw [if_pos h5, if_neg hx14_0, if_neg hx14_1, if_neg hx14_2, if_neg hx14_3, if_neg hx14_4, if_neg hx14_5, if_pos hx14_6]), rfl, rfl⟩
    by_cases hx14_7 : vl = nI 62
    · refine Ex_lookup (tgt := 107) dX9_signHere_14 (by decide +kernel) (off := 93) (by rw [hx14_7]; decide +kernel) (by decide) ?_
      refine Ex_bipush (v := (-5)) dX9_signHere_107 (by rfl) ?_
      refine Ex_iret dX9_signHere_109 (by first | rfl | exact narrow_bI) ?_
      exact ⟨_, rfl, (by unfold sgI; rw [if_pos h5, if_neg hx14_0, if_neg hx14_1, if_neg hx14_2, if_neg hx14_3, if_neg hx14_4, if_neg hx14_5, if_neg hx14_6, if_pos hx14_7]), rfl, rfl⟩
    by_cases hx14_8 : vl = nI 124
    · refine Ex_lookup (tgt := 96) dX9_signHere_14 (by decide +kernel) (off := 82) (by rw [hx14_8]; decide +kernel) (by decide) ?_
      refine Ex_iconst (v := (-1)) dX9_signHere_96 (by rfl) ?_
      refine Ex_iret dX9_signHere_97 (by first | rfl | exact narrow_bI) ?_
      exact ⟨_, rfl, (by unfold sgI; rw [if_pos h5, if_neg hx14_0, if_neg hx14_1, if_neg hx14_2, if_neg hx14_3, if_neg hx14_4, if_neg hx14_5, if_neg hx14_6, if_neg hx14_7, if_pos hx14_8]), rfl, rfl⟩
    refine Ex_lookup (tgt := 122) dX9_signHere_14 (by decide +kernel) (off := 108) (by simp only [Op.lookupswitch.offset]; rw [if_neg (lv_neS hx14_0 (by decide))]; rw [if_neg (lv_neS hx14_1 (by decide))]; rw [if_neg (lv_neS hx14_2 (by decide))]; rw [if_neg (lv_neS hx14_3 (by decide))]; rw [if_neg (lv_neS hx14_4 (by decide))]; rw [if_neg (lv_neS hx14_5 (by decide))]; rw [if_neg (lv_neS hx14_6 (by decide))]; rw [if_neg (lv_neS hx14_7 (by decide))]; rw [if_neg (lv_neS hx14_8 (by decide))]; done) (by decide) ?_
    refine Ex_iconst (v := nI 0) dX9_signHere_122 (by rfl) ?_
    refine Ex_iret dX9_signHere_123 (by first | rfl | exact narrow_bI) ?_
    exact ⟨_, rfl, (by unfold sgI; rw [if_pos h5, if_neg hx14_0, if_neg hx14_1, if_neg hx14_2, if_neg hx14_3, if_neg hx14_4, if_neg hx14_5, if_neg hx14_6, if_neg hx14_7, if_neg hx14_8]), rfl, rfl⟩
  · refine Ex_iconst (v := nI 0) dX9_signHere_8 (by rfl) ?_
    refine Ex_iret dX9_signHere_9 (by first | rfl | exact narrow_bI) ?_
    exact ⟨_, rfl, (by unfold sgI; rw [if_neg h5]), rfl, rfl⟩
