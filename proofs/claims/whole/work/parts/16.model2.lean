/-! rows of the memory -/
def rowI (I : MI) (a : Nat) (f : Nat → Int32) : MI := fun x => if x = a then f else I x
theorem rowI_s {I : MI} {a : Nat} {f : Nat → Int32} : rowI I a f a = f := if_pos rfl
theorem rowI_n {I : MI} {a x : Nat} {f : Nat → Int32} (h : x ≠ a) : rowI I a f x = I x := if_neg h
theorem rowI_r {I : MI} {a : Nat} {f f' : Nat → Int32} : rowI (rowI I a f) a f' = rowI I a f' := by
  funext x
  by_cases h : x = a
  · subst h; rw [rowI_s, rowI_s]
  · rw [rowI_n h, rowI_n h, rowI_n h]
theorem rowI_self {I : MI} {a : Nat} : rowI I a (I a) = I := by
  funext x
  by_cases h : x = a
  · subst h; rw [rowI_s]
  · rw [rowI_n h]
theorem rowI_0 {I : MI} {a : Nat} {f : Nat → Int32} (h : f = I a) : rowI I a f = I := by rw [h, rowI_self]
theorem setI_row {I : MI} {a j : Nat} {v : Int32} : setI I a j v = rowI I a (upd (I a) j v) := by
  funext x
  by_cases h : x = a
  · subst h; rw [rowI_s, setI_u]
  · rw [rowI_n h, setI_a h]
theorem upd_n {f : Nat → Int32} {k j : Nat} {x : Int32} (h : j ≠ k) : upd f k x j = f j := if_neg h
theorem upd_s {f : Nat → Int32} {k : Nat} {x : Int32} : upd f k x k = x := if_pos rfl
theorem upd_same {f : Nat → Int32} {k : Nat} {x : Int32} (h : f k = x) : upd f k x = f := by
  funext j
  by_cases e : j = k
  · subst e; rw [upd_s, h]
  · rw [upd_n e]
/-- what of now[] a run changes beside M + 1 -/
def Fr (P : Nat → Prop) (I I' : MI) : Prop := ∀ a, ¬ P a → I' a = I a
theorem Fr.refl {P : Nat → Prop} {I : MI} : Fr P I I := fun _ _ => rfl
theorem Fr.trans {P : Nat → Prop} {I I' I2 : MI} (h : Fr P I I') (h2 : Fr P I' I2) : Fr P I I2 := fun a ha => (h2 a ha).trans (h a ha)
theorem Fr.mono {P P' : Nat → Prop} {I I' : MI} (h : Fr P I I') (hp : ∀ a, P a → P' a) : Fr P' I I' := fun a ha => h a (fun q => ha (hp a q))
theorem Fr.row {P : Nat → Prop} {I : MI} {a : Nat} {f : Nat → Int32} (h : P a) : Fr P I (rowI I a f) := fun x hx => rowI_n (fun e => hx (e ▸ h))
set_option maxRecDepth 100000 in
set_option maxHeartbeats 4000000 in
theorem c9_put {T : TC} {I : MI} {G : MG} (d : Nat) {M : Nat} (hM : MSh T G M) (s w : Nat) (v : Int32) (h : 8 + 17 * s + w < 1516) : OkV T mX9_put (d) [.ref M, .int (nI s), .int (nI w), .int v] I G (fun I' G' => I' = rowI I (M + 1) (upd (I (M + 1)) (8 + 17 * s + w) v) ∧ G' = G) := by
  refine Ok_of (own := RX9) (by decide) rfl (cat1 rfl) (Nat.le_of_ble_eq_true rfl) ?_
  show Ex T RX9 cX9_put 4 (d) _ 0 [some (.ref M), some (.int (nI s)), some (.int (nI w)), some (.int v)] [] I G (0, 0)
  refine Ex_aload_n dX9_put_0 rfl ?_
  refine Ex_getr dX9_put_1 fX9_9 hM.1 (mF0 hM).1 ?_
  refine Ex_bipush (v := nI 8) dX9_put_4 (by rfl) ?_
  refine Ex_bipush (v := nI 17) dX9_put_6 (by rfl) ?_
  refine Ex_iload_n dX9_put_8 rfl ?_
  first | refine Ex_imulN dX9_put_9 ?_ | refine Ex_imul dX9_put_9 ?_
  first | refine Ex_iaddN dX9_put_10 ?_ | refine Ex_iadd dX9_put_10 ?_
  refine Ex_iload_n dX9_put_11 rfl ?_
  first | refine Ex_iaddN dX9_put_12 ?_ | refine Ex_iadd dX9_put_12 ?_
  refine Ex_iload_n dX9_put_13 rfl ?_
  refine Ex_iast dX9_put_14 (mF0 hM).2.1 rfl (by rw [(mF0 hM).2.2]; omega) (by rw [(mF0 hM).2.2]; decide) ?_
  refine Ex_vret dX9_put_15 ?_
  exact ⟨rfl, setI_row, rfl⟩
set_option maxRecDepth 100000 in
set_option maxHeartbeats 4000000 in
theorem c9_swaps {T : TC} {I : MI} {G : MG} (d : Nat) {M : Nat} (hM : MSh T G M) (j : Nat) (v : Int32) (h : j < 1516) : OkI T mX9_swaps (d) [.ref M, .int (nI j), .int v] I G (fun r I' G' => r = I (M + 1) j ∧ I' = rowI I (M + 1) (upd (I (M + 1)) j v) ∧ G' = G) := by
  refine Ok_of (own := RX9) (by decide) rfl (cat1 rfl) (Nat.le_of_ble_eq_true rfl) ?_
  show Ex T RX9 cX9_swaps 4 (d) _ 0 [some (.ref M), some (.int (nI j)), some (.int v), none] [] I G (0, 0)
  refine Ex_aload_n dX9_swaps_0 rfl ?_
  refine Ex_getr dX9_swaps_1 fX9_9 hM.1 (mF0 hM).1 ?_
  refine Ex_iload_n dX9_swaps_4 rfl ?_
  refine Ex_iald dX9_swaps_5 (mF0 hM).2.1 rfl (by rw [(mF0 hM).2.2]; omega) (by rw [(mF0 hM).2.2]; decide) ?_
  refine Ex_istore_n dX9_swaps_6 (by decide) rfl ?_
  simp only [st_n0, st_n1, st_n2, st_n3, List.set_cons_zero, List.set_cons_succ]
  refine Ex_aload_n dX9_swaps_7 rfl ?_
  refine Ex_getr dX9_swaps_8 fX9_9 hM.1 (mF0 hM).1 ?_
  refine Ex_iload_n dX9_swaps_11 rfl ?_
  refine Ex_iload_n dX9_swaps_12 rfl ?_
  refine Ex_iast dX9_swaps_13 (mF0 hM).2.1 rfl (by rw [(mF0 hM).2.2]; omega) (by rw [(mF0 hM).2.2]; decide) ?_
  refine Ex_iload_n dX9_swaps_14 rfl ?_
  refine Ex_iret dX9_swaps_15 (by first | rfl | exact narrow_bI) ?_
  exact ⟨_, rfl, rfl, setI_row, rfl⟩
/-- one more surface -/
def comesG (g : Nat → Int32) (n : Nat) (kind damp : Int32) : Nat → Int32 := fun j => if j = 8 + 17 * n then kind else if j = 8 + 17 * n + 1 then damp else if 8 + 17 * n ≤ j ∧ j < 8 + 17 * n + 17 then nI 0 else if j = 1 then nI (n + 1) else g j
def comesK (g : Nat → Int32) (n k : Nat) : Nat → Int32 := fun j => if 8 + 17 * n ≤ j ∧ j < 8 + 17 * n + k then nI 0 else if j = 1 then nI (n + 1) else g j
theorem comesK_s {g : Nat → Int32} {n k : Nat} : upd (comesK g n k) (8 + 17 * n + k) (nI 0) = comesK g n (k + 1) := by
  funext j
  unfold comesK
  by_cases h : j = 8 + 17 * n + k
  · subst h; rw [upd_s, if_pos (by omega)]
  · rw [upd_n h]
    by_cases h2 : 8 + 17 * n ≤ j ∧ j < 8 + 17 * n + k
    · rw [if_pos h2, if_pos (by omega)]
    · rw [if_neg h2, if_neg (show ¬ (8 + 17 * n ≤ j ∧ j < 8 + 17 * n + (k + 1)) by omega)]
theorem comesK_0 {g : Nat → Int32} {n : Nat} : upd g 1 (nI (n + 1)) = comesK g n 0 := by
  funext j
  unfold comesK upd
  rw [if_neg (show ¬ (8 + 17 * n ≤ j ∧ j < 8 + 17 * n + 0) by omega)]
theorem comesK_e {g : Nat → Int32} {n : Nat} {kind damp : Int32} : upd (upd (comesK g n 17) (8 + 17 * n + 0) kind) (8 + 17 * n + 1) damp = comesG g n kind damp := by
  funext j
  unfold comesG
  by_cases h : j = 8 + 17 * n + 1
  · subst h; rw [upd_s, if_neg (by omega), if_pos rfl]
  · rw [upd_n h]
    by_cases h2 : j = 8 + 17 * n
    · subst h2; rw [if_pos rfl]; exact upd_s
    · rw [upd_n (by omega), if_neg h2, if_neg h]; rfl
set_option maxRecDepth 100000 in
set_option maxHeartbeats 4000000 in
theorem l9_comes {T : TC} {I : MI} {G : MG} {F : FinT} {b : Nat × Nat} (d : Nat) {M : Nat} (hM : MSh T G M) (kind damp : Int32) (n : Nat) (hn : n < 8) (kx : Ex T RX9 cX9_comes 5 (d + 1) F 20 [some (.ref M), some (.int kind), some (.int damp), some (.int (nI n)), some (.int (nI 17))] [] (rowI I (M + 1) (comesK (I (M + 1)) n 17)) G b) : ∀ i k, k + i = 17 → Ex T RX9 cX9_comes 5 (d + 1) F 20 [some (.ref M), some (.int kind), some (.int damp), some (.int (nI n)), some (.int (nI k))] [] (rowI I (M + 1) (comesK (I (M + 1)) n k)) G b := by
  intro i
  induction i with
  | zero => intro k hk; rw [show k = 17 by omega]; exact kx
  | succ i ih0 =>
    intro k hk
    have ih := ih0 (k + 1)
    refine Ex_iload dX9_comes_20 rfl ?_
    refine Ex_bipush (v := nI 17) dX9_comes_22 (by rfl) ?_
    refine Ex_icmp_geN (by omega) (by omega) (tgt := 41) dX9_comes_24 (by decide) (fun h24 => ?_) (fun h24 => ?_)
    · omega
    · refine Ex_aload_n dX9_comes_27 rfl ?_
      refine Ex_iload_n dX9_comes_28 rfl ?_
      refine Ex_iload dX9_comes_29 rfl ?_
      refine Ex_iconst (v := nI 0) dX9_comes_31 (by rfl) ?_
      refine Ex_V3v dX9_comes_32 sX9_95 hM.1 (Nat.le_of_ble_eq_true rfl) (c9_put d hM n k _ (by omega)) ?_
      rintro _ _ ⟨rfl, rfl⟩
      rw [rowI_r, rowI_s, comesK_s]
      first | refine Ex_iincN (m := 1) dX9_comes_35 rfl rfl (by decide) rfl ?_ | refine Ex_iinc dX9_comes_35 rfl rfl (by decide) rfl ?_
      simp only [List.set_cons_zero, List.set_cons_succ]
      refine Ex_goto (tgt := 20) dX9_comes_38 (by decide) ?_
      exact ih (by omega)
set_option maxRecDepth 100000 in
set_option maxHeartbeats 4000000 in
theorem c9_comes {T : TC} {I : MI} {G : MG} (d : Nat) {M : Nat} (hM : MSh T G M) (kind damp : Int32) (n : Nat) (hn1 : I (M + 1) 1 = nI n) (hn : n < 8) : OkI T mX9_comes (d + 1) [.ref M, .int kind, .int damp] I G (fun r I' G' => r = nI n ∧ I' = rowI I (M + 1) (comesG (I (M + 1)) n kind damp) ∧ G' = G) := by
  refine Ok_of (own := RX9) (by decide) rfl (cat1 rfl) (Nat.le_of_ble_eq_true rfl) ?_
  show Ex T RX9 cX9_comes 5 (d + 1) _ 0 [some (.ref M), some (.int kind), some (.int damp), none, none] [] I G (0, 0)
  refine Ex_aload_n dX9_comes_0 rfl ?_
  refine Ex_getr dX9_comes_1 fX9_9 hM.1 (mF0 hM).1 ?_
  refine Ex_iconst (v := nI 1) dX9_comes_4 (by rfl) ?_
  refine Ex_iald dX9_comes_5 (mF0 hM).2.1 rfl (by rw [(mF0 hM).2.2]; omega) (by rw [(mF0 hM).2.2]; decide) ?_
  refine Ex_top hn1 ?_
  refine Ex_istore_n dX9_comes_6 (by decide) rfl ?_
  simp only [st_n0, st_n1, st_n2, st_n3, List.set_cons_zero, List.set_cons_succ]
  refine Ex_aload_n dX9_comes_7 rfl ?_
  refine Ex_getr dX9_comes_8 fX9_9 hM.1 (mF0 hM).1 ?_
  refine Ex_iconst (v := nI 1) dX9_comes_11 (by rfl) ?_
  refine Ex_dup2 dX9_comes_12 rfl rfl ?_
  refine Ex_iald dX9_comes_13 (mF0 hM).2.1 rfl (by rw [(mF0 hM).2.2]; omega) (by rw [(mF0 hM).2.2]; decide) ?_
  refine Ex_top hn1 ?_
  refine Ex_iconst (v := nI 1) dX9_comes_14 (by rfl) ?_
  first | refine Ex_iaddN dX9_comes_15 ?_ | refine Ex_iadd dX9_comes_15 ?_
  refine Ex_iast dX9_comes_16 (mF0 hM).2.1 rfl (by rw [(mF0 hM).2.2]; omega) (by rw [(mF0 hM).2.2]; decide) ?_
  refine Ex_iconst (v := nI 0) dX9_comes_17 (by rfl) ?_
  refine Ex_istore dX9_comes_18 (by decide) rfl ?_
  simp only [List.set_cons_zero, List.set_cons_succ]
  rw [setI_row, comesK_0]
  refine l9_comes d hM kind damp n hn ?_ 17 0 rfl
  refine Ex_iload dX9_comes_20 rfl ?_
  refine Ex_bipush (v := nI 17) dX9_comes_22 (by rfl) ?_
  refine Ex_icmp_geN (by omega) (by omega) (tgt := 41) dX9_comes_24 (by decide) (fun h24 => ?_) (fun h24 => ?_)
  · refine Ex_aload_n dX9_comes_41 rfl ?_
    refine Ex_iload_n dX9_comes_42 rfl ?_
    refine Ex_iconst (v := nI 0) dX9_comes_43 (by rfl) ?_
    refine Ex_iload_n dX9_comes_44 rfl ?_
    refine Ex_V3v dX9_comes_45 sX9_95 hM.1 (Nat.le_of_ble_eq_true rfl) (c9_put d hM n 0 _ (by omega)) ?_
    rintro _ _ ⟨rfl, rfl⟩
    refine Ex_aload_n dX9_comes_48 rfl ?_
    refine Ex_iload_n dX9_comes_49 rfl ?_
    refine Ex_iconst (v := nI 1) dX9_comes_50 (by rfl) ?_
    refine Ex_iload_n dX9_comes_51 rfl ?_
    refine Ex_V3v dX9_comes_52 sX9_95 hM.1 (Nat.le_of_ble_eq_true rfl) (c9_put d hM n 1 _ (by omega)) ?_
    rintro _ _ ⟨rfl, rfl⟩
    refine Ex_iload_n dX9_comes_55 rfl ?_
    refine Ex_iret dX9_comes_56 (by first | rfl | exact narrow_bI) ?_
    exact ⟨_, rfl, rfl, by rw [rowI_r, rowI_r, rowI_s, rowI_s, comesK_e], rfl⟩
  · omega
def offP (x : Int32) : Prop := ¬ (x - x / nI 3 * nI 3 = 0)
def offI (deed day : Int32) : Int32 := if (deed + day) - (deed + day) / nI 3 * nI 3 = 0 then 0 else 1
def catchI (kind damp deed day : Int32) : Int32 := if kind = nI 1 then bI (nI 2 < deed) else if kind = nI 2 then offI deed day else if kind = nI 3 then bI (nI 2 < deed ∨ deed = 0) else if kind = nI 4 then (if offI deed day = 0 then 0 else bI (nI 2 < damp)) else 1
theorem offI_0 {deed day : Int32} (h : (deed + day) - (deed + day) / nI 3 * nI 3 = 0) : offI deed day = 0 := if_pos h
theorem offI_1 {deed day : Int32} (h : ¬ (deed + day) - (deed + day) / nI 3 * nI 3 = 0) : offI deed day = 1 := if_neg h
theorem offI_01 (a b : Int32) : offI a b = 0 ∨ offI a b = 1 := by unfold offI; split <;> simp
theorem bI_01 {c : Prop} [Decidable c] : bI c = 0 ∨ bI c = 1 := by unfold bI; split <;> simp
theorem catchI_01 (a b c e : Int32) : catchI a b c e = 0 ∨ catchI a b c e = 1 := by
  unfold catchI
  repeat (first | exact bI_01 | exact offI_01 _ _ | exact Or.inl rfl | exact Or.inr rfl | split)
theorem narrow_01 {x : Int32} (h : x = 0 ∨ x = 1) : narrow .boolean (.int x) = .int x := by rcases h with rfl | rfl <;> rfl
theorem swo {x : Int32} {lo hi : Int} (h : x.toInt < lo ∨ hi < x.toInt) {k : Nat} (h1 : lo ≤ (k : Int)) (h2 : (k : Int) ≤ hi) (h3 : x = nI k) (h4 : k < 2 ^ 31 := by decide) : False := by
  rw [h3, nI_toInt h4] at h
  omega
set_option maxRecDepth 100000 in
set_option maxHeartbeats 4000000 in
theorem c9_doesCatch {T : TC} {I : MI} {G : MG} (d : Nat) {M : Nat} (hM : MSh T G M) (s : Nat) (deed : Int32) (h : s < 8) : OkP T mX9_doesCatch (d + 1) [.ref M, .int (nI s), .int deed] I G (catchI (I (M + 1) (8 + 17 * s + 0)) (I (M + 1) (8 + 17 * s + 1)) deed (I (M + 1) 2)) := by
  refine Ok_of (own := RX9) (by decide) rfl (cat1 rfl) (Nat.le_of_ble_eq_true rfl) ?_
  show Ex T RX9 cX9_doesCatch 4 (d + 1) _ 0 [some (.ref M), some (.int (nI s)), some (.int deed), none] [] I G (0, 0)
  refine Ex_iload_n dX9_doesCatch_0 rfl ?_
  refine Ex_aload_n dX9_doesCatch_1 rfl ?_
  refine Ex_getr dX9_doesCatch_2 fX9_9 hM.1 (mF0 hM).1 ?_
  refine Ex_iconst (v := nI 2) dX9_doesCatch_5 (by rfl) ?_
  refine Ex_iald dX9_doesCatch_6 (mF0 hM).2.1 rfl (by rw [(mF0 hM).2.2]; omega) (by rw [(mF0 hM).2.2]; decide) ?_
  first | refine Ex_iaddN dX9_doesCatch_7 ?_ | refine Ex_iadd dX9_doesCatch_7 ?_
  refine Ex_iconst (v := nI 3) dX9_doesCatch_8 (by rfl) ?_
  refine Ex_irem dX9_doesCatch_9 (by decide) ?_
  refine Ex_if_eq (tgt := 17) dX9_doesCatch_10 (by decide) (fun h10 => ?_) (fun h10 => ?_)
  · refine Ex_iconst (v := nI 0) dX9_doesCatch_17 (by rfl) ?_
    refine Ex_istore_n dX9_doesCatch_18 (by decide) rfl ?_
    simp only [st_n0, st_n1, st_n2, st_n3, List.set_cons_zero, List.set_cons_succ]
    refine Ex_aload_n dX9_doesCatch_19 rfl ?_
    refine Ex_iload_n dX9_doesCatch_20 rfl ?_
    refine Ex_iconst (v := nI 0) dX9_doesCatch_21 (by rfl) ?_
    refine Ex_V2p dX9_doesCatch_22 sX9_105 hM.1 (Nat.le_of_ble_eq_true rfl) (c9_of d hM s 0 (by omega)) ?_
    rcases sw_cases (I (M + 1) (8 + 17 * s + 0)) (1) (4) (by decide) (by decide) with ⟨k25, hk25, hl25, hx25⟩ | hx25
    · rcases (show k25 = 1 ∨ k25 = 2 ∨ k25 = 3 ∨ k25 = 4 by omega) with rfl | rfl | rfl | rfl
      · have hx25 : I (M + 1) (8 + 17 * s + 0) = nI 1 := hx25
        refine Ex_tabIn (tgt := 56) dX9_doesCatch_25 (by rw [hx25]; decide) (by rw [hx25]; decide) (off := 31) (by rw [hx25]; rfl) (by decide) ?_
        refine Ex_iload_n dX9_doesCatch_56 rfl ?_
        refine Ex_iconst (v := nI 2) dX9_doesCatch_57 (by rfl) ?_
        refine Ex_icmp_le (tgt := 65) dX9_doesCatch_58 (by decide) (fun h58 => ?_) (fun h58 => ?_)
        · refine Ex_iconst (v := nI 0) dX9_doesCatch_65 (by rfl) ?_
          refine Ex_iret dX9_doesCatch_66 (by first | rfl | exact narrow_bI) ?_
          exact ⟨_, rfl, (by unfold catchI; rw [if_pos hx25]; exact (bI_f (Int32.not_lt.mpr h58)).symm), rfl, rfl⟩
        · refine Ex_iconst (v := nI 1) dX9_doesCatch_61 (by rfl) ?_
          refine Ex_goto (tgt := 66) dX9_doesCatch_62 (by decide) ?_
          refine Ex_iret dX9_doesCatch_66 (by first | rfl | exact narrow_bI) ?_
          exact ⟨_, rfl, (by unfold catchI; rw [if_pos hx25]; exact (bI_t (Int32.not_le.mp h58)).symm), rfl, rfl⟩
      · have hx25 : I (M + 1) (8 + 17 * s + 0) = nI 2 := hx25
        refine Ex_tabIn (tgt := 67) dX9_doesCatch_25 (by rw [hx25]; decide) (by rw [hx25]; decide) (off := 42) (by rw [hx25]; rfl) (by decide) ?_
        refine Ex_iload_n dX9_doesCatch_67 rfl ?_
        refine Ex_iret dX9_doesCatch_68 (by first | rfl | exact narrow_bI) ?_
        exact ⟨_, rfl, (by unfold catchI; rw [if_neg (by rw [hx25]; decide)]; rw [if_pos hx25]; rw [(offI_0 h10)]; rfl), rfl, rfl⟩
      · have hx25 : I (M + 1) (8 + 17 * s + 0) = nI 3 := hx25
        refine Ex_tabIn (tgt := 69) dX9_doesCatch_25 (by rw [hx25]; decide) (by rw [hx25]; decide) (off := 44) (by rw [hx25]; rfl) (by decide) ?_
        refine Ex_iload_n dX9_doesCatch_69 rfl ?_
        refine Ex_iconst (v := nI 2) dX9_doesCatch_70 (by rfl) ?_
        refine Ex_icmp_gt (tgt := 78) dX9_doesCatch_71 (by decide) (fun h71 => ?_) (fun h71 => ?_)
        · refine Ex_iconst (v := nI 1) dX9_doesCatch_78 (by rfl) ?_
          refine Ex_goto (tgt := 83) dX9_doesCatch_79 (by decide) ?_
          refine Ex_iret dX9_doesCatch_83 (by first | rfl | exact narrow_bI) ?_
          exact ⟨_, rfl, (by unfold catchI; rw [if_neg (by rw [hx25]; decide)]; rw [if_neg (by rw [hx25]; decide)]; rw [if_pos hx25]; exact (bI_t (Or.inl h71)).symm), rfl, rfl⟩
        · refine Ex_iload_n dX9_doesCatch_74 rfl ?_
          refine Ex_if_ne (tgt := 82) dX9_doesCatch_75 (by decide) (fun h75 => ?_) (fun h75 => ?_)
          · refine Ex_iconst (v := nI 0) dX9_doesCatch_82 (by rfl) ?_
            refine Ex_iret dX9_doesCatch_83 (by first | rfl | exact narrow_bI) ?_
            exact ⟨_, rfl, (by unfold catchI; rw [if_neg (by rw [hx25]; decide)]; rw [if_neg (by rw [hx25]; decide)]; rw [if_pos hx25]; exact (bI_f (fun q => q.elim h71 h75)).symm), rfl, rfl⟩
          · refine Ex_iconst (v := nI 1) dX9_doesCatch_78 (by rfl) ?_
            refine Ex_goto (tgt := 83) dX9_doesCatch_79 (by decide) ?_
            refine Ex_iret dX9_doesCatch_83 (by first | rfl | exact narrow_bI) ?_
            exact ⟨_, rfl, (by unfold catchI; rw [if_neg (by rw [hx25]; decide)]; rw [if_neg (by rw [hx25]; decide)]; rw [if_pos hx25]; exact (bI_t (Or.inr h75)).symm), rfl, rfl⟩
      · have hx25 : I (M + 1) (8 + 17 * s + 0) = nI 4 := hx25
        refine Ex_tabIn (tgt := 84) dX9_doesCatch_25 (by rw [hx25]; decide) (by rw [hx25]; decide) (off := 59) (by rw [hx25]; rfl) (by decide) ?_
        refine Ex_iload_n dX9_doesCatch_84 rfl ?_
        refine Ex_if_eq (tgt := 102) dX9_doesCatch_85 (by decide) (fun h85 => ?_) (fun h85 => ?_)
        · refine Ex_iconst (v := nI 0) dX9_doesCatch_102 (by rfl) ?_
          refine Ex_iret dX9_doesCatch_103 (by first | rfl | exact narrow_bI) ?_
          exact ⟨_, rfl, (by unfold catchI; rw [if_neg (by rw [hx25]; decide)]; rw [if_neg (by rw [hx25]; decide)]; rw [if_neg (by rw [hx25]; decide)]; rw [if_pos hx25]; rw [if_pos (offI_0 h10)]; rfl), rfl, rfl⟩
        · exact absurd (rfl : nI 0 = 0) h85
    · refine Ex_tabOut (tgt := 104) dX9_doesCatch_25 hx25 (by decide) ?_
      refine Ex_iconst (v := nI 1) dX9_doesCatch_104 (by rfl) ?_
      refine Ex_iret dX9_doesCatch_105 (by first | rfl | exact narrow_bI) ?_
      exact ⟨_, rfl, (by unfold catchI; rw [if_neg (fun q => swo hx25 (k := 1) (by decide) (by decide) q), if_neg (fun q => swo hx25 (k := 2) (by decide) (by decide) q), if_neg (fun q => swo hx25 (k := 3) (by decide) (by decide) q), if_neg (fun q => swo hx25 (k := 4) (by decide) (by decide) q)]; rfl), rfl, rfl⟩
  · refine Ex_iconst (v := nI 1) dX9_doesCatch_13 (by rfl) ?_
    refine Ex_goto (tgt := 18) dX9_doesCatch_14 (by decide) ?_
    refine Ex_istore_n dX9_doesCatch_18 (by decide) rfl ?_
    simp only [st_n0, st_n1, st_n2, st_n3, List.set_cons_zero, List.set_cons_succ]
    refine Ex_aload_n dX9_doesCatch_19 rfl ?_
    refine Ex_iload_n dX9_doesCatch_20 rfl ?_
    refine Ex_iconst (v := nI 0) dX9_doesCatch_21 (by rfl) ?_
    refine Ex_V2p dX9_doesCatch_22 sX9_105 hM.1 (Nat.le_of_ble_eq_true rfl) (c9_of d hM s 0 (by omega)) ?_
    rcases sw_cases (I (M + 1) (8 + 17 * s + 0)) (1) (4) (by decide) (by decide) with ⟨k25, hk25, hl25, hx25⟩ | hx25
    · rcases (show k25 = 1 ∨ k25 = 2 ∨ k25 = 3 ∨ k25 = 4 by omega) with rfl | rfl | rfl | rfl
      · have hx25 : I (M + 1) (8 + 17 * s + 0) = nI 1 := hx25
        refine Ex_tabIn (tgt := 56) dX9_doesCatch_25 (by rw [hx25]; decide) (by rw [hx25]; decide) (off := 31) (by rw [hx25]; rfl) (by decide) ?_
        refine Ex_iload_n dX9_doesCatch_56 rfl ?_
        refine Ex_iconst (v := nI 2) dX9_doesCatch_57 (by rfl) ?_
        refine Ex_icmp_le (tgt := 65) dX9_doesCatch_58 (by decide) (fun h58 => ?_) (fun h58 => ?_)
        · refine Ex_iconst (v := nI 0) dX9_doesCatch_65 (by rfl) ?_
          refine Ex_iret dX9_doesCatch_66 (by first | rfl | exact narrow_bI) ?_
          exact ⟨_, rfl, (by unfold catchI; rw [if_pos hx25]; exact (bI_f (Int32.not_lt.mpr h58)).symm), rfl, rfl⟩
        · refine Ex_iconst (v := nI 1) dX9_doesCatch_61 (by rfl) ?_
          refine Ex_goto (tgt := 66) dX9_doesCatch_62 (by decide) ?_
          refine Ex_iret dX9_doesCatch_66 (by first | rfl | exact narrow_bI) ?_
          exact ⟨_, rfl, (by unfold catchI; rw [if_pos hx25]; exact (bI_t (Int32.not_le.mp h58)).symm), rfl, rfl⟩
      · have hx25 : I (M + 1) (8 + 17 * s + 0) = nI 2 := hx25
        refine Ex_tabIn (tgt := 67) dX9_doesCatch_25 (by rw [hx25]; decide) (by rw [hx25]; decide) (off := 42) (by rw [hx25]; rfl) (by decide) ?_
        refine Ex_iload_n dX9_doesCatch_67 rfl ?_
        refine Ex_iret dX9_doesCatch_68 (by first | rfl | exact narrow_bI) ?_
        exact ⟨_, rfl, (by unfold catchI; rw [if_neg (by rw [hx25]; decide)]; rw [if_pos hx25]; rw [(offI_1 h10)]; rfl), rfl, rfl⟩
      · have hx25 : I (M + 1) (8 + 17 * s + 0) = nI 3 := hx25
        refine Ex_tabIn (tgt := 69) dX9_doesCatch_25 (by rw [hx25]; decide) (by rw [hx25]; decide) (off := 44) (by rw [hx25]; rfl) (by decide) ?_
        refine Ex_iload_n dX9_doesCatch_69 rfl ?_
        refine Ex_iconst (v := nI 2) dX9_doesCatch_70 (by rfl) ?_
        refine Ex_icmp_gt (tgt := 78) dX9_doesCatch_71 (by decide) (fun h71 => ?_) (fun h71 => ?_)
        · refine Ex_iconst (v := nI 1) dX9_doesCatch_78 (by rfl) ?_
          refine Ex_goto (tgt := 83) dX9_doesCatch_79 (by decide) ?_
          refine Ex_iret dX9_doesCatch_83 (by first | rfl | exact narrow_bI) ?_
          exact ⟨_, rfl, (by unfold catchI; rw [if_neg (by rw [hx25]; decide)]; rw [if_neg (by rw [hx25]; decide)]; rw [if_pos hx25]; exact (bI_t (Or.inl h71)).symm), rfl, rfl⟩
        · refine Ex_iload_n dX9_doesCatch_74 rfl ?_
          refine Ex_if_ne (tgt := 82) dX9_doesCatch_75 (by decide) (fun h75 => ?_) (fun h75 => ?_)
          · refine Ex_iconst (v := nI 0) dX9_doesCatch_82 (by rfl) ?_
            refine Ex_iret dX9_doesCatch_83 (by first | rfl | exact narrow_bI) ?_
            exact ⟨_, rfl, (by unfold catchI; rw [if_neg (by rw [hx25]; decide)]; rw [if_neg (by rw [hx25]; decide)]; rw [if_pos hx25]; exact (bI_f (fun q => q.elim h71 h75)).symm), rfl, rfl⟩
          · refine Ex_iconst (v := nI 1) dX9_doesCatch_78 (by rfl) ?_
            refine Ex_goto (tgt := 83) dX9_doesCatch_79 (by decide) ?_
            refine Ex_iret dX9_doesCatch_83 (by first | rfl | exact narrow_bI) ?_
            exact ⟨_, rfl, (by unfold catchI; rw [if_neg (by rw [hx25]; decide)]; rw [if_neg (by rw [hx25]; decide)]; rw [if_pos hx25]; exact (bI_t (Or.inr h75)).symm), rfl, rfl⟩
      · have hx25 : I (M + 1) (8 + 17 * s + 0) = nI 4 := hx25
        refine Ex_tabIn (tgt := 84) dX9_doesCatch_25 (by rw [hx25]; decide) (by rw [hx25]; decide) (off := 59) (by rw [hx25]; rfl) (by decide) ?_
        refine Ex_iload_n dX9_doesCatch_84 rfl ?_
        refine Ex_if_eq (tgt := 102) dX9_doesCatch_85 (by decide) (fun h85 => ?_) (fun h85 => ?_)
        · exact absurd h85 (by decide)
        · refine Ex_aload_n dX9_doesCatch_88 rfl ?_
          refine Ex_iload_n dX9_doesCatch_89 rfl ?_
          refine Ex_iconst (v := nI 1) dX9_doesCatch_90 (by rfl) ?_
          refine Ex_V2p dX9_doesCatch_91 sX9_105 hM.1 (Nat.le_of_ble_eq_true rfl) (c9_of d hM s 1 (by omega)) ?_
          refine Ex_iconst (v := nI 2) dX9_doesCatch_94 (by rfl) ?_
          refine Ex_icmp_le (tgt := 102) dX9_doesCatch_95 (by decide) (fun h95 => ?_) (fun h95 => ?_)
          · refine Ex_iconst (v := nI 0) dX9_doesCatch_102 (by rfl) ?_
            refine Ex_iret dX9_doesCatch_103 (by first | rfl | exact narrow_bI) ?_
            exact ⟨_, rfl, (by unfold catchI; rw [if_neg (by rw [hx25]; decide)]; rw [if_neg (by rw [hx25]; decide)]; rw [if_neg (by rw [hx25]; decide)]; rw [if_pos hx25]; rw [if_neg (by rw [(offI_1 h10)]; decide)]; exact (bI_f (Int32.not_lt.mpr h95)).symm), rfl, rfl⟩
          · refine Ex_iconst (v := nI 1) dX9_doesCatch_98 (by rfl) ?_
            refine Ex_goto (tgt := 103) dX9_doesCatch_99 (by decide) ?_
            refine Ex_iret dX9_doesCatch_103 (by first | rfl | exact narrow_bI) ?_
            exact ⟨_, rfl, (by unfold catchI; rw [if_neg (by rw [hx25]; decide)]; rw [if_neg (by rw [hx25]; decide)]; rw [if_neg (by rw [hx25]; decide)]; rw [if_pos hx25]; rw [if_neg (by rw [(offI_1 h10)]; decide)]; exact (bI_t (Int32.not_le.mp h95)).symm), rfl, rfl⟩
    · refine Ex_tabOut (tgt := 104) dX9_doesCatch_25 hx25 (by decide) ?_
      refine Ex_iconst (v := nI 1) dX9_doesCatch_104 (by rfl) ?_
      refine Ex_iret dX9_doesCatch_105 (by first | rfl | exact narrow_bI) ?_
      exact ⟨_, rfl, (by unfold catchI; rw [if_neg (fun q => swo hx25 (k := 1) (by decide) (by decide) q), if_neg (fun q => swo hx25 (k := 2) (by decide) (by decide) q), if_neg (fun q => swo hx25 (k := 3) (by decide) (by decide) q), if_neg (fun q => swo hx25 (k := 4) (by decide) (by decide) q)]; rfl), rfl, rfl⟩
