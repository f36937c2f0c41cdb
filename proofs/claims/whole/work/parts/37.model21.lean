/-! settle, notsOpen, takesPart -/
def stl (least : Int32) : List Int32 → List Int32 → List Int32 × List Int32
  | [], c => ([], c)
  | x :: w, c => if x = (-11) then (x :: w, c) else if rkI x < least then (x :: w, c) else stl least w (x :: c)
theorem stl_len {least : Int32} : ∀ w c, (stl least w c).1.length + (stl least w c).2.length = w.length + c.length ∧ (stl least w c).1.length ≤ w.length
  | [], c => ⟨rfl, Nat.le_refl _⟩
  | x :: w, c => by
    unfold stl
    split
    · exact ⟨rfl, Nat.le_refl _⟩
    · split
      · exact ⟨rfl, Nat.le_refl _⟩
      · have := stl_len (least := least) w (x :: c)
        simp only [List.length_cons] at this ⊢
        omega
set_option maxRecDepth 100000 in
set_option maxHeartbeats 4000000 in
theorem l9_settle {T : TC} {A : MI} {G : MG} {b : Nat × Nat} (d : Nat) {M : Nat} {c te : Nat → Int32} {ky aa nx fr tk vl en : Int32} (hM : MSh T G M) (least : Int32) (W : List Int32 × List Int32) : ∀ (w q : List Int32) (cd wt : Nat → Int32), w.length + q.length ≤ 96 → SR cd q → SR wt w → stl least w q = W → Ex T RX9 cX9_settle 2 (d + 1) (fm T "settle" none (fun v I' G' => v = none ∧ (∃ cd' wt', I' = PM A M c cd' wt' te ky (nI W.2.length) aa (nI W.1.length) nx fr tk vl en ∧ SR cd' W.2 ∧ SR wt' W.1) ∧ G' = G)) 0 [some (.ref M), some (.int least)] [] (PM A M c cd wt te ky (nI q.length) aa (nI w.length) nx fr tk vl en) G b := by
  intro w
  induction w with
  | nil =>
    intro q cd wt hl hq hw hW
    have e : ([], q) = W := hW
    subst e
    refine Ex_aload_n dX9_settle_0 rfl ?_
    refine Ex_geti dX9_settle_1 fX9_241 hM.1 ?_
    rw [qd25]
    refine Ex_if_le (tgt := 82) dX9_settle_4 (by decide) (fun h4 => ?_) (fun h4 => ?_)
    · refine Ex_vret dX9_settle_82 ?_
      exact ⟨rfl, ⟨_, _, rfl, hq, hw⟩, rfl⟩
    · exact absurd (Int32.le_refl _) h4
  | cons x w ih =>
    intro q cd wt hl hq hw hW
    simp only [List.length_cons] at hl
    have hWs : stl least (x :: w) q = if x = (-11) then (x :: w, q) else if rkI x < least then (x :: w, q) else stl least w (x :: q) := rfl
    rw [hWs] at hW
    have hx : wt w.length = x := hw.1
    rw [List.length_cons]
    refine Ex_aload_n dX9_settle_0 rfl ?_
    refine Ex_geti dX9_settle_1 fX9_241 hM.1 ?_
    rw [qd25]
    refine Ex_if_le (tgt := 82) dX9_settle_4 (by decide) (fun h4 => ?_) (fun h4 => ?_)
    · exact absurd h4 (by rw [Int32.not_le]; exact nI_lt (a := 0) (by omega) (by omega))
    · refine Ex_aload_n dX9_settle_7 rfl ?_
      refine Ex_getr dX9_settle_8 fX9_51 hM.1 (mF24 hM).1 ?_
      refine Ex_aload_n dX9_settle_11 rfl ?_
      refine Ex_geti dX9_settle_12 fX9_241 hM.1 ?_
      rw [qd25]
      refine Ex_iconst (v := nI 1) dX9_settle_15 (by rfl) ?_
      refine Ex_isub dX9_settle_16 ?_
      refine Ex_top (pk_sub (by omega)) ?_
      rw [Nat.add_sub_cancel]
      refine Ex_iald dX9_settle_17 (mF24 hM).2.1 rfl (by rw [(mF24 hM).2.2]; omega) (by rw [(mF24 hM).2.2]; decide) ?_
      rw [qa14, hx]
      refine Ex_bipush (v := (-11)) dX9_settle_18 (by rfl) ?_
      refine Ex_icmp_eq (tgt := 82) dX9_settle_20 (by decide) (fun h20 => ?_) (fun h20 => ?_)
      · refine Ex_vret dX9_settle_82 ?_
        rw [if_pos h20] at hW
        subst hW
        exact ⟨rfl, ⟨_, _, rfl, hq, hw⟩, rfl⟩
      · refine Ex_aload_n dX9_settle_23 rfl ?_
        refine Ex_getr dX9_settle_24 fX9_51 hM.1 (mF24 hM).1 ?_
        refine Ex_aload_n dX9_settle_27 rfl ?_
        refine Ex_geti dX9_settle_28 fX9_241 hM.1 ?_
        rw [qd25]
        refine Ex_iconst (v := nI 1) dX9_settle_31 (by rfl) ?_
        refine Ex_isub dX9_settle_32 ?_
        refine Ex_top (pk_sub (by omega)) ?_
        rw [Nat.add_sub_cancel]
        refine Ex_iald dX9_settle_33 (mF24 hM).2.1 rfl (by rw [(mF24 hM).2.2]; omega) (by rw [(mF24 hM).2.2]; decide) ?_
        rw [qa14, hx]
        refine Ex_S1p dX9_settle_34 sX9_244  (Nat.le_of_ble_eq_true rfl) (c9_rank d _) ?_
        refine Ex_iload_n dX9_settle_37 rfl ?_
        refine Ex_icmp_lt (tgt := 82) dX9_settle_38 (by decide) (fun h38 => ?_) (fun h38 => ?_)
        · refine Ex_vret dX9_settle_82 ?_
          rw [if_neg h20, if_pos h38] at hW
          subst hW
          exact ⟨rfl, ⟨_, _, rfl, hq, hw⟩, rfl⟩
        · refine Ex_aload_n dX9_settle_41 rfl ?_
          refine Ex_dup dX9_settle_42 rfl ?_
          refine Ex_geti dX9_settle_43 fX9_241 hM.1 ?_
          rw [qd25]
          refine Ex_iconst (v := nI 1) dX9_settle_46 (by rfl) ?_
          refine Ex_isub dX9_settle_47 ?_
          refine Ex_top (pk_sub (by omega)) ?_
          rw [Nat.add_sub_cancel]
          refine Ex_puti dX9_settle_48 fX9_241 rfl rfl rfl hM.1 ?_
          rw [qw25]
          refine Ex_aload_n dX9_settle_51 rfl ?_
          refine Ex_getr dX9_settle_52 fX9_48 hM.1 (mF21 hM).1 ?_
          refine Ex_aload_n dX9_settle_55 rfl ?_
          refine Ex_geti dX9_settle_56 fX9_247 hM.1 ?_
          rw [qd22]
          refine Ex_aload_n dX9_settle_59 rfl ?_
          refine Ex_getr dX9_settle_60 fX9_51 hM.1 (mF24 hM).1 ?_
          refine Ex_aload_n dX9_settle_63 rfl ?_
          refine Ex_geti dX9_settle_64 fX9_241 hM.1 ?_
          rw [qd25]
          refine Ex_iald dX9_settle_67 (mF24 hM).2.1 rfl (by rw [(mF24 hM).2.2]; omega) (by rw [(mF24 hM).2.2]; decide) ?_
          rw [qa14, hx]
          refine Ex_iast dX9_settle_68 (mF21 hM).2.1 rfl (by rw [(mF21 hM).2.2]; omega) (by rw [(mF21 hM).2.2]; decide) ?_
          rw [qs13]
          refine Ex_aload_n dX9_settle_69 rfl ?_
          refine Ex_dup dX9_settle_70 rfl ?_
          refine Ex_geti dX9_settle_71 fX9_247 hM.1 ?_
          rw [qd22]
          refine Ex_iconst (v := nI 1) dX9_settle_74 (by rfl) ?_
          first | with_reducible refine Ex_iaddN dX9_settle_75 ?_ | refine Ex_iadd dX9_settle_75 ?_
          refine Ex_puti dX9_settle_76 fX9_247 rfl rfl rfl hM.1 ?_
          rw [qw22]
          refine Ex_goto (tgt := 0) dX9_settle_79 (by decide) ?_
          rw [if_neg h20, if_neg h38] at hW
          exact ih (x :: q) _ _ (by simp only [List.length_cons]; omega) (SR_push hq) hw.2 hW
theorem c9_settle {T : TC} {A : MI} {G : MG} (d : Nat) {M : Nat} {c te : Nat → Int32} {ky aa nx fr tk vl en : Int32} (hM : MSh T G M) (least : Int32) (w q : List Int32) (cd wt : Nat → Int32) (hl : w.length + q.length ≤ 96) (hq : SR cd q) (hw : SR wt w) : OkV T mX9_settle (d + 1) [.ref M, .int least] (PM A M c cd wt te ky (nI q.length) aa (nI w.length) nx fr tk vl en) G (fun I' G' => (∃ cd' wt', I' = PM A M c cd' wt' te ky (nI (stl least w q).2.length) aa (nI (stl least w q).1.length) nx fr tk vl en ∧ SR cd' (stl least w q).2 ∧ SR wt' (stl least w q).1) ∧ G' = G) := by
  refine Ok_of (own := RX9) (by decide) rfl (cat1 rfl) (Nat.le_of_ble_eq_true rfl) ?_
  exact l9_settle d hM least _ w q cd wt hl hq hw rfl
def noC (f : Nat → Int32) : Nat → Nat
  | 0 => 0
  | k + 1 => noC f k + if f k = (-10) then 1 else 0
theorem noC_le {f : Nat → Int32} : ∀ k, noC f k ≤ k
  | 0 => Nat.le_refl _
  | k + 1 => by
    have := noC_le (f := f) k
    unfold noC
    split <;> omega
def noL : List Int32 → Nat
  | [] => 0
  | x :: w => noL w + if x = (-10) then 1 else 0
theorem noC_L {f : Nat → Int32} : ∀ {w : List Int32}, SR f w → noC f w.length = noL w
  | [], _ => rfl
  | x :: w, h => by
    show noC f w.length + _ = noL w + _
    rw [noC_L h.2, h.1]
set_option maxRecDepth 100000 in
set_option maxHeartbeats 4000000 in
theorem l9_notsOpen {T : TC} {I : MI} {G : MG} {b : Nat × Nat} (d : Nat) {M : Nat} (hM : MSh T G M) (h : Nat) (hh : I M 25 = nI h) (h96 : h ≤ 96) : ∀ i k, k + i = h → Ex T RX9 cX9_notsOpen 3 d (fm T "notsOpen" (some .int) (fun v I' G' => ∃ r, v = some (.int r) ∧ r = nI (noC (I (M + 14)) h) ∧ I' = I ∧ G' = G)) 4 [some (.ref M), some (.int (nI (noC (I (M + 14)) k))), some (.int (nI k))] [] I G b := by
  intro i
  induction i with
  | zero =>
    intro k h0
    have e : k = h := h0
    subst e
    refine Ex_iload_n dX9_notsOpen_4 rfl ?_
    refine Ex_aload_n dX9_notsOpen_5 rfl ?_
    refine Ex_geti dX9_notsOpen_6 fX9_241 hM.1 ?_
    refine Ex_top hh ?_
    refine Ex_icmp_geN (by omega) (by omega) (tgt := 37) dX9_notsOpen_9 (by decide) (fun h9 => ?_) (fun h9 => ?_)
    · refine Ex_iload_n dX9_notsOpen_37 rfl ?_
      refine Ex_iret dX9_notsOpen_38 (by first | rfl | exact narrow_bI) ?_
      exact ⟨_, rfl, rfl, rfl, rfl⟩
    · omega
  | succ i ih =>
    intro k h0
    have hs : noC (I (M + 14)) (k + 1) = noC (I (M + 14)) k + if I (M + 14) k = (-10) then 1 else 0 := rfl
    refine Ex_iload_n dX9_notsOpen_4 rfl ?_
    refine Ex_aload_n dX9_notsOpen_5 rfl ?_
    refine Ex_geti dX9_notsOpen_6 fX9_241 hM.1 ?_
    refine Ex_top hh ?_
    refine Ex_icmp_geN (by omega) (by omega) (tgt := 37) dX9_notsOpen_9 (by decide) (fun h9 => ?_) (fun h9 => ?_)
    · omega
    · refine Ex_iload_n dX9_notsOpen_12 rfl ?_
      refine Ex_aload_n dX9_notsOpen_13 rfl ?_
      refine Ex_getr dX9_notsOpen_14 fX9_51 hM.1 (mF24 hM).1 ?_
      refine Ex_iload_n dX9_notsOpen_17 rfl ?_
      refine Ex_iald dX9_notsOpen_18 (mF24 hM).2.1 rfl (by rw [(mF24 hM).2.2]; omega) (by rw [(mF24 hM).2.2]; decide) ?_
      refine Ex_bipush (v := (-10)) dX9_notsOpen_19 (by rfl) ?_
      refine Ex_icmp_ne (tgt := 28) dX9_notsOpen_21 (by decide) (fun h21 => ?_) (fun h21 => ?_)
      · refine Ex_iconst (v := nI 0) dX9_notsOpen_28 (by rfl) ?_
        first | with_reducible refine Ex_iaddN dX9_notsOpen_29 ?_ | refine Ex_iadd dX9_notsOpen_29 ?_
        refine Ex_istore_n dX9_notsOpen_30 (by decide) rfl ?_
        simp only [st_n0, st_n1, st_n2, st_n3, List.set_cons_zero, List.set_cons_succ]
        first | refine Ex_iincN (m := 1) dX9_notsOpen_31 rfl rfl (by decide) rfl ?_ | refine Ex_iinc dX9_notsOpen_31 rfl rfl (by decide) rfl ?_
        simp only [List.set_cons_zero, List.set_cons_succ]
        refine Ex_goto (tgt := 4) dX9_notsOpen_34 (by decide) ?_
        have key := ih (k + 1) (by omega)
        rw [hs, if_neg h21] at key
        exact key
      · refine Ex_iconst (v := nI 1) dX9_notsOpen_24 (by rfl) ?_
        refine Ex_goto (tgt := 29) dX9_notsOpen_25 (by decide) ?_
        first | with_reducible refine Ex_iaddN dX9_notsOpen_29 ?_ | refine Ex_iadd dX9_notsOpen_29 ?_
        refine Ex_istore_n dX9_notsOpen_30 (by decide) rfl ?_
        simp only [st_n0, st_n1, st_n2, st_n3, List.set_cons_zero, List.set_cons_succ]
        first | refine Ex_iincN (m := 1) dX9_notsOpen_31 rfl rfl (by decide) rfl ?_ | refine Ex_iinc dX9_notsOpen_31 rfl rfl (by decide) rfl ?_
        simp only [List.set_cons_zero, List.set_cons_succ]
        refine Ex_goto (tgt := 4) dX9_notsOpen_34 (by decide) ?_
        have key := ih (k + 1) (by omega)
        rw [hs, if_pos h21] at key
        exact key
set_option maxRecDepth 100000 in
set_option maxHeartbeats 4000000 in
theorem c9_notsOpen {T : TC} {I : MI} {G : MG} (d : Nat) {M : Nat} (hM : MSh T G M) (w : List Int32) (hh : I M 25 = nI w.length) (h96 : w.length ≤ 96) (hw : SR (I (M + 14)) w)  : OkP T mX9_notsOpen (d) [.ref M] I G (nI (noL w)) := by
  refine Ok_of (own := RX9) (by decide) rfl (cat1 rfl) (Nat.le_of_ble_eq_true rfl) ?_
  show Ex T RX9 cX9_notsOpen 3 (d) _ 0 [some (.ref M), none, none] [] I G (0, 0)
  refine Ex_iconst (v := nI 0) dX9_notsOpen_0 (by rfl) ?_
  refine Ex_istore_n dX9_notsOpen_1 (by decide) rfl ?_
  simp only [st_n0, st_n1, st_n2, st_n3, List.set_cons_zero, List.set_cons_succ]
  refine Ex_iconst (v := nI 0) dX9_notsOpen_2 (by rfl) ?_
  refine Ex_istore_n dX9_notsOpen_3 (by decide) rfl ?_
  simp only [st_n0, st_n1, st_n2, st_n3, List.set_cons_zero, List.set_cons_succ]
  have key := l9_notsOpen (b := (0, 0)) d hM w.length hh h96 w.length 0 (by omega)
  rw [noC_L hw] at key
  exact key
