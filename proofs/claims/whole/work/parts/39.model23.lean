/-! takesE -/
def opC : List Int32 → Nat
  | [] => 0
  | x :: w => opC w + if x = (-11) then 1 else 0
theorem stl_op {l : Int32} : ∀ w q, opC (stl l w q).1 = opC w
  | [], _ => rfl
  | x :: w, q => by
    unfold stl
    split
    · rfl
    · split
      · rfl
      · rw [stl_op w (x :: q)]
        rename_i h _
        show _ = opC w + _
        rw [if_neg h, Nat.add_zero]
theorem opC_10 {w : List Int32} : opC ((-10) :: w) = opC w := by
  show opC w + _ = _
  rw [if_neg (by decide), Nat.add_zero]
theorem opC_11 {w : List Int32} : opC ((-11) :: w) = opC w + 1 := by
  show opC w + _ = _
  rw [if_pos rfl]
theorem rk_nn {x : Int32} : ¬ rkI x < nI 0 := by
  unfold rkI
  split
  · decide
  · split
    · decide
    · split
      · split
        · split <;> decide
        · decide
      · decide
theorem stl0_top : ∀ {w : List Int32} {q : List Int32}, 0 < opC w → ∃ w1, (stl (nI 0) w q).1 = (-11) :: w1
  | [], _, h => absurd h (Nat.lt_irrefl 0)
  | x :: w, q, h => by
    unfold stl
    by_cases hx : x = (-11)
    · rw [if_pos hx, hx]; exact ⟨w, rfl⟩
    · rw [if_neg hx, if_neg rk_nn]
      have h' : 0 < opC w := by
        have : opC (x :: w) = opC w + if x = (-11) then 1 else 0 := rfl
        rw [this, if_neg hx] at h
        exact h
      exact stl0_top h'
def teI (rk x : Int32) : Int32 := if rk = nI 3 ∨ (nI 3 < rk ∧ ¬ x = 0) then nI 1 else nI 0
def syE (tb : Nat → Nat) (N : Nat) (ky : Int32) : Nat → Bool → Nat → Nat → Int32 → Int32 → Int32 → List Int32 → List Int32 → Nat → Nat → Nat → (Nat → Int32) → Bool × Nat × List Int32 × Nat
  | 0, _, _, f, _, _, _, _, q, a, _, _, _ => (false, f, q, a)
  | i + 1, true, p, f, tk, vl, en, w, q, a, pa, no, te =>
    if tk = nI 3 ∧ vl = nI 33 ∧ no < 8 then syE tb N ky i true (gE tb N (gF tb N p)) (gF tb N p) (gT tb N (gF tb N p) en) (gV tb N (gF tb N p) vl) (gD tb N (gF tb N p) en) ((-10) :: w) q a pa (noL ((-10) :: w)) te
    else if tk = nI 3 ∧ vl = nI 40 ∧ pa < 8 then syE tb N ky i true (gE tb N (gF tb N p)) (gF tb N p) (gT tb N (gF tb N p) en) (gV tb N (gF tb N p) vl) (gD tb N (gF tb N p) en) ((-11) :: w) q a (pa + 1) (noL ((-11) :: w)) (upd te (pa + 1) (nI 0))
    else if ptP ky tk vl (p - f) then syE tb N ky i false (gE tb N (gF tb N p)) (gF tb N p) (gT tb N (gF tb N p) en) (gV tb N (gF tb N p) vl) (gD tb N (gF tb N p) en) (stl (nI 6) w (atI ky tk vl :: q)).1 (stl (nI 6) w (atI ky tk vl :: q)).2 (a + 1) pa (noL (stl (nI 6) w (atI ky tk vl :: q)).1) te
    else (false, f, q, a)
  | i + 1, false, p, f, tk, vl, en, w, q, a, pa, no, te =>
    if tk = nI 0 then (decide (pa = 0), f, (stl (nI 0) w q).2, a)
    else if tk = nI 3 ∧ vl = nI 41 ∧ 0 < pa then syE tb N ky i false (gE tb N (gF tb N p)) (gF tb N p) (gT tb N (gF tb N p) en) (gV tb N (gF tb N p) vl) (gD tb N (gF tb N p) en) (stl (nI 6) (stl (nI 0) w q).1.tail (stl (nI 0) w q).2).1 (stl (nI 6) (stl (nI 0) w q).1.tail (stl (nI 0) w q).2).2 a (pa - 1) (noL (stl (nI 6) (stl (nI 0) w q).1.tail (stl (nI 0) w q).2).1) te
    else if sgI tk vl = 0 ∨ (rkI (sgI tk vl) = nI 3 ∧ ¬ te pa = 0) then (false, f, q, a)
    else syE tb N ky i true (gE tb N (gF tb N p)) (gF tb N p) (gT tb N (gF tb N p) en) (gV tb N (gF tb N p) vl) (gD tb N (gF tb N p) en) (sgI tk vl :: (stl (rkI (sgI tk vl)) w q).1) (stl (rkI (sgI tk vl)) w q).2 a pa no (upd te pa (teI (rkI (sgI tk vl)) (te pa)))
theorem run_lt {P : Nat → Prop} [DecidablePred P] {i p : Nat} (h : P p) (hi : 0 < i) : p < run P i p := by
  obtain ⟨j, rfl⟩ : ∃ j, i = j + 1 := ⟨i - 1, by omega⟩
  have := run_le (P := P) j (p + 1)
  show p < if P p then run P j (p + 1) else p
  rw [if_pos h]
  omega
def TkI (N p f : Nat) (tk : Int32) : Prop := f ≤ p ∧ p ≤ N ∧ (¬ tk = nI 0 → f < p)
theorem TkI_go {tb : Nat → Nat} {N p : Nat} {en : Int32} (hp : p ≤ N) : TkI N (gE tb N (gF tb N p)) (gF tb N p) (gT tb N (gF tb N p) en) := by
  have h1 := gF_le (tb := tb) hp
  have h2 := gE_le (tb := tb) h1.2
  refine ⟨h2.1, h2.2, fun h => ?_⟩
  have hn : ¬ gF tb N p = N := fun e => h (by unfold gT; rw [if_pos e])
  generalize gF tb N p = f at *
  unfold gE
  rw [if_neg hn]
  by_cases h3 : isLe tb N f
  · rw [if_pos h3]; exact run_lt h3 (by omega)
  · rw [if_neg h3]
    by_cases h4 : isFi tb N f
    · rw [if_pos h4]; exact run_lt h4 (by omega)
    · rw [if_neg h4]; omega
theorem noL_le : ∀ w, noL w ≤ w.length
  | [] => Nat.le_refl _
  | x :: w => by
    have := noL_le w
    show noL w + _ ≤ w.length + 1
    split <;> omega
set_option maxRecDepth 100000 in
set_option maxHeartbeats 4000000 in
theorem t1_takesE {T : TC} {A : MI} {G : MG} {b : Nat × Nat} {F : _} (d : Nat) {M : Nat} {c : Nat → Int32} {ky : Int32} (hM : MSh T G M) (tb : Nat → Nat) (N : Nat) (hT : TpO A M tb N) (hc : c 12 = nI N) (p f : Nat) (hp : p ≤ N) (tk vl en : Int32) (w q : List Int32) (a pa no : Nat) (hpa : pa ≤ 8) (te cd wt : Nat → Int32) (x4 : Option Value) (hl : w.length < 96) (hw : SR wt w) (K : Ex T RX9 cX9_takesE 5 (d + 3) F 28 [some (.ref M), some (.int (nI pa)), some (.int (nI (noL ((-10) :: w)))), some (.int (nI 1)), x4] [] (PM A M c cd (upd wt w.length (-10)) te ky (nI q.length) (nI a) (nI (w.length + 1)) (nI (gE tb N (gF tb N p))) (nI (gF tb N p)) (gT tb N (gF tb N p) en) (gV tb N (gF tb N p) vl) (gD tb N (gF tb N p) en)) G b) : Ex T RX9 cX9_takesE 5 (d + 3) F 66 [some (.ref M), some (.int (nI pa)), some (.int (nI no)), some (.int (nI 1)), x4] [] (PM A M c cd wt te ky (nI q.length) (nI a) (nI w.length) (nI p) (nI f) tk vl en) G b := by
  refine Ex_aload_n dX9_takesE_66 rfl ?_
  refine Ex_getr dX9_takesE_67 fX9_51 hM.1 (mF24 hM).1 ?_
  refine Ex_aload_n dX9_takesE_70 rfl ?_
  refine Ex_geti dX9_takesE_71 fX9_241 hM.1 ?_
  rw [qd25]
  refine Ex_bipush (v := (-10)) dX9_takesE_74 (by rfl) ?_
  refine Ex_iast dX9_takesE_76 (mF24 hM).2.1 rfl (by rw [(mF24 hM).2.2]; omega) (by rw [(mF24 hM).2.2]; decide) ?_
  rw [qs14]
  refine Ex_aload_n dX9_takesE_77 rfl ?_
  refine Ex_dup dX9_takesE_78 rfl ?_
  refine Ex_geti dX9_takesE_79 fX9_241 hM.1 ?_
  rw [qd25]
  refine Ex_iconst (v := nI 1) dX9_takesE_82 (by rfl) ?_
  first | with_reducible refine Ex_iaddN dX9_takesE_83 ?_ | refine Ex_iadd dX9_takesE_83 ?_
  refine Ex_puti dX9_takesE_84 fX9_241 rfl rfl rfl hM.1 ?_
  rw [qw25]
  first | refine Ex_iincN (m := 1) dX9_takesE_87 rfl rfl (by decide) rfl ?_ | refine Ex_iinc dX9_takesE_87 rfl rfl (by decide) rfl ?_
  simp only [List.set_cons_zero, List.set_cons_succ]
  refine Ex_aload_n dX9_takesE_90 rfl ?_
  refine Ex_V0v dX9_takesE_91 sX9_238 hM.1 (Nat.le_of_ble_eq_true rfl) (c9_goP (d + 1) hM tb N hT hc p hp) ?_
  rintro _ _ ⟨rfl, e2⟩
  subst e2
  refine Ex_goto (tgt := 172) dX9_takesE_94 (by decide) ?_
  refine Ex_aload_n dX9_takesE_172 rfl ?_
  refine Ex_V0p dX9_takesE_173 sX9_263 hM.1 (Nat.le_of_ble_eq_true rfl) (c9_notsOpen (d + 2) hM ((-10) :: w) qd25 (by simp only [List.length_cons]; omega) (by rw [qa14]; exact SR_push hw)) ?_
  refine Ex_istore_n dX9_takesE_176 (by decide) rfl ?_
  simp only [st_n0, st_n1, st_n2, st_n3, List.set_cons_zero, List.set_cons_succ]
  refine Ex_goto (tgt := 28) dX9_takesE_177 (by decide) ?_
  exact K
set_option maxRecDepth 100000 in
set_option maxHeartbeats 4000000 in
theorem t2_takesE {T : TC} {A : MI} {G : MG} {b : Nat × Nat} {F : _} (d : Nat) {M : Nat} {c : Nat → Int32} {ky : Int32} (hM : MSh T G M) (tb : Nat → Nat) (N : Nat) (hT : TpO A M tb N) (hc : c 12 = nI N) (p f : Nat) (hp : p ≤ N) (tk vl en : Int32) (w q : List Int32) (a pa no : Nat) (hpa : pa ≤ 8) (te cd wt : Nat → Int32) (x4 : Option Value) (hpb : pa < 8) (hl : w.length < 96) (hw : SR wt w) (K : Ex T RX9 cX9_takesE 5 (d + 3) F 28 [some (.ref M), some (.int (nI (pa + 1))), some (.int (nI (noL ((-11) :: w)))), some (.int (nI 1)), x4] [] (PM A M c cd (upd wt w.length (-11)) (upd te (pa + 1) (nI 0)) ky (nI q.length) (nI a) (nI (w.length + 1)) (nI (gE tb N (gF tb N p))) (nI (gF tb N p)) (gT tb N (gF tb N p) en) (gV tb N (gF tb N p) vl) (gD tb N (gF tb N p) en)) G b) : Ex T RX9 cX9_takesE 5 (d + 3) F 120 [some (.ref M), some (.int (nI pa)), some (.int (nI no)), some (.int (nI 1)), x4] [] (PM A M c cd wt te ky (nI q.length) (nI a) (nI w.length) (nI p) (nI f) tk vl en) G b := by
  refine Ex_aload_n dX9_takesE_120 rfl ?_
  refine Ex_getr dX9_takesE_121 fX9_51 hM.1 (mF24 hM).1 ?_
  refine Ex_aload_n dX9_takesE_124 rfl ?_
  refine Ex_geti dX9_takesE_125 fX9_241 hM.1 ?_
  rw [qd25]
  refine Ex_bipush (v := (-11)) dX9_takesE_128 (by rfl) ?_
  refine Ex_iast dX9_takesE_130 (mF24 hM).2.1 rfl (by rw [(mF24 hM).2.2]; omega) (by rw [(mF24 hM).2.2]; decide) ?_
  rw [qs14]
  refine Ex_aload_n dX9_takesE_131 rfl ?_
  refine Ex_dup dX9_takesE_132 rfl ?_
  refine Ex_geti dX9_takesE_133 fX9_241 hM.1 ?_
  rw [qd25]
  refine Ex_iconst (v := nI 1) dX9_takesE_136 (by rfl) ?_
  first | with_reducible refine Ex_iaddN dX9_takesE_137 ?_ | refine Ex_iadd dX9_takesE_137 ?_
  refine Ex_puti dX9_takesE_138 fX9_241 rfl rfl rfl hM.1 ?_
  rw [qw25]
  first | refine Ex_iincN (m := 1) dX9_takesE_141 rfl rfl (by decide) rfl ?_ | refine Ex_iinc dX9_takesE_141 rfl rfl (by decide) rfl ?_
  simp only [List.set_cons_zero, List.set_cons_succ]
  refine Ex_aload_n dX9_takesE_144 rfl ?_
  refine Ex_getr dX9_takesE_145 fX9_54 hM.1 (mF26 hM).1 ?_
  refine Ex_iload_n dX9_takesE_148 rfl ?_
  refine Ex_iconst (v := nI 0) dX9_takesE_149 (by rfl) ?_
  refine Ex_zast dX9_takesE_150 (mF26 hM).2.1 rfl (by rw [(mF26 hM).2.2]; omega) (by rw [(mF26 hM).2.2]; decide) rfl ?_
  rw [qs15]
  refine Ex_aload_n dX9_takesE_151 rfl ?_
  refine Ex_V0v dX9_takesE_152 sX9_238 hM.1 (Nat.le_of_ble_eq_true rfl) (c9_goP (d + 1) hM tb N hT hc p hp) ?_
  rintro _ _ ⟨rfl, e2⟩
  subst e2
  refine Ex_goto (tgt := 172) dX9_takesE_155 (by decide) ?_
  refine Ex_aload_n dX9_takesE_172 rfl ?_
  refine Ex_V0p dX9_takesE_173 sX9_263 hM.1 (Nat.le_of_ble_eq_true rfl) (c9_notsOpen (d + 2) hM ((-11) :: w) qd25 (by simp only [List.length_cons]; omega) (by rw [qa14]; exact SR_push hw)) ?_
  refine Ex_istore_n dX9_takesE_176 (by decide) rfl ?_
  simp only [st_n0, st_n1, st_n2, st_n3, List.set_cons_zero, List.set_cons_succ]
  refine Ex_goto (tgt := 28) dX9_takesE_177 (by decide) ?_
  exact K
set_option maxRecDepth 100000 in
set_option maxHeartbeats 4000000 in
theorem t3_takesE {T : TC} {A : MI} {G : MG} {b : Nat × Nat} {F : _} (d : Nat) {M : Nat} {c : Nat → Int32} {ky : Int32} (hM : MSh T G M) (tb : Nat → Nat) (N : Nat) (hT : TpO A M tb N) (hc : c 12 = nI N) (p f : Nat) (hp : p ≤ N) (tk vl en : Int32) (w q : List Int32) (a pa no : Nat) (hpa : pa ≤ 8) (te cd wt : Nat → Int32) (x4 : Option Value) (hf : f ≤ p) (hl : ptP ky tk vl (p - f) → w.length + q.length < 96) (hq : SR cd q) (hw : SR wt w) (K1 : ptP ky tk vl (p - f) → ∀ cd2 wt2, SR cd2 (stl (nI 6) w (atI ky tk vl :: q)).2 → SR wt2 (stl (nI 6) w (atI ky tk vl :: q)).1 → Ex T RX9 cX9_takesE 5 (d + 3) F 28 [some (.ref M), some (.int (nI pa)), some (.int (nI (noL (stl (nI 6) w (atI ky tk vl :: q)).1))), some (.int (nI 0)), x4] [] (PM A M c cd2 wt2 te ky (nI (stl (nI 6) w (atI ky tk vl :: q)).2.length) (nI (a + 1)) (nI (stl (nI 6) w (atI ky tk vl :: q)).1.length) (nI (gE tb N (gF tb N p))) (nI (gF tb N p)) (gT tb N (gF tb N p) en) (gV tb N (gF tb N p) vl) (gD tb N (gF tb N p) en)) G b) (K2 : ¬ ptP ky tk vl (p - f) → Ex T RX9 cX9_takesE 5 (d + 3) F 170 [some (.ref M), some (.int (nI pa)), some (.int (nI no)), some (.int (nI 1)), x4] [] (PM A M c cd wt te ky (nI q.length) (nI a) (nI w.length) (nI p) (nI f) tk vl en) G b) : Ex T RX9 cX9_takesE 5 (d + 3) F 158 [some (.ref M), some (.int (nI pa)), some (.int (nI no)), some (.int (nI 1)), x4] [] (PM A M c cd wt te ky (nI q.length) (nI a) (nI w.length) (nI p) (nI f) tk vl en) G b := by
  refine Ex_aload_n dX9_takesE_158 rfl ?_
  refine Ex_V0i dX9_takesE_159 sX9_259 hM.1 (Nat.le_of_ble_eq_true rfl) (c9_takesPart d hM tb N hT hc p f a hf hp w q hl hq hw) ?_
  rintro r _ _ ⟨hor, e2⟩
  subst e2
  rcases hor with ⟨hpt, rfl, cd2, wt2, rfl, hq2, hw2⟩ | ⟨hpt, rfl, rfl⟩
  · have hl := hl hpt
    have hsl := stl_len (least := nI 6) w (atI ky tk vl :: q)
    simp only [List.length_cons] at hsl
    refine Ex_if_eq (tgt := 170) dX9_takesE_162 (by decide) (fun h162 => ?_) (fun h162 => ?_)
    · exact absurd h162 (by decide)
    · refine Ex_iconst (v := nI 0) dX9_takesE_165 (by rfl) ?_
      refine Ex_istore_n dX9_takesE_166 (by decide) rfl ?_
      simp only [st_n0, st_n1, st_n2, st_n3, List.set_cons_zero, List.set_cons_succ]
      refine Ex_goto (tgt := 172) dX9_takesE_167 (by decide) ?_
      refine Ex_aload_n dX9_takesE_172 rfl ?_
      refine Ex_V0p dX9_takesE_173 sX9_263 hM.1 (Nat.le_of_ble_eq_true rfl) (c9_notsOpen (d + 2) hM (stl (nI 6) w (atI ky tk vl :: q)).1 qd25 (by omega) (by rw [qa14]; exact hw2)) ?_
      refine Ex_istore_n dX9_takesE_176 (by decide) rfl ?_
      simp only [st_n0, st_n1, st_n2, st_n3, List.set_cons_zero, List.set_cons_succ]
      refine Ex_goto (tgt := 28) dX9_takesE_177 (by decide) ?_
      exact K1 hpt _ _ hq2 hw2
  · refine Ex_if_eq (tgt := 170) dX9_takesE_162 (by decide) (fun h162 => ?_) (fun h162 => ?_)
    · exact K2 hpt
    · exact absurd rfl h162
set_option maxRecDepth 100000 in
set_option maxHeartbeats 4000000 in
theorem t4_takesE {T : TC} {A : MI} {G : MG} {b : Nat × Nat} {F : _} (d : Nat) {M : Nat} {c : Nat → Int32} {ky : Int32} (hM : MSh T G M) (tb : Nat → Nat) (N : Nat) (hT : TpO A M tb N) (hc : c 12 = nI N) (p f : Nat) (hp : p ≤ N) (tk vl en : Int32) (w q : List Int32) (a pa no : Nat) (hpa : pa ≤ 8) (te cd wt : Nat → Int32) (x4 : Option Value) (hpb : 0 < pa) (hl : w.length + q.length ≤ 96) (hq : SR cd q) (hw : SR wt w) (w1 : List Int32) (hw1 : (stl (nI 0) w q).1 = (-11) :: w1) (K : ∀ cd2 wt2, SR cd2 (stl (nI 6) w1 (stl (nI 0) w q).2).2 → SR wt2 (stl (nI 6) w1 (stl (nI 0) w q).2).1 → Ex T RX9 cX9_takesE 5 (d + 3) F 28 [some (.ref M), some (.int (nI (pa - 1))), some (.int (nI (noL (stl (nI 6) w1 (stl (nI 0) w q).2).1))), some (.int (nI 0)), x4] [] (PM A M c cd2 wt2 te ky (nI (stl (nI 6) w1 (stl (nI 0) w q).2).2.length) (nI a) (nI (stl (nI 6) w1 (stl (nI 0) w q).2).1.length) (nI (gE tb N (gF tb N p))) (nI (gF tb N p)) (gT tb N (gF tb N p) en) (gV tb N (gF tb N p) vl) (gD tb N (gF tb N p) en)) G b) : Ex T RX9 cX9_takesE 5 (d + 3) F 201 [some (.ref M), some (.int (nI pa)), some (.int (nI no)), some (.int (nI 0)), x4] [] (PM A M c cd wt te ky (nI q.length) (nI a) (nI w.length) (nI p) (nI f) tk vl en) G b := by
  have hs0 := stl_len (least := nI 0) w q
  have hs1 : (stl (nI 0) w q).1.length = w1.length + 1 := by rw [hw1]; rfl
  have hs2 := stl_len (least := nI 6) w1 (stl (nI 0) w q).2
  refine Ex_aload_n dX9_takesE_201 rfl ?_
  refine Ex_iconst (v := nI 0) dX9_takesE_202 (by rfl) ?_
  refine Ex_V1v dX9_takesE_203 sX9_256 hM.1 (Nat.le_of_ble_eq_true rfl) (c9_settle (d + 1) hM (nI 0) w q cd wt hl hq hw) ?_
  rintro _ _ ⟨⟨cd1, wt1, rfl, hq1, hv1⟩, e2⟩
  subst e2
  rw [hs1]
  rw [hw1] at hv1
  refine Ex_aload_n dX9_takesE_206 rfl ?_
  refine Ex_dup dX9_takesE_207 rfl ?_
  refine Ex_geti dX9_takesE_208 fX9_241 hM.1 ?_
  rw [qd25]
  refine Ex_iconst (v := nI 1) dX9_takesE_211 (by rfl) ?_
  refine Ex_isub dX9_takesE_212 ?_
  refine Ex_top (pk_sub (by omega)) ?_
  rw [Nat.add_sub_cancel]
  refine Ex_puti dX9_takesE_213 fX9_241 rfl rfl rfl hM.1 ?_
  rw [qw25]
  refine Ex_iinc (v := nI (pa - 1)) dX9_takesE_216 rfl (by rw [nI_dec, pk_sub (by omega)]) (by decide) rfl ?_
  simp only [st_n0, st_n1, st_n2, st_n3, List.set_cons_zero, List.set_cons_succ]
  refine Ex_aload_n dX9_takesE_219 rfl ?_
  refine Ex_bipush (v := nI 6) dX9_takesE_220 (by rfl) ?_
  refine Ex_V1v dX9_takesE_222 sX9_256 hM.1 (Nat.le_of_ble_eq_true rfl) (c9_settle (d + 1) hM (nI 6) w1 (stl (nI 0) w q).2 cd1 wt1 (by omega) hq1 hv1.2) ?_
  rintro _ _ ⟨⟨cd2, wt2, rfl, hq2, hw2⟩, e2⟩
  subst e2
  refine Ex_aload_n dX9_takesE_225 rfl ?_
  refine Ex_V0p dX9_takesE_226 sX9_263 hM.1 (Nat.le_of_ble_eq_true rfl) (c9_notsOpen (d + 2) hM (stl (nI 6) w1 (stl (nI 0) w q).2).1 qd25 (by omega) (by rw [qa14]; exact hw2)) ?_
  refine Ex_istore_n dX9_takesE_229 (by decide) rfl ?_
  simp only [st_n0, st_n1, st_n2, st_n3, List.set_cons_zero, List.set_cons_succ]
  refine Ex_aload_n dX9_takesE_230 rfl ?_
  refine Ex_V0v dX9_takesE_231 sX9_238 hM.1 (Nat.le_of_ble_eq_true rfl) (c9_goP (d + 1) hM tb N hT hc p hp) ?_
  rintro _ _ ⟨rfl, e2⟩
  subst e2
  refine Ex_goto (tgt := 28) dX9_takesE_234 (by decide) ?_
  exact K cd2 wt2 hq2 hw2
set_option maxRecDepth 100000 in
set_option maxHeartbeats 4000000 in
theorem t5_takesE {T : TC} {A : MI} {G : MG} {b : Nat × Nat} {F : _} (d : Nat) {M : Nat} {c : Nat → Int32} {ky : Int32} (hM : MSh T G M) (tb : Nat → Nat) (N : Nat) (hT : TpO A M tb N) (hc : c 12 = nI N) (p f : Nat) (hp : p ≤ N) (tk vl en : Int32) (w q : List Int32) (a pa no : Nat) (hpa : pa ≤ 8) (te cd wt : Nat → Int32) (x4 : Option Value) (hl : w.length + q.length < 96) (hq : SR cd q) (hw : SR wt w) (K : ∀ cd2 wt2, SR cd2 (stl (rkI (sgI tk vl)) w q).2 → SR wt2 ((sgI tk vl) :: (stl (rkI (sgI tk vl)) w q).1) → Ex T RX9 cX9_takesE 5 (d + 3) F 28 [some (.ref M), some (.int (nI pa)), some (.int (nI no)), some (.int (nI 1)), some (.int (sgI tk vl))] [] (PM A M c cd2 wt2 (upd te pa (teI (rkI (sgI tk vl)) (te pa))) ky (nI (stl (rkI (sgI tk vl)) w q).2.length) (nI a) (nI ((stl (rkI (sgI tk vl)) w q).1.length + 1)) (nI (gE tb N (gF tb N p))) (nI (gF tb N p)) (gT tb N (gF tb N p) en) (gV tb N (gF tb N p) vl) (gD tb N (gF tb N p) en)) G b) : Ex T RX9 cX9_takesE 5 (d + 3) F 268 [some (.ref M), some (.int (nI pa)), some (.int (nI no)), some (.int (nI 0)), some (.int (sgI tk vl))] [] (PM A M c cd wt te ky (nI q.length) (nI a) (nI w.length) (nI p) (nI f) tk vl en) G b := by
  have hs0 := stl_len (least := rkI (sgI tk vl)) w q
  refine Ex_aload_n dX9_takesE_268 rfl ?_
  refine Ex_getr dX9_takesE_269 fX9_54 hM.1 (mF26 hM).1 ?_
  refine Ex_iload_n dX9_takesE_272 rfl ?_
  refine Ex_iload dX9_takesE_273 rfl ?_
  refine Ex_S1p dX9_takesE_275 sX9_244  (Nat.le_of_ble_eq_true rfl) (c9_rank (d + 2) _) ?_
  refine Ex_iconst (v := nI 3) dX9_takesE_278 (by rfl) ?_
  refine Ex_icmp_eq (tgt := 300) dX9_takesE_279 (by decide) (fun h279 => ?_) (fun h279 => ?_)
  · refine Ex_iconst (v := nI 1) dX9_takesE_300 (by rfl) ?_
    refine Ex_goto (tgt := 305) dX9_takesE_301 (by decide) ?_
    refine Ex_zast dX9_takesE_305 (mF26 hM).2.1 rfl (by rw [(mF26 hM).2.2]; omega) (by rw [(mF26 hM).2.2]; decide) rfl ?_
    rw [qs15]
    refine Ex_aload_n dX9_takesE_306 rfl ?_
    refine Ex_iload dX9_takesE_307 rfl ?_
    refine Ex_S1p dX9_takesE_309 sX9_244  (Nat.le_of_ble_eq_true rfl) (c9_rank (d + 2) _) ?_
    refine Ex_V1v dX9_takesE_312 sX9_256 hM.1 (Nat.le_of_ble_eq_true rfl) (c9_settle (d + 1) hM (rkI (sgI tk vl)) w q cd wt (by omega) hq hw) ?_
    rintro _ _ ⟨⟨cd2, wt2, rfl, hq2, hw2⟩, e2⟩
    subst e2
    refine Ex_aload_n dX9_takesE_315 rfl ?_
    refine Ex_getr dX9_takesE_316 fX9_51 hM.1 (mF24 hM).1 ?_
    refine Ex_aload_n dX9_takesE_319 rfl ?_
    refine Ex_geti dX9_takesE_320 fX9_241 hM.1 ?_
    rw [qd25]
    refine Ex_iload dX9_takesE_323 rfl ?_
    refine Ex_iast dX9_takesE_325 (mF24 hM).2.1 rfl (by rw [(mF24 hM).2.2]; omega) (by rw [(mF24 hM).2.2]; decide) ?_
    rw [qs14]
    refine Ex_aload_n dX9_takesE_326 rfl ?_
    refine Ex_dup dX9_takesE_327 rfl ?_
    refine Ex_geti dX9_takesE_328 fX9_241 hM.1 ?_
    rw [qd25]
    refine Ex_iconst (v := nI 1) dX9_takesE_331 (by rfl) ?_
    first | with_reducible refine Ex_iaddN dX9_takesE_332 ?_ | refine Ex_iadd dX9_takesE_332 ?_
    refine Ex_puti dX9_takesE_333 fX9_241 rfl rfl rfl hM.1 ?_
    rw [qw25]
    refine Ex_iconst (v := nI 1) dX9_takesE_336 (by rfl) ?_
    refine Ex_istore_n dX9_takesE_337 (by decide) rfl ?_
    simp only [st_n0, st_n1, st_n2, st_n3, List.set_cons_zero, List.set_cons_succ]
    refine Ex_aload_n dX9_takesE_338 rfl ?_
    refine Ex_V0v dX9_takesE_339 sX9_238 hM.1 (Nat.le_of_ble_eq_true rfl) (c9_goP (d + 1) hM tb N hT hc p hp) ?_
    rintro _ _ ⟨rfl, e2⟩
    subst e2
    refine Ex_goto (tgt := 28) dX9_takesE_342 (by decide) ?_
    have ht : teI (rkI (sgI tk vl)) (te pa) = nI 1 := by
      unfold teI
      rw [if_pos (Or.inl h279)]
    rw [ht] at K
    exact K cd2 _ hq2 (SR_push hw2)
  · refine Ex_iload dX9_takesE_282 rfl ?_
    refine Ex_S1p dX9_takesE_284 sX9_244  (Nat.le_of_ble_eq_true rfl) (c9_rank (d + 2) _) ?_
    refine Ex_iconst (v := nI 3) dX9_takesE_287 (by rfl) ?_
    refine Ex_icmp_le (tgt := 304) dX9_takesE_288 (by decide) (fun h288 => ?_) (fun h288 => ?_)
    · refine Ex_iconst (v := nI 0) dX9_takesE_304 (by rfl) ?_
      refine Ex_zast dX9_takesE_305 (mF26 hM).2.1 rfl (by rw [(mF26 hM).2.2]; omega) (by rw [(mF26 hM).2.2]; decide) rfl ?_
      rw [qs15]
      refine Ex_aload_n dX9_takesE_306 rfl ?_
      refine Ex_iload dX9_takesE_307 rfl ?_
      refine Ex_S1p dX9_takesE_309 sX9_244  (Nat.le_of_ble_eq_true rfl) (c9_rank (d + 2) _) ?_
      refine Ex_V1v dX9_takesE_312 sX9_256 hM.1 (Nat.le_of_ble_eq_true rfl) (c9_settle (d + 1) hM (rkI (sgI tk vl)) w q cd wt (by omega) hq hw) ?_
      rintro _ _ ⟨⟨cd2, wt2, rfl, hq2, hw2⟩, e2⟩
      subst e2
      refine Ex_aload_n dX9_takesE_315 rfl ?_
      refine Ex_getr dX9_takesE_316 fX9_51 hM.1 (mF24 hM).1 ?_
      refine Ex_aload_n dX9_takesE_319 rfl ?_
      refine Ex_geti dX9_takesE_320 fX9_241 hM.1 ?_
      rw [qd25]
      refine Ex_iload dX9_takesE_323 rfl ?_
      refine Ex_iast dX9_takesE_325 (mF24 hM).2.1 rfl (by rw [(mF24 hM).2.2]; omega) (by rw [(mF24 hM).2.2]; decide) ?_
      rw [qs14]
      refine Ex_aload_n dX9_takesE_326 rfl ?_
      refine Ex_dup dX9_takesE_327 rfl ?_
      refine Ex_geti dX9_takesE_328 fX9_241 hM.1 ?_
      rw [qd25]
      refine Ex_iconst (v := nI 1) dX9_takesE_331 (by rfl) ?_
      first | with_reducible refine Ex_iaddN dX9_takesE_332 ?_ | refine Ex_iadd dX9_takesE_332 ?_
      refine Ex_puti dX9_takesE_333 fX9_241 rfl rfl rfl hM.1 ?_
      rw [qw25]
      refine Ex_iconst (v := nI 1) dX9_takesE_336 (by rfl) ?_
      refine Ex_istore_n dX9_takesE_337 (by decide) rfl ?_
      simp only [st_n0, st_n1, st_n2, st_n3, List.set_cons_zero, List.set_cons_succ]
      refine Ex_aload_n dX9_takesE_338 rfl ?_
      refine Ex_V0v dX9_takesE_339 sX9_238 hM.1 (Nat.le_of_ble_eq_true rfl) (c9_goP (d + 1) hM tb N hT hc p hp) ?_
      rintro _ _ ⟨rfl, e2⟩
      subst e2
      refine Ex_goto (tgt := 28) dX9_takesE_342 (by decide) ?_
      have ht : teI (rkI (sgI tk vl)) (te pa) = nI 0 := by
        unfold teI
        rw [if_neg (fun z => z.elim h279 (fun z => absurd z.1 (Int32.not_lt.mpr h288)))]
      rw [ht] at K
      exact K cd2 _ hq2 (SR_push hw2)
    · refine Ex_aload_n dX9_takesE_291 rfl ?_
      refine Ex_getr dX9_takesE_292 fX9_54 hM.1 (mF26 hM).1 ?_
      refine Ex_iload_n dX9_takesE_295 rfl ?_
      refine Ex_zald dX9_takesE_296 (mF26 hM).2.1 rfl (by rw [(mF26 hM).2.2]; omega) (by rw [(mF26 hM).2.2]; decide) ?_
      rw [qa15]
      refine Ex_if_eq (tgt := 304) dX9_takesE_297 (by decide) (fun h297 => ?_) (fun h297 => ?_)
      · refine Ex_iconst (v := nI 0) dX9_takesE_304 (by rfl) ?_
        refine Ex_zast dX9_takesE_305 (mF26 hM).2.1 rfl (by rw [(mF26 hM).2.2]; omega) (by rw [(mF26 hM).2.2]; decide) rfl ?_
        rw [qs15]
        refine Ex_aload_n dX9_takesE_306 rfl ?_
        refine Ex_iload dX9_takesE_307 rfl ?_
        refine Ex_S1p dX9_takesE_309 sX9_244  (Nat.le_of_ble_eq_true rfl) (c9_rank (d + 2) _) ?_
        refine Ex_V1v dX9_takesE_312 sX9_256 hM.1 (Nat.le_of_ble_eq_true rfl) (c9_settle (d + 1) hM (rkI (sgI tk vl)) w q cd wt (by omega) hq hw) ?_
        rintro _ _ ⟨⟨cd2, wt2, rfl, hq2, hw2⟩, e2⟩
        subst e2
        refine Ex_aload_n dX9_takesE_315 rfl ?_
        refine Ex_getr dX9_takesE_316 fX9_51 hM.1 (mF24 hM).1 ?_
        refine Ex_aload_n dX9_takesE_319 rfl ?_
        refine Ex_geti dX9_takesE_320 fX9_241 hM.1 ?_
        rw [qd25]
        refine Ex_iload dX9_takesE_323 rfl ?_
        refine Ex_iast dX9_takesE_325 (mF24 hM).2.1 rfl (by rw [(mF24 hM).2.2]; omega) (by rw [(mF24 hM).2.2]; decide) ?_
        rw [qs14]
        refine Ex_aload_n dX9_takesE_326 rfl ?_
        refine Ex_dup dX9_takesE_327 rfl ?_
        refine Ex_geti dX9_takesE_328 fX9_241 hM.1 ?_
        rw [qd25]
        refine Ex_iconst (v := nI 1) dX9_takesE_331 (by rfl) ?_
        first | with_reducible refine Ex_iaddN dX9_takesE_332 ?_ | refine Ex_iadd dX9_takesE_332 ?_
        refine Ex_puti dX9_takesE_333 fX9_241 rfl rfl rfl hM.1 ?_
        rw [qw25]
        refine Ex_iconst (v := nI 1) dX9_takesE_336 (by rfl) ?_
        refine Ex_istore_n dX9_takesE_337 (by decide) rfl ?_
        simp only [st_n0, st_n1, st_n2, st_n3, List.set_cons_zero, List.set_cons_succ]
        refine Ex_aload_n dX9_takesE_338 rfl ?_
        refine Ex_V0v dX9_takesE_339 sX9_238 hM.1 (Nat.le_of_ble_eq_true rfl) (c9_goP (d + 1) hM tb N hT hc p hp) ?_
        rintro _ _ ⟨rfl, e2⟩
        subst e2
        refine Ex_goto (tgt := 28) dX9_takesE_342 (by decide) ?_
        have ht : teI (rkI (sgI tk vl)) (te pa) = nI 0 := by
          unfold teI
          rw [if_neg (fun z => z.elim h279 (fun z => z.2 h297))]
        rw [ht] at K
        exact K cd2 _ hq2 (SR_push hw2)
      · refine Ex_iconst (v := nI 1) dX9_takesE_300 (by rfl) ?_
        refine Ex_goto (tgt := 305) dX9_takesE_301 (by decide) ?_
        refine Ex_zast dX9_takesE_305 (mF26 hM).2.1 rfl (by rw [(mF26 hM).2.2]; omega) (by rw [(mF26 hM).2.2]; decide) rfl ?_
        rw [qs15]
        refine Ex_aload_n dX9_takesE_306 rfl ?_
        refine Ex_iload dX9_takesE_307 rfl ?_
        refine Ex_S1p dX9_takesE_309 sX9_244  (Nat.le_of_ble_eq_true rfl) (c9_rank (d + 2) _) ?_
        refine Ex_V1v dX9_takesE_312 sX9_256 hM.1 (Nat.le_of_ble_eq_true rfl) (c9_settle (d + 1) hM (rkI (sgI tk vl)) w q cd wt (by omega) hq hw) ?_
        rintro _ _ ⟨⟨cd2, wt2, rfl, hq2, hw2⟩, e2⟩
        subst e2
        refine Ex_aload_n dX9_takesE_315 rfl ?_
        refine Ex_getr dX9_takesE_316 fX9_51 hM.1 (mF24 hM).1 ?_
        refine Ex_aload_n dX9_takesE_319 rfl ?_
        refine Ex_geti dX9_takesE_320 fX9_241 hM.1 ?_
        rw [qd25]
        refine Ex_iload dX9_takesE_323 rfl ?_
        refine Ex_iast dX9_takesE_325 (mF24 hM).2.1 rfl (by rw [(mF24 hM).2.2]; omega) (by rw [(mF24 hM).2.2]; decide) ?_
        rw [qs14]
        refine Ex_aload_n dX9_takesE_326 rfl ?_
        refine Ex_dup dX9_takesE_327 rfl ?_
        refine Ex_geti dX9_takesE_328 fX9_241 hM.1 ?_
        rw [qd25]
        refine Ex_iconst (v := nI 1) dX9_takesE_331 (by rfl) ?_
        first | with_reducible refine Ex_iaddN dX9_takesE_332 ?_ | refine Ex_iadd dX9_takesE_332 ?_
        refine Ex_puti dX9_takesE_333 fX9_241 rfl rfl rfl hM.1 ?_
        rw [qw25]
        refine Ex_iconst (v := nI 1) dX9_takesE_336 (by rfl) ?_
        refine Ex_istore_n dX9_takesE_337 (by decide) rfl ?_
        simp only [st_n0, st_n1, st_n2, st_n3, List.set_cons_zero, List.set_cons_succ]
        refine Ex_aload_n dX9_takesE_338 rfl ?_
        refine Ex_V0v dX9_takesE_339 sX9_238 hM.1 (Nat.le_of_ble_eq_true rfl) (c9_goP (d + 1) hM tb N hT hc p hp) ?_
        rintro _ _ ⟨rfl, e2⟩
        subst e2
        refine Ex_goto (tgt := 28) dX9_takesE_342 (by decide) ?_
        have ht : teI (rkI (sgI tk vl)) (te pa) = nI 1 := by
          unfold teI
          rw [if_pos (Or.inr ⟨Int32.not_le.mp h288, h297⟩)]
        rw [ht] at K
        exact K cd2 _ hq2 (SR_push hw2)
