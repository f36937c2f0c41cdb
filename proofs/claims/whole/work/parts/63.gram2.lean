/-! the class: its grammar's recursion -/
section GRL
variable {I : MI} {D N f a : Nat} {tb : Nat → Nat} {ky : Int32} {q : List Int32}
theorem GrR.push (h : GrR I D tb N ky f q a) {c v : Int32} (hv : spI c = v) : GrR (rowI (rowI I (D + 62) (upd (I (D + 62)) q.length v)) (D + 61) (upd (I (D + 61)) 2 (nI (q.length + 1)))) D tb N ky f (c :: q) a := by
  obtain ⟨h1, h2, h3, h4, h5, h6, h7⟩ := h
  refine ⟨by rw [rowI_s, upd_s]; rfl, by rw [rowI_s, upd_n (by omega)]; exact h2, by rw [rowI_s, upd_n (by omega)]; exact h3, by rw [rowI_s, upd_n (by omega)]; exact h4, by rw [rowI_s, upd_n (by omega)]; exact h5, by rw [rowI_s, upd_n (by omega)]; exact h6, ?_⟩
  rw [rowI_n (by omega), rowI_s, List.map_cons, hv]
  have := SR_push (x := v) h7
  rw [List.length_map] at this
  exact this
theorem GrR.atom (h : GrR I D tb N ky f q a) : GrR (setI I (D + 61) 3 (nI (a + 1))) D tb N ky f q (a + 1) := by
  obtain ⟨h1, h2, h3, h4, h5, h6, h7⟩ := h
  exact ⟨by rw [setI_n (by omega)]; exact h1, setI_s, by rw [setI_n (by omega)]; exact h3, by rw [setI_n (by omega)]; exact h4, by rw [setI_n (by omega)]; exact h5, by rw [setI_n (by omega)]; exact h6, by rw [setI_a (by omega)]; exact h7⟩
theorem GrR.adv (h : GrR I D tb N ky f q a) (f' : Nat) : GrR (rowI I (D + 61) (g3 (I (D + 61)) (nI f') (nI (gE tb N f')) (nI (cT tb N f')))) D tb N ky f' q a := by
  obtain ⟨h1, h2, h3, h4, h5, h6, h7⟩ := h
  exact ⟨by rw [rowI_s]; exact h1, by rw [rowI_s]; exact h2, by rw [rowI_s]; exact h3, by rw [rowI_s]; rfl, by rw [rowI_s]; rfl, by rw [rowI_s]; rfl, by rw [rowI_n (by omega)]; exact h7⟩
end GRL
theorem spI_pos {c : Int32} (h : 0 ≤ c) : spI c = c := if_pos h
def PrQ (J0 : MI) (D : Nat) (tb : Nat → Nat) (N : Nat) (ky : Int32) (x : Bool × Nat × List Int32 × Nat) (r : Int32) (I' : MI) : Prop := r = bI (x.1 = true) ∧ (x.1 = true → GrR I' D tb N ky x.2.1 x.2.2.1 x.2.2.2) ∧ (x.1 = false → I' (D + 61) 5 = nI x.2.1) ∧ Fr (PG D) J0 I'
theorem nuV_lt {tb : Nat → Nat} {f : Nat} : ∀ k, (∀ j, j < k → tb (f + j) ≤ 57) → nuV tb f k < 10 ^ k
  | 0, _ => by show 0 < 1; omega
  | k + 1, h => by
    have ih := nuV_lt k (fun j hj => h j (by omega))
    have := h k (by omega)
    unfold nuV
    rw [Nat.pow_succ]
    omega
set_option maxRecDepth 100000 in
set_option maxHeartbeats 4000000 in
theorem t0_atomN {T : TC} {I : MI} {G : MG} (d : Nat) {D NN : Nat} (hD : DS T G D NN) {tb : Nat → Nat} {N : Nat} (hT : TpC I D tb N) {ky : Int32} {f a : Nat} {q : List Int32} (hG : GrR I D tb N ky f q a) (hf : f ≤ N) (kk : Nat) (hk3 : kk < 3) (hky : ky = nI kk) (hql : q.length ≤ f) (ha : atC tb N ky f = none) : Ex T RX0 cX0_parseAtom 2 (d + 5) (fm T "parseAtom" (some .boolean) (fun v I' G' => ∃ r, v = some (.int r) ∧ (r = bI (¬ atC tb N ky f = none) ∧ (∀ c, atC tb N ky f = some c → GrR I' D tb N ky (nx tb N f) (c :: q) (a + 1)) ∧ (atC tb N ky f = none → I' = I) ∧ Fr (PG D) I I') ∧ G' = G)) 31 [some (.ref (D + 61)), none] [.int (-1)] I G (0, 0) := by
  refine Ex_istore_n dX0_parseAtom_31 (by decide) rfl ?_
  simp only [st_n0, st_n1, st_n2, st_n3, List.set_cons_zero, List.set_cons_succ]
  refine Ex_iload_n dX0_parseAtom_32 rfl ?_
  refine Ex_if_ge (tgt := 38) dX0_parseAtom_33 (by decide) (fun h33 => ?_) (fun h33 => ?_)
  · exact absurd h33 (by decide)
  · refine Ex_iconst (v := nI 0) dX0_parseAtom_36 (by rfl) ?_
    refine Ex_iret dX0_parseAtom_37 (by first | rfl | exact narrow_bI) ?_
    exact ⟨_, rfl, ⟨(bI_f (fun z => z ha)).symm, fun c hc => (by rw [ha] at hc; cases hc), fun _ => rfl, Fr.refl⟩, rfl⟩
set_option maxRecDepth 100000 in
set_option maxHeartbeats 4000000 in
theorem t0_atomS {T : TC} {I : MI} {G : MG} (d : Nat) {D NN : Nat} (hD : DS T G D NN) {tb : Nat → Nat} {N : Nat} (hT : TpC I D tb N) {ky : Int32} {f a : Nat} {q : List Int32} (hG : GrR I D tb N ky f q a) (hf : f ≤ N) (kk : Nat) (hk3 : kk < 3) (hky : ky = nI kk) (hql : q.length ≤ f) (c : Int32) (hc0 : 0 ≤ c) (ha : atC tb N ky f = some c) (hfl : f < N) : Ex T RX0 cX0_parseAtom 2 (d + 5) (fm T "parseAtom" (some .boolean) (fun v I' G' => ∃ r, v = some (.int r) ∧ (r = bI (¬ atC tb N ky f = none) ∧ (∀ c, atC tb N ky f = some c → GrR I' D tb N ky (nx tb N f) (c :: q) (a + 1)) ∧ (atC tb N ky f = none → I' = I) ∧ Fr (PG D) I I') ∧ G' = G)) 31 [some (.ref (D + 61)), none] [.int c] I G (0, 0) := by
  have h96 := hT.1
  have hge := gE_le (tb := tb) hf
  refine Ex_istore_n dX0_parseAtom_31 (by decide) rfl ?_
  simp only [st_n0, st_n1, st_n2, st_n3, List.set_cons_zero, List.set_cons_succ]
  refine Ex_iload_n dX0_parseAtom_32 rfl ?_
  refine Ex_if_ge (tgt := 38) dX0_parseAtom_33 (by decide) (fun h33 => ?_) (fun h33 => ?_)
  · refine Ex_aload_n dX0_parseAtom_38 rfl ?_
    refine Ex_iload_n dX0_parseAtom_39 rfl ?_
    refine Ex_V1v dX0_parseAtom_40 sX0_73 (ds_g hD).1 (Nat.le_of_ble_eq_true rfl) (c0_addStep (d + 4) hD q.length c hG.1 (by omega)) ?_
    rintro _ _ ⟨rfl, rfl⟩
    have g1 := hG.push (c := c) (v := c) (spI_pos hc0)
    have f1 : Fr (PG D) I (rowI (rowI I (D + 62) (upd (I (D + 62)) q.length c)) (D + 61) (upd (I (D + 61)) 2 (nI (q.length + 1)))) := Fr.trans (Fr.row (Or.inr rfl)) (Fr.row (Or.inl rfl))
    generalize rowI (rowI I (D + 62) (upd (I (D + 62)) q.length c)) (D + 61) (upd (I (D + 61)) 2 (nI (q.length + 1))) = J at g1 f1
    refine Ex_aload_n dX0_parseAtom_43 rfl ?_
    refine Ex_dup dX0_parseAtom_44 rfl ?_
    refine Ex_geti dX0_parseAtom_45 fX0_23 (ds_g hD).1 ?_
    refine Ex_top g1.2.1 ?_
    refine Ex_iconst (v := nI 1) dX0_parseAtom_48 (by rfl) ?_
    first | with_reducible refine Ex_iaddN dX0_parseAtom_49 ?_ | refine Ex_iadd dX0_parseAtom_49 ?_
    refine Ex_puti dX0_parseAtom_50 fX0_23 rfl rfl rfl (ds_g hD).1 ?_
    have g2 := g1.atom
    have f2 := f1.si (j := 3) (v := nI (a + 1)) (show PG D (D + 61) from Or.inl rfl)
    refine Ex_aload_n dX0_parseAtom_53 rfl ?_
    refine Ex_V0v dX0_parseAtom_54 sX0_29 (ds_g hD).1 (Nat.le_of_ble_eq_true rfl) (c0_advance (d + 3) hD (hT.fr f2) (gE tb N f) g2.2.2.2.2.1 hge.2) ?_
    rintro _ _ ⟨rfl, rfl⟩
    refine Ex_iconst (v := nI 1) dX0_parseAtom_57 (by rfl) ?_
    refine Ex_iret dX0_parseAtom_58 (by first | rfl | exact narrow_bI) ?_
    refine ⟨_, rfl, ⟨(bI_t (show ¬ atC tb N ky f = none from fun z => (by rw [ha] at z; cases z))).symm, fun c' hc' => ?_, fun z => (by rw [ha] at z; cases z), f2.trans (Fr.row (Or.inl rfl))⟩, rfl⟩
    rw [ha] at hc'
    rw [← Option.some.inj hc']
    exact g2.adv (nx tb N f)
  · exact absurd hc0 h33
set_option maxRecDepth 100000 in
set_option maxHeartbeats 4000000 in
theorem c0_parseAtom {T : TC} {I : MI} {G : MG} (d : Nat) {D NN : Nat} (hD : DS T G D NN) {tb : Nat → Nat} {N : Nat} (hT : TpC I D tb N) {ky : Int32} {f a : Nat} {q : List Int32} (hG : GrR I D tb N ky f q a) (hf : f ≤ N) (kk : Nat) (hk3 : kk < 3) (hky : ky = nI kk) (hql : q.length ≤ f)  : OkI T mX0_parseAtom (d + 5) [.ref (D + 61)] I G (fun r I' G' => (r = bI (¬ atC tb N ky f = none) ∧ (∀ c, atC tb N ky f = some c → GrR I' D tb N ky (nx tb N f) (c :: q) (a + 1)) ∧ (atC tb N ky f = none → I' = I) ∧ Fr (PG D) I I') ∧ G' = G) := by
  refine Ok_of (own := RX0) (by decide) rfl (cat1 rfl) (Nat.le_of_ble_eq_true rfl) ?_
  show Ex T RX0 cX0_parseAtom 2 (d + 5) _ 0 [some (.ref (D + 61)), none] [] I G (0, 0)
  have h96 := hT.1
  have hge := gE_le (tb := tb) hf
  have hcl := cT_le3 (tb := tb) (N := N) f
  refine Ex_aload_n dX0_parseAtom_0 rfl ?_
  refine Ex_geti dX0_parseAtom_1 fX0_43 (ds_g hD).1 ?_
  refine Ex_top hG.2.2.2.2.2.1 ?_
  refine Ex_iconst (v := nI 2) dX0_parseAtom_4 (by rfl) ?_
  refine Ex_icmp_neN (by omega) (by omega) (tgt := 15) dX0_parseAtom_5 (by decide) (fun h5 => ?_) (fun h5 => ?_)
  · refine Ex_aload_n dX0_parseAtom_15 rfl ?_
    refine Ex_geti dX0_parseAtom_16 fX0_43 (ds_g hD).1 ?_
    refine Ex_top hG.2.2.2.2.2.1 ?_
    refine Ex_iconst (v := nI 1) dX0_parseAtom_19 (by rfl) ?_
    refine Ex_icmp_neN (by omega) (by omega) (tgt := 30) dX0_parseAtom_20 (by decide) (fun h20 => ?_) (fun h20 => ?_)
    · refine Ex_iconst (v := (-1)) dX0_parseAtom_30 (by rfl) ?_
      exact t0_atomN d hD hT hG hf kk hk3 hky hql (by unfold atC; rw [if_neg (fun z => h20 (cT_1.mpr z)), if_neg (fun z => h5 (cT_2.mpr z))])
    · refine Ex_aload_n dX0_parseAtom_23 rfl ?_
      refine Ex_V0p dX0_parseAtom_24 sX0_87 (ds_g hD).1 (Nat.le_of_ble_eq_true rfl) (c0_nameHere d hD hT hG hf (cT_1.mp h20) kk hk3 hky) ?_
      refine Ex_goto (tgt := 31) dX0_parseAtom_27 (by decide) ?_
      have hle : isLe tb N f := cT_1.mp h20
      by_cases c0 : gE tb N f - f = 1 ∧ ¬ glu tb N f ∧ ¬ nmI ky (nI (tb f)) < 0
      · rw [if_pos c0]
        refine t0_atomS d hD hT hG hf kk hk3 hky hql _ ?_ (by unfold atC; rw [if_pos hle, if_pos c0]) hle.1
        rcases nmI_3 ky (nI (tb f)) with z | z | z | z
        · exact absurd (show nmI ky (nI (tb f)) < 0 by rw [z]; decide) c0.2.2
        · rw [z]; decide
        · rw [z]; decide
        · rw [z]; decide
      · rw [if_neg c0]
        exact t0_atomN d hD hT hG hf kk hk3 hky hql (by unfold atC; rw [if_pos hle, if_neg c0])
  · refine Ex_aload_n dX0_parseAtom_8 rfl ?_
    refine Ex_V0p dX0_parseAtom_9 sX0_84 (ds_g hD).1 (Nat.le_of_ble_eq_true rfl) (c0_numberHere (d + 2) hD hT hG hf (cT_2.mp h5)) ?_
    refine Ex_goto (tgt := 31) dX0_parseAtom_12 (by decide) ?_
    have hfi : isFi tb N f := cT_2.mp h5
    have nl : ¬ isLe tb N f := fun z => by have := z.2; have := hfi.2; omega
    by_cases c0 : gE tb N f - f ≤ 4 ∧ ¬ glu tb N f
    · rw [if_pos c0]
      refine t0_atomS d hD hT hG hf kk hk3 hky hql _ (nI_pos' ?_) (by unfold atC; rw [if_neg nl, if_pos hfi, if_pos c0]) hfi.1
      have hall : ∀ j, f ≤ j → j < gE tb N f → isFi tb N j := fun j h1 h2 => by
        have : gE tb N f = run (isFi tb N) (N - f) f := by unfold gE; rw [if_neg (by have := hfi.1; omega), if_neg nl, if_pos hfi]
        rw [this] at h2
        exact run_all _ _ j h1 h2
      have h1 := nuV_lt (tb := tb) (f := f) (gE tb N f - f) (fun j hj => (hall (f + j) (by omega) (by omega)).2.2)
      have h2 : 10 ^ (gE tb N f - f) ≤ 10 ^ 4 := Nat.pow_le_pow_right (by omega) c0.1
      have h3 : (10 : Nat) ^ 4 < 2 ^ 31 := by decide
      omega
    · rw [if_neg c0]
      exact t0_atomN d hD hT hG hf kk hk3 hky hql (by unfold atC; rw [if_neg nl, if_pos hfi, if_neg c0])
def dpP (br nt : Nat) : Nat := 11 + (8 - br) * 8 + (8 - nt)
def PiO (T : TC) (G : MG) (D : Nat) (tb : Nat → Nat) (N : Nat) (ky : Int32) (n : Nat) : Prop := ∀ (I : MI) (D0 br nt f : Nat) (q : List Int32) (a : Nat), dpP br nt ≤ D0 → br ≤ 8 → nt ≤ 8 → mes N 5 f ≤ n → f ≤ N → q.length ≤ f → TpC I D tb N → GrR I D tb N ky f q a → OkI T mX0_parsePiece D0 [.ref (D + 61), .int (nI br), .int (nI nt)] I G (fun r I' G' => PrQ I D tb N ky (rcd tb N ky n 5 none br nt f q a) r I' ∧ G' = G)
def LvO (T : TC) (G : MG) (D : Nat) (tb : Nat → Nat) (N : Nat) (ky : Int32) (n : Nat) : Prop := ∀ (I : MI) (D0 lv br nt f : Nat) (q : List Int32) (a : Nat), dpP br nt + (6 - lv) ≤ D0 → lv ≤ 5 → br ≤ 8 → nt ≤ 8 → mes N lv f ≤ n → f ≤ N → q.length ≤ f → TpC I D tb N → GrR I D tb N ky f q a → OkI T mX0_parseLevel D0 [.ref (D + 61), .int (nI lv), .int (nI br), .int (nI nt)] I G (fun r I' G' => PrQ I D tb N ky (rcd tb N ky n lv none br nt f q a) r I' ∧ G' = G)
def LoO (T : TC) (G : MG) (D : Nat) (tb : Nat → Nat) (N : Nat) (ky : Int32) (n : Nat) : Prop := ∀ (I J : MI) (D0 lv br nt m k f : Nat) (q : List Int32) (a : Nat), dpP br nt + (6 - lv) ≤ D0 → lv ≤ 4 → br ≤ 8 → nt ≤ 8 → m ≤ 96 → k ≤ m → mes N lv f ≤ n → f ≤ N → q.length ≤ f → TpC J D tb N → GrR J D tb N ky f q a → Fr (PG D) I J → Ex T RX0 cX0_parseLevel 7 D0 (fm T "parseLevel" (some .boolean) (fun v I' G' => ∃ r, v = some (.int r) ∧ PrQ I D tb N ky (rcd tb N ky n lv (some (m - k)) br nt f q a) r I' ∧ G' = G)) 42 [some (.ref (D + 61)), some (.int (nI lv)), some (.int (nI br)), some (.int (nI nt)), some (.int (nI m)), some (.int (nI k)), none] [] J G (0, 0)
set_option maxRecDepth 100000 in
set_option maxHeartbeats 4000000 in
theorem Pi_s {T : TC} {G : MG} {D NN : Nat} (hD : DS T G D NN) {tb : Nat → Nat} {N : Nat} {ky : Int32} (kk : Nat) (hk3 : kk < 3) (hky : ky = nI kk) {n : Nat} (hP : PiO T G D tb N ky n) (hV : LvO T G D tb N ky n) : PiO T G D tb N ky (n + 1) := by
  intro I D0 br nt f q a hd hbr hnt hm hf hql hT hG
  obtain ⟨e, rfl⟩ : ∃ e, D0 = e + 11 := ⟨D0 - 11, by unfold dpP at hd; omega⟩
  have h96 := hT.1
  have hge := gE_le (tb := tb) hf
  refine Ok_of (own := RX0) (by decide) rfl (cat1 rfl) (Nat.le_of_ble_eq_true rfl) ?_
  show Ex T RX0 cX0_parsePiece 3 (e + 11) _ 0 [some (.ref (D + 61)), some (.int (nI br)), some (.int (nI nt))] [] I G (0, 0)
  refine Ex_aload_n dX0_parsePiece_0 rfl ?_
  refine Ex_bipush (v := nI 33) dX0_parsePiece_1 (by rfl) ?_
  refine Ex_V1p dX0_parsePiece_3 sX0_77 (ds_g hD).1 (Nat.le_of_ble_eq_true rfl) (c0_isSign (e + 10) hD hT hG hf 33 (by omega)) ?_
  refine Ex_if_eqB (tgt := 43) dX0_parsePiece_6 (by decide) (fun h6 => ?_) (fun h6 => ?_)
  · refine Ex_aload_n dX0_parsePiece_43 rfl ?_
    refine Ex_bipush (v := nI 40) dX0_parsePiece_44 (by rfl) ?_
    refine Ex_V1p dX0_parsePiece_46 sX0_77 (ds_g hD).1 (Nat.le_of_ble_eq_true rfl) (c0_isSign (e + 10) hD hT hG hf 40 (by omega)) ?_
    refine Ex_if_eqB (tgt := 93) dX0_parsePiece_49 (by decide) (fun h49 => ?_) (fun h49 => ?_)
    · refine Ex_aload_n dX0_parsePiece_93 rfl ?_
      refine Ex_V0i dX0_parsePiece_94 sX0_80 (ds_g hD).1 (Nat.le_of_ble_eq_true rfl) (c0_parseAtom (e + 5) hD hT hG hf kk hk3 hky hql) ?_
      rintro r J2 _ ⟨⟨s1, s2, s3, s4⟩, rfl⟩
      refine Ex_iret dX0_parsePiece_97 (by rw [s1]; exact narrow_bI) ?_
      rw [rcd, if_pos (by omega), if_neg h6, if_neg h49]
      cases ha : atC tb N ky f with
      | none =>
        rw [ha] at s1
        exact ⟨_, rfl, ⟨by rw [s1, bI_f (fun z => z rfl)]; exact (bI_f (fun z => by cases z)).symm, fun z => (by cases z), fun _ => by rw [s3 ha]; exact hG.2.2.2.1, s4⟩, rfl⟩
      | some c =>
        rw [ha] at s1
        exact ⟨_, rfl, ⟨by rw [s1, bI_t (fun z => by cases z)]; exact (bI_t rfl).symm, fun _ => s2 c ha, fun z => (by cases z), s4⟩, rfl⟩
    · refine Ex_iload_n dX0_parsePiece_52 rfl ?_
      refine Ex_bipush (v := nI 8) dX0_parsePiece_53 (by rfl) ?_
      refine Ex_icmp_ltN (by omega) (by omega) (tgt := 60) dX0_parsePiece_55 (by decide) (fun h55 => ?_) (fun h55 => ?_)
      · refine Ex_aload_n dX0_parsePiece_60 rfl ?_
        refine Ex_V0v dX0_parsePiece_61 sX0_29 (ds_g hD).1 (Nat.le_of_ble_eq_true rfl) (c0_advance (e + 9) hD hT (gE tb N f) hG.2.2.2.2.1 hge.2) ?_
        rintro _ _ ⟨rfl, rfl⟩
        have g1 := hG.adv (nx tb N f)
        have f1 : Fr (PG D) I (rowI I (D + 61) (g3 (I (D + 61)) (nI (nx tb N f)) (nI (gE tb N (nx tb N f))) (nI (cT tb N (nx tb N f))))) := Fr.row (Or.inl rfl)
        have t1 := hT.fr f1
        have hx := nx_gt (tb := tb) (cT_3.mp h49.1).1
        refine Ex_aload_n dX0_parsePiece_64 rfl ?_
        refine Ex_iconst (v := nI 0) dX0_parsePiece_65 (by rfl) ?_
        refine Ex_iload_n dX0_parsePiece_66 rfl ?_
        refine Ex_iconst (v := nI 1) dX0_parsePiece_67 (by rfl) ?_
        first | with_reducible refine Ex_iaddN dX0_parsePiece_68 ?_ | refine Ex_iadd dX0_parsePiece_68 ?_
        refine Ex_iload_n dX0_parsePiece_69 rfl ?_
        refine Ex_V3i dX0_parsePiece_70 sX0_39 (ds_g hD).1 (Nat.le_of_ble_eq_true rfl) (hV _ (e + 10) 0 (br + 1) nt (nx tb N f) q a (by unfold dpP at *; omega) (by omega) (by omega) hnt (by unfold mes at *; omega) hx.2 (by omega) t1 g1) ?_
        rintro r J2 _ ⟨⟨rfl, s2, s3, s4⟩, rfl⟩
        have hr9 := rcd_f (tb := tb) (N := N) (ky := ky) n 0 none (br + 1) nt (nx tb N f) q a hx.2
        refine Ex_if_eqB (tgt := 85) dX0_parsePiece_73 (by decide) (fun h73 => ?_) (fun h73 => ?_)
        · refine Ex_iconst (v := nI 0) dX0_parsePiece_85 (by rfl) ?_
          refine Ex_iret dX0_parsePiece_86 (by first | rfl | exact narrow_bI) ?_
          rw [rcd, if_pos (by omega), if_neg h6, if_pos h49, if_neg (by omega), if_neg h73]
          exact ⟨_, rfl, ⟨(bI_f h73).symm, fun z => absurd z h73, s3, f1.trans s4⟩, rfl⟩
        · have g2 := s2 h73
          refine Ex_aload_n dX0_parsePiece_76 rfl ?_
          refine Ex_bipush (v := nI 41) dX0_parsePiece_77 (by rfl) ?_
          refine Ex_V1p dX0_parsePiece_79 sX0_77 (ds_g hD).1 (Nat.le_of_ble_eq_true rfl) (c0_isSign (e + 10) hD (t1.fr s4) g2 hr9.2.1 41 (by omega)) ?_
          refine Ex_if_neB (tgt := 87) dX0_parsePiece_82 (by decide) (fun h82 => ?_) (fun h82 => ?_)
          · refine Ex_aload_n dX0_parsePiece_87 rfl ?_
            refine Ex_V0v dX0_parsePiece_88 sX0_29 (ds_g hD).1 (Nat.le_of_ble_eq_true rfl) (c0_advance (e + 9) hD (t1.fr s4) (gE tb N (rcd tb N ky n 0 none (br + 1) nt (nx tb N f) q a).2.1) g2.2.2.2.2.1 (gE_le hr9.2.1).2) ?_
            rintro _ _ ⟨rfl, rfl⟩
            refine Ex_iconst (v := nI 1) dX0_parsePiece_91 (by rfl) ?_
            refine Ex_iret dX0_parsePiece_92 (by first | rfl | exact narrow_bI) ?_
            rw [rcd, if_pos (by omega), if_neg h6, if_pos h49, if_neg (by omega), if_pos h73, if_pos h82]
            exact ⟨_, rfl, ⟨(bI_t rfl).symm, fun _ => g2.adv (nx tb N (rcd tb N ky n 0 none (br + 1) nt (nx tb N f) q a).2.1), fun z => (by cases z), (f1.trans s4).trans (Fr.row (Or.inl rfl))⟩, rfl⟩
          · refine Ex_iconst (v := nI 0) dX0_parsePiece_85 (by rfl) ?_
            refine Ex_iret dX0_parsePiece_86 (by first | rfl | exact narrow_bI) ?_
            rw [rcd, if_pos (by omega), if_neg h6, if_pos h49, if_neg (by omega), if_pos h73, if_neg h82]
            exact ⟨_, rfl, ⟨(bI_f (fun z => by cases z)).symm, fun z => (by cases z), fun _ => g2.2.2.2.1, f1.trans s4⟩, rfl⟩
      · refine Ex_iconst (v := nI 0) dX0_parsePiece_58 (by rfl) ?_
        refine Ex_iret dX0_parsePiece_59 (by first | rfl | exact narrow_bI) ?_
        rw [rcd, if_pos (by omega), if_neg h6, if_pos h49, if_pos (by omega)]
        exact ⟨_, rfl, ⟨(bI_f (fun z => by cases z)).symm, fun z => (by cases z), fun _ => hG.2.2.2.1, Fr.refl⟩, rfl⟩
  · refine Ex_iload_n dX0_parsePiece_9 rfl ?_
    refine Ex_bipush (v := nI 8) dX0_parsePiece_10 (by rfl) ?_
    refine Ex_icmp_ltN (by omega) (by omega) (tgt := 17) dX0_parsePiece_12 (by decide) (fun h12 => ?_) (fun h12 => ?_)
    · refine Ex_aload_n dX0_parsePiece_17 rfl ?_
      refine Ex_V0v dX0_parsePiece_18 sX0_29 (ds_g hD).1 (Nat.le_of_ble_eq_true rfl) (c0_advance (e + 9) hD hT (gE tb N f) hG.2.2.2.2.1 hge.2) ?_
      rintro _ _ ⟨rfl, rfl⟩
      have g1 := hG.adv (nx tb N f)
      have f1 : Fr (PG D) I (rowI I (D + 61) (g3 (I (D + 61)) (nI (nx tb N f)) (nI (gE tb N (nx tb N f))) (nI (cT tb N (nx tb N f))))) := Fr.row (Or.inl rfl)
      have t1 := hT.fr f1
      have hx := nx_gt (tb := tb) (cT_3.mp h6.1).1
      refine Ex_aload_n dX0_parsePiece_21 rfl ?_
      refine Ex_iload_n dX0_parsePiece_22 rfl ?_
      refine Ex_iload_n dX0_parsePiece_23 rfl ?_
      refine Ex_iconst (v := nI 1) dX0_parsePiece_24 (by rfl) ?_
      first | with_reducible refine Ex_iaddN dX0_parsePiece_25 ?_ | refine Ex_iadd dX0_parsePiece_25 ?_
      refine Ex_V2i dX0_parsePiece_26 sX0_57 (ds_g hD).1 (Nat.le_of_ble_eq_true rfl) (hP _ (e + 10) br (nt + 1) (nx tb N f) q a (by unfold dpP at *; omega) hbr (by omega) (by unfold mes at *; omega) hx.2 (by omega) t1 g1) ?_
      rintro r J2 _ ⟨⟨rfl, s2, s3, s4⟩, rfl⟩
      have hr9 := rcd_f (tb := tb) (N := N) (ky := ky) n 5 none br (nt + 1) (nx tb N f) q a hx.2
      refine Ex_if_neB (tgt := 34) dX0_parsePiece_29 (by decide) (fun h29 => ?_) (fun h29 => ?_)
      · refine Ex_aload_n dX0_parsePiece_34 rfl ?_
        refine Ex_sipush (v := nI 20033) dX0_parsePiece_35 (by rfl) ?_
        refine Ex_V1v dX0_parsePiece_38 sX0_73 (ds_g hD).1 (Nat.le_of_ble_eq_true rfl) (c0_addStep (e + 10) hD (rcd tb N ky n 5 none br (nt + 1) (nx tb N f) q a).2.2.1.length (nI 20033) (s2 h29).1 (by have := (hr9.2.2 h29).2; have := hr9.2.1; omega)) ?_
        rintro _ _ ⟨rfl, rfl⟩
        have g3' := (s2 h29).push (c := (-10)) (v := nI 20033) rfl
        refine Ex_iconst (v := nI 1) dX0_parsePiece_41 (by rfl) ?_
        refine Ex_iret dX0_parsePiece_42 (by first | rfl | exact narrow_bI) ?_
        rw [rcd, if_pos (by omega), if_pos h6, if_neg (by omega), if_pos h29]
        refine ⟨_, rfl, ⟨(bI_t rfl).symm, fun _ => g3', fun z => (by cases z), (f1.trans s4).trans (Fr.trans (Fr.row (Or.inr rfl)) (Fr.row (Or.inl rfl)))⟩, rfl⟩
      · refine Ex_iconst (v := nI 0) dX0_parsePiece_32 (by rfl) ?_
        refine Ex_iret dX0_parsePiece_33 (by first | rfl | exact narrow_bI) ?_
        rw [rcd, if_pos (by omega), if_pos h6, if_neg (by omega), if_neg h29]
        exact ⟨_, rfl, ⟨(bI_f h29).symm, fun z => absurd z h29, s3, f1.trans s4⟩, rfl⟩
    · refine Ex_iconst (v := nI 0) dX0_parsePiece_15 (by rfl) ?_
      refine Ex_iret dX0_parsePiece_16 (by first | rfl | exact narrow_bI) ?_
      rw [rcd, if_pos (by omega), if_pos h6, if_pos (by omega)]
      exact ⟨_, rfl, ⟨(bI_f (fun z => by cases z)).symm, fun z => (by cases z), fun _ => hG.2.2.2.1, Fr.refl⟩, rfl⟩
set_option maxRecDepth 100000 in
set_option maxHeartbeats 4000000 in
theorem Lv_s {T : TC} {G : MG} {D NN : Nat} (hD : DS T G D NN) {tb : Nat → Nat} {N : Nat} {ky : Int32} (kk : Nat) (hk3 : kk < 3) (hky : ky = nI kk) {n : Nat} (hP1 : PiO T G D tb N ky (n + 1)) (hV : LvO T G D tb N ky n) (hO : LoO T G D tb N ky n) : LvO T G D tb N ky (n + 1) := by
  intro I D0 lv br nt f q a hd hlv hbr hnt hm hf hql hT hG
  obtain ⟨e, rfl⟩ : ∃ e, D0 = e + 12 := ⟨D0 - 12, by unfold dpP at hd; omega⟩
  have h96 := hT.1
  refine Ok_of (own := RX0) (by decide) rfl (cat1 rfl) (Nat.le_of_ble_eq_true rfl) ?_
  show Ex T RX0 cX0_parseLevel 7 (e + 12) _ 0 [some (.ref (D + 61)), some (.int (nI lv)), some (.int (nI br)), some (.int (nI nt)), none, none, none] [] I G (0, 0)
  refine Ex_iload_n dX0_parseLevel_0 rfl ?_
  refine Ex_iconst (v := nI 5) dX0_parseLevel_1 (by rfl) ?_
  refine Ex_icmp_ltN (by omega) (by omega) (tgt := 12) dX0_parseLevel_2 (by decide) (fun h2 => ?_) (fun h2 => ?_)
  · refine Ex_aload_n dX0_parseLevel_12 rfl ?_
    refine Ex_iload_n dX0_parseLevel_13 rfl ?_
    refine Ex_iconst (v := nI 1) dX0_parseLevel_14 (by rfl) ?_
    first | with_reducible refine Ex_iaddN dX0_parseLevel_15 ?_ | refine Ex_iadd dX0_parseLevel_15 ?_
    refine Ex_iload_n dX0_parseLevel_16 rfl ?_
    refine Ex_iload_n dX0_parseLevel_17 rfl ?_
    refine Ex_V3i dX0_parseLevel_18 sX0_39 (ds_g hD).1 (Nat.le_of_ble_eq_true rfl) (hV I (e + 11) (lv + 1) br nt f q a (by unfold dpP at *; omega) (by omega) hbr hnt (by unfold mes at *; omega) hf hql hT hG) ?_
    rintro r J2 _ ⟨⟨rfl, s2, s3, s4⟩, rfl⟩
    have hr9 := rcd_f (tb := tb) (N := N) (ky := ky) n (lv + 1) none br nt f q a hf
    refine Ex_if_neB (tgt := 26) dX0_parseLevel_21 (by decide) (fun h21 => ?_) (fun h21 => ?_)
    · refine Ex_iload_n dX0_parseLevel_26 rfl ?_
      refine Ex_iconst (v := nI 2) dX0_parseLevel_27 (by rfl) ?_
      refine Ex_icmp_neN (by omega) (by omega) (tgt := 35) dX0_parseLevel_28 (by decide) (fun h28 => ?_) (fun h28 => ?_)
      · refine Ex_bipush (v := nI 96) dX0_parseLevel_35 (by rfl) ?_
        refine Ex_istore dX0_parseLevel_37 (by decide) rfl ?_
        simp only [List.set_cons_zero, List.set_cons_succ]
        refine Ex_iconst (v := nI 0) dX0_parseLevel_39 (by rfl) ?_
        refine Ex_istore dX0_parseLevel_40 (by decide) rfl ?_
        simp only [List.set_cons_zero, List.set_cons_succ]
        have hlt := (hr9.2.2 h21).1 rfl
        have hq9 := (hr9.2.2 h21).2
        have ex : rcd tb N ky (n + 1) lv none br nt f q a = rcd tb N ky n lv (some (96 - 0)) br nt (rcd tb N ky n (lv + 1) none br nt f q a).2.1 (rcd tb N ky n (lv + 1) none br nt f q a).2.2.1 (rcd tb N ky n (lv + 1) none br nt f q a).2.2.2 := by rw [rcd, if_neg (by omega), if_pos h21, if_neg h28]
        rw [ex]
        exact hO I J2 (e + 12) lv br nt 96 0 (rcd tb N ky n (lv + 1) none br nt f q a).2.1 (rcd tb N ky n (lv + 1) none br nt f q a).2.2.1 (rcd tb N ky n (lv + 1) none br nt f q a).2.2.2 hd (by omega) hbr hnt (by omega) (by omega) (by unfold mes at *; omega) hr9.2.1 (by omega) (hT.fr s4) (s2 h21) s4
      · refine Ex_iconst (v := nI 1) dX0_parseLevel_31 (by rfl) ?_
        refine Ex_goto (tgt := 37) dX0_parseLevel_32 (by decide) ?_
        refine Ex_istore dX0_parseLevel_37 (by decide) rfl ?_
        simp only [List.set_cons_zero, List.set_cons_succ]
        refine Ex_iconst (v := nI 0) dX0_parseLevel_39 (by rfl) ?_
        refine Ex_istore dX0_parseLevel_40 (by decide) rfl ?_
        simp only [List.set_cons_zero, List.set_cons_succ]
        have hlt := (hr9.2.2 h21).1 rfl
        have hq9 := (hr9.2.2 h21).2
        have ex : rcd tb N ky (n + 1) lv none br nt f q a = rcd tb N ky n lv (some (1 - 0)) br nt (rcd tb N ky n (lv + 1) none br nt f q a).2.1 (rcd tb N ky n (lv + 1) none br nt f q a).2.2.1 (rcd tb N ky n (lv + 1) none br nt f q a).2.2.2 := by rw [rcd, if_neg (by omega), if_pos h21, if_pos h28]
        rw [ex]
        exact hO I J2 (e + 12) lv br nt 1 0 (rcd tb N ky n (lv + 1) none br nt f q a).2.1 (rcd tb N ky n (lv + 1) none br nt f q a).2.2.1 (rcd tb N ky n (lv + 1) none br nt f q a).2.2.2 hd (by omega) hbr hnt (by omega) (by omega) (by unfold mes at *; omega) hr9.2.1 (by omega) (hT.fr s4) (s2 h21) s4
    · refine Ex_iconst (v := nI 0) dX0_parseLevel_24 (by rfl) ?_
      refine Ex_iret dX0_parseLevel_25 (by first | rfl | exact narrow_bI) ?_
      have ex : rcd tb N ky (n + 1) lv none br nt f q a = (rcd tb N ky n (lv + 1) none br nt f q a) := by rw [rcd, if_neg (by omega), if_neg h21]
      rw [ex]
      exact ⟨_, rfl, ⟨(bI_f h21).symm, fun z => absurd z h21, s3, s4⟩, rfl⟩
  · refine Ex_aload_n dX0_parseLevel_5 rfl ?_
    refine Ex_iload_n dX0_parseLevel_6 rfl ?_
    refine Ex_iload_n dX0_parseLevel_7 rfl ?_
    refine Ex_V2i dX0_parseLevel_8 sX0_57 (ds_g hD).1 (Nat.le_of_ble_eq_true rfl) (hP1 I (e + 11) br nt f q a (by unfold dpP at *; omega) hbr hnt (by unfold mes at *; omega) hf hql hT hG) ?_
    rintro r J2 _ ⟨s1, rfl⟩
    refine Ex_iret dX0_parseLevel_11 (by rw [s1.1]; exact narrow_bI) ?_
    have e5 : lv = 5 := by omega
    subst e5
    exact ⟨_, rfl, s1, rfl⟩
set_option maxRecDepth 100000 in
set_option maxHeartbeats 4000000 in
theorem Lo_s {T : TC} {G : MG} {D NN : Nat} (hD : DS T G D NN) {tb : Nat → Nat} {N : Nat} {ky : Int32} (kk : Nat) (hk3 : kk < 3) (hky : ky = nI kk) {n : Nat} (hV : LvO T G D tb N ky n) (hO : LoO T G D tb N ky n) : LoO T G D tb N ky (n + 1) := by
  intro I J D0 lv br nt m k f q a hd hlv hbr hnt hm96 hkm hm hf hql hT hG hFJ
  obtain ⟨e, rfl⟩ : ∃ e, D0 = e + 12 := ⟨D0 - 12, by unfold dpP at hd; omega⟩
  have h96 := hT.1
  have hge := gE_le (tb := tb) hf
  refine Ex_iload dX0_parseLevel_42 rfl ?_
  refine Ex_iload dX0_parseLevel_44 rfl ?_
  refine Ex_icmp_geN (by omega) (by omega) (tgt := 105) dX0_parseLevel_46 (by decide) (fun h46 => ?_) (fun h46 => ?_)
  · refine Ex_iconst (v := nI 1) dX0_parseLevel_105 (by rfl) ?_
    refine Ex_iret dX0_parseLevel_106 (by first | rfl | exact narrow_bI) ?_
    rw [rcd, if_neg (fun z => by omega)]
    exact ⟨_, rfl, ⟨(bI_t rfl).symm, fun _ => hG, fun z => (by cases z), hFJ⟩, rfl⟩
  · refine Ex_aload_n dX0_parseLevel_49 rfl ?_
    refine Ex_iload_n dX0_parseLevel_50 rfl ?_
    refine Ex_V1p dX0_parseLevel_51 sX0_61 (ds_g hD).1 (Nat.le_of_ble_eq_true rfl) (c0_joins (e + 10) hD hT hG hf lv hlv) ?_
    refine Ex_if_eqB (tgt := 105) dX0_parseLevel_54 (by decide) (fun h54 => ?_) (fun h54 => ?_)
    · refine Ex_iconst (v := nI 1) dX0_parseLevel_105 (by rfl) ?_
      refine Ex_iret dX0_parseLevel_106 (by first | rfl | exact narrow_bI) ?_
      rw [rcd, if_neg (fun z => h54 z.2)]
      exact ⟨_, rfl, ⟨(bI_t rfl).symm, fun _ => hG, fun z => (by cases z), hFJ⟩, rfl⟩
    · have hfl := (cT_3.mp h54.1).1
      obtain ⟨hb1, hb2⟩ := hT.2.2 f hfl
      refine Ex_aload_n dX0_parseLevel_57 rfl ?_
      refine Ex_getr dX0_parseLevel_58 fX0_15 (ds_g hD).1 (ds_g hD).2.1 ?_
      refine Ex_getr dX0_parseLevel_61 fX0_65 (ds_tp hD).1 (ds_tp hD).2.1 ?_
      refine Ex_aload_n dX0_parseLevel_64 rfl ?_
      refine Ex_geti dX0_parseLevel_65 fX0_70 (ds_g hD).1 ?_
      refine Ex_top hG.2.2.2.1 ?_
      refine Ex_iald dX0_parseLevel_68 (ds_tp hD).2.2.1 rfl (by rw [(ds_tp hD).2.2.2]; omega) (by rw [(ds_tp hD).2.2.2]; decide) ?_
      refine Ex_top hb1 ?_
      refine Ex_istore dX0_parseLevel_69 (by decide) rfl ?_
      simp only [List.set_cons_zero, List.set_cons_succ]
      refine Ex_aload_n dX0_parseLevel_71 rfl ?_
      refine Ex_V0v dX0_parseLevel_72 sX0_29 (ds_g hD).1 (Nat.le_of_ble_eq_true rfl) (c0_advance (e + 10) hD hT (gE tb N f) hG.2.2.2.2.1 hge.2) ?_
      rintro _ _ ⟨rfl, rfl⟩
      have g1 := hG.adv (nx tb N f)
      have f1 : Fr (PG D) J (rowI J (D + 61) (g3 (J (D + 61)) (nI (nx tb N f)) (nI (gE tb N (nx tb N f))) (nI (cT tb N (nx tb N f))))) := Fr.row (Or.inl rfl)
      have t1 := hT.fr f1
      have hx := nx_gt (tb := tb) hfl
      refine Ex_aload_n dX0_parseLevel_75 rfl ?_
      refine Ex_iload_n dX0_parseLevel_76 rfl ?_
      refine Ex_iconst (v := nI 1) dX0_parseLevel_77 (by rfl) ?_
      first | with_reducible refine Ex_iaddN dX0_parseLevel_78 ?_ | refine Ex_iadd dX0_parseLevel_78 ?_
      refine Ex_iload_n dX0_parseLevel_79 rfl ?_
      refine Ex_iload_n dX0_parseLevel_80 rfl ?_
      refine Ex_V3i dX0_parseLevel_81 sX0_39 (ds_g hD).1 (Nat.le_of_ble_eq_true rfl) (hV _ (e + 11) (lv + 1) br nt (nx tb N f) q a (by unfold dpP at *; omega) (by omega) hbr hnt (by unfold mes at *; omega) hx.2 (by omega) t1 g1) ?_
      rintro r J2 _ ⟨⟨rfl, s2, s3, s4⟩, rfl⟩
      have hr9 := rcd_f (tb := tb) (N := N) (ky := ky) n (lv + 1) none br nt (nx tb N f) q a hx.2
      refine Ex_if_neB (tgt := 89) dX0_parseLevel_84 (by decide) (fun h84 => ?_) (fun h84 => ?_)
      · refine Ex_aload_n dX0_parseLevel_89 rfl ?_
        refine Ex_sipush (v := nI 20000) dX0_parseLevel_90 (by rfl) ?_
        refine Ex_iload dX0_parseLevel_93 rfl ?_
        first | with_reducible refine Ex_iaddN dX0_parseLevel_95 ?_ | refine Ex_iadd dX0_parseLevel_95 ?_
        refine Ex_V1v dX0_parseLevel_96 sX0_73 (ds_g hD).1 (Nat.le_of_ble_eq_true rfl) (c0_addStep (e + 11) hD (rcd tb N ky n (lv + 1) none br nt (nx tb N f) q a).2.2.1.length (nI (20000 + tb f)) (s2 h84).1 (by have := (hr9.2.2 h84).2; have := hr9.2.1; omega)) ?_
        rintro _ _ ⟨rfl, rfl⟩
        have g3' := (s2 h84).push (c := sg (tb f)) (v := nI (20000 + tb f)) (sg_sp (tb f) hb2 (by omega))
        first | refine Ex_iincN (m := 1) dX0_parseLevel_99 rfl rfl (by decide) rfl ?_ | refine Ex_iinc dX0_parseLevel_99 rfl rfl (by decide) rfl ?_
        simp only [List.set_cons_zero, List.set_cons_succ]
        refine Ex_goto (tgt := 42) dX0_parseLevel_102 (by decide) ?_
        refine Ex_drop 6 ?_
        simp only [List.set_cons_zero, List.set_cons_succ]
        have hq9 := (hr9.2.2 h84).2
        have f3 : Fr (PG D) J2 _ := Fr.trans (Fr.row (f := upd (J2 (D + 62)) (rcd tb N ky n (lv + 1) none br nt (nx tb N f) q a).2.2.1.length (nI (20000 + tb f))) (Or.inr rfl)) (Fr.row (a := D + 61) (f := upd (J2 (D + 61)) 2 (nI ((rcd tb N ky n (lv + 1) none br nt (nx tb N f) q a).2.2.1.length + 1))) (Or.inl rfl))
        have ex : rcd tb N ky (n + 1) lv (some (m - k)) br nt f q a = rcd tb N ky n lv (some (m - (k + 1))) br nt (rcd tb N ky n (lv + 1) none br nt (nx tb N f) q a).2.1 (sg (tb f) :: (rcd tb N ky n (lv + 1) none br nt (nx tb N f) q a).2.2.1) (rcd tb N ky n (lv + 1) none br nt (nx tb N f) q a).2.2.2 := by rw [rcd, if_pos ⟨by omega, h54⟩, if_pos h84, Nat.sub_sub]
        rw [ex]
        exact hO I _ (e + 12) lv br nt m (k + 1) (rcd tb N ky n (lv + 1) none br nt (nx tb N f) q a).2.1 (sg (tb f) :: (rcd tb N ky n (lv + 1) none br nt (nx tb N f) q a).2.2.1) (rcd tb N ky n (lv + 1) none br nt (nx tb N f) q a).2.2.2 hd hlv hbr hnt hm96 (by omega) (by unfold mes at *; omega) hr9.2.1 (by simp only [List.length_cons]; omega) ((t1.fr s4).fr f3) g3' (((hFJ.trans f1).trans s4).trans f3)
      · refine Ex_iconst (v := nI 0) dX0_parseLevel_87 (by rfl) ?_
        refine Ex_iret dX0_parseLevel_88 (by first | rfl | exact narrow_bI) ?_
        rw [rcd, if_pos ⟨by omega, h54⟩, if_neg h84]
        exact ⟨_, rfl, ⟨(bI_f h84).symm, fun z => absurd z h84, s3, (hFJ.trans f1).trans s4⟩, rfl⟩
theorem Gr_all {T : TC} {G : MG} {D NN : Nat} (hD : DS T G D NN) {tb : Nat → Nat} {N : Nat} {ky : Int32} (kk : Nat) (hk3 : kk < 3) (hky : ky = nI kk) : ∀ n, PiO T G D tb N ky n ∧ LvO T G D tb N ky n ∧ LoO T G D tb N ky n
  | 0 => ⟨fun I D0 br nt f q a hd hbr hnt hm => by unfold mes at hm; omega, fun I D0 lv br nt f q a hd hlv hbr hnt hm => by unfold mes at hm; omega, fun I J D0 lv br nt m k f q a hd hlv hbr hnt hm96 hkm hm => by unfold mes at hm; omega⟩
  | n + 1 => by
    obtain ⟨h1, h2, h3⟩ := Gr_all hD (tb := tb) (N := N) kk hk3 hky n
    have p1 := Pi_s hD kk hk3 hky h1 h2
    exact ⟨p1, Lv_s hD kk hk3 hky p1 h2 h3, Lo_s hD kk hk3 hky h2 h3⟩
