/-! takesKey -/
def ka (w : Nat) : Nat := if w = 0 then 0 else if w = 1 then 4 else if w = 2 then 7 else 11
def kc (j : Nat) : Nat := [108, 105, 102, 116, 102, 101, 101, 102, 105, 110, 101].getD j 0
theorem ka_le {w : Nat} (h : w < 3) : ka w ≤ ka (w + 1) ∧ ka (w + 1) ≤ 11 := by
  rcases (show w = 0 ∨ w = 1 ∨ w = 2 by omega) with rfl | rfl | rfl <;> decide
theorem kc_lt (j : Nat) (h : j < 11) : kc j < 256 := (show ∀ j, j < 11 → kc j < 256 by decide) j h
def KyO (A : MI) (M : Nat) : Prop := (∀ w, w ≤ 3 → A (M + 12) w = nI (ka w)) ∧ ∀ j, j < 11 → A (M + 11) j = nI (kc j)
/-- the word at f, of length l, is key w -/
abbrev kwP (tb : Nat → Nat) (f l w : Nat) : Prop := ka (w + 1) - ka w = l ∧ ∀ j, j < l → tb (f + j) = kc (ka w + j)
/-- the first key from w on, of i, that the word is -/
def kyF (tb : Nat → Nat) (f l : Nat) : Nat → Nat → Option Nat
  | 0, _ => none
  | i + 1, w => if kwP tb f l w then some w else kyF tb f l i (w + 1)
set_option maxRecDepth 100000 in
set_option maxHeartbeats 4000000 in
theorem k9_takesKey {T : TC} {A : MI} {G : MG} {b : Nat × Nat} {F : _} (d : Nat) {M : Nat} {c cd wt te : Nat → Int32} {ky cs aa hd tk vl en : Int32} (hM : MSh T G M) (tb : Nat → Nat) (N : Nat) (hT : TpO A M tb N) (hK : KyO A M) (p f : Nat) (hf : f ≤ p) (hp : p ≤ N) (w : Nat) (hw : w < 3) (K1 : kwP tb f (p - f) w → ∀ x4, Ex T RX9 cX9_takesKey 5 (d + 2) F 106 [some (.ref M), some (.int (nI w)), some (.int (nI (ka (w + 1) - ka w))), some (.int (nI 1)), x4] [] (PM A M c cd wt te ky cs aa hd (nI p) (nI f) tk vl en) G b) (K0 : ¬ kwP tb f (p - f) w → ∀ x4, Ex T RX9 cX9_takesKey 5 (d + 2) F 106 [some (.ref M), some (.int (nI w)), some (.int (nI (ka (w + 1) - ka w))), some (.int (nI 0)), x4] [] (PM A M c cd wt te ky cs aa hd (nI p) (nI f) tk vl en) G b) (hn : (ka (w + 1) - ka w) = p - f) : ∀ i k, k + i = p - f → (∀ j, j < k → tb (f + j) = kc (ka w + j)) → Ex T RX9 cX9_takesKey 5 (d + 2) F 55 [some (.ref M), some (.int (nI w)), some (.int (nI (ka (w + 1) - ka w))), some (.int (nI 1)), some (.int (nI k))] [] (PM A M c cd wt te ky cs aa hd (nI p) (nI f) tk vl en) G b := by
  have h96 := hT.1
  have hka := ka_le hw
  intro i
  induction i with
  | zero =>
    intro k h0 hj
    have e : k = p - f := h0
    refine Ex_iload dX9_takesKey_55 rfl ?_
    refine Ex_iload_n dX9_takesKey_57 rfl ?_
    refine Ex_icmp_geN (by omega) (by omega) (tgt := 106) dX9_takesKey_58 (by decide) (fun h58 => ?_) (fun h58 => ?_)
    · exact K1 ⟨hn, fun j hj2 => hj j (by omega)⟩ _
    · omega
  | succ i ih =>
    intro k h0 hj
    have hb1 := (hT.2 (f + k) (by omega)).2
    have hb2 := kc_lt (ka w + k) (by omega)
    refine Ex_iload dX9_takesKey_55 rfl ?_
    refine Ex_iload_n dX9_takesKey_57 rfl ?_
    refine Ex_icmp_geN (by omega) (by omega) (tgt := 106) dX9_takesKey_58 (by decide) (fun h58 => ?_) (fun h58 => ?_)
    · omega
    · refine Ex_iload_n dX9_takesKey_61 rfl ?_
      refine Ex_if_eq (tgt := 106) dX9_takesKey_62 (by decide) (fun h62 => ?_) (fun h62 => ?_)
      · exact absurd h62 (by decide)
      · refine Ex_aload_n dX9_takesKey_65 rfl ?_
        refine Ex_getr dX9_takesKey_66 fX9_38 hM.1 (mF11 hM).1 ?_
        refine Ex_aload_n dX9_takesKey_69 rfl ?_
        refine Ex_geti dX9_takesKey_70 fX9_217 hM.1 ?_
        rw [qd14]
        refine Ex_iload dX9_takesKey_73 rfl ?_
        first | with_reducible refine Ex_iaddN dX9_takesKey_75 ?_ | refine Ex_iadd dX9_takesKey_75 ?_
        refine Ex_iald dX9_takesKey_76 (mF11 hM).2.1 rfl (by rw [(mF11 hM).2.2]; omega) (by rw [(mF11 hM).2.2]; decide) ?_
        refine Ex_top (show _ = nI (tb (f + k)) by rw [qo (by omega) (by omega) (by omega) (by omega)]; exact (hT.2 (f + k) (by omega)).1) ?_
        refine Ex_aload_n dX9_takesKey_77 rfl ?_
        refine Ex_getr dX9_takesKey_78 fX9_41 hM.1 (mF19 hM).1 ?_
        refine Ex_aload_n dX9_takesKey_81 rfl ?_
        refine Ex_getr dX9_takesKey_82 fX9_45 hM.1 (mF20 hM).1 ?_
        refine Ex_iload_n dX9_takesKey_85 rfl ?_
        refine Ex_iald dX9_takesKey_86 (mF20 hM).2.1 rfl (by rw [(mF20 hM).2.2]; omega) (by rw [(mF20 hM).2.2]; decide) ?_
        refine Ex_top (show _ = nI (ka w) by rw [qo (by omega) (by omega) (by omega) (by omega)]; exact hK.1 w (by omega)) ?_
        refine Ex_iload dX9_takesKey_87 rfl ?_
        first | with_reducible refine Ex_iaddN dX9_takesKey_89 ?_ | refine Ex_iadd dX9_takesKey_89 ?_
        refine Ex_cald dX9_takesKey_90 (mF19 hM).2.1 rfl (by rw [(mF19 hM).2.2]; omega) (by rw [(mF19 hM).2.2]; decide) ?_
        refine Ex_top (show _ = nI (kc (ka w + k)) by rw [qo (by omega) (by omega) (by omega) (by omega)]; exact hK.2 (ka w + k) (by omega)) ?_
        refine Ex_icmp_neN (by omega) (by omega) (tgt := 98) dX9_takesKey_91 (by decide) (fun h91 => ?_) (fun h91 => ?_)
        · refine Ex_iconst (v := nI 0) dX9_takesKey_98 (by rfl) ?_
          refine Ex_istore_n dX9_takesKey_99 (by decide) rfl ?_
          simp only [st_n0, st_n1, st_n2, st_n3, List.set_cons_zero, List.set_cons_succ]
          first | refine Ex_iincN (m := 1) dX9_takesKey_100 rfl rfl (by decide) rfl ?_ | refine Ex_iinc dX9_takesKey_100 rfl rfl (by decide) rfl ?_
          simp only [List.set_cons_zero, List.set_cons_succ]
          refine Ex_goto (tgt := 55) dX9_takesKey_103 (by decide) ?_
          refine Ex_iload dX9_takesKey_55 rfl ?_
          refine Ex_iload_n dX9_takesKey_57 rfl ?_
          refine Ex_icmp_geN (by omega) (by omega) (tgt := 106) dX9_takesKey_58 (by decide) (fun h58 => ?_) (fun h58 => ?_)
          · exact K0 (fun z => h91 (z.2 k (by omega))) _
          · refine Ex_iload_n dX9_takesKey_61 rfl ?_
            refine Ex_if_eq (tgt := 106) dX9_takesKey_62 (by decide) (fun h62 => ?_) (fun h62 => ?_)
            · exact K0 (fun z => h91 (z.2 k (by omega))) _
            · exact absurd rfl h62
        · refine Ex_iconst (v := nI 1) dX9_takesKey_94 (by rfl) ?_
          refine Ex_goto (tgt := 99) dX9_takesKey_95 (by decide) ?_
          refine Ex_istore_n dX9_takesKey_99 (by decide) rfl ?_
          simp only [st_n0, st_n1, st_n2, st_n3, List.set_cons_zero, List.set_cons_succ]
          first | refine Ex_iincN (m := 1) dX9_takesKey_100 rfl rfl (by decide) rfl ?_ | refine Ex_iinc dX9_takesKey_100 rfl rfl (by decide) rfl ?_
          simp only [List.set_cons_zero, List.set_cons_succ]
          refine Ex_goto (tgt := 55) dX9_takesKey_103 (by decide) ?_
          refine ih (k + 1) (by omega) (fun j hj2 => ?_)
          by_cases e : j = k
          · rw [e]; exact h91
          · exact hj j (by omega)
set_option maxRecDepth 100000 in
set_option maxHeartbeats 4000000 in
theorem o9_takesKey {T : TC} {A : MI} {G : MG} {b : Nat × Nat} {F : _} (d : Nat) {M : Nat} {c cd wt te : Nat → Int32} {ky cs aa hd tk vl en : Int32} (hM : MSh T G M) (tb : Nat → Nat) (N : Nat) (hT : TpO A M tb N) (hK : KyO A M) (p f : Nat) (hf : f ≤ p) (hp : p ≤ N) (K1 : ∀ w, kyF tb f (p - f) 3 0 = some w → ∀ x2 x3 x4, Ex T RX9 cX9_takesKey 5 (d + 2) F 110 [some (.ref M), some (.int (nI w)), x2, x3, x4] [] (PM A M c cd wt te ky cs aa hd (nI p) (nI f) tk vl en) G b) (K0 : kyF tb f (p - f) 3 0 = none → ∀ x1 x2 x3 x4, Ex T RX9 cX9_takesKey 5 (d + 2) F 127 [some (.ref M), x1, x2, x3, x4] [] (PM A M c cd wt te ky cs aa hd (nI p) (nI f) tk vl en) G b) : ∀ i w x2 x3 x4, w + i = 3 → kyF tb f (p - f) i w = kyF tb f (p - f) 3 0 → Ex T RX9 cX9_takesKey 5 (d + 2) F 12 [some (.ref M), some (.int (nI w)), x2, x3, x4] [] (PM A M c cd wt te ky cs aa hd (nI p) (nI f) tk vl en) G b := by
  have h96 := hT.1
  intro i
  induction i with
  | zero =>
    intro w x2 x3 x4 h0 he
    refine Ex_iload_n dX9_takesKey_12 rfl ?_
    refine Ex_iconst (v := nI 3) dX9_takesKey_13 (by rfl) ?_
    refine Ex_icmp_geN (by omega) (by omega) (tgt := 127) dX9_takesKey_14 (by decide) (fun h14 => ?_) (fun h14 => ?_)
    · exact K0 (he.symm.trans rfl) _ _ _ _
    · omega
  | succ i ih =>
    intro w x2 x3 x4 h0 he
    have hka := ka_le (show w < 3 by omega)
    have hes : kyF tb f (p - f) (i + 1) w = if kwP tb f (p - f) w then some w else kyF tb f (p - f) i (w + 1) := rfl
    rw [hes] at he
    have L1 : kwP tb f (p - f) w → ∀ x4, Ex T RX9 cX9_takesKey 5 (d + 2) F 106 [some (.ref M), some (.int (nI w)), some (.int (nI (ka (w + 1) - ka w))), some (.int (nI 1)), x4] [] (PM A M c cd wt te ky cs aa hd (nI p) (nI f) tk vl en) G b := by
      intro hk x4
      rw [if_pos hk] at he
      refine Ex_iload_n dX9_takesKey_106 rfl ?_
      refine Ex_if_eq (tgt := 121) dX9_takesKey_107 (by decide) (fun h107 => ?_) (fun h107 => ?_)
      · exact absurd h107 (by decide)
      · exact K1 w he.symm _ _ _
    have L0 : ¬ kwP tb f (p - f) w → ∀ x4, Ex T RX9 cX9_takesKey 5 (d + 2) F 106 [some (.ref M), some (.int (nI w)), some (.int (nI (ka (w + 1) - ka w))), some (.int (nI 0)), x4] [] (PM A M c cd wt te ky cs aa hd (nI p) (nI f) tk vl en) G b := by
      intro hk x4
      rw [if_neg hk] at he
      refine Ex_iload_n dX9_takesKey_106 rfl ?_
      refine Ex_if_eq (tgt := 121) dX9_takesKey_107 (by decide) (fun h107 => ?_) (fun h107 => ?_)
      · first | refine Ex_iincN (m := 1) dX9_takesKey_121 rfl rfl (by decide) rfl ?_ | refine Ex_iinc dX9_takesKey_121 rfl rfl (by decide) rfl ?_
        simp only [List.set_cons_zero, List.set_cons_succ]
        refine Ex_goto (tgt := 12) dX9_takesKey_124 (by decide) ?_
        exact ih (w + 1) _ _ _ (by omega) he
      · exact absurd rfl h107
    refine Ex_iload_n dX9_takesKey_12 rfl ?_
    refine Ex_iconst (v := nI 3) dX9_takesKey_13 (by rfl) ?_
    refine Ex_icmp_geN (by omega) (by omega) (tgt := 127) dX9_takesKey_14 (by decide) (fun h14 => ?_) (fun h14 => ?_)
    · omega
    · refine Ex_aload_n dX9_takesKey_17 rfl ?_
      refine Ex_getr dX9_takesKey_18 fX9_45 hM.1 (mF20 hM).1 ?_
      refine Ex_iload_n dX9_takesKey_21 rfl ?_
      refine Ex_iconst (v := nI 1) dX9_takesKey_22 (by rfl) ?_
      first | with_reducible refine Ex_iaddN dX9_takesKey_23 ?_ | refine Ex_iadd dX9_takesKey_23 ?_
      refine Ex_iald dX9_takesKey_24 (mF20 hM).2.1 rfl (by rw [(mF20 hM).2.2]; omega) (by rw [(mF20 hM).2.2]; decide) ?_
      refine Ex_top (show _ = nI (ka (w + 1)) by rw [qo (by omega) (by omega) (by omega) (by omega)]; exact hK.1 (w + 1) (by omega)) ?_
      refine Ex_aload_n dX9_takesKey_25 rfl ?_
      refine Ex_getr dX9_takesKey_26 fX9_45 hM.1 (mF20 hM).1 ?_
      refine Ex_iload_n dX9_takesKey_29 rfl ?_
      refine Ex_iald dX9_takesKey_30 (mF20 hM).2.1 rfl (by rw [(mF20 hM).2.2]; omega) (by rw [(mF20 hM).2.2]; decide) ?_
      refine Ex_top (show _ = nI (ka w) by rw [qo (by omega) (by omega) (by omega) (by omega)]; exact hK.1 w (by omega)) ?_
      refine Ex_isub dX9_takesKey_31 ?_
      refine Ex_top (pk_sub (by omega)) ?_
      refine Ex_istore_n dX9_takesKey_32 (by decide) rfl ?_
      simp only [st_n0, st_n1, st_n2, st_n3, List.set_cons_zero, List.set_cons_succ]
      refine Ex_iload_n dX9_takesKey_33 rfl ?_
      refine Ex_aload_n dX9_takesKey_34 rfl ?_
      refine Ex_geti dX9_takesKey_35 fX9_214 hM.1 ?_
      rw [qd13]
      refine Ex_aload_n dX9_takesKey_38 rfl ?_
      refine Ex_geti dX9_takesKey_39 fX9_217 hM.1 ?_
      rw [qd14]
      refine Ex_isub dX9_takesKey_42 ?_
      refine Ex_top (pk_sub (by omega)) ?_
      refine Ex_icmp_neN (by omega) (by omega) (tgt := 50) dX9_takesKey_43 (by decide) (fun h43 => ?_) (fun h43 => ?_)
      · refine Ex_iconst (v := nI 0) dX9_takesKey_50 (by rfl) ?_
        refine Ex_istore_n dX9_takesKey_51 (by decide) rfl ?_
        simp only [st_n0, st_n1, st_n2, st_n3, List.set_cons_zero, List.set_cons_succ]
        refine Ex_iconst (v := nI 0) dX9_takesKey_52 (by rfl) ?_
        refine Ex_istore dX9_takesKey_53 (by decide) rfl ?_
        simp only [List.set_cons_zero, List.set_cons_succ]
        refine Ex_iload dX9_takesKey_55 rfl ?_
        refine Ex_iload_n dX9_takesKey_57 rfl ?_
        refine Ex_icmp_geN (by omega) (by omega) (tgt := 106) dX9_takesKey_58 (by decide) (fun h58 => ?_) (fun h58 => ?_)
        · exact L0 (fun z => h43 z.1) _
        · refine Ex_iload_n dX9_takesKey_61 rfl ?_
          refine Ex_if_eq (tgt := 106) dX9_takesKey_62 (by decide) (fun h62 => ?_) (fun h62 => ?_)
          · exact L0 (fun z => h43 z.1) _
          · exact absurd rfl h62
      · refine Ex_iconst (v := nI 1) dX9_takesKey_46 (by rfl) ?_
        refine Ex_goto (tgt := 51) dX9_takesKey_47 (by decide) ?_
        refine Ex_istore_n dX9_takesKey_51 (by decide) rfl ?_
        simp only [st_n0, st_n1, st_n2, st_n3, List.set_cons_zero, List.set_cons_succ]
        refine Ex_iconst (v := nI 0) dX9_takesKey_52 (by rfl) ?_
        refine Ex_istore dX9_takesKey_53 (by decide) rfl ?_
        simp only [List.set_cons_zero, List.set_cons_succ]
        exact k9_takesKey d hM tb N hT hK p f hf hp w (by omega) L1 L0 h43 (p - f) 0 (by omega) (fun j hj => by omega)
set_option maxRecDepth 100000 in
set_option maxHeartbeats 4000000 in
theorem c9_takesKey {T : TC} {G : MG} (d : Nat) {A : MI} {M : Nat} {c cd wt te : Nat → Int32} {ky cs aa hd tk vl en : Int32} (hM : MSh T G M) (tb : Nat → Nat) (N : Nat) (hT : TpO A M tb N) (hK : KyO A M) (hc : c 12 = nI N) (p f : Nat) (hf : f ≤ p) (hp : p ≤ N)  : OkI T mX9_takesKey (d + 2) [.ref M] (PM A M c cd wt te ky cs aa hd (nI p) (nI f) tk vl en) G (fun r I' G' => ((tk = nI 1 ∧ ∃ w, kyF tb f (p - f) 3 0 = some w ∧ r = nI 1 ∧ I' = PM A M c cd wt te (nI w) cs aa hd (nI (gE tb N (gF tb N p))) (nI (gF tb N p)) (gT tb N (gF tb N p) en) (gV tb N (gF tb N p) vl) (gD tb N (gF tb N p) en)) ∨ (¬ (tk = nI 1 ∧ ¬ kyF tb f (p - f) 3 0 = none) ∧ r = nI 0 ∧ I' = PM A M c cd wt te ky cs aa hd (nI p) (nI f) tk vl en)) ∧ G' = G) := by
  refine Ok_of (own := RX9) (by decide) rfl (cat1 rfl) (Nat.le_of_ble_eq_true rfl) ?_
  show Ex T RX9 cX9_takesKey 5 (d + 2) _ 0 [some (.ref M), none, none, none, none] [] (PM A M c cd wt te ky cs aa hd (nI p) (nI f) tk vl en) G (0, 0)
  refine Ex_aload_n dX9_takesKey_0 rfl ?_
  refine Ex_geti dX9_takesKey_1 fX9_223 hM.1 ?_
  rw [qd15]
  refine Ex_iconst (v := nI 1) dX9_takesKey_4 (by rfl) ?_
  refine Ex_icmp_eq (tgt := 10) dX9_takesKey_5 (by decide) (fun h5 => ?_) (fun h5 => ?_)
  · refine Ex_iconst (v := nI 0) dX9_takesKey_10 (by rfl) ?_
    refine Ex_istore_n dX9_takesKey_11 (by decide) rfl ?_
    simp only [st_n0, st_n1, st_n2, st_n3, List.set_cons_zero, List.set_cons_succ]
    refine o9_takesKey d hM tb N hT hK p f hf hp (fun w hw x2 x3 x4 => ?_) (fun hw x1 x2 x3 x4 => ?_) 3 0 _ _ _ (by omega) rfl
    · skip
      refine Ex_aload_n dX9_takesKey_110 rfl ?_
      refine Ex_iload_n dX9_takesKey_111 rfl ?_
      refine Ex_puti dX9_takesKey_112 fX9_235 rfl rfl rfl hM.1 ?_
      rw [qw18]
      refine Ex_aload_n dX9_takesKey_115 rfl ?_
      refine Ex_V0v dX9_takesKey_116 sX9_238 hM.1 (Nat.le_of_ble_eq_true rfl) (c9_goP d hM tb N hT hc p hp) ?_
      rintro _ _ ⟨rfl, e2⟩
      subst e2
      refine Ex_iconst (v := nI 1) dX9_takesKey_119 (by rfl) ?_
      refine Ex_iret dX9_takesKey_120 (by first | rfl | exact narrow_bI) ?_
      exact ⟨_, rfl, Or.inl ⟨h5, w, hw, rfl, rfl⟩, rfl⟩
    · skip
      refine Ex_iconst (v := nI 0) dX9_takesKey_127 (by rfl) ?_
      refine Ex_iret dX9_takesKey_128 (by first | rfl | exact narrow_bI) ?_
      exact ⟨_, rfl, Or.inr ⟨fun z => z.2 hw, rfl, rfl⟩, rfl⟩
  · refine Ex_iconst (v := nI 0) dX9_takesKey_8 (by rfl) ?_
    refine Ex_iret dX9_takesKey_9 (by first | rfl | exact narrow_bI) ?_
    exact ⟨_, rfl, Or.inr ⟨fun z => h5 z.1, rfl, rfl⟩, rfl⟩
