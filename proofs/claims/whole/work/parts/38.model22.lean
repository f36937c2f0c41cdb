/-! takesPart -/
theorem TpO_3 {A : MI} {M : Nat} {tb : Nat → Nat} {N : Nat} {cd wt te : Nat → Int32} (h : TpO A M tb N) : TpO (ar3 A M cd wt te) M tb N := ⟨h.1, fun j hj => by
  unfold ar3
  rw [rowI_n (by omega), rowI_n (by omega), rowI_n (by omega)]
  exact h.2 j hj⟩
abbrev ptP (ky tk vl : Int32) (l : Nat) : Prop := tk = nI 2 ∨ (tk = nI 1 ∧ l = 1 ∧ ¬ nmI ky vl < 0)
def atI (ky tk vl : Int32) : Int32 := if tk = nI 2 then vl else nI 10000 + nmI ky vl
theorem c9_goP {T : TC} {G : MG} (d : Nat) {A : MI} {M : Nat} {c cd wt te : Nat → Int32} {ky cs aa hd fr tk vl en : Int32} (hM : MSh T G M) (tb : Nat → Nat) (N : Nat) (hT : TpO A M tb N) (hc : c 12 = nI N) (p : Nat) (hp : p ≤ N) : OkV T mX9_go (d + 1) [.ref M] (PM A M c cd wt te ky cs aa hd (nI p) fr tk vl en) G (fun I' G' => I' = PM A M c cd wt te ky cs aa hd (nI (gE tb N (gF tb N p))) (nI (gF tb N p)) (gT tb N (gF tb N p) en) (gV tb N (gF tb N p) vl) (gD tb N (gF tb N p) en) ∧ G' = G) := by
  have h := c9_go (I := A) (A := ar3 A M cd wt te) d hM tb N (TpO_3 hT) (pbU c ky cs aa hd) hc p hp fr tk vl en
  rw [goU_eq] at h
  exact h
set_option maxRecDepth 100000 in
set_option maxHeartbeats 4000000 in
theorem c9_takesPart {T : TC} {G : MG} (d : Nat) {A : MI} {M : Nat} {c cd wt te : Nat → Int32} {ky tk vl en : Int32} (hM : MSh T G M) (tb : Nat → Nat) (N : Nat) (hT : TpO A M tb N) (hc : c 12 = nI N) (p f a : Nat) (hf : f ≤ p) (hp : p ≤ N) (w q : List Int32) (hl : ptP ky tk vl (p - f) → w.length + q.length < 96) (hq : SR cd q) (hw : SR wt w)  : OkI T mX9_takesPart (d + 2) [.ref M] (PM A M c cd wt te ky (nI q.length) (nI a) (nI w.length) (nI p) (nI f) tk vl en) G (fun r I' G' => ((ptP ky tk vl (p - f) ∧ r = nI 1 ∧ ∃ cd' wt', I' = PM A M c cd' wt' te ky (nI (stl (nI 6) w (atI ky tk vl :: q)).2.length) (nI (a + 1)) (nI (stl (nI 6) w (atI ky tk vl :: q)).1.length) (nI (gE tb N (gF tb N p))) (nI (gF tb N p)) (gT tb N (gF tb N p) en) (gV tb N (gF tb N p) vl) (gD tb N (gF tb N p) en) ∧ SR cd' (stl (nI 6) w (atI ky tk vl :: q)).2 ∧ SR wt' (stl (nI 6) w (atI ky tk vl :: q)).1) ∨ (¬ ptP ky tk vl (p - f) ∧ r = nI 0 ∧ I' = PM A M c cd wt te ky (nI q.length) (nI a) (nI w.length) (nI p) (nI f) tk vl en)) ∧ G' = G) := by
  refine Ok_of (own := RX9) (by decide) rfl (cat1 rfl) (Nat.le_of_ble_eq_true rfl) ?_
  show Ex T RX9 cX9_takesPart 2 (d + 2) _ 0 [some (.ref M), none] [] (PM A M c cd wt te ky (nI q.length) (nI a) (nI w.length) (nI p) (nI f) tk vl en) G (0, 0)
  have h96 := hT.1
  refine Ex_aload_n dX9_takesPart_0 rfl ?_
  refine Ex_geti dX9_takesPart_1 fX9_223 hM.1 ?_
  rw [qd15]
  refine Ex_iconst (v := nI 1) dX9_takesPart_4 (by rfl) ?_
  refine Ex_icmp_ne (tgt := 36) dX9_takesPart_5 (by decide) (fun h5 => ?_) (fun h5 => ?_)
  · refine Ex_iconst (v := nI 0) dX9_takesPart_36 (by rfl) ?_
    refine Ex_istore_n dX9_takesPart_37 (by decide) rfl ?_
    simp only [st_n0, st_n1, st_n2, st_n3, List.set_cons_zero, List.set_cons_succ]
    refine Ex_aload_n dX9_takesPart_38 rfl ?_
    refine Ex_geti dX9_takesPart_39 fX9_223 hM.1 ?_
    rw [qd15]
    refine Ex_iconst (v := nI 2) dX9_takesPart_42 (by rfl) ?_
    refine Ex_icmp_eq (tgt := 52) dX9_takesPart_43 (by decide) (fun h43 => ?_) (fun h43 => ?_)
    · have hl := hl (Or.inl h43)
      refine Ex_aload_n dX9_takesPart_52 rfl ?_
      refine Ex_getr dX9_takesPart_53 fX9_48 hM.1 (mF21 hM).1 ?_
      refine Ex_aload_n dX9_takesPart_56 rfl ?_
      refine Ex_geti dX9_takesPart_57 fX9_247 hM.1 ?_
      rw [qd22]
      refine Ex_aload_n dX9_takesPart_60 rfl ?_
      refine Ex_geti dX9_takesPart_61 fX9_223 hM.1 ?_
      rw [qd15]
      refine Ex_iconst (v := nI 2) dX9_takesPart_64 (by rfl) ?_
      refine Ex_icmp_ne (tgt := 75) dX9_takesPart_65 (by decide) (fun h65 => ?_) (fun h65 => ?_)
      · exact absurd h43 h65
      · refine Ex_aload_n dX9_takesPart_68 rfl ?_
        refine Ex_geti dX9_takesPart_69 fX9_229 hM.1 ?_
        rw [qd16]
        refine Ex_goto (tgt := 87) dX9_takesPart_72 (by decide) ?_
        refine Ex_top (show _ = atI ky tk vl by unfold atI; rw [if_pos h43]) ?_
        refine Ex_iast dX9_takesPart_87 (mF21 hM).2.1 rfl (by rw [(mF21 hM).2.2]; omega) (by rw [(mF21 hM).2.2]; decide) ?_
        rw [qs13]
        refine Ex_aload_n dX9_takesPart_88 rfl ?_
        refine Ex_dup dX9_takesPart_89 rfl ?_
        refine Ex_geti dX9_takesPart_90 fX9_247 hM.1 ?_
        rw [qd22]
        refine Ex_iconst (v := nI 1) dX9_takesPart_93 (by rfl) ?_
        first | with_reducible refine Ex_iaddN dX9_takesPart_94 ?_ | refine Ex_iadd dX9_takesPart_94 ?_
        refine Ex_puti dX9_takesPart_95 fX9_247 rfl rfl rfl hM.1 ?_
        rw [qw22]
        refine Ex_aload_n dX9_takesPart_98 rfl ?_
        refine Ex_dup dX9_takesPart_99 rfl ?_
        refine Ex_geti dX9_takesPart_100 fX9_253 hM.1 ?_
        rw [qd23]
        refine Ex_iconst (v := nI 1) dX9_takesPart_103 (by rfl) ?_
        first | with_reducible refine Ex_iaddN dX9_takesPart_104 ?_ | refine Ex_iadd dX9_takesPart_104 ?_
        refine Ex_puti dX9_takesPart_105 fX9_253 rfl rfl rfl hM.1 ?_
        rw [qw23]
        refine Ex_aload_n dX9_takesPart_108 rfl ?_
        refine Ex_bipush (v := nI 6) dX9_takesPart_109 (by rfl) ?_
        refine Ex_V1v dX9_takesPart_111 sX9_256 hM.1 (Nat.le_of_ble_eq_true rfl) (c9_settle d hM (nI 6) w (atI ky tk vl :: q) _ wt (by simp only [List.length_cons]; omega) (SR_push hq) hw) ?_
        rintro _ _ ⟨⟨cd2, wt2, rfl, hq2, hw2⟩, rfl⟩
        refine Ex_aload_n dX9_takesPart_114 rfl ?_
        refine Ex_V0v dX9_takesPart_115 sX9_238 hM.1 (Nat.le_of_ble_eq_true rfl) (c9_goP d hM tb N hT hc p hp) ?_
        rintro _ _ ⟨rfl, rfl⟩
        refine Ex_iconst (v := nI 1) dX9_takesPart_118 (by rfl) ?_
        refine Ex_iret dX9_takesPart_119 (by first | rfl | exact narrow_bI) ?_
        exact ⟨_, rfl, Or.inl ⟨Or.inl h43, rfl, cd2, wt2, rfl, hq2, hw2⟩, rfl⟩
    · refine Ex_iload_n dX9_takesPart_46 rfl ?_
      refine Ex_if_ne (tgt := 52) dX9_takesPart_47 (by decide) (fun h47 => ?_) (fun h47 => ?_)
      · exact absurd rfl h47
      · refine Ex_iconst (v := nI 0) dX9_takesPart_50 (by rfl) ?_
        refine Ex_iret dX9_takesPart_51 (by first | rfl | exact narrow_bI) ?_
        have hnp : ¬ ptP ky tk vl (p - f) := fun q => q.elim h43 (fun q => h5 q.1)
        exact ⟨_, rfl, Or.inr ⟨hnp, rfl, rfl⟩, rfl⟩
  · refine Ex_aload_n dX9_takesPart_8 rfl ?_
    refine Ex_geti dX9_takesPart_9 fX9_214 hM.1 ?_
    rw [qd13]
    refine Ex_aload_n dX9_takesPart_12 rfl ?_
    refine Ex_geti dX9_takesPart_13 fX9_217 hM.1 ?_
    rw [qd14]
    refine Ex_isub dX9_takesPart_16 ?_
    refine Ex_top (pk_sub (by omega)) ?_
    refine Ex_iconst (v := nI 1) dX9_takesPart_17 (by rfl) ?_
    refine Ex_icmp_neN (by omega) (by omega) (tgt := 36) dX9_takesPart_18 (by decide) (fun h18 => ?_) (fun h18 => ?_)
    · refine Ex_iconst (v := nI 0) dX9_takesPart_36 (by rfl) ?_
      refine Ex_istore_n dX9_takesPart_37 (by decide) rfl ?_
      simp only [st_n0, st_n1, st_n2, st_n3, List.set_cons_zero, List.set_cons_succ]
      refine Ex_aload_n dX9_takesPart_38 rfl ?_
      refine Ex_geti dX9_takesPart_39 fX9_223 hM.1 ?_
      rw [qd15]
      refine Ex_iconst (v := nI 2) dX9_takesPart_42 (by rfl) ?_
      refine Ex_icmp_eq (tgt := 52) dX9_takesPart_43 (by decide) (fun h43 => ?_) (fun h43 => ?_)
      · have hl := hl (Or.inl h43)
        refine Ex_aload_n dX9_takesPart_52 rfl ?_
        refine Ex_getr dX9_takesPart_53 fX9_48 hM.1 (mF21 hM).1 ?_
        refine Ex_aload_n dX9_takesPart_56 rfl ?_
        refine Ex_geti dX9_takesPart_57 fX9_247 hM.1 ?_
        rw [qd22]
        refine Ex_aload_n dX9_takesPart_60 rfl ?_
        refine Ex_geti dX9_takesPart_61 fX9_223 hM.1 ?_
        rw [qd15]
        refine Ex_iconst (v := nI 2) dX9_takesPart_64 (by rfl) ?_
        refine Ex_icmp_ne (tgt := 75) dX9_takesPart_65 (by decide) (fun h65 => ?_) (fun h65 => ?_)
        · exact absurd h43 h65
        · refine Ex_aload_n dX9_takesPart_68 rfl ?_
          refine Ex_geti dX9_takesPart_69 fX9_229 hM.1 ?_
          rw [qd16]
          refine Ex_goto (tgt := 87) dX9_takesPart_72 (by decide) ?_
          refine Ex_top (show _ = atI ky tk vl by unfold atI; rw [if_pos h43]) ?_
          refine Ex_iast dX9_takesPart_87 (mF21 hM).2.1 rfl (by rw [(mF21 hM).2.2]; omega) (by rw [(mF21 hM).2.2]; decide) ?_
          rw [qs13]
          refine Ex_aload_n dX9_takesPart_88 rfl ?_
          refine Ex_dup dX9_takesPart_89 rfl ?_
          refine Ex_geti dX9_takesPart_90 fX9_247 hM.1 ?_
          rw [qd22]
          refine Ex_iconst (v := nI 1) dX9_takesPart_93 (by rfl) ?_
          first | with_reducible refine Ex_iaddN dX9_takesPart_94 ?_ | refine Ex_iadd dX9_takesPart_94 ?_
          refine Ex_puti dX9_takesPart_95 fX9_247 rfl rfl rfl hM.1 ?_
          rw [qw22]
          refine Ex_aload_n dX9_takesPart_98 rfl ?_
          refine Ex_dup dX9_takesPart_99 rfl ?_
          refine Ex_geti dX9_takesPart_100 fX9_253 hM.1 ?_
          rw [qd23]
          refine Ex_iconst (v := nI 1) dX9_takesPart_103 (by rfl) ?_
          first | with_reducible refine Ex_iaddN dX9_takesPart_104 ?_ | refine Ex_iadd dX9_takesPart_104 ?_
          refine Ex_puti dX9_takesPart_105 fX9_253 rfl rfl rfl hM.1 ?_
          rw [qw23]
          refine Ex_aload_n dX9_takesPart_108 rfl ?_
          refine Ex_bipush (v := nI 6) dX9_takesPart_109 (by rfl) ?_
          refine Ex_V1v dX9_takesPart_111 sX9_256 hM.1 (Nat.le_of_ble_eq_true rfl) (c9_settle d hM (nI 6) w (atI ky tk vl :: q) _ wt (by simp only [List.length_cons]; omega) (SR_push hq) hw) ?_
          rintro _ _ ⟨⟨cd2, wt2, rfl, hq2, hw2⟩, rfl⟩
          refine Ex_aload_n dX9_takesPart_114 rfl ?_
          refine Ex_V0v dX9_takesPart_115 sX9_238 hM.1 (Nat.le_of_ble_eq_true rfl) (c9_goP d hM tb N hT hc p hp) ?_
          rintro _ _ ⟨rfl, rfl⟩
          refine Ex_iconst (v := nI 1) dX9_takesPart_118 (by rfl) ?_
          refine Ex_iret dX9_takesPart_119 (by first | rfl | exact narrow_bI) ?_
          exact ⟨_, rfl, Or.inl ⟨Or.inl h43, rfl, cd2, wt2, rfl, hq2, hw2⟩, rfl⟩
      · refine Ex_iload_n dX9_takesPart_46 rfl ?_
        refine Ex_if_ne (tgt := 52) dX9_takesPart_47 (by decide) (fun h47 => ?_) (fun h47 => ?_)
        · exact absurd rfl h47
        · refine Ex_iconst (v := nI 0) dX9_takesPart_50 (by rfl) ?_
          refine Ex_iret dX9_takesPart_51 (by first | rfl | exact narrow_bI) ?_
          have hnp : ¬ ptP ky tk vl (p - f) := fun q => q.elim h43 (fun q => h18 q.2.1)
          exact ⟨_, rfl, Or.inr ⟨hnp, rfl, rfl⟩, rfl⟩
    · refine Ex_aload_n dX9_takesPart_21 rfl ?_
      refine Ex_aload_n dX9_takesPart_22 rfl ?_
      refine Ex_geti dX9_takesPart_23 fX9_229 hM.1 ?_
      rw [qd16]
      refine Ex_V1p dX9_takesPart_26 sX9_250 hM.1 (Nat.le_of_ble_eq_true rfl) (c9_nameOf (d + 1) hM _ ky qd18) ?_
      refine Ex_if_lt (tgt := 36) dX9_takesPart_29 (by decide) (fun h29 => ?_) (fun h29 => ?_)
      · refine Ex_iconst (v := nI 0) dX9_takesPart_36 (by rfl) ?_
        refine Ex_istore_n dX9_takesPart_37 (by decide) rfl ?_
        simp only [st_n0, st_n1, st_n2, st_n3, List.set_cons_zero, List.set_cons_succ]
        refine Ex_aload_n dX9_takesPart_38 rfl ?_
        refine Ex_geti dX9_takesPart_39 fX9_223 hM.1 ?_
        rw [qd15]
        refine Ex_iconst (v := nI 2) dX9_takesPart_42 (by rfl) ?_
        refine Ex_icmp_eq (tgt := 52) dX9_takesPart_43 (by decide) (fun h43 => ?_) (fun h43 => ?_)
        · have hl := hl (Or.inl h43)
          refine Ex_aload_n dX9_takesPart_52 rfl ?_
          refine Ex_getr dX9_takesPart_53 fX9_48 hM.1 (mF21 hM).1 ?_
          refine Ex_aload_n dX9_takesPart_56 rfl ?_
          refine Ex_geti dX9_takesPart_57 fX9_247 hM.1 ?_
          rw [qd22]
          refine Ex_aload_n dX9_takesPart_60 rfl ?_
          refine Ex_geti dX9_takesPart_61 fX9_223 hM.1 ?_
          rw [qd15]
          refine Ex_iconst (v := nI 2) dX9_takesPart_64 (by rfl) ?_
          refine Ex_icmp_ne (tgt := 75) dX9_takesPart_65 (by decide) (fun h65 => ?_) (fun h65 => ?_)
          · exact absurd h43 h65
          · refine Ex_aload_n dX9_takesPart_68 rfl ?_
            refine Ex_geti dX9_takesPart_69 fX9_229 hM.1 ?_
            rw [qd16]
            refine Ex_goto (tgt := 87) dX9_takesPart_72 (by decide) ?_
            refine Ex_top (show _ = atI ky tk vl by unfold atI; rw [if_pos h43]) ?_
            refine Ex_iast dX9_takesPart_87 (mF21 hM).2.1 rfl (by rw [(mF21 hM).2.2]; omega) (by rw [(mF21 hM).2.2]; decide) ?_
            rw [qs13]
            refine Ex_aload_n dX9_takesPart_88 rfl ?_
            refine Ex_dup dX9_takesPart_89 rfl ?_
            refine Ex_geti dX9_takesPart_90 fX9_247 hM.1 ?_
            rw [qd22]
            refine Ex_iconst (v := nI 1) dX9_takesPart_93 (by rfl) ?_
            first | with_reducible refine Ex_iaddN dX9_takesPart_94 ?_ | refine Ex_iadd dX9_takesPart_94 ?_
            refine Ex_puti dX9_takesPart_95 fX9_247 rfl rfl rfl hM.1 ?_
            rw [qw22]
            refine Ex_aload_n dX9_takesPart_98 rfl ?_
            refine Ex_dup dX9_takesPart_99 rfl ?_
            refine Ex_geti dX9_takesPart_100 fX9_253 hM.1 ?_
            rw [qd23]
            refine Ex_iconst (v := nI 1) dX9_takesPart_103 (by rfl) ?_
            first | with_reducible refine Ex_iaddN dX9_takesPart_104 ?_ | refine Ex_iadd dX9_takesPart_104 ?_
            refine Ex_puti dX9_takesPart_105 fX9_253 rfl rfl rfl hM.1 ?_
            rw [qw23]
            refine Ex_aload_n dX9_takesPart_108 rfl ?_
            refine Ex_bipush (v := nI 6) dX9_takesPart_109 (by rfl) ?_
            refine Ex_V1v dX9_takesPart_111 sX9_256 hM.1 (Nat.le_of_ble_eq_true rfl) (c9_settle d hM (nI 6) w (atI ky tk vl :: q) _ wt (by simp only [List.length_cons]; omega) (SR_push hq) hw) ?_
            rintro _ _ ⟨⟨cd2, wt2, rfl, hq2, hw2⟩, rfl⟩
            refine Ex_aload_n dX9_takesPart_114 rfl ?_
            refine Ex_V0v dX9_takesPart_115 sX9_238 hM.1 (Nat.le_of_ble_eq_true rfl) (c9_goP d hM tb N hT hc p hp) ?_
            rintro _ _ ⟨rfl, rfl⟩
            refine Ex_iconst (v := nI 1) dX9_takesPart_118 (by rfl) ?_
            refine Ex_iret dX9_takesPart_119 (by first | rfl | exact narrow_bI) ?_
            exact ⟨_, rfl, Or.inl ⟨Or.inl h43, rfl, cd2, wt2, rfl, hq2, hw2⟩, rfl⟩
        · refine Ex_iload_n dX9_takesPart_46 rfl ?_
          refine Ex_if_ne (tgt := 52) dX9_takesPart_47 (by decide) (fun h47 => ?_) (fun h47 => ?_)
          · exact absurd rfl h47
          · refine Ex_iconst (v := nI 0) dX9_takesPart_50 (by rfl) ?_
            refine Ex_iret dX9_takesPart_51 (by first | rfl | exact narrow_bI) ?_
            have hnp : ¬ ptP ky tk vl (p - f) := fun q => q.elim h43 (fun q => q.2.2 h29)
            exact ⟨_, rfl, Or.inr ⟨hnp, rfl, rfl⟩, rfl⟩
      · refine Ex_iconst (v := nI 1) dX9_takesPart_32 (by rfl) ?_
        refine Ex_goto (tgt := 37) dX9_takesPart_33 (by decide) ?_
        refine Ex_istore_n dX9_takesPart_37 (by decide) rfl ?_
        simp only [st_n0, st_n1, st_n2, st_n3, List.set_cons_zero, List.set_cons_succ]
        refine Ex_aload_n dX9_takesPart_38 rfl ?_
        refine Ex_geti dX9_takesPart_39 fX9_223 hM.1 ?_
        rw [qd15]
        refine Ex_iconst (v := nI 2) dX9_takesPart_42 (by rfl) ?_
        refine Ex_icmp_eq (tgt := 52) dX9_takesPart_43 (by decide) (fun h43 => ?_) (fun h43 => ?_)
        · have hl := hl (Or.inl h43)
          refine Ex_aload_n dX9_takesPart_52 rfl ?_
          refine Ex_getr dX9_takesPart_53 fX9_48 hM.1 (mF21 hM).1 ?_
          refine Ex_aload_n dX9_takesPart_56 rfl ?_
          refine Ex_geti dX9_takesPart_57 fX9_247 hM.1 ?_
          rw [qd22]
          refine Ex_aload_n dX9_takesPart_60 rfl ?_
          refine Ex_geti dX9_takesPart_61 fX9_223 hM.1 ?_
          rw [qd15]
          refine Ex_iconst (v := nI 2) dX9_takesPart_64 (by rfl) ?_
          refine Ex_icmp_ne (tgt := 75) dX9_takesPart_65 (by decide) (fun h65 => ?_) (fun h65 => ?_)
          · exact absurd h43 h65
          · refine Ex_aload_n dX9_takesPart_68 rfl ?_
            refine Ex_geti dX9_takesPart_69 fX9_229 hM.1 ?_
            rw [qd16]
            refine Ex_goto (tgt := 87) dX9_takesPart_72 (by decide) ?_
            refine Ex_top (show _ = atI ky tk vl by unfold atI; rw [if_pos h43]) ?_
            refine Ex_iast dX9_takesPart_87 (mF21 hM).2.1 rfl (by rw [(mF21 hM).2.2]; omega) (by rw [(mF21 hM).2.2]; decide) ?_
            rw [qs13]
            refine Ex_aload_n dX9_takesPart_88 rfl ?_
            refine Ex_dup dX9_takesPart_89 rfl ?_
            refine Ex_geti dX9_takesPart_90 fX9_247 hM.1 ?_
            rw [qd22]
            refine Ex_iconst (v := nI 1) dX9_takesPart_93 (by rfl) ?_
            first | with_reducible refine Ex_iaddN dX9_takesPart_94 ?_ | refine Ex_iadd dX9_takesPart_94 ?_
            refine Ex_puti dX9_takesPart_95 fX9_247 rfl rfl rfl hM.1 ?_
            rw [qw22]
            refine Ex_aload_n dX9_takesPart_98 rfl ?_
            refine Ex_dup dX9_takesPart_99 rfl ?_
            refine Ex_geti dX9_takesPart_100 fX9_253 hM.1 ?_
            rw [qd23]
            refine Ex_iconst (v := nI 1) dX9_takesPart_103 (by rfl) ?_
            first | with_reducible refine Ex_iaddN dX9_takesPart_104 ?_ | refine Ex_iadd dX9_takesPart_104 ?_
            refine Ex_puti dX9_takesPart_105 fX9_253 rfl rfl rfl hM.1 ?_
            rw [qw23]
            refine Ex_aload_n dX9_takesPart_108 rfl ?_
            refine Ex_bipush (v := nI 6) dX9_takesPart_109 (by rfl) ?_
            refine Ex_V1v dX9_takesPart_111 sX9_256 hM.1 (Nat.le_of_ble_eq_true rfl) (c9_settle d hM (nI 6) w (atI ky tk vl :: q) _ wt (by simp only [List.length_cons]; omega) (SR_push hq) hw) ?_
            rintro _ _ ⟨⟨cd2, wt2, rfl, hq2, hw2⟩, rfl⟩
            refine Ex_aload_n dX9_takesPart_114 rfl ?_
            refine Ex_V0v dX9_takesPart_115 sX9_238 hM.1 (Nat.le_of_ble_eq_true rfl) (c9_goP d hM tb N hT hc p hp) ?_
            rintro _ _ ⟨rfl, rfl⟩
            refine Ex_iconst (v := nI 1) dX9_takesPart_118 (by rfl) ?_
            refine Ex_iret dX9_takesPart_119 (by first | rfl | exact narrow_bI) ?_
            exact ⟨_, rfl, Or.inl ⟨Or.inl h43, rfl, cd2, wt2, rfl, hq2, hw2⟩, rfl⟩
        · refine Ex_iload_n dX9_takesPart_46 rfl ?_
          refine Ex_if_ne (tgt := 52) dX9_takesPart_47 (by decide) (fun h47 => ?_) (fun h47 => ?_)
          · have hl := hl (Or.inr ⟨h5, h18, h29⟩)
            refine Ex_aload_n dX9_takesPart_52 rfl ?_
            refine Ex_getr dX9_takesPart_53 fX9_48 hM.1 (mF21 hM).1 ?_
            refine Ex_aload_n dX9_takesPart_56 rfl ?_
            refine Ex_geti dX9_takesPart_57 fX9_247 hM.1 ?_
            rw [qd22]
            refine Ex_aload_n dX9_takesPart_60 rfl ?_
            refine Ex_geti dX9_takesPart_61 fX9_223 hM.1 ?_
            rw [qd15]
            refine Ex_iconst (v := nI 2) dX9_takesPart_64 (by rfl) ?_
            refine Ex_icmp_ne (tgt := 75) dX9_takesPart_65 (by decide) (fun h65 => ?_) (fun h65 => ?_)
            · refine Ex_sipush (v := nI 10000) dX9_takesPart_75 (by rfl) ?_
              refine Ex_aload_n dX9_takesPart_78 rfl ?_
              refine Ex_aload_n dX9_takesPart_79 rfl ?_
              refine Ex_geti dX9_takesPart_80 fX9_229 hM.1 ?_
              rw [qd16]
              refine Ex_V1p dX9_takesPart_83 sX9_250 hM.1 (Nat.le_of_ble_eq_true rfl) (c9_nameOf (d + 1) hM _ ky qd18) ?_
              first | with_reducible refine Ex_iaddN dX9_takesPart_86 ?_ | refine Ex_iadd dX9_takesPart_86 ?_
              refine Ex_top (show _ = atI ky tk vl by unfold atI; rw [if_neg h43]) ?_
              refine Ex_iast dX9_takesPart_87 (mF21 hM).2.1 rfl (by rw [(mF21 hM).2.2]; omega) (by rw [(mF21 hM).2.2]; decide) ?_
              rw [qs13]
              refine Ex_aload_n dX9_takesPart_88 rfl ?_
              refine Ex_dup dX9_takesPart_89 rfl ?_
              refine Ex_geti dX9_takesPart_90 fX9_247 hM.1 ?_
              rw [qd22]
              refine Ex_iconst (v := nI 1) dX9_takesPart_93 (by rfl) ?_
              first | with_reducible refine Ex_iaddN dX9_takesPart_94 ?_ | refine Ex_iadd dX9_takesPart_94 ?_
              refine Ex_puti dX9_takesPart_95 fX9_247 rfl rfl rfl hM.1 ?_
              rw [qw22]
              refine Ex_aload_n dX9_takesPart_98 rfl ?_
              refine Ex_dup dX9_takesPart_99 rfl ?_
              refine Ex_geti dX9_takesPart_100 fX9_253 hM.1 ?_
              rw [qd23]
              refine Ex_iconst (v := nI 1) dX9_takesPart_103 (by rfl) ?_
              first | with_reducible refine Ex_iaddN dX9_takesPart_104 ?_ | refine Ex_iadd dX9_takesPart_104 ?_
              refine Ex_puti dX9_takesPart_105 fX9_253 rfl rfl rfl hM.1 ?_
              rw [qw23]
              refine Ex_aload_n dX9_takesPart_108 rfl ?_
              refine Ex_bipush (v := nI 6) dX9_takesPart_109 (by rfl) ?_
              refine Ex_V1v dX9_takesPart_111 sX9_256 hM.1 (Nat.le_of_ble_eq_true rfl) (c9_settle d hM (nI 6) w (atI ky tk vl :: q) _ wt (by simp only [List.length_cons]; omega) (SR_push hq) hw) ?_
              rintro _ _ ⟨⟨cd2, wt2, rfl, hq2, hw2⟩, rfl⟩
              refine Ex_aload_n dX9_takesPart_114 rfl ?_
              refine Ex_V0v dX9_takesPart_115 sX9_238 hM.1 (Nat.le_of_ble_eq_true rfl) (c9_goP d hM tb N hT hc p hp) ?_
              rintro _ _ ⟨rfl, rfl⟩
              refine Ex_iconst (v := nI 1) dX9_takesPart_118 (by rfl) ?_
              refine Ex_iret dX9_takesPart_119 (by first | rfl | exact narrow_bI) ?_
              exact ⟨_, rfl, Or.inl ⟨Or.inr ⟨h5, h18, h29⟩, rfl, cd2, wt2, rfl, hq2, hw2⟩, rfl⟩
            · exact absurd h65 h43
          · exact absurd h47 (by decide)
