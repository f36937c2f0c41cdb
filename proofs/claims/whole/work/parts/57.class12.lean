/-! the class: sheets -/
def fnU {α : Type} (f : Nat → α) (k0 : Nat) (v : α) : Nat → α := fun k => if k = k0 then v else f k
theorem fnU_s {α : Type} {f : Nat → α} {k0 : Nat} {v : α} : fnU f k0 v k0 = v := if_pos rfl
theorem fnU_n {α : Type} {f : Nat → α} {k0 k : Nat} {v : α} (h : k ≠ k0) : fnU f k0 v k = f k := if_neg h
def PSh (D : Nat) : Nat → Prop := fun x => D + 82 ≤ x ∧ x < D + 90
theorem ShA.upd {I I' : MI} {D : Nat} {so : Nat → Int32} {sz : Nat → Nat} {ce : Nat → Nat → Int32} (h : ShA I D so sz ce) (k0 : Nat) (hk0 : k0 < 4) {so0 : Int32} {z0 : Nat} {f0 : Nat → Int32} (hR : ShR I' (D + 82 + 2 * k0) so0 z0 f0) (hs : so0 = (-1) ∨ so0 = nI 0 ∨ so0 = nI 1) (hb : BdR f0 24) (hF : Fr (P2 (D + 82 + 2 * k0)) I I') : ShA I' D (fnU so k0 so0) (fnU sz k0 z0) (fnU ce k0 f0) := by
  intro k hk
  by_cases e : k = k0
  · subst e
    rw [fnU_s, fnU_s, fnU_s]; exact ⟨hR, hs, hb⟩
  · rw [fnU_n e, fnU_n e, fnU_n e]
    obtain ⟨⟨h1, h2, h3, h4⟩, h5⟩ := h k hk
    have e0 : I' (D + 82 + 2 * k) = I (D + 82 + 2 * k) := hF _ (fun q => by unfold P2 at q; omega)
    have e1 : I' (D + 82 + 2 * k + 1) = I (D + 82 + 2 * k + 1) := hF _ (fun q => by unfold P2 at q; omega)
    exact ⟨⟨by rw [e0]; exact h1, by rw [e0]; exact h2, h3, fun j hj => by rw [e1]; exact h4 j hj⟩, h5⟩
theorem p2Sh {D k x : Nat} (hk : k < 4) (q : P2 (D + 82 + 2 * k) x) : PSh D x := by unfold P2 at q; exact ⟨by omega, by omega⟩
theorem m1_lt0 : (-1 : Int32) < 0 := by decide
theorem srt_c {x : Int32} (h1 : (-1) ≤ x) (h2 : x ≤ nI 1) : x = (-1) ∨ x = nI 0 ∨ x = nI 1 := by
  rw [i_le] at h1 h2
  have e1 : (-1 : Int32).toInt = -1 := rfl
  have e2 : (nI 1).toInt = 1 := rfl
  rcases (show x.toInt = -1 ∨ x.toInt = 0 ∨ x.toInt = 1 by omega) with h | h | h
  · exact Or.inl ((i_eq _ _).mpr h)
  · exact Or.inr (Or.inl ((i_eq _ _).mpr h))
  · exact Or.inr (Or.inr ((i_eq _ _).mpr h))
theorem Bd0 : BdR (fun _ => nI 0) 24 := fun _ _ => Or.inr (show -99999 ≤ (nI 0).toInt ∧ (nI 0).toInt ≤ 99999 by decide)
set_option maxRecDepth 100000 in
set_option maxHeartbeats 4000000 in
theorem C8_sheet {T : TC} {I : MI} {G : MG} (d : Nat) {D N : Nat} (hD : DS T G D N) {so : Nat → Int32} {sz : Nat → Nat} {ce : Nat → Nat → Int32} (hA : ShA I D so sz ce) (s sort n : Int32)  : OkI T mX8_sheet (d + 2) [.ref D, .int s, .int sort, .int n] I G (fun r I' G' => r = r_sheet s sort n ∧ (if mkP s sort n then ShA I' D (fnU so (cl s) sort) (fnU sz (cl s) (if sort < 0 then 0 else cl n)) (fnU ce (cl s) (fun _ => nI 0)) ∧ Fr (PSh D) I I' else I' = I) ∧ G' = G) := by
  refine Ok_of (own := RX8) (by decide) rfl (cat1 rfl) (Nat.le_of_ble_eq_true rfl) ?_
  show Ex T RX8 cX8_sheet 4 (d + 2) _ 0 [some (.ref D), some (.int s), some (.int sort), some (.int n)] [] I G (0, 0)
  refine Ex_iload_n dX8_sheet_0 rfl ?_
  refine Ex_iconst (v := nI 4) dX8_sheet_1 (by rfl) ?_
  refine Ex_S2p dX8_sheet_2 sX8_67  (Nat.le_of_ble_eq_true rfl) (c8_isBelow (d + 1) _ _) ?_
  refine Ex_if_eqB (tgt := 18) dX8_sheet_5 (by decide) (fun h5 => ?_) (fun h5 => ?_)
  · refine Ex_ldc dX8_sheet_18 kX8_71 ?_
    refine Ex_iret dX8_sheet_20 (by first | rfl | exact narrow_bI) ?_
    exact ⟨_, rfl, (by unfold r_sheet; rw [if_neg (fun q => h5 q.1)]), (by rw [if_neg (fun q => h5 q.1)]), rfl⟩
  · refine Ex_iload_n dX8_sheet_8 rfl ?_
    refine Ex_iconst (v := (-1)) dX8_sheet_9 (by rfl) ?_
    refine Ex_icmp_lt (tgt := 18) dX8_sheet_10 (by decide) (fun h10 => ?_) (fun h10 => ?_)
    · refine Ex_ldc dX8_sheet_18 kX8_71 ?_
      refine Ex_iret dX8_sheet_20 (by first | rfl | exact narrow_bI) ?_
      exact ⟨_, rfl, (by unfold r_sheet; rw [if_neg (fun q => absurd q.2.1.1 (Int32.not_le.mpr h10))]), (by rw [if_neg (fun q => absurd q.2.1.1 (Int32.not_le.mpr h10))]), rfl⟩
    · refine Ex_iload_n dX8_sheet_13 rfl ?_
      refine Ex_iconst (v := nI 1) dX8_sheet_14 (by rfl) ?_
      refine Ex_icmp_le (tgt := 21) dX8_sheet_15 (by decide) (fun h15 => ?_) (fun h15 => ?_)
      · refine Ex_iload_n dX8_sheet_21 rfl ?_
        refine Ex_iconst (v := (-1)) dX8_sheet_22 (by rfl) ?_
        refine Ex_icmp_ne (tgt := 39) dX8_sheet_23 (by decide) (fun h23 => ?_) (fun h23 => ?_)
        · refine Ex_iload_n dX8_sheet_39 rfl ?_
          refine Ex_bipush (v := nI 24) dX8_sheet_40 (by rfl) ?_
          refine Ex_icmp_le (tgt := 48) dX8_sheet_42 (by decide) (fun h42 => ?_) (fun h42 => ?_)
          · refine Ex_iload_n dX8_sheet_48 rfl ?_
            refine Ex_if_ge (tgt := 55) dX8_sheet_49 (by decide) (fun h49 => ?_) (fun h49 => ?_)
            · obtain ⟨s', hs', es⟩ := (rng_k (by omega)).mp h5
              subst es
              have ecs : cl (nI s') = s' := cl_nI (by omega)
              have hsh := hA s' hs'
              have hz := hsh.1.2.2.1
              refine Ex_aload_n dX8_sheet_55 rfl ?_
              refine Ex_getr dX8_sheet_56 fX8_51 (ds_o hD) (ds_sh hD) ?_
              refine Ex_iload_n dX8_sheet_59 rfl ?_
              refine Ex_aaldSh dX8_sheet_60 (ds_shI hD) rfl (by rw [ds_shN hD]; omega) (by rw [ds_shN hD]; decide) (ds_shk hD s' (by omega)) ?_
              refine Ex_iload_n dX8_sheet_61 rfl ?_
              refine Ex_iload_n dX8_sheet_62 rfl ?_
              refine Ex_V2v dX8_sheet_63 sX8_266 (ds_shS hD s' hs').1 (Nat.le_of_ble_eq_true rfl) (c3_begin d (ds_shS hD s' hs') _ _) ?_
              rintro _ _ ⟨rfl, rfl⟩
              have hF9 : Fr (P2 (D + 82 + 2 * s')) I (rowI (rowI I (D + 82 + 2 * s') (upd (upd (I (D + 82 + 2 * s')) 0 sort) 1 (n))) (D + 82 + 2 * s' + 1) (preF (fun _ => nI 0) (I (D + 82 + 2 * s' + 1)) 24)) := Fr.trans (Fr.row (Or.inl rfl)) (Fr.row (Or.inr rfl))
              refine Ex_iload_n dX8_sheet_66 rfl ?_
              refine Ex_iret dX8_sheet_67 (by first | rfl | exact narrow_bI) ?_
              have hs0 : 0 ≤ sort := by
                rcases srt_c (Int32.not_lt.mp h10) h15 with e | e | e
                · exact absurd e h23
                · rw [e]; decide
                · rw [e]; decide
              have c0 : ¬ (0 ≤ sort ∧ nI 24 < n) := fun q => absurd q.2 (Int32.not_lt.mpr h42)
              have c1 : ¬ (0 ≤ sort ∧ n < 0) := fun q => absurd q.2 (Int32.not_lt.mpr h49)
              have c2 : srtP sort := ⟨Int32.not_lt.mp h10, h15⟩
              have c3 : ¬ sort < 0 := Int32.not_lt.mpr hs0
              refine ⟨_, rfl, (by unfold r_sheet; rw [if_pos ⟨h5, c2, c0⟩, if_neg c1, if_neg c3]), ?_, rfl⟩
              rw [if_pos ⟨h5, c2, c0, c1⟩, ecs, if_neg c3]
              obtain ⟨n', hn', en⟩ := (rng_k2 (n := 24) (by omega)).mp ⟨h49, h42⟩
              have ecn : cl n = n' := by rw [en]; exact cl_nI (by omega)
              refine ⟨hA.upd s' hs' ⟨?_, ?_, by rw [ecn]; omega, fun k hk => ?_⟩ (srt_c (Int32.not_lt.mp h10) h15) Bd0 hF9, hF9.mono (fun x q => p2Sh hs' q)⟩
              · rw [rowI_n (by omega), rowI_s, upd_n (by omega), upd_s]
              · rw [rowI_n (by omega), rowI_s, upd_s, ecn]; exact en
              · rw [rowI_s]; exact if_pos hk
            · refine Ex_ldc dX8_sheet_52 kX8_207 ?_
              refine Ex_iret dX8_sheet_54 (by first | rfl | exact narrow_bI) ?_
              have hs0 : 0 ≤ sort := by
                rcases srt_c (Int32.not_lt.mp h10) h15 with e | e | e
                · exact absurd e h23
                · rw [e]; decide
                · rw [e]; decide
              exact ⟨_, rfl, (by unfold r_sheet; rw [if_pos ⟨h5, ⟨Int32.not_lt.mp h10, h15⟩, fun q => absurd q.2 (Int32.not_lt.mpr h42)⟩, if_pos ⟨hs0, Int32.not_le.mp h49⟩]), (by rw [if_neg (fun q => q.2.2.2 ⟨hs0, Int32.not_le.mp h49⟩)]), rfl⟩
          · refine Ex_ldc dX8_sheet_45 kX8_71 ?_
            refine Ex_iret dX8_sheet_47 (by first | rfl | exact narrow_bI) ?_
            have hs0 : 0 ≤ sort := by
              rcases srt_c (Int32.not_lt.mp h10) h15 with e | e | e
              · exact absurd e h23
              · rw [e]; decide
              · rw [e]; decide
            exact ⟨_, rfl, (by unfold r_sheet; rw [if_neg (fun q => q.2.2 ⟨hs0, Int32.not_le.mp h42⟩)]), (by rw [if_neg (fun q => q.2.2.1 ⟨hs0, Int32.not_le.mp h42⟩)]), rfl⟩
        · subst h23
          obtain ⟨s', hs', es⟩ := (rng_k (by omega)).mp h5
          subst es
          have ecs : cl (nI s') = s' := cl_nI (by omega)
          have hsh := hA s' hs'
          have hz := hsh.1.2.2.1
          refine Ex_aload_n dX8_sheet_26 rfl ?_
          refine Ex_getr dX8_sheet_27 fX8_51 (ds_o hD) (ds_sh hD) ?_
          refine Ex_iload_n dX8_sheet_30 rfl ?_
          refine Ex_aaldSh dX8_sheet_31 (ds_shI hD) rfl (by rw [ds_shN hD]; omega) (by rw [ds_shN hD]; decide) (ds_shk hD s' (by omega)) ?_
          refine Ex_iconst (v := (-1)) dX8_sheet_32 (by rfl) ?_
          refine Ex_iconst (v := nI 0) dX8_sheet_33 (by rfl) ?_
          refine Ex_V2v dX8_sheet_34 sX8_266 (ds_shS hD s' hs').1 (Nat.le_of_ble_eq_true rfl) (c3_begin d (ds_shS hD s' hs') _ _) ?_
          rintro _ _ ⟨rfl, rfl⟩
          have hF9 : Fr (P2 (D + 82 + 2 * s')) I (rowI (rowI I (D + 82 + 2 * s') (upd (upd (I (D + 82 + 2 * s')) 0 (-1)) 1 (nI 0))) (D + 82 + 2 * s' + 1) (preF (fun _ => nI 0) (I (D + 82 + 2 * s' + 1)) 24)) := Fr.trans (Fr.row (Or.inl rfl)) (Fr.row (Or.inr rfl))
          refine Ex_iconst (v := nI 0) dX8_sheet_37 (by rfl) ?_
          refine Ex_iret dX8_sheet_38 (by first | rfl | exact narrow_bI) ?_
          have c0 : ¬ (0 ≤ (-1 : Int32) ∧ nI 24 < n) := fun q => absurd q.1 (by decide)
          have c1 : ¬ (0 ≤ (-1 : Int32) ∧ n < 0) := fun q => absurd q.1 (by decide)
          have c2 : srtP (-1) := by decide
          refine ⟨_, rfl, (by unfold r_sheet; rw [if_pos ⟨h5, c2, c0⟩, if_neg c1, if_pos m1_lt0]), ?_, rfl⟩
          rw [if_pos ⟨h5, c2, c0, c1⟩, ecs, if_pos m1_lt0]
          refine ⟨hA.upd s' hs' ⟨?_, ?_, by omega, fun k hk => ?_⟩ (Or.inl rfl) Bd0 hF9, hF9.mono (fun x q => p2Sh hs' q)⟩
          · rw [rowI_n (by omega), rowI_s, upd_n (by omega), upd_s]
          · rw [rowI_n (by omega), rowI_s, upd_s]
          · rw [rowI_s]; exact if_pos hk
      · refine Ex_ldc dX8_sheet_18 kX8_71 ?_
        refine Ex_iret dX8_sheet_20 (by first | rfl | exact narrow_bI) ?_
        exact ⟨_, rfl, (by unfold r_sheet; rw [if_neg (fun q => h15 q.2.1.2)]), (by rw [if_neg (fun q => h15 q.2.1.2)]), rfl⟩
theorem Bd_upd {f : Nat → Int32} {p : Nat} {v : Int32} (h : BdR f 24) (hv : v = cNONE ∨ (-99999 ≤ v.toInt ∧ v.toInt ≤ 99999)) : BdR (upd f p v) 24 := by
  intro k hk
  by_cases e : k = p
  · rw [e, upd_s]; exact hv
  · rw [upd_n e]; exact h k hk
theorem i2s_b (v : Int32) : -99999 ≤ (v.toInt16.toInt32).toInt ∧ (v.toInt16.toInt32).toInt ≤ 99999 := by
  rw [Int16.toInt_toInt32]
  have h1 := Int16.le_toInt v.toInt16
  have h2 := Int16.toInt_lt v.toInt16
  omega
set_option maxRecDepth 100000 in
set_option maxHeartbeats 4000000 in
theorem C8_mark {T : TC} {I : MI} {G : MG} (d : Nat) {D N : Nat} (hD : DS T G D N) {so : Nat → Int32} {sz : Nat → Nat} {ce : Nat → Nat → Int32} (hA : ShA I D so sz ce) (s p v : Int32)  : OkI T mX8_mark (d + 1) [.ref D, .int s, .int p, .int v] I G (fun r I' G' => r = r_mark so sz s p v ∧ (if mrP so sz s p v then ShA I' D so sz (fnU ce (cl s) (upd (ce (cl s)) (cl p) (if so (cl s) = 0 then v.toInt16.toInt32 else v))) ∧ Fr (PSh D) I I' else I' = I) ∧ G' = G) := by
  refine Ok_of (own := RX8) (by decide) rfl (cat1 rfl) (Nat.le_of_ble_eq_true rfl) ?_
  show Ex T RX8 cX8_mark 5 (d + 1) _ 0 [some (.ref D), some (.int s), some (.int p), some (.int v), none] [] I G (0, 0)
  refine Ex_iload_n dX8_mark_0 rfl ?_
  refine Ex_iconst (v := nI 4) dX8_mark_1 (by rfl) ?_
  refine Ex_S2p dX8_mark_2 sX8_67  (Nat.le_of_ble_eq_true rfl) (c8_isBelow (d) _ _) ?_
  refine Ex_if_neB (tgt := 11) dX8_mark_5 (by decide) (fun h5 => ?_) (fun h5 => ?_)
  · obtain ⟨s', hs', es⟩ := (rng_k (by omega)).mp h5
    subst es
    have ecs : cl (nI s') = s' := cl_nI (by omega)
    have hsh := hA s' hs'
    have hz := hsh.1.2.2.1
    refine Ex_aload_n dX8_mark_11 rfl ?_
    refine Ex_getr dX8_mark_12 fX8_51 (ds_o hD) (ds_sh hD) ?_
    refine Ex_iload_n dX8_mark_15 rfl ?_
    refine Ex_aaldSh dX8_mark_16 (ds_shI hD) rfl (by rw [ds_shN hD]; omega) (by rw [ds_shN hD]; decide) (ds_shk hD s' (by omega)) ?_
    refine Ex_astore dX8_mark_17 (by decide) rfl ?_
    simp only [List.set_cons_zero, List.set_cons_succ]
    refine Ex_aload dX8_mark_19 rfl ?_
    refine Ex_geti dX8_mark_21 fX8_212 (ds_shS hD s' hs').1 ?_
    refine Ex_top hsh.1.1 ?_
    refine Ex_iconst (v := (-1)) dX8_mark_24 (by rfl) ?_
    refine Ex_icmp_ne (tgt := 31) dX8_mark_25 (by decide) (fun h25 => ?_) (fun h25 => ?_)
    · refine Ex_iload_n dX8_mark_31 rfl ?_
      refine Ex_aload dX8_mark_32 rfl ?_
      refine Ex_geti dX8_mark_34 fX8_182 (ds_shS hD s' hs').1 ?_
      refine Ex_top hsh.1.2.1 ?_
      refine Ex_S2p dX8_mark_37 sX8_67  (Nat.le_of_ble_eq_true rfl) (c8_isBelow (d) _ _) ?_
      refine Ex_if_neB (tgt := 47) dX8_mark_40 (by decide) (fun h40 => ?_) (fun h40 => ?_)
      · refine Ex_aload dX8_mark_47 rfl ?_
        refine Ex_geti dX8_mark_49 fX8_212 (ds_shS hD s' hs').1 ?_
        refine Ex_top hsh.1.1 ?_
        refine Ex_if_ne (tgt := 75) dX8_mark_52 (by decide) (fun h52 => ?_) (fun h52 => ?_)
        · refine Ex_iload_n dX8_mark_75 rfl ?_
          refine Ex_ldc dX8_mark_76 kX8_119 ?_
          refine Ex_icmp_eq (tgt := 98) dX8_mark_78 (by decide) (fun h78 => ?_) (fun h78 => ?_)
          · obtain ⟨p', hp', ep⟩ := (rng_k (by omega)).mp h40
            subst ep
            have ecp : cl (nI p') = p' := cl_nI (by omega)
            refine Ex_aload dX8_mark_98 rfl ?_
            refine Ex_getr dX8_mark_100 fX8_271 (ds_shS hD s' hs').1 (ds_shS hD s' hs').2.1 ?_
            refine Ex_iload_n dX8_mark_103 rfl ?_
            refine Ex_iload_n dX8_mark_104 rfl ?_
            refine Ex_iast dX8_mark_105 (ds_shS hD s' hs').2.2.1 rfl (by rw [(ds_shS hD s' hs').2.2.2]; omega) (by rw [(ds_shS hD s' hs').2.2.2]; decide) ?_
            refine Ex_iconst (v := nI 1) dX8_mark_106 (by rfl) ?_
            refine Ex_iret dX8_mark_107 (by first | rfl | exact narrow_bI) ?_
            have hn : ¬ so s' < 0 := (fun q => h25 ((so_neg hsh.2.1).mp q))
            have hbv : v = cNONE ∨ (-99999 ≤ v.toInt ∧ v.toInt ≤ 99999) := Or.inl h78
            have c2 : ¬ (so s' = nI 1 ∧ v ≠ cNONE ∧ ¬ flP v) := fun q => q.2.1 h78
            have c1 : ¬ (so s' = 0 ∧ v = cNONE) := fun q => h52 q.1
            refine ⟨_, rfl, (by unfold r_mark; rw [if_pos h5, ecs, if_neg hn, if_pos h40, if_neg c1, if_neg c2]), ?_, rfl⟩
            rw [if_pos (c := mrP so sz (nI s') (nI p') v) ⟨h5, by rw [ecs]; exact hn, by rw [ecs]; exact h40, by rw [ecs]; exact c1, by rw [ecs]; exact c2⟩, ecs, ecp, if_neg h52]
            refine ⟨?_, (Fr.refl.si (Or.inr rfl)).mono (fun x q => p2Sh hs' q)⟩
            have key := hA.upd (I' := setI I (D + 82 + 2 * s' + 1) p' (v)) s' hs' (so0 := so s') (z0 := sz s') (f0 := upd (ce s') p' (v)) ⟨by rw [setI_a (by omega)]; exact hsh.1.1, by rw [setI_a (by omega)]; exact hsh.1.2.1, hz, fun k hk => by
              by_cases e : k = p'
              · subst e; rw [setI_s, upd_s]
              · rw [setI_n (by omega), upd_n e]; exact hsh.1.2.2.2 k hk⟩ hsh.2.1 (Bd_upd hsh.2.2 hbv) (Fr.refl.si (Or.inr rfl))
            have e1 : fnU so s' (so s') = so := by funext k; by_cases e : k = s' <;> simp [fnU, e]
            have e2 : fnU sz s' (sz s') = sz := by funext k; by_cases e : k = s' <;> simp [fnU, e]
            rw [e1, e2] at key
            exact key
          · refine Ex_iload_n dX8_mark_81 rfl ?_
            refine Ex_ldc_w dX8_mark_82 kX8_274 ?_
            refine Ex_icmp_lt (tgt := 95) dX8_mark_85 (by decide) (fun h85 => ?_) (fun h85 => ?_)
            · refine Ex_ldc dX8_mark_95 kX8_71 ?_
              refine Ex_iret dX8_mark_97 (by first | rfl | exact narrow_bI) ?_
              have hn : ¬ so s' < 0 := (fun q => h25 ((so_neg hsh.2.1).mp q))
              have hs1 : so s' = nI 1 := by
                rcases hsh.2.1 with e | e | e
                · exact absurd e h25
                · exact absurd e h52
                · exact e
              have c2 : so s' = nI 1 ∧ v ≠ cNONE ∧ ¬ flP v := ⟨hs1, h78, (fun q => absurd q.1 (Int32.not_le.mpr h85))⟩
              exact ⟨_, rfl, (by unfold r_mark; rw [if_pos h5, ecs, if_neg hn, if_pos h40, if_neg (fun q => h52 q.1), if_pos c2]), (by rw [if_neg (fun q => q.2.2.2.2 (by rw [ecs]; exact c2))]), rfl⟩
            · refine Ex_iload_n dX8_mark_88 rfl ?_
              refine Ex_ldc_w dX8_mark_89 kX8_275 ?_
              refine Ex_icmp_le (tgt := 98) dX8_mark_92 (by decide) (fun h92 => ?_) (fun h92 => ?_)
              · obtain ⟨p', hp', ep⟩ := (rng_k (by omega)).mp h40
                subst ep
                have ecp : cl (nI p') = p' := cl_nI (by omega)
                refine Ex_aload dX8_mark_98 rfl ?_
                refine Ex_getr dX8_mark_100 fX8_271 (ds_shS hD s' hs').1 (ds_shS hD s' hs').2.1 ?_
                refine Ex_iload_n dX8_mark_103 rfl ?_
                refine Ex_iload_n dX8_mark_104 rfl ?_
                refine Ex_iast dX8_mark_105 (ds_shS hD s' hs').2.2.1 rfl (by rw [(ds_shS hD s' hs').2.2.2]; omega) (by rw [(ds_shS hD s' hs').2.2.2]; decide) ?_
                refine Ex_iconst (v := nI 1) dX8_mark_106 (by rfl) ?_
                refine Ex_iret dX8_mark_107 (by first | rfl | exact narrow_bI) ?_
                have hn : ¬ so s' < 0 := (fun q => h25 ((so_neg hsh.2.1).mp q))
                have hfl : flP v := ⟨Int32.not_lt.mp h85, h92⟩
                have hbv : v = cNONE ∨ (-99999 ≤ v.toInt ∧ v.toInt ≤ 99999) := Or.inr ⟨(i_le _ _).mp hfl.1, (i_le _ _).mp hfl.2⟩
                have c2 : ¬ (so s' = nI 1 ∧ v ≠ cNONE ∧ ¬ flP v) := fun q => q.2.2 hfl
                have c1 : ¬ (so s' = 0 ∧ v = cNONE) := fun q => h52 q.1
                refine ⟨_, rfl, (by unfold r_mark; rw [if_pos h5, ecs, if_neg hn, if_pos h40, if_neg c1, if_neg c2]), ?_, rfl⟩
                rw [if_pos (c := mrP so sz (nI s') (nI p') v) ⟨h5, by rw [ecs]; exact hn, by rw [ecs]; exact h40, by rw [ecs]; exact c1, by rw [ecs]; exact c2⟩, ecs, ecp, if_neg h52]
                refine ⟨?_, (Fr.refl.si (Or.inr rfl)).mono (fun x q => p2Sh hs' q)⟩
                have key := hA.upd (I' := setI I (D + 82 + 2 * s' + 1) p' (v)) s' hs' (so0 := so s') (z0 := sz s') (f0 := upd (ce s') p' (v)) ⟨by rw [setI_a (by omega)]; exact hsh.1.1, by rw [setI_a (by omega)]; exact hsh.1.2.1, hz, fun k hk => by
                  by_cases e : k = p'
                  · subst e; rw [setI_s, upd_s]
                  · rw [setI_n (by omega), upd_n e]; exact hsh.1.2.2.2 k hk⟩ hsh.2.1 (Bd_upd hsh.2.2 hbv) (Fr.refl.si (Or.inr rfl))
                have e1 : fnU so s' (so s') = so := by funext k; by_cases e : k = s' <;> simp [fnU, e]
                have e2 : fnU sz s' (sz s') = sz := by funext k; by_cases e : k = s' <;> simp [fnU, e]
                rw [e1, e2] at key
                exact key
              · refine Ex_ldc dX8_mark_95 kX8_71 ?_
                refine Ex_iret dX8_mark_97 (by first | rfl | exact narrow_bI) ?_
                have hn : ¬ so s' < 0 := (fun q => h25 ((so_neg hsh.2.1).mp q))
                have hs1 : so s' = nI 1 := by
                  rcases hsh.2.1 with e | e | e
                  · exact absurd e h25
                  · exact absurd e h52
                  · exact e
                have c2 : so s' = nI 1 ∧ v ≠ cNONE ∧ ¬ flP v := ⟨hs1, h78, (fun q => h92 q.2)⟩
                exact ⟨_, rfl, (by unfold r_mark; rw [if_pos h5, ecs, if_neg hn, if_pos h40, if_neg (fun q => h52 q.1), if_pos c2]), (by rw [if_neg (fun q => q.2.2.2.2 (by rw [ecs]; exact c2))]), rfl⟩
        · refine Ex_iload_n dX8_mark_55 rfl ?_
          refine Ex_ldc dX8_mark_56 kX8_119 ?_
          refine Ex_icmp_ne (tgt := 64) dX8_mark_58 (by decide) (fun h58 => ?_) (fun h58 => ?_)
          · obtain ⟨p', hp', ep⟩ := (rng_k (by omega)).mp h40
            subst ep
            have ecp : cl (nI p') = p' := cl_nI (by omega)
            refine Ex_aload dX8_mark_64 rfl ?_
            refine Ex_getr dX8_mark_66 fX8_271 (ds_shS hD s' hs').1 (ds_shS hD s' hs').2.1 ?_
            refine Ex_iload_n dX8_mark_69 rfl ?_
            refine Ex_iload_n dX8_mark_70 rfl ?_
            refine Ex_i2s dX8_mark_71 ?_
            refine Ex_iast dX8_mark_72 (ds_shS hD s' hs').2.2.1 rfl (by rw [(ds_shS hD s' hs').2.2.2]; omega) (by rw [(ds_shS hD s' hs').2.2.2]; decide) ?_
            refine Ex_iconst (v := nI 1) dX8_mark_73 (by rfl) ?_
            refine Ex_iret dX8_mark_74 (by first | rfl | exact narrow_bI) ?_
            have hn : ¬ so s' < 0 := (fun q => h25 ((so_neg hsh.2.1).mp q))
            have c1 : ¬ (so s' = 0 ∧ v = cNONE) := fun q => h58 q.2
            have c2 : ¬ (so s' = nI 1 ∧ v ≠ cNONE ∧ ¬ flP v) := fun q => absurd (h52.symm.trans q.1) (by decide)
            have hbv : v.toInt16.toInt32 = cNONE ∨ (-99999 ≤ (v.toInt16.toInt32).toInt ∧ (v.toInt16.toInt32).toInt ≤ 99999) := Or.inr (i2s_b v)
            refine ⟨_, rfl, (by unfold r_mark; rw [if_pos h5, ecs, if_neg hn, if_pos h40, if_neg c1, if_neg c2]), ?_, rfl⟩
            rw [if_pos (c := mrP so sz (nI s') (nI p') v) ⟨h5, by rw [ecs]; exact hn, by rw [ecs]; exact h40, by rw [ecs]; exact c1, by rw [ecs]; exact c2⟩, ecs, ecp, if_pos h52]
            refine ⟨?_, (Fr.refl.si (Or.inr rfl)).mono (fun x q => p2Sh hs' q)⟩
            have key := hA.upd (I' := setI I (D + 82 + 2 * s' + 1) p' (v.toInt16.toInt32)) s' hs' (so0 := so s') (z0 := sz s') (f0 := upd (ce s') p' (v.toInt16.toInt32)) ⟨by rw [setI_a (by omega)]; exact hsh.1.1, by rw [setI_a (by omega)]; exact hsh.1.2.1, hz, fun k hk => by
              by_cases e : k = p'
              · subst e; rw [setI_s, upd_s]
              · rw [setI_n (by omega), upd_n e]; exact hsh.1.2.2.2 k hk⟩ hsh.2.1 (Bd_upd hsh.2.2 hbv) (Fr.refl.si (Or.inr rfl))
            have e1 : fnU so s' (so s') = so := by funext k; by_cases e : k = s' <;> simp [fnU, e]
            have e2 : fnU sz s' (sz s') = sz := by funext k; by_cases e : k = s' <;> simp [fnU, e]
            rw [e1, e2] at key
            exact key
          · refine Ex_ldc dX8_mark_61 kX8_123 ?_
            refine Ex_iret dX8_mark_63 (by first | rfl | exact narrow_bI) ?_
            have hn : ¬ so s' < 0 := (fun q => h25 ((so_neg hsh.2.1).mp q))
            exact ⟨_, rfl, (by unfold r_mark; rw [if_pos h5, ecs, if_neg hn, if_pos h40, if_pos ⟨h52, h58⟩]), (by rw [if_neg (fun q => q.2.2.2.1 (by rw [ecs]; exact ⟨h52, h58⟩))]), rfl⟩
      · refine Ex_ldc_w dX8_mark_43 kX8_270 ?_
        refine Ex_iret dX8_mark_46 (by first | rfl | exact narrow_bI) ?_
        have hn : ¬ so s' < 0 := (fun q => h25 ((so_neg hsh.2.1).mp q))
        exact ⟨_, rfl, (by unfold r_mark; rw [if_pos h5, ecs, if_neg hn, if_neg h40]), (by rw [if_neg (fun q => h40 (by have := q.2.2.1; rw [ecs] at this; exact this))]), rfl⟩
    · refine Ex_ldc dX8_mark_28 kX8_215 ?_
      refine Ex_iret dX8_mark_30 (by first | rfl | exact narrow_bI) ?_
      have hn := (so_neg hsh.2.1).mpr h25
      exact ⟨_, rfl, (by unfold r_mark; rw [if_pos h5, ecs, if_pos hn]), (by rw [if_neg (fun q => q.2.1 (by rw [ecs]; exact hn))]), rfl⟩
  · refine Ex_ldc dX8_mark_8 kX8_71 ?_
    refine Ex_iret dX8_mark_10 (by first | rfl | exact narrow_bI) ?_
    exact ⟨_, rfl, (by unfold r_mark; rw [if_neg h5]), (by rw [if_neg (fun q => h5 q.1)]), rfl⟩
set_option maxRecDepth 100000 in
set_option maxHeartbeats 4000000 in
theorem C8_copy {T : TC} {I : MI} {G : MG} (d : Nat) {D N : Nat} (hD : DS T G D N) {so : Nat → Int32} {sz : Nat → Nat} {ce : Nat → Nat → Int32} (hA : ShA I D so sz ce) (f p t a m : Int32)  : OkI T mX8_copy (d + 1) [.ref D, .int f, .int p, .int t, .int a, .int m] I G (fun r I' G' => r = r_copy so sz f p t a m ∧ (if cpP so sz f p t a m then ShA I' D so sz (fnU ce (cl t) (fun k => if cl a ≤ k ∧ k < cl a + cl m then ce (cl f) (cl p + (k - cl a)) else ce (cl t) k)) ∧ Fr (PSh D) I I' else I' = I) ∧ G' = G) := by
  refine Ok_of (own := RX8) (by decide) rfl (cat1 rfl) (Nat.le_of_ble_eq_true rfl) ?_
  show Ex T RX8 cX8_copy 8 (d + 1) _ 0 [some (.ref D), some (.int f), some (.int p), some (.int t), some (.int a), some (.int m), none, none] [] I G (0, 0)
  refine Ex_iload_n dX8_copy_0 rfl ?_
  refine Ex_iconst (v := nI 4) dX8_copy_1 (by rfl) ?_
  refine Ex_S2p dX8_copy_2 sX8_67  (Nat.le_of_ble_eq_true rfl) (c8_isBelow (d) _ _) ?_
  refine Ex_if_eqB (tgt := 16) dX8_copy_5 (by decide) (fun h5 => ?_) (fun h5 => ?_)
  · refine Ex_ldc dX8_copy_16 kX8_71 ?_
    refine Ex_iret dX8_copy_18 (by first | rfl | exact narrow_bI) ?_
    exact ⟨_, rfl, (by unfold r_copy; rw [if_neg (fun q => h5 q.1)]), (by rw [if_neg (fun q => h5 q.1.1)]), rfl⟩
  · refine Ex_iload_n dX8_copy_8 rfl ?_
    refine Ex_iconst (v := nI 4) dX8_copy_9 (by rfl) ?_
    refine Ex_S2p dX8_copy_10 sX8_67  (Nat.le_of_ble_eq_true rfl) (c8_isBelow (d) _ _) ?_
    refine Ex_if_neB (tgt := 19) dX8_copy_13 (by decide) (fun h13 => ?_) (fun h13 => ?_)
    · obtain ⟨f', hf', ef⟩ := (rng_k (by omega)).mp h5
      obtain ⟨t', ht', et⟩ := (rng_k (by omega)).mp h13
      subst ef
      subst et
      have ecf : cl (nI f') = f' := cl_nI (by omega)
      have ect : cl (nI t') = t' := cl_nI (by omega)
      have hsf := hA f' hf'
      have hst := hA t' ht'
      have hzf := hsf.1.2.2.1
      have hzt := hst.1.2.2.1
      refine Ex_aload_n dX8_copy_19 rfl ?_
      refine Ex_getr dX8_copy_20 fX8_51 (ds_o hD) (ds_sh hD) ?_
      refine Ex_iload_n dX8_copy_23 rfl ?_
      refine Ex_aaldSh dX8_copy_24 (ds_shI hD) rfl (by rw [ds_shN hD]; omega) (by rw [ds_shN hD]; decide) (ds_shk hD f' (by omega)) ?_
      refine Ex_astore dX8_copy_25 (by decide) rfl ?_
      simp only [List.set_cons_zero, List.set_cons_succ]
      refine Ex_aload_n dX8_copy_27 rfl ?_
      refine Ex_getr dX8_copy_28 fX8_51 (ds_o hD) (ds_sh hD) ?_
      refine Ex_iload_n dX8_copy_31 rfl ?_
      refine Ex_aaldSh dX8_copy_32 (ds_shI hD) rfl (by rw [ds_shN hD]; omega) (by rw [ds_shN hD]; decide) (ds_shk hD t' (by omega)) ?_
      refine Ex_astore dX8_copy_33 (by decide) rfl ?_
      simp only [List.set_cons_zero, List.set_cons_succ]
      refine Ex_aload dX8_copy_35 rfl ?_
      refine Ex_geti dX8_copy_37 fX8_212 (ds_shS hD f' hf').1 ?_
      refine Ex_top hsf.1.1 ?_
      refine Ex_iconst (v := (-1)) dX8_copy_40 (by rfl) ?_
      refine Ex_icmp_eq (tgt := 53) dX8_copy_41 (by decide) (fun h41 => ?_) (fun h41 => ?_)
      · refine Ex_ldc dX8_copy_53 kX8_215 ?_
        refine Ex_iret dX8_copy_55 (by first | rfl | exact narrow_bI) ?_
        have hn : so f' < 0 ∨ so t' < 0 := Or.inl ((so_neg hsf.2.1).mpr h41)
        exact ⟨_, rfl, (by unfold r_copy; rw [if_pos ⟨h5, h13⟩, ecf, ect, if_pos hn]), (by rw [if_neg (fun q => q.2.1 (by rw [ecf, ect]; exact hn))]), rfl⟩
      · refine Ex_aload dX8_copy_44 rfl ?_
        refine Ex_geti dX8_copy_46 fX8_212 (ds_shS hD t' ht').1 ?_
        refine Ex_top hst.1.1 ?_
        refine Ex_iconst (v := (-1)) dX8_copy_49 (by rfl) ?_
        refine Ex_icmp_ne (tgt := 56) dX8_copy_50 (by decide) (fun h50 => ?_) (fun h50 => ?_)
        · refine Ex_aload dX8_copy_56 rfl ?_
          refine Ex_geti dX8_copy_58 fX8_212 (ds_shS hD f' hf').1 ?_
          refine Ex_top hsf.1.1 ?_
          refine Ex_aload dX8_copy_61 rfl ?_
          refine Ex_geti dX8_copy_63 fX8_212 (ds_shS hD t' ht').1 ?_
          refine Ex_top hst.1.1 ?_
          refine Ex_icmp_eq (tgt := 72) dX8_copy_66 (by decide) (fun h66 => ?_) (fun h66 => ?_)
          · refine Ex_aload dX8_copy_72 rfl ?_
            refine Ex_iload_n dX8_copy_74 rfl ?_
            refine Ex_iload dX8_copy_75 rfl ?_
            refine Ex_V2p dX8_copy_77 sX8_285 (ds_shS hD f' hf').1 (Nat.le_of_ble_eq_true rfl) (c3_hasPlaces d (ds_shS hD f' hf') _ _ (sz f') hsf.1.2.1 hzf) ?_
            refine Ex_if_eqB (tgt := 95) dX8_copy_80 (by decide) (fun h80 => ?_) (fun h80 => ?_)
            · refine Ex_ldc_w dX8_copy_95 kX8_270 ?_
              refine Ex_iret dX8_copy_98 (by first | rfl | exact narrow_bI) ?_
              have hn : ¬ (so f' < 0 ∨ so t' < 0) := fun q => q.elim (fun w => h41 ((so_neg hsf.2.1).mp w)) (fun w => h50 ((so_neg hst.2.1).mp w))
              have hc : ¬ cpOk (sz f') (sz t') p a m := fun q => h80 ⟨q.1, q.2.2.1, q.2.2.2.1⟩
              exact ⟨_, rfl, (by unfold r_copy; rw [if_pos ⟨h5, h13⟩, ecf, ect, if_neg hn, if_pos h66, if_neg hc]), (by rw [if_neg (fun q => hc (by have := q.2.2.2; rw [ecf, ect] at this; exact this))]), rfl⟩
            · refine Ex_aload dX8_copy_83 rfl ?_
              refine Ex_iload dX8_copy_85 rfl ?_
              refine Ex_iload dX8_copy_87 rfl ?_
              refine Ex_V2p dX8_copy_89 sX8_285 (ds_shS hD t' ht').1 (Nat.le_of_ble_eq_true rfl) (c3_hasPlaces d (ds_shS hD t' ht') _ _ (sz t') hst.1.2.1 hzt) ?_
              refine Ex_if_neB (tgt := 99) dX8_copy_92 (by decide) (fun h92 => ?_) (fun h92 => ?_)
              · obtain ⟨p', hp', ep⟩ := nI_of (x := p) (fun q => by rw [i_lt] at q; have := iz_0; have := h80.1; omega)
                obtain ⟨a', ha', ea⟩ := nI_of (x := a) (fun q => by rw [i_lt] at q; have := iz_0; have := h92.1; omega)
                obtain ⟨m', hm', em⟩ := nI_of (x := m) (fun q => by rw [i_lt] at q; have := iz_0; have := h80.2.1; omega)
                have hpm : p' + m' ≤ sz f' := by have := h80.2.2; rw [ep, em, nI_toInt hp', nI_toInt hm'] at this; omega
                have ham : a' + m' ≤ sz t' := by have := h92.2.2; rw [ea, em, nI_toInt ha', nI_toInt hm'] at this; omega
                refine Ex_aload dX8_copy_99 rfl ?_
                refine Ex_getr dX8_copy_101 fX8_271 (ds_shS hD f' hf').1 (ds_shS hD f' hf').2.1 ?_
                refine Ex_iload_n dX8_copy_104 rfl ?_
                refine Ex_aload dX8_copy_105 rfl ?_
                refine Ex_getr dX8_copy_107 fX8_271 (ds_shS hD t' ht').1 (ds_shS hD t' ht').2.1 ?_
                refine Ex_iload dX8_copy_110 rfl ?_
                refine Ex_iload dX8_copy_112 rfl ?_
                refine Ex_copy dX8_copy_114 sX8_288 (Nat.le_of_ble_eq_true rfl) (ds_shS hD f' hf').2.2.1 (ds_shS hD t' ht').2.2.1 ep ea em (by rw [(ds_shS hD f' hf').2.2.2]; omega) (by rw [(ds_shS hD t' ht').2.2.2]; omega) (by rw [(ds_shS hD f' hf').2.2.2]; decide) (by rw [(ds_shS hD t' ht').2.2.2]; decide) ?_
                refine Ex_iload dX8_copy_117 rfl ?_
                refine Ex_top em ?_
                refine Ex_iret dX8_copy_119 (by first | rfl | exact narrow_bI) ?_
                have hn : ¬ (so f' < 0 ∨ so t' < 0) := fun q => q.elim (fun w => h41 ((so_neg hsf.2.1).mp w)) (fun w => h50 ((so_neg hst.2.1).mp w))
                have hc : cpOk (sz f') (sz t') p a m := ⟨h80.1, h92.1, h80.2.1, h80.2.2, h92.2.2⟩
                refine ⟨_, rfl, (by unfold r_copy; rw [if_pos ⟨h5, h13⟩, ecf, ect, if_neg hn, if_pos h66, if_pos hc, em]), ?_, rfl⟩
                rw [if_pos (c := cpP so sz (nI f') p (nI t') a m) ⟨⟨h5, h13⟩, by rw [ecf, ect]; exact hn, by rw [ecf, ect]; exact h66, by rw [ecf, ect]; exact hc⟩, ecf, ect, ep, ea, em, show cl (nI p') = p' from cl_nI (by omega), show cl (nI a') = a' from cl_nI (by omega), show cl (nI m') = m' from cl_nI (by omega)]
                have hF9 : Fr (P2 (D + 82 + 2 * t')) I (cpyI I (D + 82 + 2 * f' + 1) (D + 82 + 2 * t' + 1) p' a' m') := Fr.refl.cp (Or.inr rfl)
                refine ⟨?_, hF9.mono (fun x q => p2Sh ht' q)⟩
                have key := hA.upd t' ht' (so0 := so t') (z0 := sz t') (f0 := fun k => if a' ≤ k ∧ k < a' + m' then ce f' (p' + (k - a')) else ce t' k) ⟨by rw [cpyI_n (by omega)]; exact hst.1.1, by rw [cpyI_n (by omega)]; exact hst.1.2.1, hst.1.2.2.1, fun k hk => by
                  rw [cpyI_s]
                  by_cases e : a' ≤ k ∧ k < a' + m'
                  · simp only [if_pos e]; rw [pk_cpy_in e.1 e.2]; exact hsf.1.2.2.2 _ (by omega)
                  · simp only [if_neg e]; rw [pk_cpy_out (by omega)]; exact hst.1.2.2.2 k hk⟩ hst.2.1 (fun k hk => by
                    by_cases e : a' ≤ k ∧ k < a' + m'
                    · simp only [if_pos e]; exact hsf.2.2 _ (by omega)
                    · simp only [if_neg e]; exact hst.2.2 k hk) hF9
                have e1 : fnU so t' (so t') = so := by funext k; by_cases e : k = t' <;> simp [fnU, e]
                have e2 : fnU sz t' (sz t') = sz := by funext k; by_cases e : k = t' <;> simp [fnU, e]
                rw [e1, e2] at key
                exact key
              · refine Ex_ldc_w dX8_copy_95 kX8_270 ?_
                refine Ex_iret dX8_copy_98 (by first | rfl | exact narrow_bI) ?_
                have hn : ¬ (so f' < 0 ∨ so t' < 0) := fun q => q.elim (fun w => h41 ((so_neg hsf.2.1).mp w)) (fun w => h50 ((so_neg hst.2.1).mp w))
                have hc : ¬ cpOk (sz f') (sz t') p a m := fun q => h92 ⟨q.2.1, q.2.2.1, q.2.2.2.2⟩
                exact ⟨_, rfl, (by unfold r_copy; rw [if_pos ⟨h5, h13⟩, ecf, ect, if_neg hn, if_pos h66, if_neg hc]), (by rw [if_neg (fun q => hc (by have := q.2.2.2; rw [ecf, ect] at this; exact this))]), rfl⟩
          · refine Ex_ldc dX8_copy_69 kX8_123 ?_
            refine Ex_iret dX8_copy_71 (by first | rfl | exact narrow_bI) ?_
            have hn : ¬ (so f' < 0 ∨ so t' < 0) := fun q => q.elim (fun w => h41 ((so_neg hsf.2.1).mp w)) (fun w => h50 ((so_neg hst.2.1).mp w))
            exact ⟨_, rfl, (by unfold r_copy; rw [if_pos ⟨h5, h13⟩, ecf, ect, if_neg hn, if_neg h66]), (by rw [if_neg (fun q => h66 (by have := q.2.2.1; rw [ecf, ect] at this; exact this))]), rfl⟩
        · refine Ex_ldc dX8_copy_53 kX8_215 ?_
          refine Ex_iret dX8_copy_55 (by first | rfl | exact narrow_bI) ?_
          have hn : so f' < 0 ∨ so t' < 0 := Or.inr ((so_neg hst.2.1).mpr h50)
          exact ⟨_, rfl, (by unfold r_copy; rw [if_pos ⟨h5, h13⟩, ecf, ect, if_pos hn]), (by rw [if_neg (fun q => q.2.1 (by rw [ecf, ect]; exact hn))]), rfl⟩
    · refine Ex_ldc dX8_copy_16 kX8_71 ?_
      refine Ex_iret dX8_copy_18 (by first | rfl | exact narrow_bI) ?_
      exact ⟨_, rfl, (by unfold r_copy; rw [if_neg (fun q => h13 q.2)]), (by rw [if_neg (fun q => h13 q.1.2)]), rfl⟩
set_option maxRecDepth 100000 in
set_option maxHeartbeats 4000000 in
theorem l8_reads {T : TC} {I : MI} {G : MG} {bb : Nat × Nat} (d : Nat) {D N : Nat} {g : Nat → Int32} (hD : DS T G D N) (hH : Hl T I G (D + 2) (D + 1) N g) {so : Nat → Int32} {sz : Nat → Nat} {ce : Nat → Nat → Int32} (hA : ShA I D so sz ce) (s' : Nat) (hs' : s' < 4) (x2 : Int32) : ∀ i k, k + i = sz s' → fsI (rdP g (ce s')) i k = fsI (rdP g (ce s')) (sz s') 0 → Ex T RX8 cX8_reads 5 (d + 2) (fm T "reads" (some .int) (fun v I' G' => ∃ r, v = some (.int r) ∧ r = fsI (rdP g (ce s')) (sz s') 0 ∧ I' = I ∧ G' = G)) 22 [some (.ref D), some (.int (nI s')), some (.int x2), some (.ref (D + 82 + 2 * s')), some (.int (nI k))] [] I G bb := by
  have hS := hH.1
  have hn8 := hH.n8
  have hsh := hA s' hs'
  have hz := hsh.1.2.2.1
  intro i
  induction i with
  | zero =>
    intro k h0 hk
    have e0 : k = sz s' := by omega
    refine Ex_iload dX8_reads_22 rfl ?_
    refine Ex_aload_n dX8_reads_24 rfl ?_
    refine Ex_geti dX8_reads_25 fX8_182 (ds_shS hD s' hs').1 ?_
    refine Ex_top hsh.1.2.1 ?_
    refine Ex_icmp_geN (by omega) (by omega) (tgt := 81) dX8_reads_28 (by decide) (fun h28 => ?_) (fun h28 => ?_)
    · refine Ex_ldc dX8_reads_81 kX8_119 ?_
      refine Ex_iret dX8_reads_83 (by first | rfl | exact narrow_bI) ?_
      exact ⟨_, rfl, hk, rfl, rfl⟩
    · omega
  | succ i ih =>
    intro k h0 hk
    have hk2 : (if rdP g (ce s') k = true then nI k else fsI (rdP g (ce s')) i (k + 1)) = fsI (rdP g (ce s')) (sz s') 0 := hk
    have hrd : rdP g (ce s') k = decide (¬ ce s' k = cNONE ∧ (¬ k < nS g ∨ ¬ ce s' k = g (8 + 17 * k + 2))) := rfl
    refine Ex_iload dX8_reads_22 rfl ?_
    refine Ex_aload_n dX8_reads_24 rfl ?_
    refine Ex_geti dX8_reads_25 fX8_182 (ds_shS hD s' hs').1 ?_
    refine Ex_top hsh.1.2.1 ?_
    refine Ex_icmp_geN (by omega) (by omega) (tgt := 81) dX8_reads_28 (by decide) (fun h28 => ?_) (fun h28 => ?_)
    · omega
    · refine Ex_aload_n dX8_reads_31 rfl ?_
      refine Ex_iload dX8_reads_32 rfl ?_
      refine Ex_V1p dX8_reads_34 sX8_279 (ds_shS hD s' hs').1 (Nat.le_of_ble_eq_true rfl) (c3_isNumber (d + 1) (ds_shS hD s' hs') k (by omega)) ?_
      refine Ex_top (show _ = bI (¬ ce s' k = cNONE) by rw [hsh.1.2.2.2 k (by omega)]) ?_
      refine Ex_if_eqB (tgt := 75) dX8_reads_37 (by decide) (fun h37 => ?_) (fun h37 => ?_)
      · first | refine Ex_iincN (m := 1) dX8_reads_75 rfl rfl (by decide) rfl ?_ | refine Ex_iinc dX8_reads_75 rfl rfl (by decide) rfl ?_
        simp only [List.set_cons_zero, List.set_cons_succ]
        refine Ex_goto (tgt := 22) dX8_reads_78 (by decide) ?_
        have hno : ¬ rdP g (ce s') k = true := fun w => (fun q => h37 q.1 : ¬ (¬ ce s' k = cNONE ∧ (¬ k < nS g ∨ ¬ ce s' k = g (8 + 17 * k + 2)))) (of_decide_eq_true (hrd ▸ w))
        exact ih (k + 1) (by omega) (by rw [if_neg hno] at hk2; exact hk2)
      · refine Ex_aload_n dX8_reads_40 rfl ?_
        refine Ex_iload dX8_reads_41 rfl ?_
        refine Ex_V1p dX8_reads_43 sX8_81 (ds_o hD) (Nat.le_of_ble_eq_true rfl) (c8_isSurface d hD hH _) ?_
        refine Ex_top (show _ = bI (k < nS g) from bI_congr (isB_nat (by omega) (by omega))) ?_
        refine Ex_if_eqB (tgt := 72) dX8_reads_46 (by decide) (fun h46 => ?_) (fun h46 => ?_)
        · refine Ex_iload dX8_reads_72 rfl ?_
          refine Ex_iret dX8_reads_74 (by first | rfl | exact narrow_bI) ?_
          have hy : rdP g (ce s') k = true := by rw [hrd]; exact decide_eq_true ⟨h37, Or.inl h46⟩
          exact ⟨_, rfl, (by rw [if_pos hy] at hk2; exact hk2), rfl, rfl⟩
        · refine Ex_aload_n dX8_reads_49 rfl ?_
          refine Ex_getr dX8_reads_50 fX8_271 (ds_shS hD s' hs').1 (ds_shS hD s' hs').2.1 ?_
          refine Ex_iload dX8_reads_53 rfl ?_
          refine Ex_iald dX8_reads_55 (ds_shS hD s' hs').2.2.1 rfl (by rw [(ds_shS hD s' hs').2.2.2]; omega) (by rw [(ds_shS hD s' hs').2.2.2]; decide) ?_
          refine Ex_top (hsh.1.2.2.2 k (by omega)) ?_
          refine Ex_aload_n dX8_reads_56 rfl ?_
          refine Ex_getr dX8_reads_57 fX8_16 (ds_o hD) (ds_h hD) ?_
          refine Ex_getr dX8_reads_60 fX8_85 (hl_o hS) (hl_s hS) ?_
          refine Ex_iload dX8_reads_63 rfl ?_
          refine Ex_aaldSu dX8_reads_65 (hl_sI hS) rfl (by rw [hl_sN hS]; omega) (by rw [hl_sN hS]; decide) (hl_k hS k (by omega)) ?_
          refine Ex_geti dX8_reads_66 fX8_97 (hl_S hS k (by omega)).1 ?_
          refine Ex_top ((hH.sf h46).1 2 (by omega)) ?_
          refine Ex_icmp_eq (tgt := 75) dX8_reads_69 (by decide) (fun h69 => ?_) (fun h69 => ?_)
          · first | refine Ex_iincN (m := 1) dX8_reads_75 rfl rfl (by decide) rfl ?_ | refine Ex_iinc dX8_reads_75 rfl rfl (by decide) rfl ?_
            simp only [List.set_cons_zero, List.set_cons_succ]
            refine Ex_goto (tgt := 22) dX8_reads_78 (by decide) ?_
            have hno : ¬ rdP g (ce s') k = true := fun w => (fun q => q.2.elim (fun w => w h46) (fun w => w h69) : ¬ (¬ ce s' k = cNONE ∧ (¬ k < nS g ∨ ¬ ce s' k = g (8 + 17 * k + 2)))) (of_decide_eq_true (hrd ▸ w))
            exact ih (k + 1) (by omega) (by rw [if_neg hno] at hk2; exact hk2)
          · refine Ex_iload dX8_reads_72 rfl ?_
            refine Ex_iret dX8_reads_74 (by first | rfl | exact narrow_bI) ?_
            have hy : rdP g (ce s') k = true := by rw [hrd]; exact decide_eq_true ⟨h37, Or.inr h69⟩
            exact ⟨_, rfl, (by rw [if_pos hy] at hk2; exact hk2), rfl, rfl⟩
theorem rfS_0 {so : Nat → Int32} {s : Int32} (h : rfS so s = 0) : inR s 4 ∧ ¬ so (cl s) < 0 := by
  unfold rfS at h
  by_cases h1 : inR s 4
  · rw [if_pos h1] at h
    by_cases h2 : so (cl s) < 0
    · rw [if_pos h2] at h; exact absurd h (by decide)
    · exact ⟨h1, h2⟩
  · rw [if_neg h1] at h; exact absurd h (by decide)
theorem rfS_n {so : Nat → Int32} {s X : Int32} (h : ¬ rfS so s = 0) : rfS so s = (if inR s 4 then (if so (cl s) < 0 then cNOTHING else X) else cBAD) := by
  unfold rfS at *
  by_cases h1 : inR s 4
  · rw [if_pos h1] at h ⊢
    rw [if_pos h1]
    by_cases h2 : so (cl s) < 0
    · rw [if_pos h2, if_pos h2]
    · rw [if_neg h2] at h; exact absurd nI_0 h
  · rw [if_neg h1, if_neg h1]
set_option maxRecDepth 100000 in
set_option maxHeartbeats 4000000 in
theorem C8_reads {T : TC} {I : MI} {G : MG} (d : Nat) {D N : Nat} {g : Nat → Int32} (hD : DS T G D N) (hH : Hl T I G (D + 2) (D + 1) N g) {so : Nat → Int32} {sz : Nat → Nat} {ce : Nat → Nat → Int32} (hA : ShA I D so sz ce) (s : Int32)  : OkP T mX8_reads (d + 2) [.ref D, .int s] I G (r_reads g so sz ce s) := by
  refine Ok_of (own := RX8) (by decide) rfl (cat1 rfl) (Nat.le_of_ble_eq_true rfl) ?_
  show Ex T RX8 cX8_reads 5 (d + 2) _ 0 [some (.ref D), some (.int s), none, none, none] [] I G (0, 0)
  have hS := hH.1
  have hn8 := hH.n8
  refine Ex_aload_n dX8_reads_0 rfl ?_
  refine Ex_iload_n dX8_reads_1 rfl ?_
  refine Ex_V1p dX8_reads_2 sX8_276 (ds_o hD) (Nat.le_of_ble_eq_true rfl) (c8_sheetRefusal d hD hA _) ?_
  refine Ex_istore_n dX8_reads_5 (by decide) rfl ?_
  simp only [st_n0, st_n1, st_n2, st_n3, List.set_cons_zero, List.set_cons_succ]
  refine Ex_iload_n dX8_reads_6 rfl ?_
  refine Ex_if_eq (tgt := 12) dX8_reads_7 (by decide) (fun h7 => ?_) (fun h7 => ?_)
  · obtain ⟨h4, hs0⟩ := rfS_0 h7
    obtain ⟨s', hs', es⟩ := (rng_k (by omega)).mp h4
    subst es
    have ecs : cl (nI s') = s' := cl_nI (by omega)
    have hsh := hA s' hs'
    have hz := hsh.1.2.2.1
    rw [ecs] at hs0
    refine Ex_aload_n dX8_reads_12 rfl ?_
    refine Ex_getr dX8_reads_13 fX8_51 (ds_o hD) (ds_sh hD) ?_
    refine Ex_iload_n dX8_reads_16 rfl ?_
    refine Ex_aaldSh dX8_reads_17 (ds_shI hD) rfl (by rw [ds_shN hD]; omega) (by rw [ds_shN hD]; decide) (ds_shk hD s' (by omega)) ?_
    refine Ex_astore_n dX8_reads_18 (by decide) rfl ?_
    simp only [st_n0, st_n1, st_n2, st_n3, List.set_cons_zero, List.set_cons_succ]
    refine Ex_iconst (v := nI 0) dX8_reads_19 (by rfl) ?_
    refine Ex_istore dX8_reads_20 (by decide) rfl ?_
    simp only [List.set_cons_zero, List.set_cons_succ]
    rw [show r_reads g so sz ce (nI s') = fsI (rdP g (ce s')) (sz s') 0 by unfold r_reads; rw [if_pos h4, ecs, if_neg hs0]]
    exact l8_reads d hD hH hA s' hs' _ (sz s') 0 (by omega) rfl
  · refine Ex_iload_n dX8_reads_10 rfl ?_
    refine Ex_iret dX8_reads_11 (by first | rfl | exact narrow_bI) ?_
    exact ⟨_, rfl, rfS_n h7, rfl, rfl⟩
theorem pG_1 {g row : Nat → Int32} {j : Nat} : ∀ k, (∀ s, s < k → j ≠ 8 + 17 * s + 1) → pG g row k j = g j
  | 0, _ => rfl
  | k + 1, h => by
    show upd (pG g row k) (8 + 17 * k + 1) _ j = g j
    rw [upd_n (h k (by omega))]
    exact pG_1 k (fun s hs => h s (by omega))
theorem nS_pG {g row : Nat → Int32} (k : Nat) : nS (pG g row k) = nS g := by unfold nS; rw [pG_1 k (fun s _ => by omega)]
set_option maxRecDepth 100000 in
set_option maxHeartbeats 4000000 in
theorem l8_pour {T : TC} {I : MI} {G : MG} {F : FinT} {bb : Nat × Nat} (d : Nat) {D N : Nat} {g : Nat → Int32} (hD : DS T G D N) (hH : Hl T I G (D + 2) (D + 1) N g) {so : Nat → Int32} {sz : Nat → Nat} {ce : Nat → Nat → Int32} (hA : ShA I D so sz ce) (s' c : Nat) (hs' : s' < 4) (hc : c ≤ nS g) (hc2 : c ≤ sz s') (x2 : Int32) (kx : ∀ J, Hl T J G (D + 2) (D + 1) N (pG g (ce s') c) → Fr (PH (D + 2) N) I J → Ex T RX8 cX8_pour 8 (d + 2) F 41 [some (.ref D), some (.int (nI s')), some (.int x2), some (.ref (D + 82 + 2 * s')), some (.int (pC g (ce s') c)), some (.int (nI c)), some (.int (nI c)), none] [] J G bb) : ∀ i k J, k + i = c → Hl T J G (D + 2) (D + 1) N (pG g (ce s') k) → Fr (PH (D + 2) N) I J → Ex T RX8 cX8_pour 8 (d + 2) F 41 [some (.ref D), some (.int (nI s')), some (.int x2), some (.ref (D + 82 + 2 * s')), some (.int (pC g (ce s') k)), some (.int (nI c)), some (.int (nI k)), none] [] J G bb := by
  have hN := ds_N hD
  have hn8 := hH.n8
  have hsh0 := hA s' hs'
  have hz := hsh0.1.2.2.1
  intro i
  induction i with
  | zero => intro k J h0 h1 h2; have e0 : k = c := by omega
            subst e0; exact kx J h1 h2
  | succ i ih =>
    intro k J h0 h1 h2
    have hS := h1.1
    have hsh := (hA.fr h2 (fun x q => by unfold PH at q; omega)) s' hs'
    have hnk := nS_pG (g := g) (row := ce s') k
    have hsf := h1.sf (s := k) (by omega)
    have eg : pG g (ce s') (k + 1) = upd (pG g (ce s') k) (8 + 17 * k + 1) (toF (pG g (ce s') k) (ce s') k) := rfl
    have ec9 : pC g (ce s') (k + 1) = pC g (ce s') k + (if pG g (ce s') k (8 + 17 * k + 1) = toF (pG g (ce s') k) (ce s') k then nI 0 else nI 1) := rfl
    refine Ex_iload dX8_pour_41 rfl ?_
    refine Ex_iload dX8_pour_43 rfl ?_
    refine Ex_icmp_geN (by omega) (by omega) (tgt := 114) dX8_pour_45 (by decide) (fun h45 => ?_) (fun h45 => ?_)
    · omega
    · refine Ex_aload_n dX8_pour_48 rfl ?_
      refine Ex_iload dX8_pour_49 rfl ?_
      refine Ex_V1p dX8_pour_51 sX8_279 (ds_shS hD s' hs').1 (Nat.le_of_ble_eq_true rfl) (c3_isNumber (d + 1) (ds_shS hD s' hs') k (by omega)) ?_
      refine Ex_top (show _ = bI (¬ ce s' k = cNONE) by rw [hsh.1.2.2.2 k (by omega)]) ?_
      refine Ex_if_eqB (tgt := 108) dX8_pour_54 (by decide) (fun h54 => ?_) (fun h54 => ?_)
      · first | refine Ex_iincN (m := 1) dX8_pour_108 rfl rfl (by decide) rfl ?_ | refine Ex_iinc dX8_pour_108 rfl rfl (by decide) rfl ?_
        simp only [List.set_cons_zero, List.set_cons_succ]
        refine Ex_goto (tgt := 41) dX8_pour_111 (by decide) ?_
        have et : toF (pG g (ce s') k) (ce s') k = pG g (ce s') k (8 + 17 * k + 1) := if_pos (Decidable.not_not.mp h54)
        have key := ih (k + 1) J (by omega) (by rw [eg, et, upd_same rfl]; exact h1) h2
        rw [ec9, et, if_pos rfl, add_0'] at key
        exact key
      · refine Ex_aload_n dX8_pour_57 rfl ?_
        refine Ex_getr dX8_pour_58 fX8_271 (ds_shS hD s' hs').1 (ds_shS hD s' hs').2.1 ?_
        refine Ex_iload dX8_pour_61 rfl ?_
        refine Ex_iald dX8_pour_63 (ds_shS hD s' hs').2.2.1 rfl (by rw [(ds_shS hD s' hs').2.2.2]; omega) (by rw [(ds_shS hD s' hs').2.2.2]; decide) ?_
        refine Ex_top (hsh.1.2.2.2 k (by omega)) ?_
        refine Ex_iconst (v := nI 0) dX8_pour_64 (by rfl) ?_
        refine Ex_bipush (v := nI 9) dX8_pour_65 (by rfl) ?_
        refine Ex_S3p dX8_pour_67 sX8_282  (Nat.le_of_ble_eq_true rfl) (c8_within d _ _ _ (by decide)) ?_
        refine Ex_istore dX8_pour_70 (by decide) rfl ?_
        simp only [List.set_cons_zero, List.set_cons_succ]
        refine Ex_iload dX8_pour_72 rfl ?_
        refine Ex_aload_n dX8_pour_74 rfl ?_
        refine Ex_getr dX8_pour_75 fX8_16 (ds_o hD) (ds_h hD) ?_
        refine Ex_getr dX8_pour_78 fX8_85 (hl_o hS) (hl_s hS) ?_
        refine Ex_iload dX8_pour_81 rfl ?_
        refine Ex_aaldSu dX8_pour_83 (hl_sI hS) rfl (by rw [hl_sN hS]; omega) (by rw [hl_sN hS]; decide) (hl_k hS k (by omega)) ?_
        refine Ex_geti dX8_pour_84 fX8_94 (hl_S hS k (by omega)).1 ?_
        refine Ex_top (hsf.1 1 (by omega)) ?_
        refine Ex_icmp_eq (tgt := 108) dX8_pour_87 (by decide) (fun h87 => ?_) (fun h87 => ?_)
        · first | refine Ex_iincN (m := 1) dX8_pour_108 rfl rfl (by decide) rfl ?_ | refine Ex_iinc dX8_pour_108 rfl rfl (by decide) rfl ?_
          simp only [List.set_cons_zero, List.set_cons_succ]
          refine Ex_goto (tgt := 41) dX8_pour_111 (by decide) ?_
          have et : toF (pG g (ce s') k) (ce s') k = wth (ce s' k) (nI 0) (nI 9) := if_neg h54
          refine Ex_drop 7 ?_
          simp only [List.set_cons_zero, List.set_cons_succ]
          have key := ih (k + 1) J (by omega) (by rw [eg, et, upd_same h87.symm]; exact h1) h2
          rw [ec9, et, if_pos h87.symm, add_0'] at key
          exact key
        · refine Ex_aload_n dX8_pour_90 rfl ?_
          refine Ex_getr dX8_pour_91 fX8_16 (ds_o hD) (ds_h hD) ?_
          refine Ex_getr dX8_pour_94 fX8_85 (hl_o hS) (hl_s hS) ?_
          refine Ex_iload dX8_pour_97 rfl ?_
          refine Ex_aaldSu dX8_pour_99 (hl_sI hS) rfl (by rw [hl_sN hS]; omega) (by rw [hl_sN hS]; decide) (hl_k hS k (by omega)) ?_
          refine Ex_iload dX8_pour_100 rfl ?_
          refine Ex_puti dX8_pour_102 fX8_94 rfl rfl rfl (hl_S hS k (by omega)).1 ?_
          first | refine Ex_iincN (m := 1) dX8_pour_105 rfl rfl (by decide) rfl ?_ | refine Ex_iinc dX8_pour_105 rfl rfl (by decide) rfl ?_
          simp only [List.set_cons_zero, List.set_cons_succ]
          first | refine Ex_iincN (m := 1) dX8_pour_108 rfl rfl (by decide) rfl ?_ | refine Ex_iinc dX8_pour_108 rfl rfl (by decide) rfl ?_
          simp only [List.set_cons_zero, List.set_cons_succ]
          refine Ex_goto (tgt := 41) dX8_pour_111 (by decide) ?_
          have et : toF (pG g (ce s') k) (ce s') k = wth (ce s' k) (nI 0) (nI 9) := if_neg h54
          refine Ex_drop 7 ?_
          simp only [List.set_cons_zero, List.set_cons_succ]
          have key := ih (k + 1) _ (by omega) (by rw [eg, et]; exact h1.damp (s := k) (by omega)) (h2.si (PHs (s := k) (by omega) rfl))
          rw [ec9, et, if_neg (fun q => h87 q.symm)] at key
          exact key
set_option maxRecDepth 100000 in
set_option maxHeartbeats 4000000 in
theorem C8_pour {T : TC} {I : MI} {G : MG} (d : Nat) {D N : Nat} {g : Nat → Int32} (hD : DS T G D N) (hH : Hl T I G (D + 2) (D + 1) N g) {so : Nat → Int32} {sz : Nat → Nat} {ce : Nat → Nat → Int32} (hA : ShA I D so sz ce) (s : Int32)  : OkI T mX8_pour (d + 2) [.ref D, .int s] I G (fun r I' G' => r = r_pour g so sz ce s ∧ Hl T I' G (D + 2) (D + 1) N (g_pour g so sz ce s) ∧ Fr (PH (D + 2) N) I I' ∧ G' = G) := by
  refine Ok_of (own := RX8) (by decide) rfl (cat1 rfl) (Nat.le_of_ble_eq_true rfl) ?_
  show Ex T RX8 cX8_pour 8 (d + 2) _ 0 [some (.ref D), some (.int s), none, none, none, none, none, none] [] I G (0, 0)
  have hS := hH.1
  have hn8 := hH.n8
  refine Ex_aload_n dX8_pour_0 rfl ?_
  refine Ex_iload_n dX8_pour_1 rfl ?_
  refine Ex_V1p dX8_pour_2 sX8_276 (ds_o hD) (Nat.le_of_ble_eq_true rfl) (c8_sheetRefusal d hD hA _) ?_
  refine Ex_istore_n dX8_pour_5 (by decide) rfl ?_
  simp only [st_n0, st_n1, st_n2, st_n3, List.set_cons_zero, List.set_cons_succ]
  refine Ex_iload_n dX8_pour_6 rfl ?_
  refine Ex_if_eq (tgt := 12) dX8_pour_7 (by decide) (fun h7 => ?_) (fun h7 => ?_)
  · obtain ⟨h4, hs0⟩ := rfS_0 h7
    obtain ⟨s', hs', es⟩ := (rng_k (by omega)).mp h4
    subst es
    have ecs : cl (nI s') = s' := cl_nI (by omega)
    have hsh := hA s' hs'
    have hz := hsh.1.2.2.1
    rw [ecs] at hs0
    refine Ex_aload_n dX8_pour_12 rfl ?_
    refine Ex_getr dX8_pour_13 fX8_51 (ds_o hD) (ds_sh hD) ?_
    refine Ex_iload_n dX8_pour_16 rfl ?_
    refine Ex_aaldSh dX8_pour_17 (ds_shI hD) rfl (by rw [ds_shN hD]; omega) (by rw [ds_shN hD]; decide) (ds_shk hD s' (by omega)) ?_
    refine Ex_astore_n dX8_pour_18 (by decide) rfl ?_
    simp only [st_n0, st_n1, st_n2, st_n3, List.set_cons_zero, List.set_cons_succ]
    refine Ex_iconst (v := nI 0) dX8_pour_19 (by rfl) ?_
    refine Ex_istore dX8_pour_20 (by decide) rfl ?_
    simp only [List.set_cons_zero, List.set_cons_succ]
    refine Ex_aload_n dX8_pour_22 rfl ?_
    refine Ex_getr dX8_pour_23 fX8_16 (ds_o hD) (ds_h hD) ?_
    refine Ex_geti dX8_pour_26 fX8_72 (hl_o hS) ?_
    refine Ex_top hH.n ?_
    refine Ex_aload_n dX8_pour_29 rfl ?_
    refine Ex_geti dX8_pour_30 fX8_182 (ds_shS hD s' hs').1 ?_
    refine Ex_top hsh.1.2.1 ?_
    refine Ex_min dX8_pour_33 sX8_140 (Nat.le_of_ble_eq_true rfl) ?_
    refine Ex_top (mnN (by omega) (by omega)) ?_
    have ed : Nat.min (nS g) (sz s') = pN g (sz s') := by rw [nmin]; unfold pN; split <;> split <;> omega
    rw [ed]
    have hp1 : pN g (sz s') ≤ nS g := by unfold pN; split <;> omega
    have hp2 : pN g (sz s') ≤ sz s' := by unfold pN; split <;> omega
    refine Ex_istore dX8_pour_36 (by decide) rfl ?_
    simp only [List.set_cons_zero, List.set_cons_succ]
    refine Ex_iconst (v := nI 0) dX8_pour_38 (by rfl) ?_
    refine Ex_istore dX8_pour_39 (by decide) rfl ?_
    simp only [List.set_cons_zero, List.set_cons_succ]
    refine l8_pour d hD hH hA s' (pN g (sz s')) hs' hp1 hp2 _ ?_ (pN g (sz s')) 0 I (by omega) hH Fr.refl
    intro J j1 j2
    refine Ex_iload dX8_pour_41 rfl ?_
    refine Ex_iload dX8_pour_43 rfl ?_
    refine Ex_icmp_geN (by omega) (by omega) (tgt := 114) dX8_pour_45 (by decide) (fun h45 => ?_) (fun h45 => ?_)
    · refine Ex_iload dX8_pour_114 rfl ?_
      refine Ex_iret dX8_pour_116 (by first | rfl | exact narrow_bI) ?_
      exact ⟨_, rfl, (by unfold r_pour; rw [if_pos h4, ecs, if_neg hs0]), (by rw [show g_pour g so sz ce (nI s') = pG g (ce s') (pN g (sz s')) by unfold g_pour; rw [if_pos (c := inR (nI s') 4 ∧ ¬ so (cl (nI s')) < 0) ⟨h4, by rw [ecs]; exact hs0⟩, ecs]]; exact j1), j2, rfl⟩
    · omega
  · refine Ex_iload_n dX8_pour_10 rfl ?_
    refine Ex_iret dX8_pour_11 (by first | rfl | exact narrow_bI) ?_
    refine ⟨_, rfl, rfS_n h7, ?_, Fr.refl, rfl⟩
    have eg : g_pour g so sz ce s = g := by
      unfold g_pour
      rw [if_neg]
      rintro ⟨q1, q2⟩
      apply h7
      unfold rfS
      rw [if_pos q1, if_neg q2]
      rfl
    rw [eg]
    exact hH
