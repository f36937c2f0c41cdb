/-! the class: what will be -/
theorem leS {x : Int32} {k : Nat} (hk : k + 1 < 2 ^ 31) : x ≤ nI k ↔ x < nI (k + 1) := by
  rw [i_le, i_lt, nI_toInt (by omega), nI_toInt hk]
  omega
theorem st_out {g row : Nat → Int32} {s z j : Nat} (hs : s < 8) (hw : WfG g) (hr : rowP row z) (hj : j < 8 + 17 * s ∨ 8 + 17 * s + 17 ≤ j) : ∀ k, k ≤ z → stG g s row k j = g j
  | 0, _ => rfl
  | k + 1, hk => by
    have ih := st_out hs hw hr hj k (by omega)
    show settleG (stG g s row k) s (mN (stG g s row k) s) (row k) j = g j
    rw [settle_o hj ((WfG_st hs hw hr k (by omega)).2.2.1 s hs).2.1]
    exact ih
set_option maxRecDepth 100000 in
set_option maxHeartbeats 4000000 in
theorem C8_behind {T : TC} {I : MI} {G : MG} (d : Nat) {D N : Nat} {g : Nat → Int32} (hD : DS T G D N) (hH : Hl T I G (D + 2) (D + 1) N g) (n w : Int32)  : OkI T mX8_behind (d + 6) [.ref D, .int n, .int w] I G (fun r I' G' => r = r_behind g n w ∧ Fr (PS D N) I I' ∧ G' = G) := by
  refine Ok_of (own := RX8) (by decide) rfl (cat1 rfl) (Nat.le_of_ble_eq_true rfl) ?_
  show Ex T RX8 cX8_behind 3 (d + 6) _ 0 [some (.ref D), some (.int n), some (.int w)] [] I G (0, 0)
  have hS := hH.1
  have hn8 := hH.n8
  have hT := ds_T hD
  have hN := ds_N hD
  refine Ex_iload_n dX8_behind_0 rfl ?_
  refine Ex_if_lt (tgt := 27) dX8_behind_1 (by decide) (fun h1 => ?_) (fun h1 => ?_)
  · refine Ex_ldc dX8_behind_27 kX8_71 ?_
    refine Ex_iret dX8_behind_29 (by first | rfl | exact narrow_bI) ?_
    exact ⟨_, rfl, (by unfold r_behind; rw [if_neg (fun q => absurd q.1.1 (Int32.not_le.mpr h1))]), Fr.refl, rfl⟩
  · refine Ex_iload_n dX8_behind_4 rfl ?_
    refine Ex_bipush (v := nI 100) dX8_behind_5 (by rfl) ?_
    refine Ex_icmp_gt (tgt := 27) dX8_behind_7 (by decide) (fun h7 => ?_) (fun h7 => ?_)
    · refine Ex_ldc dX8_behind_27 kX8_71 ?_
      refine Ex_iret dX8_behind_29 (by first | rfl | exact narrow_bI) ?_
      exact ⟨_, rfl, (by unfold r_behind; rw [if_neg (fun q => absurd ((leS (k := 100) (by omega)).mpr q.1.2) (Int32.not_le.mpr h7))]), Fr.refl, rfl⟩
    · refine Ex_iload_n dX8_behind_10 rfl ?_
      refine Ex_if_lt (tgt := 27) dX8_behind_11 (by decide) (fun h11 => ?_) (fun h11 => ?_)
      · refine Ex_ldc dX8_behind_27 kX8_71 ?_
        refine Ex_iret dX8_behind_29 (by first | rfl | exact narrow_bI) ?_
        exact ⟨_, rfl, (by unfold r_behind; rw [if_neg (fun q => absurd q.2.1 (Int32.not_le.mpr h11))]), Fr.refl, rfl⟩
      · refine Ex_iload_n dX8_behind_14 rfl ?_
        refine Ex_iconst (v := nI 3) dX8_behind_15 (by rfl) ?_
        refine Ex_aload_n dX8_behind_16 rfl ?_
        refine Ex_getr dX8_behind_17 fX8_16 (ds_o hD) (ds_h hD) ?_
        refine Ex_geti dX8_behind_20 fX8_72 (hl_o hS) ?_
        refine Ex_top hH.n ?_
        first | with_reducible refine Ex_iaddN dX8_behind_23 ?_ | refine Ex_iadd dX8_behind_23 ?_
        refine Ex_icmp_lt (tgt := 30) dX8_behind_24 (by decide) (fun h24 => ?_) (fun h24 => ?_)
        · have hi1 : inR n 101 := ⟨Int32.not_lt.mp h1, (leS (k := 100) (by omega)).mp (Int32.not_lt.mp h7)⟩
          have hi2 : inR w (3 + nS g) := ⟨Int32.not_lt.mp h11, h24⟩
          obtain ⟨n', hn', en⟩ := (rng_k (by omega)).mp hi1
          obtain ⟨w', hw', ew⟩ := (rng_k (by omega)).mp hi2
          have ecn : cl n = n' := by rw [en]; exact cl_nI (by omega)
          have ecw : cl w = w' := by rw [ew]; exact cl_nI (by omega)
          have hS9 := hS
          refine Ex_aload_n dX8_behind_30 rfl ?_
          refine Ex_getr dX8_behind_31 fX8_23 (ds_o hD) (ds_t hD) ?_
          refine Ex_aload_n dX8_behind_34 rfl ?_
          refine Ex_getr dX8_behind_35 fX8_16 (ds_o hD) (ds_h hD) ?_
          refine Ex_V1v dX8_behind_38 sX8_200 (hl_o hT) (Nat.le_of_ble_eq_true rfl) (c1_become (d + 3) hT hH (Or.inr (by omega)) (by omega)) ?_
          rintro J1 _ ⟨hT1, hF1, rfl⟩
          refine Ex_aload_n dX8_behind_41 rfl ?_
          refine Ex_getr dX8_behind_42 fX8_23 (ds_o hD) (ds_t hD) ?_
          refine Ex_iload_n dX8_behind_45 rfl ?_
          refine Ex_top en ?_
          refine Ex_V1v dX8_behind_46 sX8_154 (hl_o hT) (Nat.le_of_ble_eq_true rfl) (c1_passDays d hT1 n' (by omega)) ?_
          rintro J2 _ ⟨hj, hf, rfl⟩
          refine Ex_iload_n dX8_behind_49 rfl ?_
          rcases sw_cases (w) (0) (2) (by decide) (by decide) with ⟨k50, hk50, hl50, hx50⟩ | hx50
          · rcases (show k50 = 0 ∨ k50 = 1 ∨ k50 = 2 by omega) with rfl | rfl | rfl
            · have hx50 : w = nI 0 := hx50
              refine Ex_tabIn (tgt := 76) dX8_behind_50 (by rw [hx50]; decide) (by rw [hx50]; decide) (off := 26) (by rw [hx50]; rfl) (by decide) ?_
              refine Ex_aload_n dX8_behind_76 rfl ?_
              refine Ex_getr dX8_behind_77 fX8_23 (ds_o hD) (ds_t hD) ?_
              refine Ex_geti dX8_behind_80 fX8_151 (hl_o hT) ?_
              refine Ex_iret dX8_behind_83 (by first | rfl | exact narrow_bI) ?_
              exact ⟨_, rfl, (by unfold r_behind; rw [if_pos ⟨hi1, hi2⟩, if_pos (show w = 0 from hx50), ecn]; exact hj.fx (j := 4) (q := 5) (by decide)), (hF1.mono (fun x q => thPS (PBH q))).trans (hf.mono (fun x q => thPS q)), rfl⟩
            · have hx50 : w = nI 1 := hx50
              refine Ex_tabIn (tgt := 84) dX8_behind_50 (by rw [hx50]; decide) (by rw [hx50]; decide) (off := 34) (by rw [hx50]; rfl) (by decide) ?_
              refine Ex_aload_n dX8_behind_84 rfl ?_
              refine Ex_getr dX8_behind_85 fX8_23 (ds_o hD) (ds_t hD) ?_
              refine Ex_geti dX8_behind_88 fX8_157 (hl_o hT) ?_
              refine Ex_iret dX8_behind_91 (by first | rfl | exact narrow_bI) ?_
              exact ⟨_, rfl, (by unfold r_behind; rw [if_pos ⟨hi1, hi2⟩, if_neg (by rw [hx50]; decide), if_pos hx50, ecn]; exact hj.fx (j := 5) (q := 6) (by decide)), (hF1.mono (fun x q => thPS (PBH q))).trans (hf.mono (fun x q => thPS q)), rfl⟩
            · have hx50 : w = nI 2 := hx50
              refine Ex_tabIn (tgt := 92) dX8_behind_50 (by rw [hx50]; decide) (by rw [hx50]; decide) (off := 42) (by rw [hx50]; rfl) (by decide) ?_
              refine Ex_aload_n dX8_behind_92 rfl ?_
              refine Ex_getr dX8_behind_93 fX8_23 (ds_o hD) (ds_t hD) ?_
              refine Ex_V0p dX8_behind_96 sX8_160 (hl_o hT) (Nat.le_of_ble_eq_true rfl) (c1_allPressed (d + 5) hj) ?_
              refine Ex_iret dX8_behind_99 (by first | rfl | exact narrow_bI) ?_
              exact ⟨_, rfl, (by unfold r_behind; rw [if_pos ⟨hi1, hi2⟩, if_neg (by rw [hx50]; decide), if_neg (by rw [hx50]; decide), if_pos hx50, ecn, nS_days hH.w]), (hF1.mono (fun x q => thPS (PBH q))).trans (hf.mono (fun x q => thPS q)), rfl⟩
          · refine Ex_tabOut (tgt := 100) dX8_behind_50 hx50 (by decide) ?_
            have hw3 : 3 ≤ w' := by
              rw [ew, nI_toInt (by omega)] at hx50; omega
            have hw0 : ∀ k, k < 3 → ¬ w = nI k := fun k hk q => by
              rw [ew] at q
              have := (nI_eq (by omega) (by omega)).mp q
              omega
            refine Ex_aload_n dX8_behind_100 rfl ?_
            refine Ex_getr dX8_behind_101 fX8_23 (ds_o hD) (ds_t hD) ?_
            refine Ex_getr dX8_behind_104 fX8_85 (hl_o hT) (hl_s hT) ?_
            refine Ex_iload_n dX8_behind_107 rfl ?_
            refine Ex_top ew ?_
            refine Ex_iconst (v := nI 3) dX8_behind_108 (by rfl) ?_
            refine Ex_isubN (by omega) dX8_behind_109 ?_
            refine Ex_aaldSu dX8_behind_110 (hl_sI hT) rfl (by rw [hl_sN hT]; omega) (by rw [hl_sN hT]; decide) (hl_k hT (w' - 3) (by omega)) ?_
            refine Ex_geti dX8_behind_111 fX8_97 (hl_S hT (w' - 3) (by omega)).1 ?_
            refine Ex_iret dX8_behind_114 (by first | rfl | exact narrow_bI) ?_
            exact ⟨_, rfl, (by unfold r_behind; rw [if_pos ⟨hi1, hi2⟩, if_neg (show ¬ w = 0 from hw0 0 (by omega)), if_neg (hw0 1 (by omega)), if_neg (hw0 2 (by omega)), ecn, ecw]; exact (hj.sf (s := w' - 3) (by rw [nS_days hH.w]; omega)).1 2 (by omega)), (hF1.mono (fun x q => thPS (PBH q))).trans (hf.mono (fun x q => thPS q)), rfl⟩
        · refine Ex_ldc dX8_behind_27 kX8_71 ?_
          refine Ex_iret dX8_behind_29 (by first | rfl | exact narrow_bI) ?_
          exact ⟨_, rfl, (by unfold r_behind; rw [if_neg (fun q => h24 q.2.2)]), Fr.refl, rfl⟩
set_option maxRecDepth 100000 in
set_option maxHeartbeats 4000000 in
theorem C8_gone {T : TC} {I : MI} {G : MG} (d : Nat) {D N : Nat} {g : Nat → Int32} (hD : DS T G D N) (hH : Hl T I G (D + 2) (D + 1) N g) {so : Nat → Int32} {sz : Nat → Nat} {ce : Nat → Nat → Int32} (hA : ShA I D so sz ce) (s u : Int32)  : OkI T mX8_gone (d + 6) [.ref D, .int s, .int u] I G (fun r I' G' => r = r_gone g so sz ce s u ∧ Fr (PS D N) I I' ∧ G' = G) := by
  refine Ok_of (own := RX8) (by decide) rfl (cat1 rfl) (Nat.le_of_ble_eq_true rfl) ?_
  show Ex T RX8 cX8_gone 5 (d + 6) _ 0 [some (.ref D), some (.int s), some (.int u), none, none] [] I G (0, 0)
  have hS := hH.1
  have hn8 := hH.n8
  have hT := ds_T hD
  have hN := ds_N hD
  refine Ex_aload_n dX8_gone_0 rfl ?_
  refine Ex_iload_n dX8_gone_1 rfl ?_
  refine Ex_iload_n dX8_gone_2 rfl ?_
  refine Ex_V2p dX8_gone_3 sX8_176 (ds_o hD) (Nat.le_of_ble_eq_true rfl) (c8_rowRefusal_ (d + 2) hD hH hA _ _) ?_
  refine Ex_istore_n dX8_gone_6 (by decide) rfl ?_
  simp only [st_n0, st_n1, st_n2, st_n3, List.set_cons_zero, List.set_cons_succ]
  refine Ex_iload_n dX8_gone_7 rfl ?_
  refine Ex_if_eq (tgt := 13) dX8_gone_8 (by decide) (fun h8 => ?_) (fun h8 => ?_)
  · obtain ⟨hu0, h4, hs0, hrp⟩ := rf2_0 h8
    obtain ⟨s', hs', es⟩ := (rng_k (by omega)).mp h4
    subst es
    have ecs : cl (nI s') = s' := cl_nI (by omega)
    have hsh := hA s' hs'
    have hz := hsh.1.2.2.1
    rw [ecs] at hs0 hrp
    obtain ⟨u', hu', eu⟩ := (rng_k (by omega)).mp hu0
    subst eu
    have ecu : cl (nI u') = u' := cl_nI (by omega)
    refine Ex_aload_n dX8_gone_13 rfl ?_
    refine Ex_getr dX8_gone_14 fX8_23 (ds_o hD) (ds_t hD) ?_
    refine Ex_aload_n dX8_gone_17 rfl ?_
    refine Ex_getr dX8_gone_18 fX8_16 (ds_o hD) (ds_h hD) ?_
    refine Ex_V1v dX8_gone_21 sX8_200 (hl_o hT) (Nat.le_of_ble_eq_true rfl) (c1_become (d + 3) hT hH (Or.inr (by omega)) (by omega)) ?_
    rintro J1 _ ⟨hT1, hF1, rfl⟩
    have hA1 := (hA.ps hN (hF1.mono (fun x q => thPS (PBH q)))) s' hs'
    refine Ex_aload_n dX8_gone_24 rfl ?_
    refine Ex_getr dX8_gone_25 fX8_23 (ds_o hD) (ds_t hD) ?_
    refine Ex_aload_n dX8_gone_28 rfl ?_
    refine Ex_getr dX8_gone_29 fX8_51 (ds_o hD) (ds_sh hD) ?_
    refine Ex_iload_n dX8_gone_32 rfl ?_
    refine Ex_aaldSh dX8_gone_33 (ds_shI hD) rfl (by rw [ds_shN hD]; omega) (by rw [ds_shN hD]; decide) (ds_shk hD s' (by omega)) ?_
    refine Ex_aload_n dX8_gone_34 rfl ?_
    refine Ex_getr dX8_gone_35 fX8_23 (ds_o hD) (ds_t hD) ?_
    refine Ex_getr dX8_gone_38 fX8_85 (hl_o hT) (hl_s hT) ?_
    refine Ex_iload_n dX8_gone_41 rfl ?_
    refine Ex_aaldSu dX8_gone_42 (hl_sI hT) rfl (by rw [hl_sN hT]; omega) (by rw [hl_sN hT]; decide) (hl_k hT u' (by omega)) ?_
    refine Ex_V2i dX8_gone_43 sX8_204 (hl_o hT) (Nat.le_of_ble_eq_true rfl) (c1_dayRowIsGone d (ds_shS hD s' hs') (ce s') (sz s') u' hA1.1.2.1 hz (fun k hk => hA1.1.2.2.2 k (by omega)) (fun q => by unfold PH at q; omega) (fun q => by unfold PH at q; omega) (by omega) hT1) ?_
    rintro r J2 _ ⟨rfl, hf, rfl⟩
    refine Ex_istore dX8_gone_46 (by decide) rfl ?_
    simp only [List.set_cons_zero, List.set_cons_succ]
    have hg9 : gnF g (ce s') (sz s') u' ≤ 201 := by have := gn_le (g := g) (row := ce s') (z := sz s') (s := u') 201 0; unfold gnF; omega
    refine Ex_iload dX8_gone_48 rfl ?_
    refine Ex_sipush (v := nI 200) dX8_gone_50 (by rfl) ?_
    refine Ex_icmp_gtN (by omega) (by omega) (tgt := 61) dX8_gone_53 (by decide) (fun h53 => ?_) (fun h53 => ?_)
    · refine Ex_ldc dX8_gone_61 kX8_119 ?_
      refine Ex_iret dX8_gone_63 (by first | rfl | exact narrow_bI) ?_
      exact ⟨_, rfl, (by unfold r_gone; rw [if_pos ⟨h4, hu0⟩, ecs, ecu, if_neg hs0, if_pos hrp, if_neg (by omega)]), (hF1.mono (fun x q => thPS (PBH q))).trans (hf.mono (fun x q => thPS q)), rfl⟩
    · refine Ex_iload dX8_gone_56 rfl ?_
      refine Ex_goto (tgt := 63) dX8_gone_58 (by decide) ?_
      refine Ex_iret dX8_gone_63 (by first | rfl | exact narrow_bI) ?_
      exact ⟨_, rfl, (by unfold r_gone; rw [if_pos ⟨h4, hu0⟩, ecs, ecu, if_neg hs0, if_pos hrp, if_pos (by omega)]), (hF1.mono (fun x q => thPS (PBH q))).trans (hf.mono (fun x q => thPS q)), rfl⟩
  · refine Ex_iload_n dX8_gone_11 rfl ?_
    refine Ex_iret dX8_gone_12 (by first | rfl | exact narrow_bI) ?_
    exact ⟨_, rfl, rf2_n h8, Fr.refl, rfl⟩
set_option maxRecDepth 100000 in
set_option maxHeartbeats 4000000 in
theorem l8_safe {T : TC} {I : MI} {G : MG} {F : FinT} {bb : Nat × Nat} (d : Nat) {D N : Nat} {g : Nat → Int32} (hD : DS T G D N) (hH : Hl T I G (D + 2) (D + 1) N g) {so : Nat → Int32} {sz : Nat → Nat} {ce : Nat → Nat → Int32} (hA : ShA I D so sz ce) (hT : HlS T G (D + 40) (D + 1)) (hN : D + 117 ≤ N) (s' : Nat) (hs' : s' < 4) (hz : sz s' ≤ 24) (hrp : rowP (ce s') (sz s')) (w x3 : Int32) (n : Nat) (hn : nS g = n) (kx : ∀ J, Fr (PS D N) I J → Ex T RX8 cX8_safe 8 (d + 6) F 62 [some (.ref D), some (.int (nI s')), some (.int w), some (.int x3), some (.int (sfB g (ce s') (sz s') n).2), some (.int (pfx (sfB g (ce s') (sz s') n).1)), some (.int (nI n)), none] [] J G bb) : ∀ i k J, k + i = n → Fr (PS D N) I J → Ex T RX8 cX8_safe 8 (d + 6) F 62 [some (.ref D), some (.int (nI s')), some (.int w), some (.int x3), some (.int (sfB g (ce s') (sz s') k).2), some (.int (pfx (sfB g (ce s') (sz s') k).1)), some (.int (nI k)), none] [] J G bb := by
  have hS := hH.1
  have hn8 := hH.n8
  intro i
  induction i with
  | zero => intro k J h0 h1; have e0 : k = n := by omega
            subst e0; exact kx J h1
  | succ i ih =>
    intro k J h0 h1
    have hJ := hH.ps hD h1
    have hl := hH.ly (s := k) (by omega)
    have key := ih (k + 1)
    have es : sfB g (ce s') (sz s') (k + 1) = if (sfB g (ce s') (sz s') k).2 < nI (gnF (stG g k (ce s') (sz s')) (ce s') (sz s') k) then (nI k, nI (gnF (stG g k (ce s') (sz s')) (ce s') (sz s') k)) else sfB g (ce s') (sz s') k := rfl
    have hW2 := WfG_st (show k < 8 by omega) hH.w hrp (sz s') (Nat.le_refl _)
    have hnS2 : nS (stG g k (ce s') (sz s')) = n := by rw [← hn]; unfold nS; rw [st_o (show k < 8 by omega) hH.w hrp (by omega) (sz s') (Nat.le_refl _)]
    rw [es] at key
    generalize sfB g (ce s') (sz s') k = q at key ⊢
    refine Ex_iload dX8_safe_62 rfl ?_
    refine Ex_aload_n dX8_safe_64 rfl ?_
    refine Ex_getr dX8_safe_65 fX8_16 (ds_o hD) (ds_h hD) ?_
    refine Ex_geti dX8_safe_68 fX8_72 (hl_o hS) ?_
    refine Ex_top (show _ = nI n by rw [hJ.n, hn]) ?_
    refine Ex_icmp_geN (by omega) (by omega) (tgt := 150) dX8_safe_71 (by decide) (fun h71 => ?_) (fun h71 => ?_)
    · omega
    · refine Ex_aload_n dX8_safe_74 rfl ?_
      refine Ex_getr dX8_safe_75 fX8_23 (ds_o hD) (ds_t hD) ?_
      refine Ex_aload_n dX8_safe_78 rfl ?_
      refine Ex_getr dX8_safe_79 fX8_16 (ds_o hD) (ds_h hD) ?_
      refine Ex_V1v dX8_safe_82 sX8_200 (hl_o hT) (Nat.le_of_ble_eq_true rfl) (c1_become (d + 3) hT hJ (Or.inr (by omega)) (by omega)) ?_
      rintro J1 _ ⟨hT1, hF1, rfl⟩
      have hA1 := (hA.ps hN (h1.trans (hF1.mono (fun x q => thPS (PBH q))))) s' hs'
      refine Ex_aload_n dX8_safe_85 rfl ?_
      refine Ex_getr dX8_safe_86 fX8_23 (ds_o hD) (ds_t hD) ?_
      refine Ex_getr dX8_safe_89 fX8_85 (hl_o hT) (hl_s hT) ?_
      refine Ex_iload dX8_safe_92 rfl ?_
      refine Ex_aaldSu dX8_safe_94 (hl_sI hT) rfl (by rw [hl_sN hT]; omega) (by rw [hl_sN hT]; decide) (hl_k hT k (by omega)) ?_
      refine Ex_aload_n dX8_safe_95 rfl ?_
      refine Ex_getr dX8_safe_96 fX8_51 (ds_o hD) (ds_sh hD) ?_
      refine Ex_iload_n dX8_safe_99 rfl ?_
      refine Ex_aaldSh dX8_safe_100 (ds_shI hD) rfl (by rw [ds_shN hD]; omega) (by rw [ds_shN hD]; decide) (ds_shk hD s' (by omega)) ?_
      refine Ex_V1v dX8_safe_101 sX8_208 (hl_S hT k (by omega)).1 (Nat.le_of_ble_eq_true rfl) (c5_settleRow (d + 3) (hl_S hT k (by omega)) (ds_shS hD s' hs') g k (ce s') (sz s') hA1.1.2.1 hz (fun i hi => hA1.1.2.2.2 i (by omega)) hl.1 hl.2.1 (by omega) (by omega) (by omega) (hT1.sf (by omega))) ?_
      rintro J2 _ ⟨hj2, hf2, rfl⟩
      have hT2 := hT1.surf (by omega) hj2 hf2 (fun j hj => st_out (by omega) hH.w hrp hj (sz s') (Nat.le_refl _)) (hW2.2.2.1 k (by omega))
      have hA2 := (hA.ps hN ((h1.trans (hF1.mono (fun x q => thPS (PBH q)))).trans (hf2.mono (fun x q => thPS (P2H (s := k) (by omega) q))))) s' hs'
      refine Ex_aload_n dX8_safe_104 rfl ?_
      refine Ex_getr dX8_safe_105 fX8_23 (ds_o hD) (ds_t hD) ?_
      refine Ex_aload_n dX8_safe_108 rfl ?_
      refine Ex_getr dX8_safe_109 fX8_51 (ds_o hD) (ds_sh hD) ?_
      refine Ex_iload_n dX8_safe_112 rfl ?_
      refine Ex_aaldSh dX8_safe_113 (ds_shI hD) rfl (by rw [ds_shN hD]; omega) (by rw [ds_shN hD]; decide) (ds_shk hD s' (by omega)) ?_
      refine Ex_aload_n dX8_safe_114 rfl ?_
      refine Ex_getr dX8_safe_115 fX8_23 (ds_o hD) (ds_t hD) ?_
      refine Ex_getr dX8_safe_118 fX8_85 (hl_o hT) (hl_s hT) ?_
      refine Ex_iload dX8_safe_121 rfl ?_
      refine Ex_aaldSu dX8_safe_123 (hl_sI hT) rfl (by rw [hl_sN hT]; omega) (by rw [hl_sN hT]; decide) (hl_k hT k (by omega)) ?_
      refine Ex_V2i dX8_safe_124 sX8_204 (hl_o hT) (Nat.le_of_ble_eq_true rfl) (c1_dayRowIsGone d (ds_shS hD s' hs') (ce s') (sz s') k hA2.1.2.1 hz (fun k hk => hA2.1.2.2.2 k (by omega)) (fun q => by unfold PH at q; omega) (fun q => by unfold PH at q; omega) (by omega) hT2) ?_
      rintro r J3 _ ⟨rfl, hf, rfl⟩
      refine Ex_istore dX8_safe_127 (by decide) rfl ?_
      simp only [List.set_cons_zero, List.set_cons_succ]
      refine Ex_iload dX8_safe_129 rfl ?_
      refine Ex_iload dX8_safe_131 rfl ?_
      refine Ex_icmp_le (tgt := 144) dX8_safe_133 (by decide) (fun h133 => ?_) (fun h133 => ?_)
      · first | refine Ex_iincN (m := 1) dX8_safe_144 rfl rfl (by decide) rfl ?_ | refine Ex_iinc dX8_safe_144 rfl rfl (by decide) rfl ?_
        simp only [List.set_cons_zero, List.set_cons_succ]
        refine Ex_goto (tgt := 62) dX8_safe_147 (by decide) ?_
        refine Ex_drop 7 ?_
        simp only [List.set_cons_zero, List.set_cons_succ]
        have k2 := key J3 (by omega) (((h1.trans (hF1.mono (fun x q => thPS (PBH q)))).trans (hf2.mono (fun x q => thPS (P2H (s := k) (by omega) q)))).trans (hf.mono (fun x q => thPS q)))
        rw [if_neg (Int32.not_lt.mpr h133)] at k2
        exact k2
      · refine Ex_iload dX8_safe_136 rfl ?_
        refine Ex_istore dX8_safe_138 (by decide) rfl ?_
        simp only [List.set_cons_zero, List.set_cons_succ]
        refine Ex_iload dX8_safe_140 rfl ?_
        refine Ex_istore dX8_safe_142 (by decide) rfl ?_
        simp only [List.set_cons_zero, List.set_cons_succ]
        first | refine Ex_iincN (m := 1) dX8_safe_144 rfl rfl (by decide) rfl ?_ | refine Ex_iinc dX8_safe_144 rfl rfl (by decide) rfl ?_
        simp only [List.set_cons_zero, List.set_cons_succ]
        refine Ex_goto (tgt := 62) dX8_safe_147 (by decide) ?_
        refine Ex_drop 7 ?_
        simp only [List.set_cons_zero, List.set_cons_succ]
        have k2 := key J3 (by omega) (((h1.trans (hF1.mono (fun x q => thPS (PBH q)))).trans (hf2.mono (fun x q => thPS (P2H (s := k) (by omega) q)))).trans (hf.mono (fun x q => thPS q)))
        rw [if_pos (Int32.not_le.mp h133)] at k2
        have e9 : pfx (nI k) = nI k := if_neg (nI_pos (by omega))
        rw [e9] at k2
        exact k2
theorem sfB_pos {g row : Nat → Int32} {z : Nat} : ∀ s, s + 1 ≤ 8 → ¬ (sfB g row z (s + 1)).1 < 0
  | 0, _ => by
    have hg := gn_le (g := stG g 0 row z) (row := row) (z := z) (s := 0) 201 0
    have e : sfB g row z (0 + 1) = (nI 0, nI (gnF (stG g 0 row z) row z 0)) := if_pos (show (-1 : Int32) < nI (gnF (stG g 0 row z) row z 0) by
      rw [i_lt, nI_toInt (by unfold gnF; omega)]
      have : (-1 : Int32).toInt = -1 := rfl
      omega)
    rw [e]
    exact nI_pos (by omega)
  | s + 1, h => by
    have ih := sfB_pos (g := g) (row := row) (z := z) s (by omega)
    rw [sfB]
    split
    · exact nI_pos (by omega)
    · exact ih
set_option maxRecDepth 100000 in
set_option maxHeartbeats 4000000 in
theorem C8_safe {T : TC} {I : MI} {G : MG} (d : Nat) {D N : Nat} {g : Nat → Int32} (hD : DS T G D N) (hH : Hl T I G (D + 2) (D + 1) N g) {so : Nat → Int32} {sz : Nat → Nat} {ce : Nat → Nat → Int32} (hA : ShA I D so sz ce) (s w : Int32)  : OkI T mX8_safe (d + 6) [.ref D, .int s, .int w] I G (fun r I' G' => r = r_safe g so sz ce s w ∧ Fr (PS D N) I I' ∧ G' = G) := by
  refine Ok_of (own := RX8) (by decide) rfl (cat1 rfl) (Nat.le_of_ble_eq_true rfl) ?_
  show Ex T RX8 cX8_safe 8 (d + 6) _ 0 [some (.ref D), some (.int s), some (.int w), none, none, none, none, none] [] I G (0, 0)
  have hS := hH.1
  have hn8 := hH.n8
  have hT := ds_T hD
  have hN := ds_N hD
  refine Ex_iload_n dX8_safe_0 rfl ?_
  refine Ex_iconst (v := nI 2) dX8_safe_1 (by rfl) ?_
  refine Ex_S2p dX8_safe_2 sX8_67  (Nat.le_of_ble_eq_true rfl) (c8_isBelow (d + 5) _ _) ?_
  refine Ex_if_neB (tgt := 11) dX8_safe_5 (by decide) (fun h5 => ?_) (fun h5 => ?_)
  · refine Ex_aload_n dX8_safe_11 rfl ?_
    refine Ex_iload_n dX8_safe_12 rfl ?_
    refine Ex_V1p dX8_safe_13 sX8_169 (ds_o hD) (Nat.le_of_ble_eq_true rfl) (c8_rowRefusal (d + 3) hD hA _) ?_
    refine Ex_istore_n dX8_safe_16 (by decide) rfl ?_
    simp only [st_n0, st_n1, st_n2, st_n3, List.set_cons_zero, List.set_cons_succ]
    refine Ex_iload_n dX8_safe_17 rfl ?_
    refine Ex_if_eq (tgt := 23) dX8_safe_18 (by decide) (fun h18 => ?_) (fun h18 => ?_)
    · obtain ⟨h4, hs0, hrp⟩ := rfR_0 h18
      obtain ⟨s', hs', es⟩ := (rng_k (by omega)).mp h4
      subst es
      have ecs : cl (nI s') = s' := cl_nI (by omega)
      have hsh := hA s' hs'
      have hz := hsh.1.2.2.1
      rw [ecs] at hs0 hrp
      refine Ex_aload_n dX8_safe_23 rfl ?_
      refine Ex_getr dX8_safe_24 fX8_51 (ds_o hD) (ds_sh hD) ?_
      refine Ex_iload_n dX8_safe_27 rfl ?_
      refine Ex_aaldSh dX8_safe_28 (ds_shI hD) rfl (by rw [ds_shN hD]; omega) (by rw [ds_shN hD]; decide) (ds_shk hD s' (by omega)) ?_
      refine Ex_geti dX8_safe_29 fX8_182 (ds_shS hD s' hs').1 ?_
      refine Ex_top hsh.1.2.1 ?_
      refine Ex_bipush (v := nI 12) dX8_safe_32 (by rfl) ?_
      refine Ex_icmp_leN (by omega) (by omega) (tgt := 40) dX8_safe_34 (by decide) (fun h34 => ?_) (fun h34 => ?_)
      · refine Ex_aload_n dX8_safe_40 rfl ?_
        refine Ex_getr dX8_safe_41 fX8_16 (ds_o hD) (ds_h hD) ?_
        refine Ex_geti dX8_safe_44 fX8_72 (hl_o hS) ?_
        refine Ex_top hH.n ?_
        refine Ex_if_ne (tgt := 53) dX8_safe_47 (by decide) (fun h47 => ?_) (fun h47 => ?_)
        · refine Ex_iconst (v := (-1)) dX8_safe_53 (by rfl) ?_
          refine Ex_istore dX8_safe_54 (by decide) rfl ?_
          simp only [List.set_cons_zero, List.set_cons_succ]
          refine Ex_iconst (v := nI 0) dX8_safe_56 (by rfl) ?_
          refine Ex_istore dX8_safe_57 (by decide) rfl ?_
          simp only [List.set_cons_zero, List.set_cons_succ]
          refine Ex_iconst (v := nI 0) dX8_safe_59 (by rfl) ?_
          refine Ex_istore dX8_safe_60 (by decide) rfl ?_
          simp only [List.set_cons_zero, List.set_cons_succ]
          have hn0 : nS g ≠ 0 := fun e => h47 (by rw [e]; rfl)
          have hpos : ¬ (sfB g (ce s') (sz s') (nS g)).1 < 0 := by
            have := sfB_pos (g := g) (row := ce s') (z := sz s') (nS g - 1) (by omega)
            rw [show nS g - 1 + 1 = nS g by omega] at this
            exact this
          refine l8_safe (I := I) d hD hH hA hT hN s' hs' hz hrp w _ (nS g) rfl ?_ (nS g) 0 I (by omega) Fr.refl
          intro J j1
          refine Ex_iload dX8_safe_62 rfl ?_
          refine Ex_aload_n dX8_safe_64 rfl ?_
          refine Ex_getr dX8_safe_65 fX8_16 (ds_o hD) (ds_h hD) ?_
          refine Ex_geti dX8_safe_68 fX8_72 (hl_o hS) ?_
          refine Ex_top (show _ = nI (nS g) by rw [(hH.ps hD j1).n]) ?_
          refine Ex_icmp_geN (by omega) (by omega) (tgt := 150) dX8_safe_71 (by decide) (fun h71 => ?_) (fun h71 => ?_)
          · refine Ex_iload_n dX8_safe_150 rfl ?_
            refine Ex_if_ne (tgt := 159) dX8_safe_151 (by decide) (fun h151 => ?_) (fun h151 => ?_)
            · refine Ex_iload dX8_safe_159 rfl ?_
              refine Ex_iret dX8_safe_161 (by first | rfl | exact narrow_bI) ?_
              exact ⟨_, rfl, (by unfold r_safe; rw [if_pos ⟨h4, h5⟩, ecs, if_neg hs0, if_pos ⟨hrp, by omega⟩, if_neg hpos, if_neg h151]), j1, rfl⟩
            · refine Ex_iload dX8_safe_154 rfl ?_
              refine Ex_goto (tgt := 161) dX8_safe_156 (by decide) ?_
              refine Ex_iret dX8_safe_161 (by first | rfl | exact narrow_bI) ?_
              exact ⟨_, rfl, (by unfold r_safe; rw [if_pos ⟨h4, h5⟩, ecs, if_neg hs0, if_pos ⟨hrp, by omega⟩, if_neg hpos, if_pos h151]; exact if_neg hpos), j1, rfl⟩
          · omega
        · refine Ex_ldc dX8_safe_50 kX8_119 ?_
          refine Ex_iret dX8_safe_52 (by first | rfl | exact narrow_bI) ?_
          have hn0 : nS g = 0 := (nI_eq (b := 0) (by omega) (by omega)).mp h47
          exact ⟨_, rfl, (by unfold r_safe; rw [if_pos ⟨h4, h5⟩, ecs, if_neg hs0, if_pos ⟨hrp, by omega⟩, hn0]; rfl), Fr.refl, rfl⟩
      · refine Ex_ldc dX8_safe_37 kX8_207 ?_
        refine Ex_iret dX8_safe_39 (by first | rfl | exact narrow_bI) ?_
        exact ⟨_, rfl, (by unfold r_safe; rw [if_pos ⟨h4, h5⟩, ecs, if_neg hs0, if_neg (fun q => absurd q.2 (by omega))]), Fr.refl, rfl⟩
    · refine Ex_iload_n dX8_safe_21 rfl ?_
      refine Ex_iret dX8_safe_22 (by first | rfl | exact narrow_bI) ?_
      refine ⟨_, rfl, ?_, Fr.refl, rfl⟩
      unfold r_safe
      by_cases h4 : inR s 4
      · rw [if_pos (c := inR s 4 ∧ inR w 2) ⟨h4, h5⟩]
        unfold rfR at h18 ⊢
        rw [if_pos h4] at h18 ⊢
        by_cases h2 : so (cl s) < 0
        · rw [if_pos h2, if_pos h2]
        · rw [if_neg h2] at h18 ⊢
          rw [if_neg h2]
          by_cases h3 : rowP (ce (cl s)) (sz (cl s))
          · rw [if_pos h3] at h18; exact absurd nI_0 h18
          · rw [if_neg h3, if_neg (c := rowP (ce (cl s)) (sz (cl s)) ∧ sz (cl s) ≤ 12) (fun q => h3 q.1)]
      · unfold rfR
        rw [if_neg h4, if_neg (c := inR s 4 ∧ inR w 2) (fun q => h4 q.1)]
  · refine Ex_ldc dX8_safe_8 kX8_71 ?_
    refine Ex_iret dX8_safe_10 (by first | rfl | exact narrow_bI) ?_
    exact ⟨_, rfl, (by unfold r_safe; rw [if_neg (fun q => h5 q.2)]), Fr.refl, rfl⟩
set_option maxRecDepth 100000 in
set_option maxHeartbeats 4000000 in
theorem l8_becomes {T : TC} {I : MI} {G : MG} {F : FinT} {bb : Nat × Nat} (d : Nat) {D N : Nat} {g : Nat → Int32} (hD : DS T G D N) (hH : Hl T I G (D + 2) (D + 1) N g) (hT : HlS T G (D + 40) (D + 1)) (hN : D + 117 ≤ N) (s' n' : Nat) (hs' : s' < nS g) (hn' : n' < 100) (w : Int32) (kx : ∀ J, Fr (PS D N) I J → Ex T RX8 cX8_becomes 7 (d + 6) F 39 [some (.ref D), some (.int (nI s')), some (.int (nI n')), some (.int w), some (.int (bcB g s' n' 6).2), some (.int (bcB g s' n' 6).1), some (.int (nI 6))] [] J G bb) : ∀ i k J, k + i = 6 → Fr (PS D N) I J → Ex T RX8 cX8_becomes 7 (d + 6) F 39 [some (.ref D), some (.int (nI s')), some (.int (nI n')), some (.int w), some (.int (bcB g s' n' k).2), some (.int (bcB g s' n' k).1), some (.int (nI k))] [] J G bb := by
  have hS := hH.1
  have hn8 := hH.n8
  intro i
  induction i with
  | zero => intro k J h0 h1; have e0 : k = 6 := by omega
            subst e0; exact kx J h1
  | succ i ih =>
    intro k J h0 h1
    have hJ := hH.ps hD h1
    have key := ih (k + 1)
    have es : bcB g s' n' (k + 1) = if (bcB g s' n' k).2 < bcV g s' n' k then (nI k, bcV g s' n' k) else bcB g s' n' k := rfl
    rw [es] at key
    generalize bcB g s' n' k = q at key ⊢
    refine Ex_iload dX8_becomes_39 rfl ?_
    refine Ex_bipush (v := nI 6) dX8_becomes_41 (by rfl) ?_
    refine Ex_icmp_geN (by omega) (by omega) (tgt := 120) dX8_becomes_43 (by decide) (fun h43 => ?_) (fun h43 => ?_)
    · omega
    · refine Ex_aload_n dX8_becomes_46 rfl ?_
      refine Ex_getr dX8_becomes_47 fX8_23 (ds_o hD) (ds_t hD) ?_
      refine Ex_aload_n dX8_becomes_50 rfl ?_
      refine Ex_getr dX8_becomes_51 fX8_16 (ds_o hD) (ds_h hD) ?_
      refine Ex_V1v dX8_becomes_54 sX8_200 (hl_o hT) (Nat.le_of_ble_eq_true rfl) (c1_become (d + 3) hT hJ (Or.inr (by omega)) (by omega)) ?_
      rintro J1 _ ⟨hT1, hF1, rfl⟩
      refine Ex_aload_n dX8_becomes_57 rfl ?_
      refine Ex_getr dX8_becomes_58 fX8_23 (ds_o hD) (ds_t hD) ?_
      refine Ex_getr dX8_becomes_61 fX8_85 (hl_o hT) (hl_s hT) ?_
      refine Ex_iload_n dX8_becomes_64 rfl ?_
      refine Ex_aaldSu dX8_becomes_65 (hl_sI hT) rfl (by rw [hl_sN hT]; omega) (by rw [hl_sN hT]; decide) (hl_k hT s' (by omega)) ?_
      refine Ex_iload dX8_becomes_66 rfl ?_
      refine Ex_puti dX8_becomes_68 fX8_89 rfl rfl rfl (hl_S hT s' (by omega)).1 ?_
      have hT2 := hT1.kind hs' (show k < 6 by omega)
      refine Ex_aload_n dX8_becomes_71 rfl ?_
      refine Ex_getr dX8_becomes_72 fX8_23 (ds_o hD) (ds_t hD) ?_
      refine Ex_iload_n dX8_becomes_75 rfl ?_
      refine Ex_V1v dX8_becomes_76 sX8_154 (hl_o hT) (Nat.le_of_ble_eq_true rfl) (c1_passDays d hT2 n' (by omega)) ?_
      rintro J2 _ ⟨hj, hf, rfl⟩
      refine Ex_aload_n dX8_becomes_79 rfl ?_
      refine Ex_getr dX8_becomes_80 fX8_23 (ds_o hD) (ds_t hD) ?_
      refine Ex_getr dX8_becomes_83 fX8_85 (hl_o hT) (hl_s hT) ?_
      refine Ex_iload_n dX8_becomes_86 rfl ?_
      refine Ex_aaldSu dX8_becomes_87 (hl_sI hT) rfl (by rw [hl_sN hT]; omega) (by rw [hl_sN hT]; decide) (hl_k hT s' (by omega)) ?_
      refine Ex_geti dX8_becomes_88 fX8_97 (hl_S hT s' (by omega)).1 ?_
      have hs2 : s' < nS (daysG (upd g (8 + 17 * s' + 0) (nI k)) n') := by rw [nS_days hT2.w]; unfold nS; rw [upd_n (by omega)]; exact hs'
      refine Ex_top (show _ = bcV g s' n' k from (hj.sf (s := s') hs2).1 2 (by omega)) ?_
      refine Ex_iload dX8_becomes_91 rfl ?_
      refine Ex_icmp_le (tgt := 114) dX8_becomes_93 (by decide) (fun h93 => ?_) (fun h93 => ?_)
      · first | refine Ex_iincN (m := 1) dX8_becomes_114 rfl rfl (by decide) rfl ?_ | refine Ex_iinc dX8_becomes_114 rfl rfl (by decide) rfl ?_
        simp only [List.set_cons_zero, List.set_cons_succ]
        refine Ex_goto (tgt := 39) dX8_becomes_117 (by decide) ?_
        have k2 := key J2 (by omega) (((h1.trans (hF1.mono (fun x q => thPS (PBH q)))).si (thPS (PHs (s := s') (by omega) rfl))).trans (hf.mono (fun x q => thPS q)))
        rw [if_neg (Int32.not_lt.mpr h93)] at k2
        exact k2
      · refine Ex_aload_n dX8_becomes_96 rfl ?_
        refine Ex_getr dX8_becomes_97 fX8_23 (ds_o hD) (ds_t hD) ?_
        refine Ex_getr dX8_becomes_100 fX8_85 (hl_o hT) (hl_s hT) ?_
        refine Ex_iload_n dX8_becomes_103 rfl ?_
        refine Ex_aaldSu dX8_becomes_104 (hl_sI hT) rfl (by rw [hl_sN hT]; omega) (by rw [hl_sN hT]; decide) (hl_k hT s' (by omega)) ?_
        refine Ex_geti dX8_becomes_105 fX8_97 (hl_S hT s' (by omega)).1 ?_
        refine Ex_top (show _ = bcV g s' n' k from (hj.sf (s := s') hs2).1 2 (by omega)) ?_
        refine Ex_istore dX8_becomes_108 (by decide) rfl ?_
        simp only [List.set_cons_zero, List.set_cons_succ]
        refine Ex_iload dX8_becomes_110 rfl ?_
        refine Ex_istore dX8_becomes_112 (by decide) rfl ?_
        simp only [List.set_cons_zero, List.set_cons_succ]
        first | refine Ex_iincN (m := 1) dX8_becomes_114 rfl rfl (by decide) rfl ?_ | refine Ex_iinc dX8_becomes_114 rfl rfl (by decide) rfl ?_
        simp only [List.set_cons_zero, List.set_cons_succ]
        refine Ex_goto (tgt := 39) dX8_becomes_117 (by decide) ?_
        have k2 := key J2 (by omega) (((h1.trans (hF1.mono (fun x q => thPS (PBH q)))).si (thPS (PHs (s := s') (by omega) rfl))).trans (hf.mono (fun x q => thPS q)))
        rw [if_pos (Int32.not_le.mp h93)] at k2
        exact k2
set_option maxRecDepth 100000 in
set_option maxHeartbeats 4000000 in
theorem C8_becomes {T : TC} {I : MI} {G : MG} (d : Nat) {D N : Nat} {g : Nat → Int32} (hD : DS T G D N) (hH : Hl T I G (D + 2) (D + 1) N g) (s n w : Int32)  : OkI T mX8_becomes (d + 6) [.ref D, .int s, .int n, .int w] I G (fun r I' G' => r = r_becomes g s n w ∧ Fr (PS D N) I I' ∧ G' = G) := by
  refine Ok_of (own := RX8) (by decide) rfl (cat1 rfl) (Nat.le_of_ble_eq_true rfl) ?_
  show Ex T RX8 cX8_becomes 7 (d + 6) _ 0 [some (.ref D), some (.int s), some (.int n), some (.int w), none, none, none] [] I G (0, 0)
  have hS := hH.1
  have hn8 := hH.n8
  have hT := ds_T hD
  have hN := ds_N hD
  refine Ex_aload_n dX8_becomes_0 rfl ?_
  refine Ex_iload_n dX8_becomes_1 rfl ?_
  refine Ex_V1p dX8_becomes_2 sX8_81 (ds_o hD) (Nat.le_of_ble_eq_true rfl) (c8_isSurface (d + 4) hD hH _) ?_
  refine Ex_if_eqB (tgt := 27) dX8_becomes_5 (by decide) (fun h5 => ?_) (fun h5 => ?_)
  · refine Ex_ldc dX8_becomes_27 kX8_71 ?_
    refine Ex_iret dX8_becomes_29 (by first | rfl | exact narrow_bI) ?_
    exact ⟨_, rfl, (by unfold r_becomes; rw [if_neg (fun q => h5 q.1)]), Fr.refl, rfl⟩
  · refine Ex_iload_n dX8_becomes_8 rfl ?_
    refine Ex_iconst (v := nI 1) dX8_becomes_9 (by rfl) ?_
    refine Ex_icmp_lt (tgt := 27) dX8_becomes_10 (by decide) (fun h10 => ?_) (fun h10 => ?_)
    · refine Ex_ldc dX8_becomes_27 kX8_71 ?_
      refine Ex_iret dX8_becomes_29 (by first | rfl | exact narrow_bI) ?_
      exact ⟨_, rfl, (by unfold r_becomes; rw [if_neg (fun q => absurd q.2.1.1 (Int32.not_le.mpr h10))]), Fr.refl, rfl⟩
    · refine Ex_iload_n dX8_becomes_13 rfl ?_
      refine Ex_bipush (v := nI 60) dX8_becomes_14 (by rfl) ?_
      refine Ex_icmp_gt (tgt := 27) dX8_becomes_16 (by decide) (fun h16 => ?_) (fun h16 => ?_)
      · refine Ex_ldc dX8_becomes_27 kX8_71 ?_
        refine Ex_iret dX8_becomes_29 (by first | rfl | exact narrow_bI) ?_
        exact ⟨_, rfl, (by unfold r_becomes; rw [if_neg (fun q => absurd q.2.1.2 (Int32.not_le.mpr h16))]), Fr.refl, rfl⟩
      · refine Ex_iload_n dX8_becomes_19 rfl ?_
        refine Ex_iconst (v := nI 2) dX8_becomes_20 (by rfl) ?_
        refine Ex_S2p dX8_becomes_21 sX8_67  (Nat.le_of_ble_eq_true rfl) (c8_isBelow (d + 5) _ _) ?_
        refine Ex_if_neB (tgt := 30) dX8_becomes_24 (by decide) (fun h24 => ?_) (fun h24 => ?_)
        · have hin : in1 n 60 := ⟨Int32.not_lt.mp h10, Int32.not_lt.mp h16⟩
          obtain ⟨n', hn1, hn2, en⟩ := (in1_k (by omega)).mp hin
          subst en
          have ecn : cl (nI n') = n' := cl_nI (by omega)
          obtain ⟨s', hs', es⟩ := (rng_k (by omega)).mp h5
          subst es
          have ec : cl (nI s') = s' := cl_nI (by omega)
          have hl := hH.ly (s := s') (by omega)
          have hsf := hH.sf hs'
          refine Ex_iconst (v := (-1)) dX8_becomes_30 (by rfl) ?_
          refine Ex_istore dX8_becomes_31 (by decide) rfl ?_
          simp only [List.set_cons_zero, List.set_cons_succ]
          refine Ex_iconst (v := nI 0) dX8_becomes_33 (by rfl) ?_
          refine Ex_istore dX8_becomes_34 (by decide) rfl ?_
          simp only [List.set_cons_zero, List.set_cons_succ]
          refine Ex_iconst (v := nI 0) dX8_becomes_36 (by rfl) ?_
          refine Ex_istore dX8_becomes_37 (by decide) rfl ?_
          simp only [List.set_cons_zero, List.set_cons_succ]
          refine l8_becomes (I := I) d hD hH hT hN s' n' hs' (by omega) w ?_ 6 0 I (by omega) Fr.refl
          intro J j1
          refine Ex_iload dX8_becomes_39 rfl ?_
          refine Ex_bipush (v := nI 6) dX8_becomes_41 (by rfl) ?_
          refine Ex_icmp_geN (by omega) (by omega) (tgt := 120) dX8_becomes_43 (by decide) (fun h43 => ?_) (fun h43 => ?_)
          · refine Ex_iload_n dX8_becomes_120 rfl ?_
            refine Ex_if_ne (tgt := 129) dX8_becomes_121 (by decide) (fun h121 => ?_) (fun h121 => ?_)
            · refine Ex_iload dX8_becomes_129 rfl ?_
              refine Ex_iret dX8_becomes_131 (by first | rfl | exact narrow_bI) ?_
              exact ⟨_, rfl, (by unfold r_becomes; rw [if_pos ⟨h5, hin, h24⟩, ec, ecn, if_neg h121]), j1, rfl⟩
            · refine Ex_iload dX8_becomes_124 rfl ?_
              refine Ex_goto (tgt := 131) dX8_becomes_126 (by decide) ?_
              refine Ex_iret dX8_becomes_131 (by first | rfl | exact narrow_bI) ?_
              exact ⟨_, rfl, (by unfold r_becomes; rw [if_pos ⟨h5, hin, h24⟩, ec, ecn, if_pos h121]), j1, rfl⟩
          · omega
        · refine Ex_ldc dX8_becomes_27 kX8_71 ?_
          refine Ex_iret dX8_becomes_29 (by first | rfl | exact narrow_bI) ?_
          exact ⟨_, rfl, (by unfold r_becomes; rw [if_neg (fun q => h24 q.2.2)]), Fr.refl, rfl⟩
set_option maxRecDepth 100000 in
set_option maxHeartbeats 4000000 in
theorem l8_kept {T : TC} {I : MI} {G : MG} {F : FinT} {bb : Nat × Nat} (d : Nat) {D N : Nat} {g : Nat → Int32} (hD : DS T G D N) (hH : Hl T I G (D + 2) (D + 1) N g) (hT : HlS T G (D + 40) (D + 1)) (hN : D + 117 ≤ N) (n' : Nat) (hn' : n' < 100) (w : Int32) (kx : ∀ J, Fr (PS D N) I J → Ex T RX8 cX8_kept 7 (d + 6) F 30 [some (.ref D), some (.int (nI n')), some (.int w), some (.int (kpB g n' 11).2), some (.int (kpB g n' 11).1), some (.int (nI (10 * 11))), none] [] J G bb) : ∀ i k J, k + i = 11 → Fr (PS D N) I J → Ex T RX8 cX8_kept 7 (d + 6) F 30 [some (.ref D), some (.int (nI n')), some (.int w), some (.int (kpB g n' k).2), some (.int (kpB g n' k).1), some (.int (nI (10 * k))), none] [] J G bb := by
  have hS := hH.1
  have hn8 := hH.n8
  intro i
  induction i with
  | zero => intro k J h0 h1; have e0 : k = 11 := by omega
            subst e0; exact kx J h1
  | succ i ih =>
    intro k J h0 h1
    have hJ := hH.ps hD h1
    have key := ih (k + 1)
    have es : kpB g n' (k + 1) = if (kpB g n' k).2 < kpV g n' k then (nI (10 * k), kpV g n' k) else kpB g n' k := rfl
    rw [es] at key
    generalize kpB g n' k = q at key ⊢
    refine Ex_iload dX8_kept_30 rfl ?_
    refine Ex_bipush (v := nI 100) dX8_kept_32 (by rfl) ?_
    refine Ex_icmp_gtN (by omega) (by omega) (tgt := 93) dX8_kept_34 (by decide) (fun h34 => ?_) (fun h34 => ?_)
    · omega
    · refine Ex_aload_n dX8_kept_37 rfl ?_
      refine Ex_getr dX8_kept_38 fX8_23 (ds_o hD) (ds_t hD) ?_
      refine Ex_aload_n dX8_kept_41 rfl ?_
      refine Ex_getr dX8_kept_42 fX8_16 (ds_o hD) (ds_h hD) ?_
      refine Ex_V1v dX8_kept_45 sX8_200 (hl_o hT) (Nat.le_of_ble_eq_true rfl) (c1_become (d + 3) hT hJ (Or.inr (by omega)) (by omega)) ?_
      rintro J1 _ ⟨hT1, hF1, rfl⟩
      refine Ex_aload_n dX8_kept_48 rfl ?_
      refine Ex_getr dX8_kept_49 fX8_23 (ds_o hD) (ds_t hD) ?_
      refine Ex_iload dX8_kept_52 rfl ?_
      refine Ex_puti dX8_kept_54 fX8_124 rfl rfl rfl (hl_o hT) ?_
      have hT2 := hT1.fld (j := 2) (q := 3) (v := nI (10 * k)) (by decide) (by decide) (by decide)
      refine Ex_aload_n dX8_kept_57 rfl ?_
      refine Ex_getr dX8_kept_58 fX8_23 (ds_o hD) (ds_t hD) ?_
      refine Ex_iload_n dX8_kept_61 rfl ?_
      refine Ex_V1v dX8_kept_62 sX8_154 (hl_o hT) (Nat.le_of_ble_eq_true rfl) (c1_passDays d hT2 n' (by omega)) ?_
      rintro J2 _ ⟨hj, hf, rfl⟩
      refine Ex_aload_n dX8_kept_65 rfl ?_
      refine Ex_getr dX8_kept_66 fX8_23 (ds_o hD) (ds_t hD) ?_
      refine Ex_V0p dX8_kept_69 sX8_163 (hl_o hT) (Nat.le_of_ble_eq_true rfl) (c1_allLayers (d + 5) hj) ?_
      refine Ex_top (show _ = kpV g n' k by unfold kpV; rw [nS_days hT2.w]; congr 1) ?_
      refine Ex_istore dX8_kept_72 (by decide) rfl ?_
      simp only [List.set_cons_zero, List.set_cons_succ]
      refine Ex_iload dX8_kept_74 rfl ?_
      refine Ex_iload_n dX8_kept_76 rfl ?_
      refine Ex_icmp_le (tgt := 87) dX8_kept_77 (by decide) (fun h77 => ?_) (fun h77 => ?_)
      · first | refine Ex_iincN (m := 10) dX8_kept_87 rfl rfl (by decide) rfl ?_ | refine Ex_iinc dX8_kept_87 rfl rfl (by decide) rfl ?_
        simp only [List.set_cons_zero, List.set_cons_succ]
        refine Ex_goto (tgt := 30) dX8_kept_90 (by decide) ?_
        refine Ex_drop 6 ?_
        simp only [List.set_cons_zero, List.set_cons_succ]
        have k2 := key J2 (by omega) (((h1.trans (hF1.mono (fun x q => thPS (PBH q)))).si (Or.inl ⟨by omega, by omega⟩)).trans (hf.mono (fun x q => thPS q)))
        rw [if_neg (Int32.not_lt.mpr h77)] at k2
        exact k2
      · refine Ex_iload dX8_kept_80 rfl ?_
        refine Ex_istore_n dX8_kept_82 (by decide) rfl ?_
        simp only [st_n0, st_n1, st_n2, st_n3, List.set_cons_zero, List.set_cons_succ]
        refine Ex_iload dX8_kept_83 rfl ?_
        refine Ex_istore dX8_kept_85 (by decide) rfl ?_
        simp only [List.set_cons_zero, List.set_cons_succ]
        first | refine Ex_iincN (m := 10) dX8_kept_87 rfl rfl (by decide) rfl ?_ | refine Ex_iinc dX8_kept_87 rfl rfl (by decide) rfl ?_
        simp only [List.set_cons_zero, List.set_cons_succ]
        refine Ex_goto (tgt := 30) dX8_kept_90 (by decide) ?_
        refine Ex_drop 6 ?_
        simp only [List.set_cons_zero, List.set_cons_succ]
        have k2 := key J2 (by omega) (((h1.trans (hF1.mono (fun x q => thPS (PBH q)))).si (Or.inl ⟨by omega, by omega⟩)).trans (hf.mono (fun x q => thPS q)))
        rw [if_pos (Int32.not_le.mp h77)] at k2
        exact k2
set_option maxRecDepth 100000 in
set_option maxHeartbeats 4000000 in
theorem C8_kept {T : TC} {I : MI} {G : MG} (d : Nat) {D N : Nat} {g : Nat → Int32} (hD : DS T G D N) (hH : Hl T I G (D + 2) (D + 1) N g) (n w : Int32)  : OkI T mX8_kept (d + 6) [.ref D, .int n, .int w] I G (fun r I' G' => r = r_kept g n w ∧ Fr (PS D N) I I' ∧ G' = G) := by
  refine Ok_of (own := RX8) (by decide) rfl (cat1 rfl) (Nat.le_of_ble_eq_true rfl) ?_
  show Ex T RX8 cX8_kept 7 (d + 6) _ 0 [some (.ref D), some (.int n), some (.int w), none, none, none, none] [] I G (0, 0)
  have hS := hH.1
  have hn8 := hH.n8
  have hT := ds_T hD
  have hN := ds_N hD
  refine Ex_iload_n dX8_kept_0 rfl ?_
  refine Ex_iconst (v := nI 1) dX8_kept_1 (by rfl) ?_
  refine Ex_icmp_lt (tgt := 19) dX8_kept_2 (by decide) (fun h2 => ?_) (fun h2 => ?_)
  · refine Ex_ldc dX8_kept_19 kX8_71 ?_
    refine Ex_iret dX8_kept_21 (by first | rfl | exact narrow_bI) ?_
    exact ⟨_, rfl, (by unfold r_kept; rw [if_neg (fun q => absurd q.1.1 (Int32.not_le.mpr h2))]), Fr.refl, rfl⟩
  · refine Ex_iload_n dX8_kept_5 rfl ?_
    refine Ex_bipush (v := nI 60) dX8_kept_6 (by rfl) ?_
    refine Ex_icmp_gt (tgt := 19) dX8_kept_8 (by decide) (fun h8 => ?_) (fun h8 => ?_)
    · refine Ex_ldc dX8_kept_19 kX8_71 ?_
      refine Ex_iret dX8_kept_21 (by first | rfl | exact narrow_bI) ?_
      exact ⟨_, rfl, (by unfold r_kept; rw [if_neg (fun q => absurd q.1.2 (Int32.not_le.mpr h8))]), Fr.refl, rfl⟩
    · refine Ex_iload_n dX8_kept_11 rfl ?_
      refine Ex_iconst (v := nI 2) dX8_kept_12 (by rfl) ?_
      refine Ex_S2p dX8_kept_13 sX8_67  (Nat.le_of_ble_eq_true rfl) (c8_isBelow (d + 5) _ _) ?_
      refine Ex_if_neB (tgt := 22) dX8_kept_16 (by decide) (fun h16 => ?_) (fun h16 => ?_)
      · have hin : in1 n 60 := ⟨Int32.not_lt.mp h2, Int32.not_lt.mp h8⟩
        obtain ⟨n', hn1, hn2, en⟩ := (in1_k (by omega)).mp hin
        subst en
        have ecn : cl (nI n') = n' := cl_nI (by omega)
        refine Ex_iconst (v := (-1)) dX8_kept_22 (by rfl) ?_
        refine Ex_istore_n dX8_kept_23 (by decide) rfl ?_
        simp only [st_n0, st_n1, st_n2, st_n3, List.set_cons_zero, List.set_cons_succ]
        refine Ex_iconst (v := nI 0) dX8_kept_24 (by rfl) ?_
        refine Ex_istore dX8_kept_25 (by decide) rfl ?_
        simp only [List.set_cons_zero, List.set_cons_succ]
        refine Ex_iconst (v := nI 0) dX8_kept_27 (by rfl) ?_
        refine Ex_istore dX8_kept_28 (by decide) rfl ?_
        simp only [List.set_cons_zero, List.set_cons_succ]
        refine l8_kept (I := I) d hD hH hT hN n' (by omega) w ?_ 11 0 I (by omega) Fr.refl
        intro J j1
        refine Ex_iload dX8_kept_30 rfl ?_
        refine Ex_bipush (v := nI 100) dX8_kept_32 (by rfl) ?_
        refine Ex_icmp_gtN (by omega) (by omega) (tgt := 93) dX8_kept_34 (by decide) (fun h34 => ?_) (fun h34 => ?_)
        · refine Ex_iload_n dX8_kept_93 rfl ?_
          refine Ex_if_ne (tgt := 102) dX8_kept_94 (by decide) (fun h94 => ?_) (fun h94 => ?_)
          · refine Ex_iload_n dX8_kept_102 rfl ?_
            refine Ex_iret dX8_kept_103 (by first | rfl | exact narrow_bI) ?_
            exact ⟨_, rfl, (by unfold r_kept; rw [if_pos ⟨hin, h16⟩, ecn, if_neg h94]), j1, rfl⟩
          · refine Ex_iload dX8_kept_97 rfl ?_
            refine Ex_goto (tgt := 103) dX8_kept_99 (by decide) ?_
            refine Ex_iret dX8_kept_103 (by first | rfl | exact narrow_bI) ?_
            exact ⟨_, rfl, (by unfold r_kept; rw [if_pos ⟨hin, h16⟩, ecn, if_pos h94]), j1, rfl⟩
        · omega
      · refine Ex_ldc dX8_kept_19 kX8_71 ?_
        refine Ex_iret dX8_kept_21 (by first | rfl | exact narrow_bI) ?_
        exact ⟨_, rfl, (by unfold r_kept; rw [if_neg (fun q => h16 q.2)]), Fr.refl, rfl⟩
