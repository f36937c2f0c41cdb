/-! the class: whose, fee, fine, check, keep, back -/
theorem wD_b {g row : Nat → Int32} {s z : Nat} (hW : WfG g) (hs : s < 8) (hb : BdR row z) : ∀ k, k ≤ z → wD g row s k ≤ k * 100011
  | 0, _ => Nat.le_refl _
  | k + 1, hk => by
    have ih := wD_b (s := s) hW hs hb k (by omega)
    have hl := (WfG_days hW k).2.2.1 s hs
    have h9 : wA (row k) (daysG g k (8 + 17 * s + 2)) ≤ 100011 := by
      unfold wA
      split
      · omega
      · rename_i hn
        have := (hb k (by omega)).resolve_left hn
        rw [hl.1, nI_toInt (by have := hl.2.1; omega)]
        have := hl.2.1
        omega
    unfold wD
    omega
theorem pqPS {D N x : Nat} (q : PQ (D + 40) N (D + 63 + 17) x) : PS D N x := q.elim thPS (fun e => Or.inr (Or.inl ⟨by omega, by omega⟩))
set_option maxRecDepth 100000 in
set_option maxHeartbeats 4000000 in
theorem l8_whose {T : TC} {I : MI} {G : MG} {F : FinT} {bb : Nat × Nat} (d : Nat) {D N : Nat} {g : Nat → Int32} (hD : DS T G D N) (hH : Hl T I G (D + 2) (D + 1) N g) (x1 w : Int32) (f : Nat → Nat) (n : Nat) (hn : nS g = n) (hf : ∀ s, s < n → I (D + 63 + 17) s = nI (f s)) (hb : ∀ s, s < n → f s < 2 ^ 31) (kx : Ex T RX8 cX8_whose 6 (d + 6) F 87 [some (.ref D), some (.int x1), some (.int w), some (.ref (D + 63 + 17)), some (.int (nI (wb f n))), some (.int (nI n))] [] I G bb) : ∀ i k, k + 1 + i = n → Ex T RX8 cX8_whose 6 (d + 6) F 87 [some (.ref D), some (.int x1), some (.int w), some (.ref (D + 63 + 17)), some (.int (nI (wb f (k + 1)))), some (.int (nI (k + 1)))] [] I G bb := by
  have hS := hH.1
  have hn8 := hH.n8
  intro i
  induction i with
  | zero => intro k h0; have e0 : k + 1 = n := by omega
            rw [e0]; exact kx
  | succ i ih =>
    intro k h0
    have hwl := wb_lt (f := f) k
    have es : wb f (k + 1 + 1) = if f (k + 1) < f (wb f (k + 1)) then k + 1 else wb f (k + 1) := rfl
    have key := ih (k + 1) (by omega)
    rw [es] at key
    generalize wb f (k + 1) = q at key hwl ⊢
    have b1 := hb (k + 1) (by omega)
    have b2 := hb q (by omega)
    refine Ex_iload dX8_whose_87 rfl ?_
    refine Ex_aload_n dX8_whose_89 rfl ?_
    refine Ex_getr dX8_whose_90 fX8_16 (ds_o hD) (ds_h hD) ?_
    refine Ex_geti dX8_whose_93 fX8_72 (hl_o hS) ?_
    refine Ex_top (show _ = nI n by rw [hH.n, hn]) ?_
    refine Ex_icmp_geN (by omega) (by omega) (tgt := 120) dX8_whose_96 (by decide) (fun h96 => ?_) (fun h96 => ?_)
    · omega
    · refine Ex_aload_n dX8_whose_99 rfl ?_
      refine Ex_iload dX8_whose_100 rfl ?_
      refine Ex_iald dX8_whose_102 (rd_dI (ds_rd hD)) rfl (by rw [rd_dN (ds_rd hD)]; omega) (by rw [rd_dN (ds_rd hD)]; decide) ?_
      refine Ex_top (hf (k + 1) (by omega)) ?_
      refine Ex_aload_n dX8_whose_103 rfl ?_
      refine Ex_iload dX8_whose_104 rfl ?_
      refine Ex_iald dX8_whose_106 (rd_dI (ds_rd hD)) rfl (by rw [rd_dN (ds_rd hD)]; omega) (by rw [rd_dN (ds_rd hD)]; decide) ?_
      refine Ex_top (hf q (by omega)) ?_
      refine Ex_icmp_geN (by omega) (by omega) (tgt := 114) dX8_whose_107 (by decide) (fun h107 => ?_) (fun h107 => ?_)
      · first | refine Ex_iincN (m := 1) dX8_whose_114 rfl rfl (by decide) rfl ?_ | refine Ex_iinc dX8_whose_114 rfl rfl (by decide) rfl ?_
        simp only [List.set_cons_zero, List.set_cons_succ]
        refine Ex_goto (tgt := 87) dX8_whose_117 (by decide) ?_
        rw [if_neg (by omega)] at key
        exact key
      · refine Ex_iload dX8_whose_110 rfl ?_
        refine Ex_istore dX8_whose_112 (by decide) rfl ?_
        simp only [List.set_cons_zero, List.set_cons_succ]
        first | refine Ex_iincN (m := 1) dX8_whose_114 rfl rfl (by decide) rfl ?_ | refine Ex_iinc dX8_whose_114 rfl rfl (by decide) rfl ?_
        simp only [List.set_cons_zero, List.set_cons_succ]
        refine Ex_goto (tgt := 87) dX8_whose_117 (by decide) ?_
        rw [if_pos (by omega)] at key
        exact key
set_option maxRecDepth 100000 in
set_option maxHeartbeats 4000000 in
theorem C8_whose {T : TC} {I : MI} {G : MG} (d : Nat) {D N : Nat} {g : Nat → Int32} (hD : DS T G D N) (hH : Hl T I G (D + 2) (D + 1) N g) {so : Nat → Int32} {sz : Nat → Nat} {ce : Nat → Nat → Int32} (hA : ShA I D so sz ce) (s w : Int32)  : OkI T mX8_whose (d + 6) [.ref D, .int s, .int w] I G (fun r I' G' => r = r_whose g so sz ce s w ∧ Fr (PS D N) I I' ∧ G' = G) := by
  refine Ok_of (own := RX8) (by decide) rfl (cat1 rfl) (Nat.le_of_ble_eq_true rfl) ?_
  show Ex T RX8 cX8_whose 6 (d + 6) _ 0 [some (.ref D), some (.int s), some (.int w), none, none, none] [] I G (0, 0)
  have hS := hH.1
  have hn8 := hH.n8
  have hT := ds_T hD
  have hN := ds_N hD
  refine Ex_iload_n dX8_whose_0 rfl ?_
  refine Ex_iconst (v := nI 4) dX8_whose_1 (by rfl) ?_
  refine Ex_S2p dX8_whose_2 sX8_67  (Nat.le_of_ble_eq_true rfl) (c8_isBelow (d + 5) _ _) ?_
  refine Ex_if_eqB (tgt := 16) dX8_whose_5 (by decide) (fun h5 => ?_) (fun h5 => ?_)
  · refine Ex_ldc dX8_whose_16 kX8_71 ?_
    refine Ex_iret dX8_whose_18 (by first | rfl | exact narrow_bI) ?_
    exact ⟨_, rfl, (by unfold r_whose; rw [if_neg (fun q => h5 q.1)]), Fr.refl, rfl⟩
  · refine Ex_iload_n dX8_whose_8 rfl ?_
    refine Ex_iconst (v := nI 2) dX8_whose_9 (by rfl) ?_
    refine Ex_S2p dX8_whose_10 sX8_67  (Nat.le_of_ble_eq_true rfl) (c8_isBelow (d + 5) _ _) ?_
    refine Ex_if_neB (tgt := 19) dX8_whose_13 (by decide) (fun h13 => ?_) (fun h13 => ?_)
    · obtain ⟨s', hs', es⟩ := (rng_k (by omega)).mp h5
      subst es
      have ecs : cl (nI s') = s' := cl_nI (by omega)
      have hsh := hA s' hs'
      have hz := hsh.1.2.2.1
      refine Ex_aload_n dX8_whose_19 rfl ?_
      refine Ex_getr dX8_whose_20 fX8_51 (ds_o hD) (ds_sh hD) ?_
      refine Ex_iload_n dX8_whose_23 rfl ?_
      refine Ex_aaldSh dX8_whose_24 (ds_shI hD) rfl (by rw [ds_shN hD]; omega) (by rw [ds_shN hD]; decide) (ds_shk hD s' (by omega)) ?_
      refine Ex_geti dX8_whose_25 fX8_212 (ds_shS hD s' hs').1 ?_
      refine Ex_top hsh.1.1 ?_
      refine Ex_iconst (v := (-1)) dX8_whose_28 (by rfl) ?_
      refine Ex_icmp_ne (tgt := 35) dX8_whose_29 (by decide) (fun h29 => ?_) (fun h29 => ?_)
      · refine Ex_aload_n dX8_whose_35 rfl ?_
        refine Ex_getr dX8_whose_36 fX8_16 (ds_o hD) (ds_h hD) ?_
        refine Ex_geti dX8_whose_39 fX8_72 (hl_o hS) ?_
        refine Ex_top hH.n ?_
        refine Ex_if_ne (tgt := 48) dX8_whose_42 (by decide) (fun h42 => ?_) (fun h42 => ?_)
        · have hn0 : ¬ nS g = 0 := fun e => h42 (by rw [e]; rfl)
          have hbd : BdR (ce s') (sz s') := fun k hk => hsh.2.2 k (by omega)
          refine Ex_aload_n dX8_whose_48 rfl ?_
          refine Ex_getr dX8_whose_49 fX8_23 (ds_o hD) (ds_t hD) ?_
          refine Ex_aload_n dX8_whose_52 rfl ?_
          refine Ex_getr dX8_whose_53 fX8_16 (ds_o hD) (ds_h hD) ?_
          refine Ex_V1v dX8_whose_56 sX8_200 (hl_o hT) (Nat.le_of_ble_eq_true rfl) (c1_become (d + 3) hT hH (Or.inr (by omega)) (by omega)) ?_
          rintro J1 _ ⟨hT1, hF1, rfl⟩
          have hA1 := (hA.ps hN (hF1.mono (fun x q => thPS (PBH q)))) s' hs'
          refine Ex_aload_n dX8_whose_59 rfl ?_
          refine Ex_getr dX8_whose_60 fX8_45 (ds_o hD) (ds_rdr hD) ?_
          refine Ex_getr dX8_whose_63 fX8_216 (rd_o (ds_rd hD)) (rd_d (ds_rd hD)) ?_
          refine Ex_astore_n dX8_whose_66 (by decide) rfl ?_
          simp only [st_n0, st_n1, st_n2, st_n3, List.set_cons_zero, List.set_cons_succ]
          refine Ex_aload_n dX8_whose_67 rfl ?_
          refine Ex_getr dX8_whose_68 fX8_23 (ds_o hD) (ds_t hD) ?_
          refine Ex_aload_n dX8_whose_71 rfl ?_
          refine Ex_getr dX8_whose_72 fX8_51 (ds_o hD) (ds_sh hD) ?_
          refine Ex_iload_n dX8_whose_75 rfl ?_
          refine Ex_aaldSh dX8_whose_76 (ds_shI hD) rfl (by rw [ds_shN hD]; omega) (by rw [ds_shN hD]; decide) (ds_shk hD s' (by omega)) ?_
          refine Ex_aload_n dX8_whose_77 rfl ?_
          refine Ex_V2v dX8_whose_78 sX8_219 (hl_o hT) (Nat.le_of_ble_eq_true rfl) (c1_addDifferences d hH.w (ds_shS hD s' hs') (rd_dI (ds_rd hD)) (rd_dN (ds_rd hD)) (ce s') (sz s') (nS g) rfl hA1.1.2.1 hz (fun k hk => hA1.1.2.2.2 k (by omega)) hbd (fun q => by unfold PQ PH at q; omega) (fun q => by unfold PQ PH at q; omega) (fun q => by unfold PH at q; omega) (by omega) hT1) ?_
          rintro J2 _ ⟨hj1, hf, rfl⟩
          have hJ2 := hH.ps hD ((hF1.mono (fun x q => thPS (PBH q))).trans (hf.mono (fun x q => pqPS q)))
          refine Ex_iconst (v := nI 0) dX8_whose_81 (by rfl) ?_
          refine Ex_istore dX8_whose_82 (by decide) rfl ?_
          simp only [List.set_cons_zero, List.set_cons_succ]
          refine Ex_iconst (v := nI 1) dX8_whose_84 (by rfl) ?_
          refine Ex_istore dX8_whose_85 (by decide) rfl ?_
          simp only [List.set_cons_zero, List.set_cons_succ]
          have hb9 : ∀ s, s < nS g → wD g (ce s') s (sz s') < 2 ^ 31 := fun s hs => by have := wD_b (s := s) hH.w (by omega) hbd (sz s') (Nat.le_refl _); omega
          show Ex T RX8 cX8_whose 6 (d + 6) _ 87 [some (.ref D), some (.int (nI s')), some (.int w), some (.ref (D + 63 + 17)), some (.int (nI 0)), some (.int (nI 1))] [] J2 _ (0, 0)
          rw [← wb_1 (f := fun j => wD g (ce s') j (sz s'))]
          have hwl := wb_lt (f := fun j => wD g (ce s') j (sz s')) (nS g - 1)
          rw [show nS g - 1 + 1 = nS g by omega] at hwl
          refine l8_whose (I := J2) d hD hJ2 _ w (fun j => wD g (ce s') j (sz s')) (nS g) rfl hj1 hb9 ?_ (nS g - 1) 0 (by omega)
          refine Ex_iload dX8_whose_87 rfl ?_
          refine Ex_aload_n dX8_whose_89 rfl ?_
          refine Ex_getr dX8_whose_90 fX8_16 (ds_o hD) (ds_h hD) ?_
          refine Ex_geti dX8_whose_93 fX8_72 (hl_o hS) ?_
          refine Ex_top (show _ = nI (nS g) by rw [hJ2.n]) ?_
          refine Ex_icmp_geN (by omega) (by omega) (tgt := 120) dX8_whose_96 (by decide) (fun h96 => ?_) (fun h96 => ?_)
          · refine Ex_iload_n dX8_whose_120 rfl ?_
            refine Ex_if_ne (tgt := 129) dX8_whose_121 (by decide) (fun h121 => ?_) (fun h121 => ?_)
            · refine Ex_aload_n dX8_whose_129 rfl ?_
              refine Ex_iload dX8_whose_130 rfl ?_
              refine Ex_iald dX8_whose_132 (rd_dI (ds_rd hD)) rfl (by rw [rd_dN (ds_rd hD)]; omega) (by rw [rd_dN (ds_rd hD)]; decide) ?_
              refine Ex_iret dX8_whose_133 (by first | rfl | exact narrow_bI) ?_
              exact ⟨_, rfl, (by unfold r_whose wR; rw [if_pos ⟨h5, h13⟩, ecs, if_neg (fun q => h29 ((so_neg hsh.2.1).mp q)), if_neg hn0, if_neg h121]; exact hj1 _ (by omega)), (hF1.mono (fun x q => thPS (PBH q))).trans (hf.mono (fun x q => pqPS q)), rfl⟩
            · refine Ex_iload dX8_whose_124 rfl ?_
              refine Ex_goto (tgt := 133) dX8_whose_126 (by decide) ?_
              refine Ex_iret dX8_whose_133 (by first | rfl | exact narrow_bI) ?_
              exact ⟨_, rfl, (by unfold r_whose wR; rw [if_pos ⟨h5, h13⟩, ecs, if_neg (fun q => h29 ((so_neg hsh.2.1).mp q)), if_neg hn0, if_pos h121]), (hF1.mono (fun x q => thPS (PBH q))).trans (hf.mono (fun x q => pqPS q)), rfl⟩
          · omega
        · refine Ex_ldc dX8_whose_45 kX8_119 ?_
          refine Ex_iret dX8_whose_47 (by first | rfl | exact narrow_bI) ?_
          exact ⟨_, rfl, (by unfold r_whose wR; rw [if_pos ⟨h5, h13⟩, ecs, if_neg (fun q => h29 ((so_neg hsh.2.1).mp q)), if_pos ((nI_eq (b := 0) (by omega) (by omega)).mp h42)]), Fr.refl, rfl⟩
      · refine Ex_ldc dX8_whose_32 kX8_215 ?_
        refine Ex_iret dX8_whose_34 (by first | rfl | exact narrow_bI) ?_
        exact ⟨_, rfl, (by unfold r_whose; rw [if_pos ⟨h5, h13⟩, ecs, if_pos ((so_neg hsh.2.1).mpr h29)]), Fr.refl, rfl⟩
    · refine Ex_ldc dX8_whose_16 kX8_71 ?_
      refine Ex_iret dX8_whose_18 (by first | rfl | exact narrow_bI) ?_
      exact ⟨_, rfl, (by unfold r_whose; rw [if_neg (fun q => h13 q.2)]), Fr.refl, rfl⟩
set_option maxRecDepth 100000 in
set_option maxHeartbeats 4000000 in
theorem t8_feeN {T : TC} {I : MI} {G : MG} (d : Nat) {D N : Nat} {g : Nat → Int32} (hD : DS T G D N) (hH : Hl T I G (D + 2) (D + 1) N g) (hc : cntF g (nI 1) (tN g) = none) : Ex T RX8 cX8_fee 2 (d + 2) (fm T "fee" (some .int) (fun v I' G' => ∃ r, v = some (.int r) ∧ r = r_fee g ∧ Fr (PS D N) I I' ∧ G' = G)) 8 [some (.ref D), none] [.null] I G (0, 0) := by
  have hS := hH.1
  refine Ex_astore_nN dX8_fee_8 (by decide) rfl ?_
  simp only [st_n0, st_n1, st_n2, st_n3, List.set_cons_zero, List.set_cons_succ]
  refine Ex_aload_nN dX8_fee_9 rfl ?_
  refine Ex_ifnonnullN dX8_fee_10 ?_
  refine Ex_aload_n dX8_fee_13 rfl ?_
  refine Ex_getr dX8_fee_14 fX8_16 (ds_o hD) (ds_h hD) ?_
  refine Ex_geti dX8_fee_17 fX8_151 (hl_o hS) ?_
  refine Ex_goto (tgt := 42) dX8_fee_20 (by decide) ?_
  refine Ex_iret dX8_fee_42 (by first | rfl | exact narrow_bI) ?_
  exact ⟨_, rfl, (by unfold r_fee; rw [hc]; exact hH.fx (j := 4) (q := 5) (by decide)), Fr.refl, rfl⟩
set_option maxRecDepth 100000 in
set_option maxHeartbeats 4000000 in
theorem t8_feeS {T : TC} {I : MI} {G : MG} (d : Nat) {D N : Nat} {g : Nat → Int32} (hD : DS T G D N) (hH : Hl T I G (D + 2) (D + 1) N g) (t j : Nat) (hc : cntF g (nI 1) (tN g) = some t) (hj : TeS T G (N + 3 * j) (cdN g t)) (hst : ∀ k, k < cdN g t → I (N + 3 * j + 1) k = spI (cdF g t k)) (hT : TxOk g t) : Ex T RX8 cX8_fee 2 (d + 2) (fm T "fee" (some .int) (fun v I' G' => ∃ r, v = some (.int r) ∧ r = r_fee g ∧ Fr (PS D N) I I' ∧ G' = G)) 8 [some (.ref D), none] [.ref (N + 3 * j)] I G (0, 0) := by
  have hS := hH.1
  have hnm : nmOf (kyN g t) ≤ 3 := by unfold nmOf; split <;> omega
  refine Ex_astore_n dX8_fee_8 (by decide) rfl ?_
  simp only [st_n0, st_n1, st_n2, st_n3, List.set_cons_zero, List.set_cons_succ]
  refine Ex_aload_n dX8_fee_9 rfl ?_
  refine Ex_ifnonnull (tgt := 23) dX8_fee_10 (by decide) ?_
  refine Ex_aload_n dX8_fee_23 rfl ?_
  refine Ex_aload_n dX8_fee_24 rfl ?_
  refine Ex_getr dX8_fee_25 fX8_16 (ds_o hD) (ds_h hD) ?_
  refine Ex_geti dX8_fee_28 fX8_151 (hl_o hS) ?_
  refine Ex_top (hH.fx (j := 4) (q := 5) (by decide)) ?_
  refine Ex_aload_n dX8_fee_31 rfl ?_
  refine Ex_getr dX8_fee_32 fX8_16 (ds_o hD) (ds_h hD) ?_
  refine Ex_geti dX8_fee_35 fX8_157 (hl_o hS) ?_
  refine Ex_top (hH.fx (j := 5) (q := 6) (by decide)) ?_
  refine Ex_iconst (v := nI 0) dX8_fee_38 (by rfl) ?_
  refine Ex_V3i dX8_fee_39 sX8_227 hj.1 (Nat.le_of_ble_eq_true rfl) (c7_gives d (cdF g t) (cdN g t) (nmOf (kyN g t)) _ _ _ hT.2.1 hnm hst hT.2.2.2 hj) ?_
  rintro r I1 _ ⟨rfl, hF, rfl⟩
  refine Ex_iret dX8_fee_42 (by first | rfl | exact narrow_bI) ?_
  exact ⟨_, rfl, (by unfold r_fee; rw [hc]; rfl), hF.mono (fun x q => by subst q; exact Or.inr (Or.inr ⟨by omega, by omega⟩)), rfl⟩
set_option maxRecDepth 100000 in
set_option maxHeartbeats 4000000 in
theorem C8_fee {T : TC} {I : MI} {G : MG} (d : Nat) {D N : Nat} {g : Nat → Int32} (hD : DS T G D N) (hH : Hl T I G (D + 2) (D + 1) N g)  : OkI T mX8_fee (d + 2) [.ref D] I G (fun r I' G' => r = r_fee g ∧ Fr (PS D N) I I' ∧ G' = G) := by
  refine Ok_of (own := RX8) (by decide) rfl (cat1 rfl) (Nat.le_of_ble_eq_true rfl) ?_
  show Ex T RX8 cX8_fee 2 (d + 2) _ 0 [some (.ref D), none] [] I G (0, 0)
  have hS := hH.1
  have hn8 := hH.n8
  refine Ex_aload_n dX8_fee_0 rfl ?_
  refine Ex_getr dX8_fee_1 fX8_16 (ds_o hD) (ds_h hD) ?_
  refine Ex_iconst (v := nI 1) dX8_fee_4 (by rfl) ?_
  refine Ex_V1r dX8_fee_5 sX8_223 (hl_o hS) (Nat.le_of_ble_eq_true rfl) (c1_standingText (d + 1) hH 1 (by omega)) ?_
  unfold stT
  cases hc : cntF g (nI 1) (tN g) with
  | none => exact t8_feeN d hD hH hc
  | some t =>
    have hlt := (cntF_lt hc).1
    obtain ⟨j, hj, hj2, -, -, hj5⟩ := hH.2.2.2.1 t hlt
    show Ex _ _ _ _ _ _ _ _ [va_rf (gR G (D + 1) t)] _ _ _
    rw [hj]
    exact t8_feeS d hD hH t j hc hj2 hj5 (hH.w.2.2.2.2.2 t hlt)
set_option maxRecDepth 100000 in
set_option maxHeartbeats 4000000 in
theorem t8_fineN {T : TC} {I : MI} {G : MG} (d : Nat) {D N : Nat} {g : Nat → Int32} (hD : DS T G D N) (hH : Hl T I G (D + 2) (D + 1) N g) (s : Nat) (hs : s < nS g) (hc : cntF g (nI 2) (tN g) = none) : Ex T RX8 cX8_fine 4 (d + 2) (fm T "fine" (some .int) (fun v I' G' => ∃ r, v = some (.int r) ∧ r = r_fine' g s ∧ Fr (PS D N) I I' ∧ G' = G)) 29 [some (.ref D), some (.int (nI s)), some (.ref (D + 2 + 3 + 2 * s)), none] [.null] I G (0, 0) := by
  have hS := hH.1
  have hn8 := hH.n8
  refine Ex_astore_nN dX8_fine_29 (by decide) rfl ?_
  simp only [st_n0, st_n1, st_n2, st_n3, List.set_cons_zero, List.set_cons_succ]
  refine Ex_aload_nN dX8_fine_30 rfl ?_
  refine Ex_ifnonnullN dX8_fine_31 ?_
  refine Ex_aload_n dX8_fine_34 rfl ?_
  refine Ex_geti dX8_fine_35 fX8_97 (hl_S hS s (by omega)).1 ?_
  refine Ex_goto (tgt := 54) dX8_fine_38 (by decide) ?_
  refine Ex_iret dX8_fine_54 (by first | rfl | exact narrow_bI) ?_
  exact ⟨_, rfl, (by unfold r_fine'; rw [hc]; exact (hH.sf hs).1 2 (by omega)), Fr.refl, rfl⟩
set_option maxRecDepth 100000 in
set_option maxHeartbeats 4000000 in
theorem t8_fineS {T : TC} {I : MI} {G : MG} (d : Nat) {D N : Nat} {g : Nat → Int32} (hD : DS T G D N) (hH : Hl T I G (D + 2) (D + 1) N g) (s : Nat) (hs : s < nS g) (t j : Nat) (hc : cntF g (nI 2) (tN g) = some t) (hj : TeS T G (N + 3 * j) (cdN g t)) (hst : ∀ k, k < cdN g t → I (N + 3 * j + 1) k = spI (cdF g t k)) (hT : TxOk g t) : Ex T RX8 cX8_fine 4 (d + 2) (fm T "fine" (some .int) (fun v I' G' => ∃ r, v = some (.int r) ∧ r = r_fine' g s ∧ Fr (PS D N) I I' ∧ G' = G)) 29 [some (.ref D), some (.int (nI s)), some (.ref (D + 2 + 3 + 2 * s)), none] [.ref (N + 3 * j)] I G (0, 0) := by
  have hS := hH.1
  have hn8 := hH.n8
  have hnm : nmOf (kyN g t) ≤ 3 := by unfold nmOf; split <;> omega
  refine Ex_astore_n dX8_fine_29 (by decide) rfl ?_
  simp only [st_n0, st_n1, st_n2, st_n3, List.set_cons_zero, List.set_cons_succ]
  refine Ex_aload_n dX8_fine_30 rfl ?_
  refine Ex_ifnonnull (tgt := 41) dX8_fine_31 (by decide) ?_
  refine Ex_aload_n dX8_fine_41 rfl ?_
  refine Ex_aload_n dX8_fine_42 rfl ?_
  refine Ex_geti dX8_fine_43 fX8_97 (hl_S hS s (by omega)).1 ?_
  refine Ex_top ((hH.sf hs).1 2 (by omega)) ?_
  refine Ex_aload_n dX8_fine_46 rfl ?_
  refine Ex_geti dX8_fine_47 fX8_98 (hl_S hS s (by omega)).1 ?_
  refine Ex_top ((hH.sf hs).1 3 (by omega)) ?_
  refine Ex_iconst (v := nI 0) dX8_fine_50 (by rfl) ?_
  refine Ex_V3i dX8_fine_51 sX8_227 hj.1 (Nat.le_of_ble_eq_true rfl) (c7_gives d (cdF g t) (cdN g t) (nmOf (kyN g t)) _ _ _ hT.2.1 hnm hst hT.2.2.2 hj) ?_
  rintro r I1 _ ⟨rfl, hF, rfl⟩
  refine Ex_iret dX8_fine_54 (by first | rfl | exact narrow_bI) ?_
  exact ⟨_, rfl, (by unfold r_fine'; rw [hc]; rfl), hF.mono (fun x q => by subst q; exact Or.inr (Or.inr ⟨by omega, by omega⟩)), rfl⟩
set_option maxRecDepth 100000 in
set_option maxHeartbeats 4000000 in
theorem C8_fine {T : TC} {I : MI} {G : MG} (d : Nat) {D N : Nat} {g : Nat → Int32} (hD : DS T G D N) (hH : Hl T I G (D + 2) (D + 1) N g) (s : Int32)  : OkI T mX8_fine (d + 2) [.ref D, .int s] I G (fun r I' G' => r = r_fine g s ∧ Fr (PS D N) I I' ∧ G' = G) := by
  refine Ok_of (own := RX8) (by decide) rfl (cat1 rfl) (Nat.le_of_ble_eq_true rfl) ?_
  show Ex T RX8 cX8_fine 4 (d + 2) _ 0 [some (.ref D), some (.int s), none, none] [] I G (0, 0)
  have hS := hH.1
  have hn8 := hH.n8
  refine Ex_aload_n dX8_fine_0 rfl ?_
  refine Ex_iload_n dX8_fine_1 rfl ?_
  refine Ex_V1p dX8_fine_2 sX8_81 (ds_o hD) (Nat.le_of_ble_eq_true rfl) (c8_isSurface (d) hD hH _) ?_
  refine Ex_if_neB (tgt := 11) dX8_fine_5 (by decide) (fun h5 => ?_) (fun h5 => ?_)
  · obtain ⟨s', hs', es⟩ := (rng_k (by omega)).mp h5
    subst es
    have ec : cl (nI s') = s' := cl_nI (by omega)
    have hl := hH.ly (s := s') (by omega)
    have hsf := hH.sf hs'
    rw [show r_fine g (nI s') = r_fine' g s' by unfold r_fine; rw [if_pos h5, ec]]
    refine Ex_aload_n dX8_fine_11 rfl ?_
    refine Ex_getr dX8_fine_12 fX8_16 (ds_o hD) (ds_h hD) ?_
    refine Ex_getr dX8_fine_15 fX8_85 (hl_o hS) (hl_s hS) ?_
    refine Ex_iload_n dX8_fine_18 rfl ?_
    refine Ex_aaldSu dX8_fine_19 (hl_sI hS) rfl (by rw [hl_sN hS]; omega) (by rw [hl_sN hS]; decide) (hl_k hS s' (by omega)) ?_
    refine Ex_astore_n dX8_fine_20 (by decide) rfl ?_
    simp only [st_n0, st_n1, st_n2, st_n3, List.set_cons_zero, List.set_cons_succ]
    refine Ex_aload_n dX8_fine_21 rfl ?_
    refine Ex_getr dX8_fine_22 fX8_16 (ds_o hD) (ds_h hD) ?_
    refine Ex_iconst (v := nI 2) dX8_fine_25 (by rfl) ?_
    refine Ex_V1r dX8_fine_26 sX8_223 (hl_o hS) (Nat.le_of_ble_eq_true rfl) (c1_standingText (d + 1) hH 2 (by omega)) ?_
    unfold stT
    cases hc : cntF g (nI 2) (tN g) with
    | none => exact t8_fineN d hD hH s' hs' hc
    | some t =>
      have hlt := (cntF_lt hc).1
      obtain ⟨j, hj, hj2, -, -, hj5⟩ := hH.2.2.2.1 t hlt
      show Ex _ _ _ _ _ _ _ _ [va_rf (gR G (D + 1) t)] _ _ _
      rw [hj]
      exact t8_fineS d hD hH s' hs' t j hc hj2 hj5 (hH.w.2.2.2.2.2 t hlt)
  · refine Ex_ldc dX8_fine_8 kX8_71 ?_
    refine Ex_iret dX8_fine_10 (by first | rfl | exact narrow_bI) ?_
    exact ⟨_, rfl, (by unfold r_fine; rw [if_neg h5]), Fr.refl, rfl⟩
set_option maxRecDepth 100000 in
set_option maxHeartbeats 4000000 in
theorem C8_keep {T : TC} {I : MI} {G : MG} (d : Nat) {D N : Nat} {g : Nat → Int32} (hD : DS T G D N) (hH : Hl T I G (D + 2) (D + 1) N g)  : OkI T mX8_keep (d + 3) [.ref D] I G (fun r I' G' => r = g 1 ∧ Hl T I' G (D + 21) (D + 1) N g ∧ I' D = upd (I D) 3 (nI 1) ∧ Fr (fun x => x = D ∨ PB (D + 21) x) I I' ∧ G' = G) := by
  refine Ok_of (own := RX8) (by decide) rfl (cat1 rfl) (Nat.le_of_ble_eq_true rfl) ?_
  show Ex T RX8 cX8_keep 1 (d + 3) _ 0 [some (.ref D)] [] I G (0, 0)
  have hS := hH.1
  have hn8 := hH.n8
  have hT := ds_T hD
  have hN := ds_N hD
  have hI2 := ds_I hD
  refine Ex_aload_n dX8_keep_0 rfl ?_
  refine Ex_getr dX8_keep_1 fX8_20 (ds_o hD) (ds_i hD) ?_
  refine Ex_aload_n dX8_keep_4 rfl ?_
  refine Ex_getr dX8_keep_5 fX8_16 (ds_o hD) (ds_h hD) ?_
  refine Ex_V1v dX8_keep_8 sX8_200 (hl_o hI2) (Nat.le_of_ble_eq_true rfl) (c1_become d hI2 hH (Or.inr (by omega)) (by omega)) ?_
  rintro J _ ⟨hj, hf, rfl⟩
  refine Ex_aload_n dX8_keep_11 rfl ?_
  refine Ex_iconst (v := nI 1) dX8_keep_12 (by rfl) ?_
  refine Ex_puti dX8_keep_13 fX8_320 rfl rfl rfl (ds_o hD) ?_
  refine Ex_aload_n dX8_keep_16 rfl ?_
  refine Ex_getr dX8_keep_17 fX8_20 (ds_o hD) (ds_i hD) ?_
  refine Ex_geti dX8_keep_20 fX8_72 (hl_o hI2) ?_
  have hj2 := hj.fr' (P := fun x => x = D) (J := setI J D 3 (nI 1)) (fun x hx => setI_a hx) (fun x e q => by unfold PB at q; omega) (fun x e => by omega)
  refine Ex_top (show _ = g 1 from hj2.fx (j := 1) (q := 1) (by decide)) ?_
  refine Ex_iret dX8_keep_23 (by first | rfl | exact narrow_bI) ?_
  exact ⟨_, rfl, rfl, hj2, (by rw [setI_u, hf D (fun q => by unfold PB at q; omega)]), (hf.mono (fun x q => Or.inr q)).si (Or.inl rfl), rfl⟩
set_option maxRecDepth 100000 in
set_option maxHeartbeats 4000000 in
theorem C8_back {T : TC} {I : MI} {G : MG} (d : Nat) {D N : Nat} {gi : Nat → Int32} (hD : DS T G D N) (hI : ¬ I D 3 = 0 → Hl T I G (D + 21) (D + 1) N gi) : OkI T mX8_back (d + 3) [.ref D] I G (fun r I' G' => r = (if I D 3 = 0 then cNO else gi 1) ∧ (if I D 3 = 0 then I' = I else Hl T I' G (D + 2) (D + 1) N gi ∧ Fr (PB (D + 2)) I I') ∧ G' = G) := by
  refine Ok_of (own := RX8) (by decide) rfl (cat1 rfl) (Nat.le_of_ble_eq_true rfl) ?_
  show Ex T RX8 cX8_back 1 (d + 3) _ 0 [some (.ref D)] [] I G (0, 0)
  have hS := ds_H hD
  have hI2 := ds_I hD
  have hN := ds_N hD
  refine Ex_aload_n dX8_back_0 rfl ?_
  refine Ex_geti dX8_back_1 fX8_320 (ds_o hD) ?_
  refine Ex_if_ne (tgt := 11) dX8_back_4 (by decide) (fun h4 => ?_) (fun h4 => ?_)
  · have hH2 := hI h4
    refine Ex_aload_n dX8_back_11 rfl ?_
    refine Ex_getr dX8_back_12 fX8_16 (ds_o hD) (ds_h hD) ?_
    refine Ex_aload_n dX8_back_15 rfl ?_
    refine Ex_getr dX8_back_16 fX8_20 (ds_o hD) (ds_i hD) ?_
    refine Ex_V1v dX8_back_19 sX8_200 (hl_o hS) (Nat.le_of_ble_eq_true rfl) (c1_become d hS hH2 (Or.inl (by omega)) (by omega)) ?_
    rintro J _ ⟨hj, hf, rfl⟩
    refine Ex_aload_n dX8_back_22 rfl ?_
    refine Ex_getr dX8_back_23 fX8_16 (ds_o hD) (ds_h hD) ?_
    refine Ex_geti dX8_back_26 fX8_72 (hl_o hS) ?_
    refine Ex_iret dX8_back_29 (by first | rfl | exact narrow_bI) ?_
    exact ⟨_, rfl, (by rw [if_neg h4]; exact hj.fx (j := 1) (q := 1) (by decide)), (by rw [if_neg h4]; exact ⟨hj, hf⟩), rfl⟩
  · refine Ex_ldc_w dX8_back_7 kX8_316 ?_
    refine Ex_iret dX8_back_10 (by first | rfl | exact narrow_bI) ?_
    exact ⟨_, rfl, (by rw [if_pos h4]), (by rw [if_pos h4]), rfl⟩
set_option maxRecDepth 100000 in
set_option maxHeartbeats 4000000 in
theorem l8_check {T : TC} {I : MI} {G : MG} (d : Nat) {D N : Nat} {gi : Nat → Int32} (hD : DS T G D N) (hT : HlS T G (D + 40) (D + 1)) (hN : D + 117 ≤ N) (tl : Nat → Int32) (m R : Nat) (hm : m ≤ 60) (hR : R ≤ 30) (htl : ∀ k, k < m → I (D + 116) k = tl k) (hW : WfG gi) (x1 : Int32) : ∀ i k J, k + i = R → ckL gi tl m i k = ckL gi tl m R 0 → Hl T J G (D + 40) (D + 1) N (daysG gi k) → J D = upd (I D) 10 (nI 0) → Fr (fun x => x = D ∨ PS D N x) I J → Ex T RX8 cX8_check 6 (d + 5) (fm T "check" (some .int) (fun v I' G' => ∃ r, v = some (.int r) ∧ r = ckA (ckL gi tl m R 0) m R ∧ I' D = upd (I D) 10 (nI 0) ∧ Fr (fun x => x = D ∨ PS D N x) I I' ∧ G' = G)) 68 [some (.ref D), some (.int x1), some (.int (nI m)), some (.int (nI R)), some (.int (nI (2 * k))), some (.int (nI k))] [] J G (0, 0) := by
  intro i
  induction i with
  | zero =>
    intro k J h0 hc hJ h1 h2
    have e0 : k = R := by omega
    subst e0
    have hc2 : 2 * k = ckL gi tl m k 0 := hc
    refine Ex_iload dX8_check_68 rfl ?_
    refine Ex_iload_n dX8_check_70 rfl ?_
    refine Ex_icmp_geN (by omega) (by omega) (tgt := 149) dX8_check_71 (by decide) (fun h71 => ?_) (fun h71 => ?_)
    · refine Ex_iload dX8_check_149 rfl ?_
      refine Ex_iload_n dX8_check_151 rfl ?_
      refine Ex_icmp_neN (by omega) (by omega) (tgt := 159) dX8_check_152 (by decide) (fun h152 => ?_) (fun h152 => ?_)
      · refine Ex_iconst (v := nI 1) dX8_check_159 (by rfl) ?_
        refine Ex_iload dX8_check_160 rfl ?_
        first | with_reducible refine Ex_iaddN dX8_check_162 ?_ | refine Ex_iadd dX8_check_162 ?_
        refine Ex_iret dX8_check_163 (by first | rfl | exact narrow_bI) ?_
        exact ⟨_, rfl, (by rw [← hc2]; unfold ckA; rw [if_neg (fun q => h152 q.1)]), h1, h2, rfl⟩
      · refine Ex_iconst (v := nI 0) dX8_check_155 (by rfl) ?_
        refine Ex_goto (tgt := 163) dX8_check_156 (by decide) ?_
        refine Ex_iret dX8_check_163 (by first | rfl | exact narrow_bI) ?_
        exact ⟨_, rfl, (by rw [← hc2]; unfold ckA; rw [if_pos ⟨h152, rfl⟩]; rfl), h1, h2, rfl⟩
    · omega
  | succ i ih =>
    intro k J h0 hc hJ h1 h2
    have hc2 : (if 2 * k < m ∧ tl (2 * k) = daysG gi (k + 1) 5 then (if 2 * k + 1 < m ∧ tl (2 * k + 1) = sumG (daysG gi (k + 1)) 2 (nS gi) then ckL gi tl m i (k + 1) else 2 * k + 1) else 2 * k) = ckL gi tl m R 0 := hc
    refine Ex_iload dX8_check_68 rfl ?_
    refine Ex_iload_n dX8_check_70 rfl ?_
    refine Ex_icmp_geN (by omega) (by omega) (tgt := 149) dX8_check_71 (by decide) (fun h71 => ?_) (fun h71 => ?_)
    · omega
    · refine Ex_aload_n dX8_check_74 rfl ?_
      refine Ex_getr dX8_check_75 fX8_23 (ds_o hD) (ds_t hD) ?_
      refine Ex_V0v dX8_check_78 sX8_324 (hl_o hT) (Nat.le_of_ble_eq_true rfl) (c1_passDay d hJ) ?_
      rintro J2 _ ⟨hj, hf, rfl⟩
      have g1 : J2 D = upd (I D) 10 (nI 0) := by rw [hf D (fun q => by unfold PH at q; omega)]; exact h1
      have g2 := h2.trans (hf.mono (fun x q => Or.inr (thPS q)))
      refine Ex_iload dX8_check_81 rfl ?_
      refine Ex_iload_n dX8_check_83 rfl ?_
      refine Ex_icmp_geN (by omega) (by omega) (tgt := 104) dX8_check_84 (by decide) (fun h84 => ?_) (fun h84 => ?_)
      · refine Ex_iconst (v := nI 1) dX8_check_104 (by rfl) ?_
        refine Ex_iload dX8_check_105 rfl ?_
        first | with_reducible refine Ex_iaddN dX8_check_107 ?_ | refine Ex_iadd dX8_check_107 ?_
        refine Ex_iret dX8_check_108 (by first | rfl | exact narrow_bI) ?_
        exact ⟨_, rfl, (by rw [if_neg (fun q => absurd q.1 (by omega))] at hc2; rw [← hc2]; unfold ckA; rw [if_neg (fun q => by omega)]), g1, g2, rfl⟩
      · refine Ex_aload_n dX8_check_87 rfl ?_
        refine Ex_getr dX8_check_88 fX8_63 (ds_o hD) (ds_w hD) ?_
        refine Ex_iload dX8_check_91 rfl ?_
        refine Ex_iald dX8_check_93 (ds_wI hD) rfl (by rw [ds_wN hD]; omega) (by rw [ds_wN hD]; decide) ?_
        refine Ex_top (show _ = tl (2 * k) by rw [g2 _ (fun q => by unfold PS PK at q; omega)]; exact htl _ (by omega)) ?_
        refine Ex_aload_n dX8_check_94 rfl ?_
        refine Ex_getr dX8_check_95 fX8_23 (ds_o hD) (ds_t hD) ?_
        refine Ex_geti dX8_check_98 fX8_151 (hl_o hT) ?_
        refine Ex_top (show _ = daysG gi (k + 1) 5 from hj.fx (j := 4) (q := 5) (by decide)) ?_
        refine Ex_icmp_eq (tgt := 109) dX8_check_101 (by decide) (fun h101 => ?_) (fun h101 => ?_)
        · first | refine Ex_iincN (m := 1) dX8_check_109 rfl rfl (by decide) rfl ?_ | refine Ex_iinc dX8_check_109 rfl rfl (by decide) rfl ?_
          simp only [List.set_cons_zero, List.set_cons_succ]
          refine Ex_iload dX8_check_112 rfl ?_
          refine Ex_iload_n dX8_check_114 rfl ?_
          refine Ex_icmp_geN (by omega) (by omega) (tgt := 135) dX8_check_115 (by decide) (fun h115 => ?_) (fun h115 => ?_)
          · refine Ex_iconst (v := nI 1) dX8_check_135 (by rfl) ?_
            refine Ex_iload dX8_check_136 rfl ?_
            first | with_reducible refine Ex_iaddN dX8_check_138 ?_ | refine Ex_iadd dX8_check_138 ?_
            refine Ex_iret dX8_check_139 (by first | rfl | exact narrow_bI) ?_
            exact ⟨_, rfl, (by rw [if_pos ⟨by omega, h101⟩, if_neg (fun q => absurd q.1 (by omega))] at hc2; rw [← hc2]; unfold ckA; rw [if_neg (fun q => by omega)]), g1, g2, rfl⟩
          · refine Ex_aload_n dX8_check_118 rfl ?_
            refine Ex_getr dX8_check_119 fX8_63 (ds_o hD) (ds_w hD) ?_
            refine Ex_iload dX8_check_122 rfl ?_
            refine Ex_iald dX8_check_124 (ds_wI hD) rfl (by rw [ds_wN hD]; omega) (by rw [ds_wN hD]; decide) ?_
            refine Ex_top (show _ = tl (2 * k + 1) by rw [g2 _ (fun q => by unfold PS PK at q; omega)]; exact htl _ (by omega)) ?_
            refine Ex_aload_n dX8_check_125 rfl ?_
            refine Ex_getr dX8_check_126 fX8_23 (ds_o hD) (ds_t hD) ?_
            refine Ex_V0p dX8_check_129 sX8_163 (hl_o hT) (Nat.le_of_ble_eq_true rfl) (c1_allLayers (d + 4) hj) ?_
            refine Ex_top (show _ = sumG (daysG gi (k + 1)) 2 (nS gi) by rw [show nS (dayG (daysG gi k)) = nS gi from nS_days hW (k + 1)]; rfl) ?_
            refine Ex_icmp_eq (tgt := 140) dX8_check_132 (by decide) (fun h132 => ?_) (fun h132 => ?_)
            · first | refine Ex_iincN (m := 1) dX8_check_140 rfl rfl (by decide) rfl ?_ | refine Ex_iinc dX8_check_140 rfl rfl (by decide) rfl ?_
              simp only [List.set_cons_zero, List.set_cons_succ]
              first | refine Ex_iincN (m := 1) dX8_check_143 rfl rfl (by decide) rfl ?_ | refine Ex_iinc dX8_check_143 rfl rfl (by decide) rfl ?_
              simp only [List.set_cons_zero, List.set_cons_succ]
              refine Ex_goto (tgt := 68) dX8_check_146 (by decide) ?_
              exact ih (k + 1) J2 (by omega) (by rw [if_pos ⟨by omega, h101⟩, if_pos ⟨by omega, h132⟩] at hc2; exact hc2) hj g1 g2
            · refine Ex_iconst (v := nI 1) dX8_check_135 (by rfl) ?_
              refine Ex_iload dX8_check_136 rfl ?_
              first | with_reducible refine Ex_iaddN dX8_check_138 ?_ | refine Ex_iadd dX8_check_138 ?_
              refine Ex_iret dX8_check_139 (by first | rfl | exact narrow_bI) ?_
              exact ⟨_, rfl, (by rw [if_pos ⟨by omega, h101⟩, if_neg (fun q => h132 q.2)] at hc2; rw [← hc2]; unfold ckA; rw [if_neg (fun q => by omega)]), g1, g2, rfl⟩
        · refine Ex_iconst (v := nI 1) dX8_check_104 (by rfl) ?_
          refine Ex_iload dX8_check_105 rfl ?_
          first | with_reducible refine Ex_iaddN dX8_check_107 ?_ | refine Ex_iadd dX8_check_107 ?_
          refine Ex_iret dX8_check_108 (by first | rfl | exact narrow_bI) ?_
          exact ⟨_, rfl, (by rw [if_neg (fun q => h101 q.2)] at hc2; rw [← hc2]; unfold ckA; rw [if_neg (fun q => by omega)]), g1, g2, rfl⟩
set_option maxRecDepth 100000 in
set_option maxHeartbeats 4000000 in
theorem C8_check {T : TC} {I : MI} {G : MG} (d : Nat) {D N : Nat} {gi : Nat → Int32} (hD : DS T G D N) (tl : Nat → Int32) (m : Nat) (n : Int32) (hw : I D 10 = nI m) (hm : m ≤ 60) (htl : ∀ k, k < m → I (D + 116) k = tl k) (hI : ¬ I D 3 = 0 → Hl T I G (D + 21) (D + 1) N gi ∧ DyOk gi) : OkI T mX8_check (d + 5) [.ref D, .int n] I G (fun r I' G' => r = r_check (I D 3) gi tl m n ∧ I' D = upd (I D) 10 (nI 0) ∧ Fr (fun x => x = D ∨ PS D N x) I I' ∧ G' = G) := by
  refine Ok_of (own := RX8) (by decide) rfl (cat1 rfl) (Nat.le_of_ble_eq_true rfl) ?_
  show Ex T RX8 cX8_check 6 (d + 5) _ 0 [some (.ref D), some (.int n), none, none, none, none] [] I G (0, 0)
  have hT := ds_T hD
  have hI2 := ds_I hD
  have hN := ds_N hD
  refine Ex_aload_n dX8_check_0 rfl ?_
  refine Ex_geti dX8_check_1 fX8_317 (ds_o hD) ?_
  refine Ex_top hw ?_
  refine Ex_istore_n dX8_check_4 (by decide) rfl ?_
  simp only [st_n0, st_n1, st_n2, st_n3, List.set_cons_zero, List.set_cons_succ]
  refine Ex_aload_n dX8_check_5 rfl ?_
  refine Ex_iconst (v := nI 0) dX8_check_6 (by rfl) ?_
  refine Ex_puti dX8_check_7 fX8_317 rfl rfl rfl (ds_o hD) ?_
  refine Ex_iload_n dX8_check_10 rfl ?_
  refine Ex_iconst (v := nI 1) dX8_check_11 (by rfl) ?_
  refine Ex_icmp_lt (tgt := 21) dX8_check_12 (by decide) (fun h12 => ?_) (fun h12 => ?_)
  · refine Ex_ldc dX8_check_21 kX8_71 ?_
    refine Ex_iret dX8_check_23 (by first | rfl | exact narrow_bI) ?_
    exact ⟨_, rfl, (by unfold r_check; rw [if_neg (fun q => absurd q.1 (Int32.not_le.mpr h12))]), (by rw [setI_u]), Fr.refl.si (Or.inl rfl), rfl⟩
  · refine Ex_iload_n dX8_check_15 rfl ?_
    refine Ex_bipush (v := nI 30) dX8_check_16 (by rfl) ?_
    refine Ex_icmp_le (tgt := 24) dX8_check_18 (by decide) (fun h18 => ?_) (fun h18 => ?_)
    · have hin : in1 n 30 := ⟨Int32.not_lt.mp h12, h18⟩
      refine Ex_aload_n dX8_check_24 rfl ?_
      refine Ex_geti dX8_check_25 fX8_320 (ds_o hD) ?_
      refine Ex_top (show _ = I D 3 by rw [setI_n (by omega)]) ?_
      refine Ex_if_ne (tgt := 35) dX8_check_28 (by decide) (fun h28 => ?_) (fun h28 => ?_)
      · obtain ⟨hH2, hY⟩ := hI h28
        obtain ⟨n', hn1, hn2, en⟩ := (in1_k (by omega)).mp hin
        subst en
        have ecn : cl (nI n') = n' := cl_nI (by omega)
        have hy2 := hY.2
        have hH3 := hH2.fr' (P := fun x => x = D) (J := setI I D 10 (nI 0)) (fun x hx => setI_a hx) (fun x e q => by unfold PB at q; omega) (fun x e => by omega)
        refine Ex_aload_n dX8_check_35 rfl ?_
        refine Ex_getr dX8_check_36 fX8_23 (ds_o hD) (ds_t hD) ?_
        refine Ex_aload_n dX8_check_39 rfl ?_
        refine Ex_getr dX8_check_40 fX8_20 (ds_o hD) (ds_i hD) ?_
        refine Ex_V1v dX8_check_43 sX8_200 (hl_o hT) (Nat.le_of_ble_eq_true rfl) (c1_become (d + 2) hT hH3 (Or.inr (by omega)) (by omega)) ?_
        rintro J _ ⟨hj, hf, rfl⟩
        refine Ex_iload_n dX8_check_46 rfl ?_
        refine Ex_sipush (v := nI 9999) dX8_check_47 (by rfl) ?_
        refine Ex_aload_n dX8_check_50 rfl ?_
        refine Ex_getr dX8_check_51 fX8_20 (ds_o hD) (ds_i hD) ?_
        refine Ex_geti dX8_check_54 fX8_101 (hl_o hI2) ?_
        refine Ex_top (show _ = nI (cl (gi 2)) by rw [hf (D + 21) (fun q => by unfold PB at q; omega), hH3.fx (j := 6) (q := 2) (by decide)]; exact hY.1) ?_
        refine Ex_isubN (by omega) dX8_check_57 ?_
        refine Ex_min dX8_check_58 sX8_140 (Nat.le_of_ble_eq_true rfl) ?_
        refine Ex_top (mnN (by omega) (by omega)) ?_
        have ed : Nat.min n' (9999 - cl (gi 2)) = daysN gi n' := nmin _ _
        rw [ed]
        have hd9 : daysN gi n' ≤ 30 := by unfold daysN; split <;> omega
        refine Ex_istore_n dX8_check_61 (by decide) rfl ?_
        simp only [st_n0, st_n1, st_n2, st_n3, List.set_cons_zero, List.set_cons_succ]
        refine Ex_iconst (v := nI 0) dX8_check_62 (by rfl) ?_
        refine Ex_istore dX8_check_63 (by decide) rfl ?_
        simp only [List.set_cons_zero, List.set_cons_succ]
        refine Ex_iconst (v := nI 0) dX8_check_65 (by rfl) ?_
        refine Ex_istore dX8_check_66 (by decide) rfl ?_
        simp only [List.set_cons_zero, List.set_cons_succ]
        rw [show r_check (I D 3) gi tl m (nI n') = ckA (ckL gi tl m (daysN gi n') 0) m (daysN gi n') by unfold r_check; rw [if_pos hin, if_neg h28, ecn]]
        exact l8_check (I := I) d hD hT hN tl m (daysN gi n') hm hd9 htl hH2.w _ (daysN gi n') 0 J (by omega) rfl hj (by rw [hf D (fun q => by unfold PB at q; omega), setI_u]) ((Fr.refl.si (Or.inl rfl)).trans (hf.mono (fun x q => Or.inr (thPS (PBH q)))))
      · refine Ex_ldc_w dX8_check_31 kX8_316 ?_
        refine Ex_iret dX8_check_34 (by first | rfl | exact narrow_bI) ?_
        exact ⟨_, rfl, (by unfold r_check; rw [if_pos hin, if_pos h28]), (by rw [setI_u]), Fr.refl.si (Or.inl rfl), rfl⟩
    · refine Ex_ldc dX8_check_21 kX8_71 ?_
      refine Ex_iret dX8_check_23 (by first | rfl | exact narrow_bI) ?_
      exact ⟨_, rfl, (by unfold r_check; rw [if_neg (fun q => absurd q.2 (Int32.not_le.mpr (Int32.not_le.mp h18)))]), (by rw [setI_u]), Fr.refl.si (Or.inl rfl), rfl⟩
