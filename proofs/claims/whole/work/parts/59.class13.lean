/-! the class: slots -/
/-- a slot: what it holds -/
def SlR (I : MI) (a : Nat) (th A B : Int32) (f : Nat → Int32) : Prop := I a 0 = th ∧ (th = nI 1 → I (a + 1) 0 = A ∧ (∃ k, k < 6 ∧ A = nI k) ∧ worthK (I (a + 1) 0) (I (a + 1) 2) = B) ∧ (th = nI 2 → ∃ z, z ≤ 24 ∧ A = nI z ∧ I (a + 3) 1 = nI z ∧ ∀ k, k < 24 → I (a + 4) k = f k) ∧ (th = nI 3 → I a 3 = A)
def SlA (I : MI) (D : Nat) (th A B : Nat → Int32) (hc : Nat → Nat → Int32) : Prop := ∀ k, k < 5 → SlR I (D + 91 + 5 * k) (th k) (A k) (B k) (hc k)
def PSl (D : Nat) : Nat → Prop := fun x => D + 91 ≤ x ∧ x < D + 116
theorem SlR.eq {I J : MI} {a : Nat} {th A B : Int32} {f : Nat → Int32} (h : SlR I a th A B f) (e : ∀ x, a ≤ x → x < a + 5 → J x = I x) : SlR J a th A B f := by
  obtain ⟨h1, h2, h3, h4⟩ := h
  have e0 := e a (by omega) (by omega)
  have e1 := e (a + 1) (by omega) (by omega)
  have e3 := e (a + 3) (by omega) (by omega)
  have e4 := e (a + 4) (by omega) (by omega)
  exact ⟨by rw [e0]; exact h1, by rw [e1]; exact h2, by rw [e3, e4]; exact h3, by rw [e0]; exact h4⟩
theorem SlA.fr {I J : MI} {D : Nat} {th A B : Nat → Int32} {hc : Nat → Nat → Int32} {P : Nat → Prop} (h : SlA I D th A B hc) (hF : Fr P I J) (hP : ∀ x, P x → ¬ PSl D x) : SlA J D th A B hc := fun k hk => (h k hk).eq (fun x h1 h2 => hF x (fun q => hP x q ⟨by omega, by omega⟩))
theorem SlA.upd {I J : MI} {D : Nat} {th A B : Nat → Int32} {hc : Nat → Nat → Int32} (h : SlA I D th A B hc) (k0 : Nat) {t a b : Int32} {f : Nat → Int32} (hR : SlR J (D + 91 + 5 * k0) t a b f) (hF : Fr (fun x => D + 91 + 5 * k0 ≤ x ∧ x < D + 91 + 5 * k0 + 5) I J) : SlA J D (upd th k0 t) (upd A k0 a) (upd B k0 b) (fnU hc k0 f) := by
  intro k hk
  by_cases e : k = k0
  · subst e; rw [upd_s, upd_s, upd_s, fnU_s]; exact hR
  · rw [upd_n e, upd_n e, upd_n e, fnU_n e]
    exact (h k hk).eq (fun x h1 h2 => hF x (fun q => by omega))
theorem slPS {D k x : Nat} (hk : k < 5) (q : D + 91 + 5 * k ≤ x ∧ x < D + 91 + 5 * k + 5) : PSl D x := ⟨by omega, by omega⟩
theorem rfA_0 {t w : Int32} (h : (if t = 0 then cNOTHING else if t = w then nI 0 else cKIND) = 0) : ¬ t = 0 ∧ t = w := by
  by_cases h1 : t = 0
  · rw [if_pos h1] at h; exact absurd h (by decide)
  · rw [if_neg h1] at h
    by_cases h2 : t = w
    · exact ⟨h1, h2⟩
    · rw [if_neg h2] at h; exact absurd h (by decide)
theorem rfA_n {t w X : Int32} (h : ¬ (if t = 0 then cNOTHING else if t = w then nI 0 else cKIND) = 0) : (if t = 0 then cNOTHING else if t = w then nI 0 else cKIND) = (if t = 0 then cNOTHING else if t = w then X else cKIND) := by
  by_cases h1 : t = 0
  · rw [if_pos h1, if_pos h1]
  · rw [if_neg h1] at h ⊢
    rw [if_neg h1]
    by_cases h2 : t = w
    · rw [if_pos h2] at h; exact absurd nI_0 h
    · rw [if_neg h2, if_neg h2]
theorem div_m1 (x : Int32) : x - x / (-1) * (-1) = 0 := by
  have e : x / (-1) = -x := by
    rw [i_eq, Int32.toInt_div, show ((-1 : Int32)).toInt = -1 from rfl, Int.tdiv_neg, Int.tdiv_one, Int32.toInt_neg]
  rw [e, Int32.mul_neg, Int32.mul_one, Int32.neg_neg, Int32.sub_self]
set_option maxRecDepth 100000 in
set_option maxHeartbeats 4000000 in
theorem C8_rest {T : TC} {I : MI} {G : MG} (d : Nat) {D N : Nat} (hD : DS T G D N) {th hA9 hB9 : Nat → Int32} {hc : Nat → Nat → Int32} (hL : SlA I D th hA9 hB9 hc) (s n : Int32)  : OkP T mX8_rest (d + 1) [.ref D, .int s, .int n] I G (r_rest th hA9 s n) := by
  refine Ok_of (own := RX8) (by decide) rfl (cat1 rfl) (Nat.le_of_ble_eq_true rfl) ?_
  show Ex T RX8 cX8_rest 5 (d + 1) _ 0 [some (.ref D), some (.int s), some (.int n), none, none] [] I G (0, 0)
  refine Ex_iload_n dX8_rest_0 rfl ?_
  refine Ex_iconst (v := nI 5) dX8_rest_1 (by rfl) ?_
  refine Ex_S2p dX8_rest_2 sX8_67  (Nat.le_of_ble_eq_true rfl) (c8_isBelow (d) _ _) ?_
  refine Ex_if_neB (tgt := 11) dX8_rest_5 (by decide) (fun h5 => ?_) (fun h5 => ?_)
  · obtain ⟨s', hs', es⟩ := (rng_k (by omega)).mp h5
    subst es
    have ecs : cl (nI s') = s' := cl_nI (by omega)
    have hsl := hL s' hs'
    refine Ex_aload_n dX8_rest_11 rfl ?_
    refine Ex_getr dX8_rest_12 fX8_58 (ds_o hD) (ds_sl hD) ?_
    refine Ex_iload_n dX8_rest_15 rfl ?_
    refine Ex_aaldSl dX8_rest_16 (ds_slI hD) rfl (by rw [ds_slN hD]; omega) (by rw [ds_slN hD]; decide) (ds_slk hD s' (by omega)) ?_
    refine Ex_astore_n dX8_rest_17 (by decide) rfl ?_
    simp only [st_n0, st_n1, st_n2, st_n3, List.set_cons_zero, List.set_cons_succ]
    refine Ex_aload_n dX8_rest_18 rfl ?_
    refine Ex_iconst (v := nI 3) dX8_rest_19 (by rfl) ?_
    refine Ex_V1p dX8_rest_20 sX8_313 (ds_slo hD s' hs') (Nat.le_of_ble_eq_true rfl) (c4_refusalAs (d) (ds_slo hD s' hs') (nI 3)) ?_
    refine Ex_top (show _ = (if th s' = 0 then cNOTHING else if th s' = nI 3 then nI 0 else cKIND) by rw [hsl.1]) ?_
    refine Ex_istore dX8_rest_23 (by decide) rfl ?_
    simp only [List.set_cons_zero, List.set_cons_succ]
    refine Ex_iload dX8_rest_25 rfl ?_
    refine Ex_if_eq (tgt := 33) dX8_rest_27 (by decide) (fun h27 => ?_) (fun h27 => ?_)
    · obtain ⟨t0, t3⟩ := rfA_0 h27
      refine Ex_iload_n dX8_rest_33 rfl ?_
      refine Ex_if_ne (tgt := 43) dX8_rest_34 (by decide) (fun h34 => ?_) (fun h34 => ?_)
      · refine Ex_aload_n dX8_rest_43 rfl ?_
        refine Ex_geti dX8_rest_44 fX8_310 (ds_slo hD s' hs') ?_
        refine Ex_top (hsl.2.2.2 t3) ?_
        refine Ex_iload_n dX8_rest_47 rfl ?_
        refine Ex_irem dX8_rest_48 h34 ?_
        refine Ex_iret dX8_rest_49 (by first | rfl | exact narrow_bI) ?_
        refine ⟨_, rfl, ?_, rfl, rfl⟩
        unfold r_rest
        rw [if_pos h5, ecs, if_neg t0, if_pos t3, if_neg h34]
        by_cases e : n = (-1)
        · rw [if_pos e, e]; exact (div_m1 _).trans nI_0.symm
        · rw [if_neg e]
      · refine Ex_ldc_w dX8_rest_37 kX8_316 ?_
        refine Ex_goto (tgt := 49) dX8_rest_40 (by decide) ?_
        refine Ex_iret dX8_rest_49 (by first | rfl | exact narrow_bI) ?_
        exact ⟨_, rfl, (by unfold r_rest; rw [if_pos h5, ecs, if_neg t0, if_pos t3, if_pos h34]), rfl, rfl⟩
    · refine Ex_iload dX8_rest_30 rfl ?_
      refine Ex_iret dX8_rest_32 (by first | rfl | exact narrow_bI) ?_
      exact ⟨_, rfl, (by unfold r_rest; rw [if_pos h5, ecs]; exact rfA_n h27), rfl, rfl⟩
  · refine Ex_ldc dX8_rest_8 kX8_71 ?_
    refine Ex_iret dX8_rest_10 (by first | rfl | exact narrow_bI) ?_
    exact ⟨_, rfl, (by unfold r_rest; rw [if_neg h5]), rfl, rfl⟩
set_option maxRecDepth 100000 in
set_option maxHeartbeats 4000000 in
theorem C8_item {T : TC} {I : MI} {G : MG} (d : Nat) {D N : Nat} (hD : DS T G D N) {th hA9 hB9 : Nat → Int32} {hc : Nat → Nat → Int32} (hL : SlA I D th hA9 hB9 hc) (s p : Int32)  : OkP T mX8_item (d + 1) [.ref D, .int s, .int p] I G (r_item th (fun k => cl (hA9 k)) hc s p) := by
  refine Ok_of (own := RX8) (by decide) rfl (cat1 rfl) (Nat.le_of_ble_eq_true rfl) ?_
  show Ex T RX8 cX8_item 5 (d + 1) _ 0 [some (.ref D), some (.int s), some (.int p), none, none] [] I G (0, 0)
  refine Ex_iload_n dX8_item_0 rfl ?_
  refine Ex_iconst (v := nI 5) dX8_item_1 (by rfl) ?_
  refine Ex_S2p dX8_item_2 sX8_67  (Nat.le_of_ble_eq_true rfl) (c8_isBelow (d) _ _) ?_
  refine Ex_if_neB (tgt := 11) dX8_item_5 (by decide) (fun h5 => ?_) (fun h5 => ?_)
  · obtain ⟨s', hs', es⟩ := (rng_k (by omega)).mp h5
    subst es
    have ecs : cl (nI s') = s' := cl_nI (by omega)
    have hsl := hL s' hs'
    refine Ex_aload_n dX8_item_11 rfl ?_
    refine Ex_getr dX8_item_12 fX8_58 (ds_o hD) (ds_sl hD) ?_
    refine Ex_iload_n dX8_item_15 rfl ?_
    refine Ex_aaldSl dX8_item_16 (ds_slI hD) rfl (by rw [ds_slN hD]; omega) (by rw [ds_slN hD]; decide) (ds_slk hD s' (by omega)) ?_
    refine Ex_astore_n dX8_item_17 (by decide) rfl ?_
    simp only [st_n0, st_n1, st_n2, st_n3, List.set_cons_zero, List.set_cons_succ]
    refine Ex_aload_n dX8_item_18 rfl ?_
    refine Ex_iconst (v := nI 2) dX8_item_19 (by rfl) ?_
    refine Ex_V1p dX8_item_20 sX8_313 (ds_slo hD s' hs') (Nat.le_of_ble_eq_true rfl) (c4_refusalAs (d) (ds_slo hD s' hs') (nI 2)) ?_
    refine Ex_top (show _ = (if th s' = 0 then cNOTHING else if th s' = nI 2 then nI 0 else cKIND) by rw [hsl.1]) ?_
    refine Ex_istore dX8_item_23 (by decide) rfl ?_
    simp only [List.set_cons_zero, List.set_cons_succ]
    refine Ex_iload dX8_item_25 rfl ?_
    refine Ex_if_eq (tgt := 33) dX8_item_27 (by decide) (fun h27 => ?_) (fun h27 => ?_)
    · obtain ⟨t0, t3⟩ := rfA_0 h27
      obtain ⟨z, z1, z2, z3, z4⟩ := hsl.2.2.1 t3
      rw [show D + 91 + 5 * s' + 3 = D + 94 + 5 * s' by omega] at z3
      rw [show D + 91 + 5 * s' + 4 = D + 94 + 5 * s' + 1 by omega] at z4
      have ezz : cl (hA9 s') = z := by rw [z2]; exact cl_nI (by omega)
      refine Ex_iload_n dX8_item_33 rfl ?_
      refine Ex_aload_n dX8_item_34 rfl ?_
      refine Ex_getr dX8_item_35 fX8_304 (ds_slo hD s' hs') (ds_sls hD s' hs') ?_
      refine Ex_geti dX8_item_38 fX8_182 (ds_slS hD s' hs').1 ?_
      refine Ex_top z3 ?_
      refine Ex_S2p dX8_item_41 sX8_67  (Nat.le_of_ble_eq_true rfl) (c8_isBelow (d) _ _) ?_
      refine Ex_if_neB (tgt := 51) dX8_item_44 (by decide) (fun h44 => ?_) (fun h44 => ?_)
      · obtain ⟨p', hp', ep⟩ := (rng_k (by omega)).mp h44
        subst ep
        have ecp : cl (nI p') = p' := cl_nI (by omega)
        have z5 := z4 p' (by omega)
        refine Ex_aload_n dX8_item_51 rfl ?_
        refine Ex_getr dX8_item_52 fX8_304 (ds_slo hD s' hs') (ds_sls hD s' hs') ?_
        refine Ex_iload_n dX8_item_55 rfl ?_
        refine Ex_V1p dX8_item_56 sX8_279 (ds_slS hD s' hs').1 (Nat.le_of_ble_eq_true rfl) (c3_isNumber d (ds_slS hD s' hs') p' (by omega)) ?_
        refine Ex_top (show _ = bI (¬ hc s' p' = cNONE) by rw [show I (D + 94 + 5 * s' + 1) p' = hc s' p' from z5]) ?_
        refine Ex_if_eqB (tgt := 74) dX8_item_59 (by decide) (fun h59 => ?_) (fun h59 => ?_)
        · refine Ex_ldc dX8_item_74 kX8_123 ?_
          refine Ex_iret dX8_item_76 (by first | rfl | exact narrow_bI) ?_
          exact ⟨_, rfl, (by unfold r_item; rw [if_pos h5, ecs, if_neg t0, if_pos t3, show (fun k => cl (hA9 k)) s' = z from ezz, if_pos h44, ecp, if_pos (Decidable.not_not.mp h59)]), rfl, rfl⟩
        · refine Ex_aload_n dX8_item_62 rfl ?_
          refine Ex_getr dX8_item_63 fX8_304 (ds_slo hD s' hs') (ds_sls hD s' hs') ?_
          refine Ex_getr dX8_item_66 fX8_271 (ds_slS hD s' hs').1 (ds_slS hD s' hs').2.1 ?_
          refine Ex_iload_n dX8_item_69 rfl ?_
          refine Ex_iald dX8_item_70 (ds_slS hD s' hs').2.2.1 rfl (by rw [(ds_slS hD s' hs').2.2.2]; omega) (by rw [(ds_slS hD s' hs').2.2.2]; decide) ?_
          refine Ex_top (show _ = hc s' p' from z5) ?_
          refine Ex_goto (tgt := 76) dX8_item_71 (by decide) ?_
          refine Ex_iret dX8_item_76 (by first | rfl | exact narrow_bI) ?_
          exact ⟨_, rfl, (by unfold r_item; rw [if_pos h5, ecs, if_neg t0, if_pos t3, show (fun k => cl (hA9 k)) s' = z from ezz, if_pos h44, ecp, if_neg h59]), rfl, rfl⟩
      · refine Ex_ldc_w dX8_item_47 kX8_270 ?_
        refine Ex_iret dX8_item_50 (by first | rfl | exact narrow_bI) ?_
        exact ⟨_, rfl, (by unfold r_item; rw [if_pos h5, ecs, if_neg t0, if_pos t3, show (fun k => cl (hA9 k)) s' = z from ezz, if_neg h44]), rfl, rfl⟩
    · refine Ex_iload dX8_item_30 rfl ?_
      refine Ex_iret dX8_item_32 (by first | rfl | exact narrow_bI) ?_
      exact ⟨_, rfl, (by unfold r_item; rw [if_pos h5, ecs]; exact rfA_n h27), rfl, rfl⟩
  · refine Ex_ldc dX8_item_8 kX8_71 ?_
    refine Ex_iret dX8_item_10 (by first | rfl | exact narrow_bI) ?_
    exact ⟨_, rfl, (by unfold r_item; rw [if_neg h5]), rfl, rfl⟩
set_option maxRecDepth 100000 in
set_option maxHeartbeats 4000000 in
theorem C8_ask {T : TC} {I : MI} {G : MG} (d : Nat) {D N : Nat} (hD : DS T G D N) {th hA9 hB9 : Nat → Int32} {hc : Nat → Nat → Int32} (hL : SlA I D th hA9 hB9 hc) (s k : Int32)  : OkP T mX8_ask (d + 2) [.ref D, .int s, .int k] I G (r_ask th hA9 hB9 s k) := by
  refine Ok_of (own := RX8) (by decide) rfl (cat1 rfl) (Nat.le_of_ble_eq_true rfl) ?_
  show Ex T RX8 cX8_ask 5 (d + 2) _ 0 [some (.ref D), some (.int s), some (.int k), none, none] [] I G (0, 0)
  refine Ex_iload_n dX8_ask_0 rfl ?_
  refine Ex_iconst (v := nI 5) dX8_ask_1 (by rfl) ?_
  refine Ex_S2p dX8_ask_2 sX8_67  (Nat.le_of_ble_eq_true rfl) (c8_isBelow (d + 1) _ _) ?_
  refine Ex_if_eqB (tgt := 17) dX8_ask_5 (by decide) (fun h5 => ?_) (fun h5 => ?_)
  · refine Ex_ldc dX8_ask_17 kX8_71 ?_
    refine Ex_iret dX8_ask_19 (by first | rfl | exact narrow_bI) ?_
    exact ⟨_, rfl, (by unfold r_ask; rw [if_neg (fun q => h5 q.1)]), rfl, rfl⟩
  · refine Ex_iload_n dX8_ask_8 rfl ?_
    refine Ex_bipush (v := nI 6) dX8_ask_9 (by rfl) ?_
    refine Ex_S2p dX8_ask_11 sX8_67  (Nat.le_of_ble_eq_true rfl) (c8_isBelow (d + 1) _ _) ?_
    refine Ex_if_neB (tgt := 20) dX8_ask_14 (by decide) (fun h14 => ?_) (fun h14 => ?_)
    · obtain ⟨s', hs', es⟩ := (rng_k (by omega)).mp h5
      subst es
      have ecs : cl (nI s') = s' := cl_nI (by omega)
      have hsl := hL s' hs'
      refine Ex_aload_n dX8_ask_20 rfl ?_
      refine Ex_getr dX8_ask_21 fX8_58 (ds_o hD) (ds_sl hD) ?_
      refine Ex_iload_n dX8_ask_24 rfl ?_
      refine Ex_aaldSl dX8_ask_25 (ds_slI hD) rfl (by rw [ds_slN hD]; omega) (by rw [ds_slN hD]; decide) (ds_slk hD s' (by omega)) ?_
      refine Ex_astore_n dX8_ask_26 (by decide) rfl ?_
      simp only [st_n0, st_n1, st_n2, st_n3, List.set_cons_zero, List.set_cons_succ]
      refine Ex_aload_n dX8_ask_27 rfl ?_
      refine Ex_iconst (v := nI 1) dX8_ask_28 (by rfl) ?_
      refine Ex_V1p dX8_ask_29 sX8_313 (ds_slo hD s' hs') (Nat.le_of_ble_eq_true rfl) (c4_refusalAs (d + 1) (ds_slo hD s' hs') (nI 1)) ?_
      refine Ex_top (show _ = (if th s' = 0 then cNOTHING else if th s' = nI 1 then nI 0 else cKIND) by rw [hsl.1]) ?_
      refine Ex_istore dX8_ask_32 (by decide) rfl ?_
      simp only [List.set_cons_zero, List.set_cons_succ]
      refine Ex_iload dX8_ask_34 rfl ?_
      refine Ex_if_eq (tgt := 42) dX8_ask_36 (by decide) (fun h36 => ?_) (fun h36 => ?_)
      · obtain ⟨t0, t3⟩ := rfA_0 h36
        obtain ⟨w1, ⟨q, hq, w2⟩, w3⟩ := hsl.2.1 t3
        rw [show D + 91 + 5 * s' + 1 = D + 92 + 5 * s' by omega] at w1 w3
        obtain ⟨k', hk', ek⟩ := (rng_k (by omega)).mp h14
        subst ek
        refine Ex_aload_n dX8_ask_42 rfl ?_
        refine Ex_getr dX8_ask_43 fX8_297 (ds_slo hD s' hs') (ds_slf hD s' hs') ?_
        refine Ex_iload_n dX8_ask_46 rfl ?_
        refine Ex_V1p dX8_ask_47 sX8_120 (ds_slF hD s' hs').1 (Nat.le_of_ble_eq_true rfl) (c5_isOf d (ds_slF hD s' hs') k' q hk' hq (w1.trans w2)) ?_
        refine Ex_if_eqB (tgt := 63) dX8_ask_50 (by decide) (fun h50 => ?_) (fun h50 => ?_)
        · refine Ex_ldc dX8_ask_63 kX8_123 ?_
          refine Ex_iret dX8_ask_65 (by first | rfl | exact narrow_bI) ?_
          exact ⟨_, rfl, (by unfold r_ask; rw [if_pos ⟨h5, h14⟩, ecs, if_neg t0, if_neg (c := th s' = nI 1 ∧ undP (hA9 s') (nI k')) (fun q => h50 (by rw [← w2]; exact q.2))]), rfl, rfl⟩
        · refine Ex_aload_n dX8_ask_53 rfl ?_
          refine Ex_getr dX8_ask_54 fX8_297 (ds_slo hD s' hs') (ds_slf hD s' hs') ?_
          refine Ex_V0p dX8_ask_57 sX8_112 (ds_slF hD s' hs').1 (Nat.le_of_ble_eq_true rfl) (c5_worth (d + 1) (ds_slF hD s' hs')) ?_
          refine Ex_goto (tgt := 65) dX8_ask_60 (by decide) ?_
          refine Ex_iret dX8_ask_65 (by first | rfl | exact narrow_bI) ?_
          exact ⟨_, rfl, (by unfold r_ask; rw [if_pos ⟨h5, h14⟩, ecs, if_neg t0, if_pos (c := th s' = nI 1 ∧ undP (hA9 s') (nI k')) ⟨t3, by rw [w2]; exact h50⟩]; exact w3), rfl, rfl⟩
      · refine Ex_iload dX8_ask_39 rfl ?_
        refine Ex_iret dX8_ask_41 (by first | rfl | exact narrow_bI) ?_
        refine ⟨_, rfl, ?_, rfl, rfl⟩
        unfold r_ask
        rw [if_pos (c := inR (nI s') 5 ∧ inR k 6) ⟨h5, h14⟩, ecs]
        by_cases t0 : th s' = 0
        · rw [if_pos t0, if_pos t0]
        · rw [if_neg t0] at h36 ⊢
          rw [if_neg t0]
          by_cases t1 : th s' = nI 1
          · rw [if_pos t1] at h36; exact absurd nI_0 h36
          · rw [if_neg t1, if_neg (c := th s' = nI 1 ∧ undP (hA9 s') k) (fun q => t1 q.1)]
    · refine Ex_ldc dX8_ask_17 kX8_71 ?_
      refine Ex_iret dX8_ask_19 (by first | rfl | exact narrow_bI) ?_
      exact ⟨_, rfl, (by unfold r_ask; rw [if_neg (fun q => h14 q.2)]), rfl, rfl⟩
set_option maxRecDepth 100000 in
set_option maxHeartbeats 4000000 in
theorem C8_lay {T : TC} {I : MI} {G : MG} (d : Nat) {D N : Nat} {g : Nat → Int32} (hD : DS T G D N) (hH : Hl T I G (D + 2) (D + 1) N g) {so : Nat → Int32} {sz : Nat → Nat} {ce : Nat → Nat → Int32} (hA : ShA I D so sz ce) {th hA9 hB9 : Nat → Int32} {hc : Nat → Nat → Int32} (hL : SlA I D th hA9 hB9 hc) (s t k : Int32)  : OkI T mX8_lay (d + 2) [.ref D, .int s, .int t, .int k] I G (fun r I' G' => r = r_lay g so th s t k ∧ (if lyP g so s t k ∧ ¬ lyN so t k then SlA I' D (upd th (cl s) t) (upd hA9 (cl s) (lyA g sz t k)) (upd hB9 (cl s) (lyB g t k)) (fnU hc (cl s) (if t = nI 2 then ce (cl k) else hc (cl s))) ∧ Fr (PSl D) I I' else I' = I) ∧ G' = G) := by
  refine Ok_of (own := RX8) (by decide) rfl (cat1 rfl) (Nat.le_of_ble_eq_true rfl) ?_
  show Ex T RX8 cX8_lay 6 (d + 2) _ 0 [some (.ref D), some (.int s), some (.int t), some (.int k), none, none] [] I G (0, 0)
  have hS := hH.1
  have hn8 := hH.n8
  refine Ex_iload_n dX8_lay_0 rfl ?_
  refine Ex_iconst (v := nI 5) dX8_lay_1 (by rfl) ?_
  refine Ex_S2p dX8_lay_2 sX8_67  (Nat.le_of_ble_eq_true rfl) (c8_isBelow (d + 1) _ _) ?_
  refine Ex_if_eqB (tgt := 16) dX8_lay_5 (by decide) (fun h5 => ?_) (fun h5 => ?_)
  · refine Ex_ldc dX8_lay_16 kX8_71 ?_
    refine Ex_iret dX8_lay_18 (by first | rfl | exact narrow_bI) ?_
    exact ⟨_, rfl, (by unfold r_lay; rw [if_neg (fun q => h5 q.1)]), (by rw [if_neg (fun q => h5 q.1.1)]), rfl⟩
  · refine Ex_iload_n dX8_lay_8 rfl ?_
    refine Ex_iconst (v := nI 4) dX8_lay_9 (by rfl) ?_
    refine Ex_S2p dX8_lay_10 sX8_67  (Nat.le_of_ble_eq_true rfl) (c8_isBelow (d + 1) _ _) ?_
    refine Ex_if_neB (tgt := 19) dX8_lay_13 (by decide) (fun h13 => ?_) (fun h13 => ?_)
    · refine Ex_iload_n dX8_lay_19 rfl ?_
      refine Ex_iconst (v := nI 1) dX8_lay_20 (by rfl) ?_
      refine Ex_icmp_ne (tgt := 35) dX8_lay_21 (by decide) (fun h21 => ?_) (fun h21 => ?_)
      · refine Ex_iload_n dX8_lay_35 rfl ?_
        refine Ex_iconst (v := nI 2) dX8_lay_36 (by rfl) ?_
        refine Ex_icmp_ne (tgt := 55) dX8_lay_37 (by decide) (fun h37 => ?_) (fun h37 => ?_)
        · obtain ⟨s', hs', es⟩ := (rng_k (by omega)).mp h5
          subst es
          have ecs : cl (nI s') = s' := cl_nI (by omega)
          have hsl := hL s' hs'
          have hly : lyP g so (nI s') t k := ⟨h5, h13, fun q => absurd q h21, fun q => absurd q h37⟩
          have hln : ¬ lyN so t k := fun q => h37 q.1
          refine Ex_aload_n dX8_lay_55 rfl ?_
          refine Ex_getr dX8_lay_56 fX8_58 (ds_o hD) (ds_sl hD) ?_
          refine Ex_iload_n dX8_lay_59 rfl ?_
          refine Ex_aaldSl dX8_lay_60 (ds_slI hD) rfl (by rw [ds_slN hD]; omega) (by rw [ds_slN hD]; decide) (ds_slk hD s' (by omega)) ?_
          refine Ex_astore dX8_lay_61 (by decide) rfl ?_
          simp only [List.set_cons_zero, List.set_cons_succ]
          refine Ex_aload dX8_lay_63 rfl ?_
          refine Ex_geti dX8_lay_65 fX8_294 (ds_slo hD s' hs') ?_
          refine Ex_istore dX8_lay_68 (by decide) rfl ?_
          simp only [List.set_cons_zero, List.set_cons_succ]
          refine Ex_aload dX8_lay_70 rfl ?_
          refine Ex_iload_n dX8_lay_72 rfl ?_
          refine Ex_puti dX8_lay_73 fX8_294 rfl rfl rfl (ds_slo hD s' hs') ?_
          refine Ex_iload_n dX8_lay_76 rfl ?_
          refine Ex_iconst (v := nI 1) dX8_lay_77 (by rfl) ?_
          refine Ex_icmp_ne (tgt := 101) dX8_lay_78 (by decide) (fun h78 => ?_) (fun h78 => ?_)
          · refine Ex_iload_n dX8_lay_101 rfl ?_
            refine Ex_iconst (v := nI 2) dX8_lay_102 (by rfl) ?_
            refine Ex_icmp_ne (tgt := 123) dX8_lay_103 (by decide) (fun h103 => ?_) (fun h103 => ?_)
            · refine Ex_aload dX8_lay_123 rfl ?_
              refine Ex_iload_n dX8_lay_125 rfl ?_
              refine Ex_puti dX8_lay_126 fX8_310 rfl rfl rfl (ds_slo hD s' hs') ?_
              refine Ex_iload dX8_lay_129 rfl ?_
              refine Ex_iret dX8_lay_131 (by first | rfl | exact narrow_bI) ?_
              refine ⟨_, rfl, ?_, ?_, rfl⟩
              · unfold r_lay; rw [if_pos hly, if_neg hln, ecs]; exact hsl.1
              · rw [if_pos ⟨hly, hln⟩, ecs, if_neg h103]
                have hF9 : Fr (fun x => D + 91 + 5 * s' ≤ x ∧ x < D + 91 + 5 * s' + 5) I (setI (setI I (D + 91 + 5 * s') 0 t) (D + 91 + 5 * s') 3 k) := (Fr.refl.si ⟨by omega, by omega⟩).si ⟨by omega, by omega⟩
                refine ⟨hL.upd s' ⟨?_, fun q => absurd q h78, fun q => absurd q h103, fun _ => ?_⟩ hF9, hF9.mono (fun x q => slPS hs' q)⟩
                · rw [setI_n (by omega), setI_s]
                · unfold lyA; rw [if_neg h78, if_neg h103]; exact setI_s
            · exact absurd h103 h37
          · exact absurd h78 h21
        · refine Ex_aload_n dX8_lay_40 rfl ?_
          refine Ex_iload_n dX8_lay_41 rfl ?_
          refine Ex_V1p dX8_lay_42 sX8_276 (ds_o hD) (Nat.le_of_ble_eq_true rfl) (c8_sheetRefusal d hD hA _) ?_
          refine Ex_istore dX8_lay_45 (by decide) rfl ?_
          simp only [List.set_cons_zero, List.set_cons_succ]
          refine Ex_iload dX8_lay_47 rfl ?_
          refine Ex_if_eq (tgt := 55) dX8_lay_49 (by decide) (fun h49 => ?_) (fun h49 => ?_)
          · obtain ⟨s', hs', es⟩ := (rng_k (by omega)).mp h5
            subst es
            have ecs : cl (nI s') = s' := cl_nI (by omega)
            have hsl := hL s' hs'
            obtain ⟨r4, rs⟩ := rfS_0 h49
            have hly : lyP g so (nI s') t k := ⟨h5, h13, fun q => absurd q h21, fun _ => r4⟩
            have hln : ¬ lyN so t k := fun q => rs q.2
            refine Ex_aload_n dX8_lay_55 rfl ?_
            refine Ex_getr dX8_lay_56 fX8_58 (ds_o hD) (ds_sl hD) ?_
            refine Ex_iload_n dX8_lay_59 rfl ?_
            refine Ex_aaldSl dX8_lay_60 (ds_slI hD) rfl (by rw [ds_slN hD]; omega) (by rw [ds_slN hD]; decide) (ds_slk hD s' (by omega)) ?_
            refine Ex_astore dX8_lay_61 (by decide) rfl ?_
            simp only [List.set_cons_zero, List.set_cons_succ]
            refine Ex_aload dX8_lay_63 rfl ?_
            refine Ex_geti dX8_lay_65 fX8_294 (ds_slo hD s' hs') ?_
            refine Ex_istore dX8_lay_68 (by decide) rfl ?_
            simp only [List.set_cons_zero, List.set_cons_succ]
            refine Ex_aload dX8_lay_70 rfl ?_
            refine Ex_iload_n dX8_lay_72 rfl ?_
            refine Ex_puti dX8_lay_73 fX8_294 rfl rfl rfl (ds_slo hD s' hs') ?_
            refine Ex_iload_n dX8_lay_76 rfl ?_
            refine Ex_iconst (v := nI 1) dX8_lay_77 (by rfl) ?_
            refine Ex_icmp_ne (tgt := 101) dX8_lay_78 (by decide) (fun h78 => ?_) (fun h78 => ?_)
            · refine Ex_iload_n dX8_lay_101 rfl ?_
              refine Ex_iconst (v := nI 2) dX8_lay_102 (by rfl) ?_
              refine Ex_icmp_ne (tgt := 123) dX8_lay_103 (by decide) (fun h103 => ?_) (fun h103 => ?_)
              · exact absurd h37 h103
              · obtain ⟨k', hk', ek⟩ := (rng_k (by omega)).mp r4
                subst ek
                have eck : cl (nI k') = k' := cl_nI (by omega)
                have hsh := hA k' hk'
                refine Ex_aload dX8_lay_106 rfl ?_
                refine Ex_getr dX8_lay_108 fX8_304 (ds_slo hD s' hs') (ds_sls hD s' hs') ?_
                refine Ex_aload_n dX8_lay_111 rfl ?_
                refine Ex_getr dX8_lay_112 fX8_51 (ds_o hD) (ds_sh hD) ?_
                refine Ex_iload_n dX8_lay_115 rfl ?_
                refine Ex_aaldSh dX8_lay_116 (ds_shI hD) rfl (by rw [ds_shN hD]; omega) (by rw [ds_shN hD]; decide) (ds_shk hD k' (by omega)) ?_
                refine Ex_V1v dX8_lay_117 sX8_308 (ds_slS hD s' hs').1 (Nat.le_of_ble_eq_true rfl) (c3_become d (ds_slS hD s' hs') (ds_shS hD k' hk') (by omega) (by omega) (by omega)) ?_
                rintro J _ ⟨hj1, hj2, hf, rfl⟩
                refine Ex_goto (tgt := 129) dX8_lay_120 (by decide) ?_
                refine Ex_iload dX8_lay_129 rfl ?_
                refine Ex_iret dX8_lay_131 (by first | rfl | exact narrow_bI) ?_
                refine ⟨_, rfl, ?_, ?_, rfl⟩
                · unfold r_lay; rw [if_pos hly, if_neg hln, ecs]; exact hsl.1
                · rw [if_pos ⟨hly, hln⟩, ecs, if_pos h103, eck]
                  have hF9 : Fr (fun x => D + 91 + 5 * s' ≤ x ∧ x < D + 91 + 5 * s' + 5) I J := (Fr.refl.si ⟨by omega, by omega⟩).trans (hf.mono (fun x q => by unfold P2 at q; omega))
                  refine ⟨hL.upd s' ⟨?_, fun q => absurd (q.symm.trans h103) (by decide), fun _ => ⟨sz k', hsh.1.2.2.1, ?_, ?_, fun i hi => ?_⟩, fun q => absurd (q.symm.trans h103) (by decide)⟩ hF9, hF9.mono (fun x q => slPS hs' q)⟩
                  · rw [hf _ (fun q => by unfold P2 at q; omega), setI_s]
                  · unfold lyA; rw [if_neg (fun q => absurd (q.symm.trans h103) (by decide)), if_pos h103, eck]
                  · rw [show D + 91 + 5 * s' + 3 = D + 94 + 5 * s' by omega, hj1 1 (by omega), setI_a (by omega)]; exact hsh.1.2.1
                  · rw [show D + 91 + 5 * s' + 4 = D + 94 + 5 * s' + 1 by omega, hj2 i hi, setI_a (by omega)]; exact hsh.1.2.2.2 i hi
            · exact absurd h78 h21
          · refine Ex_iload dX8_lay_52 rfl ?_
            refine Ex_iret dX8_lay_54 (by first | rfl | exact narrow_bI) ?_
            refine ⟨_, rfl, ?_, ?_, rfl⟩
            · unfold r_lay rfS
              by_cases h4 : inR k 4
              · have hly : lyP g so s t k := ⟨h5, h13, fun q => absurd (q.symm.trans h37) (by decide), fun _ => h4⟩
                unfold rfS at h49
                rw [if_pos h4] at h49 ⊢
                rw [if_pos hly]
                by_cases h2 : so (cl k) < 0
                · rw [if_pos h2, if_pos (c := lyN so t k) ⟨h37, h2⟩]
                · rw [if_neg h2] at h49; exact absurd nI_0 h49
              · rw [if_neg h4, if_neg (c := lyP g so s t k) (fun q => h4 (q.2.2.2 h37))]
            · rw [if_neg]
              rintro ⟨q1, q2⟩
              apply h49
              have h4 := q1.2.2.2 h37
              unfold rfS
              rw [if_pos h4, if_neg (fun w => q2 ⟨h37, w⟩)]
              rfl
      · refine Ex_aload_n dX8_lay_24 rfl ?_
        refine Ex_iload_n dX8_lay_25 rfl ?_
        refine Ex_V1p dX8_lay_26 sX8_81 (ds_o hD) (Nat.le_of_ble_eq_true rfl) (c8_isSurface (d) hD hH _) ?_
        refine Ex_if_neB (tgt := 35) dX8_lay_29 (by decide) (fun h29 => ?_) (fun h29 => ?_)
        · refine Ex_iload_n dX8_lay_35 rfl ?_
          refine Ex_iconst (v := nI 2) dX8_lay_36 (by rfl) ?_
          refine Ex_icmp_ne (tgt := 55) dX8_lay_37 (by decide) (fun h37 => ?_) (fun h37 => ?_)
          · obtain ⟨s', hs', es⟩ := (rng_k (by omega)).mp h5
            subst es
            have ecs : cl (nI s') = s' := cl_nI (by omega)
            have hsl := hL s' hs'
            have hly : lyP g so (nI s') t k := ⟨h5, h13, fun _ => h29, fun q => absurd (q.symm.trans h21) (by decide)⟩
            have hln : ¬ lyN so t k := fun q => absurd (q.1.symm.trans h21) (by decide)
            refine Ex_aload_n dX8_lay_55 rfl ?_
            refine Ex_getr dX8_lay_56 fX8_58 (ds_o hD) (ds_sl hD) ?_
            refine Ex_iload_n dX8_lay_59 rfl ?_
            refine Ex_aaldSl dX8_lay_60 (ds_slI hD) rfl (by rw [ds_slN hD]; omega) (by rw [ds_slN hD]; decide) (ds_slk hD s' (by omega)) ?_
            refine Ex_astore dX8_lay_61 (by decide) rfl ?_
            simp only [List.set_cons_zero, List.set_cons_succ]
            refine Ex_aload dX8_lay_63 rfl ?_
            refine Ex_geti dX8_lay_65 fX8_294 (ds_slo hD s' hs') ?_
            refine Ex_istore dX8_lay_68 (by decide) rfl ?_
            simp only [List.set_cons_zero, List.set_cons_succ]
            refine Ex_aload dX8_lay_70 rfl ?_
            refine Ex_iload_n dX8_lay_72 rfl ?_
            refine Ex_puti dX8_lay_73 fX8_294 rfl rfl rfl (ds_slo hD s' hs') ?_
            refine Ex_iload_n dX8_lay_76 rfl ?_
            refine Ex_iconst (v := nI 1) dX8_lay_77 (by rfl) ?_
            refine Ex_icmp_ne (tgt := 101) dX8_lay_78 (by decide) (fun h78 => ?_) (fun h78 => ?_)
            · exact absurd h21 h78
            · obtain ⟨k', hk', ek⟩ := (rng_k (by omega)).mp h29
              subst ek
              have eck : cl (nI k') = k' := cl_nI (by omega)
              refine Ex_aload dX8_lay_81 rfl ?_
              refine Ex_getr dX8_lay_83 fX8_297 (ds_slo hD s' hs') (ds_slf hD s' hs') ?_
              refine Ex_aload_n dX8_lay_86 rfl ?_
              refine Ex_getr dX8_lay_87 fX8_16 (ds_o hD) (ds_h hD) ?_
              refine Ex_getr dX8_lay_90 fX8_85 (hl_o hS) (hl_s hS) ?_
              refine Ex_iload_n dX8_lay_93 rfl ?_
              refine Ex_aaldSu dX8_lay_94 (hl_sI hS) rfl (by rw [hl_sN hS]; omega) (by rw [hl_sN hS]; decide) (hl_k hS k' (by omega)) ?_
              refine Ex_V1v dX8_lay_95 sX8_301 (ds_slF hD s' hs').1 (Nat.le_of_ble_eq_true rfl) (c5_become d (ds_slF hD s' hs') (hl_S hS k' (by omega)) (by omega) (by omega) (by omega)) ?_
              rintro J _ ⟨hj1, hj2, hf, rfl⟩
              refine Ex_goto (tgt := 129) dX8_lay_98 (by decide) ?_
              refine Ex_iload dX8_lay_129 rfl ?_
              refine Ex_iret dX8_lay_131 (by first | rfl | exact narrow_bI) ?_
              refine ⟨_, rfl, ?_, ?_, rfl⟩
              · unfold r_lay; rw [if_pos hly, if_neg hln, ecs]; exact hsl.1
              · rw [if_pos ⟨hly, hln⟩, ecs]
                have hF9 : Fr (fun x => D + 91 + 5 * s' ≤ x ∧ x < D + 91 + 5 * s' + 5) I J := (Fr.refl.si ⟨by omega, by omega⟩).trans (hf.mono (fun x q => by unfold P2 at q; omega))
                refine ⟨hL.upd s' ⟨?_, fun _ => ?_, fun q => absurd (q.symm.trans h78) (by decide), fun q => absurd (q.symm.trans h78) (by decide)⟩ hF9, hF9.mono (fun x q => slPS hs' q)⟩
                · rw [hf _ (fun q => by unfold P2 at q; omega), setI_s]
                · have eA : lyA g sz t (nI k') = g (8 + 17 * k' + 0) := by unfold lyA; rw [if_pos h78, eck]
                  have eB : lyB g t (nI k') = worthK (g (8 + 17 * k' + 0)) (g (8 + 17 * k' + 2)) := by unfold lyB; rw [if_pos h78, eck]
                  have j0 : J (D + 91 + 5 * s' + 1) 0 = g (8 + 17 * k' + 0) := by
                    have := hj1 0 (by omega)
                    rw [show D + 91 + 5 * s' + 1 = D + 92 + 5 * s' by omega, this, setI_a (by omega)]
                    exact (hH.sf hk').1 0 (by omega)
                  have j2 : J (D + 91 + 5 * s' + 1) 2 = g (8 + 17 * k' + 2) := by
                    have := hj1 2 (by omega)
                    rw [show D + 91 + 5 * s' + 1 = D + 92 + 5 * s' by omega, this, setI_a (by omega)]
                    exact (hH.sf hk').1 2 (by omega)
                  obtain ⟨q, hq, ek9⟩ := (hH.ly (s := k') (by omega)).2.2.2
                  exact ⟨by rw [eA]; exact j0, ⟨q, hq, by rw [eA]; exact ek9⟩, by rw [eB, j0, j2]⟩
          · exact absurd (h37.symm.trans h21) (by decide)
        · refine Ex_ldc dX8_lay_32 kX8_71 ?_
          refine Ex_iret dX8_lay_34 (by first | rfl | exact narrow_bI) ?_
          have hb : ¬ lyP g so s t k := fun q => h29 (q.2.2.1 h21)
          exact ⟨_, rfl, (by unfold r_lay; rw [if_neg hb]), (by rw [if_neg (fun q => hb q.1)]), rfl⟩
    · refine Ex_ldc dX8_lay_16 kX8_71 ?_
      refine Ex_iret dX8_lay_18 (by first | rfl | exact narrow_bI) ?_
      exact ⟨_, rfl, (by unfold r_lay; rw [if_neg (fun q => h13 q.2.1)]), (by rw [if_neg (fun q => h13 q.1.2.1)]), rfl⟩
/-! feed -/
def tpF (f : Nat → Int32) (tp : Nat) (a q c : Int32) : Nat → Int32 := tpW (tpW (tpW f tp a 4) (tp + 4) q 4) (tp + 8) c 4
def PTp (D : Nat) : Nat → Prop := fun x => x = D + 59 ∨ x = D + 60
set_option maxRecDepth 100000 in
set_option maxHeartbeats 4000000 in
theorem C8_feed {T : TC} {I : MI} {G : MG} (d : Nat) {D N : Nat} (hD : DS T G D N) (tp : Nat) (a q c : Int32) (ht : I (D + 59) 1 = nI tp) (h96 : tp ≤ 96) : OkI T mX8_feed (d + 1) [.ref D, .int a, .int q, .int c] I G (fun r I' G' => r = (if tp ≤ 84 then nI (tp + 12) else cFULL) ∧ (if tp ≤ 84 then I' (D + 59) 1 = nI (tp + 12) ∧ I' (D + 60) = tpF (I (D + 60)) tp a q c ∧ Fr (PTp D) I I' else I' = I) ∧ G' = G) := by
  refine Ok_of (own := RX8) (by decide) rfl (cat1 rfl) (Nat.le_of_ble_eq_true rfl) ?_
  show Ex T RX8 cX8_feed 4 (d + 1) _ 0 [some (.ref D), some (.int a), some (.int q), some (.int c)] [] I G (0, 0)
  refine Ex_aload_n dX8_feed_0 rfl ?_
  refine Ex_getr dX8_feed_1 fX8_29 (ds_o hD) (ds_tpr hD) ?_
  refine Ex_geti dX8_feed_4 fX8_231 (ds_tp hD).1 ?_
  refine Ex_top ht ?_
  refine Ex_bipush (v := nI 12) dX8_feed_7 (by rfl) ?_
  first | with_reducible refine Ex_iaddN dX8_feed_9 ?_ | refine Ex_iadd dX8_feed_9 ?_
  refine Ex_bipush (v := nI 96) dX8_feed_10 (by rfl) ?_
  refine Ex_icmp_leN (by omega) (by omega) (tgt := 18) dX8_feed_12 (by decide) (fun h12 => ?_) (fun h12 => ?_)
  · refine Ex_aload_n dX8_feed_18 rfl ?_
    refine Ex_getr dX8_feed_19 fX8_29 (ds_o hD) (ds_tpr hD) ?_
    refine Ex_iload_n dX8_feed_22 rfl ?_
    refine Ex_V1v dX8_feed_23 sX8_232 (ds_tp hD).1 (Nat.le_of_ble_eq_true rfl) (c6_addBytes d (ds_tp hD) _ (tp) (by omega) ht) ?_
    rintro _ _ ⟨rfl, rfl⟩
    refine Ex_aload_n dX8_feed_26 rfl ?_
    refine Ex_getr dX8_feed_27 fX8_29 (ds_o hD) (ds_tpr hD) ?_
    refine Ex_iload_n dX8_feed_30 rfl ?_
    refine Ex_V1v dX8_feed_31 sX8_232 (ds_tp hD).1 (Nat.le_of_ble_eq_true rfl) (c6_addBytes d (ds_tp hD) _ (tp + 4) (by omega) (by rw [rowI_s, upd_s])) ?_
    rintro _ _ ⟨rfl, rfl⟩
    refine Ex_aload_n dX8_feed_34 rfl ?_
    refine Ex_getr dX8_feed_35 fX8_29 (ds_o hD) (ds_tpr hD) ?_
    refine Ex_iload_n dX8_feed_38 rfl ?_
    refine Ex_V1v dX8_feed_39 sX8_232 (ds_tp hD).1 (Nat.le_of_ble_eq_true rfl) (c6_addBytes d (ds_tp hD) _ (tp + 8) (by omega) (by rw [rowI_s, upd_s])) ?_
    rintro _ _ ⟨rfl, rfl⟩
    refine Ex_aload_n dX8_feed_42 rfl ?_
    refine Ex_getr dX8_feed_43 fX8_29 (ds_o hD) (ds_tpr hD) ?_
    refine Ex_geti dX8_feed_46 fX8_231 (ds_tp hD).1 ?_
    refine Ex_top (show _ = nI (tp + 12) by rw [rowI_s, upd_s]) ?_
    refine Ex_iret dX8_feed_49 (by first | rfl | exact narrow_bI) ?_
    refine ⟨_, rfl, (by rw [if_pos (by omega)]), ?_, rfl⟩
    rw [if_pos (by omega)]
    refine ⟨by rw [rowI_s, upd_s], ?_, ?_⟩
    · show rowI _ (D + 59) _ (D + 59 + 1) = _
      rw [rowI_n (by omega), rowI_s, rowI_n (by omega), rowI_s, rowI_n (by omega), rowI_s]
      rfl
    · intro x hx
      have e1 : x ≠ D + 59 := fun e => hx (Or.inl e)
      have e2 : x ≠ D + 59 + 1 := fun e => hx (Or.inr e)
      rw [rowI_n e1, rowI_n e2, rowI_n e1, rowI_n e2, rowI_n e1, rowI_n e2]
  · refine Ex_ldc dX8_feed_15 kX8_76 ?_
    refine Ex_iret dX8_feed_17 (by first | rfl | exact narrow_bI) ?_
    exact ⟨_, rfl, (by rw [if_neg (by omega)]), (by rw [if_neg (by omega)]), rfl⟩
