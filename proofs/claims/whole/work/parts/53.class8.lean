/-! the class itself: its cells -/
def DS (T : TC) (G : MG) (D N : Nat) : Prop := (Is T G D 8 ∧ D + 117 ≤ N) ∧ (gR G D 0 = some (D + 2) ∧ gR G D 1 = some (D + 21) ∧ gR G D 2 = some (D + 40) ∧ gR G D 4 = some (D + 59) ∧ gR G D 5 = some (D + 61) ∧ gR G D 6 = some (D + 63) ∧ gR G D 7 = some (D + 81) ∧ gR G D 8 = some (D + 90) ∧ gR G D 9 = some (D + 116)) ∧ (HlS T G (D + 2) (D + 1) ∧ HlS T G (D + 21) (D + 1) ∧ HlS T G (D + 40) (D + 1)) ∧ TpS T G (D + 59) ∧ (Is T G (D + 61) 0 ∧ gR G (D + 61) 0 = some (D + 59) ∧ gR G (D + 61) 1 = some (D + 62) ∧ Is T G (D + 62) 10 ∧ gN G (D + 62) = 96) ∧ RdS T G (D + 63) ∧ (Is T G (D + 81) 15 ∧ gN G (D + 81) = 4 ∧ ∀ k, k < 4 → gR G (D + 81) k = some (D + 82 + 2 * k) ∧ ShS T G (D + 82 + 2 * k)) ∧ (Is T G (D + 90) 16 ∧ gN G (D + 90) = 5 ∧ ∀ k, k < 5 → gR G (D + 90) k = some (D + 91 + 5 * k) ∧ Is T G (D + 91 + 5 * k) 4 ∧ gR G (D + 91 + 5 * k) 1 = some (D + 92 + 5 * k) ∧ SfS T G (D + 92 + 5 * k) ∧ gR G (D + 91 + 5 * k) 2 = some (D + 94 + 5 * k) ∧ ShS T G (D + 94 + 5 * k)) ∧ (Is T G (D + 116) 10 ∧ gN G (D + 116) = 60)
section DSS
variable {T : TC} {G : MG} {D N : Nat}
theorem ds_o (h : DS T G D N) : Is T G D 8 := h.1.1
theorem ds_N (h : DS T G D N) : D + 117 ≤ N := h.1.2
theorem ds_h (h : DS T G D N) : gR G D 0 = some (D + 2) := h.2.1.1
theorem ds_i (h : DS T G D N) : gR G D 1 = some (D + 21) := h.2.1.2.1
theorem ds_t (h : DS T G D N) : gR G D 2 = some (D + 40) := h.2.1.2.2.1
theorem ds_tpr (h : DS T G D N) : gR G D 4 = some (D + 59) := h.2.1.2.2.2.1
theorem ds_gr (h : DS T G D N) : gR G D 5 = some (D + 61) := h.2.1.2.2.2.2.1
theorem ds_rdr (h : DS T G D N) : gR G D 6 = some (D + 63) := h.2.1.2.2.2.2.2.1
theorem ds_sh (h : DS T G D N) : gR G D 7 = some (D + 81) := h.2.1.2.2.2.2.2.2.1
theorem ds_sl (h : DS T G D N) : gR G D 8 = some (D + 90) := h.2.1.2.2.2.2.2.2.2.1
theorem ds_w (h : DS T G D N) : gR G D 9 = some (D + 116) := h.2.1.2.2.2.2.2.2.2.2
theorem ds_H (h : DS T G D N) : HlS T G (D + 2) (D + 1) := h.2.2.1.1
theorem ds_I (h : DS T G D N) : HlS T G (D + 21) (D + 1) := h.2.2.1.2.1
theorem ds_T (h : DS T G D N) : HlS T G (D + 40) (D + 1) := h.2.2.1.2.2
theorem ds_tp (h : DS T G D N) : TpS T G (D + 59) := h.2.2.2.1
theorem ds_g (h : DS T G D N) : Is T G (D + 61) 0 ∧ gR G (D + 61) 0 = some (D + 59) ∧ gR G (D + 61) 1 = some (D + 62) ∧ Is T G (D + 62) 10 ∧ gN G (D + 62) = 96 := h.2.2.2.2.1
theorem ds_rd (h : DS T G D N) : RdS T G (D + 63) := h.2.2.2.2.2.1
theorem ds_shI (h : DS T G D N) : Is T G (D + 81) 15 := h.2.2.2.2.2.2.1.1
theorem ds_shN (h : DS T G D N) : gN G (D + 81) = 4 := h.2.2.2.2.2.2.1.2.1
theorem ds_shk (h : DS T G D N) (k : Nat) (hk : k < 4) : gR G (D + 81) k = some (D + 82 + 2 * k) := (h.2.2.2.2.2.2.1.2.2 k hk).1
theorem ds_shS (h : DS T G D N) (k : Nat) (hk : k < 4) : ShS T G (D + 82 + 2 * k) := (h.2.2.2.2.2.2.1.2.2 k hk).2
theorem ds_slI (h : DS T G D N) : Is T G (D + 90) 16 := h.2.2.2.2.2.2.2.1.1
theorem ds_slN (h : DS T G D N) : gN G (D + 90) = 5 := h.2.2.2.2.2.2.2.1.2.1
theorem ds_slk (h : DS T G D N) (k : Nat) (hk : k < 5) : gR G (D + 90) k = some (D + 91 + 5 * k) := (h.2.2.2.2.2.2.2.1.2.2 k hk).1
theorem ds_slo (h : DS T G D N) (k : Nat) (hk : k < 5) : Is T G (D + 91 + 5 * k) 4 := (h.2.2.2.2.2.2.2.1.2.2 k hk).2.1
theorem ds_slf (h : DS T G D N) (k : Nat) (hk : k < 5) : gR G (D + 91 + 5 * k) 1 = some (D + 92 + 5 * k) := (h.2.2.2.2.2.2.2.1.2.2 k hk).2.2.1
theorem ds_slF (h : DS T G D N) (k : Nat) (hk : k < 5) : SfS T G (D + 92 + 5 * k) := (h.2.2.2.2.2.2.2.1.2.2 k hk).2.2.2.1
theorem ds_sls (h : DS T G D N) (k : Nat) (hk : k < 5) : gR G (D + 91 + 5 * k) 2 = some (D + 94 + 5 * k) := (h.2.2.2.2.2.2.2.1.2.2 k hk).2.2.2.2.1
theorem ds_slS (h : DS T G D N) (k : Nat) (hk : k < 5) : ShS T G (D + 94 + 5 * k) := (h.2.2.2.2.2.2.2.1.2.2 k hk).2.2.2.2.2
theorem ds_wI (h : DS T G D N) : Is T G (D + 116) 10 := h.2.2.2.2.2.2.2.2.1
theorem ds_wN (h : DS T G D N) : gN G (D + 116) = 60 := h.2.2.2.2.2.2.2.2.2
end DSS
/-- what may change when something is only asked: the thought, the readings, the stacks of texts -/
def PS (D N : Nat) : Nat → Prop := fun x => (D + 40 ≤ x ∧ x < D + 59) ∨ (D + 63 ≤ x ∧ x < D + 81) ∨ PK N x
theorem sf_w {I : MI} {a s w : Nat} {g : Nat → Int32} {v : Int32} (hR : SfR I a g s) (hw : w < 2) : SfR (setI I a w v) a (upd g (8 + 17 * s + w) v) s := by
  have em : mN (upd g (8 + 17 * s + w) v) s = mN g s := by unfold mN; rw [upd_n (by omega)]
  refine ⟨fun x hx => ?_, fun i hi => ?_⟩
  · by_cases e : x = w
    · rw [e, setI_s, upd_s]
    · rw [setI_n (by omega), upd_n (by omega)]; exact hR.1 x hx
  · rw [em] at hi
    rw [setI_a (by omega), upd_n (by omega)]; exact hR.2 i hi
theorem Ly_kind {g : Nat → Int32} {s k : Nat} (hl : LyOk g s) (hk : k < 6) : LyOk (upd g (8 + 17 * s + 0) (nI k)) s := by
  have em : mN (upd g (8 + 17 * s + 0) (nI k)) s = mN g s := by unfold mN; rw [upd_n (by omega)]
  exact ⟨by rw [em, upd_n (by omega)]; exact hl.1, by rw [em]; exact hl.2.1, fun i hi => by rw [em] at hi; rw [upd_n (by omega)]; exact hl.2.2.1 i hi, k, hk, upd_s⟩
theorem Ly_damp {g : Nat → Int32} {s : Nat} {v : Int32} (hl : LyOk g s) : LyOk (upd g (8 + 17 * s + 1) v) s := by
  have em : mN (upd g (8 + 17 * s + 1) v) s = mN g s := by unfold mN; rw [upd_n (by omega)]
  obtain ⟨k, hk, ek⟩ := hl.2.2.2
  exact ⟨by rw [em, upd_n (by omega)]; exact hl.1, by rw [em]; exact hl.2.1, fun i hi => by rw [em] at hi; rw [upd_n (by omega)]; exact hl.2.2.1 i hi, k, hk, by rw [upd_n (by omega)]; exact ek⟩
section HKD
variable {T : TC} {I : MI} {G : MG} {b X N s : Nat} {g : Nat → Int32}
theorem Hl.kind (h : Hl T I G b X N g) {k : Nat} (hs : s < nS g) (hk : k < 6) : Hl T (setI I (b + 3 + 2 * s) 0 (nI k)) G b X N (upd g (8 + 17 * s + 0) (nI k)) := by
  have h8 := h.n8
  exact h.surf (s := s) (by omega) (sf_w (h.sf hs) (by omega)) (Fr.refl.si (Or.inl rfl)) (fun j hj => upd_n (by omega)) (Ly_kind (h.ly (by omega)) hk)
theorem Hl.damp (h : Hl T I G b X N g) {v : Int32} (hs : s < nS g) : Hl T (setI I (b + 3 + 2 * s) 1 v) G b X N (upd g (8 + 17 * s + 1) v) := by
  have h8 := h.n8
  exact h.surf (s := s) (by omega) (sf_w (h.sf hs) (by omega)) (Fr.refl.si (Or.inl rfl)) (fun j hj => upd_n (by omega)) (Ly_damp (h.ly (by omega)))
theorem PHs {x : Nat} (hs : s < 8) (e : x = b + 3 + 2 * s) : PH b N x := Or.inl ⟨by omega, by omega⟩
end HKD
set_option maxRecDepth 100000 in
set_option maxHeartbeats 4000000 in
theorem c8_isSurface {T : TC} {I : MI} {G : MG} (d : Nat) {D N : Nat} {g : Nat → Int32} (hD : DS T G D N) (hH : Hl T I G (D + 2) (D + 1) N g) (s : Int32)  : OkP T mX8_isSurface (d + 1) [.ref D, .int s] I G (bI (inR s (nS g))) := by
  refine Ok_of (own := RX8) (by decide) rfl (cat1 rfl) (Nat.le_of_ble_eq_true rfl) ?_
  show Ex T RX8 cX8_isSurface 2 (d + 1) _ 0 [some (.ref D), some (.int s)] [] I G (0, 0)
  have hS := hH.1
  have hn8 := hH.n8
  refine Ex_iload_n dX8_isSurface_0 rfl ?_
  refine Ex_aload_n dX8_isSurface_1 rfl ?_
  refine Ex_getr dX8_isSurface_2 fX8_16 (ds_o hD) (ds_h hD) ?_
  refine Ex_geti dX8_isSurface_5 fX8_72 (hl_o hS) ?_
  refine Ex_top hH.n ?_
  refine Ex_S2p dX8_isSurface_8 sX8_67  (Nat.le_of_ble_eq_true rfl) (c8_isBelow (d) _ _) ?_
  refine Ex_iret dX8_isSurface_11 (by first | rfl | exact narrow_bI) ?_
  exact ⟨_, rfl, rfl, rfl, rfl⟩
set_option maxRecDepth 100000 in
set_option maxHeartbeats 4000000 in
theorem C8_surface {T : TC} {I : MI} {G : MG} (d : Nat) {D N : Nat} {g : Nat → Int32} (hD : DS T G D N) (hH : Hl T I G (D + 2) (D + 1) N g) (kind damp : Int32)  : OkI T mX8_surface (d + 2) [.ref D, .int kind, .int damp] I G (fun r I' G' => r = r_surface g kind damp ∧ Hl T I' G (D + 2) (D + 1) N (g_surface g kind damp) ∧ Fr (PH (D + 2) N) I I' ∧ G' = G) := by
  refine Ok_of (own := RX8) (by decide) rfl (cat1 rfl) (Nat.le_of_ble_eq_true rfl) ?_
  show Ex T RX8 cX8_surface 3 (d + 2) _ 0 [some (.ref D), some (.int kind), some (.int damp)] [] I G (0, 0)
  have hS := hH.1
  have hn8 := hH.n8
  refine Ex_iload_n dX8_surface_0 rfl ?_
  refine Ex_bipush (v := nI 6) dX8_surface_1 (by rfl) ?_
  refine Ex_S2p dX8_surface_3 sX8_67  (Nat.le_of_ble_eq_true rfl) (c8_isBelow (d + 1) _ _) ?_
  refine Ex_if_eqB (tgt := 18) dX8_surface_6 (by decide) (fun h6 => ?_) (fun h6 => ?_)
  · refine Ex_ldc dX8_surface_18 kX8_71 ?_
    refine Ex_iret dX8_surface_20 (by first | rfl | exact narrow_bI) ?_
    exact ⟨_, rfl, (by unfold r_surface; rw [if_neg (fun q => h6 q.1)]), by rw [show g_surface g kind damp = g by unfold g_surface; rw [if_neg (fun q => h6 q.1)]]; exact hH, Fr.refl, rfl⟩
  · refine Ex_iload_n dX8_surface_9 rfl ?_
    refine Ex_bipush (v := nI 10) dX8_surface_10 (by rfl) ?_
    refine Ex_S2p dX8_surface_12 sX8_67  (Nat.le_of_ble_eq_true rfl) (c8_isBelow (d + 1) _ _) ?_
    refine Ex_if_neB (tgt := 21) dX8_surface_15 (by decide) (fun h15 => ?_) (fun h15 => ?_)
    · refine Ex_aload_n dX8_surface_21 rfl ?_
      refine Ex_getr dX8_surface_22 fX8_16 (ds_o hD) (ds_h hD) ?_
      refine Ex_geti dX8_surface_25 fX8_72 (hl_o hS) ?_
      refine Ex_top hH.n ?_
      refine Ex_bipush (v := nI 8) dX8_surface_28 (by rfl) ?_
      refine Ex_icmp_ltN (by omega) (by omega) (tgt := 36) dX8_surface_30 (by decide) (fun h30 => ?_) (fun h30 => ?_)
      · obtain ⟨k', hk', ek⟩ := (rng_k (by omega)).mp h6
        subst ek
        refine Ex_aload_n dX8_surface_36 rfl ?_
        refine Ex_getr dX8_surface_37 fX8_16 (ds_o hD) (ds_h hD) ?_
        refine Ex_iload_n dX8_surface_40 rfl ?_
        refine Ex_iload_n dX8_surface_41 rfl ?_
        refine Ex_V2i dX8_surface_42 sX8_77 (hl_o hS) (Nat.le_of_ble_eq_true rfl) (c1_addSurface d hH (nS g) k' damp rfl (by omega) hk') ?_
        rintro r J2 _ ⟨rfl, hj, hf, rfl⟩
        refine Ex_iret dX8_surface_45 (by first | rfl | exact narrow_bI) ?_
        exact ⟨_, rfl, (by unfold r_surface; rw [if_pos ⟨h6, h15⟩, if_neg (by omega)]), by rw [show g_surface g (nI k') damp = comesG g (nS g) (nI k') damp by unfold g_surface; rw [if_pos ⟨h6, h15⟩, if_neg (by omega)]]; exact hj, hf, rfl⟩
      · refine Ex_ldc dX8_surface_33 kX8_76 ?_
        refine Ex_iret dX8_surface_35 (by first | rfl | exact narrow_bI) ?_
        exact ⟨_, rfl, (by unfold r_surface; rw [if_pos ⟨h6, h15⟩, if_pos (by omega)]), by rw [show g_surface g kind damp = g by unfold g_surface; rw [if_pos ⟨h6, h15⟩, if_pos (by omega)]]; exact hH, Fr.refl, rfl⟩
    · refine Ex_ldc dX8_surface_18 kX8_71 ?_
      refine Ex_iret dX8_surface_20 (by first | rfl | exact narrow_bI) ?_
      exact ⟨_, rfl, (by unfold r_surface; rw [if_neg (fun q => h15 q.2)]), by rw [show g_surface g kind damp = g by unfold g_surface; rw [if_neg (fun q => h15 q.2)]]; exact hH, Fr.refl, rfl⟩
set_option maxRecDepth 100000 in
set_option maxHeartbeats 4000000 in
theorem C8_told {T : TC} {I : MI} {G : MG} (d : Nat) {D N : Nat} {g : Nat → Int32} (hD : DS T G D N) (hH : Hl T I G (D + 2) (D + 1) N g) (s w : Int32)  : OkI T mX8_told (d + 3) [.ref D, .int s, .int w] I G (fun r I' G' => r = r_told g s w ∧ Fr (PS D N) I I' ∧ G' = G) := by
  refine Ok_of (own := RX8) (by decide) rfl (cat1 rfl) (Nat.le_of_ble_eq_true rfl) ?_
  show Ex T RX8 cX8_told 4 (d + 3) _ 0 [some (.ref D), some (.int s), some (.int w), none] [] I G (0, 0)
  have hS := hH.1
  have hn8 := hH.n8
  refine Ex_aload_n dX8_told_0 rfl ?_
  refine Ex_iload_n dX8_told_1 rfl ?_
  refine Ex_V1p dX8_told_2 sX8_81 (ds_o hD) (Nat.le_of_ble_eq_true rfl) (c8_isSurface (d + 1) hD hH _) ?_
  refine Ex_if_neB (tgt := 11) dX8_told_5 (by decide) (fun h5 => ?_) (fun h5 => ?_)
  · obtain ⟨s', hs', es⟩ := (rng_k (by omega)).mp h5
    subst es
    have ec : cl (nI s') = s' := cl_nI (by omega)
    have hl := hH.ly (s := s') (by omega)
    have hsf := hH.sf hs'
    refine Ex_aload_n dX8_told_11 rfl ?_
    refine Ex_getr dX8_told_12 fX8_16 (ds_o hD) (ds_h hD) ?_
    refine Ex_getr dX8_told_15 fX8_85 (hl_o hS) (hl_s hS) ?_
    refine Ex_iload_n dX8_told_18 rfl ?_
    refine Ex_aaldSu dX8_told_19 (hl_sI hS) rfl (by rw [hl_sN hS]; omega) (by rw [hl_sN hS]; decide) (hl_k hS s' (by omega)) ?_
    refine Ex_astore_n dX8_told_20 (by decide) rfl ?_
    simp only [st_n0, st_n1, st_n2, st_n3, List.set_cons_zero, List.set_cons_succ]
    refine Ex_iload_n dX8_told_21 rfl ?_
    rcases sw_cases (w) (0) (6) (by decide) (by decide) with ⟨k22, hk22, hl22, hx22⟩ | hx22
    · rcases (show k22 = 0 ∨ k22 = 1 ∨ k22 = 2 ∨ k22 = 3 ∨ k22 = 4 ∨ k22 = 5 ∨ k22 = 6 by omega) with rfl | rfl | rfl | rfl | rfl | rfl | rfl
      · have hx22 : w = nI 0 := hx22
        refine Ex_tabIn (tgt := 64) dX8_told_22 (by rw [hx22]; decide) (by rw [hx22]; decide) (off := 42) (by rw [hx22]; rfl) (by decide) ?_
        refine Ex_aload_n dX8_told_64 rfl ?_
        refine Ex_geti dX8_told_65 fX8_89 (hl_S hS s' (by omega)).1 ?_
        refine Ex_iret dX8_told_68 (by first | rfl | exact narrow_bI) ?_
        exact ⟨_, rfl, (by unfold r_told; rw [if_pos h5, if_pos hx22, ec]; exact hsf.1 0 (by omega)), Fr.refl, rfl⟩
      · have hx22 : w = nI 1 := hx22
        refine Ex_tabIn (tgt := 69) dX8_told_22 (by rw [hx22]; decide) (by rw [hx22]; decide) (off := 47) (by rw [hx22]; rfl) (by decide) ?_
        refine Ex_aload_n dX8_told_69 rfl ?_
        refine Ex_geti dX8_told_70 fX8_94 (hl_S hS s' (by omega)).1 ?_
        refine Ex_iret dX8_told_73 (by first | rfl | exact narrow_bI) ?_
        exact ⟨_, rfl, (by unfold r_told; rw [if_pos h5, if_neg (by rw [hx22]; decide), if_pos hx22, ec]; exact hsf.1 1 (by omega)), Fr.refl, rfl⟩
      · have hx22 : w = nI 2 := hx22
        refine Ex_tabIn (tgt := 74) dX8_told_22 (by rw [hx22]; decide) (by rw [hx22]; decide) (off := 52) (by rw [hx22]; rfl) (by decide) ?_
        refine Ex_aload_n dX8_told_74 rfl ?_
        refine Ex_geti dX8_told_75 fX8_97 (hl_S hS s' (by omega)).1 ?_
        refine Ex_iret dX8_told_78 (by first | rfl | exact narrow_bI) ?_
        exact ⟨_, rfl, (by unfold r_told; rw [if_pos h5, if_neg (by rw [hx22]; decide), if_neg (by rw [hx22]; decide), if_pos hx22, ec]; exact hsf.1 2 (by omega)), Fr.refl, rfl⟩
      · have hx22 : w = nI 3 := hx22
        refine Ex_tabIn (tgt := 79) dX8_told_22 (by rw [hx22]; decide) (by rw [hx22]; decide) (off := 57) (by rw [hx22]; rfl) (by decide) ?_
        refine Ex_aload_n dX8_told_79 rfl ?_
        refine Ex_geti dX8_told_80 fX8_98 (hl_S hS s' (by omega)).1 ?_
        refine Ex_iret dX8_told_83 (by first | rfl | exact narrow_bI) ?_
        exact ⟨_, rfl, (by unfold r_told; rw [if_pos h5, if_neg (by rw [hx22]; decide), if_neg (by rw [hx22]; decide), if_neg (by rw [hx22]; decide), if_pos hx22, ec]; exact hsf.1 3 (by omega)), Fr.refl, rfl⟩
      · have hx22 : w = nI 4 := hx22
        refine Ex_tabIn (tgt := 84) dX8_told_22 (by rw [hx22]; decide) (by rw [hx22]; decide) (off := 62) (by rw [hx22]; rfl) (by decide) ?_
        refine Ex_aload_n dX8_told_84 rfl ?_
        refine Ex_aload_n dX8_told_85 rfl ?_
        refine Ex_getr dX8_told_86 fX8_16 (ds_o hD) (ds_h hD) ?_
        refine Ex_geti dX8_told_89 fX8_101 (hl_o hS) ?_
        refine Ex_top (hH.fx (j := 6) (q := 2) (by decide)) ?_
        refine Ex_V1p dX8_told_92 sX8_104 (hl_S hS s' (by omega)).1 (Nat.le_of_ble_eq_true rfl) (c5_caughtSet (d + 1) (hl_S hS s' (by omega)) _) ?_
        refine Ex_iret dX8_told_95 (by first | rfl | exact narrow_bI) ?_
        exact ⟨_, rfl, (by unfold r_told; rw [if_pos h5, if_neg (by rw [hx22]; decide), if_neg (by rw [hx22]; decide), if_neg (by rw [hx22]; decide), if_neg (by rw [hx22]; decide), if_pos hx22, ec]; rw [hsf.1 0 (by omega), hsf.1 1 (by omega)]; exact csK_G 10), Fr.refl, rfl⟩
      · have hx22 : w = nI 5 := hx22
        refine Ex_tabIn (tgt := 96) dX8_told_22 (by rw [hx22]; decide) (by rw [hx22]; decide) (off := 74) (by rw [hx22]; rfl) (by decide) ?_
        refine Ex_aload_n dX8_told_96 rfl ?_
        refine Ex_getr dX8_told_97 fX8_16 (ds_o hD) (ds_h hD) ?_
        refine Ex_aload_n dX8_told_100 rfl ?_
        refine Ex_V1i dX8_told_101 sX8_108 (hl_o hS) (Nat.le_of_ble_eq_true rfl) (c1_broomTakesFrom d hH s' hs') ?_
        rintro r J2 _ ⟨rfl, hf, rfl⟩
        refine Ex_iret dX8_told_104 (by first | rfl | exact narrow_bI) ?_
        exact ⟨_, rfl, (by unfold r_told; rw [if_pos h5, if_neg (by rw [hx22]; decide), if_neg (by rw [hx22]; decide), if_neg (by rw [hx22]; decide), if_neg (by rw [hx22]; decide), if_neg (by rw [hx22]; decide), if_pos hx22, ec]), hf.mono (fun x q => Or.inr (Or.inr q)), rfl⟩
      · have hx22 : w = nI 6 := hx22
        refine Ex_tabIn (tgt := 105) dX8_told_22 (by rw [hx22]; decide) (by rw [hx22]; decide) (off := 83) (by rw [hx22]; rfl) (by decide) ?_
        refine Ex_aload_n dX8_told_105 rfl ?_
        refine Ex_V0p dX8_told_106 sX8_112 (hl_S hS s' (by omega)).1 (Nat.le_of_ble_eq_true rfl) (c5_worth (d + 2) (hl_S hS s' (by omega))) ?_
        refine Ex_iret dX8_told_109 (by first | rfl | exact narrow_bI) ?_
        exact ⟨_, rfl, (by unfold r_told; rw [if_pos h5, if_neg (by rw [hx22]; decide), if_neg (by rw [hx22]; decide), if_neg (by rw [hx22]; decide), if_neg (by rw [hx22]; decide), if_neg (by rw [hx22]; decide), if_neg (by rw [hx22]; decide), if_pos hx22, ec]; rw [hsf.1 0 (by omega), hsf.1 2 (by omega)]), Fr.refl, rfl⟩
    · refine Ex_tabOut (tgt := 110) dX8_told_22 hx22 (by decide) ?_
      refine Ex_ldc dX8_told_110 kX8_71 ?_
      refine Ex_iret dX8_told_112 (by first | rfl | exact narrow_bI) ?_
      exact ⟨_, rfl, (by unfold r_told; rw [if_pos h5, if_neg (fun q => swo hx22 (k := 0) (by decide) (by decide) q), if_neg (fun q => swo hx22 (k := 1) (by decide) (by decide) q), if_neg (fun q => swo hx22 (k := 2) (by decide) (by decide) q), if_neg (fun q => swo hx22 (k := 3) (by decide) (by decide) q), if_neg (fun q => swo hx22 (k := 4) (by decide) (by decide) q), if_neg (fun q => swo hx22 (k := 5) (by decide) (by decide) q), if_neg (fun q => swo hx22 (k := 6) (by decide) (by decide) q)]), Fr.refl, rfl⟩
  · refine Ex_ldc dX8_told_8 kX8_71 ?_
    refine Ex_iret dX8_told_10 (by first | rfl | exact narrow_bI) ?_
    exact ⟨_, rfl, (by unfold r_told; rw [if_neg h5]), Fr.refl, rfl⟩
set_option maxRecDepth 100000 in
set_option maxHeartbeats 4000000 in
theorem C8_layer {T : TC} {I : MI} {G : MG} (d : Nat) {D N : Nat} {g : Nat → Int32} (hD : DS T G D N) (hH : Hl T I G (D + 2) (D + 1) N g) (s k : Int32)  : OkP T mX8_layer (d + 2) [.ref D, .int s, .int k] I G (r_layer g s k) := by
  refine Ok_of (own := RX8) (by decide) rfl (cat1 rfl) (Nat.le_of_ble_eq_true rfl) ?_
  show Ex T RX8 cX8_layer 4 (d + 2) _ 0 [some (.ref D), some (.int s), some (.int k), none] [] I G (0, 0)
  have hS := hH.1
  have hn8 := hH.n8
  refine Ex_aload_n dX8_layer_0 rfl ?_
  refine Ex_iload_n dX8_layer_1 rfl ?_
  refine Ex_V1p dX8_layer_2 sX8_81 (ds_o hD) (Nat.le_of_ble_eq_true rfl) (c8_isSurface (d) hD hH _) ?_
  refine Ex_if_eqB (tgt := 17) dX8_layer_5 (by decide) (fun h5 => ?_) (fun h5 => ?_)
  · refine Ex_ldc dX8_layer_17 kX8_71 ?_
    refine Ex_iret dX8_layer_19 (by first | rfl | exact narrow_bI) ?_
    exact ⟨_, rfl, (by unfold r_layer; rw [if_neg (fun q => h5 q.1)]), rfl, rfl⟩
  · refine Ex_iload_n dX8_layer_8 rfl ?_
    refine Ex_bipush (v := nI 12) dX8_layer_9 (by rfl) ?_
    refine Ex_S2p dX8_layer_11 sX8_67  (Nat.le_of_ble_eq_true rfl) (c8_isBelow (d + 1) _ _) ?_
    refine Ex_if_neB (tgt := 20) dX8_layer_14 (by decide) (fun h14 => ?_) (fun h14 => ?_)
    · obtain ⟨s', hs', es⟩ := (rng_k (by omega)).mp h5
      subst es
      have ec : cl (nI s') = s' := cl_nI (by omega)
      have hl := hH.ly (s := s') (by omega)
      have hsf := hH.sf hs'
      obtain ⟨k', hk', ek⟩ := (rng_k (by omega)).mp h14
      subst ek
      have eck : cl (nI k') = k' := cl_nI (by omega)
      refine Ex_aload_n dX8_layer_20 rfl ?_
      refine Ex_getr dX8_layer_21 fX8_16 (ds_o hD) (ds_h hD) ?_
      refine Ex_getr dX8_layer_24 fX8_85 (hl_o hS) (hl_s hS) ?_
      refine Ex_iload_n dX8_layer_27 rfl ?_
      refine Ex_aaldSu dX8_layer_28 (hl_sI hS) rfl (by rw [hl_sN hS]; omega) (by rw [hl_sN hS]; decide) (hl_k hS s' (by omega)) ?_
      refine Ex_astore_n dX8_layer_29 (by decide) rfl ?_
      simp only [st_n0, st_n1, st_n2, st_n3, List.set_cons_zero, List.set_cons_succ]
      refine Ex_iload_n dX8_layer_30 rfl ?_
      refine Ex_aload_n dX8_layer_31 rfl ?_
      refine Ex_geti dX8_layer_32 fX8_97 (hl_S hS s' (by omega)).1 ?_
      refine Ex_top ((hsf.1 2 (by omega)).trans hl.1) ?_
      refine Ex_icmp_geN (by omega) (by have := hl.2.1; omega) (tgt := 47) dX8_layer_35 (by decide) (fun h35 => ?_) (fun h35 => ?_)
      · refine Ex_ldc dX8_layer_47 kX8_119 ?_
        refine Ex_iret dX8_layer_49 (by first | rfl | exact narrow_bI) ?_
        exact ⟨_, rfl, (by unfold r_layer; rw [if_pos ⟨h5, h14⟩, ec, eck, if_neg (by omega)]), rfl, rfl⟩
      · refine Ex_aload_n dX8_layer_38 rfl ?_
        refine Ex_getr dX8_layer_39 fX8_116 (hl_S hS s' (by omega)).1 (hl_S hS s' (by omega)).2.1 ?_
        refine Ex_iload_n dX8_layer_42 rfl ?_
        refine Ex_iald dX8_layer_43 (hl_S hS s' (by omega)).2.2.1 rfl (by rw [(hl_S hS s' (by omega)).2.2.2]; have := hl.2.1; omega) (by rw [(hl_S hS s' (by omega)).2.2.2]; decide) ?_
        refine Ex_goto (tgt := 49) dX8_layer_44 (by decide) ?_
        refine Ex_iret dX8_layer_49 (by first | rfl | exact narrow_bI) ?_
        exact ⟨_, rfl, (by unfold r_layer; rw [if_pos ⟨h5, h14⟩, ec, eck, if_pos (by omega)]; exact hsf.2 k' (by omega)), rfl, rfl⟩
    · refine Ex_ldc dX8_layer_17 kX8_71 ?_
      refine Ex_iret dX8_layer_19 (by first | rfl | exact narrow_bI) ?_
      exact ⟨_, rfl, (by unfold r_layer; rw [if_neg (fun q => h14 q.2)]), rfl, rfl⟩
set_option maxRecDepth 100000 in
set_option maxHeartbeats 4000000 in
theorem C8_turns {T : TC} {I : MI} {G : MG} (d : Nat) {D N : Nat} {g : Nat → Int32} (hD : DS T G D N) (hH : Hl T I G (D + 2) (D + 1) N g) (s v : Int32)  : OkI T mX8_turns (d + 2) [.ref D, .int s, .int v] I G (fun r I' G' => r = r_turns g s v ∧ Hl T I' G (D + 2) (D + 1) N (g_turns g s v) ∧ Fr (PH (D + 2) N) I I' ∧ G' = G) := by
  refine Ok_of (own := RX8) (by decide) rfl (cat1 rfl) (Nat.le_of_ble_eq_true rfl) ?_
  show Ex T RX8 cX8_turns 4 (d + 2) _ 0 [some (.ref D), some (.int s), some (.int v), none] [] I G (0, 0)
  have hS := hH.1
  have hn8 := hH.n8
  refine Ex_aload_n dX8_turns_0 rfl ?_
  refine Ex_iload_n dX8_turns_1 rfl ?_
  refine Ex_V1p dX8_turns_2 sX8_81 (ds_o hD) (Nat.le_of_ble_eq_true rfl) (c8_isSurface (d) hD hH _) ?_
  refine Ex_if_eqB (tgt := 17) dX8_turns_5 (by decide) (fun h5 => ?_) (fun h5 => ?_)
  · refine Ex_ldc dX8_turns_17 kX8_71 ?_
    refine Ex_iret dX8_turns_19 (by first | rfl | exact narrow_bI) ?_
    exact ⟨_, rfl, (by unfold r_turns; rw [if_neg (fun q => h5 q.1)]), by rw [show g_turns g s v = g by unfold g_turns; rw [if_neg (fun q => h5 q.1)]]; exact hH, Fr.refl, rfl⟩
  · refine Ex_iload_n dX8_turns_8 rfl ?_
    refine Ex_bipush (v := nI 6) dX8_turns_9 (by rfl) ?_
    refine Ex_S2p dX8_turns_11 sX8_67  (Nat.le_of_ble_eq_true rfl) (c8_isBelow (d + 1) _ _) ?_
    refine Ex_if_neB (tgt := 20) dX8_turns_14 (by decide) (fun h14 => ?_) (fun h14 => ?_)
    · obtain ⟨s', hs', es⟩ := (rng_k (by omega)).mp h5
      subst es
      have ec : cl (nI s') = s' := cl_nI (by omega)
      have hl := hH.ly (s := s') (by omega)
      have hsf := hH.sf hs'
      obtain ⟨k', hk', ek⟩ := (rng_k (by omega)).mp h14
      subst ek
      refine Ex_aload_n dX8_turns_20 rfl ?_
      refine Ex_getr dX8_turns_21 fX8_16 (ds_o hD) (ds_h hD) ?_
      refine Ex_getr dX8_turns_24 fX8_85 (hl_o hS) (hl_s hS) ?_
      refine Ex_iload_n dX8_turns_27 rfl ?_
      refine Ex_aaldSu dX8_turns_28 (hl_sI hS) rfl (by rw [hl_sN hS]; omega) (by rw [hl_sN hS]; decide) (hl_k hS s' (by omega)) ?_
      refine Ex_geti dX8_turns_29 fX8_89 (hl_S hS s' (by omega)).1 ?_
      refine Ex_istore_n dX8_turns_32 (by decide) rfl ?_
      simp only [st_n0, st_n1, st_n2, st_n3, List.set_cons_zero, List.set_cons_succ]
      refine Ex_aload_n dX8_turns_33 rfl ?_
      refine Ex_getr dX8_turns_34 fX8_16 (ds_o hD) (ds_h hD) ?_
      refine Ex_getr dX8_turns_37 fX8_85 (hl_o hS) (hl_s hS) ?_
      refine Ex_iload_n dX8_turns_40 rfl ?_
      refine Ex_aaldSu dX8_turns_41 (hl_sI hS) rfl (by rw [hl_sN hS]; omega) (by rw [hl_sN hS]; decide) (hl_k hS s' (by omega)) ?_
      refine Ex_iload_n dX8_turns_42 rfl ?_
      refine Ex_puti dX8_turns_43 fX8_89 rfl rfl rfl (hl_S hS s' (by omega)).1 ?_
      refine Ex_iload_n dX8_turns_46 rfl ?_
      refine Ex_iret dX8_turns_47 (by first | rfl | exact narrow_bI) ?_
      exact ⟨_, rfl, (by unfold r_turns; rw [if_pos ⟨h5, h14⟩, ec]; exact hsf.1 0 (by omega)), by rw [show g_turns g (nI s') (nI k') = upd g (8 + 17 * s') (nI k') by unfold g_turns; rw [if_pos ⟨h5, h14⟩, ec]]; exact hH.kind hs' hk', Fr.refl.si (PHs (s := s') (by omega) rfl), rfl⟩
    · refine Ex_ldc dX8_turns_17 kX8_71 ?_
      refine Ex_iret dX8_turns_19 (by first | rfl | exact narrow_bI) ?_
      exact ⟨_, rfl, (by unfold r_turns; rw [if_neg (fun q => h14 q.2)]), by rw [show g_turns g s v = g by unfold g_turns; rw [if_neg (fun q => h14 q.2)]]; exact hH, Fr.refl, rfl⟩
set_option maxRecDepth 100000 in
set_option maxHeartbeats 4000000 in
theorem C8_damp {T : TC} {I : MI} {G : MG} (d : Nat) {D N : Nat} {g : Nat → Int32} (hD : DS T G D N) (hH : Hl T I G (D + 2) (D + 1) N g) (s v : Int32)  : OkI T mX8_damp (d + 2) [.ref D, .int s, .int v] I G (fun r I' G' => r = r_damp g s v ∧ Hl T I' G (D + 2) (D + 1) N (g_damp g s v) ∧ Fr (PH (D + 2) N) I I' ∧ G' = G) := by
  refine Ok_of (own := RX8) (by decide) rfl (cat1 rfl) (Nat.le_of_ble_eq_true rfl) ?_
  show Ex T RX8 cX8_damp 4 (d + 2) _ 0 [some (.ref D), some (.int s), some (.int v), none] [] I G (0, 0)
  have hS := hH.1
  have hn8 := hH.n8
  refine Ex_aload_n dX8_damp_0 rfl ?_
  refine Ex_iload_n dX8_damp_1 rfl ?_
  refine Ex_V1p dX8_damp_2 sX8_81 (ds_o hD) (Nat.le_of_ble_eq_true rfl) (c8_isSurface (d) hD hH _) ?_
  refine Ex_if_eqB (tgt := 17) dX8_damp_5 (by decide) (fun h5 => ?_) (fun h5 => ?_)
  · refine Ex_ldc dX8_damp_17 kX8_71 ?_
    refine Ex_iret dX8_damp_19 (by first | rfl | exact narrow_bI) ?_
    exact ⟨_, rfl, (by unfold r_damp; rw [if_neg (fun q => h5 q.1)]), by rw [show g_damp g s v = g by unfold g_damp; rw [if_neg (fun q => h5 q.1)]]; exact hH, Fr.refl, rfl⟩
  · refine Ex_iload_n dX8_damp_8 rfl ?_
    refine Ex_bipush (v := nI 10) dX8_damp_9 (by rfl) ?_
    refine Ex_S2p dX8_damp_11 sX8_67  (Nat.le_of_ble_eq_true rfl) (c8_isBelow (d + 1) _ _) ?_
    refine Ex_if_neB (tgt := 20) dX8_damp_14 (by decide) (fun h14 => ?_) (fun h14 => ?_)
    · obtain ⟨s', hs', es⟩ := (rng_k (by omega)).mp h5
      subst es
      have ec : cl (nI s') = s' := cl_nI (by omega)
      have hl := hH.ly (s := s') (by omega)
      have hsf := hH.sf hs'
      obtain ⟨k', hk', ek⟩ := (rng_k (by omega)).mp h14
      subst ek
      refine Ex_aload_n dX8_damp_20 rfl ?_
      refine Ex_getr dX8_damp_21 fX8_16 (ds_o hD) (ds_h hD) ?_
      refine Ex_getr dX8_damp_24 fX8_85 (hl_o hS) (hl_s hS) ?_
      refine Ex_iload_n dX8_damp_27 rfl ?_
      refine Ex_aaldSu dX8_damp_28 (hl_sI hS) rfl (by rw [hl_sN hS]; omega) (by rw [hl_sN hS]; decide) (hl_k hS s' (by omega)) ?_
      refine Ex_geti dX8_damp_29 fX8_94 (hl_S hS s' (by omega)).1 ?_
      refine Ex_istore_n dX8_damp_32 (by decide) rfl ?_
      simp only [st_n0, st_n1, st_n2, st_n3, List.set_cons_zero, List.set_cons_succ]
      refine Ex_aload_n dX8_damp_33 rfl ?_
      refine Ex_getr dX8_damp_34 fX8_16 (ds_o hD) (ds_h hD) ?_
      refine Ex_getr dX8_damp_37 fX8_85 (hl_o hS) (hl_s hS) ?_
      refine Ex_iload_n dX8_damp_40 rfl ?_
      refine Ex_aaldSu dX8_damp_41 (hl_sI hS) rfl (by rw [hl_sN hS]; omega) (by rw [hl_sN hS]; decide) (hl_k hS s' (by omega)) ?_
      refine Ex_iload_n dX8_damp_42 rfl ?_
      refine Ex_puti dX8_damp_43 fX8_94 rfl rfl rfl (hl_S hS s' (by omega)).1 ?_
      refine Ex_iload_n dX8_damp_46 rfl ?_
      refine Ex_iret dX8_damp_47 (by first | rfl | exact narrow_bI) ?_
      exact ⟨_, rfl, (by unfold r_damp; rw [if_pos ⟨h5, h14⟩, ec]; exact hsf.1 1 (by omega)), by rw [show g_damp g (nI s') (nI k') = upd g (8 + 17 * s' + 1) (nI k') by unfold g_damp; rw [if_pos ⟨h5, h14⟩, ec]]; exact hH.damp hs', Fr.refl.si (PHs (s := s') (by omega) rfl), rfl⟩
    · refine Ex_ldc dX8_damp_17 kX8_71 ?_
      refine Ex_iret dX8_damp_19 (by first | rfl | exact narrow_bI) ?_
      exact ⟨_, rfl, (by unfold r_damp; rw [if_neg (fun q => h14 q.2)]), by rw [show g_damp g s v = g by unfold g_damp; rw [if_neg (fun q => h14 q.2)]]; exact hH, Fr.refl, rfl⟩
set_option maxRecDepth 100000 in
set_option maxHeartbeats 4000000 in
theorem C8_rule {T : TC} {I : MI} {G : MG} (d : Nat) {D N : Nat} {g : Nat → Int32} (hD : DS T G D N) (hH : Hl T I G (D + 2) (D + 1) N g) (w v : Int32)  : OkI T mX8_rule (d + 1) [.ref D, .int w, .int v] I G (fun r I' G' => r = r_rule g w v ∧ Hl T I' G (D + 2) (D + 1) N (g_rule g w v) ∧ Fr (PH (D + 2) N) I I' ∧ G' = G) := by
  refine Ok_of (own := RX8) (by decide) rfl (cat1 rfl) (Nat.le_of_ble_eq_true rfl) ?_
  show Ex T RX8 cX8_rule 4 (d + 1) _ 0 [some (.ref D), some (.int w), some (.int v), none] [] I G (0, 0)
  have hS := hH.1
  have hn8 := hH.n8
  refine Ex_iload_n dX8_rule_0 rfl ?_
  refine Ex_iconst (v := nI 2) dX8_rule_1 (by rfl) ?_
  refine Ex_S2p dX8_rule_2 sX8_67  (Nat.le_of_ble_eq_true rfl) (c8_isBelow (d) _ _) ?_
  refine Ex_if_eqB (tgt := 17) dX8_rule_5 (by decide) (fun h5 => ?_) (fun h5 => ?_)
  · refine Ex_ldc dX8_rule_17 kX8_71 ?_
    refine Ex_iret dX8_rule_19 (by first | rfl | exact narrow_bI) ?_
    exact ⟨_, rfl, (by unfold r_rule; rw [if_neg (fun q => h5 q.1)]), by rw [show g_rule g w v = g by unfold g_rule; rw [if_neg (fun q => h5 q.1)]]; exact hH, Fr.refl, rfl⟩
  · refine Ex_iload_n dX8_rule_8 rfl ?_
    refine Ex_bipush (v := nI 101) dX8_rule_9 (by rfl) ?_
    refine Ex_S2p dX8_rule_11 sX8_67  (Nat.le_of_ble_eq_true rfl) (c8_isBelow (d) _ _) ?_
    refine Ex_if_neB (tgt := 20) dX8_rule_14 (by decide) (fun h14 => ?_) (fun h14 => ?_)
    · refine Ex_iload_n dX8_rule_20 rfl ?_
      refine Ex_if_ne (tgt := 43) dX8_rule_21 (by decide) (fun h21 => ?_) (fun h21 => ?_)
      · refine Ex_aload_n dX8_rule_43 rfl ?_
        refine Ex_getr dX8_rule_44 fX8_16 (ds_o hD) (ds_h hD) ?_
        refine Ex_geti dX8_rule_47 fX8_127 (hl_o hS) ?_
        refine Ex_istore_n dX8_rule_50 (by decide) rfl ?_
        simp only [st_n0, st_n1, st_n2, st_n3, List.set_cons_zero, List.set_cons_succ]
        refine Ex_aload_n dX8_rule_51 rfl ?_
        refine Ex_getr dX8_rule_52 fX8_16 (ds_o hD) (ds_h hD) ?_
        refine Ex_iload_n dX8_rule_55 rfl ?_
        refine Ex_puti dX8_rule_56 fX8_127 rfl rfl rfl (hl_o hS) ?_
        refine Ex_iload_n dX8_rule_59 rfl ?_
        refine Ex_iret dX8_rule_60 (by first | rfl | exact narrow_bI) ?_
        have ew : w = nI 1 := by
          obtain ⟨k, hk, e⟩ := (rng_k (by omega)).mp h5
          have : k ≠ 0 := fun z => h21 (by rw [e, z]; rfl)
          rw [e, show k = 1 by omega]
        exact ⟨_, rfl, (by unfold r_rule; rw [if_pos ⟨h5, h14⟩, ew]; exact hH.fx (j := 3) (q := 4) (by decide)), by rw [show g_rule g w v = upd g 4 v by unfold g_rule; rw [if_pos ⟨h5, h14⟩, ew]; rfl]; exact hH.fld (by decide) (by decide) (by decide), Fr.refl.si (Or.inl ⟨by omega, by omega⟩), rfl⟩
      · refine Ex_aload_n dX8_rule_24 rfl ?_
        refine Ex_getr dX8_rule_25 fX8_16 (ds_o hD) (ds_h hD) ?_
        refine Ex_geti dX8_rule_28 fX8_124 (hl_o hS) ?_
        refine Ex_istore_n dX8_rule_31 (by decide) rfl ?_
        simp only [st_n0, st_n1, st_n2, st_n3, List.set_cons_zero, List.set_cons_succ]
        refine Ex_aload_n dX8_rule_32 rfl ?_
        refine Ex_getr dX8_rule_33 fX8_16 (ds_o hD) (ds_h hD) ?_
        refine Ex_iload_n dX8_rule_36 rfl ?_
        refine Ex_puti dX8_rule_37 fX8_124 rfl rfl rfl (hl_o hS) ?_
        refine Ex_goto (tgt := 59) dX8_rule_40 (by decide) ?_
        refine Ex_iload_n dX8_rule_59 rfl ?_
        refine Ex_iret dX8_rule_60 (by first | rfl | exact narrow_bI) ?_
        have ew : w = nI 0 := h21
        exact ⟨_, rfl, (by unfold r_rule; rw [if_pos ⟨h5, h14⟩, ew]; exact hH.fx (j := 2) (q := 3) (by decide)), by rw [show g_rule g w v = upd g 3 v by unfold g_rule; rw [if_pos ⟨h5, h14⟩, ew]; rfl]; exact hH.fld (by decide) (by decide) (by decide), Fr.refl.si (Or.inl ⟨by omega, by omega⟩), rfl⟩
    · refine Ex_ldc dX8_rule_17 kX8_71 ?_
      refine Ex_iret dX8_rule_19 (by first | rfl | exact narrow_bI) ?_
      exact ⟨_, rfl, (by unfold r_rule; rw [if_neg (fun q => h14 q.2)]), by rw [show g_rule g w v = g by unfold g_rule; rw [if_neg (fun q => h14 q.2)]]; exact hH, Fr.refl, rfl⟩
set_option maxRecDepth 100000 in
set_option maxHeartbeats 4000000 in
theorem C8_settles {T : TC} {I : MI} {G : MG} (d : Nat) {D N : Nat} {g : Nat → Int32} (hD : DS T G D N) (hH : Hl T I G (D + 2) (D + 1) N g) (s v : Int32)  : OkI T mX8_settles (d + 2) [.ref D, .int s, .int v] I G (fun r I' G' => r = r_settles g s v ∧ Hl T I' G (D + 2) (D + 1) N (g_settles g s v) ∧ Fr (PH (D + 2) N) I I' ∧ G' = G) := by
  refine Ok_of (own := RX8) (by decide) rfl (cat1 rfl) (Nat.le_of_ble_eq_true rfl) ?_
  show Ex T RX8 cX8_settles 3 (d + 2) _ 0 [some (.ref D), some (.int s), some (.int v)] [] I G (0, 0)
  have hS := hH.1
  have hn8 := hH.n8
  refine Ex_aload_n dX8_settles_0 rfl ?_
  refine Ex_iload_n dX8_settles_1 rfl ?_
  refine Ex_V1p dX8_settles_2 sX8_81 (ds_o hD) (Nat.le_of_ble_eq_true rfl) (c8_isSurface (d) hD hH _) ?_
  refine Ex_if_eqB (tgt := 17) dX8_settles_5 (by decide) (fun h5 => ?_) (fun h5 => ?_)
  · refine Ex_ldc dX8_settles_17 kX8_71 ?_
    refine Ex_iret dX8_settles_19 (by first | rfl | exact narrow_bI) ?_
    exact ⟨_, rfl, (by unfold r_settles; rw [if_neg (fun q => h5 q.1)]), by rw [show g_settles g s v = g by unfold g_settles; rw [if_neg (fun q => h5 q.1)]]; exact hH, Fr.refl, rfl⟩
  · refine Ex_iload_n dX8_settles_8 rfl ?_
    refine Ex_bipush (v := nI 10) dX8_settles_9 (by rfl) ?_
    refine Ex_S2p dX8_settles_11 sX8_67  (Nat.le_of_ble_eq_true rfl) (c8_isBelow (d + 1) _ _) ?_
    refine Ex_if_neB (tgt := 20) dX8_settles_14 (by decide) (fun h14 => ?_) (fun h14 => ?_)
    · obtain ⟨s', hs', es⟩ := (rng_k (by omega)).mp h5
      subst es
      have ec : cl (nI s') = s' := cl_nI (by omega)
      have hl := hH.ly (s := s') (by omega)
      have hsf := hH.sf hs'
      obtain ⟨k', hk', ek⟩ := (rng_k (by omega)).mp h14
      subst ek
      refine Ex_aload_n dX8_settles_20 rfl ?_
      refine Ex_getr dX8_settles_21 fX8_16 (ds_o hD) (ds_h hD) ?_
      refine Ex_getr dX8_settles_24 fX8_85 (hl_o hS) (hl_s hS) ?_
      refine Ex_iload_n dX8_settles_27 rfl ?_
      refine Ex_aaldSu dX8_settles_28 (hl_sI hS) rfl (by rw [hl_sN hS]; omega) (by rw [hl_sN hS]; decide) (hl_k hS s' (by omega)) ?_
      refine Ex_iload_n dX8_settles_29 rfl ?_
      refine Ex_V1v dX8_settles_30 sX8_130 (hl_S hS s' (by omega)).1 (Nat.le_of_ble_eq_true rfl) (c5_settle d (hl_S hS s' (by omega)) g s' (mN g s') (nI k') hsf hl.1 rfl hl.2.1) ?_
      rintro J2 _ ⟨hj, hf, rfl⟩
      refine Ex_aload_n dX8_settles_33 rfl ?_
      refine Ex_getr dX8_settles_34 fX8_16 (ds_o hD) (ds_h hD) ?_
      refine Ex_getr dX8_settles_37 fX8_85 (hl_o hS) (hl_s hS) ?_
      refine Ex_iload_n dX8_settles_40 rfl ?_
      refine Ex_aaldSu dX8_settles_41 (hl_sI hS) rfl (by rw [hl_sN hS]; omega) (by rw [hl_sN hS]; decide) (hl_k hS s' (by omega)) ?_
      refine Ex_geti dX8_settles_42 fX8_97 (hl_S hS s' (by omega)).1 ?_
      refine Ex_iret dX8_settles_45 (by first | rfl | exact narrow_bI) ?_
      exact ⟨_, rfl, (by unfold r_settles; rw [if_pos ⟨h5, h14⟩, ec]; exact hj.1 2 (by omega)), by rw [show g_settles g (nI s') (nI k') = settleG g s' (mN g s') (nI k') by unfold g_settles; rw [if_pos ⟨h5, h14⟩, ec]]; exact hH.surf (by omega) hj hf (fun j hj => settle_o hj hl.2.1) (Ly_settle hl hk'), hf.mono (fun x q => P2H (by omega) q), rfl⟩
    · refine Ex_ldc dX8_settles_17 kX8_71 ?_
      refine Ex_iret dX8_settles_19 (by first | rfl | exact narrow_bI) ?_
      exact ⟨_, rfl, (by unfold r_settles; rw [if_neg (fun q => h14 q.2)]), by rw [show g_settles g s v = g by unfold g_settles; rw [if_neg (fun q => h14 q.2)]]; exact hH, Fr.refl, rfl⟩
set_option maxRecDepth 100000 in
set_option maxHeartbeats 4000000 in
theorem C8_sweeps {T : TC} {I : MI} {G : MG} (d : Nat) {D N : Nat} {g : Nat → Int32} (hD : DS T G D N) (hH : Hl T I G (D + 2) (D + 1) N g) (s : Int32)  : OkI T mX8_sweeps (d + 4) [.ref D, .int s] I G (fun r I' G' => r = r_sweeps g s ∧ Hl T I' G (D + 2) (D + 1) N (g_sweeps g s) ∧ Fr (PH (D + 2) N) I I' ∧ G' = G) := by
  refine Ok_of (own := RX8) (by decide) rfl (cat1 rfl) (Nat.le_of_ble_eq_true rfl) ?_
  show Ex T RX8 cX8_sweeps 2 (d + 4) _ 0 [some (.ref D), some (.int s)] [] I G (0, 0)
  have hS := hH.1
  have hn8 := hH.n8
  refine Ex_aload_n dX8_sweeps_0 rfl ?_
  refine Ex_iload_n dX8_sweeps_1 rfl ?_
  refine Ex_V1p dX8_sweeps_2 sX8_81 (ds_o hD) (Nat.le_of_ble_eq_true rfl) (c8_isSurface (d + 2) hD hH _) ?_
  refine Ex_if_eqB (tgt := 27) dX8_sweeps_5 (by decide) (fun h5 => ?_) (fun h5 => ?_)
  · refine Ex_ldc dX8_sweeps_27 kX8_71 ?_
    refine Ex_iret dX8_sweeps_29 (by first | rfl | exact narrow_bI) ?_
    exact ⟨_, rfl, (by unfold r_sweeps; rw [if_neg h5]), by rw [show g_sweeps g s = g by unfold g_sweeps; rw [if_neg h5]]; exact hH, Fr.refl, rfl⟩
  · obtain ⟨s', hs', es⟩ := (rng_k (by omega)).mp h5
    subst es
    have ec : cl (nI s') = s' := cl_nI (by omega)
    have hl := hH.ly (s := s') (by omega)
    have hsf := hH.sf hs'
    refine Ex_aload_n dX8_sweeps_8 rfl ?_
    refine Ex_getr dX8_sweeps_9 fX8_16 (ds_o hD) (ds_h hD) ?_
    refine Ex_aload_n dX8_sweeps_12 rfl ?_
    refine Ex_getr dX8_sweeps_13 fX8_16 (ds_o hD) (ds_h hD) ?_
    refine Ex_getr dX8_sweeps_16 fX8_85 (hl_o hS) (hl_s hS) ?_
    refine Ex_iload_n dX8_sweeps_19 rfl ?_
    refine Ex_aaldSu dX8_sweeps_20 (hl_sI hS) rfl (by rw [hl_sN hS]; omega) (by rw [hl_sN hS]; decide) (hl_k hS s' (by omega)) ?_
    refine Ex_V1i dX8_sweeps_21 sX8_134 (hl_o hS) (Nat.le_of_ble_eq_true rfl) (c1_sweep d hH s' hs') ?_
    rintro r J2 _ ⟨rfl, hj, hf, rfl⟩
    refine Ex_goto (tgt := 29) dX8_sweeps_24 (by decide) ?_
    refine Ex_iret dX8_sweeps_29 (by first | rfl | exact narrow_bI) ?_
    exact ⟨_, rfl, (by unfold r_sweeps; rw [if_pos h5, ec]), by rw [show g_sweeps g (nI s') = sweepG g s' by unfold g_sweeps; rw [if_pos h5, ec]]; exact hj, hf, rfl⟩
set_option maxRecDepth 100000 in
set_option maxHeartbeats 4000000 in
theorem C8_lifts {T : TC} {I : MI} {G : MG} (d : Nat) {D N : Nat} {g : Nat → Int32} (hD : DS T G D N) (hH : Hl T I G (D + 2) (D + 1) N g) (s k : Int32)  : OkI T mX8_lifts (d + 2) [.ref D, .int s, .int k] I G (fun r I' G' => r = r_lifts g s k ∧ Hl T I' G (D + 2) (D + 1) N (g_lifts g s k) ∧ Fr (PH (D + 2) N) I I' ∧ G' = G) := by
  refine Ok_of (own := RX8) (by decide) rfl (cat1 rfl) (Nat.le_of_ble_eq_true rfl) ?_
  show Ex T RX8 cX8_lifts 3 (d + 2) _ 0 [some (.ref D), some (.int s), some (.int k)] [] I G (0, 0)
  have hS := hH.1
  have hn8 := hH.n8
  refine Ex_aload_n dX8_lifts_0 rfl ?_
  refine Ex_iload_n dX8_lifts_1 rfl ?_
  refine Ex_V1p dX8_lifts_2 sX8_81 (ds_o hD) (Nat.le_of_ble_eq_true rfl) (c8_isSurface (d) hD hH _) ?_
  refine Ex_if_eqB (tgt := 17) dX8_lifts_5 (by decide) (fun h5 => ?_) (fun h5 => ?_)
  · refine Ex_ldc dX8_lifts_17 kX8_71 ?_
    refine Ex_iret dX8_lifts_19 (by first | rfl | exact narrow_bI) ?_
    exact ⟨_, rfl, (by unfold r_lifts; rw [if_neg (fun q => h5 q.1)]), by rw [show g_lifts g s k = g by unfold g_lifts; rw [if_neg (fun q => h5 q.1)]]; exact hH, Fr.refl, rfl⟩
  · refine Ex_iload_n dX8_lifts_8 rfl ?_
    refine Ex_bipush (v := nI 12) dX8_lifts_9 (by rfl) ?_
    refine Ex_S2p dX8_lifts_11 sX8_67  (Nat.le_of_ble_eq_true rfl) (c8_isBelow (d + 1) _ _) ?_
    refine Ex_if_neB (tgt := 20) dX8_lifts_14 (by decide) (fun h14 => ?_) (fun h14 => ?_)
    · obtain ⟨s', hs', es⟩ := (rng_k (by omega)).mp h5
      subst es
      have ec : cl (nI s') = s' := cl_nI (by omega)
      have hl := hH.ly (s := s') (by omega)
      have hsf := hH.sf hs'
      obtain ⟨k', hk', ek⟩ := (rng_k (by omega)).mp h14
      subst ek
      have eck : cl (nI k') = k' := cl_nI (by omega)
      refine Ex_aload_n dX8_lifts_20 rfl ?_
      refine Ex_getr dX8_lifts_21 fX8_16 (ds_o hD) (ds_h hD) ?_
      refine Ex_getr dX8_lifts_24 fX8_85 (hl_o hS) (hl_s hS) ?_
      refine Ex_iload_n dX8_lifts_27 rfl ?_
      refine Ex_aaldSu dX8_lifts_28 (hl_sI hS) rfl (by rw [hl_sN hS]; omega) (by rw [hl_sN hS]; decide) (hl_k hS s' (by omega)) ?_
      refine Ex_iload_n dX8_lifts_29 rfl ?_
      refine Ex_V1i dX8_lifts_30 sX8_137 (hl_S hS s' (by omega)).1 (Nat.le_of_ble_eq_true rfl) (c5_liftOut d (hl_S hS s' (by omega)) g s' (mN g s') k' hsf hl.1 rfl hl.2.1 (by omega)) ?_
      rintro r J2 _ ⟨⟨rfl, hj⟩, hf, rfl⟩
      refine Ex_iret dX8_lifts_33 (by first | rfl | exact narrow_bI) ?_
      refine ⟨_, rfl, (by have e : r_lifts g (nI s') (nI k') = _ := if_pos ⟨h5, h14⟩; rw [e, ec, eck]), ?_, hf.mono (fun x q => P2H (by omega) q), rfl⟩
      have eg : g_lifts g (nI s') (nI k') = if k' < mN g s' then takeG g s' (mN g s') k' else g := by unfold g_lifts; rw [if_pos ⟨h5, h14⟩, ec, eck]
      rw [eg]
      refine hH.surf (by omega) hj hf (fun j hj => ?_) ?_
      · split
        · exact take_o hj (by have := hl.2.1; omega)
        · rfl
      · split
        · rename_i hk9; exact Ly_take hl hk9
        · exact hl
    · refine Ex_ldc dX8_lifts_17 kX8_71 ?_
      refine Ex_iret dX8_lifts_19 (by first | rfl | exact narrow_bI) ?_
      exact ⟨_, rfl, (by unfold r_lifts; rw [if_neg (fun q => h14 q.2)]), by rw [show g_lifts g s k = g by unfold g_lifts; rw [if_neg (fun q => h14 q.2)]]; exact hH, Fr.refl, rfl⟩
set_option maxRecDepth 100000 in
set_option maxHeartbeats 4000000 in
theorem C8_seed {T : TC} {I : MI} {G : MG} (d : Nat) {D N : Nat} {g : Nat → Int32} (hD : DS T G D N) (hH : Hl T I G (D + 2) (D + 1) N g) (v : Int32)  : OkI T mX8_seed (d) [.ref D, .int v] I G (fun r I' G' => r = g 0 ∧ Hl T I' G (D + 2) (D + 1) N (upd g 0 v) ∧ Fr (PH (D + 2) N) I I' ∧ G' = G) := by
  refine Ok_of (own := RX8) (by decide) rfl (cat1 rfl) (Nat.le_of_ble_eq_true rfl) ?_
  show Ex T RX8 cX8_seed 3 (d) _ 0 [some (.ref D), some (.int v), none] [] I G (0, 0)
  have hS := hH.1
  have hn8 := hH.n8
  refine Ex_aload_n dX8_seed_0 rfl ?_
  refine Ex_getr dX8_seed_1 fX8_16 (ds_o hD) (ds_h hD) ?_
  refine Ex_geti dX8_seed_4 fX8_148 (hl_o hS) ?_
  refine Ex_istore_n dX8_seed_7 (by decide) rfl ?_
  simp only [st_n0, st_n1, st_n2, st_n3, List.set_cons_zero, List.set_cons_succ]
  refine Ex_aload_n dX8_seed_8 rfl ?_
  refine Ex_getr dX8_seed_9 fX8_16 (ds_o hD) (ds_h hD) ?_
  refine Ex_iload_n dX8_seed_12 rfl ?_
  refine Ex_puti dX8_seed_13 fX8_148 rfl rfl rfl (hl_o hS) ?_
  refine Ex_iload_n dX8_seed_16 rfl ?_
  refine Ex_iret dX8_seed_17 (by first | rfl | exact narrow_bI) ?_
  exact ⟨_, rfl, hH.fx (j := 7) (q := 0) (by decide), hH.fld (by decide) (by decide) (by decide), Fr.refl.si (Or.inl ⟨by omega, by omega⟩), rfl⟩
set_option maxRecDepth 100000 in
set_option maxHeartbeats 4000000 in
theorem l8_deal {T : TC} {I : MI} {G : MG} {F : FinT} {bb : Nat × Nat} (d : Nat) {D N : Nat} {g : Nat → Int32} (hD : DS T G D N) (x1 : Int32) (c : Nat) (hW : WfG g) (hc : nS g + c ≤ 8) (kx : ∀ J, Hl T J G (D + 2) (D + 1) N (dealG g c) → Fr (PH (D + 2) N) I J → Ex T RX8 cX8_deal 6 (d + 2) F 31 [some (.ref D), some (.int x1), some (.int (nI c)), some (.int (nI c)), none, none] [] J G bb) : ∀ i k J, k + i = c → Hl T J G (D + 2) (D + 1) N (dealG g k) → Fr (PH (D + 2) N) I J → Ex T RX8 cX8_deal 6 (d + 2) F 31 [some (.ref D), some (.int x1), some (.int (nI c)), some (.int (nI k)), none, none] [] J G bb := by
  intro i
  induction i with
  | zero => intro k J h0 h1 h2; have e0 : k = c := by omega
            subst e0; exact kx J h1 h2
  | succ i ih =>
    intro k J h0 h1 h2
    have hS := h1.1
    have hn : nS (dealG g k) = nS g + k := nS_of (deal_1 hW.1 hW.2.1 k (by omega)) (by omega)
    have n2 : nS (drawG (drawG (dealG g k))) = nS g + k := by rw [← hn]; unfold nS; rw [drawG_n (by omega), drawG_n (by omega)]
    have es : dealG g (k + 1) = comesG (drawG (drawG (dealG g k))) (nS g + k) (nI (dw (dealG g k 0) % 6)) (nI (dw (drawG (dealG g k) 0) % 10)) := by
      show dealS (dealG g k) = _
      unfold dealS
      rw [hn]
    refine Ex_iload_n dX8_deal_31 rfl ?_
    refine Ex_iload_n dX8_deal_32 rfl ?_
    refine Ex_icmp_geN (by omega) (by omega) (tgt := 78) dX8_deal_33 (by decide) (fun h33 => ?_) (fun h33 => ?_)
    · omega
    · refine Ex_aload_n dX8_deal_36 rfl ?_
      refine Ex_getr dX8_deal_37 fX8_16 (ds_o hD) (ds_h hD) ?_
      refine Ex_V0i dX8_deal_40 sX8_145 (hl_o hS) (Nat.le_of_ble_eq_true rfl) (c1_draw (d + 1) h1) ?_
      rintro r J1 _ ⟨rfl, hH1, hF1, rfl⟩
      refine Ex_bipush (v := nI 6) dX8_deal_43 (by rfl) ?_
      refine Ex_iremN (dw_lt _) (by omega) (by omega) dX8_deal_45 ?_
      refine Ex_istore dX8_deal_46 (by decide) rfl ?_
      simp only [List.set_cons_zero, List.set_cons_succ]
      refine Ex_aload_n dX8_deal_48 rfl ?_
      refine Ex_getr dX8_deal_49 fX8_16 (ds_o hD) (ds_h hD) ?_
      refine Ex_V0i dX8_deal_52 sX8_145 (hl_o hS) (Nat.le_of_ble_eq_true rfl) (c1_draw (d + 1) hH1) ?_
      rintro r J2 _ ⟨rfl, hH2, hF2, rfl⟩
      refine Ex_bipush (v := nI 10) dX8_deal_55 (by rfl) ?_
      refine Ex_iremN (dw_lt _) (by omega) (by omega) dX8_deal_57 ?_
      refine Ex_istore dX8_deal_58 (by decide) rfl ?_
      simp only [List.set_cons_zero, List.set_cons_succ]
      refine Ex_aload_n dX8_deal_60 rfl ?_
      refine Ex_getr dX8_deal_61 fX8_16 (ds_o hD) (ds_h hD) ?_
      refine Ex_iload dX8_deal_64 rfl ?_
      refine Ex_iload dX8_deal_66 rfl ?_
      refine Ex_V2i dX8_deal_68 sX8_77 (hl_o hS) (Nat.le_of_ble_eq_true rfl) (c1_addSurface d hH2 (nS g + k) (dw (dealG g k 0) % 6) _ n2 (by omega) (Nat.mod_lt _ (by omega))) ?_
      rintro r J3 _ ⟨rfl, hj, hf, rfl⟩
      refine Ex_pop dX8_deal_71 rfl ?_
      first | refine Ex_iincN (m := 1) dX8_deal_72 rfl rfl (by decide) rfl ?_ | refine Ex_iinc dX8_deal_72 rfl rfl (by decide) rfl ?_
      simp only [List.set_cons_zero, List.set_cons_succ]
      refine Ex_goto (tgt := 31) dX8_deal_75 (by decide) ?_
      refine Ex_drop 4 ?_
      refine Ex_drop 5 ?_
      simp only [List.set_cons_zero, List.set_cons_succ]
      exact ih (k + 1) J3 (by omega) (by rw [es]; exact hj) (((h2.trans hF1).trans hF2).trans hf)
set_option maxRecDepth 100000 in
set_option maxHeartbeats 4000000 in
theorem C8_deal {T : TC} {I : MI} {G : MG} (d : Nat) {D N : Nat} {g : Nat → Int32} (hD : DS T G D N) (hH : Hl T I G (D + 2) (D + 1) N g) (n : Int32)  : OkI T mX8_deal (d + 2) [.ref D, .int n] I G (fun r I' G' => r = r_deal g n ∧ Hl T I' G (D + 2) (D + 1) N (g_deal g n) ∧ Fr (PH (D + 2) N) I I' ∧ G' = G) := by
  refine Ok_of (own := RX8) (by decide) rfl (cat1 rfl) (Nat.le_of_ble_eq_true rfl) ?_
  show Ex T RX8 cX8_deal 6 (d + 2) _ 0 [some (.ref D), some (.int n), none, none, none, none] [] I G (0, 0)
  have hS := hH.1
  have hn8 := hH.n8
  refine Ex_iload_n dX8_deal_0 rfl ?_
  refine Ex_iconst (v := nI 1) dX8_deal_1 (by rfl) ?_
  refine Ex_icmp_lt (tgt := 11) dX8_deal_2 (by decide) (fun h2 => ?_) (fun h2 => ?_)
  · refine Ex_ldc dX8_deal_11 kX8_71 ?_
    refine Ex_iret dX8_deal_13 (by first | rfl | exact narrow_bI) ?_
    exact ⟨_, rfl, (by unfold r_deal; rw [if_neg (fun q => absurd q.1 (Int32.not_le.mpr h2))]), by rw [show g_deal g n = g by unfold g_deal; rw [if_neg (fun q => absurd q.1 (Int32.not_le.mpr h2))]]; exact hH, Fr.refl, rfl⟩
  · refine Ex_iload_n dX8_deal_5 rfl ?_
    refine Ex_bipush (v := nI 8) dX8_deal_6 (by rfl) ?_
    refine Ex_icmp_le (tgt := 14) dX8_deal_8 (by decide) (fun h8 => ?_) (fun h8 => ?_)
    · have hin : in1 n 8 := ⟨Int32.not_lt.mp h2, h8⟩
      obtain ⟨n', hn1, hn2, en⟩ := (in1_k (by omega)).mp hin
      subst en
      have ecn : cl (nI n') = n' := cl_nI (by omega)
      refine Ex_iload_n dX8_deal_14 rfl ?_
      refine Ex_bipush (v := nI 8) dX8_deal_15 (by rfl) ?_
      refine Ex_aload_n dX8_deal_17 rfl ?_
      refine Ex_getr dX8_deal_18 fX8_16 (ds_o hD) (ds_h hD) ?_
      refine Ex_geti dX8_deal_21 fX8_72 (hl_o hS) ?_
      refine Ex_top hH.n ?_
      refine Ex_isubN (by omega) dX8_deal_24 ?_
      refine Ex_min dX8_deal_25 sX8_140 (Nat.le_of_ble_eq_true rfl) ?_
      refine Ex_top (mnN (by omega) (by omega)) ?_
      have ed : Nat.min n' (8 - nS g) = dealN g n' := nmin _ _
      rw [ed]
      have hd9 : dealN g n' ≤ 8 - nS g := by unfold dealN; split <;> omega
      refine Ex_istore_n dX8_deal_28 (by decide) rfl ?_
      simp only [st_n0, st_n1, st_n2, st_n3, List.set_cons_zero, List.set_cons_succ]
      refine Ex_iconst (v := nI 0) dX8_deal_29 (by rfl) ?_
      refine Ex_istore_n dX8_deal_30 (by decide) rfl ?_
      simp only [st_n0, st_n1, st_n2, st_n3, List.set_cons_zero, List.set_cons_succ]
      refine l8_deal d hD _ (dealN g n') hH.w (by omega) ?_ (dealN g n') 0 I (by omega) hH Fr.refl
      intro J j1 j2
      have hS := j1.1
      refine Ex_iload_n dX8_deal_31 rfl ?_
      refine Ex_iload_n dX8_deal_32 rfl ?_
      refine Ex_icmp_geN (by omega) (by omega) (tgt := 78) dX8_deal_33 (by decide) (fun h33 => ?_) (fun h33 => ?_)
      · refine Ex_iload_n dX8_deal_78 rfl ?_
        refine Ex_iret dX8_deal_79 (by first | rfl | exact narrow_bI) ?_
        exact ⟨_, rfl, (by unfold r_deal; rw [if_pos hin, ecn]), by rw [show g_deal g (nI n') = dealG g (dealN g n') by unfold g_deal; rw [if_pos hin, ecn]]; exact j1, j2, rfl⟩
      · omega
    · refine Ex_ldc dX8_deal_11 kX8_71 ?_
      refine Ex_iret dX8_deal_13 (by first | rfl | exact narrow_bI) ?_
      have h8' := Int32.not_le.mp h8
      exact ⟨_, rfl, (by unfold r_deal; rw [if_neg (fun q => absurd q.2 (Int32.not_le.mpr h8'))]), by rw [show g_deal g n = g by unfold g_deal; rw [if_neg (fun q => absurd q.2 (Int32.not_le.mpr h8'))]]; exact hH, Fr.refl, rfl⟩
set_option maxRecDepth 100000 in
set_option maxHeartbeats 4000000 in
theorem C8_days {T : TC} {I : MI} {G : MG} (d : Nat) {D N : Nat} {g : Nat → Int32} (hD : DS T G D N) (hH : Hl T I G (D + 2) (D + 1) N g) (hY : DyOk g) (n : Int32)  : OkI T mX8_days (d + 6) [.ref D, .int n] I G (fun r I' G' => r = r_days g n ∧ Hl T I' G (D + 2) (D + 1) N (g_days g n) ∧ Fr (PH (D + 2) N) I I' ∧ G' = G) := by
  refine Ok_of (own := RX8) (by decide) rfl (cat1 rfl) (Nat.le_of_ble_eq_true rfl) ?_
  show Ex T RX8 cX8_days 3 (d + 6) _ 0 [some (.ref D), some (.int n), none] [] I G (0, 0)
  have hS := hH.1
  have hn8 := hH.n8
  refine Ex_iload_n dX8_days_0 rfl ?_
  refine Ex_iconst (v := nI 1) dX8_days_1 (by rfl) ?_
  refine Ex_icmp_lt (tgt := 11) dX8_days_2 (by decide) (fun h2 => ?_) (fun h2 => ?_)
  · refine Ex_ldc dX8_days_11 kX8_71 ?_
    refine Ex_iret dX8_days_13 (by first | rfl | exact narrow_bI) ?_
    exact ⟨_, rfl, (by unfold r_days; rw [if_neg (fun q => absurd q.1 (Int32.not_le.mpr h2))]), by rw [show g_days g n = g by unfold g_days; rw [if_neg (fun q => absurd q.1 (Int32.not_le.mpr h2))]]; exact hH, Fr.refl, rfl⟩
  · refine Ex_iload_n dX8_days_5 rfl ?_
    refine Ex_bipush (v := nI 100) dX8_days_6 (by rfl) ?_
    refine Ex_icmp_le (tgt := 14) dX8_days_8 (by decide) (fun h8 => ?_) (fun h8 => ?_)
    · have hin : in1 n 100 := ⟨Int32.not_lt.mp h2, h8⟩
      obtain ⟨n', hn1, hn2, en⟩ := (in1_k (by omega)).mp hin
      subst en
      have ecn : cl (nI n') = n' := cl_nI (by omega)
      have hy2 := hY.2
      refine Ex_aload_n dX8_days_14 rfl ?_
      refine Ex_getr dX8_days_15 fX8_16 (ds_o hD) (ds_h hD) ?_
      refine Ex_geti dX8_days_18 fX8_151 (hl_o hS) ?_
      refine Ex_top (hH.fx (j := 4) (q := 5) (by decide)) ?_
      refine Ex_istore_n dX8_days_21 (by decide) rfl ?_
      simp only [st_n0, st_n1, st_n2, st_n3, List.set_cons_zero, List.set_cons_succ]
      refine Ex_aload_n dX8_days_22 rfl ?_
      refine Ex_getr dX8_days_23 fX8_16 (ds_o hD) (ds_h hD) ?_
      refine Ex_iload_n dX8_days_26 rfl ?_
      refine Ex_sipush (v := nI 9999) dX8_days_27 (by rfl) ?_
      refine Ex_aload_n dX8_days_30 rfl ?_
      refine Ex_getr dX8_days_31 fX8_16 (ds_o hD) (ds_h hD) ?_
      refine Ex_geti dX8_days_34 fX8_101 (hl_o hS) ?_
      refine Ex_top ((hH.fx (j := 6) (q := 2) (by decide)).trans hY.1) ?_
      refine Ex_isubN (by omega) dX8_days_37 ?_
      refine Ex_min dX8_days_38 sX8_140 (Nat.le_of_ble_eq_true rfl) ?_
      refine Ex_top (mnN (by omega) (by omega)) ?_
      have ed : Nat.min n' (9999 - cl (g 2)) = daysN g n' := nmin _ _
      rw [ed]
      have hd9 : daysN g n' ≤ 9999 := by unfold daysN; split <;> omega
      refine Ex_V1v dX8_days_41 sX8_154 (hl_o hS) (Nat.le_of_ble_eq_true rfl) (c1_passDays d hH (daysN g n') (by omega)) ?_
      rintro J2 _ ⟨hj, hf, rfl⟩
      refine Ex_aload_n dX8_days_44 rfl ?_
      refine Ex_getr dX8_days_45 fX8_16 (ds_o hD) (ds_h hD) ?_
      refine Ex_geti dX8_days_48 fX8_151 (hl_o hS) ?_
      refine Ex_top (hj.fx (j := 4) (q := 5) (by decide)) ?_
      refine Ex_iload_n dX8_days_51 rfl ?_
      refine Ex_isub dX8_days_52 ?_
      refine Ex_iret dX8_days_53 (by first | rfl | exact narrow_bI) ?_
      exact ⟨_, rfl, (by unfold r_days; rw [if_pos hin, ecn]), by rw [show g_days g (nI n') = daysG g (daysN g n') by unfold g_days; rw [if_pos hin, ecn]]; exact hj, hf, rfl⟩
    · refine Ex_ldc dX8_days_11 kX8_71 ?_
      refine Ex_iret dX8_days_13 (by first | rfl | exact narrow_bI) ?_
      have h8' := Int32.not_le.mp h8
      exact ⟨_, rfl, (by unfold r_days; rw [if_neg (fun q => absurd q.2 (Int32.not_le.mpr h8'))]), by rw [show g_days g n = g by unfold g_days; rw [if_neg (fun q => absurd q.2 (Int32.not_le.mpr h8'))]]; exact hH, Fr.refl, rfl⟩
set_option maxRecDepth 100000 in
set_option maxHeartbeats 4000000 in
theorem C8_hall {T : TC} {I : MI} {G : MG} (d : Nat) {D N : Nat} {g : Nat → Int32} (hD : DS T G D N) (hH : Hl T I G (D + 2) (D + 1) N g) (w : Int32)  : OkP T mX8_hall (d + 1) [.ref D, .int w] I G (r_hall g w) := by
  refine Ok_of (own := RX8) (by decide) rfl (cat1 rfl) (Nat.le_of_ble_eq_true rfl) ?_
  show Ex T RX8 cX8_hall 2 (d + 1) _ 0 [some (.ref D), some (.int w)] [] I G (0, 0)
  have hS := hH.1
  have hn8 := hH.n8
  refine Ex_iload_n dX8_hall_0 rfl ?_
  rcases sw_cases (w) (0) (4) (by decide) (by decide) with ⟨k1, hk1, hl1, hx1⟩ | hx1
  · rcases (show k1 = 0 ∨ k1 = 1 ∨ k1 = 2 ∨ k1 = 3 ∨ k1 = 4 by omega) with rfl | rfl | rfl | rfl | rfl
    · have hx1 : w = nI 0 := hx1
      refine Ex_tabIn (tgt := 36) dX8_hall_1 (by rw [hx1]; decide) (by rw [hx1]; decide) (off := 35) (by rw [hx1]; rfl) (by decide) ?_
      refine Ex_aload_n dX8_hall_36 rfl ?_
      refine Ex_getr dX8_hall_37 fX8_16 (ds_o hD) (ds_h hD) ?_
      refine Ex_geti dX8_hall_40 fX8_151 (hl_o hS) ?_
      refine Ex_iret dX8_hall_43 (by first | rfl | exact narrow_bI) ?_
      exact ⟨_, rfl, (by unfold r_hall; rw [if_pos hx1]; exact hH.fx (j := 4) (q := 5) (by decide)), rfl, rfl⟩
    · have hx1 : w = nI 1 := hx1
      refine Ex_tabIn (tgt := 44) dX8_hall_1 (by rw [hx1]; decide) (by rw [hx1]; decide) (off := 43) (by rw [hx1]; rfl) (by decide) ?_
      refine Ex_aload_n dX8_hall_44 rfl ?_
      refine Ex_getr dX8_hall_45 fX8_16 (ds_o hD) (ds_h hD) ?_
      refine Ex_geti dX8_hall_48 fX8_157 (hl_o hS) ?_
      refine Ex_iret dX8_hall_51 (by first | rfl | exact narrow_bI) ?_
      exact ⟨_, rfl, (by unfold r_hall; rw [if_neg (by rw [hx1]; decide), if_pos hx1]; exact hH.fx (j := 5) (q := 6) (by decide)), rfl, rfl⟩
    · have hx1 : w = nI 2 := hx1
      refine Ex_tabIn (tgt := 52) dX8_hall_1 (by rw [hx1]; decide) (by rw [hx1]; decide) (off := 51) (by rw [hx1]; rfl) (by decide) ?_
      refine Ex_aload_n dX8_hall_52 rfl ?_
      refine Ex_getr dX8_hall_53 fX8_16 (ds_o hD) (ds_h hD) ?_
      refine Ex_V0p dX8_hall_56 sX8_160 (hl_o hS) (Nat.le_of_ble_eq_true rfl) (c1_allPressed d hH) ?_
      refine Ex_iret dX8_hall_59 (by first | rfl | exact narrow_bI) ?_
      exact ⟨_, rfl, (by unfold r_hall; rw [if_neg (by rw [hx1]; decide), if_neg (by rw [hx1]; decide), if_pos hx1]), rfl, rfl⟩
    · have hx1 : w = nI 3 := hx1
      refine Ex_tabIn (tgt := 60) dX8_hall_1 (by rw [hx1]; decide) (by rw [hx1]; decide) (off := 59) (by rw [hx1]; rfl) (by decide) ?_
      refine Ex_aload_n dX8_hall_60 rfl ?_
      refine Ex_getr dX8_hall_61 fX8_16 (ds_o hD) (ds_h hD) ?_
      refine Ex_V0p dX8_hall_64 sX8_163 (hl_o hS) (Nat.le_of_ble_eq_true rfl) (c1_allLayers d hH) ?_
      refine Ex_iret dX8_hall_67 (by first | rfl | exact narrow_bI) ?_
      exact ⟨_, rfl, (by unfold r_hall; rw [if_neg (by rw [hx1]; decide), if_neg (by rw [hx1]; decide), if_neg (by rw [hx1]; decide), if_pos hx1]), rfl, rfl⟩
    · have hx1 : w = nI 4 := hx1
      refine Ex_tabIn (tgt := 68) dX8_hall_1 (by rw [hx1]; decide) (by rw [hx1]; decide) (off := 67) (by rw [hx1]; rfl) (by decide) ?_
      refine Ex_aload_n dX8_hall_68 rfl ?_
      refine Ex_getr dX8_hall_69 fX8_16 (ds_o hD) (ds_h hD) ?_
      refine Ex_V0p dX8_hall_72 sX8_166 (hl_o hS) (Nat.le_of_ble_eq_true rfl) (c1_bareSet d hH) ?_
      refine Ex_iret dX8_hall_75 (by first | rfl | exact narrow_bI) ?_
      exact ⟨_, rfl, (by unfold r_hall; rw [if_neg (by rw [hx1]; decide), if_neg (by rw [hx1]; decide), if_neg (by rw [hx1]; decide), if_neg (by rw [hx1]; decide), if_pos hx1]), rfl, rfl⟩
  · refine Ex_tabOut (tgt := 76) dX8_hall_1 hx1 (by decide) ?_
    refine Ex_ldc dX8_hall_76 kX8_71 ?_
    refine Ex_iret dX8_hall_78 (by first | rfl | exact narrow_bI) ?_
    exact ⟨_, rfl, (by unfold r_hall; rw [if_neg (fun q => swo hx1 (k := 0) (by decide) (by decide) q), if_neg (fun q => swo hx1 (k := 1) (by decide) (by decide) q), if_neg (fun q => swo hx1 (k := 2) (by decide) (by decide) q), if_neg (fun q => swo hx1 (k := 3) (by decide) (by decide) q), if_neg (fun q => swo hx1 (k := 4) (by decide) (by decide) q)]), rfl, rfl⟩
set_option maxRecDepth 100000 in
set_option maxHeartbeats 4000000 in
theorem C8_count {T : TC} {I : MI} {G : MG} (d : Nat) {D N : Nat} {g : Nat → Int32} (hD : DS T G D N) (hH : Hl T I G (D + 2) (D + 1) N g) (w : Int32)  : OkP T mX8_count (d) [.ref D, .int w] I G (r_count g (I D 10) (I (D + 59) 1) w) := by
  refine Ok_of (own := RX8) (by decide) rfl (cat1 rfl) (Nat.le_of_ble_eq_true rfl) ?_
  show Ex T RX8 cX8_count 2 (d) _ 0 [some (.ref D), some (.int w)] [] I G (0, 0)
  have hS := hH.1
  have hn8 := hH.n8
  refine Ex_iload_n dX8_count_0 rfl ?_
  rcases sw_cases (w) (0) (7) (by decide) (by decide) with ⟨k1, hk1, hl1, hx1⟩ | hx1
  · rcases (show k1 = 0 ∨ k1 = 1 ∨ k1 = 2 ∨ k1 = 3 ∨ k1 = 4 ∨ k1 = 5 ∨ k1 = 6 ∨ k1 = 7 by omega) with rfl | rfl | rfl | rfl | rfl | rfl | rfl | rfl
    · have hx1 : w = nI 0 := hx1
      refine Ex_tabIn (tgt := 48) dX8_count_1 (by rw [hx1]; decide) (by rw [hx1]; decide) (off := 47) (by rw [hx1]; rfl) (by decide) ?_
      refine Ex_aload_n dX8_count_48 rfl ?_
      refine Ex_getr dX8_count_49 fX8_16 (ds_o hD) (ds_h hD) ?_
      refine Ex_geti dX8_count_52 fX8_72 (hl_o hS) ?_
      refine Ex_iret dX8_count_55 (by first | rfl | exact narrow_bI) ?_
      exact ⟨_, rfl, (by unfold r_count; rw [if_pos hx1]; exact hH.fx (j := 1) (q := 1) (by decide)), rfl, rfl⟩
    · have hx1 : w = nI 1 := hx1
      refine Ex_tabIn (tgt := 56) dX8_count_1 (by rw [hx1]; decide) (by rw [hx1]; decide) (off := 55) (by rw [hx1]; rfl) (by decide) ?_
      refine Ex_aload_n dX8_count_56 rfl ?_
      refine Ex_getr dX8_count_57 fX8_16 (ds_o hD) (ds_h hD) ?_
      refine Ex_geti dX8_count_60 fX8_101 (hl_o hS) ?_
      refine Ex_iret dX8_count_63 (by first | rfl | exact narrow_bI) ?_
      exact ⟨_, rfl, (by unfold r_count; rw [if_neg (by rw [hx1]; decide), if_pos hx1]; exact hH.fx (j := 6) (q := 2) (by decide)), rfl, rfl⟩
    · have hx1 : w = nI 2 := hx1
      refine Ex_tabIn (tgt := 64) dX8_count_1 (by rw [hx1]; decide) (by rw [hx1]; decide) (off := 63) (by rw [hx1]; rfl) (by decide) ?_
      refine Ex_aload_n dX8_count_64 rfl ?_
      refine Ex_getr dX8_count_65 fX8_16 (ds_o hD) (ds_h hD) ?_
      refine Ex_geti dX8_count_68 fX8_124 (hl_o hS) ?_
      refine Ex_iret dX8_count_71 (by first | rfl | exact narrow_bI) ?_
      exact ⟨_, rfl, (by unfold r_count; rw [if_neg (by rw [hx1]; decide), if_neg (by rw [hx1]; decide), if_pos hx1]; exact hH.fx (j := 2) (q := 3) (by decide)), rfl, rfl⟩
    · have hx1 : w = nI 3 := hx1
      refine Ex_tabIn (tgt := 72) dX8_count_1 (by rw [hx1]; decide) (by rw [hx1]; decide) (off := 71) (by rw [hx1]; rfl) (by decide) ?_
      refine Ex_aload_n dX8_count_72 rfl ?_
      refine Ex_getr dX8_count_73 fX8_16 (ds_o hD) (ds_h hD) ?_
      refine Ex_geti dX8_count_76 fX8_127 (hl_o hS) ?_
      refine Ex_iret dX8_count_79 (by first | rfl | exact narrow_bI) ?_
      exact ⟨_, rfl, (by unfold r_count; rw [if_neg (by rw [hx1]; decide), if_neg (by rw [hx1]; decide), if_neg (by rw [hx1]; decide), if_pos hx1]; exact hH.fx (j := 3) (q := 4) (by decide)), rfl, rfl⟩
    · have hx1 : w = nI 4 := hx1
      refine Ex_tabIn (tgt := 80) dX8_count_1 (by rw [hx1]; decide) (by rw [hx1]; decide) (off := 79) (by rw [hx1]; rfl) (by decide) ?_
      refine Ex_aload_n dX8_count_80 rfl ?_
      refine Ex_getr dX8_count_81 fX8_16 (ds_o hD) (ds_h hD) ?_
      refine Ex_geti dX8_count_84 fX8_242 (hl_o hS) ?_
      refine Ex_iret dX8_count_87 (by first | rfl | exact narrow_bI) ?_
      exact ⟨_, rfl, (by unfold r_count; rw [if_neg (by rw [hx1]; decide), if_neg (by rw [hx1]; decide), if_neg (by rw [hx1]; decide), if_neg (by rw [hx1]; decide), if_pos hx1]; exact hH.fx (j := 9) (q := 7) (by decide)), rfl, rfl⟩
    · have hx1 : w = nI 5 := hx1
      refine Ex_tabIn (tgt := 88) dX8_count_1 (by rw [hx1]; decide) (by rw [hx1]; decide) (off := 87) (by rw [hx1]; rfl) (by decide) ?_
      refine Ex_aload_n dX8_count_88 rfl ?_
      refine Ex_geti dX8_count_89 fX8_317 (ds_o hD) ?_
      refine Ex_iret dX8_count_92 (by first | rfl | exact narrow_bI) ?_
      exact ⟨_, rfl, (by unfold r_count; rw [if_neg (by rw [hx1]; decide), if_neg (by rw [hx1]; decide), if_neg (by rw [hx1]; decide), if_neg (by rw [hx1]; decide), if_neg (by rw [hx1]; decide), if_pos hx1]), rfl, rfl⟩
    · have hx1 : w = nI 6 := hx1
      refine Ex_tabIn (tgt := 93) dX8_count_1 (by rw [hx1]; decide) (by rw [hx1]; decide) (off := 92) (by rw [hx1]; rfl) (by decide) ?_
      refine Ex_aload_n dX8_count_93 rfl ?_
      refine Ex_getr dX8_count_94 fX8_29 (ds_o hD) (ds_tpr hD) ?_
      refine Ex_geti dX8_count_97 fX8_231 (ds_tp hD).1 ?_
      refine Ex_iret dX8_count_100 (by first | rfl | exact narrow_bI) ?_
      exact ⟨_, rfl, (by unfold r_count; rw [if_neg (by rw [hx1]; decide), if_neg (by rw [hx1]; decide), if_neg (by rw [hx1]; decide), if_neg (by rw [hx1]; decide), if_neg (by rw [hx1]; decide), if_neg (by rw [hx1]; decide), if_pos hx1]), rfl, rfl⟩
    · have hx1 : w = nI 7 := hx1
      refine Ex_tabIn (tgt := 101) dX8_count_1 (by rw [hx1]; decide) (by rw [hx1]; decide) (off := 100) (by rw [hx1]; rfl) (by decide) ?_
      refine Ex_aload_n dX8_count_101 rfl ?_
      refine Ex_getr dX8_count_102 fX8_16 (ds_o hD) (ds_h hD) ?_
      refine Ex_geti dX8_count_105 fX8_148 (hl_o hS) ?_
      refine Ex_iret dX8_count_108 (by first | rfl | exact narrow_bI) ?_
      exact ⟨_, rfl, (by unfold r_count; rw [if_neg (by rw [hx1]; decide), if_neg (by rw [hx1]; decide), if_neg (by rw [hx1]; decide), if_neg (by rw [hx1]; decide), if_neg (by rw [hx1]; decide), if_neg (by rw [hx1]; decide), if_neg (by rw [hx1]; decide), if_pos hx1]; exact hH.fx (j := 7) (q := 0) (by decide)), rfl, rfl⟩
  · refine Ex_tabOut (tgt := 109) dX8_count_1 hx1 (by decide) ?_
    refine Ex_ldc dX8_count_109 kX8_71 ?_
    refine Ex_iret dX8_count_111 (by first | rfl | exact narrow_bI) ?_
    exact ⟨_, rfl, (by unfold r_count; rw [if_neg (fun q => swo hx1 (k := 0) (by decide) (by decide) q), if_neg (fun q => swo hx1 (k := 1) (by decide) (by decide) q), if_neg (fun q => swo hx1 (k := 2) (by decide) (by decide) q), if_neg (fun q => swo hx1 (k := 3) (by decide) (by decide) q), if_neg (fun q => swo hx1 (k := 4) (by decide) (by decide) q), if_neg (fun q => swo hx1 (k := 5) (by decide) (by decide) q), if_neg (fun q => swo hx1 (k := 6) (by decide) (by decide) q), if_neg (fun q => swo hx1 (k := 7) (by decide) (by decide) q)]), rfl, rfl⟩
theorem setI_self {I : MI} {a j : Nat} : setI I a j (I a j) = I := by rw [setI_row, upd_same rfl, rowI_self]
set_option maxRecDepth 100000 in
set_option maxHeartbeats 4000000 in
theorem C8_trim {T : TC} {I : MI} {G : MG} (d : Nat) {D N : Nat} (hD : DS T G D N) (tp : Nat) (n : Int32) (ht : I (D + 59) 1 = nI tp) (h96 : tp ≤ 96) : OkI T mX8_trim (d) [.ref D, .int n] I G (fun r I' G' => r = r_trim tp n ∧ I' = setI I (D + 59) 1 (n_trim tp n) ∧ G' = G) := by
  refine Ok_of (own := RX8) (by decide) rfl (cat1 rfl) (Nat.le_of_ble_eq_true rfl) ?_
  show Ex T RX8 cX8_trim 2 (d) _ 0 [some (.ref D), some (.int n)] [] I G (0, 0)
  refine Ex_iload_n dX8_trim_0 rfl ?_
  refine Ex_if_lt (tgt := 15) dX8_trim_1 (by decide) (fun h1 => ?_) (fun h1 => ?_)
  · refine Ex_ldc dX8_trim_15 kX8_71 ?_
    refine Ex_iret dX8_trim_17 (by first | rfl | exact narrow_bI) ?_
    exact ⟨_, rfl, (by unfold r_trim; rw [if_neg (fun q => absurd q.1 (Int32.not_le.mpr h1))]), (by unfold n_trim; rw [if_neg (fun q => absurd q.1 (Int32.not_le.mpr h1)), ← ht]; exact setI_self.symm), rfl⟩
  · refine Ex_iload_n dX8_trim_4 rfl ?_
    refine Ex_aload_n dX8_trim_5 rfl ?_
    refine Ex_getr dX8_trim_6 fX8_29 (ds_o hD) (ds_tpr hD) ?_
    refine Ex_geti dX8_trim_9 fX8_231 (ds_tp hD).1 ?_
    refine Ex_top ht ?_
    refine Ex_icmp_le (tgt := 18) dX8_trim_12 (by decide) (fun h12 => ?_) (fun h12 => ?_)
    · refine Ex_aload_n dX8_trim_18 rfl ?_
      refine Ex_getr dX8_trim_19 fX8_29 (ds_o hD) (ds_tpr hD) ?_
      refine Ex_iload_n dX8_trim_22 rfl ?_
      refine Ex_puti dX8_trim_23 fX8_231 rfl rfl rfl (ds_tp hD).1 ?_
      refine Ex_iload_n dX8_trim_26 rfl ?_
      refine Ex_iret dX8_trim_27 (by first | rfl | exact narrow_bI) ?_
      exact ⟨_, rfl, (by unfold r_trim; rw [if_pos ⟨Int32.not_lt.mp h1, by rw [i_lt]; rw [i_le, nI_toInt (by omega)] at h12; rw [nI_toInt (by omega)]; omega⟩]), (by unfold n_trim; rw [if_pos ⟨Int32.not_lt.mp h1, by rw [i_lt]; rw [i_le, nI_toInt (by omega)] at h12; rw [nI_toInt (by omega)]; omega⟩]), rfl⟩
    · refine Ex_ldc dX8_trim_15 kX8_71 ?_
      refine Ex_iret dX8_trim_17 (by first | rfl | exact narrow_bI) ?_
      have h12' := Int32.not_le.mp h12
      exact ⟨_, rfl, (by unfold r_trim; rw [if_neg (fun q => absurd q.2 (Int32.not_lt.mpr (by rw [i_le]; rw [i_lt, nI_toInt (by omega)] at h12'; rw [nI_toInt (by omega)]; omega)))]), (by unfold n_trim; rw [if_neg (fun q => absurd q.2 (Int32.not_lt.mpr (by rw [i_le]; rw [i_lt, nI_toInt (by omega)] at h12'; rw [nI_toInt (by omega)]; omega))), ← ht]; exact setI_self.symm), rfl⟩
set_option maxRecDepth 100000 in
set_option maxHeartbeats 4000000 in
theorem C8_tell {T : TC} {I : MI} {G : MG} (d : Nat) {D N : Nat} (hD : DS T G D N) (w : Nat) (v : Int32) (hw : I D 10 = nI w) (h60 : w ≤ 60) : OkI T mX8_tell (d) [.ref D, .int v] I G (fun r I' G' => r = r_tell w ∧ I' = (if w = 60 then I else setI (setI I (D + 116) w v) D 10 (nI (w + 1))) ∧ G' = G) := by
  refine Ok_of (own := RX8) (by decide) rfl (cat1 rfl) (Nat.le_of_ble_eq_true rfl) ?_
  show Ex T RX8 cX8_tell 2 (d) _ 0 [some (.ref D), some (.int v)] [] I G (0, 0)
  refine Ex_aload_n dX8_tell_0 rfl ?_
  refine Ex_geti dX8_tell_1 fX8_317 (ds_o hD) ?_
  refine Ex_top hw ?_
  refine Ex_bipush (v := nI 60) dX8_tell_4 (by rfl) ?_
  refine Ex_icmp_ltN (by omega) (by omega) (tgt := 12) dX8_tell_6 (by decide) (fun h6 => ?_) (fun h6 => ?_)
  · refine Ex_aload_n dX8_tell_12 rfl ?_
    refine Ex_getr dX8_tell_13 fX8_63 (ds_o hD) (ds_w hD) ?_
    refine Ex_aload_n dX8_tell_16 rfl ?_
    refine Ex_geti dX8_tell_17 fX8_317 (ds_o hD) ?_
    refine Ex_top hw ?_
    refine Ex_iload_n dX8_tell_20 rfl ?_
    refine Ex_iast dX8_tell_21 (ds_wI hD) rfl (by rw [ds_wN hD]; omega) (by rw [ds_wN hD]; decide) ?_
    refine Ex_aload_n dX8_tell_22 rfl ?_
    refine Ex_dup dX8_tell_23 rfl ?_
    refine Ex_geti dX8_tell_24 fX8_317 (ds_o hD) ?_
    refine Ex_top (show _ = nI w by rw [setI_a (by omega)]; exact hw) ?_
    refine Ex_iconst (v := nI 1) dX8_tell_27 (by rfl) ?_
    first | with_reducible refine Ex_iaddN dX8_tell_28 ?_ | refine Ex_iadd dX8_tell_28 ?_
    refine Ex_puti dX8_tell_29 fX8_317 rfl rfl rfl (ds_o hD) ?_
    refine Ex_aload_n dX8_tell_32 rfl ?_
    refine Ex_geti dX8_tell_33 fX8_317 (ds_o hD) ?_
    refine Ex_top (show _ = nI (w + 1) from setI_s) ?_
    refine Ex_iret dX8_tell_36 (by first | rfl | exact narrow_bI) ?_
    exact ⟨_, rfl, (by unfold r_tell; rw [if_neg (by omega)]), by rw [if_neg (by omega)], rfl⟩
  · refine Ex_ldc dX8_tell_9 kX8_76 ?_
    refine Ex_iret dX8_tell_11 (by first | rfl | exact narrow_bI) ?_
    exact ⟨_, rfl, (by unfold r_tell; rw [if_pos (by omega)]), by rw [if_pos (by omega)], rfl⟩
set_option maxRecDepth 100000 in
set_option maxHeartbeats 4000000 in
theorem C8_why {T : TC} {I : MI} {G : MG} (d : Nat) {D N : Nat} {g : Nat → Int32} (hD : DS T G D N) (hH : Hl T I G (D + 2) (D + 1) N g) (k : Int32)  : OkP T mX8_why (d + 1) [.ref D, .int k] I G (r_why g k) := by
  refine Ok_of (own := RX8) (by decide) rfl (cat1 rfl) (Nat.le_of_ble_eq_true rfl) ?_
  show Ex T RX8 cX8_why 2 (d + 1) _ 0 [some (.ref D), some (.int k)] [] I G (0, 0)
  have hS := hH.1
  have hn8 := hH.n8
  refine Ex_iload_n dX8_why_0 rfl ?_
  refine Ex_iconst (v := nI 3) dX8_why_1 (by rfl) ?_
  refine Ex_S2p dX8_why_2 sX8_67  (Nat.le_of_ble_eq_true rfl) (c8_isBelow (d) _ _) ?_
  refine Ex_if_neB (tgt := 11) dX8_why_5 (by decide) (fun h5 => ?_) (fun h5 => ?_)
  · obtain ⟨k', hk', ek⟩ := (rng_k (by omega)).mp h5
    subst ek
    have hst := hH.2.2.1.2.1 k' hk'
    refine Ex_aload_n dX8_why_11 rfl ?_
    refine Ex_getr dX8_why_12 fX8_16 (ds_o hD) (ds_h hD) ?_
    refine Ex_getr dX8_why_15 fX8_263 (hl_o hS) (hl_g hS) ?_
    refine Ex_iload_n dX8_why_18 rfl ?_
    refine Ex_iald dX8_why_19 (hl_gI hS) rfl (by rw [hl_gN hS]; omega) (by rw [hl_gN hS]; decide) ?_
    refine Ex_if_ge (tgt := 28) dX8_why_20 (by decide) (fun h20 => ?_) (fun h20 => ?_)
    · refine Ex_aload_n dX8_why_28 rfl ?_
      refine Ex_getr dX8_why_29 fX8_16 (ds_o hD) (ds_h hD) ?_
      refine Ex_getr dX8_why_32 fX8_263 (hl_o hS) (hl_g hS) ?_
      refine Ex_iload_n dX8_why_35 rfl ?_
      refine Ex_iald dX8_why_36 (hl_gI hS) rfl (by rw [hl_gN hS]; omega) (by rw [hl_gN hS]; decide) ?_
      refine Ex_iret dX8_why_37 (by first | rfl | exact narrow_bI) ?_
      refine ⟨_, rfl, ?_, rfl, rfl⟩
      unfold r_why
      rw [if_pos h5]
      rw [hst] at h20 ⊢
      cases hc : cntF g (nI k') (tN g) with
      | none => rw [hc] at h20; exact absurd h20 (by decide)
      | some t => rfl
    · refine Ex_ldc dX8_why_23 kX8_119 ?_
      refine Ex_goto (tgt := 37) dX8_why_25 (by decide) ?_
      refine Ex_iret dX8_why_37 (by first | rfl | exact narrow_bI) ?_
      refine ⟨_, rfl, ?_, rfl, rfl⟩
      unfold r_why
      rw [if_pos h5]
      rw [hst] at h20
      cases hc : cntF g (nI k') (tN g) with
      | none => rfl
      | some t => rw [hc] at h20; exact absurd (nI_pos' (show t < 2 ^ 31 by have := (cntF_lt hc).1; have := hH.w.2.2.2.2.1; omega)) h20
  · refine Ex_ldc dX8_why_8 kX8_71 ?_
    refine Ex_iret dX8_why_10 (by first | rfl | exact narrow_bI) ?_
    exact ⟨_, rfl, (by unfold r_why; rw [if_neg h5]), rfl, rfl⟩
set_option maxRecDepth 100000 in
set_option maxHeartbeats 4000000 in
theorem C8_textTold {T : TC} {I : MI} {G : MG} (d : Nat) {D N : Nat} {g : Nat → Int32} (hD : DS T G D N) (hH : Hl T I G (D + 2) (D + 1) N g) (t w : Int32)  : OkP T mX8_textTold (d + 1) [.ref D, .int t, .int w] I G (r_textTold g t w) := by
  refine Ok_of (own := RX8) (by decide) rfl (cat1 rfl) (Nat.le_of_ble_eq_true rfl) ?_
  show Ex T RX8 cX8_textTold 4 (d + 1) _ 0 [some (.ref D), some (.int t), some (.int w), none] [] I G (0, 0)
  have hS := hH.1
  have hn8 := hH.n8
  have ht := hH.w.2.2.2
  have h14 := ht.2.1
  refine Ex_iload_n dX8_textTold_0 rfl ?_
  refine Ex_aload_n dX8_textTold_1 rfl ?_
  refine Ex_getr dX8_textTold_2 fX8_16 (ds_o hD) (ds_h hD) ?_
  refine Ex_geti dX8_textTold_5 fX8_242 (hl_o hS) ?_
  refine Ex_top ((hH.fx (j := 9) (q := 7) (by decide)).trans ht.1) ?_
  refine Ex_S2p dX8_textTold_8 sX8_67  (Nat.le_of_ble_eq_true rfl) (c8_isBelow (d) _ _) ?_
  refine Ex_if_eqB (tgt := 22) dX8_textTold_11 (by decide) (fun h11 => ?_) (fun h11 => ?_)
  · refine Ex_ldc dX8_textTold_22 kX8_71 ?_
    refine Ex_iret dX8_textTold_24 (by first | rfl | exact narrow_bI) ?_
    exact ⟨_, rfl, (by unfold r_textTold; rw [if_neg (fun q => h11 q.1)]), rfl, rfl⟩
  · refine Ex_iload_n dX8_textTold_14 rfl ?_
    refine Ex_iconst (v := nI 2) dX8_textTold_15 (by rfl) ?_
    refine Ex_S2p dX8_textTold_16 sX8_67  (Nat.le_of_ble_eq_true rfl) (c8_isBelow (d) _ _) ?_
    refine Ex_if_neB (tgt := 25) dX8_textTold_19 (by decide) (fun h19 => ?_) (fun h19 => ?_)
    · obtain ⟨t', ht', et⟩ := (rng_k (by omega)).mp h11
      subst et
      have ect : cl (nI t') = t' := cl_nI (by omega)
      obtain ⟨j, t1, t2, t3, t4, -⟩ := hH.2.2.2.1 t' ht'
      refine Ex_aload_n dX8_textTold_25 rfl ?_
      refine Ex_getr dX8_textTold_26 fX8_16 (ds_o hD) (ds_h hD) ?_
      refine Ex_getr dX8_textTold_29 fX8_253 (hl_o hS) (hl_t hS) ?_
      refine Ex_iload_n dX8_textTold_32 rfl ?_
      refine Ex_aaldTe dX8_textTold_33 (hl_tI hS) rfl (by rw [hl_tN hS]; omega) (by rw [hl_tN hS]; decide) t1 ?_
      refine Ex_astore_n dX8_textTold_34 (by decide) rfl ?_
      simp only [st_n0, st_n1, st_n2, st_n3, List.set_cons_zero, List.set_cons_succ]
      refine Ex_aload_n dX8_textTold_35 rfl ?_
      refine Ex_ifnonnull (tgt := 42) dX8_textTold_36 (by decide) ?_
      refine Ex_iload_n dX8_textTold_42 rfl ?_
      refine Ex_if_ne (tgt := 53) dX8_textTold_43 (by decide) (fun h43 => ?_) (fun h43 => ?_)
      · refine Ex_aload_n dX8_textTold_53 rfl ?_
        refine Ex_geti dX8_textTold_54 fX8_260 t2.1 ?_
        refine Ex_iret dX8_textTold_57 (by first | rfl | exact narrow_bI) ?_
        exact ⟨_, rfl, (by unfold r_textTold; rw [if_pos ⟨h11, h19⟩, if_neg h43, ect]; exact t4), rfl, rfl⟩
      · refine Ex_aload_n dX8_textTold_46 rfl ?_
        refine Ex_geti dX8_textTold_47 fX8_257 t2.1 ?_
        refine Ex_goto (tgt := 57) dX8_textTold_50 (by decide) ?_
        refine Ex_iret dX8_textTold_57 (by first | rfl | exact narrow_bI) ?_
        exact ⟨_, rfl, (by unfold r_textTold; rw [if_pos ⟨h11, h19⟩, if_pos h43, ect]; exact t3), rfl, rfl⟩
    · refine Ex_ldc dX8_textTold_22 kX8_71 ?_
      refine Ex_iret dX8_textTold_24 (by first | rfl | exact narrow_bI) ?_
      exact ⟨_, rfl, (by unfold r_textTold; rw [if_neg (fun q => h19 q.2)]), rfl, rfl⟩
