/-! the law: its loop, its start -/
set_option maxRecDepth 100000 in
set_option maxHeartbeats 4000000 in
theorem law_step {T : TC} {F : FinT} {J : MI} {H : MG} {b L D i n : Nat} {xs : Nat → Int32} (e : Nat) (hS : FScr T F b L xs) (hLI : LI T D J H) (hi : i + 6 ≤ L) (hL : L < 2 ^ 31) (k : ∀ J H, LI T D J H → Ex T RL cL_law 4 (e + 101) F 18 [some (.ref b), some (.ref D), some (.ref (D + 117)), some (.int (nI (i + 6)))] [] J H (3 * n, 200 * n)) : Ex T RL cL_law 4 (e + 101) F 27 [some (.ref b), some (.ref D), some (.ref (D + 117)), some (.int (nI i))] [] J H (3 * n + 3, 200 * n + 200) := by
  have k9 : ∀ J H, LI T D J H → Ex T RL cL_law 4 (e + 101) F 1637 [some (.ref b), some (.ref D), some (.ref (D + 117)), some (.int (nI i))] [] J H (3 * n, 200 * n) := fun J H h => by
    refine Ex_iincN (m := 6) dL_law_1637 rfl (by rfl) (by decide) rfl ?_
    refine Ex_goto (tgt := 18) dL_law_1640 (by decide) ?_
    exact k J H h
  refine Ex_aload_n dL_law_27 rfl ?_
  refine Ex_iload_n dL_law_28 rfl ?_
  refine Ex_scr hS dL_law_29 rfl (by omega) hL ?_
  refine Ex_bipush (v := nI 63) dL_law_30 (by rfl) ?_
  refine Ex_iand dL_law_32 ?_
  generalize xs i &&& nI 63 = q
  rcases sw_cases q (0) (46) (by decide) (by decide) with ⟨k1, hk1, hl1, hx1⟩ | hx1
  · rcases (show k1 = 0 ∨ k1 = 1 ∨ k1 = 2 ∨ k1 = 3 ∨ k1 = 4 ∨ k1 = 5 ∨ k1 = 6 ∨ k1 = 7 ∨ k1 = 8 ∨ k1 = 9 ∨ k1 = 10 ∨ k1 = 11 ∨ k1 = 12 ∨ k1 = 13 ∨ k1 = 14 ∨ k1 = 15 ∨ k1 = 16 ∨ k1 = 17 ∨ k1 = 18 ∨ k1 = 19 ∨ k1 = 20 ∨ k1 = 21 ∨ k1 = 22 ∨ k1 = 23 ∨ k1 = 24 ∨ k1 = 25 ∨ k1 = 26 ∨ k1 = 27 ∨ k1 = 28 ∨ k1 = 29 ∨ k1 = 30 ∨ k1 = 31 ∨ k1 = 32 ∨ k1 = 33 ∨ k1 = 34 ∨ k1 = 35 ∨ k1 = 36 ∨ k1 = 37 ∨ k1 = 38 ∨ k1 = 39 ∨ k1 = 40 ∨ k1 = 41 ∨ k1 = 42 ∨ k1 = 43 ∨ k1 = 44 ∨ k1 = 45 ∨ k1 = 46 by omega) with rfl | rfl | rfl | rfl | rfl | rfl | rfl | rfl | rfl | rfl | rfl | rfl | rfl | rfl | rfl | rfl | rfl | rfl | rfl | rfl | rfl | rfl | rfl | rfl | rfl | rfl | rfl | rfl | rfl | rfl | rfl | rfl | rfl | rfl | rfl | rfl | rfl | rfl | rfl | rfl | rfl | rfl | rfl | rfl | rfl | rfl | rfl
    · have hx1 : q = nI 0 := hx1
      refine Ex_tabIn (tgt := 236) dL_law_33 (by rw [hx1]; decide) (by rw [hx1]; decide) (off := 203) (by rw [hx1]; rfl) (by decide) ?_
      exact Ex_wid (w_surface e hS hLI hi hL k9) (Nat.le_add_right _ _) (Nat.le_add_right _ _)
    · have hx1 : q = nI 1 := hx1
      refine Ex_tabIn (tgt := 269) dL_law_33 (by rw [hx1]; decide) (by rw [hx1]; decide) (off := 236) (by rw [hx1]; rfl) (by decide) ?_
      exact Ex_wid (w_told e hS hLI hi hL k9) (Nat.le_add_right _ _) (Nat.le_add_right _ _)
    · have hx1 : q = nI 2 := hx1
      refine Ex_tabIn (tgt := 302) dL_law_33 (by rw [hx1]; decide) (by rw [hx1]; decide) (off := 269) (by rw [hx1]; rfl) (by decide) ?_
      exact Ex_wid (w_layer e hS hLI hi hL k9) (Nat.le_add_right _ _) (Nat.le_add_right _ _)
    · have hx1 : q = nI 3 := hx1
      refine Ex_tabIn (tgt := 335) dL_law_33 (by rw [hx1]; decide) (by rw [hx1]; decide) (off := 302) (by rw [hx1]; rfl) (by decide) ?_
      exact Ex_wid (w_as e hS hLI hi hL k9) (Nat.le_add_right _ _) (Nat.le_add_right _ _)
    · have hx1 : q = nI 4 := hx1
      refine Ex_tabIn (tgt := 368) dL_law_33 (by rw [hx1]; decide) (by rw [hx1]; decide) (off := 335) (by rw [hx1]; rfl) (by decide) ?_
      exact Ex_wid (w_turns e hS hLI hi hL k9) (Nat.le_add_right _ _) (Nat.le_add_right _ _)
    · have hx1 : q = nI 5 := hx1
      refine Ex_tabIn (tgt := 401) dL_law_33 (by rw [hx1]; decide) (by rw [hx1]; decide) (off := 368) (by rw [hx1]; rfl) (by decide) ?_
      exact Ex_wid (w_damp e hS hLI hi hL k9) (Nat.le_add_right _ _) (Nat.le_add_right _ _)
    · have hx1 : q = nI 6 := hx1
      refine Ex_tabIn (tgt := 434) dL_law_33 (by rw [hx1]; decide) (by rw [hx1]; decide) (off := 401) (by rw [hx1]; rfl) (by decide) ?_
      exact Ex_wid (w_rule e hS hLI hi hL k9) (Nat.le_add_right _ _) (Nat.le_add_right _ _)
    · have hx1 : q = nI 7 := hx1
      refine Ex_tabIn (tgt := 467) dL_law_33 (by rw [hx1]; decide) (by rw [hx1]; decide) (off := 434) (by rw [hx1]; rfl) (by decide) ?_
      exact Ex_wid (w_settles e hS hLI hi hL k9) (Nat.le_add_right _ _) (Nat.le_add_right _ _)
    · have hx1 : q = nI 8 := hx1
      refine Ex_tabIn (tgt := 500) dL_law_33 (by rw [hx1]; decide) (by rw [hx1]; decide) (off := 467) (by rw [hx1]; rfl) (by decide) ?_
      exact Ex_wid (w_sweeps e hS hLI hi hL k9) (Nat.le_add_right _ _) (Nat.le_add_right _ _)
    · have hx1 : q = nI 9 := hx1
      refine Ex_tabIn (tgt := 523) dL_law_33 (by rw [hx1]; decide) (by rw [hx1]; decide) (off := 490) (by rw [hx1]; rfl) (by decide) ?_
      exact Ex_wid (w_lifts e hS hLI hi hL k9) (Nat.le_add_right _ _) (Nat.le_add_right _ _)
    · have hx1 : q = nI 10 := hx1
      refine Ex_tabIn (tgt := 556) dL_law_33 (by rw [hx1]; decide) (by rw [hx1]; decide) (off := 523) (by rw [hx1]; rfl) (by decide) ?_
      exact Ex_wid (w_deal e hS hLI hi hL k9) (Nat.le_add_right _ _) (Nat.le_add_right _ _)
    · have hx1 : q = nI 11 := hx1
      refine Ex_tabIn (tgt := 579) dL_law_33 (by rw [hx1]; decide) (by rw [hx1]; decide) (off := 546) (by rw [hx1]; rfl) (by decide) ?_
      exact Ex_wid (w_seed e hS hLI hi hL k9) (Nat.le_add_right _ _) (Nat.le_add_right _ _)
    · have hx1 : q = nI 12 := hx1
      refine Ex_tabIn (tgt := 602) dL_law_33 (by rw [hx1]; decide) (by rw [hx1]; decide) (off := 569) (by rw [hx1]; rfl) (by decide) ?_
      exact Ex_wid (w_days e hS hLI hi hL k9) (Nat.le_add_right _ _) (Nat.le_add_right _ _)
    · have hx1 : q = nI 13 := hx1
      refine Ex_tabIn (tgt := 625) dL_law_33 (by rw [hx1]; decide) (by rw [hx1]; decide) (off := 592) (by rw [hx1]; rfl) (by decide) ?_
      exact Ex_wid (w_hall e hS hLI hi hL k9) (Nat.le_add_right _ _) (Nat.le_add_right _ _)
    · have hx1 : q = nI 14 := hx1
      refine Ex_tabIn (tgt := 648) dL_law_33 (by rw [hx1]; decide) (by rw [hx1]; decide) (off := 615) (by rw [hx1]; rfl) (by decide) ?_
      exact Ex_wid (w_lies e hS hLI hi hL k9) (Nat.le_add_right _ _) (Nat.le_add_right _ _)
    · have hx1 : q = nI 15 := hx1
      refine Ex_tabIn (tgt := 671) dL_law_33 (by rw [hx1]; decide) (by rw [hx1]; decide) (off := 638) (by rw [hx1]; rfl) (by decide) ?_
      exact Ex_wid (w_proof e hS hLI hi hL k9) (Nat.le_add_right _ _) (Nat.le_add_right _ _)
    · have hx1 : q = nI 16 := hx1
      refine Ex_tabIn (tgt := 704) dL_law_33 (by rw [hx1]; decide) (by rw [hx1]; decide) (off := 671) (by rw [hx1]; rfl) (by decide) ?_
      exact Ex_wid (w_common e hS hLI hi hL k9) (Nat.le_add_right _ _) (Nat.le_add_right _ _)
    · have hx1 : q = nI 17 := hx1
      refine Ex_tabIn (tgt := 747) dL_law_33 (by rw [hx1]; decide) (by rw [hx1]; decide) (off := 714) (by rw [hx1]; rfl) (by decide) ?_
      exact Ex_wid (w_hiding e hS hLI hi hL k9) (Nat.le_add_right _ _) (Nat.le_add_right _ _)
    · have hx1 : q = nI 18 := hx1
      refine Ex_tabIn (tgt := 780) dL_law_33 (by rw [hx1]; decide) (by rw [hx1]; decide) (off := 747) (by rw [hx1]; rfl) (by decide) ?_
      exact Ex_wid (w_alike e hS hLI hi hL k9) (Nat.le_add_right _ _) (Nat.le_add_right _ _)
    · have hx1 : q = nI 19 := hx1
      refine Ex_tabIn (tgt := 803) dL_law_33 (by rw [hx1]; decide) (by rw [hx1]; decide) (off := 770) (by rw [hx1]; rfl) (by decide) ?_
      exact Ex_wid (w_forged e hS hLI hi hL k9) (Nat.le_add_right _ _) (Nat.le_add_right _ _)
    · have hx1 : q = nI 20 := hx1
      refine Ex_tabIn (tgt := 826) dL_law_33 (by rw [hx1]; decide) (by rw [hx1]; decide) (off := 793) (by rw [hx1]; rfl) (by decide) ?_
      exact Ex_wid (w_behind e hS hLI hi hL k9) (Nat.le_add_right _ _) (Nat.le_add_right _ _)
    · have hx1 : q = nI 21 := hx1
      refine Ex_tabIn (tgt := 859) dL_law_33 (by rw [hx1]; decide) (by rw [hx1]; decide) (off := 826) (by rw [hx1]; rfl) (by decide) ?_
      exact Ex_wid (w_gone e hS hLI hi hL k9) (Nat.le_add_right _ _) (Nat.le_add_right _ _)
    · have hx1 : q = nI 22 := hx1
      refine Ex_tabIn (tgt := 892) dL_law_33 (by rw [hx1]; decide) (by rw [hx1]; decide) (off := 859) (by rw [hx1]; rfl) (by decide) ?_
      exact Ex_wid (w_safe e hS hLI hi hL k9) (Nat.le_add_right _ _) (Nat.le_add_right _ _)
    · have hx1 : q = nI 23 := hx1
      refine Ex_tabIn (tgt := 925) dL_law_33 (by rw [hx1]; decide) (by rw [hx1]; decide) (off := 892) (by rw [hx1]; rfl) (by decide) ?_
      exact Ex_wid (w_becomes e hS hLI hi hL k9) (Nat.le_add_right _ _) (Nat.le_add_right _ _)
    · have hx1 : q = nI 24 := hx1
      refine Ex_tabIn (tgt := 968) dL_law_33 (by rw [hx1]; decide) (by rw [hx1]; decide) (off := 935) (by rw [hx1]; rfl) (by decide) ?_
      exact Ex_wid (w_kept e hS hLI hi hL k9) (Nat.le_add_right _ _) (Nat.le_add_right _ _)
    · have hx1 : q = nI 25 := hx1
      refine Ex_tabIn (tgt := 1001) dL_law_33 (by rw [hx1]; decide) (by rw [hx1]; decide) (off := 968) (by rw [hx1]; rfl) (by decide) ?_
      exact Ex_wid (w_whose e hS hLI hi hL k9) (Nat.le_add_right _ _) (Nat.le_add_right _ _)
    · have hx1 : q = nI 26 := hx1
      refine Ex_tabIn (tgt := 1034) dL_law_33 (by rw [hx1]; decide) (by rw [hx1]; decide) (off := 1001) (by rw [hx1]; rfl) (by decide) ?_
      exact Ex_wid (w_fee e hS hLI hi hL k9) (Nat.le_add_right _ _) (Nat.le_add_right _ _)
    · have hx1 : q = nI 27 := hx1
      refine Ex_tabIn (tgt := 1047) dL_law_33 (by rw [hx1]; decide) (by rw [hx1]; decide) (off := 1014) (by rw [hx1]; rfl) (by decide) ?_
      exact Ex_wid (w_fine e hS hLI hi hL k9) (Nat.le_add_right _ _) (Nat.le_add_right _ _)
    · have hx1 : q = nI 28 := hx1
      refine Ex_tabIn (tgt := 1070) dL_law_33 (by rw [hx1]; decide) (by rw [hx1]; decide) (off := 1037) (by rw [hx1]; rfl) (by decide) ?_
      exact Ex_wid (w_feed e hS hLI hi hL k9) (Nat.le_add_right _ _) (Nat.le_add_right _ _)
    · have hx1 : q = nI 29 := hx1
      refine Ex_tabIn (tgt := 1113) dL_law_33 (by rw [hx1]; decide) (by rw [hx1]; decide) (off := 1080) (by rw [hx1]; rfl) (by decide) ?_
      exact Ex_wid (w_trim e hS hLI hi hL k9) (Nat.le_add_right _ _) (Nat.le_add_right _ _)
    · have hx1 : q = nI 30 := hx1
      refine Ex_tabIn (tgt := 1136) dL_law_33 (by rw [hx1]; decide) (by rw [hx1]; decide) (off := 1103) (by rw [hx1]; rfl) (by decide) ?_
      exact w_text e hLI k9
    · have hx1 : q = nI 31 := hx1
      refine Ex_tabIn (tgt := 1149) dL_law_33 (by rw [hx1]; decide) (by rw [hx1]; decide) (off := 1116) (by rw [hx1]; rfl) (by decide) ?_
      exact Ex_wid (w_textTold e hS hLI hi hL k9) (Nat.le_add_right _ _) (Nat.le_add_right _ _)
    · have hx1 : q = nI 32 := hx1
      refine Ex_tabIn (tgt := 1182) dL_law_33 (by rw [hx1]; decide) (by rw [hx1]; decide) (off := 1149) (by rw [hx1]; rfl) (by decide) ?_
      exact Ex_wid (w_why e hS hLI hi hL k9) (Nat.le_add_right _ _) (Nat.le_add_right _ _)
    · have hx1 : q = nI 33 := hx1
      refine Ex_tabIn (tgt := 1205) dL_law_33 (by rw [hx1]; decide) (by rw [hx1]; decide) (off := 1172) (by rw [hx1]; rfl) (by decide) ?_
      exact Ex_wid (w_sheet e hS hLI hi hL k9) (Nat.le_add_right _ _) (Nat.le_add_right _ _)
    · have hx1 : q = nI 34 := hx1
      refine Ex_tabIn (tgt := 1248) dL_law_33 (by rw [hx1]; decide) (by rw [hx1]; decide) (off := 1215) (by rw [hx1]; rfl) (by decide) ?_
      exact Ex_wid (w_mark e hS hLI hi hL k9) (Nat.le_add_right _ _) (Nat.le_add_right _ _)
    · have hx1 : q = nI 35 := hx1
      refine Ex_tabIn (tgt := 1291) dL_law_33 (by rw [hx1]; decide) (by rw [hx1]; decide) (off := 1258) (by rw [hx1]; rfl) (by decide) ?_
      exact Ex_wid (w_pour e hS hLI hi hL k9) (Nat.le_add_right _ _) (Nat.le_add_right _ _)
    · have hx1 : q = nI 36 := hx1
      refine Ex_tabIn (tgt := 1314) dL_law_33 (by rw [hx1]; decide) (by rw [hx1]; decide) (off := 1281) (by rw [hx1]; rfl) (by decide) ?_
      exact Ex_wid (w_reads e hS hLI hi hL k9) (Nat.le_add_right _ _) (Nat.le_add_right _ _)
    · have hx1 : q = nI 37 := hx1
      refine Ex_tabIn (tgt := 1337) dL_law_33 (by rw [hx1]; decide) (by rw [hx1]; decide) (off := 1304) (by rw [hx1]; rfl) (by decide) ?_
      exact Ex_wid (w_copy e hS hLI hi hL k9) (Nat.le_add_right _ _) (Nat.le_add_right _ _)
    · have hx1 : q = nI 38 := hx1
      refine Ex_tabIn (tgt := 1400) dL_law_33 (by rw [hx1]; decide) (by rw [hx1]; decide) (off := 1367) (by rw [hx1]; rfl) (by decide) ?_
      exact Ex_wid (w_lay e hS hLI hi hL k9) (Nat.le_add_right _ _) (Nat.le_add_right _ _)
    · have hx1 : q = nI 39 := hx1
      refine Ex_tabIn (tgt := 1443) dL_law_33 (by rw [hx1]; decide) (by rw [hx1]; decide) (off := 1410) (by rw [hx1]; rfl) (by decide) ?_
      exact Ex_wid (w_ask e hS hLI hi hL k9) (Nat.le_add_right _ _) (Nat.le_add_right _ _)
    · have hx1 : q = nI 40 := hx1
      refine Ex_tabIn (tgt := 1476) dL_law_33 (by rw [hx1]; decide) (by rw [hx1]; decide) (off := 1443) (by rw [hx1]; rfl) (by decide) ?_
      exact Ex_wid (w_item e hS hLI hi hL k9) (Nat.le_add_right _ _) (Nat.le_add_right _ _)
    · have hx1 : q = nI 41 := hx1
      refine Ex_tabIn (tgt := 1509) dL_law_33 (by rw [hx1]; decide) (by rw [hx1]; decide) (off := 1476) (by rw [hx1]; rfl) (by decide) ?_
      exact Ex_wid (w_rest e hS hLI hi hL k9) (Nat.le_add_right _ _) (Nat.le_add_right _ _)
    · have hx1 : q = nI 42 := hx1
      refine Ex_tabIn (tgt := 1542) dL_law_33 (by rw [hx1]; decide) (by rw [hx1]; decide) (off := 1509) (by rw [hx1]; rfl) (by decide) ?_
      exact Ex_wid (w_tell e hS hLI hi hL k9) (Nat.le_add_right _ _) (Nat.le_add_right _ _)
    · have hx1 : q = nI 43 := hx1
      refine Ex_tabIn (tgt := 1565) dL_law_33 (by rw [hx1]; decide) (by rw [hx1]; decide) (off := 1532) (by rw [hx1]; rfl) (by decide) ?_
      exact Ex_wid (w_check e hS hLI hi hL k9) (Nat.le_add_right _ _) (Nat.le_add_right _ _)
    · have hx1 : q = nI 44 := hx1
      refine Ex_tabIn (tgt := 1588) dL_law_33 (by rw [hx1]; decide) (by rw [hx1]; decide) (off := 1555) (by rw [hx1]; rfl) (by decide) ?_
      exact Ex_wid (w_keep e hS hLI hi hL k9) (Nat.le_add_right _ _) (Nat.le_add_right _ _)
    · have hx1 : q = nI 45 := hx1
      refine Ex_tabIn (tgt := 1601) dL_law_33 (by rw [hx1]; decide) (by rw [hx1]; decide) (off := 1568) (by rw [hx1]; rfl) (by decide) ?_
      exact Ex_wid (w_back e hS hLI hi hL k9) (Nat.le_add_right _ _) (Nat.le_add_right _ _)
    · have hx1 : q = nI 46 := hx1
      refine Ex_tabIn (tgt := 1614) dL_law_33 (by rw [hx1]; decide) (by rw [hx1]; decide) (off := 1581) (by rw [hx1]; rfl) (by decide) ?_
      exact Ex_wid (w_count e hS hLI hi hL k9) (Nat.le_add_right _ _) (Nat.le_add_right _ _)
  · refine Ex_tabOut (tgt := 1637) dL_law_33 hx1 (by decide) ?_
    exact Ex_wid (k9 _ _ hLI) (Nat.le_add_right _ _) (Nat.le_add_right _ _)
set_option maxRecDepth 100000 in
set_option maxHeartbeats 4000000 in
theorem law_loop {T : TC} {F : FinT} {b L D : Nat} {xs : Nat → Int32} (e : Nat) (hS : FScr T F b L xs) (h6 : 6 ≤ L) (hL : L < 2 ^ 31) (kend : ∀ i J H bb, Ex T RL cL_law 4 (e + 101) F 1643 [some (.ref b), some (.ref D), some (.ref (D + 117)), some (.int (nI i))] [] J H bb) : ∀ (n i : Nat) (J : MI) (H : MG), L < i + 6 * n + 6 → i ≤ L → LI T D J H → Ex T RL cL_law 4 (e + 101) F 18 [some (.ref b), some (.ref D), some (.ref (D + 117)), some (.int (nI i))] [] J H (3 * n, 200 * n) := by
  intro n
  induction n with
  | zero =>
    intro i J H h1 h2 hLI
    refine Ex_iload_n dL_law_18 rfl ?_
    refine Ex_aload_n dL_law_19 rfl ?_
    refine Ex_scl hS dL_law_20 ?_
    refine Ex_bipush (v := nI 6) dL_law_21 (by rfl) ?_
    refine Ex_isubN h6 dL_law_23 ?_
    exact Ex_icmp_gtN (tgt := 1643) (by omega) (by omega) dL_law_24 (by decide) (fun _ => kend i J H _) (fun h => by omega)
  | succ n ih =>
    intro i J H h1 h2 hLI
    refine Ex_iload_n dL_law_18 rfl ?_
    refine Ex_aload_n dL_law_19 rfl ?_
    refine Ex_scl hS dL_law_20 ?_
    refine Ex_bipush (v := nI 6) dL_law_21 (by rfl) ?_
    refine Ex_isubN h6 dL_law_23 ?_
    exact Ex_icmp_gtN (tgt := 1643) (by omega) (by omega) dL_law_24 (by decide) (fun _ => kend i J H _) (fun h => law_step e hS hLI (by omega) hL (fun J' H' h' => ih (i + 6) J' H' (by omega) (by omega) h'))
set_option maxRecDepth 100000 in
set_option maxHeartbeats 4000000 in
theorem law_go {T : TC} {F : FinT} {b L D : Nat} {xs : Nat → Int32} {J : MI} {H : MG} (e : Nat) (hS : FScr T F b L xs) (hL : L ≤ 3072) (kend : ∀ i J H bb, Ex T RL cL_law 4 (e + 101) F 1643 [some (.ref b), some (.ref D), some (.ref (D + 117)), some (.int (nI i))] [] J H bb) (hLI : LI T D J H) : Ex T RL cL_law 4 (e + 101) F 18 [some (.ref b), some (.ref D), some (.ref (D + 117)), some (.int (nI 0))] [] J H (3 * 512, 200 * 512) := by
  by_cases h6 : 6 ≤ L
  · exact law_loop e hS h6 (by omega) kend 512 0 J H (by omega) (by omega) hLI
  · refine Ex_iload_n dL_law_18 rfl ?_
    refine Ex_aload_n dL_law_19 rfl ?_
    refine Ex_scl hS dL_law_20 ?_
    refine Ex_bipush (v := nI 6) dL_law_21 (by rfl) ?_
    refine Ex_isub dL_law_23 ?_
    refine Ex_icmp_gt (tgt := 1643) dL_law_24 (by decide) (fun _ => kend 0 J H _) (fun h => absurd ?_ h)
    rcases (show L = 0 ∨ L = 1 ∨ L = 2 ∨ L = 3 ∨ L = 4 ∨ L = 5 by omega) with rfl | rfl | rfl | rfl | rfl | rfl <;> decide
set_option maxRecDepth 100000 in
set_option maxHeartbeats 4000000 in
theorem law_start {T : TC} {F : FinT} {b L : Nat} {xs : Nat → Int32} {I : MI} {G : MG} (e : Nat) (hS : FScr T F b L xs) (hL : L ≤ 3072) (kend : ∀ D i J H bb, Ex T RL cL_law 4 (e + 101) F 1643 [some (.ref b), some (.ref D), some (.ref (D + 117)), some (.int (nI i))] [] J H bb) : Ex T RL cL_law 4 (e + 101) F 0 [some (.ref b), none, none, none] [] I G (1680, 109454) := by
  obtain ⟨D, hD⟩ : ∃ D, n0 T + gS G = D := ⟨_, rfl⟩
  refine Ex_wid (b := (1679 + 1, 109443 + fN 8)) ?_ (by decide) (by decide)
  refine Ex_new dL_law_0 (by decide) lL_7 i_8.1 i_8.2 hD ?_
  refine Ex_dup dL_law_3 rfl ?_
  refine Ex_wid (b := (1563 + 116, 108105 + 1338)) ?_ (by decide) (by decide)
  refine Ex_I0 (a := D) (mc := 116) (ms := 1338) (b1 := 1563) (b2 := 108105) dL_law_4 sL_9 (Nat.le_of_ble_eq_true rfl) (cX8_ini (e + 97) (D := D) (Is.new hD) (by rw [alG_S]; omega) (fun y => zI_s)) ?_
  rintro J1 H1 ⟨de, hq⟩
  refine Ex_astore_n dL_law_7 (by decide) rfl ?_
  simp only [st_n0, st_n1, st_n2, st_n3, List.set_cons_zero, List.set_cons_succ]
  refine Ex_wid (b := (1562 + 1, 108066 + fN 9)) ?_ (by decide) (by decide)
  refine Ex_new dL_law_8 (by decide) lL_10 i_9.1 i_9.2 hq ?_
  refine Ex_dup dL_law_11 rfl ?_
  refine Ex_wid (b := (1536 + 26, 102400 + 5666)) ?_ (by decide) (by decide)
  refine Ex_I0 (a := D + 117) (mc := 26) (ms := 5666) (b1 := 1536) (b2 := 102400) dL_law_12 sL_12 (Nat.le_of_ble_eq_true rfl) (cX9_ini (e + 99) (M := D + 117) (Is.new hq) (by rw [alG_S]; omega) (fun y => zI_s)) ?_
  rintro J2 H2 ⟨hM, hc, hr, hg⟩
  refine Ex_astore_n dL_law_15 (by decide) rfl ?_
  simp only [st_n0, st_n1, st_n2, st_n3, List.set_cons_zero, List.set_cons_succ]
  refine Ex_iconst (v := nI 0) dL_law_16 (by rfl) ?_
  refine Ex_istore_n dL_law_17 (by decide) rfl ?_
  simp only [st_n0, st_n1, st_n2, st_n3, List.set_cons_zero, List.set_cons_succ]
  exact Ex_wid (law_go e hS hL (kend D) (LI_0 de hq hM hc hr hg)) (by decide) (by decide)
