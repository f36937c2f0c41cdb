/-! the law: its case text, walked -/
set_option maxRecDepth 100000 in
set_option maxHeartbeats 4000000 in
theorem w_text {T : TC} {F : FinT} {J : MI} {H : MG} {b D i b1 b2 : Nat} (e : Nat) (hLI : LI T D J H) (k : ∀ J H, LI T D J H → Ex T RL cL_law 4 (e + 101) F 1637 [some (.ref b), some (.ref D), some (.ref (D + 117)), some (.int (nI i))] [] J H (b1, b2)) : Ex T RL cL_law 4 (e + 101) F 1136 [some (.ref b), some (.ref D), some (.ref (D + 117)), some (.int (nI i))] [] J H (b1 + 3, b2 + 200) := by
  refine Ex_aload_n dL_law_1136 rfl ?_
  refine Ex_callV (a := D) (As := []) (rest := []) (b1 := b1) (b2 := b2) dL_law_1137 sL_137.1 sL_137.2.1 sL_137.2.2 (ds_o hLI.1) rfl rfl (Nat.le_of_ble_eq_true rfl) (K_text e hLI) ?_
  rintro _ J1 H1 ⟨r, rfl, hM1, h9⟩
  show Ex T RL cL_law 4 (e + 101) F 1140 [some (.ref b), some (.ref D), some (.ref (D + 117)), some (.int (nI i))] [.int r] J1 H1 (b1, b2)
  refine Ex_aload_n dL_law_1140 rfl ?_
  refine Ex_V0i dL_law_1141 sL_140 hM1.1 (Nat.le_of_ble_eq_true rfl) (h9) ?_
  rintro _ J2 H2 ⟨rfl, hL2⟩
  refine Ex_icmp_eq (tgt := 1637) dL_law_1144 (by decide) (fun h1144 => ?_) (fun h1144 => ?_)
  · exact k _ _ hL2
  · exact absurd rfl h1144
