/-! the common row, alike, forged -/
set_option maxRecDepth 100000 in
set_option maxHeartbeats 4000000 in
theorem l9_firstOf {T : TC} {I : MI} {G : MG} {Q : Option Value → MI → MG → Prop} {b : Nat × Nat} (d : Nat) {M : Nat} (hM : MSh T G M) (s m : Nat) (hs : s < 8) (hm1 : I (M + 1) (8 + 17 * s + 2) = nI m) (hm : m ≤ 12) (x2 e : Int32) : ∀ i k, k + i = m → Q (some (.int (nI (fsN (fun k => decide ((layF (I (M + 1)) s) k = e)) i k)))) I G → Ex T RX9 cX9_firstOf 5 (d + 1) (fm T "firstOf" (some .int) Q) 3 [some (.ref M), some (.int (nI s)), some (.int x2), some (.int e), some (.int (nI k))] [] I G b := by
  intro i
  induction i with
  | zero =>
    intro k h0 hq
    refine Ex_iload dX9_firstOf_3 rfl ?_
    refine Ex_aload_n dX9_firstOf_5 rfl ?_
    refine Ex_iload_n dX9_firstOf_6 rfl ?_
    refine Ex_iconst (v := nI 2) dX9_firstOf_7 (by rfl) ?_
    refine Ex_V2p dX9_firstOf_8 sX9_105 hM.1 (Nat.le_of_ble_eq_true rfl) (c9_of d hM s 2 (by omega)) ?_
    refine Ex_top hm1 ?_
    refine Ex_icmp_geN (by omega) (by omega) (tgt := 33) dX9_firstOf_11 (by decide) (fun h11 => ?_) (fun h11 => ?_)
    · refine Ex_iload dX9_firstOf_33 rfl ?_
      refine Ex_aload_n dX9_firstOf_35 rfl ?_
      refine Ex_iload_n dX9_firstOf_36 rfl ?_
      refine Ex_iconst (v := nI 2) dX9_firstOf_37 (by rfl) ?_
      refine Ex_V2p dX9_firstOf_38 sX9_105 hM.1 (Nat.le_of_ble_eq_true rfl) (c9_of d hM s 2 (by omega)) ?_
      refine Ex_top hm1 ?_
      refine Ex_icmp_geN (by omega) (by omega) (tgt := 49) dX9_firstOf_41 (by decide) (fun h41 => ?_) (fun h41 => ?_)
      · refine Ex_bipush (v := nI 12) dX9_firstOf_49 (by rfl) ?_
        refine Ex_iret dX9_firstOf_51 (by first | rfl | exact narrow_bI) ?_
        exact hq
      · omega
    · omega
  | succ i ih =>
    intro k h0 hq
    have ef : fsN (fun k => decide ((layF (I (M + 1)) s) k = e)) (i + 1) k = if (fun k => decide ((layF (I (M + 1)) s) k = e)) k = true then k else fsN (fun k => decide ((layF (I (M + 1)) s) k = e)) i (k + 1) := rfl
    refine Ex_iload dX9_firstOf_3 rfl ?_
    refine Ex_aload_n dX9_firstOf_5 rfl ?_
    refine Ex_iload_n dX9_firstOf_6 rfl ?_
    refine Ex_iconst (v := nI 2) dX9_firstOf_7 (by rfl) ?_
    refine Ex_V2p dX9_firstOf_8 sX9_105 hM.1 (Nat.le_of_ble_eq_true rfl) (c9_of d hM s 2 (by omega)) ?_
    refine Ex_top hm1 ?_
    refine Ex_icmp_geN (by omega) (by omega) (tgt := 33) dX9_firstOf_11 (by decide) (fun h11 => ?_) (fun h11 => ?_)
    · omega
    · refine Ex_aload_n dX9_firstOf_14 rfl ?_
      refine Ex_iload_n dX9_firstOf_15 rfl ?_
      refine Ex_iconst (v := nI 4) dX9_firstOf_16 (by rfl) ?_
      refine Ex_iload dX9_firstOf_17 rfl ?_
      first | with_reducible refine Ex_iaddN dX9_firstOf_19 ?_ | refine Ex_iadd dX9_firstOf_19 ?_
      refine Ex_V2p dX9_firstOf_20 sX9_105 hM.1 (Nat.le_of_ble_eq_true rfl) (c9_of d hM s (4 + k) (by omega)) ?_
      refine Ex_iload_n dX9_firstOf_23 rfl ?_
      refine Ex_icmp_eq (tgt := 33) dX9_firstOf_24 (by decide) (fun h24 => ?_) (fun h24 => ?_)
      · refine Ex_iload dX9_firstOf_33 rfl ?_
        refine Ex_aload_n dX9_firstOf_35 rfl ?_
        refine Ex_iload_n dX9_firstOf_36 rfl ?_
        refine Ex_iconst (v := nI 2) dX9_firstOf_37 (by rfl) ?_
        refine Ex_V2p dX9_firstOf_38 sX9_105 hM.1 (Nat.le_of_ble_eq_true rfl) (c9_of d hM s 2 (by omega)) ?_
        refine Ex_top hm1 ?_
        refine Ex_icmp_geN (by omega) (by omega) (tgt := 49) dX9_firstOf_41 (by decide) (fun h41 => ?_) (fun h41 => ?_)
        · omega
        · refine Ex_iload dX9_firstOf_44 rfl ?_
          refine Ex_goto (tgt := 51) dX9_firstOf_46 (by decide) ?_
          refine Ex_iret dX9_firstOf_51 (by first | rfl | exact narrow_bI) ?_
          rw [ef, if_pos (show (fun k => decide ((layF (I (M + 1)) s) k = e)) k = true from decide_eq_true h24)] at hq
          exact hq
      · first | refine Ex_iincN (m := 1) dX9_firstOf_27 rfl rfl (by decide) rfl ?_ | refine Ex_iinc dX9_firstOf_27 rfl rfl (by decide) rfl ?_
        simp only [List.set_cons_zero, List.set_cons_succ]
        refine Ex_goto (tgt := 3) dX9_firstOf_30 (by decide) ?_
        refine ih (k + 1) (by omega) ?_
        rw [ef, if_neg (show ¬ (fun k => decide ((layF (I (M + 1)) s) k = e)) k = true from fun q => h24 (of_decide_eq_true q))] at hq
        exact hq
set_option maxRecDepth 100000 in
set_option maxHeartbeats 4000000 in
theorem c9_firstOf {T : TC} {I : MI} {G : MG} (d : Nat) {M : Nat} (hM : MSh T G M) (s m k : Nat) (e : Int32) (hs : s < 8) (hm1 : I (M + 1) (8 + 17 * s + 2) = nI m) (hm : m ≤ 12) (hk : k ≤ m) : OkP T mX9_firstOf (d + 1) [.ref M, .int (nI s), .int (nI k), .int e] I G (nI (fsF (layF (I (M + 1)) s) m e k)) := by
  refine Ok_of (own := RX9) (by decide) rfl (cat1 rfl) (Nat.le_of_ble_eq_true rfl) ?_
  show Ex T RX9 cX9_firstOf 5 (d + 1) _ 0 [some (.ref M), some (.int (nI s)), some (.int (nI k)), some (.int e), none] [] I G (0, 0)
  refine Ex_iload_n dX9_firstOf_0 rfl ?_
  refine Ex_istore dX9_firstOf_1 (by decide) rfl ?_
  simp only [List.set_cons_zero, List.set_cons_succ]
  exact l9_firstOf d hM s m hs hm1 hm _ e (m - k) k (by omega) ⟨_, rfl, rfl, rfl, rfl⟩
set_option maxRecDepth 100000 in
set_option maxHeartbeats 4000000 in
theorem l9_lays1 {T : TC} {J : MI} {G : MG} {F : FinT} {b : Nat × Nat} (d : Nat) {M : Nat} (hM : MSh T G M) (g : Nat → Int32) (hg : J (M + 1) = g) (u v m n : Nat) (hu : u < 8) (hv : v < 8) (hm1 : g (8 + 17 * u + 2) = nI m) (hm : m ≤ 12) (hn1 : g (8 + 17 * v + 2) = nI n) (hn : n ≤ 12) (ha : ∀ x, x < m → ∃ e, e < 10 ∧ layF g u x = nI e) (hL : ∀ i' j', i' ≤ 12 → j' ≤ 12 → J (M + 5) (13 * i' + j') = nI (lcR (layF g u) (layF g v) m n (m - i') (n - j'))) (i j k r : Nat) (hi : i ≤ m) (hj : j ≤ n) (hk : k < (lcR (layF g u) (layF g v) m n m n)) (hr : (lcR (layF g u) (layF g v) m n m n) - k - 1 = r) (hlr : lcR (layF g u) (layF g v) m n (m - i) (n - j) = r + 1) (f : Nat → Int32) (kx : Ex T RX9 cX9_laysCommon 10 (d + 2) F 116 [some (.ref M), some (.int (nI u)), some (.int (nI v)), some (.int (nI (lcR (layF g u) (layF g v) m n m n))), some (.int (nI i)), some (.int (nI j)), some (.int (nI k)), some (.int (nI (chF (layF g u) (layF g v) m n i j r))), some (.int (nI (fsF (layF g u) m (nI (chF (layF g u) (layF g v) m n i j r)) i))), some (.int (nI (fsF (layF g v) n (nI (chF (layF g u) (layF g v) m n i j r)) j)))] [] (rowI J (M + 6) f) G b) : ∀ t e, e + t = chF (layF g u) (layF g v) m n i j r → Ex T RX9 cX9_laysCommon 10 (d + 2) F 47 [some (.ref M), some (.int (nI u)), some (.int (nI v)), some (.int (nI (lcR (layF g u) (layF g v) m n m n))), some (.int (nI i)), some (.int (nI j)), some (.int (nI k)), some (.int (nI e)), some (.int (nI (fsF (layF g u) m (nI (e)) i))), some (.int (nI (fsF (layF g v) n (nI (e)) j)))] [] (rowI J (M + 6) f) G b := by
  obtain ⟨hc1, hc2, hc3⟩ := ch_spec (b := (layF g v)) (n := n) hm hn hi hj ha hlr
  have hLb := lc_le (a := (layF g u)) (b := (layF g v)) (m := m) (n := n) m n
  have hf12 : ∀ (lay : Nat → Int32) (q x : Nat) (w : Int32), q ≤ 12 → fsF lay q w x ≤ 12 := by
    intro lay q x w hq
    by_cases c : fsF lay q w x = 12
    · omega
    · have := (fsF_some hq c).2.1; omega
  intro t
  induction t with
  | zero =>
    intro e h0
    have he : e = chF (layF g u) (layF g v) m n i j r := by omega
    subst he
    generalize hE : chF (layF g u) (layF g v) m n i j r = e at *
    obtain ⟨p1, p2, p3⟩ := of_decide_eq_true hc2
    have q1 := hf12 (layF g u) m i (nI e) hm
    have q2 := hf12 (layF g v) n j (nI e) hn
    have s1 := (fsF_some hm p1).2.1
    have s2 := (fsF_some hn p2).2.1
    refine Ex_iload dX9_laysCommon_47 rfl ?_
    refine Ex_bipush (v := nI 12) dX9_laysCommon_49 (by rfl) ?_
    refine Ex_icmp_eqN (by omega) (by omega) (tgt := 88) dX9_laysCommon_51 (by decide) (fun h51 => ?_) (fun h51 => ?_)
    · exact absurd h51 p1
    · refine Ex_iload dX9_laysCommon_54 rfl ?_
      refine Ex_bipush (v := nI 12) dX9_laysCommon_56 (by rfl) ?_
      refine Ex_icmp_eqN (by omega) (by omega) (tgt := 88) dX9_laysCommon_58 (by decide) (fun h58 => ?_) (fun h58 => ?_)
      · exact absurd h58 p2
      · refine Ex_aload_n dX9_laysCommon_61 rfl ?_
        refine Ex_getr dX9_laysCommon_62 fX9_22 hM.1 (mF6 hM).1 ?_
        refine Ex_bipush (v := nI 13) dX9_laysCommon_65 (by rfl) ?_
        refine Ex_iload dX9_laysCommon_67 rfl ?_
        first | with_reducible refine Ex_imulN dX9_laysCommon_69 ?_ | refine Ex_imul dX9_laysCommon_69 ?_
        refine Ex_bipush (v := nI 13) dX9_laysCommon_70 (by rfl) ?_
        first | with_reducible refine Ex_iaddN dX9_laysCommon_72 ?_ | refine Ex_iadd dX9_laysCommon_72 ?_
        refine Ex_iload dX9_laysCommon_73 rfl ?_
        first | with_reducible refine Ex_iaddN dX9_laysCommon_75 ?_ | refine Ex_iadd dX9_laysCommon_75 ?_
        refine Ex_iconst (v := nI 1) dX9_laysCommon_76 (by rfl) ?_
        first | with_reducible refine Ex_iaddN dX9_laysCommon_77 ?_ | refine Ex_iadd dX9_laysCommon_77 ?_
        refine Ex_iald dX9_laysCommon_78 (mF6 hM).2.1 rfl (by rw [(mF6 hM).2.2]; omega) (by rw [(mF6 hM).2.2]; decide) ?_
        refine Ex_top (show _ = nI (lcR (layF g u) (layF g v) m n (m - ((fsF (layF g u) m (nI (e)) i) + 1)) (n - ((fsF (layF g v) n (nI (e)) j) + 1))) by rw [rowI_n (by omega)]; exact (congrArg (J (M + 5)) (by omega)).trans (hL _ _ (by omega) (by omega))) ?_
        refine Ex_iload_n dX9_laysCommon_79 rfl ?_
        refine Ex_iload dX9_laysCommon_80 rfl ?_
        refine Ex_isubN (by omega) dX9_laysCommon_82 ?_
        refine Ex_iconst (v := nI 1) dX9_laysCommon_83 (by rfl) ?_
        refine Ex_isubN (by omega) dX9_laysCommon_84 ?_
        have hbl := lc_le (a := layF g u) (b := layF g v) (m := m) (n := n) (m - ((fsF (layF g u) m (nI (e)) i) + 1)) (n - ((fsF (layF g v) n (nI (e)) j) + 1))
        refine Ex_icmp_eqN (by omega) (by omega) (tgt := 116) dX9_laysCommon_85 (by decide) (fun h85 => ?_) (fun h85 => ?_)
        · exact kx
        · exact absurd (by rw [p3]; omega) h85
  | succ t ih =>
    intro e h0
    have hnp := hc3 e (by omega)
    have hnp : ¬ (¬ fsF (layF g u) m (nI e) i = 12 ∧ ¬ fsF (layF g v) n (nI e) j = 12 ∧ lcR (layF g u) (layF g v) m n (m - (fsF (layF g u) m (nI e) i + 1)) (n - (fsF (layF g v) n (nI e) j + 1)) = r) := of_decide_eq_false hnp
    have q1 := hf12 (layF g u) m i (nI e) hm
    have q2 := hf12 (layF g v) n j (nI e) hn
    refine Ex_iload dX9_laysCommon_47 rfl ?_
    refine Ex_bipush (v := nI 12) dX9_laysCommon_49 (by rfl) ?_
    refine Ex_icmp_eqN (by omega) (by omega) (tgt := 88) dX9_laysCommon_51 (by decide) (fun h51 => ?_) (fun h51 => ?_)
    · first | refine Ex_iincN (m := 1) dX9_laysCommon_88 rfl rfl (by decide) rfl ?_ | refine Ex_iinc dX9_laysCommon_88 rfl rfl (by decide) rfl ?_
      simp only [List.set_cons_zero, List.set_cons_succ]
      refine Ex_aload_n dX9_laysCommon_91 rfl ?_
      refine Ex_iload_n dX9_laysCommon_92 rfl ?_
      refine Ex_iload dX9_laysCommon_93 rfl ?_
      refine Ex_iload dX9_laysCommon_95 rfl ?_
      refine Ex_V3p dX9_laysCommon_97 sX9_193 hM.1 (Nat.le_of_ble_eq_true rfl) (c9_firstOf d hM u m i _ hu (by rw [rowI_n (by omega), hg]; exact hm1) hm hi) ?_
      refine Ex_top (show _ = nI (fsF (layF g u) m (nI (e + 1)) i) by rw [rowI_n (by omega), hg]) ?_
      refine Ex_istore dX9_laysCommon_100 (by decide) rfl ?_
      simp only [List.set_cons_zero, List.set_cons_succ]
      refine Ex_aload_n dX9_laysCommon_102 rfl ?_
      refine Ex_iload_n dX9_laysCommon_103 rfl ?_
      refine Ex_iload dX9_laysCommon_104 rfl ?_
      refine Ex_iload dX9_laysCommon_106 rfl ?_
      refine Ex_V3p dX9_laysCommon_108 sX9_193 hM.1 (Nat.le_of_ble_eq_true rfl) (c9_firstOf d hM v n j _ hv (by rw [rowI_n (by omega), hg]; exact hn1) hn hj) ?_
      refine Ex_top (show _ = nI (fsF (layF g v) n (nI (e + 1)) j) by rw [rowI_n (by omega), hg]) ?_
      refine Ex_istore dX9_laysCommon_111 (by decide) rfl ?_
      simp only [List.set_cons_zero, List.set_cons_succ]
      refine Ex_goto (tgt := 47) dX9_laysCommon_113 (by decide) ?_
      exact ih (e + 1) (by omega)
    · refine Ex_iload dX9_laysCommon_54 rfl ?_
      refine Ex_bipush (v := nI 12) dX9_laysCommon_56 (by rfl) ?_
      refine Ex_icmp_eqN (by omega) (by omega) (tgt := 88) dX9_laysCommon_58 (by decide) (fun h58 => ?_) (fun h58 => ?_)
      · first | refine Ex_iincN (m := 1) dX9_laysCommon_88 rfl rfl (by decide) rfl ?_ | refine Ex_iinc dX9_laysCommon_88 rfl rfl (by decide) rfl ?_
        simp only [List.set_cons_zero, List.set_cons_succ]
        refine Ex_aload_n dX9_laysCommon_91 rfl ?_
        refine Ex_iload_n dX9_laysCommon_92 rfl ?_
        refine Ex_iload dX9_laysCommon_93 rfl ?_
        refine Ex_iload dX9_laysCommon_95 rfl ?_
        refine Ex_V3p dX9_laysCommon_97 sX9_193 hM.1 (Nat.le_of_ble_eq_true rfl) (c9_firstOf d hM u m i _ hu (by rw [rowI_n (by omega), hg]; exact hm1) hm hi) ?_
        refine Ex_top (show _ = nI (fsF (layF g u) m (nI (e + 1)) i) by rw [rowI_n (by omega), hg]) ?_
        refine Ex_istore dX9_laysCommon_100 (by decide) rfl ?_
        simp only [List.set_cons_zero, List.set_cons_succ]
        refine Ex_aload_n dX9_laysCommon_102 rfl ?_
        refine Ex_iload_n dX9_laysCommon_103 rfl ?_
        refine Ex_iload dX9_laysCommon_104 rfl ?_
        refine Ex_iload dX9_laysCommon_106 rfl ?_
        refine Ex_V3p dX9_laysCommon_108 sX9_193 hM.1 (Nat.le_of_ble_eq_true rfl) (c9_firstOf d hM v n j _ hv (by rw [rowI_n (by omega), hg]; exact hn1) hn hj) ?_
        refine Ex_top (show _ = nI (fsF (layF g v) n (nI (e + 1)) j) by rw [rowI_n (by omega), hg]) ?_
        refine Ex_istore dX9_laysCommon_111 (by decide) rfl ?_
        simp only [List.set_cons_zero, List.set_cons_succ]
        refine Ex_goto (tgt := 47) dX9_laysCommon_113 (by decide) ?_
        exact ih (e + 1) (by omega)
      · have s1 := (fsF_some hm h51).2.1
        have s2 := (fsF_some hn h58).2.1
        refine Ex_aload_n dX9_laysCommon_61 rfl ?_
        refine Ex_getr dX9_laysCommon_62 fX9_22 hM.1 (mF6 hM).1 ?_
        refine Ex_bipush (v := nI 13) dX9_laysCommon_65 (by rfl) ?_
        refine Ex_iload dX9_laysCommon_67 rfl ?_
        first | with_reducible refine Ex_imulN dX9_laysCommon_69 ?_ | refine Ex_imul dX9_laysCommon_69 ?_
        refine Ex_bipush (v := nI 13) dX9_laysCommon_70 (by rfl) ?_
        first | with_reducible refine Ex_iaddN dX9_laysCommon_72 ?_ | refine Ex_iadd dX9_laysCommon_72 ?_
        refine Ex_iload dX9_laysCommon_73 rfl ?_
        first | with_reducible refine Ex_iaddN dX9_laysCommon_75 ?_ | refine Ex_iadd dX9_laysCommon_75 ?_
        refine Ex_iconst (v := nI 1) dX9_laysCommon_76 (by rfl) ?_
        first | with_reducible refine Ex_iaddN dX9_laysCommon_77 ?_ | refine Ex_iadd dX9_laysCommon_77 ?_
        refine Ex_iald dX9_laysCommon_78 (mF6 hM).2.1 rfl (by rw [(mF6 hM).2.2]; omega) (by rw [(mF6 hM).2.2]; decide) ?_
        refine Ex_top (show _ = nI (lcR (layF g u) (layF g v) m n (m - ((fsF (layF g u) m (nI (e)) i) + 1)) (n - ((fsF (layF g v) n (nI (e)) j) + 1))) by rw [rowI_n (by omega)]; exact (congrArg (J (M + 5)) (by omega)).trans (hL _ _ (by omega) (by omega))) ?_
        refine Ex_iload_n dX9_laysCommon_79 rfl ?_
        refine Ex_iload dX9_laysCommon_80 rfl ?_
        refine Ex_isubN (by omega) dX9_laysCommon_82 ?_
        refine Ex_iconst (v := nI 1) dX9_laysCommon_83 (by rfl) ?_
        refine Ex_isubN (by omega) dX9_laysCommon_84 ?_
        have hbl := lc_le (a := layF g u) (b := layF g v) (m := m) (n := n) (m - ((fsF (layF g u) m (nI (e)) i) + 1)) (n - ((fsF (layF g v) n (nI (e)) j) + 1))
        refine Ex_icmp_eqN (by omega) (by omega) (tgt := 116) dX9_laysCommon_85 (by decide) (fun h85 => ?_) (fun h85 => ?_)
        · exact absurd ⟨h51, h58, by omega⟩ hnp
        · first | refine Ex_iincN (m := 1) dX9_laysCommon_88 rfl rfl (by decide) rfl ?_ | refine Ex_iinc dX9_laysCommon_88 rfl rfl (by decide) rfl ?_
          simp only [List.set_cons_zero, List.set_cons_succ]
          refine Ex_aload_n dX9_laysCommon_91 rfl ?_
          refine Ex_iload_n dX9_laysCommon_92 rfl ?_
          refine Ex_iload dX9_laysCommon_93 rfl ?_
          refine Ex_iload dX9_laysCommon_95 rfl ?_
          refine Ex_V3p dX9_laysCommon_97 sX9_193 hM.1 (Nat.le_of_ble_eq_true rfl) (c9_firstOf d hM u m i _ hu (by rw [rowI_n (by omega), hg]; exact hm1) hm hi) ?_
          refine Ex_top (show _ = nI (fsF (layF g u) m (nI (e + 1)) i) by rw [rowI_n (by omega), hg]) ?_
          refine Ex_istore dX9_laysCommon_100 (by decide) rfl ?_
          simp only [List.set_cons_zero, List.set_cons_succ]
          refine Ex_aload_n dX9_laysCommon_102 rfl ?_
          refine Ex_iload_n dX9_laysCommon_103 rfl ?_
          refine Ex_iload dX9_laysCommon_104 rfl ?_
          refine Ex_iload dX9_laysCommon_106 rfl ?_
          refine Ex_V3p dX9_laysCommon_108 sX9_193 hM.1 (Nat.le_of_ble_eq_true rfl) (c9_firstOf d hM v n j _ hv (by rw [rowI_n (by omega), hg]; exact hn1) hn hj) ?_
          refine Ex_top (show _ = nI (fsF (layF g v) n (nI (e + 1)) j) by rw [rowI_n (by omega), hg]) ?_
          refine Ex_istore dX9_laysCommon_111 (by decide) rfl ?_
          simp only [List.set_cons_zero, List.set_cons_succ]
          refine Ex_goto (tgt := 47) dX9_laysCommon_113 (by decide) ?_
          exact ih (e + 1) (by omega)
set_option maxRecDepth 100000 in
set_option maxHeartbeats 4000000 in
theorem l9_lays2 {T : TC} {J : MI} {G : MG} {F : FinT} {b : Nat × Nat} (d : Nat) {M : Nat} (hM : MSh T G M) (g : Nat → Int32) (hg : J (M + 1) = g) (u v m n : Nat) (hu : u < 8) (hv : v < 8) (hm1 : g (8 + 17 * u + 2) = nI m) (hm : m ≤ 12) (hn1 : g (8 + 17 * v + 2) = nI n) (hn : n ≤ 12) (ha : ∀ x, x < m → ∃ e, e < 10 ∧ layF g u x = nI e) (hL : ∀ i' j', i' ≤ 12 → j' ≤ 12 → J (M + 5) (13 * i' + j') = nI (lcR (layF g u) (layF g v) m n (m - i') (n - j'))) (kx : ∀ f, (∀ x, x < (lcR (layF g u) (layF g v) m n m n) → f x = nI (cmE (layF g u) (layF g v) m n (lcR (layF g u) (layF g v) m n m n) x)) → Ex T RX9 cX9_laysCommon 10 (d + 2) F 16 [some (.ref M), some (.int (nI u)), some (.int (nI v)), some (.int (nI (lcR (layF g u) (layF g v) m n m n))), some (.int (nI ((cmI (layF g u) (layF g v) m n (lcR (layF g u) (layF g v) m n m n) (lcR (layF g u) (layF g v) m n m n))).1)), some (.int (nI ((cmI (layF g u) (layF g v) m n (lcR (layF g u) (layF g v) m n m n) (lcR (layF g u) (layF g v) m n m n))).2)), some (.int (nI (lcR (layF g u) (layF g v) m n m n))), none, none, none] [] (rowI J (M + 6) f) G b) : ∀ t k f, k + t = (lcR (layF g u) (layF g v) m n m n) → (∀ x, x < k → f x = nI (cmE (layF g u) (layF g v) m n (lcR (layF g u) (layF g v) m n m n) x)) → Ex T RX9 cX9_laysCommon 10 (d + 2) F 16 [some (.ref M), some (.int (nI u)), some (.int (nI v)), some (.int (nI (lcR (layF g u) (layF g v) m n m n))), some (.int (nI (cmI (layF g u) (layF g v) m n (lcR (layF g u) (layF g v) m n m n) k).1)), some (.int (nI (cmI (layF g u) (layF g v) m n (lcR (layF g u) (layF g v) m n m n) k).2)), some (.int (nI k)), none, none, none] [] (rowI J (M + 6) f) G b := by
  have hLb := lc_le (a := (layF g u)) (b := (layF g v)) (m := m) (n := n) m n
  intro t
  induction t with
  | zero => intro k f h0 hf; have e0 : k = (lcR (layF g u) (layF g v) m n m n) := by omega
            subst e0; exact kx f hf
  | succ t ih =>
    intro k f h0 hf
    obtain ⟨hi, hj, hlr⟩ := cm_inv (b := (layF g v)) (n := n) hm hn ha k (by omega)
    have hci : cmI (layF g u) (layF g v) m n (lcR (layF g u) (layF g v) m n m n) (k + 1) = (fsF (layF g u) m (nI (chF (layF g u) (layF g v) m n (cmI (layF g u) (layF g v) m n (lcR (layF g u) (layF g v) m n m n) k).1 (cmI (layF g u) (layF g v) m n (lcR (layF g u) (layF g v) m n m n) k).2 ((lcR (layF g u) (layF g v) m n m n) - k - 1))) (cmI (layF g u) (layF g v) m n (lcR (layF g u) (layF g v) m n m n) k).1 + 1, fsF (layF g v) n (nI (chF (layF g u) (layF g v) m n (cmI (layF g u) (layF g v) m n (lcR (layF g u) (layF g v) m n m n) k).1 (cmI (layF g u) (layF g v) m n (lcR (layF g u) (layF g v) m n m n) k).2 ((lcR (layF g u) (layF g v) m n m n) - k - 1))) (cmI (layF g u) (layF g v) m n (lcR (layF g u) (layF g v) m n m n) k).2 + 1) := rfl
    have hce : cmE (layF g u) (layF g v) m n (lcR (layF g u) (layF g v) m n m n) k = chF (layF g u) (layF g v) m n (cmI (layF g u) (layF g v) m n (lcR (layF g u) (layF g v) m n m n) k).1 (cmI (layF g u) (layF g v) m n (lcR (layF g u) (layF g v) m n m n) k).2 ((lcR (layF g u) (layF g v) m n m n) - k - 1) := rfl
    have hkb : k < 12 := by omega
    generalize hi1 : (cmI (layF g u) (layF g v) m n (lcR (layF g u) (layF g v) m n m n) k).1 = i at hi hlr hci hce ⊢
    generalize hj1 : (cmI (layF g u) (layF g v) m n (lcR (layF g u) (layF g v) m n m n) k).2 = j at hj hlr hci hce ⊢
    refine Ex_iload dX9_laysCommon_16 rfl ?_
    refine Ex_iload_n dX9_laysCommon_18 rfl ?_
    refine Ex_icmp_geN (by omega) (by omega) (tgt := 143) dX9_laysCommon_19 (by decide) (fun h19 => ?_) (fun h19 => ?_)
    · omega
    · refine Ex_iconst (v := nI 0) dX9_laysCommon_22 (by rfl) ?_
      refine Ex_istore dX9_laysCommon_23 (by decide) rfl ?_
      simp only [List.set_cons_zero, List.set_cons_succ]
      refine Ex_aload_n dX9_laysCommon_25 rfl ?_
      refine Ex_iload_n dX9_laysCommon_26 rfl ?_
      refine Ex_iload dX9_laysCommon_27 rfl ?_
      refine Ex_iload dX9_laysCommon_29 rfl ?_
      refine Ex_V3p dX9_laysCommon_31 sX9_193 hM.1 (Nat.le_of_ble_eq_true rfl) (c9_firstOf d hM u m i _ hu (by rw [rowI_n (by omega), hg]; exact hm1) hm hi) ?_
      refine Ex_top (show _ = nI (fsF (layF g u) m (nI (0)) i) by rw [rowI_n (by omega), hg]) ?_
      refine Ex_istore dX9_laysCommon_34 (by decide) rfl ?_
      simp only [List.set_cons_zero, List.set_cons_succ]
      refine Ex_aload_n dX9_laysCommon_36 rfl ?_
      refine Ex_iload_n dX9_laysCommon_37 rfl ?_
      refine Ex_iload dX9_laysCommon_38 rfl ?_
      refine Ex_iload dX9_laysCommon_40 rfl ?_
      refine Ex_V3p dX9_laysCommon_42 sX9_193 hM.1 (Nat.le_of_ble_eq_true rfl) (c9_firstOf d hM v n j _ hv (by rw [rowI_n (by omega), hg]; exact hn1) hn hj) ?_
      refine Ex_top (show _ = nI (fsF (layF g v) n (nI (0)) j) by rw [rowI_n (by omega), hg]) ?_
      refine Ex_istore dX9_laysCommon_45 (by decide) rfl ?_
      simp only [List.set_cons_zero, List.set_cons_succ]
      refine l9_lays1 d hM g hg u v m n hu hv hm1 hm hn1 hn ha hL i j k ((lcR (layF g u) (layF g v) m n m n) - k - 1) hi hj (by omega) rfl (by omega) f ?_ _ 0 (Nat.zero_add _)
      refine Ex_aload_n dX9_laysCommon_116 rfl ?_
      refine Ex_getr dX9_laysCommon_117 fX9_25 hM.1 (mF7 hM).1 ?_
      refine Ex_iload dX9_laysCommon_120 rfl ?_
      refine Ex_iload dX9_laysCommon_122 rfl ?_
      refine Ex_iast dX9_laysCommon_124 (mF7 hM).2.1 rfl (by rw [(mF7 hM).2.2]; omega) (by rw [(mF7 hM).2.2]; decide) ?_
      rw [setI_row, rowI_r, rowI_s]
      refine Ex_iload dX9_laysCommon_125 rfl ?_
      refine Ex_iconst (v := nI 1) dX9_laysCommon_127 (by rfl) ?_
      first | with_reducible refine Ex_iaddN dX9_laysCommon_128 ?_ | refine Ex_iadd dX9_laysCommon_128 ?_
      refine Ex_istore dX9_laysCommon_129 (by decide) rfl ?_
      simp only [List.set_cons_zero, List.set_cons_succ]
      refine Ex_iload dX9_laysCommon_131 rfl ?_
      refine Ex_iconst (v := nI 1) dX9_laysCommon_133 (by rfl) ?_
      first | with_reducible refine Ex_iaddN dX9_laysCommon_134 ?_ | refine Ex_iadd dX9_laysCommon_134 ?_
      refine Ex_istore dX9_laysCommon_135 (by decide) rfl ?_
      simp only [List.set_cons_zero, List.set_cons_succ]
      first | refine Ex_iincN (m := 1) dX9_laysCommon_137 rfl rfl (by decide) rfl ?_ | refine Ex_iinc dX9_laysCommon_137 rfl rfl (by decide) rfl ?_
      simp only [List.set_cons_zero, List.set_cons_succ]
      refine Ex_goto (tgt := 16) dX9_laysCommon_140 (by decide) ?_
      refine Ex_drop 7 ?_
      refine Ex_drop 8 ?_
      refine Ex_drop 9 ?_
      simp only [st_n0, st_n1, st_n2, st_n3, List.set_cons_zero, List.set_cons_succ]
      have key := ih (k + 1) (upd f k (nI (chF (layF g u) (layF g v) m n i j ((lcR (layF g u) (layF g v) m n m n) - k - 1)))) (by omega) (fun x hx => by
        by_cases e : x = k
        · subst e; rw [upd_s, hce]
        · rw [upd_n e]; exact hf x (by omega))
      rw [hci] at key
      exact key
set_option maxRecDepth 100000 in
set_option maxHeartbeats 4000000 in
theorem c9_laysCommon {T : TC} {I : MI} {G : MG} (d : Nat) {M : Nat} (hM : MSh T G M) (g : Nat → Int32) (u v m n : Nat) (hg : I (M + 1) = g) (hu : u < 8) (hv : v < 8) (hm1 : g (8 + 17 * u + 2) = nI m) (hm : m ≤ 12) (hn1 : g (8 + 17 * v + 2) = nI n) (hn : n ≤ 12) (ha : ∀ x, x < m → ∃ e, e < 10 ∧ layF g u x = nI e) : OkI T mX9_laysCommon (d + 2) [.ref M, .int (nI u), .int (nI v)] I G (fun r I' G' => r = nI (lcR (layF g u) (layF g v) m n m n) ∧ (∀ x, x < (lcR (layF g u) (layF g v) m n m n) → I' (M + 6) x = nI (cmE (layF g u) (layF g v) m n (lcR (layF g u) (layF g v) m n m n) x)) ∧ Fr (fun a => a = M + 5 ∨ a = M + 6) I I' ∧ G' = G) := by
  refine Ok_of (own := RX9) (by decide) rfl (cat1 rfl) (Nat.le_of_ble_eq_true rfl) ?_
  show Ex T RX9 cX9_laysCommon 10 (d + 2) _ 0 [some (.ref M), some (.int (nI u)), some (.int (nI v)), none, none, none, none, none, none, none] [] I G (0, 0)
  refine Ex_aload_n dX9_laysCommon_0 rfl ?_
  refine Ex_iload_n dX9_laysCommon_1 rfl ?_
  refine Ex_iload_n dX9_laysCommon_2 rfl ?_
  refine Ex_V2i dX9_laysCommon_3 sX9_190 hM.1 (Nat.le_of_ble_eq_true rfl) (c9_commonOf d hM u v m n hu hv (by rw [hg]; exact hm1) hm (by rw [hg]; exact hn1) hn) ?_
  rintro r J _ ⟨rfl, hL, hF1, rfl⟩
  rw [hg] at hL
  rw [hg]
  have hgJ : J (M + 1) = g := by rw [hF1 _ (by omega)]; exact hg
  refine Ex_istore_n dX9_laysCommon_6 (by decide) rfl ?_
  simp only [st_n0, st_n1, st_n2, st_n3, List.set_cons_zero, List.set_cons_succ]
  refine Ex_iconst (v := nI 0) dX9_laysCommon_7 (by rfl) ?_
  refine Ex_istore dX9_laysCommon_8 (by decide) rfl ?_
  simp only [List.set_cons_zero, List.set_cons_succ]
  refine Ex_iconst (v := nI 0) dX9_laysCommon_10 (by rfl) ?_
  refine Ex_istore dX9_laysCommon_11 (by decide) rfl ?_
  simp only [List.set_cons_zero, List.set_cons_succ]
  refine Ex_iconst (v := nI 0) dX9_laysCommon_13 (by rfl) ?_
  refine Ex_istore dX9_laysCommon_14 (by decide) rfl ?_
  simp only [List.set_cons_zero, List.set_cons_succ]
  refine Ex_eqI (rowI_self (a := M + 6)).symm ?_
  have hLb := lc_le (a := (layF g u)) (b := (layF g v)) (m := m) (n := n) m n
  refine l9_lays2 d hM g hgJ u v m n hu hv hm1 hm hn1 hn ha hL ?_ (lcR (layF g u) (layF g v) m n m n) 0 _ (by omega) (fun x hx => absurd hx (Nat.not_lt_zero x))
  intro f hf
  refine Ex_iload dX9_laysCommon_16 rfl ?_
  refine Ex_iload_n dX9_laysCommon_18 rfl ?_
  refine Ex_icmp_geN (by omega) (by omega) (tgt := 143) dX9_laysCommon_19 (by decide) (fun h19 => ?_) (fun h19 => ?_)
  · refine Ex_iload_n dX9_laysCommon_143 rfl ?_
    refine Ex_iret dX9_laysCommon_144 (by first | rfl | exact narrow_bI) ?_
    exact ⟨_, rfl, rfl, (fun x hx => by rw [rowI_s]; exact hf x hx), (hF1.mono (fun a h => Or.inl h)).trans (Fr.row (Or.inr rfl)), rfl⟩
  · omega
def lcG (g : Nat → Int32) (u v : Nat) : Nat := lcR (layF g u) (layF g v) (mN g u) (mN g v) (mN g u) (mN g v)
def cmG (g : Nat → Int32) (u v k : Nat) : Nat := cmE (layF g u) (layF g v) (mN g u) (mN g v) (lcG g u v) k
theorem lcG_le {g : Nat → Int32} (hW : WfG g) {u v : Nat} (hu : u < 8) : lcG g u v ≤ 12 := Nat.le_trans (lc_le _ _) (hW.2.2.1 u hu).2.1
def r_common (g : Nat → Int32) (u v w : Int32) : Int32 := if inR u (nS g) ∧ inR v (nS g) ∧ ¬ u = v ∧ ((-1) ≤ w ∧ w ≤ nI 11) then (if w < 0 then nI (lcG g (cl u) (cl v)) else if cl w < lcG g (cl u) (cl v) then nI (cmG g (cl u) (cl v) (cl w)) else cNONE) else cBAD
def Pc5 (M : Nat) : Nat → Prop := fun a => a = M + 5 ∨ a = M + 6
set_option maxRecDepth 100000 in
set_option maxHeartbeats 4000000 in
theorem C9_common {T : TC} {I : MI} {G : MG} (d : Nat) {M : Nat} (hM : MSh T G M) (hW : WfG (I (M + 1))) (u v w : Int32)  : OkI T mX9_common (d + 3) [.ref M, .int u, .int v, .int w] I G (fun r I' G' => r = r_common (I (M + 1)) u v w ∧ Fr (Pc5 M) I I' ∧ G' = G) := by
  refine Ok_of (own := RX9) (by decide) rfl (cat1 rfl) (Nat.le_of_ble_eq_true rfl) ?_
  show Ex T RX9 cX9_common 5 (d + 3) _ 0 [some (.ref M), some (.int u), some (.int v), some (.int w), none] [] I G (0, 0)
  refine Ex_aload_n dX9_common_0 rfl ?_
  refine Ex_iload_n dX9_common_1 rfl ?_
  refine Ex_V1p dX9_common_2 sX9_119 hM.1 (Nat.le_of_ble_eq_true rfl) (c9_isS (d + 1) hM hW _) ?_
  refine Ex_if_eqB (tgt := 31) dX9_common_5 (by decide) (fun h5 => ?_) (fun h5 => ?_)
  · refine Ex_ldc dX9_common_31 kX9_99 ?_
    refine Ex_iret dX9_common_33 (by first | rfl | exact narrow_bI) ?_
    exact ⟨_, rfl, (by unfold r_common; rw [if_neg (fun q => h5 q.1)]), Fr.refl, rfl⟩
  · refine Ex_aload_n dX9_common_8 rfl ?_
    refine Ex_iload_n dX9_common_9 rfl ?_
    refine Ex_V1p dX9_common_10 sX9_119 hM.1 (Nat.le_of_ble_eq_true rfl) (c9_isS (d + 1) hM hW _) ?_
    refine Ex_if_eqB (tgt := 31) dX9_common_13 (by decide) (fun h13 => ?_) (fun h13 => ?_)
    · refine Ex_ldc dX9_common_31 kX9_99 ?_
      refine Ex_iret dX9_common_33 (by first | rfl | exact narrow_bI) ?_
      exact ⟨_, rfl, (by unfold r_common; rw [if_neg (fun q => h13 q.2.1)]), Fr.refl, rfl⟩
    · refine Ex_iload_n dX9_common_16 rfl ?_
      refine Ex_iload_n dX9_common_17 rfl ?_
      refine Ex_icmp_eq (tgt := 31) dX9_common_18 (by decide) (fun h18 => ?_) (fun h18 => ?_)
      · refine Ex_ldc dX9_common_31 kX9_99 ?_
        refine Ex_iret dX9_common_33 (by first | rfl | exact narrow_bI) ?_
        exact ⟨_, rfl, (by unfold r_common; rw [if_neg (fun q => q.2.2.1 h18)]), Fr.refl, rfl⟩
      · refine Ex_iload_n dX9_common_21 rfl ?_
        refine Ex_iconst (v := (-1)) dX9_common_22 (by rfl) ?_
        refine Ex_bipush (v := nI 11) dX9_common_23 (by rfl) ?_
        refine Ex_S3p dX9_common_25 sX9_91  (Nat.le_of_ble_eq_true rfl) (c9_in (d + 2) _ _ _) ?_
        refine Ex_if_neB (tgt := 34) dX9_common_28 (by decide) (fun h28 => ?_) (fun h28 => ?_)
        · have hn8 := hW.2.1
          obtain ⟨u', hu', eu⟩ := (rng_k (by omega)).mp h5
          have hcu : cl (nI u') = u' := cl_nI (by omega)
          obtain ⟨v', hv', ev⟩ := (rng_k (by omega)).mp h13
          have hcv : cl (nI v') = v' := cl_nI (by omega)
          subst eu; subst ev
          obtain ⟨a1, a2, a3, -⟩ := hW.2.2.1 u' (by omega)
          obtain ⟨b1, b2, -, -⟩ := hW.2.2.1 v' (by omega)
          have hlb := lcG_le hW (u := u') (v := v') (by omega)
          unfold lcG at hlb
          refine Ex_aload_n dX9_common_34 rfl ?_
          refine Ex_iload_n dX9_common_35 rfl ?_
          refine Ex_iload_n dX9_common_36 rfl ?_
          refine Ex_V2i dX9_common_37 sX9_196 hM.1 (Nat.le_of_ble_eq_true rfl) (c9_laysCommon d hM (I (M + 1)) u' v' _ _ rfl (by omega) (by omega) a1 a2 b1 b2 (fun x hx => a3 x hx)) ?_
          rintro r J _ ⟨rfl, hcm, hF, rfl⟩
          refine Ex_istore dX9_common_40 (by decide) rfl ?_
          simp only [List.set_cons_zero, List.set_cons_succ]
          refine Ex_iload_n dX9_common_42 rfl ?_
          refine Ex_if_ge (tgt := 51) dX9_common_43 (by decide) (fun h43 => ?_) (fun h43 => ?_)
          · have hw12 : ∃ w', w' ≤ 11 ∧ w = nI w' := by
              have h0 : (nI 0) ≤ w := h43
              exact (rng_k2 (by omega)).mp ⟨h0, h28.2⟩
            obtain ⟨w', hw', ew⟩ := hw12
            subst ew
            have hcw : cl (nI w') = w' := cl_nI (by omega)
            refine Ex_iload_n dX9_common_51 rfl ?_
            refine Ex_iload dX9_common_52 rfl ?_
            refine Ex_icmp_geN (by omega) (by omega) (tgt := 66) dX9_common_54 (by decide) (fun h54 => ?_) (fun h54 => ?_)
            · refine Ex_ldc dX9_common_66 kX9_133 ?_
              refine Ex_iret dX9_common_68 (by first | rfl | exact narrow_bI) ?_
              exact ⟨_, rfl, (by unfold r_common; rw [if_pos ⟨h5, h13, h18, h28⟩, if_neg (Int32.not_lt.mpr h43), hcu, hcv, hcw, if_neg (show ¬ w' < lcG (I (M + 1)) u' v' from Nat.not_lt.mpr h54)]), hF, rfl⟩
            · refine Ex_aload_n dX9_common_57 rfl ?_
              refine Ex_getr dX9_common_58 fX9_25 hM.1 (mF7 hM).1 ?_
              refine Ex_iload_n dX9_common_61 rfl ?_
              refine Ex_iald dX9_common_62 (mF7 hM).2.1 rfl (by rw [(mF7 hM).2.2]; omega) (by rw [(mF7 hM).2.2]; decide) ?_
              refine Ex_top (show _ = nI (cmG (I (M + 1)) u' v' w') from hcm w' (Nat.not_le.mp h54)) ?_
              refine Ex_goto (tgt := 68) dX9_common_63 (by decide) ?_
              refine Ex_iret dX9_common_68 (by first | rfl | exact narrow_bI) ?_
              exact ⟨_, rfl, (by unfold r_common; rw [if_pos ⟨h5, h13, h18, h28⟩, if_neg (Int32.not_lt.mpr h43), hcu, hcv, hcw, if_pos (show w' < lcG (I (M + 1)) u' v' from Nat.not_le.mp h54)]), hF, rfl⟩
          · refine Ex_iload dX9_common_46 rfl ?_
            refine Ex_goto (tgt := 68) dX9_common_48 (by decide) ?_
            refine Ex_iret dX9_common_68 (by first | rfl | exact narrow_bI) ?_
            exact ⟨_, rfl, (by unfold r_common; rw [if_pos ⟨h5, h13, h18, h28⟩, if_pos (Int32.not_le.mp h43), hcu, hcv]; rfl), hF, rfl⟩
        · refine Ex_ldc dX9_common_31 kX9_99 ?_
          refine Ex_iret dX9_common_33 (by first | rfl | exact narrow_bI) ?_
          exact ⟨_, rfl, (by unfold r_common; rw [if_neg (fun q => h28 q.2.2.2)]), Fr.refl, rfl⟩
def alS (g : Nat → Int32) (st : Int32 × Int32) (u v : Nat) : Int32 × Int32 := if st.2 < nI (lcG g u v) then (nI (10 * u + v), nI (lcG g u v)) else st
def alN (g : Nat → Int32) (u : Nat) (st : Int32 × Int32) : Nat → Int32 × Int32
  | 0 => st
  | k + 1 => alS g (alN g u st k) u (u + 1 + k)
def alO (g : Nat → Int32) (n : Nat) : Nat → Int32 × Int32
  | 0 => ((-1), (-1))
  | u + 1 => alN g u (alO g n u) (n - (u + 1))
def r_alike (g : Nat → Int32) (w : Int32) : Int32 := if inR w 2 then (if (alO g (nS g) (nS g)).1 < 0 then cNONE else if w = 0 then (alO g (nS g) (nS g)).1 else (alO g (nS g) (nS g)).2) else cBAD
def fgS (g : Nat → Int32) (u : Nat) : Nat → Int32
  | 0 => nI 0
  | k + 1 => fgS g u k + (if k = u then nI 0 else nI (lcG g u k))
def fgB (g : Nat → Int32) (n : Nat) : Nat → Int32 × Int32
  | 0 => ((-1), nI 0)
  | u + 1 => if (fgB g n u).1 < 0 ∨ fgS g u n < (fgB g n u).2 then (nI u, fgS g u n) else fgB g n u
def r_forged (g : Nat → Int32) (w : Int32) : Int32 := if inR w 2 then (if nS g < 2 then cNONE else if w = 0 then (fgB g (nS g) (nS g)).1 else (fgB g (nS g) (nS g)).2) else cBAD
set_option maxRecDepth 100000 in
set_option maxHeartbeats 4000000 in
theorem l9_alike1 {T : TC} {I : MI} {G : MG} {F : FinT} {b : Nat × Nat} (d : Nat) {M : Nat} (hM : MSh T G M) (g : Nat → Int32) (hW : WfG g) (n : Nat) (hn1 : g 1 = nI n) (hn8 : n ≤ 8) (w : Int32) (u : Nat) (hu : u < n) (st : Int32 × Int32) (kx : ∀ J, J (M + 1) = g → Fr (fun a => a = M + 5) I J → Ex T RX9 cX9_alike 7 (d + 2) F 36 [some (.ref M), some (.int w), some (.int (alN g u st (n - (u + 1))).1), some (.int (alN g u st (n - (u + 1))).2), some (.int (nI u)), some (.int (nI n)), none] [] J G b) : ∀ t k J, k + t = n - (u + 1) → J (M + 1) = g → Fr (fun a => a = M + 5) I J → Ex T RX9 cX9_alike 7 (d + 2) F 36 [some (.ref M), some (.int w), some (.int (alN g u st k).1), some (.int (alN g u st k).2), some (.int (nI u)), some (.int (nI (u + 1 + k))), none] [] J G b := by
  intro t
  induction t with
  | zero => intro k J h0 h1 h2; have e0 : k = n - (u + 1) := by omega
            subst e0
            have key := kx J h1 h2
            rw [show u + 1 + (n - (u + 1)) = n by omega]
            exact key
  | succ t ih =>
    intro k J h0 h1 h2
    obtain ⟨a1, a2, a3, -⟩ := hW.2.2.1 u (by omega)
    obtain ⟨b1, b2, -, -⟩ := hW.2.2.1 (u + 1 + k) (by omega)
    generalize hst : alN g u st k = sk at *
    refine Ex_iload dX9_alike_36 rfl ?_
    refine Ex_aload_n dX9_alike_38 rfl ?_
    refine Ex_getr dX9_alike_39 fX9_9 hM.1 (mF0 hM).1 ?_
    refine Ex_iconst (v := nI 1) dX9_alike_42 (by rfl) ?_
    refine Ex_iald dX9_alike_43 (mF0 hM).2.1 rfl (by rw [(mF0 hM).2.2]; omega) (by rw [(mF0 hM).2.2]; decide) ?_
    refine Ex_top (show _ = nI n by rw [h1]; exact hn1) ?_
    refine Ex_icmp_geN (by omega) (by omega) (tgt := 95) dX9_alike_44 (by decide) (fun h44 => ?_) (fun h44 => ?_)
    · omega
    · refine Ex_aload_n dX9_alike_47 rfl ?_
      refine Ex_iload dX9_alike_48 rfl ?_
      refine Ex_iload dX9_alike_50 rfl ?_
      refine Ex_V2i dX9_alike_52 sX9_190 hM.1 (Nat.le_of_ble_eq_true rfl) (c9_commonOf d hM u (u + 1 + k) (mN g u) (mN g (u + 1 + k)) (by omega) (by omega) (by rw [h1]; exact a1) a2 (by rw [h1]; exact b1) b2) ?_
      rintro r J2 _ ⟨rfl, -, hF2, rfl⟩
      refine Ex_top (show _ = nI (lcG g u (u + 1 + k)) by rw [h1]; rfl) ?_
      refine Ex_istore dX9_alike_55 (by decide) rfl ?_
      simp only [List.set_cons_zero, List.set_cons_succ]
      refine Ex_iload dX9_alike_57 rfl ?_
      refine Ex_iload_n dX9_alike_59 rfl ?_
      refine Ex_icmp_le (tgt := 74) dX9_alike_60 (by decide) (fun h60 => ?_) (fun h60 => ?_)
      · refine Ex_iload_n dX9_alike_74 rfl ?_
        refine Ex_istore_n dX9_alike_75 (by decide) rfl ?_
        simp only [st_n0, st_n1, st_n2, st_n3, List.set_cons_zero, List.set_cons_succ]
        refine Ex_iload dX9_alike_76 rfl ?_
        refine Ex_iload_n dX9_alike_78 rfl ?_
        refine Ex_icmp_le (tgt := 87) dX9_alike_79 (by decide) (fun h79 => ?_) (fun h79 => ?_)
        · refine Ex_iload_n dX9_alike_87 rfl ?_
          refine Ex_istore_n dX9_alike_88 (by decide) rfl ?_
          simp only [st_n0, st_n1, st_n2, st_n3, List.set_cons_zero, List.set_cons_succ]
          first | refine Ex_iincN (m := 1) dX9_alike_89 rfl rfl (by decide) rfl ?_ | refine Ex_iinc dX9_alike_89 rfl rfl (by decide) rfl ?_
          simp only [List.set_cons_zero, List.set_cons_succ]
          refine Ex_goto (tgt := 36) dX9_alike_92 (by decide) ?_
          refine Ex_drop 6 ?_
          simp only [st_n0, st_n1, st_n2, st_n3, List.set_cons_zero, List.set_cons_succ]
          have es : alN g u st (k + 1) = sk := by
            show alS g (alN g u st k) u (u + 1 + k) = _
            unfold alS
            rw [hst, if_neg (Int32.not_lt.mpr h60)]
          have key := ih (k + 1) J2 (by omega) (by rw [hF2 _ (by omega)]; exact h1) (h2.trans hF2)
          rw [es] at key
          exact key
        · exact absurd h60 h79
      · refine Ex_bipush (v := nI 10) dX9_alike_63 (by rfl) ?_
        refine Ex_iload dX9_alike_65 rfl ?_
        first | with_reducible refine Ex_imulN dX9_alike_67 ?_ | refine Ex_imul dX9_alike_67 ?_
        refine Ex_iload dX9_alike_68 rfl ?_
        first | with_reducible refine Ex_iaddN dX9_alike_70 ?_ | refine Ex_iadd dX9_alike_70 ?_
        refine Ex_goto (tgt := 75) dX9_alike_71 (by decide) ?_
        refine Ex_istore_n dX9_alike_75 (by decide) rfl ?_
        simp only [st_n0, st_n1, st_n2, st_n3, List.set_cons_zero, List.set_cons_succ]
        refine Ex_iload dX9_alike_76 rfl ?_
        refine Ex_iload_n dX9_alike_78 rfl ?_
        refine Ex_icmp_le (tgt := 87) dX9_alike_79 (by decide) (fun h79 => ?_) (fun h79 => ?_)
        · exact absurd h79 h60
        · refine Ex_iload dX9_alike_82 rfl ?_
          refine Ex_goto (tgt := 88) dX9_alike_84 (by decide) ?_
          refine Ex_istore_n dX9_alike_88 (by decide) rfl ?_
          simp only [st_n0, st_n1, st_n2, st_n3, List.set_cons_zero, List.set_cons_succ]
          first | refine Ex_iincN (m := 1) dX9_alike_89 rfl rfl (by decide) rfl ?_ | refine Ex_iinc dX9_alike_89 rfl rfl (by decide) rfl ?_
          simp only [List.set_cons_zero, List.set_cons_succ]
          refine Ex_goto (tgt := 36) dX9_alike_92 (by decide) ?_
          refine Ex_drop 6 ?_
          simp only [st_n0, st_n1, st_n2, st_n3, List.set_cons_zero, List.set_cons_succ]
          have es : alN g u st (k + 1) = (nI (10 * u + (u + 1 + k)), nI (lcG g u (u + 1 + k))) := by
            show alS g (alN g u st k) u (u + 1 + k) = _
            unfold alS
            rw [hst, if_pos (Int32.not_le.mp h60)]
          have key := ih (k + 1) J2 (by omega) (by rw [hF2 _ (by omega)]; exact h1) (h2.trans hF2)
          rw [es] at key
          exact key
set_option maxRecDepth 100000 in
set_option maxHeartbeats 4000000 in
theorem l9_alike2 {T : TC} {I : MI} {G : MG} {F : FinT} {b : Nat × Nat} (d : Nat) {M : Nat} (hM : MSh T G M) (g : Nat → Int32) (hW : WfG g) (n : Nat) (hn1 : g 1 = nI n) (hn8 : n ≤ 8) (w : Int32) (kx : ∀ J, J (M + 1) = g → Fr (fun a => a = M + 5) I J → Ex T RX9 cX9_alike 7 (d + 2) F 19 [some (.ref M), some (.int w), some (.int (alO g n n).1), some (.int (alO g n n).2), some (.int (nI n)), none, none] [] J G b) : ∀ t u J, u + t = n → J (M + 1) = g → Fr (fun a => a = M + 5) I J → Ex T RX9 cX9_alike 7 (d + 2) F 19 [some (.ref M), some (.int w), some (.int (alO g n u).1), some (.int (alO g n u).2), some (.int (nI u)), none, none] [] J G b := by
  intro t
  induction t with
  | zero => intro u J h0 h1 h2; have e0 : u = n := by omega
            subst e0; exact kx J h1 h2
  | succ t ih =>
    intro u J h0 h1 h2
    refine Ex_iload dX9_alike_19 rfl ?_
    refine Ex_aload_n dX9_alike_21 rfl ?_
    refine Ex_getr dX9_alike_22 fX9_9 hM.1 (mF0 hM).1 ?_
    refine Ex_iconst (v := nI 1) dX9_alike_25 (by rfl) ?_
    refine Ex_iald dX9_alike_26 (mF0 hM).2.1 rfl (by rw [(mF0 hM).2.2]; omega) (by rw [(mF0 hM).2.2]; decide) ?_
    refine Ex_top (show _ = nI n by rw [h1]; exact hn1) ?_
    refine Ex_icmp_geN (by omega) (by omega) (tgt := 101) dX9_alike_27 (by decide) (fun h27 => ?_) (fun h27 => ?_)
    · omega
    · refine Ex_iload dX9_alike_30 rfl ?_
      refine Ex_iconst (v := nI 1) dX9_alike_32 (by rfl) ?_
      first | with_reducible refine Ex_iaddN dX9_alike_33 ?_ | refine Ex_iadd dX9_alike_33 ?_
      refine Ex_istore dX9_alike_34 (by decide) rfl ?_
      simp only [List.set_cons_zero, List.set_cons_succ]
      refine l9_alike1 d hM g hW n hn1 hn8 w u (by omega) (alO g n u) ?_ (n - (u + 1)) 0 J (by omega) h1 Fr.refl
      intro J2 g1 g2
      refine Ex_iload dX9_alike_36 rfl ?_
      refine Ex_aload_n dX9_alike_38 rfl ?_
      refine Ex_getr dX9_alike_39 fX9_9 hM.1 (mF0 hM).1 ?_
      refine Ex_iconst (v := nI 1) dX9_alike_42 (by rfl) ?_
      refine Ex_iald dX9_alike_43 (mF0 hM).2.1 rfl (by rw [(mF0 hM).2.2]; omega) (by rw [(mF0 hM).2.2]; decide) ?_
      refine Ex_top (show _ = nI n by rw [g1]; exact hn1) ?_
      refine Ex_icmp_geN (by omega) (by omega) (tgt := 95) dX9_alike_44 (by decide) (fun h44 => ?_) (fun h44 => ?_)
      · first | refine Ex_iincN (m := 1) dX9_alike_95 rfl rfl (by decide) rfl ?_ | refine Ex_iinc dX9_alike_95 rfl rfl (by decide) rfl ?_
        simp only [List.set_cons_zero, List.set_cons_succ]
        refine Ex_goto (tgt := 19) dX9_alike_98 (by decide) ?_
        refine Ex_drop 5 ?_
        simp only [st_n0, st_n1, st_n2, st_n3, List.set_cons_zero, List.set_cons_succ]
        exact ih (u + 1) J2 (by omega) g1 (h2.trans g2)
      · omega
set_option maxRecDepth 100000 in
set_option maxHeartbeats 4000000 in
theorem C9_alike {T : TC} {I : MI} {G : MG} (d : Nat) {M : Nat} (hM : MSh T G M) (hW : WfG (I (M + 1))) (w : Int32)  : OkI T mX9_alike (d + 2) [.ref M, .int w] I G (fun r I' G' => r = r_alike (I (M + 1)) w ∧ Fr (Pc5 M) I I' ∧ G' = G) := by
  refine Ok_of (own := RX9) (by decide) rfl (cat1 rfl) (Nat.le_of_ble_eq_true rfl) ?_
  show Ex T RX9 cX9_alike 7 (d + 2) _ 0 [some (.ref M), some (.int w), none, none, none, none, none] [] I G (0, 0)
  refine Ex_iload_n dX9_alike_0 rfl ?_
  refine Ex_iconst (v := nI 0) dX9_alike_1 (by rfl) ?_
  refine Ex_iconst (v := nI 1) dX9_alike_2 (by rfl) ?_
  refine Ex_S3p dX9_alike_3 sX9_91  (Nat.le_of_ble_eq_true rfl) (c9_inR (d + 1) _ 1 (by omega)) ?_
  refine Ex_if_neB (tgt := 12) dX9_alike_6 (by decide) (fun h6 => ?_) (fun h6 => ?_)
  · refine Ex_iconst (v := (-1)) dX9_alike_12 (by rfl) ?_
    refine Ex_istore_n dX9_alike_13 (by decide) rfl ?_
    simp only [st_n0, st_n1, st_n2, st_n3, List.set_cons_zero, List.set_cons_succ]
    refine Ex_iconst (v := (-1)) dX9_alike_14 (by rfl) ?_
    refine Ex_istore_n dX9_alike_15 (by decide) rfl ?_
    simp only [st_n0, st_n1, st_n2, st_n3, List.set_cons_zero, List.set_cons_succ]
    refine Ex_iconst (v := nI 0) dX9_alike_16 (by rfl) ?_
    refine Ex_istore dX9_alike_17 (by decide) rfl ?_
    simp only [List.set_cons_zero, List.set_cons_succ]
    have hn8 := hW.2.1
    refine l9_alike2 d hM (I (M + 1)) hW (nS (I (M + 1))) hW.1 hn8 w ?_ (nS (I (M + 1))) 0 I (by omega) rfl Fr.refl
    intro J g1 g2
    refine Ex_iload dX9_alike_19 rfl ?_
    refine Ex_aload_n dX9_alike_21 rfl ?_
    refine Ex_getr dX9_alike_22 fX9_9 hM.1 (mF0 hM).1 ?_
    refine Ex_iconst (v := nI 1) dX9_alike_25 (by rfl) ?_
    refine Ex_iald dX9_alike_26 (mF0 hM).2.1 rfl (by rw [(mF0 hM).2.2]; omega) (by rw [(mF0 hM).2.2]; decide) ?_
    refine Ex_top (show _ = nI (nS (I (M + 1))) by rw [g1]; exact hW.1) ?_
    refine Ex_icmp_geN (by omega) (by omega) (tgt := 101) dX9_alike_27 (by decide) (fun h27 => ?_) (fun h27 => ?_)
    · refine Ex_iload_n dX9_alike_101 rfl ?_
      refine Ex_if_ge (tgt := 110) dX9_alike_102 (by decide) (fun h102 => ?_) (fun h102 => ?_)
      · refine Ex_iload_n dX9_alike_110 rfl ?_
        refine Ex_if_ne (tgt := 118) dX9_alike_111 (by decide) (fun h111 => ?_) (fun h111 => ?_)
        · refine Ex_iload_n dX9_alike_118 rfl ?_
          refine Ex_iret dX9_alike_119 (by first | rfl | exact narrow_bI) ?_
          exact ⟨_, rfl, (by unfold r_alike; rw [if_pos h6, if_neg (Int32.not_lt.mpr h102), if_neg h111]), g2.mono (fun a h => Or.inl h), rfl⟩
        · refine Ex_iload_n dX9_alike_114 rfl ?_
          refine Ex_goto (tgt := 119) dX9_alike_115 (by decide) ?_
          refine Ex_iret dX9_alike_119 (by first | rfl | exact narrow_bI) ?_
          exact ⟨_, rfl, (by unfold r_alike; rw [if_pos h6, if_neg (Int32.not_lt.mpr h102), if_pos h111]), g2.mono (fun a h => Or.inl h), rfl⟩
      · refine Ex_ldc dX9_alike_105 kX9_133 ?_
        refine Ex_goto (tgt := 119) dX9_alike_107 (by decide) ?_
        refine Ex_iret dX9_alike_119 (by first | rfl | exact narrow_bI) ?_
        exact ⟨_, rfl, (by unfold r_alike; rw [if_pos h6, if_pos (Int32.not_le.mp h102)]), g2.mono (fun a h => Or.inl h), rfl⟩
    · omega
  · refine Ex_ldc dX9_alike_9 kX9_99 ?_
    refine Ex_iret dX9_alike_11 (by first | rfl | exact narrow_bI) ?_
    exact ⟨_, rfl, (by unfold r_alike; rw [if_neg h6]), Fr.refl, rfl⟩
set_option maxRecDepth 100000 in
set_option maxHeartbeats 4000000 in
theorem l9_forged1 {T : TC} {I : MI} {G : MG} {F : FinT} {b : Nat × Nat} (d : Nat) {M : Nat} (hM : MSh T G M) (g : Nat → Int32) (hW : WfG g) (n : Nat) (hn1 : g 1 = nI n) (hn8 : n ≤ 8) (w : Int32) (u : Nat) (hu : u < n) (st : Int32 × Int32) (kx : ∀ J, J (M + 1) = g → Fr (fun a => a = M + 5) I J → Ex T RX9 cX9_forged 7 (d + 2) F 36 [some (.ref M), some (.int w), some (.int st.1), some (.int st.2), some (.int (nI u)), some (.int (fgS g u n)), some (.int (nI n))] [] J G b) : ∀ t k J, k + t = n → J (M + 1) = g → Fr (fun a => a = M + 5) I J → Ex T RX9 cX9_forged 7 (d + 2) F 36 [some (.ref M), some (.int w), some (.int st.1), some (.int st.2), some (.int (nI u)), some (.int (fgS g u k)), some (.int (nI k))] [] J G b := by
  intro t
  induction t with
  | zero => intro k J h0 h1 h2; have e0 : k = n := by omega
            subst e0; exact kx J h1 h2
  | succ t ih =>
    intro k J h0 h1 h2
    obtain ⟨a1, a2, a3, -⟩ := hW.2.2.1 u (by omega)
    obtain ⟨b1, b2, -, -⟩ := hW.2.2.1 k (by omega)
    refine Ex_iload dX9_forged_36 rfl ?_
    refine Ex_aload_n dX9_forged_38 rfl ?_
    refine Ex_getr dX9_forged_39 fX9_9 hM.1 (mF0 hM).1 ?_
    refine Ex_iconst (v := nI 1) dX9_forged_42 (by rfl) ?_
    refine Ex_iald dX9_forged_43 (mF0 hM).2.1 rfl (by rw [(mF0 hM).2.2]; omega) (by rw [(mF0 hM).2.2]; decide) ?_
    refine Ex_top (show _ = nI n by rw [h1]; exact hn1) ?_
    refine Ex_icmp_geN (by omega) (by omega) (tgt := 77) dX9_forged_44 (by decide) (fun h44 => ?_) (fun h44 => ?_)
    · omega
    · refine Ex_iload dX9_forged_47 rfl ?_
      refine Ex_iload dX9_forged_49 rfl ?_
      refine Ex_iload dX9_forged_51 rfl ?_
      refine Ex_icmp_neN (by omega) (by omega) (tgt := 60) dX9_forged_53 (by decide) (fun h53 => ?_) (fun h53 => ?_)
      · refine Ex_aload_n dX9_forged_60 rfl ?_
        refine Ex_iload dX9_forged_61 rfl ?_
        refine Ex_iload dX9_forged_63 rfl ?_
        refine Ex_V2i dX9_forged_65 sX9_190 hM.1 (Nat.le_of_ble_eq_true rfl) (c9_commonOf d hM u k (mN g u) (mN g k) (by omega) (by omega) (by rw [h1]; exact a1) a2 (by rw [h1]; exact b1) b2) ?_
        rintro r J2 _ ⟨rfl, -, hF2, rfl⟩
        refine Ex_top (show _ = nI (lcG g u k) by rw [h1]; rfl) ?_
        first | with_reducible refine Ex_iaddN dX9_forged_68 ?_ | refine Ex_iadd dX9_forged_68 ?_
        refine Ex_istore dX9_forged_69 (by decide) rfl ?_
        simp only [List.set_cons_zero, List.set_cons_succ]
        first | refine Ex_iincN (m := 1) dX9_forged_71 rfl rfl (by decide) rfl ?_ | refine Ex_iinc dX9_forged_71 rfl rfl (by decide) rfl ?_
        simp only [List.set_cons_zero, List.set_cons_succ]
        refine Ex_goto (tgt := 36) dX9_forged_74 (by decide) ?_
        have es : fgS g u (k + 1) = fgS g u k + nI (lcG g u k) := by show fgS g u k + _ = _; rw [if_neg h53]
        have key := ih (k + 1) J2 (by omega) (by rw [hF2 _ (by omega)]; exact h1) (h2.trans hF2)
        rw [es] at key
        exact key
      · refine Ex_iconst (v := nI 0) dX9_forged_56 (by rfl) ?_
        refine Ex_goto (tgt := 68) dX9_forged_57 (by decide) ?_
        first | with_reducible refine Ex_iaddN dX9_forged_68 ?_ | refine Ex_iadd dX9_forged_68 ?_
        refine Ex_istore dX9_forged_69 (by decide) rfl ?_
        simp only [List.set_cons_zero, List.set_cons_succ]
        first | refine Ex_iincN (m := 1) dX9_forged_71 rfl rfl (by decide) rfl ?_ | refine Ex_iinc dX9_forged_71 rfl rfl (by decide) rfl ?_
        simp only [List.set_cons_zero, List.set_cons_succ]
        refine Ex_goto (tgt := 36) dX9_forged_74 (by decide) ?_
        have es : fgS g u (k + 1) = fgS g u k + nI 0 := by show fgS g u k + _ = _; rw [if_pos h53]
        have key := ih (k + 1) J (by omega) h1 h2
        rw [es] at key
        exact key
set_option maxRecDepth 100000 in
set_option maxHeartbeats 4000000 in
theorem l9_forged2 {T : TC} {I : MI} {G : MG} {F : FinT} {b : Nat × Nat} (d : Nat) {M : Nat} (hM : MSh T G M) (g : Nat → Int32) (hW : WfG g) (n : Nat) (hn1 : g 1 = nI n) (hn8 : n ≤ 8) (w : Int32) (kx : ∀ J, J (M + 1) = g → Fr (fun a => a = M + 5) I J → Ex T RX9 cX9_forged 7 (d + 2) F 19 [some (.ref M), some (.int w), some (.int (fgB g n n).1), some (.int (fgB g n n).2), some (.int (nI n)), none, none] [] J G b) : ∀ t u J, u + t = n → J (M + 1) = g → Fr (fun a => a = M + 5) I J → Ex T RX9 cX9_forged 7 (d + 2) F 19 [some (.ref M), some (.int w), some (.int (fgB g n u).1), some (.int (fgB g n u).2), some (.int (nI u)), none, none] [] J G b := by
  intro t
  induction t with
  | zero => intro u J h0 h1 h2; have e0 : u = n := by omega
            subst e0; exact kx J h1 h2
  | succ t ih =>
    intro u J h0 h1 h2
    have es : fgB g n (u + 1) = if (fgB g n u).1 < 0 ∨ fgS g u n < (fgB g n u).2 then (nI u, fgS g u n) else fgB g n u := rfl
    refine Ex_iload dX9_forged_19 rfl ?_
    refine Ex_aload_n dX9_forged_21 rfl ?_
    refine Ex_getr dX9_forged_22 fX9_9 hM.1 (mF0 hM).1 ?_
    refine Ex_iconst (v := nI 1) dX9_forged_25 (by rfl) ?_
    refine Ex_iald dX9_forged_26 (mF0 hM).2.1 rfl (by rw [(mF0 hM).2.2]; omega) (by rw [(mF0 hM).2.2]; decide) ?_
    refine Ex_top (show _ = nI n by rw [h1]; exact hn1) ?_
    refine Ex_icmp_geN (by omega) (by omega) (tgt := 99) dX9_forged_27 (by decide) (fun h27 => ?_) (fun h27 => ?_)
    · omega
    · refine Ex_iconst (v := nI 0) dX9_forged_30 (by rfl) ?_
      refine Ex_istore dX9_forged_31 (by decide) rfl ?_
      simp only [List.set_cons_zero, List.set_cons_succ]
      refine Ex_iconst (v := nI 0) dX9_forged_33 (by rfl) ?_
      refine Ex_istore dX9_forged_34 (by decide) rfl ?_
      simp only [List.set_cons_zero, List.set_cons_succ]
      refine l9_forged1 d hM g hW n hn1 hn8 w u (by omega) (fgB g n u) ?_ n 0 J (by omega) h1 Fr.refl
      intro J2 g1 g2
      refine Ex_iload dX9_forged_36 rfl ?_
      refine Ex_aload_n dX9_forged_38 rfl ?_
      refine Ex_getr dX9_forged_39 fX9_9 hM.1 (mF0 hM).1 ?_
      refine Ex_iconst (v := nI 1) dX9_forged_42 (by rfl) ?_
      refine Ex_iald dX9_forged_43 (mF0 hM).2.1 rfl (by rw [(mF0 hM).2.2]; omega) (by rw [(mF0 hM).2.2]; decide) ?_
      refine Ex_top (show _ = nI n by rw [g1]; exact hn1) ?_
      refine Ex_icmp_geN (by omega) (by omega) (tgt := 77) dX9_forged_44 (by decide) (fun h44 => ?_) (fun h44 => ?_)
      · refine Ex_iload_n dX9_forged_77 rfl ?_
        refine Ex_if_lt (tgt := 87) dX9_forged_78 (by decide) (fun h78 => ?_) (fun h78 => ?_)
        · refine Ex_iload dX9_forged_87 rfl ?_
          refine Ex_istore_n dX9_forged_89 (by decide) rfl ?_
          simp only [st_n0, st_n1, st_n2, st_n3, List.set_cons_zero, List.set_cons_succ]
          refine Ex_iload dX9_forged_90 rfl ?_
          refine Ex_istore_n dX9_forged_92 (by decide) rfl ?_
          simp only [st_n0, st_n1, st_n2, st_n3, List.set_cons_zero, List.set_cons_succ]
          first | refine Ex_iincN (m := 1) dX9_forged_93 rfl rfl (by decide) rfl ?_ | refine Ex_iinc dX9_forged_93 rfl rfl (by decide) rfl ?_
          simp only [List.set_cons_zero, List.set_cons_succ]
          refine Ex_goto (tgt := 19) dX9_forged_96 (by decide) ?_
          refine Ex_drop 5 ?_
          refine Ex_drop 6 ?_
          simp only [st_n0, st_n1, st_n2, st_n3, List.set_cons_zero, List.set_cons_succ]
          have key := ih (u + 1) J2 (by omega) g1 (h2.trans g2)
          rw [es, if_pos (Or.inl h78)] at key
          exact key
        · refine Ex_iload dX9_forged_81 rfl ?_
          refine Ex_iload_n dX9_forged_83 rfl ?_
          refine Ex_icmp_ge (tgt := 93) dX9_forged_84 (by decide) (fun h84 => ?_) (fun h84 => ?_)
          · first | refine Ex_iincN (m := 1) dX9_forged_93 rfl rfl (by decide) rfl ?_ | refine Ex_iinc dX9_forged_93 rfl rfl (by decide) rfl ?_
            simp only [List.set_cons_zero, List.set_cons_succ]
            refine Ex_goto (tgt := 19) dX9_forged_96 (by decide) ?_
            refine Ex_drop 5 ?_
            refine Ex_drop 6 ?_
            simp only [st_n0, st_n1, st_n2, st_n3, List.set_cons_zero, List.set_cons_succ]
            have key := ih (u + 1) J2 (by omega) g1 (h2.trans g2)
            rw [es, if_neg (fun q => q.elim h78 (fun w => absurd w (Int32.not_lt.mpr h84)))] at key
            exact key
          · refine Ex_iload dX9_forged_87 rfl ?_
            refine Ex_istore_n dX9_forged_89 (by decide) rfl ?_
            simp only [st_n0, st_n1, st_n2, st_n3, List.set_cons_zero, List.set_cons_succ]
            refine Ex_iload dX9_forged_90 rfl ?_
            refine Ex_istore_n dX9_forged_92 (by decide) rfl ?_
            simp only [st_n0, st_n1, st_n2, st_n3, List.set_cons_zero, List.set_cons_succ]
            first | refine Ex_iincN (m := 1) dX9_forged_93 rfl rfl (by decide) rfl ?_ | refine Ex_iinc dX9_forged_93 rfl rfl (by decide) rfl ?_
            simp only [List.set_cons_zero, List.set_cons_succ]
            refine Ex_goto (tgt := 19) dX9_forged_96 (by decide) ?_
            refine Ex_drop 5 ?_
            refine Ex_drop 6 ?_
            simp only [st_n0, st_n1, st_n2, st_n3, List.set_cons_zero, List.set_cons_succ]
            have key := ih (u + 1) J2 (by omega) g1 (h2.trans g2)
            rw [es, if_pos (Or.inr (Int32.not_le.mp h84))] at key
            exact key
      · omega
set_option maxRecDepth 100000 in
set_option maxHeartbeats 4000000 in
theorem C9_forged {T : TC} {I : MI} {G : MG} (d : Nat) {M : Nat} (hM : MSh T G M) (hW : WfG (I (M + 1))) (w : Int32)  : OkI T mX9_forged (d + 2) [.ref M, .int w] I G (fun r I' G' => r = r_forged (I (M + 1)) w ∧ Fr (Pc5 M) I I' ∧ G' = G) := by
  refine Ok_of (own := RX9) (by decide) rfl (cat1 rfl) (Nat.le_of_ble_eq_true rfl) ?_
  show Ex T RX9 cX9_forged 7 (d + 2) _ 0 [some (.ref M), some (.int w), none, none, none, none, none] [] I G (0, 0)
  refine Ex_iload_n dX9_forged_0 rfl ?_
  refine Ex_iconst (v := nI 0) dX9_forged_1 (by rfl) ?_
  refine Ex_iconst (v := nI 1) dX9_forged_2 (by rfl) ?_
  refine Ex_S3p dX9_forged_3 sX9_91  (Nat.le_of_ble_eq_true rfl) (c9_inR (d + 1) _ 1 (by omega)) ?_
  refine Ex_if_neB (tgt := 12) dX9_forged_6 (by decide) (fun h6 => ?_) (fun h6 => ?_)
  · refine Ex_iconst (v := (-1)) dX9_forged_12 (by rfl) ?_
    refine Ex_istore_n dX9_forged_13 (by decide) rfl ?_
    simp only [st_n0, st_n1, st_n2, st_n3, List.set_cons_zero, List.set_cons_succ]
    refine Ex_iconst (v := nI 0) dX9_forged_14 (by rfl) ?_
    refine Ex_istore_n dX9_forged_15 (by decide) rfl ?_
    simp only [st_n0, st_n1, st_n2, st_n3, List.set_cons_zero, List.set_cons_succ]
    refine Ex_iconst (v := nI 0) dX9_forged_16 (by rfl) ?_
    refine Ex_istore dX9_forged_17 (by decide) rfl ?_
    simp only [List.set_cons_zero, List.set_cons_succ]
    have hn8 := hW.2.1
    refine l9_forged2 d hM (I (M + 1)) hW (nS (I (M + 1))) hW.1 hn8 w ?_ (nS (I (M + 1))) 0 I (by omega) rfl Fr.refl
    intro J g1 g2
    refine Ex_iload dX9_forged_19 rfl ?_
    refine Ex_aload_n dX9_forged_21 rfl ?_
    refine Ex_getr dX9_forged_22 fX9_9 hM.1 (mF0 hM).1 ?_
    refine Ex_iconst (v := nI 1) dX9_forged_25 (by rfl) ?_
    refine Ex_iald dX9_forged_26 (mF0 hM).2.1 rfl (by rw [(mF0 hM).2.2]; omega) (by rw [(mF0 hM).2.2]; decide) ?_
    refine Ex_top (show _ = nI (nS (I (M + 1))) by rw [g1]; exact hW.1) ?_
    refine Ex_icmp_geN (by omega) (by omega) (tgt := 99) dX9_forged_27 (by decide) (fun h27 => ?_) (fun h27 => ?_)
    · refine Ex_aload_n dX9_forged_99 rfl ?_
      refine Ex_getr dX9_forged_100 fX9_9 hM.1 (mF0 hM).1 ?_
      refine Ex_iconst (v := nI 1) dX9_forged_103 (by rfl) ?_
      refine Ex_iald dX9_forged_104 (mF0 hM).2.1 rfl (by rw [(mF0 hM).2.2]; omega) (by rw [(mF0 hM).2.2]; decide) ?_
      refine Ex_top (show _ = nI (nS (I (M + 1))) by rw [g1]; exact hW.1) ?_
      refine Ex_iconst (v := nI 2) dX9_forged_105 (by rfl) ?_
      refine Ex_icmp_geN (by omega) (by omega) (tgt := 114) dX9_forged_106 (by decide) (fun h106 => ?_) (fun h106 => ?_)
      · refine Ex_iload_n dX9_forged_114 rfl ?_
        refine Ex_if_ne (tgt := 122) dX9_forged_115 (by decide) (fun h115 => ?_) (fun h115 => ?_)
        · refine Ex_iload_n dX9_forged_122 rfl ?_
          refine Ex_iret dX9_forged_123 (by first | rfl | exact narrow_bI) ?_
          exact ⟨_, rfl, (by unfold r_forged; rw [if_pos h6, if_neg (by omega), if_neg h115]), g2.mono (fun a h => Or.inl h), rfl⟩
        · refine Ex_iload_n dX9_forged_118 rfl ?_
          refine Ex_goto (tgt := 123) dX9_forged_119 (by decide) ?_
          refine Ex_iret dX9_forged_123 (by first | rfl | exact narrow_bI) ?_
          exact ⟨_, rfl, (by unfold r_forged; rw [if_pos h6, if_neg (by omega), if_pos h115]), g2.mono (fun a h => Or.inl h), rfl⟩
      · refine Ex_ldc dX9_forged_109 kX9_133 ?_
        refine Ex_goto (tgt := 123) dX9_forged_111 (by decide) ?_
        refine Ex_iret dX9_forged_123 (by first | rfl | exact narrow_bI) ?_
        exact ⟨_, rfl, (by unfold r_forged; rw [if_pos h6, if_pos (by omega)]), g2.mono (fun a h => Or.inl h), rfl⟩
    · omega
  · refine Ex_ldc dX9_forged_9 kX9_99 ?_
    refine Ex_iret dX9_forged_11 (by first | rfl | exact narrow_bI) ?_
    exact ⟨_, rfl, (by unfold r_forged; rw [if_neg h6]), Fr.refl, rfl⟩
