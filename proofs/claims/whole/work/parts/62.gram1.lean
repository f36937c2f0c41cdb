/-! the class: its grammar's small methods -/
/-- the tape as it is read -/
def TpC (I : MI) (D : Nat) (tb : Nat → Nat) (N : Nat) : Prop := N ≤ 96 ∧ I (D + 59) 1 = nI N ∧ ∀ j, j < N → I (D + 59 + 1) j = nI (tb j) ∧ tb j < 256
def GrR (I : MI) (D : Nat) (tb : Nat → Nat) (N : Nat) (ky : Int32) (f : Nat) (q : List Int32) (a : Nat) : Prop := I (D + 61) 2 = nI q.length ∧ I (D + 61) 3 = nI a ∧ I (D + 61) 4 = ky ∧ I (D + 61) 5 = nI f ∧ I (D + 61) 6 = nI (gE tb N f) ∧ I (D + 61) 7 = nI (cT tb N f) ∧ SR (I (D + 62)) (q.map spI)
def PG (D : Nat) : Nat → Prop := fun x => x = D + 61 ∨ x = D + 62
theorem TpC.fr {I J : MI} {D N : Nat} {tb : Nat → Nat} (h : TpC I D tb N) (hF : Fr (PG D) I J) : TpC J D tb N := ⟨h.1, by rw [hF _ (fun q => by unfold PG at q; omega)]; exact h.2.1, fun j hj => by rw [hF (D + 59 + 1) (fun q => by unfold PG at q; omega)]; exact h.2.2 j hj⟩
theorem run_cg {P Q : Nat → Prop} [DecidablePred P] [DecidablePred Q] (h : ∀ k, P k ↔ Q k) : ∀ i k, run P i k = run Q i k
  | 0, _ => rfl
  | i + 1, k => by
    unfold run
    by_cases hp : P k
    · rw [if_pos hp, if_pos ((h k).mp hp)]; exact run_cg h i (k + 1)
    · rw [if_neg hp, if_neg (fun q => hp ((h k).mpr q))]
theorem run_all {P : Nat → Prop} [DecidablePred P] : ∀ i p j, p ≤ j → j < run P i p → P j
  | 0, p, j, h1, h2 => absurd h2 (Nat.not_lt.mpr h1)
  | i + 1, p, j, h1, h2 => by
    unfold run at h2
    by_cases hp : P p
    · rw [if_pos hp] at h2
      by_cases e : j = p
      · rw [e]; exact hp
      · exact run_all i (p + 1) j (by omega) h2
    · rw [if_neg hp] at h2; omega
theorem srt_c3 (b : Nat) : srt b = 1 ∨ srt b = 2 ∨ srt b = 3 := by
  unfold srt
  split
  · exact Or.inl rfl
  · split
    · exact Or.inr (Or.inl rfl)
    · exact Or.inr (Or.inr rfl)
theorem srt_1 {b : Nat} : srt b = 1 ↔ 97 ≤ b ∧ b ≤ 122 := by unfold srt; split <;> (try split) <;> omega
theorem srt_2 {b : Nat} : srt b = 2 ↔ 48 ≤ b ∧ b ≤ 57 := by unfold srt; split <;> (try split) <;> omega
theorem cT_le3 {tb : Nat → Nat} {N : Nat} (f : Nat) : cT tb N f ≤ 3 := by
  unfold cT
  split
  · have := srt_c3 (tb f); omega
  · omega
def g3 (u : Nat → Int32) (s e k : Int32) : Nat → Int32 := fun j => if j = 5 then s else if j = 6 then e else if j = 7 then k else u j
set_option maxRecDepth 100000 in
set_option maxHeartbeats 4000000 in
theorem c0_sortOf {T : TC} {I : MI} {G : MG} (d : Nat) (b : Nat) (hb : b < 256) : OkP T mX0_sortOf (d) [.int (nI b)] I G (nI (srt b)) := by
  refine Ok_of (own := RX0) (by decide) rfl (cat1 rfl) (Nat.le_of_ble_eq_true rfl) ?_
  show Ex T RX0 cX0_sortOf 1 (d) _ 0 [some (.int (nI b))] [] I G (0, 0)
  refine Ex_iload_n dX0_sortOf_0 rfl ?_
  refine Ex_bipush (v := nI 97) dX0_sortOf_1 (by rfl) ?_
  refine Ex_icmp_ltN (by omega) (by omega) (tgt := 14) dX0_sortOf_3 (by decide) (fun h3 => ?_) (fun h3 => ?_)
  · refine Ex_iload_n dX0_sortOf_14 rfl ?_
    refine Ex_bipush (v := nI 48) dX0_sortOf_15 (by rfl) ?_
    refine Ex_icmp_ltN (by omega) (by omega) (tgt := 30) dX0_sortOf_17 (by decide) (fun h17 => ?_) (fun h17 => ?_)
    · refine Ex_iconst (v := nI 3) dX0_sortOf_30 (by rfl) ?_
      refine Ex_iret dX0_sortOf_31 (by first | rfl | exact narrow_bI) ?_
      exact ⟨_, rfl, (by unfold srt; rw [if_neg (fun q => by omega), if_neg (fun q => by omega)]), rfl, rfl⟩
    · refine Ex_iload_n dX0_sortOf_20 rfl ?_
      refine Ex_bipush (v := nI 57) dX0_sortOf_21 (by rfl) ?_
      refine Ex_icmp_gtN (by omega) (by omega) (tgt := 30) dX0_sortOf_23 (by decide) (fun h23 => ?_) (fun h23 => ?_)
      · refine Ex_iconst (v := nI 3) dX0_sortOf_30 (by rfl) ?_
        refine Ex_iret dX0_sortOf_31 (by first | rfl | exact narrow_bI) ?_
        exact ⟨_, rfl, (by unfold srt; rw [if_neg (fun q => by omega), if_neg (fun q => by omega)]), rfl, rfl⟩
      · refine Ex_iconst (v := nI 2) dX0_sortOf_26 (by rfl) ?_
        refine Ex_goto (tgt := 31) dX0_sortOf_27 (by decide) ?_
        refine Ex_iret dX0_sortOf_31 (by first | rfl | exact narrow_bI) ?_
        exact ⟨_, rfl, (by unfold srt; rw [if_neg (fun q => by omega), if_pos ⟨by omega, by omega⟩]), rfl, rfl⟩
  · refine Ex_iload_n dX0_sortOf_6 rfl ?_
    refine Ex_bipush (v := nI 122) dX0_sortOf_7 (by rfl) ?_
    refine Ex_icmp_gtN (by omega) (by omega) (tgt := 14) dX0_sortOf_9 (by decide) (fun h9 => ?_) (fun h9 => ?_)
    · refine Ex_iload_n dX0_sortOf_14 rfl ?_
      refine Ex_bipush (v := nI 48) dX0_sortOf_15 (by rfl) ?_
      refine Ex_icmp_ltN (by omega) (by omega) (tgt := 30) dX0_sortOf_17 (by decide) (fun h17 => ?_) (fun h17 => ?_)
      · refine Ex_iconst (v := nI 3) dX0_sortOf_30 (by rfl) ?_
        refine Ex_iret dX0_sortOf_31 (by first | rfl | exact narrow_bI) ?_
        exact ⟨_, rfl, (by unfold srt; rw [if_neg (fun q => by omega), if_neg (fun q => by omega)]), rfl, rfl⟩
      · refine Ex_iload_n dX0_sortOf_20 rfl ?_
        refine Ex_bipush (v := nI 57) dX0_sortOf_21 (by rfl) ?_
        refine Ex_icmp_gtN (by omega) (by omega) (tgt := 30) dX0_sortOf_23 (by decide) (fun h23 => ?_) (fun h23 => ?_)
        · refine Ex_iconst (v := nI 3) dX0_sortOf_30 (by rfl) ?_
          refine Ex_iret dX0_sortOf_31 (by first | rfl | exact narrow_bI) ?_
          exact ⟨_, rfl, (by unfold srt; rw [if_neg (fun q => by omega), if_neg (fun q => by omega)]), rfl, rfl⟩
        · refine Ex_iconst (v := nI 2) dX0_sortOf_26 (by rfl) ?_
          refine Ex_goto (tgt := 31) dX0_sortOf_27 (by decide) ?_
          refine Ex_iret dX0_sortOf_31 (by first | rfl | exact narrow_bI) ?_
          exact ⟨_, rfl, (by unfold srt; rw [if_neg (fun q => by omega), if_pos ⟨by omega, by omega⟩]), rfl, rfl⟩
    · refine Ex_iconst (v := nI 1) dX0_sortOf_12 (by rfl) ?_
      refine Ex_iret dX0_sortOf_13 (by first | rfl | exact narrow_bI) ?_
      exact ⟨_, rfl, (by unfold srt; rw [if_pos ⟨by omega, by omega⟩]), rfl, rfl⟩
set_option maxRecDepth 100000 in
set_option maxHeartbeats 4000000 in
theorem l0_bl {T : TC} {I : MI} {G : MG} {F : FinT} {bb : Nat × Nat} (d : Nat) {D NN : Nat} (hD : DS T G D NN) {tb : Nat → Nat} {N : Nat} (hT : TpC I D tb N) (R : Nat) (u : Nat → Int32) (hR : R ≤ N) (kx : Ex T RX0 cX0_advance 1 (d + 1) F 52 [some (.ref (D + 61))] [] (rowI I (D + 61) (upd u 5 (nI R))) G bb) : ∀ i k, k + i = N → run (isBl tb N) i k = R → Ex T RX0 cX0_advance 1 (d + 1) F 8 [some (.ref (D + 61))] [] (rowI I (D + 61) (upd u 5 (nI k))) G bb := by
  have h96 := hT.1
  intro i
  induction i with
  | zero =>
    intro k h0 hr
    have e0 : k = N := by omega
    have e1 : k = R := hr
    refine Ex_aload_n dX0_advance_8 rfl ?_
    refine Ex_geti dX0_advance_9 fX0_70 (ds_g hD).1 ?_
    refine Ex_top (show _ = nI k by rw [rowI_s, upd_s]) ?_
    refine Ex_aload_n dX0_advance_12 rfl ?_
    refine Ex_getr dX0_advance_13 fX0_15 (ds_g hD).1 (ds_g hD).2.1 ?_
    refine Ex_geti dX0_advance_16 fX0_124 (ds_tp hD).1 ?_
    refine Ex_top (show _ = nI N by rw [rowI_n (by omega)]; exact hT.2.1) ?_
    refine Ex_icmp_geN (by omega) (by omega) (tgt := 52) dX0_advance_19 (by decide) (fun h19 => ?_) (fun h19 => ?_)
    · rw [e1]; exact kx
    · omega
  | succ i ih =>
    intro k h0 hr
    have hr2 : (if isBl tb N k then run (isBl tb N) i (k + 1) else k) = R := hr
    obtain ⟨hb1, hb2⟩ := hT.2.2 k (by omega)
    refine Ex_aload_n dX0_advance_8 rfl ?_
    refine Ex_geti dX0_advance_9 fX0_70 (ds_g hD).1 ?_
    refine Ex_top (show _ = nI k by rw [rowI_s, upd_s]) ?_
    refine Ex_aload_n dX0_advance_12 rfl ?_
    refine Ex_getr dX0_advance_13 fX0_15 (ds_g hD).1 (ds_g hD).2.1 ?_
    refine Ex_geti dX0_advance_16 fX0_124 (ds_tp hD).1 ?_
    refine Ex_top (show _ = nI N by rw [rowI_n (by omega)]; exact hT.2.1) ?_
    refine Ex_icmp_geN (by omega) (by omega) (tgt := 52) dX0_advance_19 (by decide) (fun h19 => ?_) (fun h19 => ?_)
    · omega
    · refine Ex_aload_n dX0_advance_22 rfl ?_
      refine Ex_getr dX0_advance_23 fX0_15 (ds_g hD).1 (ds_g hD).2.1 ?_
      refine Ex_getr dX0_advance_26 fX0_65 (ds_tp hD).1 (ds_tp hD).2.1 ?_
      refine Ex_aload_n dX0_advance_29 rfl ?_
      refine Ex_geti dX0_advance_30 fX0_70 (ds_g hD).1 ?_
      refine Ex_top (show _ = nI k by rw [rowI_s, upd_s]) ?_
      refine Ex_iald dX0_advance_33 (ds_tp hD).2.2.1 rfl (by rw [(ds_tp hD).2.2.2]; omega) (by rw [(ds_tp hD).2.2.2]; decide) ?_
      refine Ex_top (show _ = nI (tb k) by rw [rowI_n (by omega)]; exact hb1) ?_
      refine Ex_bipush (v := nI 32) dX0_advance_34 (by rfl) ?_
      refine Ex_icmp_neN (by omega) (by omega) (tgt := 52) dX0_advance_36 (by decide) (fun h36 => ?_) (fun h36 => ?_)
      · rw [if_neg (fun q => h36 q.2)] at hr2
        rw [hr2]; exact kx
      · refine Ex_aload_n dX0_advance_39 rfl ?_
        refine Ex_dup dX0_advance_40 rfl ?_
        refine Ex_geti dX0_advance_41 fX0_70 (ds_g hD).1 ?_
        refine Ex_top (show _ = nI k by rw [rowI_s, upd_s]) ?_
        refine Ex_iconst (v := nI 1) dX0_advance_44 (by rfl) ?_
        first | with_reducible refine Ex_iaddN dX0_advance_45 ?_ | refine Ex_iadd dX0_advance_45 ?_
        refine Ex_puti dX0_advance_46 fX0_70 rfl rfl rfl (ds_g hD).1 ?_
        rw [setI_row, rowI_r, rowI_s, show upd (upd u 5 (nI k)) 5 (nI (k + 1)) = upd u 5 (nI (k + 1)) by funext j; by_cases e : j = 5 <;> simp [upd, e]]
        refine Ex_goto (tgt := 8) dX0_advance_49 (by decide) ?_
        exact ih (k + 1) (by omega) (by rw [if_pos ⟨by omega, h36⟩] at hr2; exact hr2)
set_option maxRecDepth 100000 in
set_option maxHeartbeats 4000000 in
theorem l0_wd {T : TC} {I : MI} {G : MG} {F : FinT} {bb : Nat × Nat} (d : Nat) {D NN : Nat} (hD : DS T G D NN) {tb : Nat → Nat} {N : Nat} (hT : TpC I D tb N) (u : Nat → Int32) (f s E : Nat) (hs : s = 1 ∨ s = 2) (kx : Ex T RX0 cX0_advance 1 (d + 1) F 166 [some (.ref (D + 61))] [] (rowI I (D + 61) (g3 u (nI f) (nI E) (nI s))) G bb) : ∀ i k, k + i = N → run (fun k => k < N ∧ srt (tb k) = s) i k = E → Ex T RX0 cX0_advance 1 (d + 1) F 109 [some (.ref (D + 61))] [] (rowI I (D + 61) (g3 u (nI f) (nI k) (nI s))) G bb := by
  have h96 := hT.1
  intro i
  induction i with
  | zero =>
    intro k h0 hr
    have e0 : k = N := by omega
    have e1 : k = E := hr
    refine Ex_aload_n dX0_advance_109 rfl ?_
    refine Ex_geti dX0_advance_110 fX0_43 (ds_g hD).1 ?_
    refine Ex_top (show _ = nI s by rw [rowI_s]; rfl) ?_
    refine Ex_iconst (v := nI 3) dX0_advance_113 (by rfl) ?_
    refine Ex_icmp_eqN (by omega) (by omega) (tgt := 166) dX0_advance_114 (by decide) (fun h114 => ?_) (fun h114 => ?_)
    · omega
    · refine Ex_aload_n dX0_advance_117 rfl ?_
      refine Ex_geti dX0_advance_118 fX0_26 (ds_g hD).1 ?_
      refine Ex_top (show _ = nI k by rw [rowI_s]; rfl) ?_
      refine Ex_aload_n dX0_advance_121 rfl ?_
      refine Ex_getr dX0_advance_122 fX0_15 (ds_g hD).1 (ds_g hD).2.1 ?_
      refine Ex_geti dX0_advance_125 fX0_124 (ds_tp hD).1 ?_
      refine Ex_top (show _ = nI N by rw [rowI_n (by omega)]; exact hT.2.1) ?_
      refine Ex_icmp_geN (by omega) (by omega) (tgt := 166) dX0_advance_128 (by decide) (fun h128 => ?_) (fun h128 => ?_)
      · rw [e1]; exact kx
      · omega
  | succ i ih =>
    intro k h0 hr
    have hr2 : (if (k < N ∧ srt (tb k) = s) then run (fun k => k < N ∧ srt (tb k) = s) i (k + 1) else k) = E := hr
    obtain ⟨hb1, hb2⟩ := hT.2.2 k (by omega)
    have hs3 := srt_c3 (tb k)
    refine Ex_aload_n dX0_advance_109 rfl ?_
    refine Ex_geti dX0_advance_110 fX0_43 (ds_g hD).1 ?_
    refine Ex_top (show _ = nI s by rw [rowI_s]; rfl) ?_
    refine Ex_iconst (v := nI 3) dX0_advance_113 (by rfl) ?_
    refine Ex_icmp_eqN (by omega) (by omega) (tgt := 166) dX0_advance_114 (by decide) (fun h114 => ?_) (fun h114 => ?_)
    · omega
    · refine Ex_aload_n dX0_advance_117 rfl ?_
      refine Ex_geti dX0_advance_118 fX0_26 (ds_g hD).1 ?_
      refine Ex_top (show _ = nI k by rw [rowI_s]; rfl) ?_
      refine Ex_aload_n dX0_advance_121 rfl ?_
      refine Ex_getr dX0_advance_122 fX0_15 (ds_g hD).1 (ds_g hD).2.1 ?_
      refine Ex_geti dX0_advance_125 fX0_124 (ds_tp hD).1 ?_
      refine Ex_top (show _ = nI N by rw [rowI_n (by omega)]; exact hT.2.1) ?_
      refine Ex_icmp_geN (by omega) (by omega) (tgt := 166) dX0_advance_128 (by decide) (fun h128 => ?_) (fun h128 => ?_)
      · omega
      · refine Ex_aload_n dX0_advance_131 rfl ?_
        refine Ex_getr dX0_advance_132 fX0_15 (ds_g hD).1 (ds_g hD).2.1 ?_
        refine Ex_getr dX0_advance_135 fX0_65 (ds_tp hD).1 (ds_tp hD).2.1 ?_
        refine Ex_aload_n dX0_advance_138 rfl ?_
        refine Ex_geti dX0_advance_139 fX0_26 (ds_g hD).1 ?_
        refine Ex_top (show _ = nI k by rw [rowI_s]; rfl) ?_
        refine Ex_iald dX0_advance_142 (ds_tp hD).2.2.1 rfl (by rw [(ds_tp hD).2.2.2]; omega) (by rw [(ds_tp hD).2.2.2]; decide) ?_
        refine Ex_top (show _ = nI (tb k) by rw [rowI_n (by omega)]; exact hb1) ?_
        refine Ex_S1p dX0_advance_143 sX0_121  (Nat.le_of_ble_eq_true rfl) (c0_sortOf d (tb k) hb2) ?_
        refine Ex_aload_n dX0_advance_146 rfl ?_
        refine Ex_geti dX0_advance_147 fX0_43 (ds_g hD).1 ?_
        refine Ex_top (show _ = nI s by rw [rowI_s]; rfl) ?_
        refine Ex_icmp_neN (by omega) (by omega) (tgt := 166) dX0_advance_150 (by decide) (fun h150 => ?_) (fun h150 => ?_)
        · rw [if_neg (fun q => h150 q.2)] at hr2
          rw [hr2]; exact kx
        · refine Ex_aload_n dX0_advance_153 rfl ?_
          refine Ex_dup dX0_advance_154 rfl ?_
          refine Ex_geti dX0_advance_155 fX0_26 (ds_g hD).1 ?_
          refine Ex_top (show _ = nI k by rw [rowI_s]; rfl) ?_
          refine Ex_iconst (v := nI 1) dX0_advance_158 (by rfl) ?_
          first | with_reducible refine Ex_iaddN dX0_advance_159 ?_ | refine Ex_iadd dX0_advance_159 ?_
          refine Ex_puti dX0_advance_160 fX0_26 rfl rfl rfl (ds_g hD).1 ?_
          rw [setI_row, rowI_r, rowI_s, show upd (g3 u (nI f) (nI k) (nI s)) 6 (nI (k + 1)) = g3 u (nI f) (nI (k + 1)) (nI s) by funext j; by_cases e : j = 6 <;> simp [upd, g3, e]]
          refine Ex_goto (tgt := 109) dX0_advance_163 (by decide) ?_
          exact ih (k + 1) (by omega) (by rw [if_pos ⟨by omega, h150⟩] at hr2; exact hr2)
set_option maxRecDepth 100000 in
set_option maxHeartbeats 4000000 in
theorem c0_advance {T : TC} {I : MI} {G : MG} (d : Nat) {D NN : Nat} (hD : DS T G D NN) {tb : Nat → Nat} {N : Nat} (hT : TpC I D tb N) (p : Nat) (hp : I (D + 61) 6 = nI p) (hpN : p ≤ N) : OkV T mX0_advance (d + 1) [.ref (D + 61)] I G (fun I' G' => I' = rowI I (D + 61) (g3 (I (D + 61)) (nI (gF tb N p)) (nI (gE tb N (gF tb N p))) (nI (cT tb N (gF tb N p)))) ∧ G' = G) := by
  refine Ok_of (own := RX0) (by decide) rfl (cat1 rfl) (Nat.le_of_ble_eq_true rfl) ?_
  show Ex T RX0 cX0_advance 1 (d + 1) _ 0 [some (.ref (D + 61))] [] I G (0, 0)
  refine Ex_aload_n dX0_advance_0 rfl ?_
  refine Ex_aload_n dX0_advance_1 rfl ?_
  refine Ex_geti dX0_advance_2 fX0_26 (ds_g hD).1 ?_
  refine Ex_top hp ?_
  refine Ex_puti dX0_advance_5 fX0_70 rfl rfl rfl (ds_g hD).1 ?_
  rw [setI_row]
  have h96 := hT.1
  have hgl := gF_le (tb := tb) hpN
  refine l0_bl d hD hT (gF tb N p) (I (D + 61)) hgl.2 ?_ (N - p) p (by omega) rfl
  generalize gF tb N p = f at hgl
  refine Ex_aload_n dX0_advance_52 rfl ?_
  refine Ex_aload_n dX0_advance_53 rfl ?_
  refine Ex_geti dX0_advance_54 fX0_70 (ds_g hD).1 ?_
  refine Ex_top (show _ = nI f by rw [rowI_s, upd_s]) ?_
  refine Ex_puti dX0_advance_57 fX0_26 rfl rfl rfl (ds_g hD).1 ?_
  rw [setI_row, rowI_r, rowI_s]
  refine Ex_aload_n dX0_advance_60 rfl ?_
  refine Ex_geti dX0_advance_61 fX0_70 (ds_g hD).1 ?_
  refine Ex_top (show _ = nI f by rw [rowI_s, upd_n (by omega), upd_s]) ?_
  refine Ex_aload_n dX0_advance_64 rfl ?_
  refine Ex_getr dX0_advance_65 fX0_15 (ds_g hD).1 (ds_g hD).2.1 ?_
  refine Ex_geti dX0_advance_68 fX0_124 (ds_tp hD).1 ?_
  refine Ex_top (show _ = nI N by rw [rowI_n (by omega)]; exact hT.2.1) ?_
  refine Ex_icmp_ltN (by omega) (by omega) (tgt := 80) dX0_advance_71 (by decide) (fun h71 => ?_) (fun h71 => ?_)
  · refine Ex_aload_n dX0_advance_80 rfl ?_
    refine Ex_aload_n dX0_advance_81 rfl ?_
    refine Ex_getr dX0_advance_82 fX0_15 (ds_g hD).1 (ds_g hD).2.1 ?_
    refine Ex_getr dX0_advance_85 fX0_65 (ds_tp hD).1 (ds_tp hD).2.1 ?_
    refine Ex_aload_n dX0_advance_88 rfl ?_
    refine Ex_geti dX0_advance_89 fX0_70 (ds_g hD).1 ?_
    refine Ex_top (show _ = nI f by rw [rowI_s, upd_n (by omega), upd_s]) ?_
    refine Ex_iald dX0_advance_92 (ds_tp hD).2.2.1 rfl (by rw [(ds_tp hD).2.2.2]; omega) (by rw [(ds_tp hD).2.2.2]; decide) ?_
    obtain ⟨hb1, hb2⟩ := hT.2.2 f (by omega)
    refine Ex_top (show _ = nI (tb f) by rw [rowI_n (by omega)]; exact hb1) ?_
    refine Ex_S1p dX0_advance_93 sX0_121  (Nat.le_of_ble_eq_true rfl) (c0_sortOf d (tb f) hb2) ?_
    refine Ex_puti dX0_advance_96 fX0_43 rfl rfl rfl (ds_g hD).1 ?_
    rw [setI_row, rowI_r, rowI_s]
    refine Ex_aload_n dX0_advance_99 rfl ?_
    refine Ex_dup dX0_advance_100 rfl ?_
    refine Ex_geti dX0_advance_101 fX0_26 (ds_g hD).1 ?_
    refine Ex_top (show _ = nI f by rw [rowI_s, upd_n (by omega), upd_s]) ?_
    refine Ex_iconst (v := nI 1) dX0_advance_104 (by rfl) ?_
    first | with_reducible refine Ex_iaddN dX0_advance_105 ?_ | refine Ex_iadd dX0_advance_105 ?_
    refine Ex_puti dX0_advance_106 fX0_26 rfl rfl rfl (ds_g hD).1 ?_
    rw [setI_row, rowI_r, rowI_s]
    have hs3 := srt_c3 (tb f)
    have e9 : upd (upd (upd (upd (I (D + 61)) 5 (nI f)) 6 (nI f)) 7 (nI (srt (tb f)))) 6 (nI (f + 1)) = g3 (I (D + 61)) (nI f) (nI (f + 1)) (nI (srt (tb f))) := by
      funext j
      by_cases e5 : j = 5 <;> by_cases e6 : j = 6 <;> by_cases e7 : j = 7 <;> simp [upd, g3, e5, e6, e7] <;> omega
    rw [e9]
    by_cases h3 : srt (tb f) = 3
    · refine Ex_aload_n dX0_advance_109 rfl ?_
      refine Ex_geti dX0_advance_110 fX0_43 (ds_g hD).1 ?_
      refine Ex_top (show _ = nI (srt (tb f)) by rw [rowI_s]; rfl) ?_
      refine Ex_iconst (v := nI 3) dX0_advance_113 (by rfl) ?_
      refine Ex_icmp_eqN (by omega) (by omega) (tgt := 166) dX0_advance_114 (by decide) (fun h114 => ?_) (fun h114 => ?_)
      · refine Ex_vret dX0_advance_166 ?_
        have c3 : cT tb N f = 3 := by unfold cT; rw [if_pos h71]; exact h3
        refine ⟨rfl, ?_, rfl⟩
        rw [gE_3 c3, c3, h3]
      · omega
    · have h71' := h71
      have hs12 : srt (tb f) = 1 ∨ srt (tb f) = 2 := by omega
      have ec : cT tb N f = srt (tb f) := by unfold cT; rw [if_pos h71]
      have eE : gE tb N f = run (fun k => k < N ∧ srt (tb k) = srt (tb f)) (N - (f + 1)) (f + 1) := by
        have hrun : run (fun k => k < N ∧ srt (tb k) = srt (tb f)) (N - f) f = run (fun k => k < N ∧ srt (tb k) = srt (tb f)) (N - (f + 1)) (f + 1) := by
          rw [show N - f = (N - (f + 1)) + 1 by omega]
          show (if (f < N ∧ srt (tb f) = srt (tb f)) then _ else f) = _
          rw [if_pos ⟨h71, rfl⟩]
        rw [← hrun]
        unfold gE
        rw [if_neg (by omega)]
        rcases hs12 with z | z
        · rw [if_pos ⟨h71, srt_1.mp z⟩, z]; exact run_cg (fun k => ⟨fun q => ⟨q.1, srt_1.mpr q.2⟩, fun q => ⟨q.1, srt_1.mp q.2⟩⟩) _ _
        · have nl : ¬ isLe tb N f := fun q => by have := srt_1.mpr q.2; omega
          rw [if_neg nl, if_pos ⟨h71, srt_2.mp z⟩, z]; exact run_cg (fun k => ⟨fun q => ⟨q.1, srt_2.mpr q.2⟩, fun q => ⟨q.1, srt_2.mp q.2⟩⟩) _ _
      refine l0_wd (I := I) d hD hT (I (D + 61)) f (srt (tb f)) (gE tb N f) hs12 ?_ (N - (f + 1)) (f + 1) (by omega) eE.symm
      refine Ex_vret dX0_advance_166 ?_
      exact ⟨rfl, by rw [ec], rfl⟩
  · refine Ex_aload_n dX0_advance_74 rfl ?_
    refine Ex_iconst (v := nI 0) dX0_advance_75 (by rfl) ?_
    refine Ex_puti dX0_advance_76 fX0_43 rfl rfl rfl (ds_g hD).1 ?_
    rw [setI_row, rowI_r, rowI_s]
    refine Ex_vret dX0_advance_79 ?_
    have hN : f = N := by omega
    refine ⟨rfl, ?_, rfl⟩
    have e1 : gE tb N f = f := by unfold gE; rw [if_pos hN]
    have e2 : cT tb N f = 0 := by unfold cT; rw [if_neg (by omega)]
    rw [e1, e2]
    congr 1
    funext j
    by_cases e5 : j = 5 <;> by_cases e6 : j = 6 <;> by_cases e7 : j = 7 <;> simp [upd, g3, e5, e6, e7] <;> omega
set_option maxRecDepth 100000 in
set_option maxHeartbeats 4000000 in
theorem c0_isSign {T : TC} {I : MI} {G : MG} (d : Nat) {D NN : Nat} (hD : DS T G D NN) {tb : Nat → Nat} {N : Nat} (hT : TpC I D tb N) {ky : Int32} {f a : Nat} {q : List Int32} (hG : GrR I D tb N ky f q a) (hf : f ≤ N) (c : Nat) (hc : c < 256) : OkP T mX0_isSign (d) [.ref (D + 61), .int (nI c)] I G (bI (cT tb N f = 3 ∧ tb f = c)) := by
  refine Ok_of (own := RX0) (by decide) rfl (cat1 rfl) (Nat.le_of_ble_eq_true rfl) ?_
  show Ex T RX0 cX0_isSign 2 (d) _ 0 [some (.ref (D + 61)), some (.int (nI c))] [] I G (0, 0)
  have h96 := hT.1
  have hcl := cT_le3 (tb := tb) (N := N) f
  refine Ex_aload_n dX0_isSign_0 rfl ?_
  refine Ex_geti dX0_isSign_1 fX0_43 (ds_g hD).1 ?_
  refine Ex_top hG.2.2.2.2.2.1 ?_
  refine Ex_iconst (v := nI 3) dX0_isSign_4 (by rfl) ?_
  refine Ex_icmp_neN (by omega) (by omega) (tgt := 28) dX0_isSign_5 (by decide) (fun h5 => ?_) (fun h5 => ?_)
  · refine Ex_iconst (v := nI 0) dX0_isSign_28 (by rfl) ?_
    refine Ex_iret dX0_isSign_29 (by first | rfl | exact narrow_bI) ?_
    exact ⟨_, rfl, (bI_f (fun q => h5 q.1)).symm, rfl, rfl⟩
  · have hfl := (cT_3.mp h5).1
    obtain ⟨hb1, hb2⟩ := hT.2.2 f hfl
    refine Ex_aload_n dX0_isSign_8 rfl ?_
    refine Ex_getr dX0_isSign_9 fX0_15 (ds_g hD).1 (ds_g hD).2.1 ?_
    refine Ex_getr dX0_isSign_12 fX0_65 (ds_tp hD).1 (ds_tp hD).2.1 ?_
    refine Ex_aload_n dX0_isSign_15 rfl ?_
    refine Ex_geti dX0_isSign_16 fX0_70 (ds_g hD).1 ?_
    refine Ex_top hG.2.2.2.1 ?_
    refine Ex_iald dX0_isSign_19 (ds_tp hD).2.2.1 rfl (by rw [(ds_tp hD).2.2.2]; omega) (by rw [(ds_tp hD).2.2.2]; decide) ?_
    refine Ex_top hb1 ?_
    refine Ex_iload_n dX0_isSign_20 rfl ?_
    refine Ex_icmp_neN (by omega) (by omega) (tgt := 28) dX0_isSign_21 (by decide) (fun h21 => ?_) (fun h21 => ?_)
    · refine Ex_iconst (v := nI 0) dX0_isSign_28 (by rfl) ?_
      refine Ex_iret dX0_isSign_29 (by first | rfl | exact narrow_bI) ?_
      exact ⟨_, rfl, (bI_f (fun q => h21 q.2)).symm, rfl, rfl⟩
    · refine Ex_iconst (v := nI 1) dX0_isSign_24 (by rfl) ?_
      refine Ex_goto (tgt := 29) dX0_isSign_25 (by decide) ?_
      refine Ex_iret dX0_isSign_29 (by first | rfl | exact narrow_bI) ?_
      exact ⟨_, rfl, (bI_t ⟨h5, h21⟩).symm, rfl, rfl⟩
set_option maxRecDepth 100000 in
set_option maxHeartbeats 4000000 in
theorem c0_isGlued {T : TC} {I : MI} {G : MG} (d : Nat) {D NN : Nat} (hD : DS T G D NN) {tb : Nat → Nat} {N : Nat} (hT : TpC I D tb N) {ky : Int32} {f a : Nat} {q : List Int32} (hG : GrR I D tb N ky f q a) (hf : f ≤ N)  : OkP T mX0_isGlued (d + 1) [.ref (D + 61)] I G (bI (glu tb N f)) := by
  refine Ok_of (own := RX0) (by decide) rfl (cat1 rfl) (Nat.le_of_ble_eq_true rfl) ?_
  show Ex T RX0 cX0_isGlued 1 (d + 1) _ 0 [some (.ref (D + 61))] [] I G (0, 0)
  have h96 := hT.1
  refine Ex_aload_n dX0_isGlued_0 rfl ?_
  refine Ex_geti dX0_isGlued_1 fX0_70 (ds_g hD).1 ?_
  refine Ex_top hG.2.2.2.1 ?_
  refine Ex_if_le (tgt := 32) dX0_isGlued_4 (by decide) (fun h4 => ?_) (fun h4 => ?_)
  · refine Ex_iconst (v := nI 0) dX0_isGlued_32 (by rfl) ?_
    refine Ex_iret dX0_isGlued_33 (by first | rfl | exact narrow_bI) ?_
    exact ⟨_, rfl, (bI_f (fun q => by have := nI_le0 (by omega) h4; omega)).symm, rfl, rfl⟩
  · have hf0 : 0 < f := by
      rcases Nat.eq_zero_or_pos f with e | e
      · exact absurd (show nI f ≤ 0 by rw [e]; decide) h4
      · exact e
    obtain ⟨hb1, hb2⟩ := hT.2.2 (f - 1) (by omega)
    have hs3 := srt_c3 (tb (f - 1))
    refine Ex_aload_n dX0_isGlued_7 rfl ?_
    refine Ex_getr dX0_isGlued_8 fX0_15 (ds_g hD).1 (ds_g hD).2.1 ?_
    refine Ex_getr dX0_isGlued_11 fX0_65 (ds_tp hD).1 (ds_tp hD).2.1 ?_
    refine Ex_aload_n dX0_isGlued_14 rfl ?_
    refine Ex_geti dX0_isGlued_15 fX0_70 (ds_g hD).1 ?_
    refine Ex_top hG.2.2.2.1 ?_
    refine Ex_iconst (v := nI 1) dX0_isGlued_18 (by rfl) ?_
    refine Ex_isubN (by omega) dX0_isGlued_19 ?_
    refine Ex_iald dX0_isGlued_20 (ds_tp hD).2.2.1 rfl (by rw [(ds_tp hD).2.2.2]; omega) (by rw [(ds_tp hD).2.2.2]; decide) ?_
    refine Ex_top hb1 ?_
    refine Ex_S1p dX0_isGlued_21 sX0_121  (Nat.le_of_ble_eq_true rfl) (c0_sortOf d _ hb2) ?_
    refine Ex_iconst (v := nI 3) dX0_isGlued_24 (by rfl) ?_
    refine Ex_icmp_eqN (by omega) (by omega) (tgt := 32) dX0_isGlued_25 (by decide) (fun h25 => ?_) (fun h25 => ?_)
    · refine Ex_iconst (v := nI 0) dX0_isGlued_32 (by rfl) ?_
      refine Ex_iret dX0_isGlued_33 (by first | rfl | exact narrow_bI) ?_
      have hno : ¬ glu tb N f := by
        rintro ⟨-, z | z⟩
        · have := srt_1.mpr z.2; omega
        · have := srt_2.mpr z.2; omega
      exact ⟨_, rfl, (bI_f hno).symm, rfl, rfl⟩
    · refine Ex_iconst (v := nI 1) dX0_isGlued_28 (by rfl) ?_
      refine Ex_goto (tgt := 33) dX0_isGlued_29 (by decide) ?_
      refine Ex_iret dX0_isGlued_33 (by first | rfl | exact narrow_bI) ?_
      have hh : isLe tb N (f - 1) ∨ isFi tb N (f - 1) := by
        rcases hs3 with z | z | z
        · exact Or.inl ⟨by omega, srt_1.mp z⟩
        · exact Or.inr ⟨by omega, srt_2.mp z⟩
        · exact absurd z h25
      exact ⟨_, rfl, (bI_t ⟨hf0, hh⟩).symm, rfl, rfl⟩
theorem rkN_i (c : Nat) : (rkN c = 1 ↔ c = 124) ∧ (rkN c = 2 ↔ c = 38) ∧ (rkN c = 3 ↔ (c = 60 ∨ c = 61 ∨ c = 62)) ∧ (rkN c = 4 ↔ (c = 43 ∨ c = 45)) ∧ (rkN c = 5 ↔ (c = 42 ∨ c = 47)) := by
  unfold rkN
  repeat (first | omega | split)
set_option maxRecDepth 100000 in
set_option maxHeartbeats 4000000 in
theorem c0_joins {T : TC} {I : MI} {G : MG} (d : Nat) {D NN : Nat} (hD : DS T G D NN) {tb : Nat → Nat} {N : Nat} (hT : TpC I D tb N) {ky : Int32} {f a : Nat} {q : List Int32} (hG : GrR I D tb N ky f q a) (hf : f ≤ N) (lv : Nat) (hl : lv ≤ 4) : OkP T mX0_joins (d + 1) [.ref (D + 61), .int (nI lv)] I G (bI (cT tb N f = 3 ∧ rkN (tb f) = lv + 1)) := by
  refine Ok_of (own := RX0) (by decide) rfl (cat1 rfl) (Nat.le_of_ble_eq_true rfl) ?_
  show Ex T RX0 cX0_joins 2 (d + 1) _ 0 [some (.ref (D + 61)), some (.int (nI lv))] [] I G (0, 0)
  refine Ex_iload_n dX0_joins_0 rfl ?_
  rcases sw_cases (nI lv) (0) (4) (by decide) (by decide) with ⟨k1, hk1, hl1, hx1⟩ | hx1
  · rcases (show k1 = 0 ∨ k1 = 1 ∨ k1 = 2 ∨ k1 = 3 ∨ k1 = 4 by omega) with rfl | rfl | rfl | rfl | rfl
    · have hx1 : nI lv = nI 0 := hx1
      refine Ex_tabIn (tgt := 36) dX0_joins_1 (by rw [hx1]; decide) (by rw [hx1]; decide) (off := 35) (by rw [hx1]; rfl) (by decide) ?_
      have e9 : lv = 0 := (nI_eq (by omega) (by omega)).mp hx1
      subst e9
      refine Ex_aload_n dX0_joins_36 rfl ?_
      refine Ex_bipush (v := nI 124) dX0_joins_37 (by rfl) ?_
      refine Ex_V1p dX0_joins_39 sX0_77 (ds_g hD).1 (Nat.le_of_ble_eq_true rfl) (c0_isSign d hD hT hG hf 124 (by omega)) ?_
      refine Ex_iret dX0_joins_42 (by first | rfl | exact narrow_bI) ?_
      have hk := rkN_i (tb f)
      exact ⟨_, rfl, bI_congr ⟨fun z => ⟨z.1, hk.1.mpr z.2⟩, fun z => ⟨z.1, hk.1.mp z.2⟩⟩, rfl, rfl⟩
    · have hx1 : nI lv = nI 1 := hx1
      refine Ex_tabIn (tgt := 43) dX0_joins_1 (by rw [hx1]; decide) (by rw [hx1]; decide) (off := 42) (by rw [hx1]; rfl) (by decide) ?_
      have e9 : lv = 1 := (nI_eq (by omega) (by omega)).mp hx1
      subst e9
      refine Ex_aload_n dX0_joins_43 rfl ?_
      refine Ex_bipush (v := nI 38) dX0_joins_44 (by rfl) ?_
      refine Ex_V1p dX0_joins_46 sX0_77 (ds_g hD).1 (Nat.le_of_ble_eq_true rfl) (c0_isSign d hD hT hG hf 38 (by omega)) ?_
      refine Ex_iret dX0_joins_49 (by first | rfl | exact narrow_bI) ?_
      have hk := rkN_i (tb f)
      exact ⟨_, rfl, bI_congr ⟨fun z => ⟨z.1, hk.2.1.mpr z.2⟩, fun z => ⟨z.1, hk.2.1.mp z.2⟩⟩, rfl, rfl⟩
    · have hx1 : nI lv = nI 2 := hx1
      refine Ex_tabIn (tgt := 50) dX0_joins_1 (by rw [hx1]; decide) (by rw [hx1]; decide) (off := 49) (by rw [hx1]; rfl) (by decide) ?_
      have e9 : lv = 2 := (nI_eq (by omega) (by omega)).mp hx1
      subst e9
      refine Ex_aload_n dX0_joins_50 rfl ?_
      refine Ex_bipush (v := nI 60) dX0_joins_51 (by rfl) ?_
      refine Ex_V1p dX0_joins_53 sX0_77 (ds_g hD).1 (Nat.le_of_ble_eq_true rfl) (c0_isSign d hD hT hG hf 60 (by omega)) ?_
      refine Ex_if_neB (tgt := 77) dX0_joins_56 (by decide) (fun h56 => ?_) (fun h56 => ?_)
      · refine Ex_iconst (v := nI 1) dX0_joins_77 (by rfl) ?_
        refine Ex_goto (tgt := 82) dX0_joins_78 (by decide) ?_
        refine Ex_iret dX0_joins_82 (by first | rfl | exact narrow_bI) ?_
        have hk := rkN_i (tb f)
        exact ⟨_, rfl, (bI_t ⟨h56.1, hk.2.2.1.mpr ((Or.inl) h56.2)⟩).symm, rfl, rfl⟩
      · refine Ex_aload_n dX0_joins_59 rfl ?_
        refine Ex_bipush (v := nI 61) dX0_joins_60 (by rfl) ?_
        refine Ex_V1p dX0_joins_62 sX0_77 (ds_g hD).1 (Nat.le_of_ble_eq_true rfl) (c0_isSign d hD hT hG hf 61 (by omega)) ?_
        refine Ex_if_neB (tgt := 77) dX0_joins_65 (by decide) (fun h65 => ?_) (fun h65 => ?_)
        · refine Ex_iconst (v := nI 1) dX0_joins_77 (by rfl) ?_
          refine Ex_goto (tgt := 82) dX0_joins_78 (by decide) ?_
          refine Ex_iret dX0_joins_82 (by first | rfl | exact narrow_bI) ?_
          have hk := rkN_i (tb f)
          exact ⟨_, rfl, (bI_t ⟨h65.1, hk.2.2.1.mpr ((fun z => Or.inr (Or.inl z)) h65.2)⟩).symm, rfl, rfl⟩
        · refine Ex_aload_n dX0_joins_68 rfl ?_
          refine Ex_bipush (v := nI 62) dX0_joins_69 (by rfl) ?_
          refine Ex_V1p dX0_joins_71 sX0_77 (ds_g hD).1 (Nat.le_of_ble_eq_true rfl) (c0_isSign d hD hT hG hf 62 (by omega)) ?_
          refine Ex_if_eqB (tgt := 81) dX0_joins_74 (by decide) (fun h74 => ?_) (fun h74 => ?_)
          · refine Ex_iconst (v := nI 0) dX0_joins_81 (by rfl) ?_
            refine Ex_iret dX0_joins_82 (by first | rfl | exact narrow_bI) ?_
            have hk := rkN_i (tb f)
            exact ⟨_, rfl, (bI_f (fun q => (hk.2.2.1.mp q.2).elim (fun z => h56 ⟨q.1, z⟩) (fun z => z.elim (fun z => h65 ⟨q.1, z⟩) (fun z => h74 ⟨q.1, z⟩)))).symm, rfl, rfl⟩
          · refine Ex_iconst (v := nI 1) dX0_joins_77 (by rfl) ?_
            refine Ex_goto (tgt := 82) dX0_joins_78 (by decide) ?_
            refine Ex_iret dX0_joins_82 (by first | rfl | exact narrow_bI) ?_
            have hk := rkN_i (tb f)
            exact ⟨_, rfl, (bI_t ⟨h74.1, hk.2.2.1.mpr ((fun z => Or.inr (Or.inr z)) h74.2)⟩).symm, rfl, rfl⟩
    · have hx1 : nI lv = nI 3 := hx1
      refine Ex_tabIn (tgt := 83) dX0_joins_1 (by rw [hx1]; decide) (by rw [hx1]; decide) (off := 82) (by rw [hx1]; rfl) (by decide) ?_
      have e9 : lv = 3 := (nI_eq (by omega) (by omega)).mp hx1
      subst e9
      refine Ex_aload_n dX0_joins_83 rfl ?_
      refine Ex_bipush (v := nI 43) dX0_joins_84 (by rfl) ?_
      refine Ex_V1p dX0_joins_86 sX0_77 (ds_g hD).1 (Nat.le_of_ble_eq_true rfl) (c0_isSign d hD hT hG hf 43 (by omega)) ?_
      refine Ex_if_neB (tgt := 101) dX0_joins_89 (by decide) (fun h89 => ?_) (fun h89 => ?_)
      · refine Ex_iconst (v := nI 1) dX0_joins_101 (by rfl) ?_
        refine Ex_goto (tgt := 106) dX0_joins_102 (by decide) ?_
        refine Ex_iret dX0_joins_106 (by first | rfl | exact narrow_bI) ?_
        have hk := rkN_i (tb f)
        exact ⟨_, rfl, (bI_t ⟨h89.1, hk.2.2.2.1.mpr ((Or.inl) h89.2)⟩).symm, rfl, rfl⟩
      · refine Ex_aload_n dX0_joins_92 rfl ?_
        refine Ex_bipush (v := nI 45) dX0_joins_93 (by rfl) ?_
        refine Ex_V1p dX0_joins_95 sX0_77 (ds_g hD).1 (Nat.le_of_ble_eq_true rfl) (c0_isSign d hD hT hG hf 45 (by omega)) ?_
        refine Ex_if_eqB (tgt := 105) dX0_joins_98 (by decide) (fun h98 => ?_) (fun h98 => ?_)
        · refine Ex_iconst (v := nI 0) dX0_joins_105 (by rfl) ?_
          refine Ex_iret dX0_joins_106 (by first | rfl | exact narrow_bI) ?_
          have hk := rkN_i (tb f)
          exact ⟨_, rfl, (bI_f (fun q => (hk.2.2.2.1.mp q.2).elim (fun z => h89 ⟨q.1, z⟩) (fun z => h98 ⟨q.1, z⟩))).symm, rfl, rfl⟩
        · refine Ex_iconst (v := nI 1) dX0_joins_101 (by rfl) ?_
          refine Ex_goto (tgt := 106) dX0_joins_102 (by decide) ?_
          refine Ex_iret dX0_joins_106 (by first | rfl | exact narrow_bI) ?_
          have hk := rkN_i (tb f)
          exact ⟨_, rfl, (bI_t ⟨h98.1, hk.2.2.2.1.mpr ((Or.inr) h98.2)⟩).symm, rfl, rfl⟩
    · have hx1 : nI lv = nI 4 := hx1
      refine Ex_tabIn (tgt := 107) dX0_joins_1 (by rw [hx1]; decide) (by rw [hx1]; decide) (off := 106) (by rw [hx1]; rfl) (by decide) ?_
      have e9 : lv = 4 := (nI_eq (by omega) (by omega)).mp hx1
      subst e9
      refine Ex_aload_n dX0_joins_107 rfl ?_
      refine Ex_bipush (v := nI 42) dX0_joins_108 (by rfl) ?_
      refine Ex_V1p dX0_joins_110 sX0_77 (ds_g hD).1 (Nat.le_of_ble_eq_true rfl) (c0_isSign d hD hT hG hf 42 (by omega)) ?_
      refine Ex_if_neB (tgt := 125) dX0_joins_113 (by decide) (fun h113 => ?_) (fun h113 => ?_)
      · refine Ex_iconst (v := nI 1) dX0_joins_125 (by rfl) ?_
        refine Ex_goto (tgt := 130) dX0_joins_126 (by decide) ?_
        refine Ex_iret dX0_joins_130 (by first | rfl | exact narrow_bI) ?_
        have hk := rkN_i (tb f)
        exact ⟨_, rfl, (bI_t ⟨h113.1, hk.2.2.2.2.mpr ((Or.inl) h113.2)⟩).symm, rfl, rfl⟩
      · refine Ex_aload_n dX0_joins_116 rfl ?_
        refine Ex_bipush (v := nI 47) dX0_joins_117 (by rfl) ?_
        refine Ex_V1p dX0_joins_119 sX0_77 (ds_g hD).1 (Nat.le_of_ble_eq_true rfl) (c0_isSign d hD hT hG hf 47 (by omega)) ?_
        refine Ex_if_eqB (tgt := 129) dX0_joins_122 (by decide) (fun h122 => ?_) (fun h122 => ?_)
        · refine Ex_iconst (v := nI 0) dX0_joins_129 (by rfl) ?_
          refine Ex_iret dX0_joins_130 (by first | rfl | exact narrow_bI) ?_
          have hk := rkN_i (tb f)
          exact ⟨_, rfl, (bI_f (fun q => (hk.2.2.2.2.mp q.2).elim (fun z => h113 ⟨q.1, z⟩) (fun z => h122 ⟨q.1, z⟩))).symm, rfl, rfl⟩
        · refine Ex_iconst (v := nI 1) dX0_joins_125 (by rfl) ?_
          refine Ex_goto (tgt := 130) dX0_joins_126 (by decide) ?_
          refine Ex_iret dX0_joins_130 (by first | rfl | exact narrow_bI) ?_
          have hk := rkN_i (tb f)
          exact ⟨_, rfl, (bI_t ⟨h122.1, hk.2.2.2.2.mpr ((Or.inr) h122.2)⟩).symm, rfl, rfl⟩
  · refine Ex_tabOut (tgt := 131) dX0_joins_1 hx1 (by decide) ?_
    exfalso
    rw [nI_toInt (by omega)] at hx1
    omega
set_option maxRecDepth 100000 in
set_option maxHeartbeats 4000000 in
theorem c0_addStep {T : TC} {I : MI} {G : MG} (d : Nat) {D NN : Nat} (hD : DS T G D NN) (l : Nat) (v : Int32) (hl1 : I (D + 61) 2 = nI l) (hl : l < 96) : OkV T mX0_addStep (d) [.ref (D + 61), .int v] I G (fun I' G' => I' = rowI (rowI I (D + 62) (upd (I (D + 62)) l v)) (D + 61) (upd (I (D + 61)) 2 (nI (l + 1))) ∧ G' = G) := by
  refine Ok_of (own := RX0) (by decide) rfl (cat1 rfl) (Nat.le_of_ble_eq_true rfl) ?_
  show Ex T RX0 cX0_addStep 2 (d) _ 0 [some (.ref (D + 61)), some (.int v)] [] I G (0, 0)
  refine Ex_aload_n dX0_addStep_0 rfl ?_
  refine Ex_geti dX0_addStep_1 fX0_19 (ds_g hD).1 ?_
  refine Ex_top hl1 ?_
  refine Ex_bipush (v := nI 96) dX0_addStep_4 (by rfl) ?_
  refine Ex_icmp_geN (by omega) (by omega) (tgt := 29) dX0_addStep_6 (by decide) (fun h6 => ?_) (fun h6 => ?_)
  · omega
  · refine Ex_aload_n dX0_addStep_9 rfl ?_
    refine Ex_getr dX0_addStep_10 fX0_9 (ds_g hD).1 (ds_g hD).2.2.1 ?_
    refine Ex_aload_n dX0_addStep_13 rfl ?_
    refine Ex_geti dX0_addStep_14 fX0_19 (ds_g hD).1 ?_
    refine Ex_top hl1 ?_
    refine Ex_iload_n dX0_addStep_17 rfl ?_
    refine Ex_iast dX0_addStep_18 (ds_g hD).2.2.2.1 rfl (by rw [(ds_g hD).2.2.2.2]; omega) (by rw [(ds_g hD).2.2.2.2]; decide) ?_
    refine Ex_aload_n dX0_addStep_19 rfl ?_
    refine Ex_dup dX0_addStep_20 rfl ?_
    refine Ex_geti dX0_addStep_21 fX0_19 (ds_g hD).1 ?_
    refine Ex_top (show _ = nI l by rw [setI_a (by omega)]; exact hl1) ?_
    refine Ex_iconst (v := nI 1) dX0_addStep_24 (by rfl) ?_
    first | with_reducible refine Ex_iaddN dX0_addStep_25 ?_ | refine Ex_iadd dX0_addStep_25 ?_
    refine Ex_puti dX0_addStep_26 fX0_19 rfl rfl rfl (ds_g hD).1 ?_
    refine Ex_vret dX0_addStep_29 ?_
    exact ⟨rfl, by rw [setI_row, setI_row, rowI_n (show D + 61 ≠ D + 62 by omega)], rfl⟩
set_option maxRecDepth 100000 in
set_option maxHeartbeats 4000000 in
theorem l0_num {T : TC} {I : MI} {G : MG} {F : FinT} {bb : Nat × Nat} (d : Nat) {D NN : Nat} (hD : DS T G D NN) {tb : Nat → Nat} {N : Nat} (hT : TpC I D tb N) {ky : Int32} {f a : Nat} {q : List Int32} (hG : GrR I D tb N ky f q a) (hf : f ≤ N) (hd : isFi tb N f) (L : Nat) (hL : gE tb N f - f = L) (kx : Ex T RX0 cX0_numberHere 3 (d + 2) F 29 [some (.ref (D + 61)), some (.int (nI (nuV tb f L))), some (.int (nI (f + L)))] [] I G bb) : ∀ i k, k + i = L → Ex T RX0 cX0_numberHere 3 (d + 2) F 29 [some (.ref (D + 61)), some (.int (nI (nuV tb f k))), some (.int (nI (f + k)))] [] I G bb := by
  have h96 := hT.1
  have hge := gE_le (tb := tb) hf
  have hall : ∀ j, f ≤ j → j < gE tb N f → isFi tb N j := fun j h1 h2 => by
    have nl : ¬ isLe tb N f := fun q => by have := q.2; have := hd.2; omega
    have : gE tb N f = run (isFi tb N) (N - f) f := by unfold gE; rw [if_neg (by have := hd.1; omega), if_neg nl, if_pos hd]
    rw [this] at h2
    exact run_all _ _ j h1 h2
  intro i
  induction i with
  | zero => intro k h0; have e0 : k = L := by omega
            subst e0; exact kx
  | succ i ih =>
    intro k h0
    obtain ⟨hb1, hb2⟩ := hT.2.2 (f + k) (by omega)
    have hfi := (hall (f + k) (by omega) (by omega)).2
    refine Ex_iload_n dX0_numberHere_29 rfl ?_
    refine Ex_aload_n dX0_numberHere_30 rfl ?_
    refine Ex_geti dX0_numberHere_31 fX0_26 (ds_g hD).1 ?_
    refine Ex_top hG.2.2.2.2.1 ?_
    refine Ex_icmp_geN (by omega) (by omega) (tgt := 61) dX0_numberHere_34 (by decide) (fun h34 => ?_) (fun h34 => ?_)
    · omega
    · refine Ex_bipush (v := nI 10) dX0_numberHere_37 (by rfl) ?_
      refine Ex_iload_n dX0_numberHere_39 rfl ?_
      first | with_reducible refine Ex_imulN dX0_numberHere_40 ?_ | refine Ex_imul dX0_numberHere_40 ?_
      refine Ex_aload_n dX0_numberHere_41 rfl ?_
      refine Ex_getr dX0_numberHere_42 fX0_15 (ds_g hD).1 (ds_g hD).2.1 ?_
      refine Ex_getr dX0_numberHere_45 fX0_65 (ds_tp hD).1 (ds_tp hD).2.1 ?_
      refine Ex_iload_n dX0_numberHere_48 rfl ?_
      refine Ex_iald dX0_numberHere_49 (ds_tp hD).2.2.1 rfl (by rw [(ds_tp hD).2.2.2]; omega) (by rw [(ds_tp hD).2.2.2]; decide) ?_
      refine Ex_top hb1 ?_
      first | with_reducible refine Ex_iaddN dX0_numberHere_50 ?_ | refine Ex_iadd dX0_numberHere_50 ?_
      refine Ex_bipush (v := nI 48) dX0_numberHere_51 (by rfl) ?_
      refine Ex_isubN (by omega) dX0_numberHere_53 ?_
      refine Ex_top (show _ = nI (nuV tb f (k + 1)) from congrArg nI (by show 10 * nuV tb f k + tb (f + k) - 48 = 10 * nuV tb f k + (tb (f + k) - 48); omega)) ?_
      refine Ex_istore_n dX0_numberHere_54 (by decide) rfl ?_
      simp only [st_n0, st_n1, st_n2, st_n3, List.set_cons_zero, List.set_cons_succ]
      first | refine Ex_iincN (m := 1) dX0_numberHere_55 rfl rfl (by decide) rfl ?_ | refine Ex_iinc dX0_numberHere_55 rfl rfl (by decide) rfl ?_
      simp only [List.set_cons_zero, List.set_cons_succ]
      refine Ex_goto (tgt := 29) dX0_numberHere_58 (by decide) ?_
      exact ih (k + 1) (by omega)
set_option maxRecDepth 100000 in
set_option maxHeartbeats 4000000 in
theorem c0_numberHere {T : TC} {I : MI} {G : MG} (d : Nat) {D NN : Nat} (hD : DS T G D NN) {tb : Nat → Nat} {N : Nat} (hT : TpC I D tb N) {ky : Int32} {f a : Nat} {q : List Int32} (hG : GrR I D tb N ky f q a) (hf : f ≤ N) (hd : isFi tb N f)  : OkP T mX0_numberHere (d + 2) [.ref (D + 61)] I G (if gE tb N f - f ≤ 4 ∧ ¬ glu tb N f then nI (nuV tb f (gE tb N f - f)) else (-1)) := by
  refine Ok_of (own := RX0) (by decide) rfl (cat1 rfl) (Nat.le_of_ble_eq_true rfl) ?_
  show Ex T RX0 cX0_numberHere 3 (d + 2) _ 0 [some (.ref (D + 61)), none, none] [] I G (0, 0)
  have h96 := hT.1
  have hge := gE_le (tb := tb) hf
  refine Ex_aload_n dX0_numberHere_0 rfl ?_
  refine Ex_geti dX0_numberHere_1 fX0_26 (ds_g hD).1 ?_
  refine Ex_top hG.2.2.2.2.1 ?_
  refine Ex_aload_n dX0_numberHere_4 rfl ?_
  refine Ex_geti dX0_numberHere_5 fX0_70 (ds_g hD).1 ?_
  refine Ex_top hG.2.2.2.1 ?_
  refine Ex_isubN (by omega) dX0_numberHere_8 ?_
  refine Ex_iconst (v := nI 4) dX0_numberHere_9 (by rfl) ?_
  refine Ex_icmp_gtN (by omega) (by omega) (tgt := 20) dX0_numberHere_10 (by decide) (fun h10 => ?_) (fun h10 => ?_)
  · refine Ex_iconst (v := (-1)) dX0_numberHere_20 (by rfl) ?_
    refine Ex_iret dX0_numberHere_21 (by first | rfl | exact narrow_bI) ?_
    exact ⟨_, rfl, (if_neg (fun q => by omega)).symm, rfl, rfl⟩
  · refine Ex_aload_n dX0_numberHere_13 rfl ?_
    refine Ex_V0p dX0_numberHere_14 sX0_90 (ds_g hD).1 (Nat.le_of_ble_eq_true rfl) (c0_isGlued d hD hT hG hf) ?_
    refine Ex_if_eqB (tgt := 22) dX0_numberHere_17 (by decide) (fun h17 => ?_) (fun h17 => ?_)
    · refine Ex_iconst (v := nI 0) dX0_numberHere_22 (by rfl) ?_
      refine Ex_istore_n dX0_numberHere_23 (by decide) rfl ?_
      simp only [st_n0, st_n1, st_n2, st_n3, List.set_cons_zero, List.set_cons_succ]
      refine Ex_aload_n dX0_numberHere_24 rfl ?_
      refine Ex_geti dX0_numberHere_25 fX0_70 (ds_g hD).1 ?_
      refine Ex_top hG.2.2.2.1 ?_
      refine Ex_istore_n dX0_numberHere_28 (by decide) rfl ?_
      simp only [st_n0, st_n1, st_n2, st_n3, List.set_cons_zero, List.set_cons_succ]
      refine l0_num d hD hT hG hf hd (gE tb N f - f) rfl ?_ (gE tb N f - f) 0 (by omega)
      refine Ex_iload_n dX0_numberHere_29 rfl ?_
      refine Ex_aload_n dX0_numberHere_30 rfl ?_
      refine Ex_geti dX0_numberHere_31 fX0_26 (ds_g hD).1 ?_
      refine Ex_top hG.2.2.2.2.1 ?_
      refine Ex_icmp_geN (by omega) (by omega) (tgt := 61) dX0_numberHere_34 (by decide) (fun h34 => ?_) (fun h34 => ?_)
      · refine Ex_iload_n dX0_numberHere_61 rfl ?_
        refine Ex_iret dX0_numberHere_62 (by first | rfl | exact narrow_bI) ?_
        exact ⟨_, rfl, (if_pos ⟨by omega, h17⟩).symm, rfl, rfl⟩
      · omega
    · refine Ex_iconst (v := (-1)) dX0_numberHere_20 (by rfl) ?_
      refine Ex_iret dX0_numberHere_21 (by first | rfl | exact narrow_bI) ?_
      exact ⟨_, rfl, (if_neg (fun q => q.2 h17)).symm, rfl, rfl⟩
theorem ix_nm : ∀ i, i < 3 → ∀ b, b < 256 → ixN i b (lS i) 0 = nmI (nI i) (nI b) := by decide +kernel
theorem i2c_n {b : Nat} (h : b < 256) : ((nI b).toUInt32 % 65536).toInt32 = nI b := by
  rw [pk_char, pk_tn (by omega), Nat.mod_eq_of_lt (by omega)]
theorem nmI_3 (ky x : Int32) : nmI ky x = (-1) ∨ nmI ky x = nI 0 ∨ nmI ky x = nI 1 ∨ nmI ky x = nI 2 := by
  unfold nmI
  repeat (first | exact Or.inl rfl | exact Or.inr (Or.inl rfl) | exact Or.inr (Or.inr (Or.inl rfl)) | exact Or.inr (Or.inr (Or.inr rfl)) | split)
set_option maxRecDepth 100000 in
set_option maxHeartbeats 4000000 in
theorem t0_name {T : TC} {I : MI} {G : MG} (d : Nat) {D NN : Nat} (hD : DS T G D NN) {tb : Nat → Nat} {N : Nat} (hT : TpC I D tb N) {ky : Int32} {f a : Nat} {q : List Int32} (hG : GrR I D tb N ky f q a) (hf : f ≤ N) (hl : isLe tb N f) (h1 : gE tb N f - f = 1) (hg : ¬ glu tb N f) (i : Nat) (hi : i < 3) (hky : ky = nI i) : Ex T RX0 cX0_nameHere 3 (d + 4) (fm T "nameHere" (some .int) (fun v I' G' => ∃ r, v = some (.int r) ∧ r = (if gE tb N f - f = 1 ∧ ¬ glu tb N f ∧ ¬ nmI ky (nI (tb f)) < 0 then nI 10000 + nmI ky (nI (tb f)) else (-1)) ∧ I' = I ∧ G' = G)) 49 [some (.ref (D + 61)), none, none] [.ref (tK T i)] I G (0, 0) := by
  have h96 := hT.1
  obtain ⟨hb1, hb2⟩ := hT.2.2 f hl.1
  have hix := ix_nm i hi (tb f) hb2
  have hn3 := nmI_3 ky (nI (tb f))
  refine Ex_astore_n dX0_nameHere_49 (by decide) rfl ?_
  simp only [st_n0, st_n1, st_n2, st_n3, List.set_cons_zero, List.set_cons_succ]
  refine Ex_aload_n dX0_nameHere_50 rfl ?_
  refine Ex_aload_n dX0_nameHere_51 rfl ?_
  refine Ex_getr dX0_nameHere_52 fX0_15 (ds_g hD).1 (ds_g hD).2.1 ?_
  refine Ex_getr dX0_nameHere_55 fX0_65 (ds_tp hD).1 (ds_tp hD).2.1 ?_
  refine Ex_aload_n dX0_nameHere_58 rfl ?_
  refine Ex_geti dX0_nameHere_59 fX0_70 (ds_g hD).1 ?_
  refine Ex_top hG.2.2.2.1 ?_
  refine Ex_iald dX0_nameHere_62 (ds_tp hD).2.2.1 rfl (by rw [(ds_tp hD).2.2.2]; omega) (by rw [(ds_tp hD).2.2.2]; decide) ?_
  refine Ex_top hb1 ?_
  refine Ex_i2c dX0_nameHere_63 ?_
  refine Ex_top (i2c_n hb2) ?_
  refine Ex_T1p (show i < 6 by omega) rfl dX0_nameHere_64 sX0_99 (Nat.le_of_ble_eq_true rfl) (cS_indexOf d (show i < 6 by omega) (tb f) hb2) ?_
  refine Ex_top (show _ = nmI ky (nI (tb f)) by rw [hix, hky]) ?_
  refine Ex_istore_n dX0_nameHere_67 (by decide) rfl ?_
  simp only [st_n0, st_n1, st_n2, st_n3, List.set_cons_zero, List.set_cons_succ]
  refine Ex_iload_n dX0_nameHere_68 rfl ?_
  refine Ex_if_ge (tgt := 76) dX0_nameHere_69 (by decide) (fun h69 => ?_) (fun h69 => ?_)
  · refine Ex_sipush (v := nI 10000) dX0_nameHere_76 (by rfl) ?_
    refine Ex_iload_n dX0_nameHere_79 rfl ?_
    first | with_reducible refine Ex_iaddN dX0_nameHere_80 ?_ | refine Ex_iadd dX0_nameHere_80 ?_
    refine Ex_iret dX0_nameHere_81 (by first | rfl | exact narrow_bI) ?_
    exact ⟨_, rfl, (if_pos ⟨h1, hg, Int32.not_lt.mpr h69⟩).symm, rfl, rfl⟩
  · refine Ex_iconst (v := (-1)) dX0_nameHere_72 (by rfl) ?_
    refine Ex_goto (tgt := 81) dX0_nameHere_73 (by decide) ?_
    refine Ex_iret dX0_nameHere_81 (by first | rfl | exact narrow_bI) ?_
    exact ⟨_, rfl, (if_neg (fun q => q.2.2 (Int32.not_le.mp h69))).symm, rfl, rfl⟩
set_option maxRecDepth 100000 in
set_option maxHeartbeats 4000000 in
theorem c0_nameHere {T : TC} {I : MI} {G : MG} (d : Nat) {D NN : Nat} (hD : DS T G D NN) {tb : Nat → Nat} {N : Nat} (hT : TpC I D tb N) {ky : Int32} {f a : Nat} {q : List Int32} (hG : GrR I D tb N ky f q a) (hf : f ≤ N) (hl : isLe tb N f) (kk : Nat) (hk3 : kk < 3) (hky : ky = nI kk) : OkP T mX0_nameHere (d + 4) [.ref (D + 61)] I G (if gE tb N f - f = 1 ∧ ¬ glu tb N f ∧ ¬ nmI ky (nI (tb f)) < 0 then nI 10000 + nmI ky (nI (tb f)) else (-1)) := by
  refine Ok_of (own := RX0) (by decide) rfl (cat1 rfl) (Nat.le_of_ble_eq_true rfl) ?_
  show Ex T RX0 cX0_nameHere 3 (d + 4) _ 0 [some (.ref (D + 61)), none, none] [] I G (0, 0)
  have h96 := hT.1
  have hge := gE_le (tb := tb) hf
  have hk4 : I (D + 61) 4 = nI kk := hG.2.2.1.trans hky
  refine Ex_aload_n dX0_nameHere_0 rfl ?_
  refine Ex_geti dX0_nameHere_1 fX0_26 (ds_g hD).1 ?_
  refine Ex_top hG.2.2.2.2.1 ?_
  refine Ex_aload_n dX0_nameHere_4 rfl ?_
  refine Ex_geti dX0_nameHere_5 fX0_70 (ds_g hD).1 ?_
  refine Ex_top hG.2.2.2.1 ?_
  refine Ex_isubN (by omega) dX0_nameHere_8 ?_
  refine Ex_iconst (v := nI 1) dX0_nameHere_9 (by rfl) ?_
  refine Ex_icmp_neN (by omega) (by omega) (tgt := 20) dX0_nameHere_10 (by decide) (fun h10 => ?_) (fun h10 => ?_)
  · refine Ex_iconst (v := (-1)) dX0_nameHere_20 (by rfl) ?_
    refine Ex_iret dX0_nameHere_21 (by first | rfl | exact narrow_bI) ?_
    exact ⟨_, rfl, (if_neg (fun q => h10 q.1)).symm, rfl, rfl⟩
  · refine Ex_aload_n dX0_nameHere_13 rfl ?_
    refine Ex_V0p dX0_nameHere_14 sX0_90 (ds_g hD).1 (Nat.le_of_ble_eq_true rfl) (c0_isGlued (d + 2) hD hT hG hf) ?_
    refine Ex_if_eqB (tgt := 22) dX0_nameHere_17 (by decide) (fun h17 => ?_) (fun h17 => ?_)
    · refine Ex_aload_n dX0_nameHere_22 rfl ?_
      refine Ex_geti dX0_nameHere_23 fX0_36 (ds_g hD).1 ?_
      refine Ex_top hk4 ?_
      refine Ex_if_ne (tgt := 34) dX0_nameHere_26 (by decide) (fun h26 => ?_) (fun h26 => ?_)
      · refine Ex_aload_n dX0_nameHere_34 rfl ?_
        refine Ex_geti dX0_nameHere_35 fX0_36 (ds_g hD).1 ?_
        refine Ex_top hk4 ?_
        refine Ex_iconst (v := nI 1) dX0_nameHere_38 (by rfl) ?_
        refine Ex_icmp_neN (by omega) (by omega) (tgt := 47) dX0_nameHere_39 (by decide) (fun h39 => ?_) (fun h39 => ?_)
        · refine Ex_ldcS (i := 2) (by omega) rfl dX0_nameHere_47 ?_
          have k2 : kk = 2 := by
            have : ¬ kk = 0 := fun e => h26 (by rw [e]; rfl)
            omega
          exact t0_name d hD hT hG hf hl h10 h17 2 (by omega) (by rw [hky, k2])
        · refine Ex_ldcS (i := 1) (by omega) rfl dX0_nameHere_42 ?_
          refine Ex_goto (tgt := 49) dX0_nameHere_44 (by decide) ?_
          exact t0_name d hD hT hG hf hl h10 h17 1 (by omega) (by rw [hky, h39])
      · refine Ex_ldcS (i := 0) (by omega) rfl dX0_nameHere_29 ?_
        refine Ex_goto (tgt := 49) dX0_nameHere_31 (by decide) ?_
        exact t0_name d hD hT hG hf hl h10 h17 0 (by omega) (by rw [hky]; exact h26)
    · refine Ex_iconst (v := (-1)) dX0_nameHere_20 (by rfl) ?_
      refine Ex_iret dX0_nameHere_21 (by first | rfl | exact narrow_bI) ?_
      exact ⟨_, rfl, (if_neg (fun q => q.2.1 h17)).symm, rfl, rfl⟩
