/-! meanings of the public methods: answers (r_) and new states (g_) -/
abbrev cBAD : Int32 := (-1000000001)
abbrev cNO : Int32 := (-1000000002)
abbrev cFULL : Int32 := (-1000000003)
abbrev cNONE : Int32 := (-1000000005)
abbrev cNOTHING : Int32 := (-1000000011)
abbrev cKIND : Int32 := (-1000000012)
abbrev cINDEX : Int32 := (-1000000013)
abbrev cSIZE : Int32 := (-1000000014)
abbrev inR (x : Int32) (n : Nat) : Prop := 0 ≤ x ∧ x < nI n
abbrev cl (x : Int32) : Nat := x.toNatClampNeg
theorem inR_iff {v : Int32} {n : Nat} (hn : n + 1 < 2 ^ 31) : (nI 0 ≤ v ∧ v ≤ nI n) ↔ inR v (n + 1) := by
  rw [rng_k2 (by omega)]
  show _ ↔ (0 ≤ v ∧ v < nI (n + 1))
  rw [rng_k hn]
  constructor
  · rintro ⟨k, hk, e⟩; exact ⟨k, by omega, e⟩
  · rintro ⟨k, hk, e⟩; exact ⟨k, by omega, e⟩
theorem c9_inR {T : TC} {I : MI} {G : MG} (d : Nat) (v : Int32) (n : Nat) (hn : n + 1 < 2 ^ 31) : OkP T mX9_in d [.int v, .int (nI 0), .int (nI n)] I G (bI (inR v (n + 1))) := (c9_in d v (nI 0) (nI n)).of (bI_congr (inR_iff hn))
theorem c9_isDeedR {T : TC} {I : MI} {G : MG} (d : Nat) (v : Int32) : OkP T mX9_isDeed (d + 1) [.int v] I G (bI (inR v 10)) := (c9_isDeed d v).of (bI_congr (inR_iff (n := 9) (by omega)))
theorem c9_isS {T : TC} {I : MI} {G : MG} (d : Nat) {M : Nat} (hM : MSh T G M) (hW : WfG (I (M + 1))) (s : Int32) : OkP T mX9_isSurface (d + 1) [.ref M, .int s] I G (bI (inR s (nS (I (M + 1))))) := c9_isSurface d hM s _ hW.1 hW.2.1
abbrev in1 (x : Int32) (n : Nat) : Prop := nI 1 ≤ x ∧ x ≤ nI n
theorem in1_k {v : Int32} {n : Nat} (hn : n < 2 ^ 31) : in1 v n ↔ ∃ k, 1 ≤ k ∧ k ≤ n ∧ v = nI k := by
  constructor
  · rintro ⟨h1, h2⟩
    obtain ⟨j, hj, rfl⟩ := nI_of (x := v) (by rw [i_lt]; rw [i_le] at h1; have : (nI 1).toInt = 1 := rfl; have := iz_0; omega)
    exact ⟨j, (nI_leI (by omega) hj).mp h1, (nI_leI hj hn).mp h2, rfl⟩
  · rintro ⟨k, h0, hk, rfl⟩
    exact ⟨nI_le h0 (by omega), nI_le hk hn⟩
def okSf (kind damp : Int32) : Prop := inR kind 6 ∧ inR damp 10
def r_surface (g : Nat → Int32) (kind damp : Int32) : Int32 := if inR kind 6 ∧ inR damp 10 then (if nS g = 8 then cFULL else nI (nS g)) else cBAD
def g_surface (g : Nat → Int32) (kind damp : Int32) : Nat → Int32 := if inR kind 6 ∧ inR damp 10 then (if nS g = 8 then g else comesG g (nS g) kind damp) else g
def csG (g : Nat → Int32) (s : Nat) : Nat → Int32
  | 0 => nI 0
  | k + 1 => csG g s k ||| (if catchI (g (8 + 17 * s + 0)) (g (8 + 17 * s + 1)) (nI k) (g 2) = 0 then nI 0 else nI 1 <<< (nI k &&& 31))
def worthK (kind many : Int32) : Int32 := if kind = nI 1 then many + nI 4 else if kind = nI 2 then nI 24 - many else if kind = nI 3 then nI 2 * (many + nI 4) else if kind = nI 4 then nI 21 - many else if kind = nI 5 then nI 7 else many
def r_told (g : Nat → Int32) (s what : Int32) : Int32 := if inR s (nS g) then (if what = nI 0 then g (8 + 17 * cl s + 0) else if what = nI 1 then g (8 + 17 * cl s + 1) else if what = nI 2 then g (8 + 17 * cl s + 2) else if what = nI 3 then g (8 + 17 * cl s + 3) else if what = nI 4 then csG g (cl s) 10 else if what = nI 5 then liftF g (cl s) else if what = nI 6 then worthK (g (8 + 17 * cl s + 0)) (g (8 + 17 * cl s + 2)) else cBAD) else cBAD
def r_layer (g : Nat → Int32) (s k : Int32) : Int32 := if inR s (nS g) ∧ inR k 12 then (if cl k < mN g (cl s) then g (8 + 17 * cl s + (4 + cl k)) else cNONE) else cBAD
abbrev undP (kind one : Int32) : Prop := one = 0 ∨ kind = one ∨ (one = nI 1 ∧ kind = nI 3) ∨ (one = nI 2 ∧ kind = nI 4)
def r_as (g : Nat → Int32) (s kind : Int32) : Int32 := if inR s (nS g) ∧ inR kind 6 then (if undP (g (8 + 17 * cl s + 0)) kind then g (8 + 17 * cl s + 1) else cKIND) else cBAD
def r_turns (g : Nat → Int32) (s v : Int32) : Int32 := if inR s (nS g) ∧ inR v 6 then g (8 + 17 * cl s) else cBAD
def g_turns (g : Nat → Int32) (s v : Int32) : Nat → Int32 := if inR s (nS g) ∧ inR v 6 then upd g (8 + 17 * cl s) v else g
def r_damp (g : Nat → Int32) (s v : Int32) : Int32 := if inR s (nS g) ∧ inR v 10 then g (8 + 17 * cl s + 1) else cBAD
def g_damp (g : Nat → Int32) (s v : Int32) : Nat → Int32 := if inR s (nS g) ∧ inR v 10 then upd g (8 + 17 * cl s + 1) v else g
def r_rule (g : Nat → Int32) (w v : Int32) : Int32 := if inR w 2 ∧ inR v 101 then g (3 + cl w) else cBAD
def g_rule (g : Nat → Int32) (w v : Int32) : Nat → Int32 := if inR w 2 ∧ inR v 101 then upd g (3 + cl w) v else g
def r_settles (g : Nat → Int32) (s v : Int32) : Int32 := if inR s (nS g) ∧ inR v 10 then settleG g (cl s) (mN g (cl s)) v (8 + 17 * cl s + 2) else cBAD
def g_settles (g : Nat → Int32) (s v : Int32) : Nat → Int32 := if inR s (nS g) ∧ inR v 10 then settleG g (cl s) (mN g (cl s)) v else g
def r_sweeps (g : Nat → Int32) (s : Int32) : Int32 := if inR s (nS g) then goneF g (cl s) else cBAD
def g_sweeps (g : Nat → Int32) (s : Int32) : Nat → Int32 := if inR s (nS g) then sweepG g (cl s) else g
def r_lifts (g : Nat → Int32) (s k : Int32) : Int32 := if inR s (nS g) ∧ inR k 12 then (if cl k < mN g (cl s) then g (8 + 17 * cl s + (4 + cl k)) else cNONE) else cBAD
def g_lifts (g : Nat → Int32) (s k : Int32) : Nat → Int32 := if inR s (nS g) ∧ inR k 12 then (if cl k < mN g (cl s) then takeG g (cl s) (mN g (cl s)) (cl k) else g) else g
def dealS (g : Nat → Int32) : Nat → Int32 := comesG (drawG (drawG g)) (nS g) (nI (dw (g 0) % 6)) (nI (dw (drawG g 0) % 10))
def dealG (g : Nat → Int32) : Nat → (Nat → Int32)
  | 0 => g
  | k + 1 => dealS (dealG g k)
def dealN (g : Nat → Int32) (n : Nat) : Nat := if n ≤ 8 - nS g then n else 8 - nS g
def r_deal (g : Nat → Int32) (n : Int32) : Int32 := if in1 n 8 then nI (dealN g (cl n)) else cBAD
def g_deal (g : Nat → Int32) (n : Int32) : Nat → Int32 := if in1 n 8 then dealG g (dealN g (cl n)) else g
/-- how many days go by: up to 9999 -/
def daysN (g : Nat → Int32) (n : Nat) : Nat := if n ≤ 9999 - cl (g 2) then n else 9999 - cl (g 2)
def r_days (g : Nat → Int32) (n : Int32) : Int32 := if in1 n 100 then daysG g (daysN g (cl n)) 5 - g 5 else cBAD
def g_days (g : Nat → Int32) (n : Int32) : Nat → Int32 := if in1 n 100 then daysG g (daysN g (cl n)) else g
def bareG (g : Nat → Int32) : Nat → Int32
  | 0 => nI 0
  | s + 1 => bareG g s ||| (if g (8 + 17 * s + 2) = 0 then nI 1 <<< (nI s &&& 31) else nI 0)
def r_hall (g : Nat → Int32) (w : Int32) : Int32 := if w = nI 0 then g 5 else if w = nI 1 then g 6 else if w = nI 2 then sumG g 3 (nS g) else if w = nI 3 then sumG g 2 (nS g) else if w = nI 4 then bareG g (nS g) else cBAD
def DyOk (g : Nat → Int32) : Prop := g 2 = nI (cl (g 2)) ∧ cl (g 2) ≤ 9999
set_option maxRecDepth 100000 in
set_option maxHeartbeats 4000000 in
theorem C9_surface {T : TC} {I : MI} {G : MG} (d : Nat) {M : Nat} (hM : MSh T G M) (hW : WfG (I (M + 1))) (kind damp : Int32)  : OkI T mX9_surface (d + 2) [.ref M, .int kind, .int damp] I G (fun r I' G' => r = r_surface (I (M + 1)) kind damp ∧ I' (M + 1) = g_surface (I (M + 1)) kind damp ∧ Fr (Pd M) I I' ∧ G' = G) := by
  refine Ok_of (own := RX9) (by decide) rfl (cat1 rfl) (Nat.le_of_ble_eq_true rfl) ?_
  show Ex T RX9 cX9_surface 3 (d + 2) _ 0 [some (.ref M), some (.int kind), some (.int damp)] [] I G (0, 0)
  have hn8 := hW.2.1
  refine Ex_iload_n dX9_surface_0 rfl ?_
  refine Ex_iconst (v := nI 0) dX9_surface_1 (by rfl) ?_
  refine Ex_iconst (v := nI 5) dX9_surface_2 (by rfl) ?_
  refine Ex_S3p dX9_surface_3 sX9_91  (Nat.le_of_ble_eq_true rfl) (c9_inR (d + 1) _ 5 (by omega)) ?_
  refine Ex_if_eqB (tgt := 19) dX9_surface_6 (by decide) (fun h6 => ?_) (fun h6 => ?_)
  · refine Ex_ldc dX9_surface_19 kX9_99 ?_
    refine Ex_iret dX9_surface_21 (by first | rfl | exact narrow_bI) ?_
    exact ⟨_, rfl, (by unfold r_surface; rw [if_neg (fun q => h6 q.1)]), (by unfold g_surface; rw [if_neg (fun q => h6 q.1)]), Fr.refl, rfl⟩
  · refine Ex_iload_n dX9_surface_9 rfl ?_
    refine Ex_iconst (v := nI 0) dX9_surface_10 (by rfl) ?_
    refine Ex_bipush (v := nI 9) dX9_surface_11 (by rfl) ?_
    refine Ex_S3p dX9_surface_13 sX9_91  (Nat.le_of_ble_eq_true rfl) (c9_inR (d + 1) _ 9 (by omega)) ?_
    refine Ex_if_neB (tgt := 22) dX9_surface_16 (by decide) (fun h16 => ?_) (fun h16 => ?_)
    · refine Ex_aload_n dX9_surface_22 rfl ?_
      refine Ex_getr dX9_surface_23 fX9_9 hM.1 (mF0 hM).1 ?_
      refine Ex_iconst (v := nI 1) dX9_surface_26 (by rfl) ?_
      refine Ex_iald dX9_surface_27 (mF0 hM).2.1 rfl (by rw [(mF0 hM).2.2]; omega) (by rw [(mF0 hM).2.2]; decide) ?_
      refine Ex_top hW.1 ?_
      refine Ex_bipush (v := nI 8) dX9_surface_28 (by rfl) ?_
      refine Ex_icmp_neN (by omega) (by omega) (tgt := 38) dX9_surface_30 (by decide) (fun h30 => ?_) (fun h30 => ?_)
      · refine Ex_aload_n dX9_surface_38 rfl ?_
        refine Ex_iload_n dX9_surface_39 rfl ?_
        refine Ex_iload_n dX9_surface_40 rfl ?_
        refine Ex_V2i dX9_surface_41 sX9_101 hM.1 (Nat.le_of_ble_eq_true rfl) (c9_comes d hM kind damp _ hW.1 (by omega)) ?_
        rintro r _ _ ⟨rfl, rfl, rfl⟩
        refine Ex_iret dX9_surface_44 (by first | rfl | exact narrow_bI) ?_
        exact ⟨_, rfl, (by unfold r_surface; rw [if_pos ⟨h6, h16⟩, if_neg h30]), (by unfold g_surface; rw [if_pos ⟨h6, h16⟩, if_neg h30, rowI_s]), Fr.row (Or.inl rfl), rfl⟩
      · refine Ex_ldc dX9_surface_33 kX9_100 ?_
        refine Ex_goto (tgt := 44) dX9_surface_35 (by decide) ?_
        refine Ex_iret dX9_surface_44 (by first | rfl | exact narrow_bI) ?_
        exact ⟨_, rfl, (by unfold r_surface; rw [if_pos ⟨h6, h16⟩, if_pos h30]), (by unfold g_surface; rw [if_pos ⟨h6, h16⟩, if_pos h30]), Fr.refl, rfl⟩
    · refine Ex_ldc dX9_surface_19 kX9_99 ?_
      refine Ex_iret dX9_surface_21 (by first | rfl | exact narrow_bI) ?_
      exact ⟨_, rfl, (by unfold r_surface; rw [if_neg (fun q => h16 q.2)]), (by unfold g_surface; rw [if_neg (fun q => h16 q.2)]), Fr.refl, rfl⟩
theorem worthK_d {x m : Int32} (h : x.toInt < 1 ∨ 5 < x.toInt) : worthK x m = m := by
  unfold worthK
  rw [if_neg (swn h (by decide) (by decide)), if_neg (swn h (by decide) (by decide)), if_neg (swn h (by decide) (by decide)), if_neg (swn h (by decide) (by decide)), if_neg (swn h (by decide) (by decide))]
set_option maxRecDepth 100000 in
set_option maxHeartbeats 4000000 in
theorem c9_worthOf {T : TC} {I : MI} {G : MG} (d : Nat) {M : Nat} (hM : MSh T G M) (s : Nat) (hs : s < 8) : OkP T mX9_worthOf (d + 1) [.ref M, .int (nI s)] I G (worthK ((I (M + 1)) (8 + 17 * s + 0)) ((I (M + 1)) (8 + 17 * s + 2))) := by
  refine Ok_of (own := RX9) (by decide) rfl (cat1 rfl) (Nat.le_of_ble_eq_true rfl) ?_
  show Ex T RX9 cX9_worthOf 3 (d + 1) _ 0 [some (.ref M), some (.int (nI s)), none] [] I G (0, 0)
  refine Ex_aload_n dX9_worthOf_0 rfl ?_
  refine Ex_iload_n dX9_worthOf_1 rfl ?_
  refine Ex_iconst (v := nI 2) dX9_worthOf_2 (by rfl) ?_
  refine Ex_V2p dX9_worthOf_3 sX9_105 hM.1 (Nat.le_of_ble_eq_true rfl) (c9_of d hM s 2 (by omega)) ?_
  refine Ex_istore_n dX9_worthOf_6 (by decide) rfl ?_
  simp only [st_n0, st_n1, st_n2, st_n3, List.set_cons_zero, List.set_cons_succ]
  refine Ex_aload_n dX9_worthOf_7 rfl ?_
  refine Ex_iload_n dX9_worthOf_8 rfl ?_
  refine Ex_iconst (v := nI 0) dX9_worthOf_9 (by rfl) ?_
  refine Ex_V2p dX9_worthOf_10 sX9_105 hM.1 (Nat.le_of_ble_eq_true rfl) (c9_of d hM s 0 (by omega)) ?_
  rcases sw_cases (I (M + 1) (8 + 17 * s + 0)) (1) (5) (by decide) (by decide) with ⟨k13, hk13, hl13, hx13⟩ | hx13
  · rcases (show k13 = 1 ∨ k13 = 2 ∨ k13 = 3 ∨ k13 = 4 ∨ k13 = 5 by omega) with rfl | rfl | rfl | rfl | rfl
    · have hx13 : I (M + 1) (8 + 17 * s + 0) = nI 1 := hx13
      refine Ex_tabIn (tgt := 48) dX9_worthOf_13 (by rw [hx13]; decide) (by rw [hx13]; decide) (off := 35) (by rw [hx13]; rfl) (by decide) ?_
      refine Ex_iload_n dX9_worthOf_48 rfl ?_
      refine Ex_iconst (v := nI 4) dX9_worthOf_49 (by rfl) ?_
      first | with_reducible refine Ex_iaddN dX9_worthOf_50 ?_ | refine Ex_iadd dX9_worthOf_50 ?_
      refine Ex_iret dX9_worthOf_51 (by first | rfl | exact narrow_bI) ?_
      exact ⟨_, rfl, (by unfold worthK; rw [hx13, if_pos rfl]), rfl, rfl⟩
    · have hx13 : I (M + 1) (8 + 17 * s + 0) = nI 2 := hx13
      refine Ex_tabIn (tgt := 52) dX9_worthOf_13 (by rw [hx13]; decide) (by rw [hx13]; decide) (off := 39) (by rw [hx13]; rfl) (by decide) ?_
      refine Ex_bipush (v := nI 24) dX9_worthOf_52 (by rfl) ?_
      refine Ex_iload_n dX9_worthOf_54 rfl ?_
      refine Ex_isub dX9_worthOf_55 ?_
      refine Ex_iret dX9_worthOf_56 (by first | rfl | exact narrow_bI) ?_
      exact ⟨_, rfl, (by unfold worthK; rw [hx13, if_neg (by decide), if_pos rfl]), rfl, rfl⟩
    · have hx13 : I (M + 1) (8 + 17 * s + 0) = nI 3 := hx13
      refine Ex_tabIn (tgt := 57) dX9_worthOf_13 (by rw [hx13]; decide) (by rw [hx13]; decide) (off := 44) (by rw [hx13]; rfl) (by decide) ?_
      refine Ex_iconst (v := nI 2) dX9_worthOf_57 (by rfl) ?_
      refine Ex_iload_n dX9_worthOf_58 rfl ?_
      refine Ex_iconst (v := nI 4) dX9_worthOf_59 (by rfl) ?_
      first | with_reducible refine Ex_iaddN dX9_worthOf_60 ?_ | refine Ex_iadd dX9_worthOf_60 ?_
      first | with_reducible refine Ex_imulN dX9_worthOf_61 ?_ | refine Ex_imul dX9_worthOf_61 ?_
      refine Ex_iret dX9_worthOf_62 (by first | rfl | exact narrow_bI) ?_
      exact ⟨_, rfl, (by unfold worthK; rw [hx13, if_neg (by decide), if_neg (by decide), if_pos rfl]), rfl, rfl⟩
    · have hx13 : I (M + 1) (8 + 17 * s + 0) = nI 4 := hx13
      refine Ex_tabIn (tgt := 63) dX9_worthOf_13 (by rw [hx13]; decide) (by rw [hx13]; decide) (off := 50) (by rw [hx13]; rfl) (by decide) ?_
      refine Ex_bipush (v := nI 21) dX9_worthOf_63 (by rfl) ?_
      refine Ex_iload_n dX9_worthOf_65 rfl ?_
      refine Ex_isub dX9_worthOf_66 ?_
      refine Ex_iret dX9_worthOf_67 (by first | rfl | exact narrow_bI) ?_
      exact ⟨_, rfl, (by unfold worthK; rw [hx13, if_neg (by decide), if_neg (by decide), if_neg (by decide), if_pos rfl]), rfl, rfl⟩
    · have hx13 : I (M + 1) (8 + 17 * s + 0) = nI 5 := hx13
      refine Ex_tabIn (tgt := 68) dX9_worthOf_13 (by rw [hx13]; decide) (by rw [hx13]; decide) (off := 55) (by rw [hx13]; rfl) (by decide) ?_
      refine Ex_bipush (v := nI 7) dX9_worthOf_68 (by rfl) ?_
      refine Ex_iret dX9_worthOf_70 (by first | rfl | exact narrow_bI) ?_
      exact ⟨_, rfl, (by unfold worthK; rw [hx13, if_neg (by decide), if_neg (by decide), if_neg (by decide), if_neg (by decide), if_pos rfl]), rfl, rfl⟩
  · refine Ex_tabOut (tgt := 71) dX9_worthOf_13 hx13 (by decide) ?_
    refine Ex_iload_n dX9_worthOf_71 rfl ?_
    refine Ex_iret dX9_worthOf_72 (by first | rfl | exact narrow_bI) ?_
    exact ⟨_, rfl, (by rw [worthK_d hx13]), rfl, rfl⟩
set_option maxRecDepth 100000 in
set_option maxHeartbeats 4000000 in
theorem l9_told {T : TC} {I : MI} {G : MG} {F : FinT} {b : Nat × Nat} (d : Nat) {M : Nat} (hM : MSh T G M) (s : Nat) (hs : s < 8) (w : Int32) (kx : Ex T RX9 cX9_told 5 (d + 4) F 66 [some (.ref M), some (.int (nI s)), some (.int w), some (.int (csG (I (M + 1)) s 10)), some (.int (nI 10))] [] I G b) : ∀ i k, k + i = 10  → Ex T RX9 cX9_told 5 (d + 4) F 66 [some (.ref M), some (.int (nI s)), some (.int w), some (.int (csG (I (M + 1)) s k)), some (.int (nI k))] [] I G b := by
  intro i
  induction i with
  | zero => intro k h0; have e0 : k = 10 := by omega
            subst e0; exact kx
  | succ i ih0 =>
    intro k h0
    have ih := ih0 (k + 1)
    refine Ex_iload dX9_told_66 rfl ?_
    refine Ex_bipush (v := nI 10) dX9_told_68 (by rfl) ?_
    refine Ex_icmp_geN (by omega) (by omega) (tgt := 100) dX9_told_70 (by decide) (fun h70 => ?_) (fun h70 => ?_)
    · omega
    · refine Ex_iload_n dX9_told_73 rfl ?_
      refine Ex_aload_n dX9_told_74 rfl ?_
      refine Ex_iload_n dX9_told_75 rfl ?_
      refine Ex_iload dX9_told_76 rfl ?_
      refine Ex_V2p dX9_told_78 sX9_123 hM.1 (Nat.le_of_ble_eq_true rfl) (c9_doesCatch (d + 2) hM s (nI k) hs) ?_
      refine Ex_if_eq (tgt := 91) dX9_told_81 (by decide) (fun h81 => ?_) (fun h81 => ?_)
      · refine Ex_iconst (v := nI 0) dX9_told_91 (by rfl) ?_
        refine Ex_ior dX9_told_92 ?_
        refine Ex_istore_n dX9_told_93 (by decide) rfl ?_
        simp only [st_n0, st_n1, st_n2, st_n3, List.set_cons_zero, List.set_cons_succ]
        first | refine Ex_iincN (m := 1) dX9_told_94 rfl rfl (by decide) rfl ?_ | refine Ex_iinc dX9_told_94 rfl rfl (by decide) rfl ?_
        simp only [List.set_cons_zero, List.set_cons_succ]
        refine Ex_goto (tgt := 66) dX9_told_97 (by decide) ?_
        have ec : csG (I (M + 1)) s (k + 1) = csG (I (M + 1)) s k ||| nI 0 := by show csG _ s k ||| _ = _; rw [if_pos h81]
        have key := ih (by omega)
        rw [ec] at key
        exact key
      · refine Ex_iconst (v := nI 1) dX9_told_84 (by rfl) ?_
        refine Ex_iload dX9_told_85 rfl ?_
        refine Ex_ishl dX9_told_87 ?_
        refine Ex_goto (tgt := 92) dX9_told_88 (by decide) ?_
        refine Ex_ior dX9_told_92 ?_
        refine Ex_istore_n dX9_told_93 (by decide) rfl ?_
        simp only [st_n0, st_n1, st_n2, st_n3, List.set_cons_zero, List.set_cons_succ]
        first | refine Ex_iincN (m := 1) dX9_told_94 rfl rfl (by decide) rfl ?_ | refine Ex_iinc dX9_told_94 rfl rfl (by decide) rfl ?_
        simp only [List.set_cons_zero, List.set_cons_succ]
        refine Ex_goto (tgt := 66) dX9_told_97 (by decide) ?_
        have ec : csG (I (M + 1)) s (k + 1) = csG (I (M + 1)) s k ||| (nI 1 <<< (nI k &&& 31)) := by show csG _ s k ||| _ = _; rw [if_neg h81]
        have key := ih (by omega)
        rw [ec] at key
        exact key
set_option maxRecDepth 100000 in
set_option maxHeartbeats 4000000 in
theorem C9_told {T : TC} {I : MI} {G : MG} (d : Nat) {M : Nat} (hM : MSh T G M) (hW : WfG (I (M + 1))) (s w : Int32)  : OkI T mX9_told (d + 4) [.ref M, .int s, .int w] I G (fun r I' G' => r = r_told (I (M + 1)) s w ∧ I' (M + 1) = (I (M + 1)) ∧ Fr (Pd M) I I' ∧ G' = G) := by
  refine Ok_of (own := RX9) (by decide) rfl (cat1 rfl) (Nat.le_of_ble_eq_true rfl) ?_
  show Ex T RX9 cX9_told 5 (d + 4) _ 0 [some (.ref M), some (.int s), some (.int w), none, none] [] I G (0, 0)
  refine Ex_aload_n dX9_told_0 rfl ?_
  refine Ex_iload_n dX9_told_1 rfl ?_
  refine Ex_V1p dX9_told_2 sX9_119 hM.1 (Nat.le_of_ble_eq_true rfl) (c9_isS (d + 2) hM hW s) ?_
  refine Ex_if_neB (tgt := 11) dX9_told_5 (by decide) (fun h5 => ?_) (fun h5 => ?_)
  · have h5' := h5
    obtain ⟨s', hs', e5⟩ := (rng_k (by have := hW.2.1; omega)).mp h5'
    have hcl : cl (nI s') = s' := cl_nI (by have := hW.2.1; omega)
    have hs8 : s' < 8 := by have := hW.2.1; omega
    subst e5
    refine Ex_iconst (v := nI 0) dX9_told_11 (by rfl) ?_
    refine Ex_istore_n dX9_told_12 (by decide) rfl ?_
    simp only [st_n0, st_n1, st_n2, st_n3, List.set_cons_zero, List.set_cons_succ]
    refine Ex_iload_n dX9_told_13 rfl ?_
    rcases sw_cases (w) (0) (6) (by decide) (by decide) with ⟨k14, hk14, hl14, hx14⟩ | hx14
    · rcases (show k14 = 0 ∨ k14 = 1 ∨ k14 = 2 ∨ k14 = 3 ∨ k14 = 4 ∨ k14 = 5 ∨ k14 = 6 by omega) with rfl | rfl | rfl | rfl | rfl | rfl | rfl
      · have hx14 : w = nI 0 := hx14
        refine Ex_tabIn (tgt := 56) dX9_told_14 (by rw [hx14]; decide) (by rw [hx14]; decide) (off := 42) (by rw [hx14]; rfl) (by decide) ?_
        have hw' := hx14
        subst hw'
        refine Ex_aload_n dX9_told_56 rfl ?_
        refine Ex_iload_n dX9_told_57 rfl ?_
        refine Ex_iload_n dX9_told_58 rfl ?_
        refine Ex_V2p dX9_told_59 sX9_105 hM.1 (Nat.le_of_ble_eq_true rfl) (c9_of (d + 3) hM s' 0 (by omega)) ?_
        refine Ex_iret dX9_told_62 (by first | rfl | exact narrow_bI) ?_
        exact ⟨_, rfl, (by unfold r_told; rw [if_pos h5, if_pos rfl, hcl]), rfl, Fr.refl, rfl⟩
      · have hx14 : w = nI 1 := hx14
        refine Ex_tabIn (tgt := 56) dX9_told_14 (by rw [hx14]; decide) (by rw [hx14]; decide) (off := 42) (by rw [hx14]; rfl) (by decide) ?_
        have hw' := hx14
        subst hw'
        refine Ex_aload_n dX9_told_56 rfl ?_
        refine Ex_iload_n dX9_told_57 rfl ?_
        refine Ex_iload_n dX9_told_58 rfl ?_
        refine Ex_V2p dX9_told_59 sX9_105 hM.1 (Nat.le_of_ble_eq_true rfl) (c9_of (d + 3) hM s' 1 (by omega)) ?_
        refine Ex_iret dX9_told_62 (by first | rfl | exact narrow_bI) ?_
        exact ⟨_, rfl, (by unfold r_told; rw [if_pos h5, if_neg (by decide), if_pos rfl, hcl]), rfl, Fr.refl, rfl⟩
      · have hx14 : w = nI 2 := hx14
        refine Ex_tabIn (tgt := 56) dX9_told_14 (by rw [hx14]; decide) (by rw [hx14]; decide) (off := 42) (by rw [hx14]; rfl) (by decide) ?_
        have hw' := hx14
        subst hw'
        refine Ex_aload_n dX9_told_56 rfl ?_
        refine Ex_iload_n dX9_told_57 rfl ?_
        refine Ex_iload_n dX9_told_58 rfl ?_
        refine Ex_V2p dX9_told_59 sX9_105 hM.1 (Nat.le_of_ble_eq_true rfl) (c9_of (d + 3) hM s' 2 (by omega)) ?_
        refine Ex_iret dX9_told_62 (by first | rfl | exact narrow_bI) ?_
        exact ⟨_, rfl, (by unfold r_told; rw [if_pos h5, if_neg (by decide), if_neg (by decide), if_pos rfl, hcl]), rfl, Fr.refl, rfl⟩
      · have hx14 : w = nI 3 := hx14
        refine Ex_tabIn (tgt := 56) dX9_told_14 (by rw [hx14]; decide) (by rw [hx14]; decide) (off := 42) (by rw [hx14]; rfl) (by decide) ?_
        have hw' := hx14
        subst hw'
        refine Ex_aload_n dX9_told_56 rfl ?_
        refine Ex_iload_n dX9_told_57 rfl ?_
        refine Ex_iload_n dX9_told_58 rfl ?_
        refine Ex_V2p dX9_told_59 sX9_105 hM.1 (Nat.le_of_ble_eq_true rfl) (c9_of (d + 3) hM s' 3 (by omega)) ?_
        refine Ex_iret dX9_told_62 (by first | rfl | exact narrow_bI) ?_
        exact ⟨_, rfl, (by unfold r_told; rw [if_pos h5, if_neg (by decide), if_neg (by decide), if_neg (by decide), if_pos rfl, hcl]), rfl, Fr.refl, rfl⟩
      · have hx14 : w = nI 4 := hx14
        refine Ex_tabIn (tgt := 63) dX9_told_14 (by rw [hx14]; decide) (by rw [hx14]; decide) (off := 49) (by rw [hx14]; rfl) (by decide) ?_
        have hw' := hx14
        subst hw'
        refine Ex_iconst (v := nI 0) dX9_told_63 (by rfl) ?_
        refine Ex_istore dX9_told_64 (by decide) rfl ?_
        simp only [List.set_cons_zero, List.set_cons_succ]
        refine l9_told d hM s' hs8 _ ?_ 10 0 (by omega)
        refine Ex_iload dX9_told_66 rfl ?_
        refine Ex_bipush (v := nI 10) dX9_told_68 (by rfl) ?_
        refine Ex_icmp_geN (by omega) (by omega) (tgt := 100) dX9_told_70 (by decide) (fun h70 => ?_) (fun h70 => ?_)
        · refine Ex_iload_n dX9_told_100 rfl ?_
          refine Ex_iret dX9_told_101 (by first | rfl | exact narrow_bI) ?_
          exact ⟨_, rfl, (by unfold r_told; rw [if_pos h5, if_neg (by decide), if_neg (by decide), if_neg (by decide), if_neg (by decide), if_pos rfl, hcl]), rfl, Fr.refl, rfl⟩
        · omega
      · have hx14 : w = nI 5 := hx14
        refine Ex_tabIn (tgt := 102) dX9_told_14 (by rw [hx14]; decide) (by rw [hx14]; decide) (off := 88) (by rw [hx14]; rfl) (by decide) ?_
        have hw' := hx14
        subst hw'
        refine Ex_aload_n dX9_told_102 rfl ?_
        refine Ex_iload_n dX9_told_103 rfl ?_
        refine Ex_V1i dX9_told_104 sX9_127 hM.1 (Nat.le_of_ble_eq_true rfl) (c9_liftsOf (d + 1) hM s' hW hs8) ?_
        rintro r I5 _ ⟨rfl, hF5, rfl⟩
        refine Ex_iret dX9_told_107 (by first | rfl | exact narrow_bI) ?_
        exact ⟨_, rfl, (by unfold r_told; rw [if_pos h5, if_neg (by decide), if_neg (by decide), if_neg (by decide), if_neg (by decide), if_neg (by decide), if_pos rfl, hcl]), hF5 _ (by omega), hF5.mono (fun a h => Or.inr h), rfl⟩
      · have hx14 : w = nI 6 := hx14
        refine Ex_tabIn (tgt := 108) dX9_told_14 (by rw [hx14]; decide) (by rw [hx14]; decide) (off := 94) (by rw [hx14]; rfl) (by decide) ?_
        have hw' := hx14
        subst hw'
        refine Ex_aload_n dX9_told_108 rfl ?_
        refine Ex_iload_n dX9_told_109 rfl ?_
        refine Ex_V1p dX9_told_110 sX9_130 hM.1 (Nat.le_of_ble_eq_true rfl) (c9_worthOf (d + 2) hM s' hs8) ?_
        refine Ex_iret dX9_told_113 (by first | rfl | exact narrow_bI) ?_
        exact ⟨_, rfl, (by unfold r_told; rw [if_pos h5, if_neg (by decide), if_neg (by decide), if_neg (by decide), if_neg (by decide), if_neg (by decide), if_neg (by decide), if_pos rfl, hcl]), rfl, Fr.refl, rfl⟩
    · refine Ex_tabOut (tgt := 114) dX9_told_14 hx14 (by decide) ?_
      refine Ex_ldc dX9_told_114 kX9_99 ?_
      refine Ex_iret dX9_told_116 (by first | rfl | exact narrow_bI) ?_
      exact ⟨_, rfl, (by unfold r_told; rw [if_pos h5, if_neg (swn hx14 (by decide) (by decide)), if_neg (swn hx14 (by decide) (by decide)), if_neg (swn hx14 (by decide) (by decide)), if_neg (swn hx14 (by decide) (by decide)), if_neg (swn hx14 (by decide) (by decide)), if_neg (swn hx14 (by decide) (by decide)), if_neg (swn hx14 (by decide) (by decide))]), rfl, Fr.refl, rfl⟩
  · refine Ex_ldc dX9_told_8 kX9_99 ?_
    refine Ex_iret dX9_told_10 (by first | rfl | exact narrow_bI) ?_
    exact ⟨_, rfl, (by unfold r_told; rw [if_neg h5]), rfl, Fr.refl, rfl⟩
set_option maxRecDepth 100000 in
set_option maxHeartbeats 4000000 in
theorem C9_layer {T : TC} {I : MI} {G : MG} (d : Nat) {M : Nat} (hM : MSh T G M) (hW : WfG (I (M + 1))) (s k : Int32)  : OkI T mX9_layer (d + 2) [.ref M, .int s, .int k] I G (fun r I' G' => r = r_layer (I (M + 1)) s k ∧ I' (M + 1) = (I (M + 1)) ∧ Fr (Pd M) I I' ∧ G' = G) := by
  refine Ok_of (own := RX9) (by decide) rfl (cat1 rfl) (Nat.le_of_ble_eq_true rfl) ?_
  show Ex T RX9 cX9_layer 3 (d + 2) _ 0 [some (.ref M), some (.int s), some (.int k)] [] I G (0, 0)
  refine Ex_aload_n dX9_layer_0 rfl ?_
  refine Ex_iload_n dX9_layer_1 rfl ?_
  refine Ex_V1p dX9_layer_2 sX9_119 hM.1 (Nat.le_of_ble_eq_true rfl) (c9_isS d hM hW s) ?_
  refine Ex_if_eqB (tgt := 18) dX9_layer_5 (by decide) (fun h5 => ?_) (fun h5 => ?_)
  · refine Ex_ldc dX9_layer_18 kX9_99 ?_
    refine Ex_iret dX9_layer_20 (by first | rfl | exact narrow_bI) ?_
    exact ⟨_, rfl, (by unfold r_layer; rw [if_neg (fun q => h5 q.1)]), rfl, Fr.refl, rfl⟩
  · refine Ex_iload_n dX9_layer_8 rfl ?_
    refine Ex_iconst (v := nI 0) dX9_layer_9 (by rfl) ?_
    refine Ex_bipush (v := nI 11) dX9_layer_10 (by rfl) ?_
    refine Ex_S3p dX9_layer_12 sX9_91  (Nat.le_of_ble_eq_true rfl) (c9_inR (d + 1) _ 11 (by omega)) ?_
    refine Ex_if_neB (tgt := 21) dX9_layer_15 (by decide) (fun h15 => ?_) (fun h15 => ?_)
    · obtain ⟨s', hs', e5⟩ := (rng_k (by have := hW.2.1; omega)).mp h5
      have hcl : cl (nI s') = s' := cl_nI (by have := hW.2.1; omega)
      have hs8 : s' < 8 := by have := hW.2.1; omega
      subst e5
      obtain ⟨k', hk', e15⟩ := (rng_k (by omega)).mp h15
      have hck : cl (nI k') = k' := cl_nI (by omega)
      subst e15
      obtain ⟨hm1, hm2, -, -⟩ := hW.2.2.1 s' hs8
      refine Ex_iload_n dX9_layer_21 rfl ?_
      refine Ex_aload_n dX9_layer_22 rfl ?_
      refine Ex_iload_n dX9_layer_23 rfl ?_
      refine Ex_iconst (v := nI 2) dX9_layer_24 (by rfl) ?_
      refine Ex_V2p dX9_layer_25 sX9_105 hM.1 (Nat.le_of_ble_eq_true rfl) (c9_of (d + 1) hM s' 2 (by omega)) ?_
      refine Ex_top hm1 ?_
      refine Ex_icmp_geN (by omega) (by omega) (tgt := 42) dX9_layer_28 (by decide) (fun h28 => ?_) (fun h28 => ?_)
      · refine Ex_ldc dX9_layer_42 kX9_133 ?_
        refine Ex_iret dX9_layer_44 (by first | rfl | exact narrow_bI) ?_
        exact ⟨_, rfl, (by unfold r_layer; rw [if_pos ⟨h5, h15⟩, hcl, hck, if_neg (by omega)]), rfl, Fr.refl, rfl⟩
      · refine Ex_aload_n dX9_layer_31 rfl ?_
        refine Ex_iload_n dX9_layer_32 rfl ?_
        refine Ex_iconst (v := nI 4) dX9_layer_33 (by rfl) ?_
        refine Ex_iload_n dX9_layer_34 rfl ?_
        first | with_reducible refine Ex_iaddN dX9_layer_35 ?_ | refine Ex_iadd dX9_layer_35 ?_
        refine Ex_V2p dX9_layer_36 sX9_105 hM.1 (Nat.le_of_ble_eq_true rfl) (c9_of (d + 1) hM s' (4 + k') (by omega)) ?_
        refine Ex_goto (tgt := 44) dX9_layer_39 (by decide) ?_
        refine Ex_iret dX9_layer_44 (by first | rfl | exact narrow_bI) ?_
        exact ⟨_, rfl, (by unfold r_layer; rw [if_pos ⟨h5, h15⟩, hcl, hck, if_pos (by omega)]), rfl, Fr.refl, rfl⟩
    · refine Ex_ldc dX9_layer_18 kX9_99 ?_
      refine Ex_iret dX9_layer_20 (by first | rfl | exact narrow_bI) ?_
      exact ⟨_, rfl, (by unfold r_layer; rw [if_neg (fun q => h15 q.2)]), rfl, Fr.refl, rfl⟩
set_option maxRecDepth 100000 in
set_option maxHeartbeats 4000000 in
theorem C9_lifts {T : TC} {I : MI} {G : MG} (d : Nat) {M : Nat} (hM : MSh T G M) (hW : WfG (I (M + 1))) (s k : Int32)  : OkI T mX9_lifts (d + 2) [.ref M, .int s, .int k] I G (fun r I' G' => r = r_lifts (I (M + 1)) s k ∧ I' (M + 1) = g_lifts (I (M + 1)) s k ∧ Fr (Pd M) I I' ∧ G' = G) := by
  refine Ok_of (own := RX9) (by decide) rfl (cat1 rfl) (Nat.le_of_ble_eq_true rfl) ?_
  show Ex T RX9 cX9_lifts 3 (d + 2) _ 0 [some (.ref M), some (.int s), some (.int k)] [] I G (0, 0)
  refine Ex_aload_n dX9_lifts_0 rfl ?_
  refine Ex_iload_n dX9_lifts_1 rfl ?_
  refine Ex_V1p dX9_lifts_2 sX9_119 hM.1 (Nat.le_of_ble_eq_true rfl) (c9_isS d hM hW s) ?_
  refine Ex_if_eqB (tgt := 18) dX9_lifts_5 (by decide) (fun h5 => ?_) (fun h5 => ?_)
  · refine Ex_ldc dX9_lifts_18 kX9_99 ?_
    refine Ex_iret dX9_lifts_20 (by first | rfl | exact narrow_bI) ?_
    exact ⟨_, rfl, (by unfold r_lifts; rw [if_neg (fun q => h5 q.1)]), (by unfold g_lifts; rw [if_neg (fun q => h5 q.1)]), Fr.refl, rfl⟩
  · refine Ex_iload_n dX9_lifts_8 rfl ?_
    refine Ex_iconst (v := nI 0) dX9_lifts_9 (by rfl) ?_
    refine Ex_bipush (v := nI 11) dX9_lifts_10 (by rfl) ?_
    refine Ex_S3p dX9_lifts_12 sX9_91  (Nat.le_of_ble_eq_true rfl) (c9_inR (d + 1) _ 11 (by omega)) ?_
    refine Ex_if_neB (tgt := 21) dX9_lifts_15 (by decide) (fun h15 => ?_) (fun h15 => ?_)
    · obtain ⟨s', hs', e5⟩ := (rng_k (by have := hW.2.1; omega)).mp h5
      have hcl : cl (nI s') = s' := cl_nI (by have := hW.2.1; omega)
      have hs8 : s' < 8 := by have := hW.2.1; omega
      subst e5
      obtain ⟨k', hk', e15⟩ := (rng_k (by omega)).mp h15
      have hck : cl (nI k') = k' := cl_nI (by omega)
      subst e15
      obtain ⟨hm1, hm2, -, -⟩ := hW.2.2.1 s' hs8
      refine Ex_iload_n dX9_lifts_21 rfl ?_
      refine Ex_aload_n dX9_lifts_22 rfl ?_
      refine Ex_iload_n dX9_lifts_23 rfl ?_
      refine Ex_iconst (v := nI 2) dX9_lifts_24 (by rfl) ?_
      refine Ex_V2p dX9_lifts_25 sX9_105 hM.1 (Nat.le_of_ble_eq_true rfl) (c9_of (d + 1) hM s' 2 (by omega)) ?_
      refine Ex_top hm1 ?_
      refine Ex_icmp_geN (by omega) (by omega) (tgt := 40) dX9_lifts_28 (by decide) (fun h28 => ?_) (fun h28 => ?_)
      · refine Ex_ldc dX9_lifts_40 kX9_133 ?_
        refine Ex_iret dX9_lifts_42 (by first | rfl | exact narrow_bI) ?_
        exact ⟨_, rfl, (by unfold r_lifts; rw [if_pos ⟨h5, h15⟩, hcl, hck, if_neg (by omega)]), (by unfold g_lifts; rw [if_pos ⟨h5, h15⟩, hcl, hck, if_neg (by omega)]), Fr.refl, rfl⟩
      · refine Ex_aload_n dX9_lifts_31 rfl ?_
        refine Ex_iload_n dX9_lifts_32 rfl ?_
        refine Ex_iload_n dX9_lifts_33 rfl ?_
        refine Ex_V2i dX9_lifts_34 sX9_141 hM.1 (Nat.le_of_ble_eq_true rfl) (c9_takesOut d hM s' _ k' hm1 hs8 (by omega) (by omega)) ?_
        rintro r _ _ ⟨rfl, rfl, rfl⟩
        refine Ex_goto (tgt := 42) dX9_lifts_37 (by decide) ?_
        refine Ex_iret dX9_lifts_42 (by first | rfl | exact narrow_bI) ?_
        exact ⟨_, rfl, (by unfold r_lifts; rw [if_pos ⟨h5, h15⟩, hcl, hck, if_pos (by omega)]), (by unfold g_lifts; rw [if_pos ⟨h5, h15⟩, hcl, hck, if_pos (by omega), rowI_s]), Fr.row (Or.inl rfl), rfl⟩
    · refine Ex_ldc dX9_lifts_18 kX9_99 ?_
      refine Ex_iret dX9_lifts_20 (by first | rfl | exact narrow_bI) ?_
      exact ⟨_, rfl, (by unfold r_lifts; rw [if_neg (fun q => h15 q.2)]), (by unfold g_lifts; rw [if_neg (fun q => h15 q.2)]), Fr.refl, rfl⟩
set_option maxRecDepth 100000 in
set_option maxHeartbeats 4000000 in
theorem c9_isUnder {T : TC} {I : MI} {G : MG} (d : Nat) (kind one : Int32)  : OkP T mX9_isUnder (d) [.int kind, .int one] I G (bI (undP kind one)) := by
  refine Ok_of (own := RX9) (by decide) rfl (cat1 rfl) (Nat.le_of_ble_eq_true rfl) ?_
  show Ex T RX9 cX9_isUnder 2 (d) _ 0 [some (.int kind), some (.int one)] [] I G (0, 0)
  refine Ex_iload_n dX9_isUnder_0 rfl ?_
  refine Ex_if_eq (tgt := 29) dX9_isUnder_1 (by decide) (fun h1 => ?_) (fun h1 => ?_)
  · refine Ex_iconst (v := nI 1) dX9_isUnder_29 (by rfl) ?_
    refine Ex_goto (tgt := 34) dX9_isUnder_30 (by decide) ?_
    refine Ex_iret dX9_isUnder_34 (by first | rfl | exact narrow_bI) ?_
    exact ⟨_, rfl, (bI_t (Or.inl h1)).symm, rfl, rfl⟩
  · refine Ex_iload_n dX9_isUnder_4 rfl ?_
    refine Ex_iload_n dX9_isUnder_5 rfl ?_
    refine Ex_icmp_eq (tgt := 29) dX9_isUnder_6 (by decide) (fun h6 => ?_) (fun h6 => ?_)
    · refine Ex_iconst (v := nI 1) dX9_isUnder_29 (by rfl) ?_
      refine Ex_goto (tgt := 34) dX9_isUnder_30 (by decide) ?_
      refine Ex_iret dX9_isUnder_34 (by first | rfl | exact narrow_bI) ?_
      exact ⟨_, rfl, (bI_t (Or.inr (Or.inl h6))).symm, rfl, rfl⟩
    · refine Ex_iload_n dX9_isUnder_9 rfl ?_
      refine Ex_iconst (v := nI 1) dX9_isUnder_10 (by rfl) ?_
      refine Ex_icmp_ne (tgt := 19) dX9_isUnder_11 (by decide) (fun h11 => ?_) (fun h11 => ?_)
      · refine Ex_iload_n dX9_isUnder_19 rfl ?_
        refine Ex_iconst (v := nI 2) dX9_isUnder_20 (by rfl) ?_
        refine Ex_icmp_ne (tgt := 33) dX9_isUnder_21 (by decide) (fun h21 => ?_) (fun h21 => ?_)
        · refine Ex_iconst (v := nI 0) dX9_isUnder_33 (by rfl) ?_
          refine Ex_iret dX9_isUnder_34 (by first | rfl | exact narrow_bI) ?_
          exact ⟨_, rfl, (bI_f (fun q => q.elim h1 (fun q => q.elim h6 (fun q => q.elim (fun w => h11 w.1) (fun w => h21 w.1))))).symm, rfl, rfl⟩
        · refine Ex_iload_n dX9_isUnder_24 rfl ?_
          refine Ex_iconst (v := nI 4) dX9_isUnder_25 (by rfl) ?_
          refine Ex_icmp_ne (tgt := 33) dX9_isUnder_26 (by decide) (fun h26 => ?_) (fun h26 => ?_)
          · refine Ex_iconst (v := nI 0) dX9_isUnder_33 (by rfl) ?_
            refine Ex_iret dX9_isUnder_34 (by first | rfl | exact narrow_bI) ?_
            exact ⟨_, rfl, (bI_f (fun q => q.elim h1 (fun q => q.elim h6 (fun q => q.elim (fun w => h11 w.1) (fun w => h26 w.2))))).symm, rfl, rfl⟩
          · refine Ex_iconst (v := nI 1) dX9_isUnder_29 (by rfl) ?_
            refine Ex_goto (tgt := 34) dX9_isUnder_30 (by decide) ?_
            refine Ex_iret dX9_isUnder_34 (by first | rfl | exact narrow_bI) ?_
            exact ⟨_, rfl, (bI_t (Or.inr (Or.inr (Or.inr ⟨h21, h26⟩)))).symm, rfl, rfl⟩
      · refine Ex_iload_n dX9_isUnder_14 rfl ?_
        refine Ex_iconst (v := nI 3) dX9_isUnder_15 (by rfl) ?_
        refine Ex_icmp_eq (tgt := 29) dX9_isUnder_16 (by decide) (fun h16 => ?_) (fun h16 => ?_)
        · refine Ex_iconst (v := nI 1) dX9_isUnder_29 (by rfl) ?_
          refine Ex_goto (tgt := 34) dX9_isUnder_30 (by decide) ?_
          refine Ex_iret dX9_isUnder_34 (by first | rfl | exact narrow_bI) ?_
          exact ⟨_, rfl, (bI_t (Or.inr (Or.inr (Or.inl ⟨h11, h16⟩)))).symm, rfl, rfl⟩
        · refine Ex_iload_n dX9_isUnder_19 rfl ?_
          refine Ex_iconst (v := nI 2) dX9_isUnder_20 (by rfl) ?_
          refine Ex_icmp_ne (tgt := 33) dX9_isUnder_21 (by decide) (fun h21 => ?_) (fun h21 => ?_)
          · refine Ex_iconst (v := nI 0) dX9_isUnder_33 (by rfl) ?_
            refine Ex_iret dX9_isUnder_34 (by first | rfl | exact narrow_bI) ?_
            exact ⟨_, rfl, (bI_f (fun q => q.elim h1 (fun q => q.elim h6 (fun q => q.elim (fun w => h16 w.2) (fun w => h21 w.1))))).symm, rfl, rfl⟩
          · refine Ex_iload_n dX9_isUnder_24 rfl ?_
            refine Ex_iconst (v := nI 4) dX9_isUnder_25 (by rfl) ?_
            refine Ex_icmp_ne (tgt := 33) dX9_isUnder_26 (by decide) (fun h26 => ?_) (fun h26 => ?_)
            · refine Ex_iconst (v := nI 0) dX9_isUnder_33 (by rfl) ?_
              refine Ex_iret dX9_isUnder_34 (by first | rfl | exact narrow_bI) ?_
              exact ⟨_, rfl, (bI_f (fun q => q.elim h1 (fun q => q.elim h6 (fun q => q.elim (fun w => h16 w.2) (fun w => h26 w.2))))).symm, rfl, rfl⟩
            · refine Ex_iconst (v := nI 1) dX9_isUnder_29 (by rfl) ?_
              refine Ex_goto (tgt := 34) dX9_isUnder_30 (by decide) ?_
              refine Ex_iret dX9_isUnder_34 (by first | rfl | exact narrow_bI) ?_
              exact ⟨_, rfl, (bI_t (Or.inr (Or.inr (Or.inr ⟨h21, h26⟩)))).symm, rfl, rfl⟩
set_option maxRecDepth 100000 in
set_option maxHeartbeats 4000000 in
theorem C9_as {T : TC} {I : MI} {G : MG} (d : Nat) {M : Nat} (hM : MSh T G M) (hW : WfG (I (M + 1))) (s kind : Int32)  : OkI T mX9_as (d + 2) [.ref M, .int s, .int kind] I G (fun r I' G' => r = r_as (I (M + 1)) s kind ∧ I' (M + 1) = (I (M + 1)) ∧ Fr (Pd M) I I' ∧ G' = G) := by
  refine Ok_of (own := RX9) (by decide) rfl (cat1 rfl) (Nat.le_of_ble_eq_true rfl) ?_
  show Ex T RX9 cX9_as 3 (d + 2) _ 0 [some (.ref M), some (.int s), some (.int kind)] [] I G (0, 0)
  refine Ex_aload_n dX9_as_0 rfl ?_
  refine Ex_iload_n dX9_as_1 rfl ?_
  refine Ex_V1p dX9_as_2 sX9_119 hM.1 (Nat.le_of_ble_eq_true rfl) (c9_isS d hM hW s) ?_
  refine Ex_if_eqB (tgt := 17) dX9_as_5 (by decide) (fun h5 => ?_) (fun h5 => ?_)
  · refine Ex_ldc dX9_as_17 kX9_99 ?_
    refine Ex_iret dX9_as_19 (by first | rfl | exact narrow_bI) ?_
    exact ⟨_, rfl, (by unfold r_as; rw [if_neg (fun q => h5 q.1)]), rfl, Fr.refl, rfl⟩
  · refine Ex_iload_n dX9_as_8 rfl ?_
    refine Ex_iconst (v := nI 0) dX9_as_9 (by rfl) ?_
    refine Ex_iconst (v := nI 5) dX9_as_10 (by rfl) ?_
    refine Ex_S3p dX9_as_11 sX9_91  (Nat.le_of_ble_eq_true rfl) (c9_inR (d + 1) _ 5 (by omega)) ?_
    refine Ex_if_neB (tgt := 20) dX9_as_14 (by decide) (fun h14 => ?_) (fun h14 => ?_)
    · obtain ⟨s', hs', e5⟩ := (rng_k (by have := hW.2.1; omega)).mp h5
      have hcl : cl (nI s') = s' := cl_nI (by have := hW.2.1; omega)
      have hs8 : s' < 8 := by have := hW.2.1; omega
      subst e5
      refine Ex_aload_n dX9_as_20 rfl ?_
      refine Ex_iload_n dX9_as_21 rfl ?_
      refine Ex_iconst (v := nI 0) dX9_as_22 (by rfl) ?_
      refine Ex_V2p dX9_as_23 sX9_105 hM.1 (Nat.le_of_ble_eq_true rfl) (c9_of (d + 1) hM s' 0 (by omega)) ?_
      refine Ex_iload_n dX9_as_26 rfl ?_
      refine Ex_S2p dX9_as_27 sX9_134  (Nat.le_of_ble_eq_true rfl) (c9_isUnder (d + 1) _ _) ?_
      refine Ex_if_eqB (tgt := 42) dX9_as_30 (by decide) (fun h30 => ?_) (fun h30 => ?_)
      · refine Ex_ldc dX9_as_42 kX9_137 ?_
        refine Ex_iret dX9_as_44 (by first | rfl | exact narrow_bI) ?_
        exact ⟨_, rfl, (by unfold r_as; rw [if_pos ⟨h5, h14⟩, hcl, if_neg h30]), rfl, Fr.refl, rfl⟩
      · refine Ex_aload_n dX9_as_33 rfl ?_
        refine Ex_iload_n dX9_as_34 rfl ?_
        refine Ex_iconst (v := nI 1) dX9_as_35 (by rfl) ?_
        refine Ex_V2p dX9_as_36 sX9_105 hM.1 (Nat.le_of_ble_eq_true rfl) (c9_of (d + 1) hM s' 1 (by omega)) ?_
        refine Ex_goto (tgt := 44) dX9_as_39 (by decide) ?_
        refine Ex_iret dX9_as_44 (by first | rfl | exact narrow_bI) ?_
        exact ⟨_, rfl, (by unfold r_as; rw [if_pos ⟨h5, h14⟩, hcl, if_pos h30]), rfl, Fr.refl, rfl⟩
    · refine Ex_ldc dX9_as_17 kX9_99 ?_
      refine Ex_iret dX9_as_19 (by first | rfl | exact narrow_bI) ?_
      exact ⟨_, rfl, (by unfold r_as; rw [if_neg (fun q => h14 q.2)]), rfl, Fr.refl, rfl⟩
set_option maxRecDepth 100000 in
set_option maxHeartbeats 4000000 in
theorem C9_turns {T : TC} {I : MI} {G : MG} (d : Nat) {M : Nat} (hM : MSh T G M) (hW : WfG (I (M + 1))) (s v : Int32)  : OkI T mX9_turns (d + 2) [.ref M, .int s, .int v] I G (fun r I' G' => r = r_turns (I (M + 1)) s v ∧ I' (M + 1) = g_turns (I (M + 1)) s v ∧ Fr (Pd M) I I' ∧ G' = G) := by
  refine Ok_of (own := RX9) (by decide) rfl (cat1 rfl) (Nat.le_of_ble_eq_true rfl) ?_
  show Ex T RX9 cX9_turns 3 (d + 2) _ 0 [some (.ref M), some (.int s), some (.int v)] [] I G (0, 0)
  refine Ex_aload_n dX9_turns_0 rfl ?_
  refine Ex_iload_n dX9_turns_1 rfl ?_
  refine Ex_V1p dX9_turns_2 sX9_119 hM.1 (Nat.le_of_ble_eq_true rfl) (c9_isS d hM hW s) ?_
  refine Ex_if_eqB (tgt := 32) dX9_turns_5 (by decide) (fun h5 => ?_) (fun h5 => ?_)
  · refine Ex_ldc dX9_turns_32 kX9_99 ?_
    refine Ex_iret dX9_turns_34 (by first | rfl | exact narrow_bI) ?_
    exact ⟨_, rfl, (by unfold r_turns; rw [if_neg (fun q => h5 q.1)]), (by unfold g_turns; rw [if_neg (fun q => h5 q.1)]), Fr.refl, rfl⟩
  · refine Ex_iload_n dX9_turns_8 rfl ?_
    refine Ex_iconst (v := nI 0) dX9_turns_9 (by rfl) ?_
    refine Ex_iconst (v := nI 5) dX9_turns_10 (by rfl) ?_
    refine Ex_S3p dX9_turns_11 sX9_91  (Nat.le_of_ble_eq_true rfl) (c9_inR (d + 1) _ 5 (by omega)) ?_
    refine Ex_if_eqB (tgt := 32) dX9_turns_14 (by decide) (fun h14 => ?_) (fun h14 => ?_)
    · refine Ex_ldc dX9_turns_32 kX9_99 ?_
      refine Ex_iret dX9_turns_34 (by first | rfl | exact narrow_bI) ?_
      exact ⟨_, rfl, (by unfold r_turns; rw [if_neg (fun q => h14 q.2)]), (by unfold g_turns; rw [if_neg (fun q => h14 q.2)]), Fr.refl, rfl⟩
    · obtain ⟨s', hs', e5⟩ := (rng_k (by have := hW.2.1; omega)).mp h5
      have hcl : cl (nI s') = s' := cl_nI (by have := hW.2.1; omega)
      have hs8 : s' < 8 := by have := hW.2.1; omega
      subst e5
      refine Ex_aload_n dX9_turns_17 rfl ?_
      refine Ex_bipush (v := nI 8) dX9_turns_18 (by rfl) ?_
      refine Ex_bipush (v := nI 17) dX9_turns_20 (by rfl) ?_
      refine Ex_iload_n dX9_turns_22 rfl ?_
      first | with_reducible refine Ex_imulN dX9_turns_23 ?_ | refine Ex_imul dX9_turns_23 ?_
      first | with_reducible refine Ex_iaddN dX9_turns_24 ?_ | refine Ex_iadd dX9_turns_24 ?_
      refine Ex_iload_n dX9_turns_25 rfl ?_
      refine Ex_V2i dX9_turns_26 sX9_138 hM.1 (Nat.le_of_ble_eq_true rfl) (c9_swaps (d + 1) hM (8 + 17 * s') _ (by omega)) ?_
      rintro r _ _ ⟨rfl, rfl, rfl⟩
      refine Ex_goto (tgt := 34) dX9_turns_29 (by decide) ?_
      refine Ex_iret dX9_turns_34 (by first | rfl | exact narrow_bI) ?_
      exact ⟨_, rfl, (by unfold r_turns; rw [if_pos ⟨h5, h14⟩, hcl]), (by unfold g_turns; rw [if_pos ⟨h5, h14⟩, hcl, rowI_s]), Fr.row (Or.inl rfl), rfl⟩
set_option maxRecDepth 100000 in
set_option maxHeartbeats 4000000 in
theorem C9_damp {T : TC} {I : MI} {G : MG} (d : Nat) {M : Nat} (hM : MSh T G M) (hW : WfG (I (M + 1))) (s v : Int32)  : OkI T mX9_damp (d + 2) [.ref M, .int s, .int v] I G (fun r I' G' => r = r_damp (I (M + 1)) s v ∧ I' (M + 1) = g_damp (I (M + 1)) s v ∧ Fr (Pd M) I I' ∧ G' = G) := by
  refine Ok_of (own := RX9) (by decide) rfl (cat1 rfl) (Nat.le_of_ble_eq_true rfl) ?_
  show Ex T RX9 cX9_damp 3 (d + 2) _ 0 [some (.ref M), some (.int s), some (.int v)] [] I G (0, 0)
  refine Ex_aload_n dX9_damp_0 rfl ?_
  refine Ex_iload_n dX9_damp_1 rfl ?_
  refine Ex_V1p dX9_damp_2 sX9_119 hM.1 (Nat.le_of_ble_eq_true rfl) (c9_isS d hM hW s) ?_
  refine Ex_if_eqB (tgt := 35) dX9_damp_5 (by decide) (fun h5 => ?_) (fun h5 => ?_)
  · refine Ex_ldc dX9_damp_35 kX9_99 ?_
    refine Ex_iret dX9_damp_37 (by first | rfl | exact narrow_bI) ?_
    exact ⟨_, rfl, (by unfold r_damp; rw [if_neg (fun q => h5 q.1)]), (by unfold g_damp; rw [if_neg (fun q => h5 q.1)]), Fr.refl, rfl⟩
  · refine Ex_iload_n dX9_damp_8 rfl ?_
    refine Ex_iconst (v := nI 0) dX9_damp_9 (by rfl) ?_
    refine Ex_bipush (v := nI 9) dX9_damp_10 (by rfl) ?_
    refine Ex_S3p dX9_damp_12 sX9_91  (Nat.le_of_ble_eq_true rfl) (c9_inR (d + 1) _ 9 (by omega)) ?_
    refine Ex_if_eqB (tgt := 35) dX9_damp_15 (by decide) (fun h15 => ?_) (fun h15 => ?_)
    · refine Ex_ldc dX9_damp_35 kX9_99 ?_
      refine Ex_iret dX9_damp_37 (by first | rfl | exact narrow_bI) ?_
      exact ⟨_, rfl, (by unfold r_damp; rw [if_neg (fun q => h15 q.2)]), (by unfold g_damp; rw [if_neg (fun q => h15 q.2)]), Fr.refl, rfl⟩
    · obtain ⟨s', hs', e5⟩ := (rng_k (by have := hW.2.1; omega)).mp h5
      have hcl : cl (nI s') = s' := cl_nI (by have := hW.2.1; omega)
      have hs8 : s' < 8 := by have := hW.2.1; omega
      subst e5
      refine Ex_aload_n dX9_damp_18 rfl ?_
      refine Ex_bipush (v := nI 8) dX9_damp_19 (by rfl) ?_
      refine Ex_bipush (v := nI 17) dX9_damp_21 (by rfl) ?_
      refine Ex_iload_n dX9_damp_23 rfl ?_
      first | with_reducible refine Ex_imulN dX9_damp_24 ?_ | refine Ex_imul dX9_damp_24 ?_
      first | with_reducible refine Ex_iaddN dX9_damp_25 ?_ | refine Ex_iadd dX9_damp_25 ?_
      refine Ex_iconst (v := nI 1) dX9_damp_26 (by rfl) ?_
      first | with_reducible refine Ex_iaddN dX9_damp_27 ?_ | refine Ex_iadd dX9_damp_27 ?_
      refine Ex_iload_n dX9_damp_28 rfl ?_
      refine Ex_V2i dX9_damp_29 sX9_138 hM.1 (Nat.le_of_ble_eq_true rfl) (c9_swaps (d + 1) hM (8 + 17 * s' + 1) _ (by omega)) ?_
      rintro r _ _ ⟨rfl, rfl, rfl⟩
      refine Ex_goto (tgt := 37) dX9_damp_32 (by decide) ?_
      refine Ex_iret dX9_damp_37 (by first | rfl | exact narrow_bI) ?_
      exact ⟨_, rfl, (by unfold r_damp; rw [if_pos ⟨h5, h15⟩, hcl]), (by unfold g_damp; rw [if_pos ⟨h5, h15⟩, hcl, rowI_s]), Fr.row (Or.inl rfl), rfl⟩
set_option maxRecDepth 100000 in
set_option maxHeartbeats 4000000 in
theorem C9_rule {T : TC} {I : MI} {G : MG} (d : Nat) {M : Nat} (hM : MSh T G M) (hW : WfG (I (M + 1))) (s v : Int32)  : OkI T mX9_rule (d + 2) [.ref M, .int s, .int v] I G (fun r I' G' => r = r_rule (I (M + 1)) s v ∧ I' (M + 1) = g_rule (I (M + 1)) s v ∧ Fr (Pd M) I I' ∧ G' = G) := by
  refine Ok_of (own := RX9) (by decide) rfl (cat1 rfl) (Nat.le_of_ble_eq_true rfl) ?_
  show Ex T RX9 cX9_rule 3 (d + 2) _ 0 [some (.ref M), some (.int s), some (.int v)] [] I G (0, 0)
  refine Ex_iload_n dX9_rule_0 rfl ?_
  refine Ex_iconst (v := nI 0) dX9_rule_1 (by rfl) ?_
  refine Ex_iconst (v := nI 1) dX9_rule_2 (by rfl) ?_
  refine Ex_S3p dX9_rule_3 sX9_91  (Nat.le_of_ble_eq_true rfl) (c9_inR (d + 1) _ 1 (by omega)) ?_
  refine Ex_if_eqB (tgt := 30) dX9_rule_6 (by decide) (fun h6 => ?_) (fun h6 => ?_)
  · refine Ex_ldc dX9_rule_30 kX9_99 ?_
    refine Ex_iret dX9_rule_32 (by first | rfl | exact narrow_bI) ?_
    exact ⟨_, rfl, (by unfold r_rule; rw [if_neg (fun q => h6 q.1)]), (by unfold g_rule; rw [if_neg (fun q => h6 q.1)]), Fr.refl, rfl⟩
  · refine Ex_iload_n dX9_rule_9 rfl ?_
    refine Ex_iconst (v := nI 0) dX9_rule_10 (by rfl) ?_
    refine Ex_bipush (v := nI 100) dX9_rule_11 (by rfl) ?_
    refine Ex_S3p dX9_rule_13 sX9_91  (Nat.le_of_ble_eq_true rfl) (c9_inR (d + 1) _ 100 (by omega)) ?_
    refine Ex_if_eqB (tgt := 30) dX9_rule_16 (by decide) (fun h16 => ?_) (fun h16 => ?_)
    · refine Ex_ldc dX9_rule_30 kX9_99 ?_
      refine Ex_iret dX9_rule_32 (by first | rfl | exact narrow_bI) ?_
      exact ⟨_, rfl, (by unfold r_rule; rw [if_neg (fun q => h16 q.2)]), (by unfold g_rule; rw [if_neg (fun q => h16 q.2)]), Fr.refl, rfl⟩
    · obtain ⟨s', hs', e6⟩ := (rng_k (by omega)).mp h6
      have hcl : cl (nI s') = s' := cl_nI (by omega)
      subst e6
      refine Ex_aload_n dX9_rule_19 rfl ?_
      refine Ex_iconst (v := nI 3) dX9_rule_20 (by rfl) ?_
      refine Ex_iload_n dX9_rule_21 rfl ?_
      first | with_reducible refine Ex_iaddN dX9_rule_22 ?_ | refine Ex_iadd dX9_rule_22 ?_
      refine Ex_iload_n dX9_rule_23 rfl ?_
      refine Ex_V2i dX9_rule_24 sX9_138 hM.1 (Nat.le_of_ble_eq_true rfl) (c9_swaps (d + 1) hM (3 + s') _ (by omega)) ?_
      rintro r _ _ ⟨rfl, rfl, rfl⟩
      refine Ex_goto (tgt := 32) dX9_rule_27 (by decide) ?_
      refine Ex_iret dX9_rule_32 (by first | rfl | exact narrow_bI) ?_
      exact ⟨_, rfl, (by unfold r_rule; rw [if_pos ⟨h6, h16⟩, hcl]), (by unfold g_rule; rw [if_pos ⟨h6, h16⟩, hcl, rowI_s]), Fr.row (Or.inl rfl), rfl⟩
set_option maxRecDepth 100000 in
set_option maxHeartbeats 4000000 in
theorem C9_settles {T : TC} {I : MI} {G : MG} (d : Nat) {M : Nat} (hM : MSh T G M) (hW : WfG (I (M + 1))) (s v : Int32)  : OkI T mX9_settles (d + 3) [.ref M, .int s, .int v] I G (fun r I' G' => r = r_settles (I (M + 1)) s v ∧ I' (M + 1) = g_settles (I (M + 1)) s v ∧ Fr (Pd M) I I' ∧ G' = G) := by
  refine Ok_of (own := RX9) (by decide) rfl (cat1 rfl) (Nat.le_of_ble_eq_true rfl) ?_
  show Ex T RX9 cX9_settles 3 (d + 3) _ 0 [some (.ref M), some (.int s), some (.int v)] [] I G (0, 0)
  refine Ex_aload_n dX9_settles_0 rfl ?_
  refine Ex_iload_n dX9_settles_1 rfl ?_
  refine Ex_V1p dX9_settles_2 sX9_119 hM.1 (Nat.le_of_ble_eq_true rfl) (c9_isS (d + 1) hM hW s) ?_
  refine Ex_if_eqB (tgt := 15) dX9_settles_5 (by decide) (fun h5 => ?_) (fun h5 => ?_)
  · refine Ex_ldc dX9_settles_15 kX9_99 ?_
    refine Ex_iret dX9_settles_17 (by first | rfl | exact narrow_bI) ?_
    exact ⟨_, rfl, (by unfold r_settles; rw [if_neg (fun q => h5 q.1)]), (by unfold g_settles; rw [if_neg (fun q => h5 q.1)]), Fr.refl, rfl⟩
  · refine Ex_iload_n dX9_settles_8 rfl ?_
    refine Ex_S1p dX9_settles_9 sX9_144  (Nat.le_of_ble_eq_true rfl) (c9_isDeedR (d + 1) _) ?_
    refine Ex_if_neB (tgt := 18) dX9_settles_12 (by decide) (fun h12 => ?_) (fun h12 => ?_)
    · obtain ⟨s', hs', e5⟩ := (rng_k (by have := hW.2.1; omega)).mp h5
      have hcl : cl (nI s') = s' := cl_nI (by have := hW.2.1; omega)
      have hs8 : s' < 8 := by have := hW.2.1; omega
      subst e5
      obtain ⟨hm1, hm2, -, -⟩ := hW.2.2.1 s' hs8
      refine Ex_aload_n dX9_settles_18 rfl ?_
      refine Ex_iload_n dX9_settles_19 rfl ?_
      refine Ex_iload_n dX9_settles_20 rfl ?_
      refine Ex_V2v dX9_settles_21 sX9_147 hM.1 (Nat.le_of_ble_eq_true rfl) (c9_settlesOn d hM s' _ v hm1 hs8 hm2) ?_
      rintro _ _ ⟨rfl, rfl⟩
      refine Ex_aload_n dX9_settles_24 rfl ?_
      refine Ex_iload_n dX9_settles_25 rfl ?_
      refine Ex_iconst (v := nI 2) dX9_settles_26 (by rfl) ?_
      refine Ex_V2p dX9_settles_27 sX9_105 hM.1 (Nat.le_of_ble_eq_true rfl) (c9_of (d + 2) hM s' 2 (by omega)) ?_
      refine Ex_iret dX9_settles_30 (by first | rfl | exact narrow_bI) ?_
      exact ⟨_, rfl, (by unfold r_settles; rw [if_pos ⟨h5, h12⟩, hcl, rowI_s]), (by unfold g_settles; rw [if_pos ⟨h5, h12⟩, hcl, rowI_s]), Fr.row (Or.inl rfl), rfl⟩
    · refine Ex_ldc dX9_settles_15 kX9_99 ?_
      refine Ex_iret dX9_settles_17 (by first | rfl | exact narrow_bI) ?_
      exact ⟨_, rfl, (by unfold r_settles; rw [if_neg (fun q => h12 q.2)]), (by unfold g_settles; rw [if_neg (fun q => h12 q.2)]), Fr.refl, rfl⟩
set_option maxRecDepth 100000 in
set_option maxHeartbeats 4000000 in
theorem C9_sweeps {T : TC} {I : MI} {G : MG} (d : Nat) {M : Nat} (hM : MSh T G M) (hW : WfG (I (M + 1))) (s : Int32)  : OkI T mX9_sweeps (d + 4) [.ref M, .int s] I G (fun r I' G' => r = r_sweeps (I (M + 1)) s ∧ I' (M + 1) = g_sweeps (I (M + 1)) s ∧ Fr (Pd M) I I' ∧ G' = G) := by
  refine Ok_of (own := RX9) (by decide) rfl (cat1 rfl) (Nat.le_of_ble_eq_true rfl) ?_
  show Ex T RX9 cX9_sweeps 2 (d + 4) _ 0 [some (.ref M), some (.int s)] [] I G (0, 0)
  refine Ex_aload_n dX9_sweeps_0 rfl ?_
  refine Ex_iload_n dX9_sweeps_1 rfl ?_
  refine Ex_V1p dX9_sweeps_2 sX9_119 hM.1 (Nat.le_of_ble_eq_true rfl) (c9_isS (d + 2) hM hW s) ?_
  refine Ex_if_eqB (tgt := 16) dX9_sweeps_5 (by decide) (fun h5 => ?_) (fun h5 => ?_)
  · refine Ex_ldc dX9_sweeps_16 kX9_99 ?_
    refine Ex_iret dX9_sweeps_18 (by first | rfl | exact narrow_bI) ?_
    exact ⟨_, rfl, (by unfold r_sweeps; rw [if_neg h5]), (by unfold g_sweeps; rw [if_neg h5]), Fr.refl, rfl⟩
  · obtain ⟨s', hs', e5⟩ := (rng_k (by have := hW.2.1; omega)).mp h5
    have hcl : cl (nI s') = s' := cl_nI (by have := hW.2.1; omega)
    have hs8 : s' < 8 := by have := hW.2.1; omega
    subst e5
    refine Ex_aload_n dX9_sweeps_8 rfl ?_
    refine Ex_iload_n dX9_sweeps_9 rfl ?_
    refine Ex_V1i dX9_sweeps_10 sX9_151 hM.1 (Nat.le_of_ble_eq_true rfl) (c9_sweepsOff d hM s' hW hs8) ?_
    rintro r I2 _ ⟨rfl, hs2, hF2, rfl⟩
    refine Ex_goto (tgt := 18) dX9_sweeps_13 (by decide) ?_
    refine Ex_iret dX9_sweeps_18 (by first | rfl | exact narrow_bI) ?_
    exact ⟨_, rfl, (by unfold r_sweeps; rw [if_pos h5, hcl]), (by unfold g_sweeps; rw [if_pos h5, hcl, hs2]), hF2, rfl⟩
set_option maxRecDepth 100000 in
set_option maxHeartbeats 4000000 in
theorem C9_seed {T : TC} {I : MI} {G : MG} (d : Nat) {M : Nat} (hM : MSh T G M) (v : Int32)  : OkI T mX9_seed (d + 1) [.ref M, .int v] I G (fun r I' G' => r = (I (M + 1)) 0 ∧ I' (M + 1) = upd (I (M + 1)) 0 v ∧ Fr (Pd M) I I' ∧ G' = G) := by
  refine Ok_of (own := RX9) (by decide) rfl (cat1 rfl) (Nat.le_of_ble_eq_true rfl) ?_
  show Ex T RX9 cX9_seed 2 (d + 1) _ 0 [some (.ref M), some (.int v)] [] I G (0, 0)
  refine Ex_aload_n dX9_seed_0 rfl ?_
  refine Ex_iconst (v := nI 0) dX9_seed_1 (by rfl) ?_
  refine Ex_iload_n dX9_seed_2 rfl ?_
  refine Ex_V2i dX9_seed_3 sX9_138 hM.1 (Nat.le_of_ble_eq_true rfl) (c9_swaps d hM (0) _ (by omega)) ?_
  rintro r _ _ ⟨rfl, rfl, rfl⟩
  refine Ex_iret dX9_seed_6 (by first | rfl | exact narrow_bI) ?_
  exact ⟨_, rfl, rfl, rowI_s, Fr.row (Or.inl rfl), rfl⟩
