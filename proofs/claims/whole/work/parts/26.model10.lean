/-! copy, lay -/
theorem subI {x y : Int32} (h1 : -2147483648 ≤ x.toInt - y.toInt) (h2 : x.toInt - y.toInt < 2147483648) : (x - y).toInt = x.toInt - y.toInt := by
  rw [Int32.toInt_sub, Int.bmod_eq_of_le (by omega) (by omega)]
abbrev cpOk (z1 z2 : Nat) (p a m : Int32) : Prop := 0 ≤ p.toInt ∧ 0 ≤ a.toInt ∧ 0 ≤ m.toInt ∧ p.toInt + m.toInt ≤ z1 ∧ a.toInt + m.toInt ≤ z2
def r_copy (so : Nat → Int32) (sz : Nat → Nat) (f p t a m : Int32) : Int32 := if inR f 4 ∧ inR t 4 then (if so (cl f) < 0 ∨ so (cl t) < 0 then cNOTHING else if so (cl f) = so (cl t) then (if cpOk (sz (cl f)) (sz (cl t)) p a m then m else cINDEX) else cKIND) else cBAD
abbrev cpP (so : Nat → Int32) (sz : Nat → Nat) (f p t a m : Int32) : Prop := (inR f 4 ∧ inR t 4) ∧ ¬ (so (cl f) < 0 ∨ so (cl t) < 0) ∧ so (cl f) = so (cl t) ∧ cpOk (sz (cl f)) (sz (cl t)) p a m
/-- n places from a to b, as they were -/
def cpC (c : Nat → Int32) (a b n : Nat) : Nat → Int32 := fun j => if b ≤ j ∧ j < b + n then c (a + (j - b)) else c j
def cpD (c f : Nat → Int32) (b n : Nat) : Nat → Int32 := fun j => if b ≤ j ∧ j < b + n then f (j - b) else c j
theorem cpD_s {c f : Nat → Int32} {b n : Nat} : upd (cpD c f b n) (b + n) (f n) = cpD c f b (n + 1) := by
  funext j
  unfold cpD
  by_cases e : j = b + n
  · subst e; rw [upd_s, if_pos (by omega)]; congr 1; omega
  · rw [upd_n e]
    by_cases h : b ≤ j ∧ j < b + n
    · rw [if_pos h, if_pos (by omega)]
    · rw [if_neg h, if_neg (by omega)]
theorem cpD_0 {c f : Nat → Int32} {b : Nat} : cpD c f b 0 = c := by
  funext j
  exact if_neg (by omega)
theorem cpD_C {c v : Nat → Int32} {a b n : Nat} : cpD c (preF (fun k => c (a + k)) v n) b n = cpC c a b n := by
  funext j
  unfold cpD cpC preF
  by_cases h : b ≤ j ∧ j < b + n
  · rw [if_pos h, if_pos h, if_pos (by omega)]
  · rw [if_neg h, if_neg h]
def i_copy (I : MI) (M : Nat) (sz : Nat → Nat) (f p t a m : Int32) (I' : MI) : Prop := I' (M + 20) = (if cpP (I (M + 18)) sz f p t a m then cpC (I (M + 20)) (24 * cl f + cl p) (24 * cl t + cl a) (cl m) else I (M + 20)) ∧ Fr (fun a => a = M + 20 ∨ a = M + 25) I I'
set_option maxRecDepth 100000 in
set_option maxHeartbeats 4000000 in
theorem l9_copy1 {T : TC} {I : MI} {G : MG} {F : FinT} {b : Nat × Nat} (d : Nat) {M : Nat} (hM : MSh T G M) (f p t e m : Nat) (hf : f < 4) (ht : t < 4) (hp : p + m ≤ 24) (he : e + m ≤ 24) (kx : Ex T RX9 cX9_copy 7 (d) F 104 [some (.ref M), some (.int (nI f)), some (.int (nI p)), some (.int (nI t)), some (.int (nI e)), some (.int (nI m)), some (.int (nI m))] [] (rowI I (M + 25) (preF (fun k => I (M + 20) (24 * f + p + k)) (I (M + 25)) m)) G b) : ∀ i k, k + i = m  → Ex T RX9 cX9_copy 7 (d) F 104 [some (.ref M), some (.int (nI f)), some (.int (nI p)), some (.int (nI t)), some (.int (nI e)), some (.int (nI m)), some (.int (nI k))] [] (rowI I (M + 25) (preF (fun k => I (M + 20) (24 * f + p + k)) (I (M + 25)) k)) G b := by
  intro i
  induction i with
  | zero => intro k h0; have e0 : k = m := by omega
            subst e0; exact kx
  | succ i ih0 =>
    intro k h0
    have ih := ih0 (k + 1)
    refine Ex_iload dX9_copy_104 rfl ?_
    refine Ex_iload dX9_copy_106 rfl ?_
    refine Ex_icmp_geN (by omega) (by omega) (tgt := 138) dX9_copy_108 (by decide) (fun h108 => ?_) (fun h108 => ?_)
    · omega
    · refine Ex_aload_n dX9_copy_111 rfl ?_
      refine Ex_getr dX9_copy_112 fX9_85 hM.1 (mF36 hM).1 ?_
      refine Ex_iload dX9_copy_115 rfl ?_
      refine Ex_aload_n dX9_copy_117 rfl ?_
      refine Ex_getr dX9_copy_118 fX9_70 hM.1 (mF31 hM).1 ?_
      refine Ex_bipush (v := nI 24) dX9_copy_121 (by rfl) ?_
      refine Ex_iload_n dX9_copy_123 rfl ?_
      first | with_reducible refine Ex_imulN dX9_copy_124 ?_ | refine Ex_imul dX9_copy_124 ?_
      refine Ex_iload_n dX9_copy_125 rfl ?_
      first | with_reducible refine Ex_iaddN dX9_copy_126 ?_ | refine Ex_iadd dX9_copy_126 ?_
      refine Ex_iload dX9_copy_127 rfl ?_
      first | with_reducible refine Ex_iaddN dX9_copy_129 ?_ | refine Ex_iadd dX9_copy_129 ?_
      refine Ex_iald dX9_copy_130 (mF31 hM).2.1 rfl (by rw [(mF31 hM).2.2]; omega) (by rw [(mF31 hM).2.2]; decide) ?_
      refine Ex_top (show _ = I (M + 20) (24 * f + p + k) by rw [rowI_n (by omega)]) ?_
      refine Ex_iast dX9_copy_131 (mF36 hM).2.1 rfl (by rw [(mF36 hM).2.2]; omega) (by rw [(mF36 hM).2.2]; decide) ?_
      rw [setI_row, rowI_r, rowI_s]
      have hps := preF_s (f := (fun k => I (M + 20) (24 * f + p + k))) (g := I (M + 25)) (n := k)
      rw [hps]
      first | refine Ex_iincN (m := 1) dX9_copy_132 rfl rfl (by decide) rfl ?_ | refine Ex_iinc dX9_copy_132 rfl rfl (by decide) rfl ?_
      simp only [List.set_cons_zero, List.set_cons_succ]
      refine Ex_goto (tgt := 104) dX9_copy_135 (by decide) ?_
      exact ih (by omega)
set_option maxRecDepth 100000 in
set_option maxHeartbeats 4000000 in
theorem l9_copy2 {T : TC} {I : MI} {G : MG} {F : FinT} {b : Nat × Nat} (d : Nat) {M : Nat} (hM : MSh T G M) (f p t e m : Nat) (hf : f < 4) (ht : t < 4) (hp : p + m ≤ 24) (he : e + m ≤ 24) (v c : Nat → Int32) (hv : I (M + 25) = v) (kx : Ex T RX9 cX9_copy 7 (d) F 141 [some (.ref M), some (.int (nI f)), some (.int (nI p)), some (.int (nI t)), some (.int (nI e)), some (.int (nI m)), some (.int (nI m))] [] (rowI I (M + 20) (cpD c v (24 * t + e) m)) G b) : ∀ i k, k + i = m  → Ex T RX9 cX9_copy 7 (d) F 141 [some (.ref M), some (.int (nI f)), some (.int (nI p)), some (.int (nI t)), some (.int (nI e)), some (.int (nI m)), some (.int (nI k))] [] (rowI I (M + 20) (cpD c v (24 * t + e) k)) G b := by
  intro i
  induction i with
  | zero => intro k h0; have e0 : k = m := by omega
            subst e0; exact kx
  | succ i ih0 =>
    intro k h0
    have ih := ih0 (k + 1)
    refine Ex_iload dX9_copy_141 rfl ?_
    refine Ex_iload dX9_copy_143 rfl ?_
    refine Ex_icmp_geN (by omega) (by omega) (tgt := 176) dX9_copy_145 (by decide) (fun h145 => ?_) (fun h145 => ?_)
    · omega
    · refine Ex_aload_n dX9_copy_148 rfl ?_
      refine Ex_getr dX9_copy_149 fX9_70 hM.1 (mF31 hM).1 ?_
      refine Ex_bipush (v := nI 24) dX9_copy_152 (by rfl) ?_
      refine Ex_iload_n dX9_copy_154 rfl ?_
      first | with_reducible refine Ex_imulN dX9_copy_155 ?_ | refine Ex_imul dX9_copy_155 ?_
      refine Ex_iload dX9_copy_156 rfl ?_
      first | with_reducible refine Ex_iaddN dX9_copy_158 ?_ | refine Ex_iadd dX9_copy_158 ?_
      refine Ex_iload dX9_copy_159 rfl ?_
      first | with_reducible refine Ex_iaddN dX9_copy_161 ?_ | refine Ex_iadd dX9_copy_161 ?_
      refine Ex_aload_n dX9_copy_162 rfl ?_
      refine Ex_getr dX9_copy_163 fX9_85 hM.1 (mF36 hM).1 ?_
      refine Ex_iload dX9_copy_166 rfl ?_
      refine Ex_iald dX9_copy_168 (mF36 hM).2.1 rfl (by rw [(mF36 hM).2.2]; omega) (by rw [(mF36 hM).2.2]; decide) ?_
      refine Ex_top (show _ = v k by rw [rowI_n (by omega)]; exact congrFun hv k) ?_
      refine Ex_iast dX9_copy_169 (mF31 hM).2.1 rfl (by rw [(mF31 hM).2.2]; omega) (by rw [(mF31 hM).2.2]; decide) ?_
      rw [setI_row, rowI_r, rowI_s, cpD_s]
      first | refine Ex_iincN (m := 1) dX9_copy_170 rfl rfl (by decide) rfl ?_ | refine Ex_iinc dX9_copy_170 rfl rfl (by decide) rfl ?_
      simp only [List.set_cons_zero, List.set_cons_succ]
      refine Ex_goto (tgt := 141) dX9_copy_173 (by decide) ?_
      exact ih (by omega)
set_option maxRecDepth 100000 in
set_option maxHeartbeats 4000000 in
theorem C9_copy {T : TC} {I : MI} {G : MG} (d : Nat) {M : Nat} (hM : MSh T G M) (sz : Nat → Nat) (hz : SzR I M sz) (f p t a m : Int32)  : OkI T mX9_copy (d + 2) [.ref M, .int f, .int p, .int t, .int a, .int m] I G (fun r I' G' => r = r_copy (I (M + 18)) sz f p t a m ∧ i_copy I M sz f p t a m I' ∧ G' = G) := by
  refine Ok_of (own := RX9) (by decide) rfl (cat1 rfl) (Nat.le_of_ble_eq_true rfl) ?_
  show Ex T RX9 cX9_copy 7 (d + 2) _ 0 [some (.ref M), some (.int f), some (.int p), some (.int t), some (.int a), some (.int m), none] [] I G (0, 0)
  refine Ex_iload_n dX9_copy_0 rfl ?_
  refine Ex_S1p dX9_copy_1 sX9_179  (Nat.le_of_ble_eq_true rfl) (c9_isSheet d _) ?_
  refine Ex_if_eqB (tgt := 14) dX9_copy_4 (by decide) (fun h4 => ?_) (fun h4 => ?_)
  · refine Ex_ldc dX9_copy_14 kX9_99 ?_
    refine Ex_iret dX9_copy_16 (by first | rfl | exact narrow_bI) ?_
    exact ⟨_, rfl, (by unfold r_copy; rw [if_neg (fun q => h4 q.1)]), ⟨(by rw [if_neg (fun q => h4 q.1.1)]), Fr.refl⟩, rfl⟩
  · refine Ex_iload_n dX9_copy_7 rfl ?_
    refine Ex_S1p dX9_copy_8 sX9_179  (Nat.le_of_ble_eq_true rfl) (c9_isSheet d _) ?_
    refine Ex_if_neB (tgt := 17) dX9_copy_11 (by decide) (fun h11 => ?_) (fun h11 => ?_)
    · obtain ⟨f', hf', ef⟩ := (rng_k (by omega)).mp h4
      have hcl : cl (nI f') = f' := cl_nI (by omega)
      subst ef
      obtain ⟨t', ht', et⟩ := (rng_k (by omega)).mp h11
      have hct : cl (nI t') = t' := cl_nI (by omega)
      subst et
      obtain ⟨hz1, hz2⟩ := hz f' hf'
      obtain ⟨hy1, hy2⟩ := hz t' ht'
      refine Ex_aload_n dX9_copy_17 rfl ?_
      refine Ex_getr dX9_copy_18 fX9_64 hM.1 (mF29 hM).1 ?_
      refine Ex_iload_n dX9_copy_21 rfl ?_
      refine Ex_iald dX9_copy_22 (mF29 hM).2.1 rfl (by rw [(mF29 hM).2.2]; omega) (by rw [(mF29 hM).2.2]; decide) ?_
      refine Ex_if_lt (tgt := 35) dX9_copy_23 (by decide) (fun h23 => ?_) (fun h23 => ?_)
      · refine Ex_ldc dX9_copy_35 kX9_182 ?_
        refine Ex_iret dX9_copy_37 (by first | rfl | exact narrow_bI) ?_
        exact ⟨_, rfl, (by unfold r_copy; rw [if_pos ⟨h4, h11⟩, hcl, hct, if_pos (Or.inl h23)]), ⟨(by rw [if_neg (fun q => q.2.1 (by rw [hcl, hct]; exact Or.inl h23))]), Fr.refl⟩, rfl⟩
      · refine Ex_aload_n dX9_copy_26 rfl ?_
        refine Ex_getr dX9_copy_27 fX9_64 hM.1 (mF29 hM).1 ?_
        refine Ex_iload_n dX9_copy_30 rfl ?_
        refine Ex_iald dX9_copy_31 (mF29 hM).2.1 rfl (by rw [(mF29 hM).2.2]; omega) (by rw [(mF29 hM).2.2]; decide) ?_
        refine Ex_if_ge (tgt := 38) dX9_copy_32 (by decide) (fun h32 => ?_) (fun h32 => ?_)
        · refine Ex_aload_n dX9_copy_38 rfl ?_
          refine Ex_getr dX9_copy_39 fX9_64 hM.1 (mF29 hM).1 ?_
          refine Ex_iload_n dX9_copy_42 rfl ?_
          refine Ex_iald dX9_copy_43 (mF29 hM).2.1 rfl (by rw [(mF29 hM).2.2]; omega) (by rw [(mF29 hM).2.2]; decide) ?_
          refine Ex_aload_n dX9_copy_44 rfl ?_
          refine Ex_getr dX9_copy_45 fX9_64 hM.1 (mF29 hM).1 ?_
          refine Ex_iload_n dX9_copy_48 rfl ?_
          refine Ex_iald dX9_copy_49 (mF29 hM).2.1 rfl (by rw [(mF29 hM).2.2]; omega) (by rw [(mF29 hM).2.2]; decide) ?_
          refine Ex_icmp_eq (tgt := 56) dX9_copy_50 (by decide) (fun h50 => ?_) (fun h50 => ?_)
          · refine Ex_iload_n dX9_copy_56 rfl ?_
            refine Ex_if_lt (tgt := 97) dX9_copy_57 (by decide) (fun h57 => ?_) (fun h57 => ?_)
            · refine Ex_ldc_w dX9_copy_97 kX9_278 ?_
              refine Ex_iret dX9_copy_100 (by first | rfl | exact narrow_bI) ?_
              have hno : ¬ cpOk (sz f') (sz t') p a m := fun q => by have h := q.1; rw [i_lt, iz_0] at h57; omega
              exact ⟨_, rfl, (by unfold r_copy; rw [if_pos ⟨h4, h11⟩, hcl, hct, if_neg (fun q => q.elim h23 (Int32.not_lt.mpr h32)), if_pos h50, if_neg hno]), ⟨(by rw [if_neg (fun q => hno (by have := q.2.2.2; rw [hcl, hct] at this; exact this))]), Fr.refl⟩, rfl⟩
            · refine Ex_iload dX9_copy_60 rfl ?_
              refine Ex_if_lt (tgt := 97) dX9_copy_62 (by decide) (fun h62 => ?_) (fun h62 => ?_)
              · refine Ex_ldc_w dX9_copy_97 kX9_278 ?_
                refine Ex_iret dX9_copy_100 (by first | rfl | exact narrow_bI) ?_
                have hno : ¬ cpOk (sz f') (sz t') p a m := fun q => by have h := q.2.1; rw [i_lt, iz_0] at h62; omega
                exact ⟨_, rfl, (by unfold r_copy; rw [if_pos ⟨h4, h11⟩, hcl, hct, if_neg (fun q => q.elim h23 (Int32.not_lt.mpr h32)), if_pos h50, if_neg hno]), ⟨(by rw [if_neg (fun q => hno (by have := q.2.2.2; rw [hcl, hct] at this; exact this))]), Fr.refl⟩, rfl⟩
              · refine Ex_iload dX9_copy_65 rfl ?_
                refine Ex_if_lt (tgt := 97) dX9_copy_67 (by decide) (fun h67 => ?_) (fun h67 => ?_)
                · refine Ex_ldc_w dX9_copy_97 kX9_278 ?_
                  refine Ex_iret dX9_copy_100 (by first | rfl | exact narrow_bI) ?_
                  have hno : ¬ cpOk (sz f') (sz t') p a m := fun q => by have h := q.2.2.1; rw [i_lt, iz_0] at h67; omega
                  exact ⟨_, rfl, (by unfold r_copy; rw [if_pos ⟨h4, h11⟩, hcl, hct, if_neg (fun q => q.elim h23 (Int32.not_lt.mpr h32)), if_pos h50, if_neg hno]), ⟨(by rw [if_neg (fun q => hno (by have := q.2.2.2; rw [hcl, hct] at this; exact this))]), Fr.refl⟩, rfl⟩
                · refine Ex_iload_n dX9_copy_70 rfl ?_
                  refine Ex_aload_n dX9_copy_71 rfl ?_
                  refine Ex_getr dX9_copy_72 fX9_67 hM.1 (mF30 hM).1 ?_
                  refine Ex_iload_n dX9_copy_75 rfl ?_
                  refine Ex_iald dX9_copy_76 (mF30 hM).2.1 rfl (by rw [(mF30 hM).2.2]; omega) (by rw [(mF30 hM).2.2]; decide) ?_
                  refine Ex_top hz1 ?_
                  refine Ex_iload dX9_copy_77 rfl ?_
                  refine Ex_isub dX9_copy_79 ?_
                  refine Ex_icmp_gt (tgt := 97) dX9_copy_80 (by decide) (fun h80 => ?_) (fun h80 => ?_)
                  · refine Ex_ldc_w dX9_copy_97 kX9_278 ?_
                    refine Ex_iret dX9_copy_100 (by first | rfl | exact narrow_bI) ?_
                    have hno : ¬ cpOk (sz f') (sz t') p a m := fun q => by
                      obtain ⟨q1, q2, q3, q4, q5⟩ := q
                      rw [i_lt, subI (by rw [nI_toInt (by omega)]; have := i_rng m; omega) (by rw [nI_toInt (by omega)]; omega), nI_toInt (by omega)] at h80
                      omega
                    exact ⟨_, rfl, (by unfold r_copy; rw [if_pos ⟨h4, h11⟩, hcl, hct, if_neg (fun q => q.elim h23 (Int32.not_lt.mpr h32)), if_pos h50, if_neg hno]), ⟨(by rw [if_neg (fun q => hno (by have := q.2.2.2; rw [hcl, hct] at this; exact this))]), Fr.refl⟩, rfl⟩
                  · refine Ex_iload dX9_copy_83 rfl ?_
                    refine Ex_aload_n dX9_copy_85 rfl ?_
                    refine Ex_getr dX9_copy_86 fX9_67 hM.1 (mF30 hM).1 ?_
                    refine Ex_iload_n dX9_copy_89 rfl ?_
                    refine Ex_iald dX9_copy_90 (mF30 hM).2.1 rfl (by rw [(mF30 hM).2.2]; omega) (by rw [(mF30 hM).2.2]; decide) ?_
                    refine Ex_top hy1 ?_
                    refine Ex_iload dX9_copy_91 rfl ?_
                    refine Ex_isub dX9_copy_93 ?_
                    refine Ex_icmp_le (tgt := 101) dX9_copy_94 (by decide) (fun h94 => ?_) (fun h94 => ?_)
                    · have hyes : cpOk (sz f') (sz t') p a m := by
                        have r1 := i_rng m
                        rw [i_lt, iz_0] at h57 h62 h67
                        rw [i_lt, subI (by rw [nI_toInt (by omega)]; omega) (by rw [nI_toInt (by omega)]; omega), nI_toInt (by omega)] at h80
                        rw [i_le, subI (by rw [nI_toInt (by omega)]; omega) (by rw [nI_toInt (by omega)]; omega), nI_toInt (by omega)] at h94
                        exact ⟨by omega, by omega, by omega, by omega, by omega⟩
                      obtain ⟨p', hp', ep⟩ := nI_of h57
                      obtain ⟨a', ha', ea⟩ := nI_of h62
                      obtain ⟨m', hm', em⟩ := nI_of h67
                      subst ep; subst ea; subst em
                      have hc1 : cl (nI p') = p' := cl_nI hp'
                      have hc2 : cl (nI a') = a' := cl_nI ha'
                      have hc3 : cl (nI m') = m' := cl_nI hm'
                      have hb1 : p' + m' ≤ sz f' ∧ a' + m' ≤ sz t' := by
                        obtain ⟨q1, q2, q3, q4, q5⟩ := hyes
                        rw [nI_toInt hp', nI_toInt hm'] at q4
                        rw [nI_toInt ha', nI_toInt hm'] at q5
                        exact ⟨by omega, by omega⟩
                      obtain ⟨hb1, hb2⟩ := hb1
                      refine Ex_iconst (v := nI 0) dX9_copy_101 (by rfl) ?_
                      refine Ex_istore dX9_copy_102 (by decide) rfl ?_
                      simp only [List.set_cons_zero, List.set_cons_succ]
                      refine Ex_eqI (show _ = rowI I (M + 25) (preF (fun k => I (M + 20) (24 * f' + p' + k)) (I (M + 25)) 0) by rw [preF_0, rowI_self]) ?_
                      refine l9_copy1 (d + 2) hM f' p' t' a' m' hf' ht' (by omega) (by omega) ?_ m' 0 (by omega)
                      refine Ex_iload dX9_copy_104 rfl ?_
                      refine Ex_iload dX9_copy_106 rfl ?_
                      refine Ex_icmp_geN (by omega) (by omega) (tgt := 138) dX9_copy_108 (by decide) (fun h108 => ?_) (fun h108 => ?_)
                      · refine Ex_iconst (v := nI 0) dX9_copy_138 (by rfl) ?_
                        refine Ex_istore dX9_copy_139 (by decide) rfl ?_
                        simp only [List.set_cons_zero, List.set_cons_succ]
                        refine Ex_eqI (show _ = rowI (rowI I (M + 25) (preF (fun k => I (M + 20) (24 * f' + p' + k)) (I (M + 25)) m')) (M + 20) (cpD (I (M + 20)) (preF (fun k => I (M + 20) (24 * f' + p' + k)) (I (M + 25)) m') (24 * t' + a') 0) by rw [cpD_0]; exact (rowI_0 (by rw [rowI_n (by omega)])).symm) ?_
                        refine l9_copy2 (d + 2) hM f' p' t' a' m' hf' ht' (by omega) (by omega) _ (I (M + 20)) rowI_s ?_ m' 0 (by omega)
                        refine Ex_iload dX9_copy_141 rfl ?_
                        refine Ex_iload dX9_copy_143 rfl ?_
                        refine Ex_icmp_geN (by omega) (by omega) (tgt := 176) dX9_copy_145 (by decide) (fun h145 => ?_) (fun h145 => ?_)
                        · refine Ex_iload dX9_copy_176 rfl ?_
                          refine Ex_iret dX9_copy_178 (by first | rfl | exact narrow_bI) ?_
                          exact ⟨_, rfl, (by unfold r_copy; rw [if_pos ⟨h4, h11⟩, hcl, hct, if_neg (fun q => q.elim h23 (Int32.not_lt.mpr h32)), if_pos h50, if_pos hyes]), ⟨(by rw [if_pos (show cpP (I (M + 18)) sz (nI f') (nI p') (nI t') (nI a') (nI m') by unfold cpP; rw [hcl, hct]; exact ⟨⟨h4, h11⟩, fun q => q.elim h23 (Int32.not_lt.mpr h32), h50, hyes⟩), hcl, hct, hc1, hc2, hc3, rowI_s]; exact cpD_C), (Fr.row (Or.inr rfl)).trans (Fr.row (Or.inl rfl))⟩, rfl⟩
                        · omega
                      · omega
                    · refine Ex_ldc_w dX9_copy_97 kX9_278 ?_
                      refine Ex_iret dX9_copy_100 (by first | rfl | exact narrow_bI) ?_
                      have hno : ¬ cpOk (sz f') (sz t') p a m := fun q => by
                        obtain ⟨q1, q2, q3, q4, q5⟩ := q
                        rw [i_le, subI (by rw [nI_toInt (by omega)]; have := i_rng m; omega) (by rw [nI_toInt (by omega)]; omega), nI_toInt (by omega)] at h94
                        omega
                      exact ⟨_, rfl, (by unfold r_copy; rw [if_pos ⟨h4, h11⟩, hcl, hct, if_neg (fun q => q.elim h23 (Int32.not_lt.mpr h32)), if_pos h50, if_neg hno]), ⟨(by rw [if_neg (fun q => hno (by have := q.2.2.2; rw [hcl, hct] at this; exact this))]), Fr.refl⟩, rfl⟩
          · refine Ex_ldc dX9_copy_53 kX9_137 ?_
            refine Ex_iret dX9_copy_55 (by first | rfl | exact narrow_bI) ?_
            exact ⟨_, rfl, (by unfold r_copy; rw [if_pos ⟨h4, h11⟩, hcl, hct, if_neg (fun q => q.elim h23 (Int32.not_lt.mpr h32)), if_neg h50]), ⟨(by rw [if_neg (fun q => h50 (by have := q.2.2.1; rw [hcl, hct] at this; exact this))]), Fr.refl⟩, rfl⟩
        · refine Ex_ldc dX9_copy_35 kX9_182 ?_
          refine Ex_iret dX9_copy_37 (by first | rfl | exact narrow_bI) ?_
          exact ⟨_, rfl, (by unfold r_copy; rw [if_pos ⟨h4, h11⟩, hcl, hct, if_pos (Or.inr (Int32.not_le.mp h32))]), ⟨(by rw [if_neg (fun q => q.2.1 (by rw [hcl, hct]; exact Or.inr (Int32.not_le.mp h32)))]), Fr.refl⟩, rfl⟩
    · refine Ex_ldc dX9_copy_14 kX9_99 ?_
      refine Ex_iret dX9_copy_16 (by first | rfl | exact narrow_bI) ?_
      exact ⟨_, rfl, (by unfold r_copy; rw [if_neg (fun q => h11 q.2)]), ⟨(by rw [if_neg (fun q => h11 q.1.2)]), Fr.refl⟩, rfl⟩
abbrev lyP (g so : Nat → Int32) (s th k : Int32) : Prop := inR s 5 ∧ inR th 4 ∧ (th = nI 1 → inR k (nS g)) ∧ (th = nI 2 → inR k 4)
abbrev lyN (so : Nat → Int32) (th k : Int32) : Prop := th = nI 2 ∧ so (cl k) < 0
def r_lay (g so hd : Nat → Int32) (s th k : Int32) : Int32 := if lyP g so s th k then (if lyN so th k then cNOTHING else hd (cl s)) else cBAD
def lyA (g : Nat → Int32) (sz : Nat → Nat) (th k : Int32) : Int32 := if th = nI 1 then g (8 + 17 * cl k + 0) else if th = nI 2 then nI (sz (cl k)) else k
def lyB (g : Nat → Int32) (th k : Int32) : Int32 := if th = nI 1 then worthK (g (8 + 17 * cl k + 0)) (g (8 + 17 * cl k + 2)) else nI 0
def i_lay (I : MI) (M : Nat) (sz : Nat → Nat) (s th k : Int32) (I' : MI) : Prop := if lyP (I (M + 1)) (I (M + 18)) s th k ∧ ¬ lyN (I (M + 18)) th k then
  I' (M + 21) = upd (I (M + 21)) (cl s) th ∧ I' (M + 22) = upd (I (M + 22)) (cl s) (lyA (I (M + 1)) sz th k) ∧ I' (M + 23) = upd (I (M + 23)) (cl s) (lyB (I (M + 1)) th k) ∧ I' (M + 24) = (if th = nI 2 then cpD (I (M + 24)) (fun j => I (M + 20) (24 * cl k + j)) (24 * cl s) 24 else I (M + 24)) ∧ Fr (fun a => a = M + 21 ∨ a = M + 22 ∨ a = M + 23 ∨ a = M + 24) I I'
  else I' = I
set_option maxRecDepth 100000 in
set_option maxHeartbeats 4000000 in
theorem l9_lay {T : TC} {I : MI} {G : MG} {F : FinT} {b : Nat × Nat} (d : Nat) {M : Nat} (hM : MSh T G M) (s q : Nat) (hs : s < 5) (hq : q < 4) (x4 : Int32) (c f : Nat → Int32) (hf : ∀ j, I (M + 20) (24 * q + j) = f j) (kx : Ex T RX9 cX9_lay 6 (d) F 134 [some (.ref M), some (.int (nI s)), some (.int (nI 2)), some (.int (nI q)), some (.int x4), some (.int (nI 24))] [] (rowI I (M + 24) (cpD c f (24 * s) 24)) G b) : ∀ i k, k + i = 24  → Ex T RX9 cX9_lay 6 (d) F 134 [some (.ref M), some (.int (nI s)), some (.int (nI 2)), some (.int (nI q)), some (.int x4), some (.int (nI k))] [] (rowI I (M + 24) (cpD c f (24 * s) k)) G b := by
  intro i
  induction i with
  | zero => intro k h0; have e0 : k = 24 := by omega
            subst e0; exact kx
  | succ i ih0 =>
    intro k h0
    have ih := ih0 (k + 1)
    refine Ex_iload dX9_lay_134 rfl ?_
    refine Ex_bipush (v := nI 24) dX9_lay_136 (by rfl) ?_
    refine Ex_icmp_geN (by omega) (by omega) (tgt := 176) dX9_lay_138 (by decide) (fun h138 => ?_) (fun h138 => ?_)
    · omega
    · refine Ex_iload_n dX9_lay_141 rfl ?_
      refine Ex_iconst (v := nI 2) dX9_lay_142 (by rfl) ?_
      refine Ex_icmp_neN (by omega) (by omega) (tgt := 176) dX9_lay_143 (by decide) (fun h143 => ?_) (fun h143 => ?_)
      · exact absurd rfl h143
      · refine Ex_aload_n dX9_lay_146 rfl ?_
        refine Ex_getr dX9_lay_147 fX9_82 hM.1 (mF35 hM).1 ?_
        refine Ex_bipush (v := nI 24) dX9_lay_150 (by rfl) ?_
        refine Ex_iload_n dX9_lay_152 rfl ?_
        first | with_reducible refine Ex_imulN dX9_lay_153 ?_ | refine Ex_imul dX9_lay_153 ?_
        refine Ex_iload dX9_lay_154 rfl ?_
        first | with_reducible refine Ex_iaddN dX9_lay_156 ?_ | refine Ex_iadd dX9_lay_156 ?_
        refine Ex_aload_n dX9_lay_157 rfl ?_
        refine Ex_getr dX9_lay_158 fX9_70 hM.1 (mF31 hM).1 ?_
        refine Ex_bipush (v := nI 24) dX9_lay_161 (by rfl) ?_
        refine Ex_iload_n dX9_lay_163 rfl ?_
        first | with_reducible refine Ex_imulN dX9_lay_164 ?_ | refine Ex_imul dX9_lay_164 ?_
        refine Ex_iload dX9_lay_165 rfl ?_
        first | with_reducible refine Ex_iaddN dX9_lay_167 ?_ | refine Ex_iadd dX9_lay_167 ?_
        refine Ex_iald dX9_lay_168 (mF31 hM).2.1 rfl (by rw [(mF31 hM).2.2]; omega) (by rw [(mF31 hM).2.2]; decide) ?_
        refine Ex_top (show _ = f k by rw [rowI_n (by omega)]; exact hf k) ?_
        refine Ex_iast dX9_lay_169 (mF35 hM).2.1 rfl (by rw [(mF35 hM).2.2]; omega) (by rw [(mF35 hM).2.2]; decide) ?_
        rw [setI_row, rowI_r, rowI_s, cpD_s]
        first | refine Ex_iincN (m := 1) dX9_lay_170 rfl rfl (by decide) rfl ?_ | refine Ex_iinc dX9_lay_170 rfl rfl (by decide) rfl ?_
        simp only [List.set_cons_zero, List.set_cons_succ]
        refine Ex_goto (tgt := 134) dX9_lay_173 (by decide) ?_
        exact ih (by omega)
set_option maxRecDepth 100000 in
set_option maxHeartbeats 4000000 in
theorem C9_lay {T : TC} {I : MI} {G : MG} (d : Nat) {M : Nat} (hM : MSh T G M) (hW : WfG (I (M + 1))) (sz : Nat → Nat) (hz : SzR I M sz) (s th k : Int32)  : OkI T mX9_lay (d + 2) [.ref M, .int s, .int th, .int k] I G (fun r I' G' => r = r_lay (I (M + 1)) (I (M + 18)) (I (M + 21)) s th k ∧ i_lay I M sz s th k I' ∧ G' = G) := by
  refine Ok_of (own := RX9) (by decide) rfl (cat1 rfl) (Nat.le_of_ble_eq_true rfl) ?_
  show Ex T RX9 cX9_lay 6 (d + 2) _ 0 [some (.ref M), some (.int s), some (.int th), some (.int k), none, none] [] I G (0, 0)
  refine Ex_iload_n dX9_lay_0 rfl ?_
  refine Ex_S1p dX9_lay_1 sX9_281  (Nat.le_of_ble_eq_true rfl) (c9_isSlot d _) ?_
  refine Ex_if_eqB (tgt := 41) dX9_lay_4 (by decide) (fun h4 => ?_) (fun h4 => ?_)
  · refine Ex_ldc dX9_lay_41 kX9_99 ?_
    refine Ex_iret dX9_lay_43 (by first | rfl | exact narrow_bI) ?_
    exact ⟨_, rfl, (by unfold r_lay; rw [if_neg (fun q => h4 q.1)]), (by unfold i_lay; rw [if_neg (fun q => (fun q => h4 q.1) q.1)]), rfl⟩
  · refine Ex_iload_n dX9_lay_7 rfl ?_
    refine Ex_iconst (v := nI 0) dX9_lay_8 (by rfl) ?_
    refine Ex_iconst (v := nI 3) dX9_lay_9 (by rfl) ?_
    refine Ex_S3p dX9_lay_10 sX9_91  (Nat.le_of_ble_eq_true rfl) (c9_inR (d + 1) _ 3 (by omega)) ?_
    refine Ex_if_eqB (tgt := 41) dX9_lay_13 (by decide) (fun h13 => ?_) (fun h13 => ?_)
    · refine Ex_ldc dX9_lay_41 kX9_99 ?_
      refine Ex_iret dX9_lay_43 (by first | rfl | exact narrow_bI) ?_
      exact ⟨_, rfl, (by unfold r_lay; rw [if_neg (fun q => h13 q.2.1)]), (by unfold i_lay; rw [if_neg (fun q => (fun q => h13 q.2.1) q.1)]), rfl⟩
    · refine Ex_iload_n dX9_lay_16 rfl ?_
      refine Ex_iconst (v := nI 1) dX9_lay_17 (by rfl) ?_
      refine Ex_icmp_ne (tgt := 29) dX9_lay_18 (by decide) (fun h18 => ?_) (fun h18 => ?_)
      · refine Ex_iload_n dX9_lay_29 rfl ?_
        refine Ex_iconst (v := nI 2) dX9_lay_30 (by rfl) ?_
        refine Ex_icmp_ne (tgt := 44) dX9_lay_31 (by decide) (fun h31 => ?_) (fun h31 => ?_)
        · 
          refine Ex_iload_n dX9_lay_44 rfl ?_
          refine Ex_iconst (v := nI 2) dX9_lay_45 (by rfl) ?_
          refine Ex_icmp_ne (tgt := 61) dX9_lay_46 (by decide) (fun h46 => ?_) (fun h46 => ?_)
          · obtain ⟨s', hs', e4⟩ := (rng_k (by omega)).mp h4
            have hcl : cl (nI s') = s' := cl_nI (by omega)
            subst e4
            refine Ex_aload_n dX9_lay_61 rfl ?_
            refine Ex_getr dX9_lay_62 fX9_73 hM.1 (mF32 hM).1 ?_
            refine Ex_iload_n dX9_lay_65 rfl ?_
            refine Ex_iald dX9_lay_66 (mF32 hM).2.1 rfl (by rw [(mF32 hM).2.2]; omega) (by rw [(mF32 hM).2.2]; decide) ?_
            refine Ex_istore dX9_lay_67 (by decide) rfl ?_
            simp only [List.set_cons_zero, List.set_cons_succ]
            refine Ex_aload_n dX9_lay_69 rfl ?_
            refine Ex_getr dX9_lay_70 fX9_73 hM.1 (mF32 hM).1 ?_
            refine Ex_iload_n dX9_lay_73 rfl ?_
            refine Ex_iload_n dX9_lay_74 rfl ?_
            refine Ex_iast dX9_lay_75 (mF32 hM).2.1 rfl (by rw [(mF32 hM).2.2]; omega) (by rw [(mF32 hM).2.2]; decide) ?_
            rw [setI_row]
            refine Ex_aload_n dX9_lay_76 rfl ?_
            refine Ex_getr dX9_lay_77 fX9_76 hM.1 (mF33 hM).1 ?_
            refine Ex_iload_n dX9_lay_80 rfl ?_
            refine Ex_iload_n dX9_lay_81 rfl ?_
            refine Ex_iconst (v := nI 1) dX9_lay_82 (by rfl) ?_
            refine Ex_icmp_ne (tgt := 95) dX9_lay_83 (by decide) (fun h83 => ?_) (fun h83 => ?_)
            · refine Ex_iload_n dX9_lay_95 rfl ?_
              refine Ex_iconst (v := nI 2) dX9_lay_96 (by rfl) ?_
              refine Ex_icmp_ne (tgt := 109) dX9_lay_97 (by decide) (fun h97 => ?_) (fun h97 => ?_)
              · refine Ex_iload_n dX9_lay_109 rfl ?_
                refine Ex_iast dX9_lay_110 (mF33 hM).2.1 rfl (by rw [(mF33 hM).2.2]; omega) (by rw [(mF33 hM).2.2]; decide) ?_
                rw [setI_row, rowI_n (show M + 22 ≠ M + 21 by omega)]
                refine Ex_aload_n dX9_lay_111 rfl ?_
                refine Ex_getr dX9_lay_112 fX9_79 hM.1 (mF34 hM).1 ?_
                refine Ex_iload_n dX9_lay_115 rfl ?_
                refine Ex_iload_n dX9_lay_116 rfl ?_
                refine Ex_iconst (v := nI 1) dX9_lay_117 (by rfl) ?_
                refine Ex_icmp_ne (tgt := 129) dX9_lay_118 (by decide) (fun h118 => ?_) (fun h118 => ?_)
                · refine Ex_iconst (v := nI 0) dX9_lay_129 (by rfl) ?_
                  refine Ex_iast dX9_lay_130 (mF34 hM).2.1 rfl (by rw [(mF34 hM).2.2]; omega) (by rw [(mF34 hM).2.2]; decide) ?_
                  rw [setI_row, rowI_n (show M + 23 ≠ M + 22 by omega), rowI_n (show M + 23 ≠ M + 21 by omega)]
                  refine Ex_iconst (v := nI 0) dX9_lay_131 (by rfl) ?_
                  refine Ex_istore dX9_lay_132 (by decide) rfl ?_
                  simp only [List.set_cons_zero, List.set_cons_succ]
                  refine Ex_iload dX9_lay_134 rfl ?_
                  refine Ex_bipush (v := nI 24) dX9_lay_136 (by rfl) ?_
                  refine Ex_icmp_geN (by omega) (by omega) (tgt := 176) dX9_lay_138 (by decide) (fun h138 => ?_) (fun h138 => ?_)
                  · (exfalso; omega)
                  · refine Ex_iload_n dX9_lay_141 rfl ?_
                    refine Ex_iconst (v := nI 2) dX9_lay_142 (by rfl) ?_
                    refine Ex_icmp_ne (tgt := 176) dX9_lay_143 (by decide) (fun h143 => ?_) (fun h143 => ?_)
                    · refine Ex_iload dX9_lay_176 rfl ?_
                      refine Ex_iret dX9_lay_178 (by first | rfl | exact narrow_bI) ?_
                      exact ⟨_, rfl, (by unfold r_lay; rw [if_pos ⟨h4, h13, fun q => absurd q h18, fun q => absurd q h31⟩, if_neg (fun q => h31 q.1), hcl]), (by
                        unfold i_lay
                        rw [if_pos ⟨⟨h4, h13, fun q => absurd q h18, fun q => absurd q h31⟩, (fun q => h31 q.1)⟩, hcl]
                        refine ⟨?_, ?_, ?_, ?_, ((Fr.row (Or.inl rfl)).trans (Fr.row (Or.inr (Or.inl rfl)))).trans (Fr.row (Or.inr (Or.inr (Or.inl rfl))))⟩
                        · rw [rowI_n (by omega), rowI_n (by omega), rowI_s]
                        · rw [rowI_n (by omega), rowI_s]; unfold lyA; rw [if_neg h18, if_neg h31]
                        · rw [rowI_s]; unfold lyB; rw [if_neg h18]
                        · rw [if_neg h31]; rw [rowI_n (by omega), rowI_n (by omega), rowI_n (by omega)]), rfl⟩
                    · exact absurd h143 h31
                · exact absurd h118 h18
              · exact absurd h97 h31
            · exact absurd h83 h18
          · exact absurd h46 h31
        · refine Ex_iload_n dX9_lay_34 rfl ?_
          refine Ex_S1p dX9_lay_35 sX9_179  (Nat.le_of_ble_eq_true rfl) (c9_isSheet d _) ?_
          refine Ex_if_neB (tgt := 44) dX9_lay_38 (by decide) (fun h38 => ?_) (fun h38 => ?_)
          · obtain ⟨k', hk', ek⟩ := (rng_k (by omega)).mp h38
            have hck : cl (nI k') = k' := cl_nI (by omega)
            subst ek
            obtain ⟨hz1, hz2⟩ := hz k' hk'
            refine Ex_iload_n dX9_lay_44 rfl ?_
            refine Ex_iconst (v := nI 2) dX9_lay_45 (by rfl) ?_
            refine Ex_icmp_ne (tgt := 61) dX9_lay_46 (by decide) (fun h46 => ?_) (fun h46 => ?_)
            · exact absurd h31 h46
            · refine Ex_aload_n dX9_lay_49 rfl ?_
              refine Ex_getr dX9_lay_50 fX9_64 hM.1 (mF29 hM).1 ?_
              refine Ex_iload_n dX9_lay_53 rfl ?_
              refine Ex_iald dX9_lay_54 (mF29 hM).2.1 rfl (by rw [(mF29 hM).2.2]; omega) (by rw [(mF29 hM).2.2]; decide) ?_
              refine Ex_if_ge (tgt := 61) dX9_lay_55 (by decide) (fun h55 => ?_) (fun h55 => ?_)
              · obtain ⟨s', hs', e4⟩ := (rng_k (by omega)).mp h4
                have hcl : cl (nI s') = s' := cl_nI (by omega)
                subst e4
                refine Ex_aload_n dX9_lay_61 rfl ?_
                refine Ex_getr dX9_lay_62 fX9_73 hM.1 (mF32 hM).1 ?_
                refine Ex_iload_n dX9_lay_65 rfl ?_
                refine Ex_iald dX9_lay_66 (mF32 hM).2.1 rfl (by rw [(mF32 hM).2.2]; omega) (by rw [(mF32 hM).2.2]; decide) ?_
                refine Ex_istore dX9_lay_67 (by decide) rfl ?_
                simp only [List.set_cons_zero, List.set_cons_succ]
                refine Ex_aload_n dX9_lay_69 rfl ?_
                refine Ex_getr dX9_lay_70 fX9_73 hM.1 (mF32 hM).1 ?_
                refine Ex_iload_n dX9_lay_73 rfl ?_
                refine Ex_iload_n dX9_lay_74 rfl ?_
                refine Ex_iast dX9_lay_75 (mF32 hM).2.1 rfl (by rw [(mF32 hM).2.2]; omega) (by rw [(mF32 hM).2.2]; decide) ?_
                rw [setI_row]
                refine Ex_aload_n dX9_lay_76 rfl ?_
                refine Ex_getr dX9_lay_77 fX9_76 hM.1 (mF33 hM).1 ?_
                refine Ex_iload_n dX9_lay_80 rfl ?_
                refine Ex_iload_n dX9_lay_81 rfl ?_
                refine Ex_iconst (v := nI 1) dX9_lay_82 (by rfl) ?_
                refine Ex_icmp_ne (tgt := 95) dX9_lay_83 (by decide) (fun h83 => ?_) (fun h83 => ?_)
                · refine Ex_iload_n dX9_lay_95 rfl ?_
                  refine Ex_iconst (v := nI 2) dX9_lay_96 (by rfl) ?_
                  refine Ex_icmp_ne (tgt := 109) dX9_lay_97 (by decide) (fun h97 => ?_) (fun h97 => ?_)
                  · exact absurd h31 h97
                  · refine Ex_aload_n dX9_lay_100 rfl ?_
                    refine Ex_getr dX9_lay_101 fX9_67 hM.1 (mF30 hM).1 ?_
                    refine Ex_iload_n dX9_lay_104 rfl ?_
                    refine Ex_iald dX9_lay_105 (mF30 hM).2.1 rfl (by rw [(mF30 hM).2.2]; omega) (by rw [(mF30 hM).2.2]; decide) ?_
                    refine Ex_top (show _ = nI (sz k') by rw [rowI_n (by omega)]; exact hz1) ?_
                    refine Ex_goto (tgt := 110) dX9_lay_106 (by decide) ?_
                    refine Ex_iast dX9_lay_110 (mF33 hM).2.1 rfl (by rw [(mF33 hM).2.2]; omega) (by rw [(mF33 hM).2.2]; decide) ?_
                    rw [setI_row, rowI_n (show M + 22 ≠ M + 21 by omega)]
                    refine Ex_aload_n dX9_lay_111 rfl ?_
                    refine Ex_getr dX9_lay_112 fX9_79 hM.1 (mF34 hM).1 ?_
                    refine Ex_iload_n dX9_lay_115 rfl ?_
                    refine Ex_iload_n dX9_lay_116 rfl ?_
                    refine Ex_iconst (v := nI 1) dX9_lay_117 (by rfl) ?_
                    refine Ex_icmp_ne (tgt := 129) dX9_lay_118 (by decide) (fun h118 => ?_) (fun h118 => ?_)
                    · refine Ex_iconst (v := nI 0) dX9_lay_129 (by rfl) ?_
                      refine Ex_iast dX9_lay_130 (mF34 hM).2.1 rfl (by rw [(mF34 hM).2.2]; omega) (by rw [(mF34 hM).2.2]; decide) ?_
                      rw [setI_row, rowI_n (show M + 23 ≠ M + 22 by omega), rowI_n (show M + 23 ≠ M + 21 by omega)]
                      refine Ex_iconst (v := nI 0) dX9_lay_131 (by rfl) ?_
                      refine Ex_istore dX9_lay_132 (by decide) rfl ?_
                      simp only [List.set_cons_zero, List.set_cons_succ]
                      have e31 := h31
                      subst e31
                      refine Ex_eqI (show _ = rowI (rowI (rowI (rowI I (M + 21) (upd (I (M + 21)) s' (nI 2))) (M + 22) (upd (I (M + 22)) s' (nI (sz k')))) (M + 23) (upd (I (M + 23)) s' (nI 0))) (M + 24) (cpD (I (M + 24)) (fun j => I (M + 20) (24 * k' + j)) (24 * s') 0) by rw [cpD_0]; exact (rowI_0 (by rw [rowI_n (by omega), rowI_n (by omega), rowI_n (by omega)])).symm) ?_
                      refine l9_lay (d + 2) hM s' k' hs' hk' _ (I (M + 24)) (fun j => I (M + 20) (24 * k' + j)) (fun j => by rw [rowI_n (by omega), rowI_n (by omega), rowI_n (by omega)]) ?_ 24 0 (by omega)
                      refine Ex_iload dX9_lay_134 rfl ?_
                      refine Ex_bipush (v := nI 24) dX9_lay_136 (by rfl) ?_
                      refine Ex_icmp_geN (by omega) (by omega) (tgt := 176) dX9_lay_138 (by decide) (fun h138 => ?_) (fun h138 => ?_)
                      · refine Ex_iload dX9_lay_176 rfl ?_
                        refine Ex_iret dX9_lay_178 (by first | rfl | exact narrow_bI) ?_
                        exact ⟨_, rfl, (by unfold r_lay; rw [if_pos ⟨h4, h13, fun q => absurd q h18, fun _ => h38⟩, if_neg (fun q => absurd q.2 (by rw [hck]; exact Int32.not_lt.mpr h55)), hcl]), (by
                          unfold i_lay
                          rw [if_pos ⟨⟨h4, h13, fun q => absurd q h18, fun _ => h38⟩, (fun q => absurd q.2 (by rw [hck]; exact Int32.not_lt.mpr h55))⟩, hcl]
                          refine ⟨?_, ?_, ?_, ?_, (((Fr.row (Or.inl rfl)).trans (Fr.row (Or.inr (Or.inl rfl)))).trans (Fr.row (Or.inr (Or.inr (Or.inl rfl))))).trans (Fr.row (Or.inr (Or.inr (Or.inr rfl))))⟩
                          · rw [rowI_n (by omega), rowI_n (by omega), rowI_n (by omega), rowI_s]
                          · rw [rowI_n (by omega), rowI_n (by omega), rowI_s]; unfold lyA; rw [if_neg h18, if_pos h31, hck]
                          · rw [rowI_n (by omega), rowI_s]; unfold lyB; rw [if_neg h18]
                          · rw [if_pos h31, hck]; rw [rowI_s]), rfl⟩
                      · omega
                    · exact absurd h118 h18
                · exact absurd h83 h18
              · refine Ex_ldc dX9_lay_58 kX9_182 ?_
                refine Ex_iret dX9_lay_60 (by first | rfl | exact narrow_bI) ?_
                exact ⟨_, rfl, (by unfold r_lay; rw [if_pos ⟨h4, h13, fun q => absurd q h18, fun _ => h38⟩, if_pos ⟨h31, by rw [hck]; exact Int32.not_le.mp h55⟩]), (by unfold i_lay; rw [if_neg (fun q => q.2 ⟨h31, by rw [hck]; exact Int32.not_le.mp h55⟩)]), rfl⟩
          · refine Ex_ldc dX9_lay_41 kX9_99 ?_
            refine Ex_iret dX9_lay_43 (by first | rfl | exact narrow_bI) ?_
            exact ⟨_, rfl, (by unfold r_lay; rw [if_neg (fun q => h38 (q.2.2.2 h31))]), (by unfold i_lay; rw [if_neg (fun q => (fun q => h38 (q.2.2.2 h31)) q.1)]), rfl⟩
      · refine Ex_aload_n dX9_lay_21 rfl ?_
        refine Ex_iload_n dX9_lay_22 rfl ?_
        refine Ex_V1p dX9_lay_23 sX9_119 hM.1 (Nat.le_of_ble_eq_true rfl) (c9_isS d hM hW _) ?_
        refine Ex_if_eqB (tgt := 41) dX9_lay_26 (by decide) (fun h26 => ?_) (fun h26 => ?_)
        · refine Ex_ldc dX9_lay_41 kX9_99 ?_
          refine Ex_iret dX9_lay_43 (by first | rfl | exact narrow_bI) ?_
          exact ⟨_, rfl, (by unfold r_lay; rw [if_neg (fun q => h26 (q.2.2.1 h18))]), (by unfold i_lay; rw [if_neg (fun q => (fun q => h26 (q.2.2.1 h18)) q.1)]), rfl⟩
        · refine Ex_iload_n dX9_lay_29 rfl ?_
          refine Ex_iconst (v := nI 2) dX9_lay_30 (by rfl) ?_
          refine Ex_icmp_ne (tgt := 44) dX9_lay_31 (by decide) (fun h31 => ?_) (fun h31 => ?_)
          · obtain ⟨k', hk', ek⟩ := (rng_k (by have := hW.2.1; omega)).mp h26
            have hck : cl (nI k') = k' := cl_nI (by have := hW.2.1; omega)
            subst ek
            have hk8 : k' < 8 := by have := hW.2.1; omega
            refine Ex_iload_n dX9_lay_44 rfl ?_
            refine Ex_iconst (v := nI 2) dX9_lay_45 (by rfl) ?_
            refine Ex_icmp_ne (tgt := 61) dX9_lay_46 (by decide) (fun h46 => ?_) (fun h46 => ?_)
            · obtain ⟨s', hs', e4⟩ := (rng_k (by omega)).mp h4
              have hcl : cl (nI s') = s' := cl_nI (by omega)
              subst e4
              refine Ex_aload_n dX9_lay_61 rfl ?_
              refine Ex_getr dX9_lay_62 fX9_73 hM.1 (mF32 hM).1 ?_
              refine Ex_iload_n dX9_lay_65 rfl ?_
              refine Ex_iald dX9_lay_66 (mF32 hM).2.1 rfl (by rw [(mF32 hM).2.2]; omega) (by rw [(mF32 hM).2.2]; decide) ?_
              refine Ex_istore dX9_lay_67 (by decide) rfl ?_
              simp only [List.set_cons_zero, List.set_cons_succ]
              refine Ex_aload_n dX9_lay_69 rfl ?_
              refine Ex_getr dX9_lay_70 fX9_73 hM.1 (mF32 hM).1 ?_
              refine Ex_iload_n dX9_lay_73 rfl ?_
              refine Ex_iload_n dX9_lay_74 rfl ?_
              refine Ex_iast dX9_lay_75 (mF32 hM).2.1 rfl (by rw [(mF32 hM).2.2]; omega) (by rw [(mF32 hM).2.2]; decide) ?_
              rw [setI_row]
              refine Ex_aload_n dX9_lay_76 rfl ?_
              refine Ex_getr dX9_lay_77 fX9_76 hM.1 (mF33 hM).1 ?_
              refine Ex_iload_n dX9_lay_80 rfl ?_
              refine Ex_iload_n dX9_lay_81 rfl ?_
              refine Ex_iconst (v := nI 1) dX9_lay_82 (by rfl) ?_
              refine Ex_icmp_ne (tgt := 95) dX9_lay_83 (by decide) (fun h83 => ?_) (fun h83 => ?_)
              · exact absurd h18 h83
              · refine Ex_aload_n dX9_lay_86 rfl ?_
                refine Ex_iload_n dX9_lay_87 rfl ?_
                refine Ex_iconst (v := nI 0) dX9_lay_88 (by rfl) ?_
                refine Ex_V2p dX9_lay_89 sX9_105 hM.1 (Nat.le_of_ble_eq_true rfl) (c9_of (d + 1) hM k' 0 (by omega)) ?_
                refine Ex_top (show _ = I (M + 1) (8 + 17 * k' + 0) by rw [rowI_n (by omega)]) ?_
                refine Ex_goto (tgt := 110) dX9_lay_92 (by decide) ?_
                refine Ex_iast dX9_lay_110 (mF33 hM).2.1 rfl (by rw [(mF33 hM).2.2]; omega) (by rw [(mF33 hM).2.2]; decide) ?_
                rw [setI_row, rowI_n (show M + 22 ≠ M + 21 by omega)]
                refine Ex_aload_n dX9_lay_111 rfl ?_
                refine Ex_getr dX9_lay_112 fX9_79 hM.1 (mF34 hM).1 ?_
                refine Ex_iload_n dX9_lay_115 rfl ?_
                refine Ex_iload_n dX9_lay_116 rfl ?_
                refine Ex_iconst (v := nI 1) dX9_lay_117 (by rfl) ?_
                refine Ex_icmp_ne (tgt := 129) dX9_lay_118 (by decide) (fun h118 => ?_) (fun h118 => ?_)
                · exact absurd h18 h118
                · refine Ex_aload_n dX9_lay_121 rfl ?_
                  refine Ex_iload_n dX9_lay_122 rfl ?_
                  refine Ex_V1p dX9_lay_123 sX9_130 hM.1 (Nat.le_of_ble_eq_true rfl) (c9_worthOf d hM k' hk8) ?_
                  refine Ex_top (show _ = worthK (I (M + 1) (8 + 17 * k' + 0)) (I (M + 1) (8 + 17 * k' + 2)) by rw [rowI_n (by omega), rowI_n (by omega)]) ?_
                  refine Ex_goto (tgt := 130) dX9_lay_126 (by decide) ?_
                  refine Ex_iast dX9_lay_130 (mF34 hM).2.1 rfl (by rw [(mF34 hM).2.2]; omega) (by rw [(mF34 hM).2.2]; decide) ?_
                  rw [setI_row, rowI_n (show M + 23 ≠ M + 22 by omega), rowI_n (show M + 23 ≠ M + 21 by omega)]
                  refine Ex_iconst (v := nI 0) dX9_lay_131 (by rfl) ?_
                  refine Ex_istore dX9_lay_132 (by decide) rfl ?_
                  simp only [List.set_cons_zero, List.set_cons_succ]
                  refine Ex_iload dX9_lay_134 rfl ?_
                  refine Ex_bipush (v := nI 24) dX9_lay_136 (by rfl) ?_
                  refine Ex_icmp_geN (by omega) (by omega) (tgt := 176) dX9_lay_138 (by decide) (fun h138 => ?_) (fun h138 => ?_)
                  · (exfalso; omega)
                  · refine Ex_iload_n dX9_lay_141 rfl ?_
                    refine Ex_iconst (v := nI 2) dX9_lay_142 (by rfl) ?_
                    refine Ex_icmp_ne (tgt := 176) dX9_lay_143 (by decide) (fun h143 => ?_) (fun h143 => ?_)
                    · refine Ex_iload dX9_lay_176 rfl ?_
                      refine Ex_iret dX9_lay_178 (by first | rfl | exact narrow_bI) ?_
                      exact ⟨_, rfl, (by unfold r_lay; rw [if_pos ⟨h4, h13, fun _ => h26, fun q => absurd (h18.symm.trans q) (by decide)⟩, if_neg (fun q => absurd (h18.symm.trans q.1) (by decide)), hcl]), (by
                        unfold i_lay
                        rw [if_pos ⟨⟨h4, h13, fun _ => h26, fun q => absurd (h18.symm.trans q) (by decide)⟩, (fun q => absurd (h18.symm.trans q.1) (by decide))⟩, hcl]
                        refine ⟨?_, ?_, ?_, ?_, ((Fr.row (Or.inl rfl)).trans (Fr.row (Or.inr (Or.inl rfl)))).trans (Fr.row (Or.inr (Or.inr (Or.inl rfl))))⟩
                        · rw [rowI_n (by omega), rowI_n (by omega), rowI_s]
                        · rw [rowI_n (by omega), rowI_s]; unfold lyA; rw [if_pos h18, hck]
                        · rw [rowI_s]; unfold lyB; rw [if_pos h18, hck]
                        · rw [if_neg (fun q => absurd (h18.symm.trans q) (by decide))]; rw [rowI_n (by omega), rowI_n (by omega), rowI_n (by omega)]), rfl⟩
                    · exact absurd h143 (fun q => absurd (h18.symm.trans q) (by decide))
            · exact absurd (h18.symm.trans h46) (by decide)
          · exact absurd (h18.symm.trans h31) (by decide)
