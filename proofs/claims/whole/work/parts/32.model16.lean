/-! check -/
def ckL (g tl : Nat → Int32) (m : Nat) : Nat → Nat → Nat
  | 0, k => 2 * k
  | i + 1, k => if 2 * k < m ∧ tl (2 * k) = daysG g (k + 1) 5 then (if 2 * k + 1 < m ∧ tl (2 * k + 1) = sumG (daysG g (k + 1)) 2 (nS g) then ckL g tl m i (k + 1) else 2 * k + 1) else 2 * k
theorem ckL_le {g tl : Nat → Int32} {m : Nat} : ∀ i k, ckL g tl m i k ≤ 2 * (k + i)
  | 0, _ => Nat.le_refl _
  | i + 1, k => by
    have := ckL_le (g := g) (tl := tl) (m := m) i (k + 1)
    unfold ckL
    split
    · split <;> omega
    · omega
def ckA (r m D : Nat) : Int32 := if r = m ∧ r = 2 * D then 0 else nI (1 + r)
def r_check (im : Int32) (g tl : Nat → Int32) (m : Nat) (n : Int32) : Int32 := if in1 n 30 then (if im = 0 then cNO else ckA (ckL g tl m (daysN g (cl n)) 0) m (daysN g (cl n))) else cBAD
def Pc (M : Nat) : Nat → Prop := fun a => a = M ∨ a = M + 1 ∨ a = M + 3 ∨ a = M + 16 ∨ a = M + 17
/-- while check goes on -/
def Ck (M : Nat) (I J : MI) : Prop := (∀ j, j < 1516 → J (M + 3) j = I (M + 1) j) ∧ (∀ j, 1516 ≤ j → J (M + 1) j = I (M + 1) j) ∧ J M = upd (I M) 38 (nI 0) ∧ Fr (Pc M) I J
theorem Ck.back {M : Nat} {I J : MI} (h : Ck M I J) : preF (J (M + 3)) (J (M + 1)) 1516 = I (M + 1) := by
  funext j
  unfold preF
  by_cases hj : j < 1516
  · rw [if_pos hj]; exact h.1 j hj
  · rw [if_neg hj]; exact h.2.1 j (by omega)
theorem Ck.step {M : Nat} {I J K : MI} (h : Ck M I J) (hf : Fr (Pd M) J K) (h2 : ∀ j, 1516 ≤ j → K (M + 1) j = J (M + 1) j) : Ck M I K :=
  ⟨fun j hj => by rw [hf _ (by unfold Pd; omega)]; exact h.1 j hj, fun j hj => (h2 j hj).trans (h.2.1 j hj), by rw [hf _ (by unfold Pd; omega)]; exact h.2.2.1, h.2.2.2.trans (hf.mono (fun a ha => Or.inr (ha.elim Or.inl (fun ha => Or.inr (Or.inr ha)))))⟩
set_option maxRecDepth 100000 in
set_option maxHeartbeats 4000000 in
theorem x9_check {T : TC} {I : MI} {G : MG} {b : Nat × Nat} (d : Nat) {M : Nat} (hM : MSh T G M) (nv : Int32) (m D r : Nat) (hm : m ≤ 60) (hD : D ≤ 30) (hr : r ≤ 60) (k : Nat) (J : MI) (hC : Ck M I J) : Ex T RX9 cX9_check 6 (d + 5) (fm T "check" (some .int) (fun v I' G' => ∃ x, v = some (.int x) ∧ x = ckA r m D ∧ I' (M + 1) = I (M + 1) ∧ I' M = upd (I M) 38 (nI 0) ∧ Fr (Pc M) I I' ∧ G' = G)) 181 [some (.ref M), some (.int nv), some (.int (nI m)), some (.int (nI (2 * D))), some (.int (nI r)), some (.int (nI k))] [] J G b := by
  refine Ex_aload_n dX9_check_181 rfl ?_
  refine Ex_getr dX9_check_182 fX9_16 hM.1 (mF2 hM).1 ?_
  refine Ex_aload_n dX9_check_185 rfl ?_
  refine Ex_getr dX9_check_186 fX9_9 hM.1 (mF0 hM).1 ?_
  refine Ex_S2v dX9_check_189 sX9_292  (Nat.le_of_ble_eq_true rfl) (c9_copyAll (d + 4) (mF2 hM).2.1 (mF0 hM).2.1 (by omega) (mF2 hM).2.2 (mF0 hM).2.2) ?_
  rintro _ _ ⟨rfl, rfl⟩
  refine Ex_iload dX9_check_192 rfl ?_
  refine Ex_iload_n dX9_check_194 rfl ?_
  refine Ex_icmp_neN (by omega) (by omega) (tgt := 208) dX9_check_195 (by decide) (fun h195 => ?_) (fun h195 => ?_)
  · refine Ex_iconst (v := nI 1) dX9_check_208 (by rfl) ?_
    refine Ex_iload dX9_check_209 rfl ?_
    first | with_reducible refine Ex_iaddN dX9_check_211 ?_ | refine Ex_iadd dX9_check_211 ?_
    refine Ex_iret dX9_check_212 (by first | rfl | exact narrow_bI) ?_
    exact ⟨_, rfl, (by unfold ckA; rw [if_neg (fun q => h195 q.1)]), rowI_s.trans hC.back, (by rw [rowI_n (by omega)]; exact hC.2.2.1), hC.2.2.2.trans (Fr.row (Or.inr (Or.inl rfl))), rfl⟩
  · refine Ex_iload dX9_check_198 rfl ?_
    refine Ex_iload_n dX9_check_200 rfl ?_
    refine Ex_icmp_neN (by omega) (by omega) (tgt := 208) dX9_check_201 (by decide) (fun h201 => ?_) (fun h201 => ?_)
    · refine Ex_iconst (v := nI 1) dX9_check_208 (by rfl) ?_
      refine Ex_iload dX9_check_209 rfl ?_
      first | with_reducible refine Ex_iaddN dX9_check_211 ?_ | refine Ex_iadd dX9_check_211 ?_
      refine Ex_iret dX9_check_212 (by first | rfl | exact narrow_bI) ?_
      exact ⟨_, rfl, (by unfold ckA; rw [if_neg (fun q => h201 q.2)]), rowI_s.trans hC.back, (by rw [rowI_n (by omega)]; exact hC.2.2.1), hC.2.2.2.trans (Fr.row (Or.inr (Or.inl rfl))), rfl⟩
    · refine Ex_iconst (v := nI 0) dX9_check_204 (by rfl) ?_
      refine Ex_goto (tgt := 212) dX9_check_205 (by decide) ?_
      refine Ex_iret dX9_check_212 (by first | rfl | exact narrow_bI) ?_
      exact ⟨_, rfl, (by unfold ckA; rw [if_pos ⟨h195, h201⟩]; rfl), rowI_s.trans hC.back, (by rw [rowI_n (by omega)]; exact hC.2.2.1), hC.2.2.2.trans (Fr.row (Or.inr (Or.inl rfl))), rfl⟩
set_option maxRecDepth 100000 in
set_option maxHeartbeats 4000000 in
theorem y9_check {T : TC} {I : MI} {G : MG} {b : Nat × Nat} (d : Nat) {M : Nat} (hM : MSh T G M) (nv : Int32) (m D r : Nat) (hm : m ≤ 60) (hD : D ≤ 30) (hr : r ≤ 60) (k : Nat) (J : MI) (hC : Ck M I J) (hk : k ≤ 31) (hne : r ≠ 2 * k ∨ D ≤ k) : Ex T RX9 cX9_check 6 (d + 5) (fm T "check" (some .int) (fun v I' G' => ∃ x, v = some (.int x) ∧ x = ckA r m D ∧ I' (M + 1) = I (M + 1) ∧ I' M = upd (I M) 38 (nI 0) ∧ Fr (Pc M) I I' ∧ G' = G)) 80 [some (.ref M), some (.int nv), some (.int (nI m)), some (.int (nI (2 * D))), some (.int (nI r)), some (.int (nI k))] [] J G b := by
  refine Ex_iconst (v := nI 2) dX9_check_80 (by rfl) ?_
  refine Ex_iload dX9_check_81 rfl ?_
  first | with_reducible refine Ex_imulN dX9_check_83 ?_ | refine Ex_imul dX9_check_83 ?_
  refine Ex_iload_n dX9_check_84 rfl ?_
  refine Ex_icmp_geN (by omega) (by omega) (tgt := 181) dX9_check_85 (by decide) (fun h85 => ?_) (fun h85 => ?_)
  · exact x9_check d hM nv m D r hm hD hr k J hC
  · refine Ex_iload dX9_check_88 rfl ?_
    refine Ex_iconst (v := nI 2) dX9_check_90 (by rfl) ?_
    refine Ex_iload dX9_check_91 rfl ?_
    first | with_reducible refine Ex_imulN dX9_check_93 ?_ | refine Ex_imul dX9_check_93 ?_
    refine Ex_icmp_neN (by omega) (by omega) (tgt := 181) dX9_check_94 (by decide) (fun h94 => ?_) (fun h94 => ?_)
    · exact x9_check d hM nv m D r hm hD hr k J hC
    · omega
set_option maxRecDepth 100000 in
set_option maxHeartbeats 4000000 in
theorem l9_check {T : TC} {I : MI} {G : MG} {b : Nat × Nat} (d : Nat) {M : Nat} (hM : MSh T G M) (nv : Int32) (m D r : Nat) (hm : m ≤ 60) (hD : D ≤ 30) (hr : r ≤ 60) (g tl : Nat → Int32) (hW : WfG g) (htl : I (M + 26) = tl) : ∀ i k (J : MI), k + i = D → J (M + 1) = daysG g k → Ck M I J → ckL g tl m i k = r → Ex T RX9 cX9_check 6 (d + 5) (fm T "check" (some .int) (fun v I' G' => ∃ x, v = some (.int x) ∧ x = ckA r m D ∧ I' (M + 1) = I (M + 1) ∧ I' M = upd (I M) 38 (nI 0) ∧ Fr (Pc M) I I' ∧ G' = G)) 80 [some (.ref M), some (.int nv), some (.int (nI m)), some (.int (nI (2 * D))), some (.int (nI (2 * k))), some (.int (nI k))] [] J G b := by
  intro i
  induction i with
  | zero =>
    intro k J h0 h1 hC hck
    have e : 2 * k = r := hck
    subst e
    exact y9_check d hM nv m D (2 * k) hm hD hr k J hC (by omega) (by omega)
  | succ i ih =>
    intro k J h0 h1 hC hck
    have hcs : ckL g tl m (i + 1) k = if 2 * k < m ∧ tl (2 * k) = daysG g (k + 1) 5 then (if 2 * k + 1 < m ∧ tl (2 * k + 1) = sumG (daysG g (k + 1)) 2 (nS g) then ckL g tl m i (k + 1) else 2 * k + 1) else 2 * k := rfl
    rw [hcs] at hck
    refine Ex_iconst (v := nI 2) dX9_check_80 (by rfl) ?_
    refine Ex_iload dX9_check_81 rfl ?_
    first | with_reducible refine Ex_imulN dX9_check_83 ?_ | refine Ex_imul dX9_check_83 ?_
    refine Ex_iload_n dX9_check_84 rfl ?_
    refine Ex_icmp_geN (by omega) (by omega) (tgt := 181) dX9_check_85 (by decide) (fun h85 => ?_) (fun h85 => ?_)
    · omega
    · refine Ex_iload dX9_check_88 rfl ?_
      refine Ex_iconst (v := nI 2) dX9_check_90 (by rfl) ?_
      refine Ex_iload dX9_check_91 rfl ?_
      first | with_reducible refine Ex_imulN dX9_check_93 ?_ | refine Ex_imul dX9_check_93 ?_
      refine Ex_icmp_neN (by omega) (by omega) (tgt := 181) dX9_check_94 (by decide) (fun h94 => ?_) (fun h94 => ?_)
      · omega
      · refine Ex_aload_n dX9_check_97 rfl ?_
        refine Ex_V0v dX9_check_98 sX9_163 hM.1 (Nat.le_of_ble_eq_true rfl) (c9_day (d) hM (by rw [h1]; exact WfG_days hW k)) ?_
        rintro J2 _ ⟨hj, hf, rfl⟩
        have hg2 : J2 (M + 1) = daysG g (k + 1) := by rw [hj, h1]; rfl
        have hC2 : Ck M I J2 := hC.step hf (fun j hj => by rw [hg2, h1, days_o hW (by omega) (by omega) (by omega) (by omega) (by omega), days_o hW (by omega) (by omega) (by omega) (by omega) (by omega)])
        refine Ex_iload dX9_check_101 rfl ?_
        refine Ex_iload dX9_check_103 rfl ?_
        refine Ex_iload_n dX9_check_105 rfl ?_
        refine Ex_icmp_geN (by omega) (by omega) (tgt := 129) dX9_check_106 (by decide) (fun h106 => ?_) (fun h106 => ?_)
        · refine Ex_iconst (v := nI 0) dX9_check_129 (by rfl) ?_
          first | with_reducible refine Ex_iaddN dX9_check_130 ?_ | refine Ex_iadd dX9_check_130 ?_
          refine Ex_istore dX9_check_131 (by decide) rfl ?_
          simp only [List.set_cons_zero, List.set_cons_succ]
          refine Ex_iload dX9_check_133 rfl ?_
          refine Ex_iload dX9_check_135 rfl ?_
          refine Ex_iconst (v := nI 2) dX9_check_137 (by rfl) ?_
          refine Ex_iload dX9_check_138 rfl ?_
          first | with_reducible refine Ex_imulN dX9_check_140 ?_ | refine Ex_imul dX9_check_140 ?_
          refine Ex_iconst (v := nI 1) dX9_check_141 (by rfl) ?_
          first | with_reducible refine Ex_iaddN dX9_check_142 ?_ | refine Ex_iadd dX9_check_142 ?_
          refine Ex_icmp_neN (by omega) (by omega) (tgt := 171) dX9_check_143 (by decide) (fun h143 => ?_) (fun h143 => ?_)
          · refine Ex_iconst (v := nI 0) dX9_check_171 (by rfl) ?_
            first | with_reducible refine Ex_iaddN dX9_check_172 ?_ | refine Ex_iadd dX9_check_172 ?_
            refine Ex_istore dX9_check_173 (by decide) rfl ?_
            simp only [List.set_cons_zero, List.set_cons_succ]
            first | refine Ex_iincN (m := 1) dX9_check_175 rfl rfl (by decide) rfl ?_ | refine Ex_iinc dX9_check_175 rfl rfl (by decide) rfl ?_
            simp only [List.set_cons_zero, List.set_cons_succ]
            refine Ex_goto (tgt := 80) dX9_check_178 (by decide) ?_
            rw [if_neg (fun q => by have := q.1; omega)] at hck
            subst hck
            exact y9_check d hM nv m D _ hm hD (by omega) (k + 1) J2 hC2 (by omega) (Or.inl (by omega))
          · omega
        · refine Ex_aload_n dX9_check_109 rfl ?_
          refine Ex_getr dX9_check_110 fX9_88 hM.1 (mF37 hM).1 ?_
          refine Ex_iload dX9_check_113 rfl ?_
          refine Ex_iald dX9_check_115 (mF37 hM).2.1 rfl (by rw [(mF37 hM).2.2]; omega) (by rw [(mF37 hM).2.2]; decide) ?_
          refine Ex_top (show _ = tl (2 * k) by rw [hC2.2.2.2 _ (by unfold Pc; omega), htl]) ?_
          refine Ex_aload_n dX9_check_116 rfl ?_
          refine Ex_getr dX9_check_117 fX9_9 hM.1 (mF0 hM).1 ?_
          refine Ex_iconst (v := nI 5) dX9_check_120 (by rfl) ?_
          refine Ex_iald dX9_check_121 (mF0 hM).2.1 rfl (by rw [(mF0 hM).2.2]; omega) (by rw [(mF0 hM).2.2]; decide) ?_
          rw [hg2]
          refine Ex_icmp_ne (tgt := 129) dX9_check_122 (by decide) (fun h122 => ?_) (fun h122 => ?_)
          · refine Ex_iconst (v := nI 0) dX9_check_129 (by rfl) ?_
            first | with_reducible refine Ex_iaddN dX9_check_130 ?_ | refine Ex_iadd dX9_check_130 ?_
            refine Ex_istore dX9_check_131 (by decide) rfl ?_
            simp only [List.set_cons_zero, List.set_cons_succ]
            refine Ex_iload dX9_check_133 rfl ?_
            refine Ex_iload dX9_check_135 rfl ?_
            refine Ex_iconst (v := nI 2) dX9_check_137 (by rfl) ?_
            refine Ex_iload dX9_check_138 rfl ?_
            first | with_reducible refine Ex_imulN dX9_check_140 ?_ | refine Ex_imul dX9_check_140 ?_
            refine Ex_iconst (v := nI 1) dX9_check_141 (by rfl) ?_
            first | with_reducible refine Ex_iaddN dX9_check_142 ?_ | refine Ex_iadd dX9_check_142 ?_
            refine Ex_icmp_neN (by omega) (by omega) (tgt := 171) dX9_check_143 (by decide) (fun h143 => ?_) (fun h143 => ?_)
            · refine Ex_iconst (v := nI 0) dX9_check_171 (by rfl) ?_
              first | with_reducible refine Ex_iaddN dX9_check_172 ?_ | refine Ex_iadd dX9_check_172 ?_
              refine Ex_istore dX9_check_173 (by decide) rfl ?_
              simp only [List.set_cons_zero, List.set_cons_succ]
              first | refine Ex_iincN (m := 1) dX9_check_175 rfl rfl (by decide) rfl ?_ | refine Ex_iinc dX9_check_175 rfl rfl (by decide) rfl ?_
              simp only [List.set_cons_zero, List.set_cons_succ]
              refine Ex_goto (tgt := 80) dX9_check_178 (by decide) ?_
              rw [if_neg (fun q => h122 q.2)] at hck
              subst hck
              exact y9_check d hM nv m D _ hm hD (by omega) (k + 1) J2 hC2 (by omega) (Or.inl (by omega))
            · omega
          · refine Ex_iconst (v := nI 1) dX9_check_125 (by rfl) ?_
            refine Ex_goto (tgt := 130) dX9_check_126 (by decide) ?_
            first | with_reducible refine Ex_iaddN dX9_check_130 ?_ | refine Ex_iadd dX9_check_130 ?_
            refine Ex_istore dX9_check_131 (by decide) rfl ?_
            simp only [List.set_cons_zero, List.set_cons_succ]
            refine Ex_iload dX9_check_133 rfl ?_
            refine Ex_iload dX9_check_135 rfl ?_
            refine Ex_iconst (v := nI 2) dX9_check_137 (by rfl) ?_
            refine Ex_iload dX9_check_138 rfl ?_
            first | with_reducible refine Ex_imulN dX9_check_140 ?_ | refine Ex_imul dX9_check_140 ?_
            refine Ex_iconst (v := nI 1) dX9_check_141 (by rfl) ?_
            first | with_reducible refine Ex_iaddN dX9_check_142 ?_ | refine Ex_iadd dX9_check_142 ?_
            refine Ex_icmp_neN (by omega) (by omega) (tgt := 171) dX9_check_143 (by decide) (fun h143 => ?_) (fun h143 => ?_)
            · omega
            · refine Ex_iload dX9_check_146 rfl ?_
              refine Ex_iload_n dX9_check_148 rfl ?_
              refine Ex_icmp_geN (by omega) (by omega) (tgt := 171) dX9_check_149 (by decide) (fun h149 => ?_) (fun h149 => ?_)
              · refine Ex_iconst (v := nI 0) dX9_check_171 (by rfl) ?_
                first | with_reducible refine Ex_iaddN dX9_check_172 ?_ | refine Ex_iadd dX9_check_172 ?_
                refine Ex_istore dX9_check_173 (by decide) rfl ?_
                simp only [List.set_cons_zero, List.set_cons_succ]
                first | refine Ex_iincN (m := 1) dX9_check_175 rfl rfl (by decide) rfl ?_ | refine Ex_iinc dX9_check_175 rfl rfl (by decide) rfl ?_
                simp only [List.set_cons_zero, List.set_cons_succ]
                refine Ex_goto (tgt := 80) dX9_check_178 (by decide) ?_
                rw [if_pos ⟨by omega, h122⟩, if_neg (fun q => by have := q.1; omega)] at hck
                subst hck
                exact y9_check d hM nv m D _ hm hD (by omega) (k + 1) J2 hC2 (by omega) (Or.inl (by omega))
              · refine Ex_aload_n dX9_check_152 rfl ?_
                refine Ex_getr dX9_check_153 fX9_88 hM.1 (mF37 hM).1 ?_
                refine Ex_iload dX9_check_156 rfl ?_
                refine Ex_iald dX9_check_158 (mF37 hM).2.1 rfl (by rw [(mF37 hM).2.2]; omega) (by rw [(mF37 hM).2.2]; decide) ?_
                refine Ex_top (show _ = tl (2 * k + 1) by rw [hC2.2.2.2 _ (by unfold Pc; omega), htl]) ?_
                refine Ex_aload_n dX9_check_159 rfl ?_
                refine Ex_iconst (v := nI 2) dX9_check_160 (by rfl) ?_
                refine Ex_V1p dX9_check_161 sX9_169 hM.1 (Nat.le_of_ble_eq_true rfl) (c9_sumOf (d + 3) hM (nS g) 2 (by rw [hg2, days_o hW (by omega) (by omega) (by omega) (by omega) (by omega)]; exact hW.1) hW.2.1 (by omega)) ?_
                rw [hg2]
                refine Ex_icmp_ne (tgt := 171) dX9_check_164 (by decide) (fun h164 => ?_) (fun h164 => ?_)
                · refine Ex_iconst (v := nI 0) dX9_check_171 (by rfl) ?_
                  first | with_reducible refine Ex_iaddN dX9_check_172 ?_ | refine Ex_iadd dX9_check_172 ?_
                  refine Ex_istore dX9_check_173 (by decide) rfl ?_
                  simp only [List.set_cons_zero, List.set_cons_succ]
                  first | refine Ex_iincN (m := 1) dX9_check_175 rfl rfl (by decide) rfl ?_ | refine Ex_iinc dX9_check_175 rfl rfl (by decide) rfl ?_
                  simp only [List.set_cons_zero, List.set_cons_succ]
                  refine Ex_goto (tgt := 80) dX9_check_178 (by decide) ?_
                  rw [if_pos ⟨by omega, h122⟩, if_neg (fun q => h164 q.2)] at hck
                  subst hck
                  exact y9_check d hM nv m D _ hm hD (by omega) (k + 1) J2 hC2 (by omega) (Or.inl (by omega))
                · refine Ex_iconst (v := nI 1) dX9_check_167 (by rfl) ?_
                  refine Ex_goto (tgt := 172) dX9_check_168 (by decide) ?_
                  first | with_reducible refine Ex_iaddN dX9_check_172 ?_ | refine Ex_iadd dX9_check_172 ?_
                  refine Ex_istore dX9_check_173 (by decide) rfl ?_
                  simp only [List.set_cons_zero, List.set_cons_succ]
                  first | refine Ex_iincN (m := 1) dX9_check_175 rfl rfl (by decide) rfl ?_ | refine Ex_iinc dX9_check_175 rfl rfl (by decide) rfl ?_
                  simp only [List.set_cons_zero, List.set_cons_succ]
                  refine Ex_goto (tgt := 80) dX9_check_178 (by decide) ?_
                  rw [if_pos ⟨by omega, h122⟩, if_pos ⟨by omega, h164⟩] at hck
                  exact ih (k + 1) J2 (by omega) hg2 hC2 hck
set_option maxRecDepth 100000 in
set_option maxHeartbeats 4000000 in
theorem C9_check {T : TC} {I : MI} {G : MG} (d : Nat) {M : Nat} (hM : MSh T G M) (m : Nat) (n : Int32) (hw : I M 38 = nI m) (h60 : m ≤ 60) (hW : WfG (preF (I (M + 2)) (I (M + 1)) 1516)) (hD : DyOk (preF (I (M + 2)) (I (M + 1)) 1516)) : OkI T mX9_check (d + 5) [.ref M, .int n] I G (fun r I' G' => r = r_check (I M 3) (preF (I (M + 2)) (I (M + 1)) 1516) (I (M + 26)) m n ∧ I' (M + 1) = I (M + 1) ∧ I' M = upd (I M) 38 (nI 0) ∧ Fr (Pc M) I I' ∧ G' = G) := by
  refine Ok_of (own := RX9) (by decide) rfl (cat1 rfl) (Nat.le_of_ble_eq_true rfl) ?_
  show Ex T RX9 cX9_check 6 (d + 5) _ 0 [some (.ref M), some (.int n), none, none, none, none] [] I G (0, 0)
  refine Ex_aload_n dX9_check_0 rfl ?_
  refine Ex_geti dX9_check_1 fX9_285 hM.1 ?_
  refine Ex_top hw ?_
  refine Ex_istore_n dX9_check_4 (by decide) rfl ?_
  simp only [st_n0, st_n1, st_n2, st_n3, List.set_cons_zero, List.set_cons_succ]
  refine Ex_aload_n dX9_check_5 rfl ?_
  refine Ex_iconst (v := nI 0) dX9_check_6 (by rfl) ?_
  refine Ex_puti dX9_check_7 fX9_285 rfl rfl rfl hM.1 ?_
  rw [setI_row]
  refine Ex_iload_n dX9_check_10 rfl ?_
  refine Ex_iconst (v := nI 1) dX9_check_11 (by rfl) ?_
  refine Ex_bipush (v := nI 30) dX9_check_12 (by rfl) ?_
  refine Ex_S3p dX9_check_14 sX9_91  (Nat.le_of_ble_eq_true rfl) (c9_in (d + 4) _ _ _) ?_
  refine Ex_if_neB (tgt := 23) dX9_check_17 (by decide) (fun h17 => ?_) (fun h17 => ?_)
  · have h17' : in1 n 30 := h17
    obtain ⟨n', hn0, hn', e7⟩ := (in1_k (by omega)).mp h17'
    have hcl : cl (nI n') = n' := cl_nI (by omega)
    subst e7
    have hdn : daysN (preF (I (M + 2)) (I (M + 1)) 1516) n' ≤ n' := by unfold daysN; split <;> omega
    refine Ex_aload_n dX9_check_23 rfl ?_
    refine Ex_geti dX9_check_24 fX9_288 hM.1 ?_
    refine Ex_top (show _ = I M 3 by rw [rowI_s]; exact upd_n (by omega)) ?_
    refine Ex_if_ne (tgt := 34) dX9_check_27 (by decide) (fun h27 => ?_) (fun h27 => ?_)
    · refine Ex_aload_n dX9_check_34 rfl ?_
      refine Ex_getr dX9_check_35 fX9_9 hM.1 (mF0 hM).1 ?_
      refine Ex_aload_n dX9_check_38 rfl ?_
      refine Ex_getr dX9_check_39 fX9_16 hM.1 (mF2 hM).1 ?_
      refine Ex_S2v dX9_check_42 sX9_292  (Nat.le_of_ble_eq_true rfl) (c9_copyAll (d + 4) (mF0 hM).2.1 (mF2 hM).2.1 (by omega) (mF0 hM).2.2 (mF2 hM).2.2) ?_
      rintro _ _ ⟨rfl, rfl⟩
      refine Ex_aload_n dX9_check_45 rfl ?_
      refine Ex_getr dX9_check_46 fX9_13 hM.1 (mF1 hM).1 ?_
      refine Ex_aload_n dX9_check_49 rfl ?_
      refine Ex_getr dX9_check_50 fX9_9 hM.1 (mF0 hM).1 ?_
      refine Ex_S2v dX9_check_53 sX9_292  (Nat.le_of_ble_eq_true rfl) (c9_copyAll (d + 4) (mF1 hM).2.1 (mF0 hM).2.1 (by omega) (mF1 hM).2.2 (mF0 hM).2.2) ?_
      rintro J _ ⟨hJ, rfl⟩
      have hg1 : J (M + 1) = preF (I (M + 2)) (I (M + 1)) 1516 := by rw [hJ, rowI_s, rowI_n (by omega), rowI_n (by omega), rowI_n (by omega), rowI_n (by omega)]
      have hC : Ck M I J := by
        refine ⟨fun j hj => ?_, fun j hj => ?_, ?_, ?_⟩
        · rw [hJ, rowI_n (by omega), rowI_s, rowI_n (by omega)]; exact if_pos hj
        · rw [hg1]; exact if_neg (by omega)
        · rw [hJ, rowI_n (by omega), rowI_n (by omega), rowI_s]
        · rw [hJ]; exact ((Fr.row (Or.inl rfl)).trans (Fr.row (Or.inr (Or.inr (Or.inl rfl))))).trans (Fr.row (Or.inr (Or.inl rfl)))
      clear hJ
      refine Ex_iconst (v := nI 2) dX9_check_56 (by rfl) ?_
      refine Ex_sipush (v := nI 9999) dX9_check_57 (by rfl) ?_
      refine Ex_aload_n dX9_check_60 rfl ?_
      refine Ex_getr dX9_check_61 fX9_9 hM.1 (mF0 hM).1 ?_
      refine Ex_iconst (v := nI 2) dX9_check_64 (by rfl) ?_
      refine Ex_iald dX9_check_65 (mF0 hM).2.1 rfl (by rw [(mF0 hM).2.2]; omega) (by rw [(mF0 hM).2.2]; decide) ?_
      refine Ex_isub dX9_check_66 ?_
      refine Ex_iconst (v := nI 0) dX9_check_67 (by rfl) ?_
      refine Ex_iload_n dX9_check_68 rfl ?_
      refine Ex_S3p dX9_check_69 sX9_115  (Nat.le_of_ble_eq_true rfl) (c9_within (d + 4) _ _ _) ?_
      refine Ex_top (show _ = nI (daysN (preF (I (M + 2)) (I (M + 1)) 1516) n') by rw [hg1]; exact wth_days hD (by omega)) ?_
      first | with_reducible refine Ex_imulN dX9_check_72 ?_ | refine Ex_imul dX9_check_72 ?_
      refine Ex_istore_n dX9_check_73 (by decide) rfl ?_
      simp only [st_n0, st_n1, st_n2, st_n3, List.set_cons_zero, List.set_cons_succ]
      refine Ex_iconst (v := nI 0) dX9_check_74 (by rfl) ?_
      refine Ex_istore dX9_check_75 (by decide) rfl ?_
      simp only [List.set_cons_zero, List.set_cons_succ]
      refine Ex_iconst (v := nI 0) dX9_check_77 (by rfl) ?_
      refine Ex_istore dX9_check_78 (by decide) rfl ?_
      simp only [List.set_cons_zero, List.set_cons_succ]
      have key := l9_check (b := (0, 0)) (I := I) d hM (nI n') m (daysN (preF (I (M + 2)) (I (M + 1)) 1516) n') (ckL (preF (I (M + 2)) (I (M + 1)) 1516) (I (M + 26)) m (daysN (preF (I (M + 2)) (I (M + 1)) 1516) n') 0) h60 (by omega) (by have := ckL_le (g := preF (I (M + 2)) (I (M + 1)) 1516) (tl := I (M + 26)) (m := m) (daysN (preF (I (M + 2)) (I (M + 1)) 1516) n') 0; omega) _ (I (M + 26)) hW rfl _ 0 J (by omega) hg1 hC rfl
      have e : r_check (I M 3) (preF (I (M + 2)) (I (M + 1)) 1516) (I (M + 26)) m (nI n') = ckA (ckL (preF (I (M + 2)) (I (M + 1)) 1516) (I (M + 26)) m (daysN (preF (I (M + 2)) (I (M + 1)) 1516) n') 0) m (daysN (preF (I (M + 2)) (I (M + 1)) 1516) n') := by unfold r_check; rw [if_pos h17, if_neg h27, hcl]
      rw [e]
      exact key
    · have h27' : I M 3 = 0 := by first | exact h27 | exact Classical.not_not.mp h27
      refine Ex_ldc_w dX9_check_30 kX9_284 ?_
      refine Ex_iret dX9_check_33 (by first | rfl | exact narrow_bI) ?_
      exact ⟨_, rfl, (by unfold r_check; rw [if_pos h17, if_pos h27']), rowI_n (by omega), rowI_s, Fr.row (Or.inl rfl), rfl⟩
  · refine Ex_ldc dX9_check_20 kX9_99 ?_
    refine Ex_iret dX9_check_22 (by first | rfl | exact narrow_bI) ?_
    exact ⟨_, rfl, (by unfold r_check; rw [if_neg h17]), rowI_n (by omega), rowI_s, Fr.row (Or.inl rfl), rfl⟩
