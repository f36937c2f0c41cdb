/-! common rows -/
def lcRow (a b : Nat → Int32) (m n p : Nat) (prev : Nat → Nat) : Nat → Nat
  | 0 => 0
  | q + 1 => if a (m - (p + 1)) = b (n - (q + 1)) then 1 + prev q else Nat.max (prev (q + 1)) (lcRow a b m n p prev q)
/-- the longest common row of the last p and the last q layers -/
def lcR (a b : Nat → Int32) (m n : Nat) : Nat → Nat → Nat
  | 0 => fun _ => 0
  | p + 1 => lcRow a b m n p (lcR a b m n p)
theorem lcR_ss (a b : Nat → Int32) (m n p q : Nat) : lcR a b m n (p + 1) (q + 1) = if a (m - (p + 1)) = b (n - (q + 1)) then 1 + lcR a b m n p q else Nat.max (lcR a b m n p (q + 1)) (lcR a b m n (p + 1) q) := rfl
theorem lcR_0 (a b : Nat → Int32) (m n q : Nat) : lcR a b m n 0 q = 0 := rfl
theorem lcR_s0 (a b : Nat → Int32) (m n : Nat) : ∀ p, lcR a b m n p 0 = 0
  | 0 => rfl
  | _ + 1 => rfl
theorem lc_AB (a b : Nat → Int32) (m n : Nat) : ∀ p, (∀ q, lcR a b m n p (q + 1) ≤ 1 + lcR a b m n p q) ∧ ∀ q, lcR a b m n p q ≤ lcR a b m n (p + 1) q := by
  have step : ∀ p, (∀ q, lcR a b m n p (q + 1) ≤ 1 + lcR a b m n p q) → ∀ q, lcR a b m n p q ≤ lcR a b m n (p + 1) q := by
    intro p hB q
    cases q with
    | zero => rw [lcR_s0]; exact Nat.zero_le _
    | succ q =>
      rw [lcR_ss]
      split
      · exact hB q
      · exact Nat.le_max_left _ _
  intro p
  induction p with
  | zero => exact ⟨fun q => by rw [lcR_0, lcR_0]; omega, step 0 (fun q => by rw [lcR_0, lcR_0]; omega)⟩
  | succ p ih =>
    have hB : ∀ q, lcR a b m n (p + 1) (q + 1) ≤ 1 + lcR a b m n (p + 1) q := by
      intro q
      rw [lcR_ss]
      have h1 := ih.2 q
      have h2 := ih.1 q
      split
      · omega
      · exact Nat.max_le.mpr ⟨by omega, by omega⟩
    exact ⟨hB, step (p + 1) hB⟩
theorem lc_C (a b : Nat → Int32) (m n : Nat) : ∀ p, (∀ q, lcR a b m n p q ≤ lcR a b m n p (q + 1)) ∧ ∀ q, lcR a b m n (p + 1) q ≤ 1 + lcR a b m n p q := by
  have step : ∀ p, (∀ q, lcR a b m n p q ≤ lcR a b m n p (q + 1)) → ∀ q, lcR a b m n (p + 1) q ≤ 1 + lcR a b m n p q := by
    intro p hC q
    induction q with
    | zero => rw [lcR_s0]; exact Nat.zero_le _
    | succ q ih =>
      rw [lcR_ss]
      have := hC q
      split
      · omega
      · exact Nat.max_le.mpr ⟨by omega, by omega⟩
  intro p
  induction p with
  | zero => exact ⟨fun q => by rw [lcR_0, lcR_0]; omega, step 0 (fun q => by rw [lcR_0, lcR_0]; omega)⟩
  | succ p ih =>
    have hC : ∀ q, lcR a b m n (p + 1) q ≤ lcR a b m n (p + 1) (q + 1) := by
      intro q
      rw [lcR_ss]
      have := ih.2 q
      split
      · omega
      · exact Nat.le_max_right _ _
    exact ⟨hC, step (p + 1) hC⟩
theorem lc_mono {a b : Nat → Int32} {m n p q p' q' : Nat} (hp : p ≤ p') (hq : q ≤ q') : lcR a b m n p q ≤ lcR a b m n p' q' := by
  have h1 : ∀ k, lcR a b m n p q ≤ lcR a b m n (p + k) q := by
    intro k
    induction k with
    | zero => exact Nat.le_refl _
    | succ k ih => exact Nat.le_trans ih ((lc_AB a b m n (p + k)).2 q)
  have h2 : ∀ k, lcR a b m n p' q ≤ lcR a b m n p' (q + k) := by
    intro k
    induction k with
    | zero => exact Nat.le_refl _
    | succ k ih => exact Nat.le_trans ih ((lc_C a b m n p').1 (q + k))
  have e1 := h1 (p' - p)
  have e2 := h2 (q' - q)
  rw [show p + (p' - p) = p' by omega] at e1
  rw [show q + (q' - q) = q' by omega] at e2
  omega
theorem lc_le {a b : Nat → Int32} {m n : Nat} : ∀ p q, lcR a b m n p q ≤ p
  | 0, q => by rw [lcR_0]; omega
  | p + 1, q => by have := (lc_C a b m n p).2 q; have := lc_le (a := a) (b := b) (m := m) (n := n) p q; omega
theorem lc_rec {a b : Nat → Int32} {m n i j : Nat} (hi : i < m) (hj : j < n) : lcR a b m n (m - i) (n - j) = if a i = b j then 1 + lcR a b m n (m - (i + 1)) (n - (j + 1)) else Nat.max (lcR a b m n (m - (i + 1)) (n - j)) (lcR a b m n (m - i) (n - (j + 1))) := by
  generalize hp : m - (i + 1) = p
  generalize hq : n - (j + 1) = q
  have e1 : m - i = p + 1 := by omega
  have e2 : n - j = q + 1 := by omega
  rw [e1, e2, lcR_ss, show m - (p + 1) = i by omega, show n - (q + 1) = j by omega]
/-- a pair of equal layers gives a row -/
theorem lc_pair {a b : Nat → Int32} {m n i j x y : Nat} (hx : i ≤ x) (hy : j ≤ y) (hxm : x < m) (hyn : y < n) (h : a x = b y) : 1 + lcR a b m n (m - (x + 1)) (n - (y + 1)) ≤ lcR a b m n (m - i) (n - j) := by
  have e1 : m - x = m - (x + 1) + 1 := by omega
  have e2 : n - y = n - (y + 1) + 1 := by omega
  have h1 : lcR a b m n (m - x) (n - y) = 1 + lcR a b m n (m - (x + 1)) (n - (y + 1)) := by
    rw [e1, e2, lcR_ss, if_pos]
    rw [show m - (m - (x + 1) + 1) = x by omega, show n - (n - (y + 1) + 1) = y by omega]
    exact h
  rw [← h1]
  exact lc_mono (by omega) (by omega)
/-- a row's first pair -/
theorem lc_ex {a b : Nat → Int32} {m n : Nat} : ∀ (k p q r : Nat), p + q ≤ k → p ≤ m → q ≤ n → lcR a b m n p q = r + 1 → ∃ x y, m - p ≤ x ∧ n - q ≤ y ∧ x < m ∧ y < n ∧ a x = b y ∧ lcR a b m n (m - (x + 1)) (n - (y + 1)) = r := by
  intro k
  induction k with
  | zero =>
    intro p q r h _ _ hl
    rw [show p = 0 by omega, lcR_0] at hl
    omega
  | succ k ih =>
    intro p q r h hp hq hl
    cases p with
    | zero => rw [lcR_0] at hl; omega
    | succ p =>
      cases q with
      | zero => rw [lcR_s0] at hl; omega
      | succ q =>
        rw [lcR_ss] at hl
        by_cases c : a (m - (p + 1)) = b (n - (q + 1))
        · rw [if_pos c] at hl
          refine ⟨m - (p + 1), n - (q + 1), by omega, by omega, by omega, by omega, c, ?_⟩
          rw [show m - (m - (p + 1) + 1) = p by omega, show n - (n - (q + 1) + 1) = q by omega]
          omega
        · rw [if_neg c] at hl
          by_cases c2 : lcR a b m n (p + 1) q ≤ lcR a b m n p (q + 1)
          · have hl2 : lcR a b m n p (q + 1) = r + 1 := (Nat.max_eq_left c2).symm.trans hl
            obtain ⟨x, y, h1, h2, h3⟩ := ih p (q + 1) r (by omega) (by omega) hq hl2
            exact ⟨x, y, by omega, h2, h3⟩
          · have hl2 : lcR a b m n (p + 1) q = r + 1 := (Nat.max_eq_right (by omega)).symm.trans hl
            obtain ⟨x, y, h1, h2, h3⟩ := ih (p + 1) q r (by omega) hp (by omega) hl2
            exact ⟨x, y, h1, by omega, h3⟩
/-- the first of i places from k on; 12: none -/
def fsN (p : Nat → Bool) : Nat → Nat → Nat
  | 0, _ => 12
  | i + 1, k => if p k = true then k else fsN p i (k + 1)
def fsF (lay : Nat → Int32) (m : Nat) (e : Int32) (k : Nat) : Nat := fsN (fun k => decide (lay k = e)) (m - k) k
theorem fsN_spec {p : Nat → Bool} : ∀ i k, (fsN p i k = 12 ∧ ∀ x, k ≤ x → x < k + i → p x = false) ∨ (k ≤ fsN p i k ∧ fsN p i k < k + i ∧ p (fsN p i k) = true ∧ ∀ x, k ≤ x → x < fsN p i k → p x = false)
  | 0, k => Or.inl ⟨rfl, fun x h1 h2 => by omega⟩
  | i + 1, k => by
    by_cases h : p k = true
    · have e : fsN p (i + 1) k = k := if_pos h
      rw [e]
      exact Or.inr ⟨Nat.le_refl _, by omega, h, fun x h1 h2 => by omega⟩
    · have e : fsN p (i + 1) k = fsN p i (k + 1) := if_neg h
      rw [e]
      have hk : p k = false := by simpa using h
      rcases fsN_spec (p := p) i (k + 1) with ⟨h1, h2⟩ | ⟨h1, h2, h3, h4⟩
      · refine Or.inl ⟨h1, fun x g1 g2 => ?_⟩
        by_cases c : x = k
        · rw [c]; exact hk
        · exact h2 x (by omega) (by omega)
      · refine Or.inr ⟨by omega, by omega, h3, fun x g1 g2 => ?_⟩
        by_cases c : x = k
        · rw [c]; exact hk
        · exact h4 x (by omega) g2
theorem fsF_none {lay : Nat → Int32} {m k : Nat} {e : Int32} (hm : m ≤ 12) (h : fsF lay m e k = 12) : ∀ x, k ≤ x → x < m → ¬ lay x = e := by
  intro x h1 h2 h3
  rcases fsN_spec (p := fun k => decide (lay k = e)) (m - k) k with ⟨-, g⟩ | ⟨g1, g2, -⟩
  · have := g x h1 (by omega)
    simp [h3] at this
  · unfold fsF at h
    omega
theorem fsF_some {lay : Nat → Int32} {m k : Nat} {e : Int32} (hm : m ≤ 12) (h : ¬ fsF lay m e k = 12) : k ≤ fsF lay m e k ∧ fsF lay m e k < m ∧ lay (fsF lay m e k) = e ∧ ∀ x, k ≤ x → x < m → lay x = e → fsF lay m e k ≤ x := by
  rcases fsN_spec (p := fun k => decide (lay k = e)) (m - k) k with ⟨g, -⟩ | ⟨g1, g2, g3, g4⟩
  · exact absurd g h
  · refine ⟨g1, by unfold fsF; omega, of_decide_eq_true g3, fun x h1 h2 h3 => ?_⟩
    by_cases c : x < fsF lay m e k
    · have := g4 x h1 c
      simp [h3] at this
    · omega
/-- whether a deed begins a row of r + 1 -/
def chP (a b : Nat → Int32) (m n i j r e : Nat) : Bool := decide (¬ fsF a m (nI e) i = 12 ∧ ¬ fsF b n (nI e) j = 12 ∧ lcR a b m n (m - (fsF a m (nI e) i + 1)) (n - (fsF b n (nI e) j + 1)) = r)
def chF (a b : Nat → Int32) (m n i j r : Nat) : Nat := fsN (chP a b m n i j r) 10 0
theorem ch_le {a b : Nat → Int32} {m n i j r e : Nat} (hm : m ≤ 12) (hn : n ≤ 12) (hl : lcR a b m n (m - i) (n - j) = r + 1) (h1 : ¬ fsF a m (nI e) i = 12) (h2 : ¬ fsF b n (nI e) j = 12) : lcR a b m n (m - (fsF a m (nI e) i + 1)) (n - (fsF b n (nI e) j + 1)) ≤ r := by
  obtain ⟨p1, p2, p3, -⟩ := fsF_some hm h1
  obtain ⟨q1, q2, q3, -⟩ := fsF_some hn h2
  have := lc_pair (a := a) (b := b) p1 q1 p2 q2 (p3.trans q3.symm)
  omega
theorem ch_ex {a b : Nat → Int32} {m n i j r : Nat} (hm : m ≤ 12) (hn : n ≤ 12) (hi : i ≤ m) (hj : j ≤ n) (ha : ∀ x, x < m → ∃ e, e < 10 ∧ a x = nI e) (hl : lcR a b m n (m - i) (n - j) = r + 1) : ∃ e, e < 10 ∧ chP a b m n i j r e = true := by
  obtain ⟨x, y, g1, g2, g3, g4, g5, g6⟩ := lc_ex (a := a) (b := b) (m := m) (n := n) _ (m - i) (n - j) r (Nat.le_refl _) (by omega) (by omega) hl
  obtain ⟨e, he, hae⟩ := ha x g3
  have h1 : ¬ fsF a m (nI e) i = 12 := fun q => fsF_none hm q x (by omega) g3 hae
  have h2 : ¬ fsF b n (nI e) j = 12 := fun q => fsF_none hn q y (by omega) g4 (g5.symm.trans hae)
  refine ⟨e, he, decide_eq_true ⟨h1, h2, ?_⟩⟩
  have hu := ch_le hm hn hl h1 h2
  have c1 := (fsF_some hm h1).2.2.2 x (by omega) g3 hae
  have c2 := (fsF_some hn h2).2.2.2 y (by omega) g4 (g5.symm.trans hae)
  have hlo : lcR a b m n (m - (x + 1)) (n - (y + 1)) ≤ lcR a b m n (m - (fsF a m (nI e) i + 1)) (n - (fsF b n (nI e) j + 1)) := lc_mono (by omega) (by omega)
  omega
theorem ch_spec {a b : Nat → Int32} {m n i j r : Nat} (hm : m ≤ 12) (hn : n ≤ 12) (hi : i ≤ m) (hj : j ≤ n) (ha : ∀ x, x < m → ∃ e, e < 10 ∧ a x = nI e) (hl : lcR a b m n (m - i) (n - j) = r + 1) : chF a b m n i j r < 10 ∧ chP a b m n i j r (chF a b m n i j r) = true ∧ ∀ e, e < chF a b m n i j r → chP a b m n i j r e = false := by
  obtain ⟨e, he, hc⟩ := ch_ex hm hn hi hj ha hl
  rcases fsN_spec (p := chP a b m n i j r) 10 0 with ⟨-, g⟩ | ⟨g1, g2, g3, g4⟩
  · have := g e (by omega) (by omega)
    rw [this] at hc; cases hc
  · exact ⟨by unfold chF; omega, g3, fun x hx => g4 x (by omega) hx⟩
/-- where the row's k-th deed is looked for -/
def cmI (a b : Nat → Int32) (m n L : Nat) : Nat → Nat × Nat
  | 0 => (0, 0)
  | k + 1 => (fsF a m (nI (chF a b m n (cmI a b m n L k).1 (cmI a b m n L k).2 (L - k - 1))) (cmI a b m n L k).1 + 1, fsF b n (nI (chF a b m n (cmI a b m n L k).1 (cmI a b m n L k).2 (L - k - 1))) (cmI a b m n L k).2 + 1)
def cmE (a b : Nat → Int32) (m n L k : Nat) : Nat := chF a b m n (cmI a b m n L k).1 (cmI a b m n L k).2 (L - k - 1)
theorem cm_inv {a b : Nat → Int32} {m n : Nat} (hm : m ≤ 12) (hn : n ≤ 12) (ha : ∀ x, x < m → ∃ e, e < 10 ∧ a x = nI e) : ∀ k, k ≤ lcR a b m n m n → (cmI a b m n (lcR a b m n m n) k).1 ≤ m ∧ (cmI a b m n (lcR a b m n m n) k).2 ≤ n ∧ lcR a b m n (m - (cmI a b m n (lcR a b m n m n) k).1) (n - (cmI a b m n (lcR a b m n m n) k).2) = lcR a b m n m n - k
  | 0, _ => ⟨Nat.zero_le _, Nat.zero_le _, rfl⟩
  | k + 1, h => by
    obtain ⟨h1, h2, h3⟩ := cm_inv (b := b) (n := n) hm hn ha k (by omega)
    obtain ⟨g1, g2, -⟩ := ch_spec (b := b) (n := n) (r := lcR a b m n m n - k - 1) hm hn h1 h2 ha (by omega)
    obtain ⟨c1, c2, c3⟩ := of_decide_eq_true g2
    obtain ⟨p1, p2, -⟩ := fsF_some hm c1
    obtain ⟨q1, q2, -⟩ := fsF_some hn c2
    exact ⟨by show fsF _ _ _ _ + 1 ≤ m; omega, by show fsF _ _ _ _ + 1 ≤ n; omega, by rw [show lcR a b m n m n - (k + 1) = lcR a b m n m n - k - 1 by omega]; exact c3⟩
set_option maxRecDepth 100000 in
set_option maxHeartbeats 4000000 in
theorem l9_com1 {T : TC} {I : MI} {G : MG} {F : FinT} {b : Nat × Nat} (d : Nat) {M : Nat} (hM : MSh T G M) (u v m n : Nat) (hu : u < 8) (hv : v < 8) (hm1 : I (M + 1) (8 + 17 * u + 2) = nI m) (hm : m ≤ 12) (hn1 : I (M + 1) (8 + 17 * v + 2) = nI n) (hn : n ≤ 12) (i : Nat) (hi : i ≤ 12) (kx : ∀ f, (∀ i' j', i' ≤ 12 → j' ≤ 12 → (i < i' ∨ (i' = i ∧ 0 ≤ j')) → f (13 * i' + j') = nI (lcR (layF (I (M + 1)) u) (layF (I (M + 1)) v) m n (m - i') (n - j'))) → Ex T RX9 cX9_commonOf 7 (d + 1) F 11 [some (.ref M), some (.int (nI u)), some (.int (nI v)), some (.int (nI i)), some (.int (nI 0 - nI 1)), none, none] [] (rowI I (M + 5) f) G b) : ∀ q f, q ≤ 13 → (∀ i' j', i' ≤ 12 → j' ≤ 12 → (i < i' ∨ (i' = i ∧ q ≤ j')) → f (13 * i' + j') = nI (lcR (layF (I (M + 1)) u) (layF (I (M + 1)) v) m n (m - i') (n - j'))) → Ex T RX9 cX9_commonOf 7 (d + 1) F 11 [some (.ref M), some (.int (nI u)), some (.int (nI v)), some (.int (nI i)), some (.int (nI q - nI 1)), none, none] [] (rowI I (M + 5) f) G b := by
  intro q
  induction q with
  | zero => intro f _ hf; exact kx f hf
  | succ j ih =>
    intro f hj hf
    have e1 : nI (j + 1) - nI 1 = nI j := pk_sub (by omega)
    rw [e1]
    refine Ex_iload dX9_commonOf_11 rfl ?_
    refine Ex_if_lt (tgt := 172) dX9_commonOf_13 (by decide) (fun h13 => ?_) (fun h13 => ?_)
    · exact absurd h13 (nI_pos (by omega))
    · refine Ex_iconst (v := nI 0) dX9_commonOf_16 (by rfl) ?_
      refine Ex_istore dX9_commonOf_17 (by decide) rfl ?_
      simp only [List.set_cons_zero, List.set_cons_succ]
      refine Ex_iload_n dX9_commonOf_19 rfl ?_
      refine Ex_aload_n dX9_commonOf_20 rfl ?_
      refine Ex_iload_n dX9_commonOf_21 rfl ?_
      refine Ex_iconst (v := nI 2) dX9_commonOf_22 (by rfl) ?_
      refine Ex_V2p dX9_commonOf_23 sX9_105 hM.1 (Nat.le_of_ble_eq_true rfl) (c9_of d hM u 2 (by omega)) ?_
      refine Ex_top (show _ = nI m by rw [rowI_n (by omega)]; exact hm1) ?_
      refine Ex_icmp_geN (by omega) (by omega) (tgt := 152) dX9_commonOf_26 (by decide) (fun h26 => ?_) (fun h26 => ?_)
      · refine Ex_aload_n dX9_commonOf_152 rfl ?_
        refine Ex_getr dX9_commonOf_153 fX9_22 hM.1 (mF6 hM).1 ?_
        refine Ex_bipush (v := nI 13) dX9_commonOf_156 (by rfl) ?_
        refine Ex_iload_n dX9_commonOf_158 rfl ?_
        first | with_reducible refine Ex_imulN dX9_commonOf_159 ?_ | refine Ex_imul dX9_commonOf_159 ?_
        refine Ex_iload dX9_commonOf_160 rfl ?_
        first | with_reducible refine Ex_iaddN dX9_commonOf_162 ?_ | refine Ex_iadd dX9_commonOf_162 ?_
        refine Ex_iload dX9_commonOf_163 rfl ?_
        refine Ex_iast dX9_commonOf_165 (mF6 hM).2.1 rfl (by rw [(mF6 hM).2.2]; omega) (by rw [(mF6 hM).2.2]; decide) ?_
        rw [setI_row, rowI_r, rowI_s]
        refine Ex_iinc (v := nI j - nI 1) dX9_commonOf_166 rfl (nI_dec j) (by decide) rfl ?_
        simp only [st_n0, st_n1, st_n2, st_n3, List.set_cons_zero, List.set_cons_succ]
        refine Ex_goto (tgt := 11) dX9_commonOf_169 (by decide) ?_
        refine Ex_drop 5 ?_
        refine Ex_drop 6 ?_
        simp only [st_n0, st_n1, st_n2, st_n3, List.set_cons_zero, List.set_cons_succ]
        refine ih _ (by omega) (fun i' j' g1 g2 g3 => ?_)
        by_cases e : 13 * i' + j' = 13 * i + j
        · obtain ⟨rfl, rfl⟩ : i' = i ∧ j' = j := by omega
          rw [upd_s]
          rw [show m - i' = 0 by omega]; rfl
        · rw [upd_n e]
          exact hf i' j' g1 g2 (by omega)
      · refine Ex_iload dX9_commonOf_29 rfl ?_
        refine Ex_aload_n dX9_commonOf_31 rfl ?_
        refine Ex_iload_n dX9_commonOf_32 rfl ?_
        refine Ex_iconst (v := nI 2) dX9_commonOf_33 (by rfl) ?_
        refine Ex_V2p dX9_commonOf_34 sX9_105 hM.1 (Nat.le_of_ble_eq_true rfl) (c9_of d hM v 2 (by omega)) ?_
        refine Ex_top (show _ = nI n by rw [rowI_n (by omega)]; exact hn1) ?_
        refine Ex_icmp_geN (by omega) (by omega) (tgt := 152) dX9_commonOf_37 (by decide) (fun h37 => ?_) (fun h37 => ?_)
        · refine Ex_aload_n dX9_commonOf_152 rfl ?_
          refine Ex_getr dX9_commonOf_153 fX9_22 hM.1 (mF6 hM).1 ?_
          refine Ex_bipush (v := nI 13) dX9_commonOf_156 (by rfl) ?_
          refine Ex_iload_n dX9_commonOf_158 rfl ?_
          first | with_reducible refine Ex_imulN dX9_commonOf_159 ?_ | refine Ex_imul dX9_commonOf_159 ?_
          refine Ex_iload dX9_commonOf_160 rfl ?_
          first | with_reducible refine Ex_iaddN dX9_commonOf_162 ?_ | refine Ex_iadd dX9_commonOf_162 ?_
          refine Ex_iload dX9_commonOf_163 rfl ?_
          refine Ex_iast dX9_commonOf_165 (mF6 hM).2.1 rfl (by rw [(mF6 hM).2.2]; omega) (by rw [(mF6 hM).2.2]; decide) ?_
          rw [setI_row, rowI_r, rowI_s]
          refine Ex_iinc (v := nI j - nI 1) dX9_commonOf_166 rfl (nI_dec j) (by decide) rfl ?_
          simp only [st_n0, st_n1, st_n2, st_n3, List.set_cons_zero, List.set_cons_succ]
          refine Ex_goto (tgt := 11) dX9_commonOf_169 (by decide) ?_
          refine Ex_drop 5 ?_
          refine Ex_drop 6 ?_
          simp only [st_n0, st_n1, st_n2, st_n3, List.set_cons_zero, List.set_cons_succ]
          refine ih _ (by omega) (fun i' j' g1 g2 g3 => ?_)
          by_cases e : 13 * i' + j' = 13 * i + j
          · obtain ⟨rfl, rfl⟩ : i' = i ∧ j' = j := by omega
            rw [upd_s]
            rw [show n - j' = 0 by omega, lcR_s0]
          · rw [upd_n e]
            exact hf i' j' g1 g2 (by omega)
        · have hb1 := lc_le (a := (layF (I (M + 1)) u)) (b := (layF (I (M + 1)) v)) (m := m) (n := n) (m - (i + 1)) (n - j)
          have hb2 := lc_le (a := (layF (I (M + 1)) u)) (b := (layF (I (M + 1)) v)) (m := m) (n := n) (m - i) (n - (j + 1))
          refine Ex_aload_n dX9_commonOf_40 rfl ?_
          refine Ex_getr dX9_commonOf_41 fX9_22 hM.1 (mF6 hM).1 ?_
          refine Ex_bipush (v := nI 13) dX9_commonOf_44 (by rfl) ?_
          refine Ex_iload_n dX9_commonOf_46 rfl ?_
          first | with_reducible refine Ex_imulN dX9_commonOf_47 ?_ | refine Ex_imul dX9_commonOf_47 ?_
          refine Ex_bipush (v := nI 13) dX9_commonOf_48 (by rfl) ?_
          first | with_reducible refine Ex_iaddN dX9_commonOf_50 ?_ | refine Ex_iadd dX9_commonOf_50 ?_
          refine Ex_iload dX9_commonOf_51 rfl ?_
          first | with_reducible refine Ex_iaddN dX9_commonOf_53 ?_ | refine Ex_iadd dX9_commonOf_53 ?_
          refine Ex_iald dX9_commonOf_54 (mF6 hM).2.1 rfl (by rw [(mF6 hM).2.2]; omega) (by rw [(mF6 hM).2.2]; decide) ?_
          refine Ex_top (show _ = nI (lcR (layF (I (M + 1)) u) (layF (I (M + 1)) v) m n (m - (i + 1)) (n - (j))) by rw [rowI_s]; exact (congrArg f (by omega)).trans (hf (i + 1) (j) (by omega) (by omega) (by omega))) ?_
          refine Ex_aload_n dX9_commonOf_55 rfl ?_
          refine Ex_getr dX9_commonOf_56 fX9_22 hM.1 (mF6 hM).1 ?_
          refine Ex_bipush (v := nI 13) dX9_commonOf_59 (by rfl) ?_
          refine Ex_iload_n dX9_commonOf_61 rfl ?_
          first | with_reducible refine Ex_imulN dX9_commonOf_62 ?_ | refine Ex_imul dX9_commonOf_62 ?_
          refine Ex_iload dX9_commonOf_63 rfl ?_
          first | with_reducible refine Ex_iaddN dX9_commonOf_65 ?_ | refine Ex_iadd dX9_commonOf_65 ?_
          refine Ex_iconst (v := nI 1) dX9_commonOf_66 (by rfl) ?_
          first | with_reducible refine Ex_iaddN dX9_commonOf_67 ?_ | refine Ex_iadd dX9_commonOf_67 ?_
          refine Ex_iald dX9_commonOf_68 (mF6 hM).2.1 rfl (by rw [(mF6 hM).2.2]; omega) (by rw [(mF6 hM).2.2]; decide) ?_
          refine Ex_top (show _ = nI (lcR (layF (I (M + 1)) u) (layF (I (M + 1)) v) m n (m - (i)) (n - (j + 1))) by rw [rowI_s]; exact (congrArg f (by omega)).trans (hf (i) (j + 1) (by omega) (by omega) (by omega))) ?_
          refine Ex_icmp_leN (by omega) (by omega) (tgt := 90) dX9_commonOf_69 (by decide) (fun h69 => ?_) (fun h69 => ?_)
          · refine Ex_aload_n dX9_commonOf_90 rfl ?_
            refine Ex_getr dX9_commonOf_91 fX9_22 hM.1 (mF6 hM).1 ?_
            refine Ex_bipush (v := nI 13) dX9_commonOf_94 (by rfl) ?_
            refine Ex_iload_n dX9_commonOf_96 rfl ?_
            first | with_reducible refine Ex_imulN dX9_commonOf_97 ?_ | refine Ex_imul dX9_commonOf_97 ?_
            refine Ex_iload dX9_commonOf_98 rfl ?_
            first | with_reducible refine Ex_iaddN dX9_commonOf_100 ?_ | refine Ex_iadd dX9_commonOf_100 ?_
            refine Ex_iconst (v := nI 1) dX9_commonOf_101 (by rfl) ?_
            first | with_reducible refine Ex_iaddN dX9_commonOf_102 ?_ | refine Ex_iadd dX9_commonOf_102 ?_
            refine Ex_iald dX9_commonOf_103 (mF6 hM).2.1 rfl (by rw [(mF6 hM).2.2]; omega) (by rw [(mF6 hM).2.2]; decide) ?_
            refine Ex_top (show _ = nI (lcR (layF (I (M + 1)) u) (layF (I (M + 1)) v) m n (m - (i)) (n - (j + 1))) by rw [rowI_s]; exact (congrArg f (by omega)).trans (hf (i) (j + 1) (by omega) (by omega) (by omega))) ?_
            refine Ex_istore dX9_commonOf_104 (by decide) rfl ?_
            simp only [List.set_cons_zero, List.set_cons_succ]
            refine Ex_aload_n dX9_commonOf_106 rfl ?_
            refine Ex_iload_n dX9_commonOf_107 rfl ?_
            refine Ex_iconst (v := nI 4) dX9_commonOf_108 (by rfl) ?_
            refine Ex_iload_n dX9_commonOf_109 rfl ?_
            first | with_reducible refine Ex_iaddN dX9_commonOf_110 ?_ | refine Ex_iadd dX9_commonOf_110 ?_
            refine Ex_V2p dX9_commonOf_111 sX9_105 hM.1 (Nat.le_of_ble_eq_true rfl) (c9_of d hM u (4 + i) (by omega)) ?_
            refine Ex_top (show _ = (layF (I (M + 1)) u) i by rw [rowI_n (by omega)]; rfl) ?_
            refine Ex_aload_n dX9_commonOf_114 rfl ?_
            refine Ex_iload_n dX9_commonOf_115 rfl ?_
            refine Ex_iconst (v := nI 4) dX9_commonOf_116 (by rfl) ?_
            refine Ex_iload dX9_commonOf_117 rfl ?_
            first | with_reducible refine Ex_iaddN dX9_commonOf_119 ?_ | refine Ex_iadd dX9_commonOf_119 ?_
            refine Ex_V2p dX9_commonOf_120 sX9_105 hM.1 (Nat.le_of_ble_eq_true rfl) (c9_of d hM v (4 + j) (by omega)) ?_
            refine Ex_top (show _ = (layF (I (M + 1)) v) j by rw [rowI_n (by omega)]; rfl) ?_
            refine Ex_icmp_ne (tgt := 148) dX9_commonOf_123 (by decide) (fun h123 => ?_) (fun h123 => ?_)
            · have h123' := h123
              refine Ex_iload dX9_commonOf_148 rfl ?_
              refine Ex_istore dX9_commonOf_150 (by decide) rfl ?_
              simp only [List.set_cons_zero, List.set_cons_succ]
              refine Ex_aload_n dX9_commonOf_152 rfl ?_
              refine Ex_getr dX9_commonOf_153 fX9_22 hM.1 (mF6 hM).1 ?_
              refine Ex_bipush (v := nI 13) dX9_commonOf_156 (by rfl) ?_
              refine Ex_iload_n dX9_commonOf_158 rfl ?_
              first | with_reducible refine Ex_imulN dX9_commonOf_159 ?_ | refine Ex_imul dX9_commonOf_159 ?_
              refine Ex_iload dX9_commonOf_160 rfl ?_
              first | with_reducible refine Ex_iaddN dX9_commonOf_162 ?_ | refine Ex_iadd dX9_commonOf_162 ?_
              refine Ex_iload dX9_commonOf_163 rfl ?_
              refine Ex_iast dX9_commonOf_165 (mF6 hM).2.1 rfl (by rw [(mF6 hM).2.2]; omega) (by rw [(mF6 hM).2.2]; decide) ?_
              rw [setI_row, rowI_r, rowI_s]
              refine Ex_iinc (v := nI j - nI 1) dX9_commonOf_166 rfl (nI_dec j) (by decide) rfl ?_
              simp only [st_n0, st_n1, st_n2, st_n3, List.set_cons_zero, List.set_cons_succ]
              refine Ex_goto (tgt := 11) dX9_commonOf_169 (by decide) ?_
              refine Ex_drop 5 ?_
              refine Ex_drop 6 ?_
              simp only [st_n0, st_n1, st_n2, st_n3, List.set_cons_zero, List.set_cons_succ]
              refine ih _ (by omega) (fun i' j' g1 g2 g3 => ?_)
              by_cases e : 13 * i' + j' = 13 * i + j
              · obtain ⟨rfl, rfl⟩ : i' = i ∧ j' = j := by omega
                rw [upd_s]
                rw [lc_rec (i := i') (j := j') (by omega) (by omega), if_neg h123']; congr 1; exact (Nat.max_eq_right (by omega)).symm
              · rw [upd_n e]
                exact hf i' j' g1 g2 (by omega)
            · have h123' := h123
              refine Ex_iconst (v := nI 1) dX9_commonOf_126 (by rfl) ?_
              refine Ex_aload_n dX9_commonOf_127 rfl ?_
              refine Ex_getr dX9_commonOf_128 fX9_22 hM.1 (mF6 hM).1 ?_
              refine Ex_bipush (v := nI 13) dX9_commonOf_131 (by rfl) ?_
              refine Ex_iload_n dX9_commonOf_133 rfl ?_
              first | with_reducible refine Ex_imulN dX9_commonOf_134 ?_ | refine Ex_imul dX9_commonOf_134 ?_
              refine Ex_bipush (v := nI 13) dX9_commonOf_135 (by rfl) ?_
              first | with_reducible refine Ex_iaddN dX9_commonOf_137 ?_ | refine Ex_iadd dX9_commonOf_137 ?_
              refine Ex_iload dX9_commonOf_138 rfl ?_
              first | with_reducible refine Ex_iaddN dX9_commonOf_140 ?_ | refine Ex_iadd dX9_commonOf_140 ?_
              refine Ex_iconst (v := nI 1) dX9_commonOf_141 (by rfl) ?_
              first | with_reducible refine Ex_iaddN dX9_commonOf_142 ?_ | refine Ex_iadd dX9_commonOf_142 ?_
              refine Ex_iald dX9_commonOf_143 (mF6 hM).2.1 rfl (by rw [(mF6 hM).2.2]; omega) (by rw [(mF6 hM).2.2]; decide) ?_
              refine Ex_top (show _ = nI (lcR (layF (I (M + 1)) u) (layF (I (M + 1)) v) m n (m - (i + 1)) (n - (j + 1))) by rw [rowI_s]; exact (congrArg f (by omega)).trans (hf (i + 1) (j + 1) (by omega) (by omega) (by omega))) ?_
              first | with_reducible refine Ex_iaddN dX9_commonOf_144 ?_ | refine Ex_iadd dX9_commonOf_144 ?_
              refine Ex_goto (tgt := 150) dX9_commonOf_145 (by decide) ?_
              refine Ex_istore dX9_commonOf_150 (by decide) rfl ?_
              simp only [List.set_cons_zero, List.set_cons_succ]
              refine Ex_aload_n dX9_commonOf_152 rfl ?_
              refine Ex_getr dX9_commonOf_153 fX9_22 hM.1 (mF6 hM).1 ?_
              refine Ex_bipush (v := nI 13) dX9_commonOf_156 (by rfl) ?_
              refine Ex_iload_n dX9_commonOf_158 rfl ?_
              first | with_reducible refine Ex_imulN dX9_commonOf_159 ?_ | refine Ex_imul dX9_commonOf_159 ?_
              refine Ex_iload dX9_commonOf_160 rfl ?_
              first | with_reducible refine Ex_iaddN dX9_commonOf_162 ?_ | refine Ex_iadd dX9_commonOf_162 ?_
              refine Ex_iload dX9_commonOf_163 rfl ?_
              refine Ex_iast dX9_commonOf_165 (mF6 hM).2.1 rfl (by rw [(mF6 hM).2.2]; omega) (by rw [(mF6 hM).2.2]; decide) ?_
              rw [setI_row, rowI_r, rowI_s]
              refine Ex_iinc (v := nI j - nI 1) dX9_commonOf_166 rfl (nI_dec j) (by decide) rfl ?_
              simp only [st_n0, st_n1, st_n2, st_n3, List.set_cons_zero, List.set_cons_succ]
              refine Ex_goto (tgt := 11) dX9_commonOf_169 (by decide) ?_
              refine Ex_drop 5 ?_
              refine Ex_drop 6 ?_
              simp only [st_n0, st_n1, st_n2, st_n3, List.set_cons_zero, List.set_cons_succ]
              refine ih _ (by omega) (fun i' j' g1 g2 g3 => ?_)
              by_cases e : 13 * i' + j' = 13 * i + j
              · obtain ⟨rfl, rfl⟩ : i' = i ∧ j' = j := by omega
                rw [upd_s]
                rw [lc_rec (i := i') (j := j') (by omega) (by omega), if_pos h123']
              · rw [upd_n e]
                exact hf i' j' g1 g2 (by omega)
          · refine Ex_aload_n dX9_commonOf_72 rfl ?_
            refine Ex_getr dX9_commonOf_73 fX9_22 hM.1 (mF6 hM).1 ?_
            refine Ex_bipush (v := nI 13) dX9_commonOf_76 (by rfl) ?_
            refine Ex_iload_n dX9_commonOf_78 rfl ?_
            first | with_reducible refine Ex_imulN dX9_commonOf_79 ?_ | refine Ex_imul dX9_commonOf_79 ?_
            refine Ex_bipush (v := nI 13) dX9_commonOf_80 (by rfl) ?_
            first | with_reducible refine Ex_iaddN dX9_commonOf_82 ?_ | refine Ex_iadd dX9_commonOf_82 ?_
            refine Ex_iload dX9_commonOf_83 rfl ?_
            first | with_reducible refine Ex_iaddN dX9_commonOf_85 ?_ | refine Ex_iadd dX9_commonOf_85 ?_
            refine Ex_iald dX9_commonOf_86 (mF6 hM).2.1 rfl (by rw [(mF6 hM).2.2]; omega) (by rw [(mF6 hM).2.2]; decide) ?_
            refine Ex_top (show _ = nI (lcR (layF (I (M + 1)) u) (layF (I (M + 1)) v) m n (m - (i + 1)) (n - (j))) by rw [rowI_s]; exact (congrArg f (by omega)).trans (hf (i + 1) (j) (by omega) (by omega) (by omega))) ?_
            refine Ex_goto (tgt := 104) dX9_commonOf_87 (by decide) ?_
            refine Ex_istore dX9_commonOf_104 (by decide) rfl ?_
            simp only [List.set_cons_zero, List.set_cons_succ]
            refine Ex_aload_n dX9_commonOf_106 rfl ?_
            refine Ex_iload_n dX9_commonOf_107 rfl ?_
            refine Ex_iconst (v := nI 4) dX9_commonOf_108 (by rfl) ?_
            refine Ex_iload_n dX9_commonOf_109 rfl ?_
            first | with_reducible refine Ex_iaddN dX9_commonOf_110 ?_ | refine Ex_iadd dX9_commonOf_110 ?_
            refine Ex_V2p dX9_commonOf_111 sX9_105 hM.1 (Nat.le_of_ble_eq_true rfl) (c9_of d hM u (4 + i) (by omega)) ?_
            refine Ex_top (show _ = (layF (I (M + 1)) u) i by rw [rowI_n (by omega)]; rfl) ?_
            refine Ex_aload_n dX9_commonOf_114 rfl ?_
            refine Ex_iload_n dX9_commonOf_115 rfl ?_
            refine Ex_iconst (v := nI 4) dX9_commonOf_116 (by rfl) ?_
            refine Ex_iload dX9_commonOf_117 rfl ?_
            first | with_reducible refine Ex_iaddN dX9_commonOf_119 ?_ | refine Ex_iadd dX9_commonOf_119 ?_
            refine Ex_V2p dX9_commonOf_120 sX9_105 hM.1 (Nat.le_of_ble_eq_true rfl) (c9_of d hM v (4 + j) (by omega)) ?_
            refine Ex_top (show _ = (layF (I (M + 1)) v) j by rw [rowI_n (by omega)]; rfl) ?_
            refine Ex_icmp_ne (tgt := 148) dX9_commonOf_123 (by decide) (fun h123 => ?_) (fun h123 => ?_)
            · have h123' := h123
              refine Ex_iload dX9_commonOf_148 rfl ?_
              refine Ex_istore dX9_commonOf_150 (by decide) rfl ?_
              simp only [List.set_cons_zero, List.set_cons_succ]
              refine Ex_aload_n dX9_commonOf_152 rfl ?_
              refine Ex_getr dX9_commonOf_153 fX9_22 hM.1 (mF6 hM).1 ?_
              refine Ex_bipush (v := nI 13) dX9_commonOf_156 (by rfl) ?_
              refine Ex_iload_n dX9_commonOf_158 rfl ?_
              first | with_reducible refine Ex_imulN dX9_commonOf_159 ?_ | refine Ex_imul dX9_commonOf_159 ?_
              refine Ex_iload dX9_commonOf_160 rfl ?_
              first | with_reducible refine Ex_iaddN dX9_commonOf_162 ?_ | refine Ex_iadd dX9_commonOf_162 ?_
              refine Ex_iload dX9_commonOf_163 rfl ?_
              refine Ex_iast dX9_commonOf_165 (mF6 hM).2.1 rfl (by rw [(mF6 hM).2.2]; omega) (by rw [(mF6 hM).2.2]; decide) ?_
              rw [setI_row, rowI_r, rowI_s]
              refine Ex_iinc (v := nI j - nI 1) dX9_commonOf_166 rfl (nI_dec j) (by decide) rfl ?_
              simp only [st_n0, st_n1, st_n2, st_n3, List.set_cons_zero, List.set_cons_succ]
              refine Ex_goto (tgt := 11) dX9_commonOf_169 (by decide) ?_
              refine Ex_drop 5 ?_
              refine Ex_drop 6 ?_
              simp only [st_n0, st_n1, st_n2, st_n3, List.set_cons_zero, List.set_cons_succ]
              refine ih _ (by omega) (fun i' j' g1 g2 g3 => ?_)
              by_cases e : 13 * i' + j' = 13 * i + j
              · obtain ⟨rfl, rfl⟩ : i' = i ∧ j' = j := by omega
                rw [upd_s]
                rw [lc_rec (i := i') (j := j') (by omega) (by omega), if_neg h123']; congr 1; exact (Nat.max_eq_left (by omega)).symm
              · rw [upd_n e]
                exact hf i' j' g1 g2 (by omega)
            · have h123' := h123
              refine Ex_iconst (v := nI 1) dX9_commonOf_126 (by rfl) ?_
              refine Ex_aload_n dX9_commonOf_127 rfl ?_
              refine Ex_getr dX9_commonOf_128 fX9_22 hM.1 (mF6 hM).1 ?_
              refine Ex_bipush (v := nI 13) dX9_commonOf_131 (by rfl) ?_
              refine Ex_iload_n dX9_commonOf_133 rfl ?_
              first | with_reducible refine Ex_imulN dX9_commonOf_134 ?_ | refine Ex_imul dX9_commonOf_134 ?_
              refine Ex_bipush (v := nI 13) dX9_commonOf_135 (by rfl) ?_
              first | with_reducible refine Ex_iaddN dX9_commonOf_137 ?_ | refine Ex_iadd dX9_commonOf_137 ?_
              refine Ex_iload dX9_commonOf_138 rfl ?_
              first | with_reducible refine Ex_iaddN dX9_commonOf_140 ?_ | refine Ex_iadd dX9_commonOf_140 ?_
              refine Ex_iconst (v := nI 1) dX9_commonOf_141 (by rfl) ?_
              first | with_reducible refine Ex_iaddN dX9_commonOf_142 ?_ | refine Ex_iadd dX9_commonOf_142 ?_
              refine Ex_iald dX9_commonOf_143 (mF6 hM).2.1 rfl (by rw [(mF6 hM).2.2]; omega) (by rw [(mF6 hM).2.2]; decide) ?_
              refine Ex_top (show _ = nI (lcR (layF (I (M + 1)) u) (layF (I (M + 1)) v) m n (m - (i + 1)) (n - (j + 1))) by rw [rowI_s]; exact (congrArg f (by omega)).trans (hf (i + 1) (j + 1) (by omega) (by omega) (by omega))) ?_
              first | with_reducible refine Ex_iaddN dX9_commonOf_144 ?_ | refine Ex_iadd dX9_commonOf_144 ?_
              refine Ex_goto (tgt := 150) dX9_commonOf_145 (by decide) ?_
              refine Ex_istore dX9_commonOf_150 (by decide) rfl ?_
              simp only [List.set_cons_zero, List.set_cons_succ]
              refine Ex_aload_n dX9_commonOf_152 rfl ?_
              refine Ex_getr dX9_commonOf_153 fX9_22 hM.1 (mF6 hM).1 ?_
              refine Ex_bipush (v := nI 13) dX9_commonOf_156 (by rfl) ?_
              refine Ex_iload_n dX9_commonOf_158 rfl ?_
              first | with_reducible refine Ex_imulN dX9_commonOf_159 ?_ | refine Ex_imul dX9_commonOf_159 ?_
              refine Ex_iload dX9_commonOf_160 rfl ?_
              first | with_reducible refine Ex_iaddN dX9_commonOf_162 ?_ | refine Ex_iadd dX9_commonOf_162 ?_
              refine Ex_iload dX9_commonOf_163 rfl ?_
              refine Ex_iast dX9_commonOf_165 (mF6 hM).2.1 rfl (by rw [(mF6 hM).2.2]; omega) (by rw [(mF6 hM).2.2]; decide) ?_
              rw [setI_row, rowI_r, rowI_s]
              refine Ex_iinc (v := nI j - nI 1) dX9_commonOf_166 rfl (nI_dec j) (by decide) rfl ?_
              simp only [st_n0, st_n1, st_n2, st_n3, List.set_cons_zero, List.set_cons_succ]
              refine Ex_goto (tgt := 11) dX9_commonOf_169 (by decide) ?_
              refine Ex_drop 5 ?_
              refine Ex_drop 6 ?_
              simp only [st_n0, st_n1, st_n2, st_n3, List.set_cons_zero, List.set_cons_succ]
              refine ih _ (by omega) (fun i' j' g1 g2 g3 => ?_)
              by_cases e : 13 * i' + j' = 13 * i + j
              · obtain ⟨rfl, rfl⟩ : i' = i ∧ j' = j := by omega
                rw [upd_s]
                rw [lc_rec (i := i') (j := j') (by omega) (by omega), if_pos h123']
              · rw [upd_n e]
                exact hf i' j' g1 g2 (by omega)
set_option maxRecDepth 100000 in
set_option maxHeartbeats 4000000 in
theorem l9_com2 {T : TC} {I : MI} {G : MG} {F : FinT} {b : Nat × Nat} (d : Nat) {M : Nat} (hM : MSh T G M) (u v m n : Nat) (hu : u < 8) (hv : v < 8) (hm1 : I (M + 1) (8 + 17 * u + 2) = nI m) (hm : m ≤ 12) (hn1 : I (M + 1) (8 + 17 * v + 2) = nI n) (hn : n ≤ 12) (kx : ∀ f, (∀ i' j', i' ≤ 12 → j' ≤ 12 → (0 < i' ∨ (i' = 0 ∧ 0 ≤ j')) → f (13 * i' + j') = nI (lcR (layF (I (M + 1)) u) (layF (I (M + 1)) v) m n (m - i') (n - j'))) → Ex T RX9 cX9_commonOf 7 (d + 1) F 3 [some (.ref M), some (.int (nI u)), some (.int (nI v)), some (.int (nI 0 - nI 1)), none, none, none] [] (rowI I (M + 5) f) G b) : ∀ p f, p ≤ 13 → (∀ i' j', i' ≤ 12 → j' ≤ 12 → p ≤ i' → f (13 * i' + j') = nI (lcR (layF (I (M + 1)) u) (layF (I (M + 1)) v) m n (m - i') (n - j'))) → Ex T RX9 cX9_commonOf 7 (d + 1) F 3 [some (.ref M), some (.int (nI u)), some (.int (nI v)), some (.int (nI p - nI 1)), none, none, none] [] (rowI I (M + 5) f) G b := by
  intro p
  induction p with
  | zero => intro f _ hf; exact kx f (fun i' j' g1 g2 _ => hf i' j' g1 g2 (by omega))
  | succ i ih =>
    intro f hi hf
    have e1 : nI (i + 1) - nI 1 = nI i := pk_sub (by omega)
    rw [e1]
    refine Ex_iload_n dX9_commonOf_3 rfl ?_
    refine Ex_if_lt (tgt := 178) dX9_commonOf_4 (by decide) (fun h4 => ?_) (fun h4 => ?_)
    · exact absurd h4 (nI_pos (by omega))
    · refine Ex_bipush (v := nI 12) dX9_commonOf_7 (by rfl) ?_
      refine Ex_istore dX9_commonOf_9 (by decide) rfl ?_
      simp only [List.set_cons_zero, List.set_cons_succ]
      refine l9_com1 d hM u v m n hu hv hm1 hm hn1 hn i (by omega) ?_ 13 f (by omega) (fun i' j' g1 g2 g3 => hf i' j' g1 g2 (by omega))
      intro f2 hf2
      refine Ex_iload dX9_commonOf_11 rfl ?_
      refine Ex_if_lt (tgt := 172) dX9_commonOf_13 (by decide) (fun h13 => ?_) (fun h13 => ?_)
      · refine Ex_iinc (v := nI i - nI 1) dX9_commonOf_172 rfl (nI_dec i) (by decide) rfl ?_
        simp only [st_n0, st_n1, st_n2, st_n3, List.set_cons_zero, List.set_cons_succ]
        refine Ex_goto (tgt := 3) dX9_commonOf_175 (by decide) ?_
        refine Ex_drop 4 ?_
        simp only [st_n0, st_n1, st_n2, st_n3, List.set_cons_zero, List.set_cons_succ]
        exact ih f2 (by omega) (fun i' j' g1 g2 g3 => hf2 i' j' g1 g2 (by omega))
      · exact absurd m1_lt h13
set_option maxRecDepth 100000 in
set_option maxHeartbeats 4000000 in
theorem c9_commonOf {T : TC} {I : MI} {G : MG} (d : Nat) {M : Nat} (hM : MSh T G M) (u v m n : Nat) (hu : u < 8) (hv : v < 8) (hm1 : I (M + 1) (8 + 17 * u + 2) = nI m) (hm : m ≤ 12) (hn1 : I (M + 1) (8 + 17 * v + 2) = nI n) (hn : n ≤ 12) : OkI T mX9_commonOf (d + 1) [.ref M, .int (nI u), .int (nI v)] I G (fun r I' G' => r = nI (lcR (layF (I (M + 1)) u) (layF (I (M + 1)) v) m n m n) ∧ (∀ i' j', i' ≤ 12 → j' ≤ 12 → I' (M + 5) (13 * i' + j') = nI (lcR (layF (I (M + 1)) u) (layF (I (M + 1)) v) m n (m - i') (n - j'))) ∧ Fr (fun a => a = M + 5) I I' ∧ G' = G) := by
  refine Ok_of (own := RX9) (by decide) rfl (cat1 rfl) (Nat.le_of_ble_eq_true rfl) ?_
  show Ex T RX9 cX9_commonOf 7 (d + 1) _ 0 [some (.ref M), some (.int (nI u)), some (.int (nI v)), none, none, none, none] [] I G (0, 0)
  refine Ex_bipush (v := nI 12) dX9_commonOf_0 (by rfl) ?_
  refine Ex_istore_n dX9_commonOf_2 (by decide) rfl ?_
  simp only [st_n0, st_n1, st_n2, st_n3, List.set_cons_zero, List.set_cons_succ]
  refine Ex_eqI (rowI_self (a := M + 5)).symm ?_
  rw [show nI 12 = nI 13 - nI 1 from (pk_sub (a := 13) (b := 1) (by omega)).symm]
  refine l9_com2 d hM u v m n hu hv hm1 hm hn1 hn ?_ 13 (I (M + 5)) (by omega) (fun i' j' g1 g2 g3 => by omega)
  intro f hf
  refine Ex_iload_n dX9_commonOf_3 rfl ?_
  refine Ex_if_lt (tgt := 178) dX9_commonOf_4 (by decide) (fun h4 => ?_) (fun h4 => ?_)
  · refine Ex_aload_n dX9_commonOf_178 rfl ?_
    refine Ex_getr dX9_commonOf_179 fX9_22 hM.1 (mF6 hM).1 ?_
    refine Ex_iconst (v := nI 0) dX9_commonOf_182 (by rfl) ?_
    refine Ex_iald dX9_commonOf_183 (mF6 hM).2.1 rfl (by rw [(mF6 hM).2.2]; omega) (by rw [(mF6 hM).2.2]; decide) ?_
    refine Ex_top (show _ = nI (lcR (layF (I (M + 1)) u) (layF (I (M + 1)) v) m n m n) by rw [rowI_s]; exact hf 0 0 (by omega) (by omega) (by omega)) ?_
    refine Ex_iret dX9_commonOf_184 (by first | rfl | exact narrow_bI) ?_
    exact ⟨_, rfl, rfl, (fun i' j' g1 g2 => by rw [rowI_s]; exact hf i' j' g1 g2 (by omega)), Fr.row rfl, rfl⟩
  · exact absurd m1_lt h4
