/-! small rules -/
theorem st_n0 : ((0 : Fin 4) : Nat) = 0 := rfl
theorem st_n1 : ((1 : Fin 4) : Nat) = 1 := rfl
theorem st_n2 : ((2 : Fin 4) : Nat) = 2 := rfl
theorem st_n3 : ((3 : Fin 4) : Nat) = 3 := rfl
theorem i_lt (a b : Int32) : a < b ↔ a.toInt < b.toInt := Int32.lt_iff_toInt_lt
theorem i_le (a b : Int32) : a ≤ b ↔ a.toInt ≤ b.toInt := Int32.le_iff_toInt_le
theorem i_eq (a b : Int32) : a = b ↔ a.toInt = b.toInt := ⟨fun h => by rw [h], fun h => Int32.toInt_inj.mp h⟩
theorem i_rng (x : Int32) : -2147483648 ≤ x.toInt ∧ x.toInt < 2147483648 := ⟨by have := Int32.le_toInt x; omega, by have := Int32.toInt_lt x; omega⟩
theorem iz_0 : (0 : Int32).toInt = 0 := rfl
theorem sw_cases (x : Int32) (lo hi : Int) (h1 : -2147483648 ≤ lo) (h2 : hi < 2147483648) : (∃ k : Int, lo ≤ k ∧ k ≤ hi ∧ x = Int32.ofInt k) ∨ (x.toInt < lo ∨ hi < x.toInt) := by
  by_cases h : x.toInt < lo ∨ hi < x.toInt
  · exact Or.inr h
  · refine Or.inl ⟨x.toInt, by omega, by omega, ?_⟩
    exact (Int32.ofInt_toInt x).symm
section M8
variable {T : TC} {own : String} {cc : ByteArray} {nL d pc pc' : Nat} {F : FinT} {ls : List (Option Value)} {st : List Value} {I : MI} {G : MG} {b : Nat × Nat}
theorem Ex_iaddN {x y : Nat} (hd : Dc cc pc 1 pc' .iadd) (k : Ex T own cc nL d F pc' ls (.int (nI (x + y)) :: st) I G b) : Ex T own cc nL d F pc ls (.int (nI y) :: .int (nI x) :: st) I G b := by
  refine Ex_iadd hd ?_
  rw [nI_add]; exact k
theorem Ex_imulN {x y : Nat} (hd : Dc cc pc 1 pc' .imul) (k : Ex T own cc nL d F pc' ls (.int (nI (x * y)) :: st) I G b) : Ex T own cc nL d F pc ls (.int (nI y) :: .int (nI x) :: st) I G b := by
  refine Ex_imul hd ?_
  rw [pk_mul]; exact k
theorem Ex_isubN {x y : Nat} (h : y ≤ x) (hd : Dc cc pc 1 pc' .isub) (k : Ex T own cc nL d F pc' ls (.int (nI (x - y)) :: st) I G b) : Ex T own cc nL d F pc ls (.int (nI y) :: .int (nI x) :: st) I G b := by
  refine Ex_isub hd ?_
  rw [pk_sub h]; exact k
theorem Ex_iremN {x y : Nat} (hx : x < 2 ^ 31) (h0 : 0 < y) (hy : y < 2 ^ 31) (hd : Dc cc pc 1 pc' .irem) (k : Ex T own cc nL d F pc' ls (.int (nI (x % y)) :: st) I G b) : Ex T own cc nL d F pc ls (.int (nI y) :: .int (nI x) :: st) I G b := by
  refine Ex_irem hd (nI_ne0 h0 hy) ?_
  rw [pk_rem hx h0 hy]; exact k
theorem Ex_iincN {i x m : Nat} {n : Int} (hd : Dc cc pc 3 pc' (.iinc i n)) (hl : ls[i]? = some (some (.int (nI x)))) (hv : Int32.ofInt n = nI m) (hn : i < nL) (hs : stOk ls i = true) (k : Ex T own cc nL d F pc' (ls.set i (some (.int (nI (x + m))))) st I G b) : Ex T own cc nL d F pc ls st I G b :=
  Ex_iinc hd hl (by rw [hv, nI_add]) hn hs k
theorem Ex_icmp_eqN {x y : Nat} {off : Int} {tgt : Nat} (hx : x < 2 ^ 31) (hy : y < 2 ^ 31) (hd : Dc cc pc 3 pc' (.if_icmp .eq off)) (ht : (pc : Int) + off = (tgt : Int)) (kt : x = y → Ex T own cc nL d F tgt ls st I G b) (kf : ¬ x = y → Ex T own cc nL d F pc' ls st I G b) : Ex T own cc nL d F pc ls (.int (nI y) :: .int (nI x) :: st) I G b :=
  Ex_icmp_eq hd ht (fun h => kt ((nI_eq hx hy).mp h)) (fun h => kf (fun q => h ((nI_eq hx hy).mpr q)))
theorem Ex_icmp_neN {x y : Nat} {off : Int} {tgt : Nat} (hx : x < 2 ^ 31) (hy : y < 2 ^ 31) (hd : Dc cc pc 3 pc' (.if_icmp .ne off)) (ht : (pc : Int) + off = (tgt : Int)) (kt : ¬ x = y → Ex T own cc nL d F tgt ls st I G b) (kf : x = y → Ex T own cc nL d F pc' ls st I G b) : Ex T own cc nL d F pc ls (.int (nI y) :: .int (nI x) :: st) I G b :=
  Ex_icmp_ne hd ht (fun h => kt (fun q => h ((nI_eq hx hy).mpr q))) (fun h => kf ((nI_eq hx hy).mp h))
theorem Ex_icmp_ltN {x y : Nat} {off : Int} {tgt : Nat} (hx : x < 2 ^ 31) (hy : y < 2 ^ 31) (hd : Dc cc pc 3 pc' (.if_icmp .lt off)) (ht : (pc : Int) + off = (tgt : Int)) (kt : x < y → Ex T own cc nL d F tgt ls st I G b) (kf : ¬ x < y → Ex T own cc nL d F pc' ls st I G b) : Ex T own cc nL d F pc ls (.int (nI y) :: .int (nI x) :: st) I G b :=
  Ex_icmp_lt hd ht (fun h => kt ((nI_ltI hx hy).mp h)) (fun h => kf (fun q => h ((nI_ltI hx hy).mpr q)))
theorem Ex_icmp_geN {x y : Nat} {off : Int} {tgt : Nat} (hx : x < 2 ^ 31) (hy : y < 2 ^ 31) (hd : Dc cc pc 3 pc' (.if_icmp .ge off)) (ht : (pc : Int) + off = (tgt : Int)) (kt : y ≤ x → Ex T own cc nL d F tgt ls st I G b) (kf : ¬ y ≤ x → Ex T own cc nL d F pc' ls st I G b) : Ex T own cc nL d F pc ls (.int (nI y) :: .int (nI x) :: st) I G b :=
  Ex_icmp_ge hd ht (fun h => kt ((nI_leI hy hx).mp h)) (fun h => kf (fun q => h ((nI_leI hy hx).mpr q)))
theorem Ex_icmp_gtN {x y : Nat} {off : Int} {tgt : Nat} (hx : x < 2 ^ 31) (hy : y < 2 ^ 31) (hd : Dc cc pc 3 pc' (.if_icmp .gt off)) (ht : (pc : Int) + off = (tgt : Int)) (kt : y < x → Ex T own cc nL d F tgt ls st I G b) (kf : ¬ y < x → Ex T own cc nL d F pc' ls st I G b) : Ex T own cc nL d F pc ls (.int (nI y) :: .int (nI x) :: st) I G b :=
  Ex_icmp_gt hd ht (fun h => kt ((nI_ltI hy hx).mp h)) (fun h => kf (fun q => h ((nI_ltI hy hx).mpr q)))
theorem Ex_icmp_leN {x y : Nat} {off : Int} {tgt : Nat} (hx : x < 2 ^ 31) (hy : y < 2 ^ 31) (hd : Dc cc pc 3 pc' (.if_icmp .le off)) (ht : (pc : Int) + off = (tgt : Int)) (kt : x ≤ y → Ex T own cc nL d F tgt ls st I G b) (kf : ¬ x ≤ y → Ex T own cc nL d F pc' ls st I G b) : Ex T own cc nL d F pc ls (.int (nI y) :: .int (nI x) :: st) I G b :=
  Ex_icmp_le hd ht (fun h => kt ((nI_leI hx hy).mp h)) (fun h => kf (fun q => h ((nI_leI hx hy).mpr q)))
/-- a boolean that a call gave is looked at -/
theorem Ex_if_eqB {c : Prop} [Decidable c] {off : Int} {tgt : Nat} (hd : Dc cc pc 3 pc' (.ifCond .eq off)) (ht : (pc : Int) + off = (tgt : Int)) (kt : ¬ c → Ex T own cc nL d F tgt ls st I G b) (kf : c → Ex T own cc nL d F pc' ls st I G b) : Ex T own cc nL d F pc ls (.int (bI c) :: st) I G b :=
  Ex_if_eq hd ht (fun h => kt (bI_0.mp h)) (fun h => kf (Decidable.not_not.mp (fun q => h (bI_0.mpr q))))
theorem Ex_if_neB {c : Prop} [Decidable c] {off : Int} {tgt : Nat} (hd : Dc cc pc 3 pc' (.ifCond .ne off)) (ht : (pc : Int) + off = (tgt : Int)) (kt : c → Ex T own cc nL d F tgt ls st I G b) (kf : ¬ c → Ex T own cc nL d F pc' ls st I G b) : Ex T own cc nL d F pc ls (.int (bI c) :: st) I G b :=
  Ex_if_ne hd ht (fun h => kt (Decidable.not_not.mp (fun q => h (bI_0.mpr q)))) (fun h => kf (bI_0.mp h))
/-- two ways that meet: one memory, one place -/
theorem Ex_ite {c : Prop} [Decidable c] {x y : Int32} (kt : c → Ex T own cc nL d F pc ls (.int x :: st) I G b) (kf : ¬ c → Ex T own cc nL d F pc ls (.int y :: st) I G b) : Ex T own cc nL d F pc ls (.int (if c then x else y) :: st) I G b := by
  by_cases h : c
  · rw [if_pos h]; exact kt h
  · rw [if_neg h]; exact kf h
end M8
theorem OkP.of {T : TC} {Y : YD} {d : Nat} {as : List Value} {I : MI} {G : MG} {r r' : Int32} (h : OkP T Y d as I G r) (e : r = r') : OkP T Y d as I G r' := e ▸ h
theorem bI_congr {c e : Prop} [Decidable c] [Decidable e] (h : c ↔ e) : bI c = bI e := by
  unfold bI
  by_cases hc : c
  · rw [if_pos hc, if_pos (h.mp hc)]
  · rw [if_neg hc, if_neg (fun q => hc (h.mpr q))]
theorem rng_k {v : Int32} {n : Nat} (hn : n < 2 ^ 31) : (0 ≤ v ∧ v < nI n) ↔ ∃ k, k < n ∧ v = nI k := by
  constructor
  · rintro ⟨h1, h2⟩
    obtain ⟨j, hj, rfl⟩ := nI_of (x := v) (by rw [i_lt]; rw [i_le] at h1; omega)
    exact ⟨j, (nI_ltI hj hn).mp h2, rfl⟩
  · rintro ⟨k, hk, rfl⟩
    exact ⟨nI_pos' (by omega), nI_lt hk hn⟩
theorem rng_k2 {v : Int32} {n : Nat} (hn : n < 2 ^ 31) : (nI 0 ≤ v ∧ v ≤ nI n) ↔ ∃ k, k ≤ n ∧ v = nI k := by
  constructor
  · rintro ⟨h1, h2⟩
    obtain ⟨j, hj, rfl⟩ := nI_of (x := v) (by rw [i_lt]; have h1 : (0 : Int32) ≤ v := h1; rw [i_le] at h1; omega)
    exact ⟨j, (nI_leI hj hn).mp h2, rfl⟩
  · rintro ⟨k, hk, rfl⟩
    exact ⟨nI_le (Nat.zero_le _) (by omega), nI_le hk hn⟩
theorem cat1 {as : List Value} (h : as.all (fun v => v.category == 1) = true) : ∀ v ∈ as, v.category = 1 := fun v hv => by simpa using List.all_eq_true.mp h v hv
theorem narrow_bI {c : Prop} [Decidable c] : narrow .boolean (.int (bI c)) = .int (bI c) := by
  unfold bI; split <;> rfl
