/-! the law: feed -/
theorem sh_b (x : BitVec 32) (n : Nat) (hn : n ≤ 24) : x.sshiftRight n &&& 255#32 = (x >>> n) &&& 255#32 := by
  apply BitVec.eq_of_getLsbD_eq
  intro i hi
  simp only [BitVec.getLsbD_and, BitVec.getLsbD_sshiftRight, BitVec.getLsbD_ushiftRight]
  by_cases h : i < 8
  · have h1 : n + i < 32 := by omega
    have h2 : decide (32 ≤ i) = false := decide_eq_false (by omega)
    simp [h1, h2]
  · have h3 : (255#32).getLsbD i = false := (show ∀ i, i < 32 → ¬ i < 8 → (255#32).getLsbD i = false by decide) i hi h
    rw [h3]
    simp
theorem fd_b (x : Int32) : ∀ r, r < 4 → x >>> ((nI 24 - nI (8 * r)) &&& 31) &&& nI 255 = cB x r := by
  have key : ∀ (s : Int32) (u : Int32) (n : Nat), n ≤ 24 → (s.toBitVec.smod 32).toNat = n → ((u.toUInt32 &&& Int32.toUInt32 31).toBitVec % 32).toNat = n → x >>> s &&& nI 255 = (x.toUInt32 >>> (u.toUInt32 &&& Int32.toUInt32 31)).toInt32 &&& nI 255 := by
    intro s u n hn h1 h2
    apply Int32.toBitVec_inj.mp
    have e1 : (x >>> s).toBitVec = x.toBitVec.sshiftRight n := by rw [← h1]; rfl
    have e2 : ((x.toUInt32 >>> (u.toUInt32 &&& Int32.toUInt32 31)).toInt32).toBitVec = x.toBitVec >>> n := by rw [← h2]; rfl
    show (x >>> s).toBitVec &&& 255#32 = ((x.toUInt32 >>> (u.toUInt32 &&& Int32.toUInt32 31)).toInt32).toBitVec &&& 255#32
    rw [e1, e2]
    exact sh_b _ _ hn
  intro r hr
  rcases (show r = 0 ∨ r = 1 ∨ r = 2 ∨ r = 3 by omega) with rfl | rfl | rfl | rfl
  · exact key _ (nI 24) 24 (by decide) (by decide) (by decide)
  · exact key _ (nI 16) 16 (by decide) (by decide) (by decide)
  · exact key _ (nI 8) 8 (by decide) (by decide) (by decide)
  · exact key _ (nI 0) 0 (by decide) (by decide) (by decide)
def byN (a q c : Int32) (k : Nat) : Nat := cl (fdB a q c k)
theorem fdB_n (a q c : Int32) (k : Nat) : fdB a q c k = nI (byN a q c k) ∧ byN a q c k < 256 := by
  obtain ⟨n, hn, e⟩ := pk_andE ((if k < 4 then a else if k < 8 then q else c) >>> ((nI 24 - nI (8 * (k % 4))) &&& 31)) (m := nI 255) 8 (by decide)
  have e1 : fdB a q c k = nI n := e
  have hn' : n < 256 := hn
  have e2 : byN a q c k = n := by
    unfold byN
    rw [e1]
    exact cl_nI (by omega)
  rw [e2]
  exact ⟨e1, hn'⟩
theorem fdB_c (a q c : Int32) (k : Nat) : fdB a q c k = cB (if k < 4 then a else if k < 8 then q else c) (k % 4) := fd_b _ _ (Nat.mod_lt _ (by decide))
theorem tpF_n {f : Nat → Int32} {tp j : Nat} {a q c : Int32} (h1 : tp ≤ j) (h2 : j < tp + 12) : tpF f tp a q c j = fdB a q c (j - tp) := by
  rw [fdB_c]
  unfold tpF tpW
  by_cases c3 : tp + 8 ≤ j ∧ j < tp + 8 + 4
  · rw [if_pos c3, if_neg (by omega), if_neg (by omega)]
    congr 1
    omega
  · rw [if_neg c3]
    by_cases c2 : tp + 4 ≤ j ∧ j < tp + 4 + 4
    · rw [if_pos c2, if_neg (by omega), if_pos (by omega)]
      congr 1
      omega
    · rw [if_neg c2, if_pos (by omega), if_pos (by omega)]
      congr 1
      omega
theorem tpF_o {f : Nat → Int32} {tp j : Nat} {a q c : Int32} (h1 : j < tp) : tpF f tp a q c j = f j := by
  unfold tpF tpW
  rw [if_neg (by omega), if_neg (by omega), if_neg (by omega)]
theorem K_feed {T : TC} {J : MI} {H : MG} {D : Nat} (e : Nat) (hL : LI T D J H) (a q c : Int32) : Two T mX8_feed mX9_feed (e + 100) D [.int a, .int q, .int c] J H := by
  have hL0 := hL
  obtain ⟨hD, hM, ⟨j, hj⟩, g, gi, im, so, sz, ce, th, A, B, hc, tp, tb, w, tl, hC, hR, hP⟩ := hL
  refine OkI.imp (C8_feed (e + 99) hD tp a q c hC.2.2.2.2.1.1 hP.2.2.2.1.1) ?_
  rintro _ J1 _ ⟨rfl, hq, rfl⟩
  by_cases h84 : tp ≤ 84
  · rw [if_pos h84] at hq
    obtain ⟨q1, q2, hF⟩ := hq
    have hC1 := hC.tap (tp' := tp + 12) (tb' := fun j => if j < tp then tb j else byN a q c (j - tp)) (by omega) hF q1 (fun j hj => by
      rw [q2]
      by_cases h : j < tp
      · rw [if_pos h, tpF_o h]; exact hC.2.2.2.2.1.2 j h
      · rw [if_neg h, tpF_n (by omega) hj]; exact (fdB_n a q c _).1)
    replace hR := hR.cls (fun x h1 h2 => hF x (fun z => by unfold PTp at z; omega))
    refine ⟨hM, OkI.imp (C9_feed (e + 100) hM tp a q c hR.2.2.2.1.1 hP.2.2.2.1.1) ?_⟩
    rintro _ J2 _ ⟨rfl, hJ2, rfl⟩
    rw [if_pos h84] at hJ2
    subst hJ2
    have e1 : ∀ i, i ≠ 0 → i ≠ 10 → (rowI (rowI J1 (D + 117 + 10) (fdT (J1 (D + 117 + 10)) tp a q c 12)) (D + 117) (upd (J1 (D + 117)) 12 (nI (tp + 12)))) (D + 117 + i) = J1 (D + 117 + i) := fun i h0 h2 => by rw [rowI_n (by omega), rowI_n (by omega)]
    refine ⟨rfl, hD, hM, ⟨j, hj⟩, g, gi, im, so, sz, ce, th, A, B, hc, tp + 12, _, w, tl, hC1.frm (by omega) (fun x hx => by rw [rowI_n (by omega), rowI_n (by omega)]), ?_, hP.1, hP.2.1, hP.2.2.1, ⟨by omega, fun j hj => ?_⟩, hP.2.2.2.2⟩
    · exact hR.own (Fr.trans (Fr.row (Or.inr (Or.inr (Or.inl rfl)))) (Fr.row (Or.inl rfl))) (by rw [e1 1 (by omega) (by omega)]; exact hR.1.1) (by rw [e1 2 (by omega) (by omega)]; exact hR.1.2.1) (by rw [rowI_s, upd_n (by omega)]; exact hR.1.2.2) (by rw [rowI_s, upd_s]) (fun j hj => by
        rw [rowI_n (by omega), rowI_s]
        unfold fdT
        by_cases h : j < tp
        · rw [if_neg (by omega), if_pos h]; exact hR.2.2.2.1.2 j h
        · rw [if_pos (by omega), if_neg h]; exact (fdB_n a q c _).1) (by rw [rowI_s, upd_n (by omega)]; exact hR.2.2.2.2.1.1) (by rw [e1 26 (by omega) (by omega)]; exact hR.2.2.2.2.1.2)
    · show (if j < tp then tb j else byN a q c (j - tp)) < 256
      split
      · exact hP.2.2.2.1.2 j (by assumption)
      · exact (fdB_n a q c _).2
  · rw [if_neg h84] at hq
    subst hq
    refine ⟨hM, OkI.imp (C9_feed (e + 100) hM tp a q c hR.2.2.2.1.1 hP.2.2.2.1.1) ?_⟩
    rintro _ J2 _ ⟨rfl, hJ2, rfl⟩
    rw [if_neg h84] at hJ2
    rw [hJ2]
    exact ⟨rfl, hL0⟩
