/-! what stays true of g -/
theorem LyOk_congr {g g' : Nat → Int32} {s : Nat} (h : ∀ j, 8 + 17 * s ≤ j → j < 8 + 17 * s + 17 → g' j = g j) (hl : LyOk g s) : LyOk g' s := by
  obtain ⟨h1, h2, h3, k, h4, h5⟩ := hl
  have e : mN g' s = mN g s := by unfold mN; rw [h _ (by omega) (by omega)]
  refine ⟨by rw [e, h _ (by omega) (by omega)]; exact h1, by rw [e]; exact h2, fun i hi => ?_, k, h4, by rw [h _ (by omega) (by omega)]; exact h5⟩
  rw [e] at hi
  obtain ⟨x, hx, hx2⟩ := h3 i hi
  exact ⟨x, hx, by rw [h _ (by omega) (by omega)]; exact hx2⟩
theorem TxAll_congr {g g' : Nat → Int32} (h7 : g' 7 = g 7) (h : ∀ j, 144 ≤ j → g' j = g j) (ht : TxAll g) : TxAll g' := by
  have e : tN g' = tN g := by unfold tN; rw [h7]
  obtain ⟨h1, h2, h3⟩ := ht
  refine ⟨by rw [e, h7]; exact h1, by rw [e]; exact h2, fun t htt => ?_⟩
  rw [e] at htt
  have e1 : kyN g' t = kyN g t := by unfold kyN; rw [h _ (by omega)]
  have e2 : cdN g' t = cdN g t := by unfold cdN; rw [h _ (by omega)]
  have e3 : cdF g' t = cdF g t := by funext k; exact h _ (by omega)
  unfold TxOk
  rw [e1, e2, e3, h _ (by omega)]
  exact h3 t htt
theorem WfG_congr {g g' : Nat → Int32} (h : ∀ j, (j = 1 ∨ 7 ≤ j) → g' j = g j) (hw : WfG g) : WfG g' := by
  have e : nS g' = nS g := by unfold nS; rw [h _ (Or.inl rfl)]
  exact ⟨by rw [e, h _ (Or.inl rfl)]; exact hw.1, by rw [e]; exact hw.2.1, fun s hs => LyOk_congr (fun j h1 h2 => h j (by omega)) (hw.2.2.1 s hs), TxAll_congr (h _ (by omega)) (fun j hj => h j (by omega)) hw.2.2.2⟩
theorem WfG_surf {g g' : Nat → Int32} {s : Nat} (hs : s < 8) (ho : ∀ j, (j < 8 + 17 * s ∨ 8 + 17 * s + 17 ≤ j) → (j = 1 ∨ 7 ≤ j) → g' j = g j) (hl : LyOk g' s) (hw : WfG g) : WfG g' := by
  have h1 : g' 1 = g 1 := ho _ (by omega) (by omega)
  have e : nS g' = nS g := by unfold nS; rw [h1]
  refine ⟨by rw [e, h1]; exact hw.1, by rw [e]; exact hw.2.1, fun x hx => ?_, TxAll_congr (ho _ (by omega) (by omega)) (fun j hj => ho j (by omega) (by omega)) hw.2.2.2⟩
  by_cases ex : x = s
  · rw [ex]; exact hl
  · exact LyOk_congr (fun j h1 h2 => ho j (by omega) (by omega)) (hw.2.2.1 x hx)
theorem drawG_n {g : Nat → Int32} {j : Nat} (h : j ≠ 0) : drawG g j = g j := upd_n h
theorem WfG_draw {g : Nat → Int32} (hw : WfG g) : WfG (drawG g) := WfG_congr (fun j hj => drawG_n (by omega)) hw
theorem setl_n {g : Nat → Int32} {s m j : Nat} {e : Int32} (h1 : j ≠ 8 + 17 * s + (4 + m)) (h2 : j ≠ 8 + 17 * s + 2) : setlG g s m e j = g j := by
  unfold setlG
  rw [upd_n h2, upd_n h1]
theorem setl_m {g : Nat → Int32} {s m : Nat} {e : Int32} : setlG g s m e (8 + 17 * s + (4 + m)) = e := by
  unfold setlG
  rw [upd_n (by omega), upd_s]
/-- many, behind a settling -/
theorem settle_2 {g : Nat → Int32} {s m : Nat} {e : Int32} (hm : m ≤ 12) : settleG g s m e (8 + 17 * s + 2) = nI (if m < 12 then m + 1 else 12) := by
  unfold settleG
  by_cases h : m < 12
  · rw [if_pos h, if_pos h]; exact setl_2
  · have : m = 12 := by omega
    subst this
    rw [if_neg h, if_neg h, upd_n (by omega)]; exact take_2
/-- the layers, behind a settling -/
theorem settle_l {g : Nat → Int32} {s m i : Nat} {e : Int32} (hm : m ≤ 12) (hi : i < (if m < 12 then m + 1 else 12)) : settleG g s m e (8 + 17 * s + (4 + i)) = if m < 12 then (if i = m then e else g (8 + 17 * s + (4 + i))) else (if i = 11 then e else g (8 + 17 * s + (4 + i + 1))) := by
  unfold settleG
  by_cases h : m < 12
  · rw [if_pos h, if_pos h]
    rw [if_pos h] at hi
    by_cases e1 : i = m
    · rw [if_pos e1, e1]; exact setl_m
    · rw [if_neg e1, setl_n (by omega) (by omega)]
  · have : m = 12 := by omega
    subst this
    rw [if_neg h] at hi
    rw [if_neg h, if_neg h, upd_n (by omega)]
    unfold takeG takeK
    rw [if_neg (by omega), if_pos (by omega)]
    by_cases e1 : i = 11
    · rw [if_pos e1, e1]; exact setl_m
    · rw [if_neg e1, setl_n (by omega) (by omega)]; rfl
theorem settle_w {g : Nat → Int32} {s m w : Nat} {e : Int32} (hm : m ≤ 12) (hw : w < 2) : settleG g s m e (8 + 17 * s + w) = g (8 + 17 * s + w) := by
  unfold settleG
  split
  · exact setl_n (by omega) (by omega)
  · rw [upd_n (by omega)]
    unfold takeG takeK
    rw [if_neg (by omega), if_neg (by omega)]
    exact setl_n (by omega) (by omega)
theorem Ly_settle {g : Nat → Int32} {s k : Nat} (hl : LyOk g s) (hk : k < 10) : LyOk (settleG g s (mN g s) (nI k)) s := by
  obtain ⟨h1, h2, h3, q, h4, h5⟩ := hl
  generalize hm : mN g s = m at h1 h2 h3
  have e2 := settle_2 (g := g) (s := s) (e := nI k) h2
  have e : mN (settleG g s m (nI k)) s = if m < 12 then m + 1 else 12 := mN_of e2 (by split <;> omega)
  refine ⟨by rw [e]; exact e2, by rw [e]; split <;> omega, fun i hi => ?_, q, h4, by rw [settle_w h2 (by omega)]; exact h5⟩
  rw [e] at hi
  rw [settle_l h2 hi]
  by_cases h : m < 12
  · rw [if_pos h]
    rw [if_pos h] at hi
    by_cases e1 : i = m
    · rw [if_pos e1]; exact ⟨k, hk, rfl⟩
    · rw [if_neg e1]; exact h3 i (by omega)
  · rw [if_neg h]
    rw [if_neg h] at hi
    by_cases e1 : i = 11
    · rw [if_pos e1]; exact ⟨k, hk, rfl⟩
    · rw [if_neg e1]; exact h3 (i + 1) (by omega)
theorem WfG_settle {g : Nat → Int32} {s k : Nat} (hs : s < 8) (hw : WfG g) (hk : k < 10) : WfG (settleG g s (mN g s) (nI k)) :=
  WfG_surf hs (fun j h _ => settle_o h (hw.2.2.1 s hs).2.1) (Ly_settle (hw.2.2.1 s hs) hk) hw
theorem WfG_catch {g : Nat → Int32} {k : Nat} (hw : WfG g) (hk : k < 10) : ∀ n, n ≤ 8 → WfG (catchG (nI k) g n)
  | 0, _ => hw
  | n + 1, h => by
    have ih := WfG_catch hw hk n (by omega)
    unfold catchG
    split
    · exact ih
    · exact WfG_settle (by omega) ih hk
theorem catch_o {g : Nat → Int32} {e : Int32} {j : Nat} (hw : ∀ n, n ≤ 8 → ∀ s, s < 8 → mN (catchG e g n) s ≤ 12) (hj : j < 8 ∨ 144 ≤ j) : ∀ n, n ≤ 8 → catchG e g n j = g j
  | 0, _ => rfl
  | n + 1, h => by
    have ih := catch_o hw hj n (by omega)
    unfold catchG
    split
    · exact ih
    · rw [settle_o (by omega) (hw n (by omega) n (by omega))]; exact ih
theorem catch_oW {g : Nat → Int32} {k : Nat} {j : Nat} (hw : WfG g) (hk : k < 10) (hj : j < 8 ∨ 144 ≤ j) {n : Nat} (hn : n ≤ 8) : catchG (nI k) g n j = g j :=
  catch_o (fun n hn s hs => ((WfG_catch hw hk n hn).2.2.1 s hs).2.1) hj n hn
theorem wth_k (x : Int32) {m : Nat} (hm : m < 2 ^ 31) : ∃ k, k ≤ m ∧ wth x (nI 0) (nI m) = nI k := by
  unfold wth
  split
  · exact ⟨0, by omega, rfl⟩
  · rename_i h
    split
    · exact ⟨m, Nat.le_refl _, rfl⟩
    · rename_i h2
      obtain ⟨k, hk, e⟩ := nI_of (x := x) h
      subst e
      exact ⟨k, by have := Int32.not_lt.mp h2; exact (nI_leI hk hm).mp this, rfl⟩
theorem gone_k {g : Nat → Int32} {s : Nat} (hl : LyOk g s) : ∃ k, k ≤ mN g s ∧ goneF g s = nI k := by
  unfold goneF
  rw [hl.1]
  exact wth_k _ (by have := hl.2.1; omega)
theorem sweep_n {g : Nat → Int32} {s j : Nat} (h1 : j ≠ 8 + 17 * s + 2) (h2 : j ≠ 5) : sweepG g s j = g j := by
  unfold sweepG
  rw [upd_n h2, upd_n h1]
theorem sweep_2 {g : Nat → Int32} {s k : Nat} (hl : LyOk g s) (hk : k ≤ mN g s) (e : goneF g s = nI k) : sweepG g s (8 + 17 * s + 2) = nI (mN g s - k) := by
  unfold sweepG
  rw [upd_n (by omega), upd_s, e, hl.1, pk_sub hk]
theorem Ly_sweep {g : Nat → Int32} {s : Nat} (hl : LyOk g s) : LyOk (sweepG g s) s := by
  obtain ⟨k, hk, e⟩ := gone_k hl
  have e2 := sweep_2 hl hk e
  obtain ⟨h1, h2, h3, q, h4, h5⟩ := hl
  have em : mN (sweepG g s) s = mN g s - k := mN_of e2 (by omega)
  refine ⟨by rw [em]; exact e2, by rw [em]; omega, fun i hi => ?_, q, h4, by rw [sweep_n (by omega) (by omega)]; exact h5⟩
  rw [em] at hi
  rw [sweep_n (by omega) (by omega)]
  exact h3 i (by omega)
theorem WfG_sweep {g : Nat → Int32} {s : Nat} (hs : s < 8) (hw : WfG g) : WfG (sweepG g s) :=
  WfG_surf hs (fun j h h2 => sweep_n (by omega) (by omega)) (Ly_sweep (hw.2.2.1 s hs)) hw
theorem take_l {g : Nat → Int32} {s m k i : Nat} (hi : i < m - 1) : takeG g s m k (8 + 17 * s + (4 + i)) = if k ≤ i then g (8 + 17 * s + (4 + i + 1)) else g (8 + 17 * s + (4 + i)) := by
  unfold takeG takeK
  rw [if_neg (by omega)]
  by_cases h : k ≤ i
  · rw [if_pos h, if_pos (by omega)]; rfl
  · rw [if_neg h, if_neg (by omega)]
theorem take_w {g : Nat → Int32} {s m k w : Nat} (hw : w < 2) : takeG g s m k (8 + 17 * s + w) = g (8 + 17 * s + w) := by
  unfold takeG takeK
  rw [if_neg (by omega), if_neg (by omega)]
theorem Ly_take {g : Nat → Int32} {s k : Nat} (hl : LyOk g s) (hk : k < mN g s) : LyOk (takeG g s (mN g s) k) s := by
  obtain ⟨h1, h2, h3, q, h4, h5⟩ := hl
  generalize hm : mN g s = m at h1 h2 h3 hk
  have e2 : takeG g s m k (8 + 17 * s + 2) = nI (m - 1) := take_2
  have e : mN (takeG g s m k) s = m - 1 := mN_of e2 (by omega)
  refine ⟨by rw [e]; exact e2, by rw [e]; omega, fun i hi => ?_, q, h4, by rw [take_w (by omega)]; exact h5⟩
  rw [e] at hi
  rw [take_l hi]
  split
  · exact h3 (i + 1) (by omega)
  · exact h3 i (by omega)
theorem WfG_take {g : Nat → Int32} {s k : Nat} (hs : s < 8) (hw : WfG g) (hk : k < mN g s) : WfG (takeG g s (mN g s) k) :=
  WfG_surf hs (fun j h _ => take_o h (by have := (hw.2.2.1 s hs).2.1; omega)) (Ly_take (hw.2.2.1 s hs) hk) hw
theorem WfG_blow {g : Nat → Int32} {s n : Nat} (hs : s < n) (hn : n ≤ 8) (hw : WfG g) : WfG (blowG g s n) := by
  unfold blowG
  split
  · exact hw
  · rename_i h0
    have hr : (s + 1) % n < n := Nat.mod_lt _ (by omega)
    have h1 := WfG_take (k := mN g s - 1) (by omega : s < 8) hw (by omega)
    obtain ⟨q, hq, e⟩ := (hw.2.2.1 s (by omega)).2.2.1 (mN g s - 1) (by omega)
    rw [e]
    exact WfG_congr (fun j hj => upd_n (by omega)) (WfG_settle (by omega : (s + 1) % n < 8) h1 hq)
theorem nS_of {g : Nat → Int32} {n : Nat} (h : g 1 = nI n) (hn : n ≤ 8) : nS g = n := by unfold nS; rw [h]; exact cl_nI (by omega)
theorem dayA_o {g : Nat → Int32} {j : Nat} (hw : WfG g) (h0 : j ≠ 0) (hj : j < 8 ∨ 144 ≤ j) : dayA g j = g j := by
  unfold dayA
  rw [catch_oW (WfG_draw hw) (Nat.mod_lt _ (by omega)) hj hw.2.1, drawG_n h0]
theorem WfG_dayA {g : Nat → Int32} (hw : WfG g) : WfG (dayA g) := WfG_catch (WfG_draw hw) (Nat.mod_lt _ (by omega)) _ hw.2.1
theorem WfG_dayB {g : Nat → Int32} (hw : WfG g) : WfG (dayB g) := by
  unfold dayB
  split
  · rename_i h
    exact WfG_sweep (by have := Nat.mod_lt (dw (drawG g 0)) h.2; have := hw.2.1; omega) (WfG_draw (WfG_draw hw))
  · exact WfG_draw hw
theorem WfG_dayC {g : Nat → Int32} (hw : WfG g) : WfG (dayC g) := by
  unfold dayC
  split
  · rename_i h
    exact WfG_blow (Nat.mod_lt _ (by omega)) hw.2.1 (WfG_draw (WfG_draw hw))
  · exact WfG_draw hw
theorem WfG_day {g : Nat → Int32} (hw : WfG g) : WfG (dayG g) := WfG_congr (fun j hj => upd_n (by omega)) (WfG_dayC (WfG_dayB (WfG_dayA hw)))
theorem WfG_days {g : Nat → Int32} (hw : WfG g) : ∀ k, WfG (daysG g k)
  | 0 => hw
  | k + 1 => WfG_day (WfG_days hw k)
theorem dayB_o {g : Nat → Int32} {j : Nat} (hw : WfG g) (h0 : j ≠ 0) (h5 : j ≠ 5) (hj : j < 8 ∨ 144 ≤ j) : dayB g j = g j := by
  unfold dayB
  split
  · rename_i h
    have := Nat.mod_lt (dw (drawG g 0)) h.2
    have := hw.2.1
    rw [sweep_n (by omega) h5, drawG_n h0, drawG_n h0]
  · exact drawG_n h0
theorem blow_o {g : Nat → Int32} {s n j : Nat} (hs : s < n) (hn : n ≤ 8) (hw : WfG g) (h6 : j ≠ 6) (hj : j < 8 ∨ 144 ≤ j) : blowG g s n j = g j := by
  unfold blowG
  split
  · rfl
  · have hr : (s + 1) % n < n := Nat.mod_lt _ (by omega)
    have h1 := WfG_take (k := mN g s - 1) (by omega : s < 8) hw (by omega)
    have hm := (hw.2.2.1 s (by omega)).2.1
    rw [upd_n h6, settle_o (by omega) (h1.2.2.1 _ (by omega)).2.1, take_o (by omega) (by omega)]
theorem dayC_o {g : Nat → Int32} {j : Nat} (hw : WfG g) (h0 : j ≠ 0) (h6 : j ≠ 6) (hj : j < 8 ∨ 144 ≤ j) : dayC g j = g j := by
  unfold dayC
  split
  · rename_i h
    rw [blow_o (Nat.mod_lt _ (by omega)) hw.2.1 (WfG_draw (WfG_draw hw)) h6 hj, drawG_n h0, drawG_n h0]
  · exact drawG_n h0
/-- a day leaves these as they are: surfaces, broom, draught, texts -/
theorem day_o {g : Nat → Int32} {j : Nat} (hw : WfG g) (h0 : j ≠ 0) (h2 : j ≠ 2) (h5 : j ≠ 5) (h6 : j ≠ 6) (hj : j < 8 ∨ 144 ≤ j) : dayG g j = g j := by
  unfold dayG dayD
  rw [upd_n h2, dayC_o (WfG_dayB (WfG_dayA hw)) h0 h6 hj, dayB_o (WfG_dayA hw) h0 h5 hj, dayA_o hw h0 hj]
theorem days_o {g : Nat → Int32} {j : Nat} (hw : WfG g) (h0 : j ≠ 0) (h2 : j ≠ 2) (h5 : j ≠ 5) (h6 : j ≠ 6) (hj : j < 8 ∨ 144 ≤ j) : ∀ k, daysG g k j = g j
  | 0 => rfl
  | k + 1 => (day_o (WfG_days hw k) h0 h2 h5 h6 hj).trans (days_o hw h0 h2 h5 h6 hj k)
theorem nS_day {g : Nat → Int32} (hw : WfG g) : nS (dayG g) = nS g := by unfold nS; rw [day_o hw (by omega) (by omega) (by omega) (by omega) (by omega)]
theorem nS_days {g : Nat → Int32} (hw : WfG g) (k : Nat) : nS (daysG g k) = nS g := by unfold nS; rw [days_o hw (by omega) (by omega) (by omega) (by omega) (by omega)]
