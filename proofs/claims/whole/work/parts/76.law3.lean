/-! the law: both change the hall -/
def OkG (g g' : Nat → Int32) : Prop := (∀ x, 144 ≤ x → g' x = g x) ∧ g' 7 = g 7 ∧ DyOk g'
theorem OkG.rfl' {g : Nat → Int32} (h : DyOk g) : OkG g g := ⟨fun _ _ => rfl, rfl, h⟩
theorem OkG.of {g g' : Nat → Int32} (hd : DyOk g) (h : ∀ x, (x = 2 ∨ x = 7 ∨ 144 ≤ x) → g' x = g x) : OkG g g' := ⟨fun x hx => h x (by omega), h 7 (by omega), by unfold DyOk; rw [h 2 (by omega)]; exact hd⟩
theorem PRel.up {g g' gi : Nat → Int32} {im : Int32} {tp : Nat} {tb : Nat → Nat} {w : Nat} (h : PRel g gi im tp tb w) (hO : OkG g g') : PRel g' gi im tp tb w := ⟨⟨hO.2.2, fun x hx => by rw [hO.1 x (by omega)]; exact h.1.2 x hx⟩, h.2.1, fun hi => by unfold tN; rw [hO.2.1]; exact h.2.2.1 hi, h.2.2.2⟩
theorem cl_lt {s : Int32} {n : Nat} (hn : n < 2 ^ 31) (h : inR s n) : cl s < n := by
  obtain ⟨k, hk, rfl⟩ := (rng_k hn).mp h
  rw [show cl (nI k) = k from cl_nI (by omega)]
  exact hk
section OG
variable {g : Nat → Int32}
theorem og_surface (hW : WfG g) (hd : DyOk g) (a b : Int32) : OkG g (g_surface g a b) := OkG.of hd (fun x hx => by
  have h8 := hW.2.1
  unfold g_surface
  split
  · split
    · rfl
    · unfold comesG
      rw [if_neg (by omega), if_neg (by omega), if_neg (by omega), if_neg (by omega)]
  · rfl)
theorem og_turns (hW : WfG g) (hd : DyOk g) (s v : Int32) : OkG g (g_turns g s v) := OkG.of hd (fun x hx => by
  have h8 := hW.2.1
  unfold g_turns
  split
  · rename_i h; have := cl_lt (by omega) h.1; exact upd_n (by omega)
  · rfl)
theorem og_damp (hW : WfG g) (hd : DyOk g) (s v : Int32) : OkG g (g_damp g s v) := OkG.of hd (fun x hx => by
  have h8 := hW.2.1
  unfold g_damp
  split
  · rename_i h; have := cl_lt (by omega) h.1; exact upd_n (by omega)
  · rfl)
theorem og_rule (hd : DyOk g) (s v : Int32) : OkG g (g_rule g s v) := OkG.of hd (fun x hx => by
  unfold g_rule
  split
  · rename_i h; have := cl_lt (by omega) h.1; exact upd_n (by omega)
  · rfl)
theorem og_settles (hW : WfG g) (hd : DyOk g) (s v : Int32) : OkG g (g_settles g s v) := OkG.of hd (fun x hx => by
  have h8 := hW.2.1
  unfold g_settles
  split
  · rename_i h; have := cl_lt (by omega) h.1; exact settle_o (by omega) (hW.2.2.1 _ (by omega)).2.1
  · rfl)
theorem og_sweeps (hW : WfG g) (hd : DyOk g) (s : Int32) : OkG g (g_sweeps g s) := OkG.of hd (fun x hx => by
  have h8 := hW.2.1
  unfold g_sweeps
  split
  · rename_i h; have := cl_lt (by omega) h; exact sweep_n (by omega) (by omega)
  · rfl)
theorem og_lifts (hW : WfG g) (hd : DyOk g) (s k : Int32) : OkG g (g_lifts g s k) := OkG.of hd (fun x hx => by
  have h8 := hW.2.1
  unfold g_lifts
  split
  · rename_i h
    have := cl_lt (by omega) h.1
    split
    · exact take_o (by omega) (by have := (hW.2.2.1 (cl s) (by omega)).2.1; omega)
    · rfl
  · rfl)
theorem og_seed (hd : DyOk g) (v : Int32) : OkG g (upd g 0 v) := OkG.of hd (fun x hx => upd_n (by omega))
theorem deal_o {x : Nat} (hW : WfG g) (hx : x = 2 ∨ x = 7 ∨ 144 ≤ x) : ∀ k, nS g + k ≤ 8 → dealG g k x = g x
  | 0, _ => rfl
  | k + 1, h => by
    have ih := deal_o hW hx k (by omega)
    have h1 : nS (dealG g k) = nS g + k := by
      unfold nS
      rw [deal_1 hW.1 hW.2.1 k (by omega)]
      exact cl_nI (by have := hW.2.1; omega)
    show comesG (drawG (drawG (dealG g k))) (nS (dealG g k)) _ _ x = g x
    rw [h1]
    unfold comesG
    rw [if_neg (by omega), if_neg (by omega), if_neg (by omega), if_neg (by omega)]
    unfold drawG
    rw [upd_n (by omega), upd_n (by omega)]
    exact ih
theorem og_deal (hW : WfG g) (hd : DyOk g) (n : Int32) : OkG g (g_deal g n) := OkG.of hd (fun x hx => by
  have h8 := hW.2.1
  unfold g_deal
  split
  · exact deal_o hW hx _ (by unfold dealN; split <;> omega)
  · rfl)
theorem og_pour (hW : WfG g) (hd : DyOk g) (so : Nat → Int32) (sz : Nat → Nat) (ce : Nat → Nat → Int32) (s : Int32) : OkG g (g_pour g so sz ce s) := OkG.of hd (fun x hx => by
  have h8 := hW.2.1
  unfold g_pour
  split
  · refine pG_o (fun u hu => ?_)
    have : pN g (sz (cl s)) ≤ nS g := by unfold pN; split <;> omega
    omega
  · rfl)
theorem day_2 (hW : WfG g) : dayG g 2 = g 2 + nI 1 := by
  have w1 := WfG_dayA hW
  have w2 := WfG_dayB w1
  show upd (dayC (dayB (dayA g))) 2 (dayC (dayB (dayA g)) 2 + nI 1) 2 = _
  rw [upd_s, dayC_o w2 (by omega) (by omega) (by omega), dayB_o w1 (by omega) (by omega) (by omega), dayA_o hW (by omega) (by omega)]
theorem days_2 (hW : WfG g) (h : g 2 = nI (cl (g 2))) : ∀ k, cl (g 2) + k ≤ 9999 → daysG g k 2 = nI (cl (g 2) + k)
  | 0, _ => h
  | k + 1, hk => by
    show dayG (daysG g k) 2 = _
    rw [day_2 (WfG_days hW k), days_2 hW h k (by omega)]
    exact nI_add _ _
theorem og_days (hW : WfG g) (hd : DyOk g) (n : Int32) : OkG g (g_days g n) := by
  unfold g_days
  split
  · have hk : cl (g 2) + daysN g (cl n) ≤ 9999 := by have := hd.2; unfold daysN; split <;> omega
    have e2 := days_2 hW hd.1 _ hk
    refine ⟨fun x hx => days_o hW (by omega) (by omega) (by omega) (by omega) (by omega) _, days_o hW (by omega) (by omega) (by omega) (by omega) (by omega) _, ?_⟩
    unfold DyOk
    have e3 : cl (nI (cl (g 2) + daysN g (cl n))) = cl (g 2) + daysN g (cl n) := cl_nI (by omega)
    rw [e2, e3]
    exact ⟨rfl, hk⟩
  · exact OkG.rfl' hd
end OG
theorem K_surface {T : TC} {J : MI} {H : MG} {D : Nat} (e : Nat) (hL : LI T D J H) (s v : Int32) : Two T mX8_surface mX9_surface (e + 100) D [.int s, .int v] J H := by
  obtain ⟨hD, hM, ⟨j, hj⟩, g, gi, im, so, sz, ce, th, A, B, hc, tp, tb, w, tl, hC, hR, hP⟩ := hL
  have hO := og_surface hC.1.w hP.1.1 s v
  refine OkI.imp (C8_surface (e + 98) hD hC.1 s v) ?_
  rintro _ J1 _ ⟨rfl, hH1, hF1, rfl⟩
  replace hR := hR.cls (fun x h1 h2 => hF1 x (fun z => by unfold PH at z; omega))
  have hW9 : WfG (J1 (D + 117 + 1)) := by rw [hR.1.1]; exact hC.1.w
  replace hC := hC.ph hF1 hH1
  refine ⟨hM, ?_⟩
  refine OkI.imp (C9_surface (e + 98) hM hW9 s v) ?_
  rintro _ J2 _ ⟨rfl, hg, hF, rfl⟩
  exact ⟨by rw [hR.1.1], LI.fin hD hM ⟨j, hj⟩ hC hR (hP.up hO) (hF.mono (fun x z => by unfold Pd at z; unfold Pm; omega)) (fun j _ => by rw [hF _ (fun z => by unfold Pd at z; omega)]) (hg.trans (by rw [hR.1.1]))⟩
theorem K_turns {T : TC} {J : MI} {H : MG} {D : Nat} (e : Nat) (hL : LI T D J H) (s v : Int32) : Two T mX8_turns mX9_turns (e + 100) D [.int s, .int v] J H := by
  obtain ⟨hD, hM, ⟨j, hj⟩, g, gi, im, so, sz, ce, th, A, B, hc, tp, tb, w, tl, hC, hR, hP⟩ := hL
  have hO := og_turns hC.1.w hP.1.1 s v
  refine OkI.imp (C8_turns (e + 98) hD hC.1 s v) ?_
  rintro _ J1 _ ⟨rfl, hH1, hF1, rfl⟩
  replace hR := hR.cls (fun x h1 h2 => hF1 x (fun z => by unfold PH at z; omega))
  have hW9 : WfG (J1 (D + 117 + 1)) := by rw [hR.1.1]; exact hC.1.w
  replace hC := hC.ph hF1 hH1
  refine ⟨hM, ?_⟩
  refine OkI.imp (C9_turns (e + 98) hM hW9 s v) ?_
  rintro _ J2 _ ⟨rfl, hg, hF, rfl⟩
  exact ⟨by rw [hR.1.1], LI.fin hD hM ⟨j, hj⟩ hC hR (hP.up hO) (hF.mono (fun x z => by unfold Pd at z; unfold Pm; omega)) (fun j _ => by rw [hF _ (fun z => by unfold Pd at z; omega)]) (hg.trans (by rw [hR.1.1]))⟩
theorem K_damp {T : TC} {J : MI} {H : MG} {D : Nat} (e : Nat) (hL : LI T D J H) (s v : Int32) : Two T mX8_damp mX9_damp (e + 100) D [.int s, .int v] J H := by
  obtain ⟨hD, hM, ⟨j, hj⟩, g, gi, im, so, sz, ce, th, A, B, hc, tp, tb, w, tl, hC, hR, hP⟩ := hL
  have hO := og_damp hC.1.w hP.1.1 s v
  refine OkI.imp (C8_damp (e + 98) hD hC.1 s v) ?_
  rintro _ J1 _ ⟨rfl, hH1, hF1, rfl⟩
  replace hR := hR.cls (fun x h1 h2 => hF1 x (fun z => by unfold PH at z; omega))
  have hW9 : WfG (J1 (D + 117 + 1)) := by rw [hR.1.1]; exact hC.1.w
  replace hC := hC.ph hF1 hH1
  refine ⟨hM, ?_⟩
  refine OkI.imp (C9_damp (e + 98) hM hW9 s v) ?_
  rintro _ J2 _ ⟨rfl, hg, hF, rfl⟩
  exact ⟨by rw [hR.1.1], LI.fin hD hM ⟨j, hj⟩ hC hR (hP.up hO) (hF.mono (fun x z => by unfold Pd at z; unfold Pm; omega)) (fun j _ => by rw [hF _ (fun z => by unfold Pd at z; omega)]) (hg.trans (by rw [hR.1.1]))⟩
theorem K_rule {T : TC} {J : MI} {H : MG} {D : Nat} (e : Nat) (hL : LI T D J H) (s v : Int32) : Two T mX8_rule mX9_rule (e + 100) D [.int s, .int v] J H := by
  obtain ⟨hD, hM, ⟨j, hj⟩, g, gi, im, so, sz, ce, th, A, B, hc, tp, tb, w, tl, hC, hR, hP⟩ := hL
  have hO := og_rule hP.1.1 s v
  refine OkI.imp (C8_rule (e + 99) hD hC.1 s v) ?_
  rintro _ J1 _ ⟨rfl, hH1, hF1, rfl⟩
  replace hR := hR.cls (fun x h1 h2 => hF1 x (fun z => by unfold PH at z; omega))
  have hW9 : WfG (J1 (D + 117 + 1)) := by rw [hR.1.1]; exact hC.1.w
  replace hC := hC.ph hF1 hH1
  refine ⟨hM, ?_⟩
  refine OkI.imp (C9_rule (e + 98) hM hW9 s v) ?_
  rintro _ J2 _ ⟨rfl, hg, hF, rfl⟩
  exact ⟨by rw [hR.1.1], LI.fin hD hM ⟨j, hj⟩ hC hR (hP.up hO) (hF.mono (fun x z => by unfold Pd at z; unfold Pm; omega)) (fun j _ => by rw [hF _ (fun z => by unfold Pd at z; omega)]) (hg.trans (by rw [hR.1.1]))⟩
theorem K_settles {T : TC} {J : MI} {H : MG} {D : Nat} (e : Nat) (hL : LI T D J H) (s v : Int32) : Two T mX8_settles mX9_settles (e + 100) D [.int s, .int v] J H := by
  obtain ⟨hD, hM, ⟨j, hj⟩, g, gi, im, so, sz, ce, th, A, B, hc, tp, tb, w, tl, hC, hR, hP⟩ := hL
  have hO := og_settles hC.1.w hP.1.1 s v
  refine OkI.imp (C8_settles (e + 98) hD hC.1 s v) ?_
  rintro _ J1 _ ⟨rfl, hH1, hF1, rfl⟩
  replace hR := hR.cls (fun x h1 h2 => hF1 x (fun z => by unfold PH at z; omega))
  have hW9 : WfG (J1 (D + 117 + 1)) := by rw [hR.1.1]; exact hC.1.w
  replace hC := hC.ph hF1 hH1
  refine ⟨hM, ?_⟩
  refine OkI.imp (C9_settles (e + 97) hM hW9 s v) ?_
  rintro _ J2 _ ⟨rfl, hg, hF, rfl⟩
  exact ⟨by rw [hR.1.1], LI.fin hD hM ⟨j, hj⟩ hC hR (hP.up hO) (hF.mono (fun x z => by unfold Pd at z; unfold Pm; omega)) (fun j _ => by rw [hF _ (fun z => by unfold Pd at z; omega)]) (hg.trans (by rw [hR.1.1]))⟩
theorem K_sweeps {T : TC} {J : MI} {H : MG} {D : Nat} (e : Nat) (hL : LI T D J H) (s : Int32) : Two T mX8_sweeps mX9_sweeps (e + 100) D [.int s] J H := by
  obtain ⟨hD, hM, ⟨j, hj⟩, g, gi, im, so, sz, ce, th, A, B, hc, tp, tb, w, tl, hC, hR, hP⟩ := hL
  have hO := og_sweeps hC.1.w hP.1.1 s
  refine OkI.imp (C8_sweeps (e + 96) hD hC.1 s) ?_
  rintro _ J1 _ ⟨rfl, hH1, hF1, rfl⟩
  replace hR := hR.cls (fun x h1 h2 => hF1 x (fun z => by unfold PH at z; omega))
  have hW9 : WfG (J1 (D + 117 + 1)) := by rw [hR.1.1]; exact hC.1.w
  replace hC := hC.ph hF1 hH1
  refine ⟨hM, ?_⟩
  refine OkI.imp (C9_sweeps (e + 96) hM hW9 s) ?_
  rintro _ J2 _ ⟨rfl, hg, hF, rfl⟩
  exact ⟨by rw [hR.1.1], LI.fin hD hM ⟨j, hj⟩ hC hR (hP.up hO) (hF.mono (fun x z => by unfold Pd at z; unfold Pm; omega)) (fun j _ => by rw [hF _ (fun z => by unfold Pd at z; omega)]) (hg.trans (by rw [hR.1.1]))⟩
theorem K_lifts {T : TC} {J : MI} {H : MG} {D : Nat} (e : Nat) (hL : LI T D J H) (s v : Int32) : Two T mX8_lifts mX9_lifts (e + 100) D [.int s, .int v] J H := by
  obtain ⟨hD, hM, ⟨j, hj⟩, g, gi, im, so, sz, ce, th, A, B, hc, tp, tb, w, tl, hC, hR, hP⟩ := hL
  have hO := og_lifts hC.1.w hP.1.1 s v
  refine OkI.imp (C8_lifts (e + 98) hD hC.1 s v) ?_
  rintro _ J1 _ ⟨rfl, hH1, hF1, rfl⟩
  replace hR := hR.cls (fun x h1 h2 => hF1 x (fun z => by unfold PH at z; omega))
  have hW9 : WfG (J1 (D + 117 + 1)) := by rw [hR.1.1]; exact hC.1.w
  replace hC := hC.ph hF1 hH1
  refine ⟨hM, ?_⟩
  refine OkI.imp (C9_lifts (e + 98) hM hW9 s v) ?_
  rintro _ J2 _ ⟨rfl, hg, hF, rfl⟩
  exact ⟨by rw [hR.1.1], LI.fin hD hM ⟨j, hj⟩ hC hR (hP.up hO) (hF.mono (fun x z => by unfold Pd at z; unfold Pm; omega)) (fun j _ => by rw [hF _ (fun z => by unfold Pd at z; omega)]) (hg.trans (by rw [hR.1.1]))⟩
theorem K_deal {T : TC} {J : MI} {H : MG} {D : Nat} (e : Nat) (hL : LI T D J H) (n : Int32) : Two T mX8_deal mX9_deal (e + 100) D [.int n] J H := by
  obtain ⟨hD, hM, ⟨j, hj⟩, g, gi, im, so, sz, ce, th, A, B, hc, tp, tb, w, tl, hC, hR, hP⟩ := hL
  have hO := og_deal hC.1.w hP.1.1 n
  refine OkI.imp (C8_deal (e + 98) hD hC.1 n) ?_
  rintro _ J1 _ ⟨rfl, hH1, hF1, rfl⟩
  replace hR := hR.cls (fun x h1 h2 => hF1 x (fun z => by unfold PH at z; omega))
  have hW9 : WfG (J1 (D + 117 + 1)) := by rw [hR.1.1]; exact hC.1.w
  replace hC := hC.ph hF1 hH1
  refine ⟨hM, ?_⟩
  refine OkI.imp (C9_deal (e + 98) hM hW9 n) ?_
  rintro _ J2 _ ⟨rfl, hg, hF, rfl⟩
  exact ⟨by rw [hR.1.1], LI.fin hD hM ⟨j, hj⟩ hC hR (hP.up hO) (hF.mono (fun x z => by unfold Pd at z; unfold Pm; omega)) (fun j _ => by rw [hF _ (fun z => by unfold Pd at z; omega)]) (hg.trans (by rw [hR.1.1]))⟩
theorem K_seed {T : TC} {J : MI} {H : MG} {D : Nat} (e : Nat) (hL : LI T D J H) (v : Int32) : Two T mX8_seed mX9_seed (e + 100) D [.int v] J H := by
  obtain ⟨hD, hM, ⟨j, hj⟩, g, gi, im, so, sz, ce, th, A, B, hc, tp, tb, w, tl, hC, hR, hP⟩ := hL
  have hO := og_seed hP.1.1 v
  refine OkI.imp (C8_seed (e + 100) hD hC.1 v) ?_
  rintro _ J1 _ ⟨rfl, hH1, hF1, rfl⟩
  replace hR := hR.cls (fun x h1 h2 => hF1 x (fun z => by unfold PH at z; omega))
  have hW9 : WfG (J1 (D + 117 + 1)) := by rw [hR.1.1]; exact hC.1.w
  replace hC := hC.ph hF1 hH1
  refine ⟨hM, ?_⟩
  refine OkI.imp (C9_seed (e + 99) hM  v) ?_
  rintro _ J2 _ ⟨rfl, hg, hF, rfl⟩
  exact ⟨by rw [hR.1.1], LI.fin hD hM ⟨j, hj⟩ hC hR (hP.up hO) (hF.mono (fun x z => by unfold Pd at z; unfold Pm; omega)) (fun j _ => by rw [hF _ (fun z => by unfold Pd at z; omega)]) (hg.trans (by rw [hR.1.1]))⟩
theorem K_days {T : TC} {J : MI} {H : MG} {D : Nat} (e : Nat) (hL : LI T D J H) (n : Int32) : Two T mX8_days mX9_days (e + 100) D [.int n] J H := by
  obtain ⟨hD, hM, ⟨j, hj⟩, g, gi, im, so, sz, ce, th, A, B, hc, tp, tb, w, tl, hC, hR, hP⟩ := hL
  have hO := og_days hC.1.w hP.1.1 n
  refine OkI.imp (C8_days (e + 94) hD hC.1 hP.1.1 n) ?_
  rintro _ J1 _ ⟨rfl, hH1, hF1, rfl⟩
  replace hR := hR.cls (fun x h1 h2 => hF1 x (fun z => by unfold PH at z; omega))
  have hW9 : WfG (J1 (D + 117 + 1)) := by rw [hR.1.1]; exact hC.1.w
  replace hC := hC.ph hF1 hH1
  refine ⟨hM, ?_⟩
  refine OkI.imp (C9_days (e + 94) hM hW9 (by rw [hR.1.1]; exact hP.1.1) n) ?_
  rintro _ J2 _ ⟨rfl, hg, hF, rfl⟩
  exact ⟨by rw [hR.1.1], LI.fin hD hM ⟨j, hj⟩ hC hR (hP.up hO) (hF.mono (fun x z => by unfold Pd at z; unfold Pm; omega)) (fun j _ => by rw [hF _ (fun z => by unfold Pd at z; omega)]) (hg.trans (by rw [hR.1.1]))⟩
theorem K_pour {T : TC} {J : MI} {H : MG} {D : Nat} (e : Nat) (hL : LI T D J H) (s : Int32) : Two T mX8_pour mX9_pour (e + 100) D [.int s] J H := by
  obtain ⟨hD, hM, ⟨j, hj⟩, g, gi, im, so, sz, ce, th, A, B, hc, tp, tb, w, tl, hC, hR, hP⟩ := hL
  have hO := og_pour hC.1.w hP.1.1 so sz ce s
  refine OkI.imp (C8_pour (e + 98) hD hC.1 hC.2.2.1 s) ?_
  rintro _ J1 _ ⟨rfl, hH1, hF1, rfl⟩
  replace hR := hR.cls (fun x h1 h2 => hF1 x (fun z => by unfold PH at z; omega))
  have hW9 : WfG (J1 (D + 117 + 1)) := by rw [hR.1.1]; exact hC.1.w
  replace hC := hC.ph hF1 hH1
  refine ⟨hM, ?_⟩
  refine OkI.imp (C9_pour (e + 98) hM hW9 sz hR.2.1.2.1 s) ?_
  rintro _ J2 _ ⟨rfl, hg, hF, rfl⟩
  exact ⟨by rw [hR.1.1, hR.2.1.1, hR.2.1.2.2], LI.fin hD hM ⟨j, hj⟩ hC hR (hP.up hO) (hF.mono (fun x z => by unfold Pd at z; unfold Pm; omega)) (fun j _ => by rw [hF _ (fun z => by unfold Pd at z; omega)]) (hg.trans (by rw [hR.1.1, hR.2.1.1, hR.2.1.2.2]))⟩
theorem Gx.lg {T : TC} {X t : Nat} {G : MG} {L : _} : Gx T X t G (LG G L) := ⟨Nat.le_refl _, fun _ _ => ⟨rfl, rfl, fun _ _ => rfl⟩⟩
theorem CRel.lg {T : TC} {D : Nat} {H : MG} {J : MI} {g gi : Nat → Int32} {im : Int32} {so : Nat → Int32} {sz : Nat → Nat} {ce : Nat → Nat → Int32} {th A B : Nat → Int32} {hc : Nat → Nat → Int32} {tp : Nat} {tb : Nat → Nat} {w : Nat} {tl : Nat → Int32} {L : _} (h : CRel T D H J g gi im so sz ce th A B hc tp tb w tl) (hN : D + 144 ≤ n0 T + gS H) : CRel T D (LG H L) J g gi im so sz ce th A B hc tp tb w tl := by
  obtain ⟨a1, ⟨a2, a3⟩, a4⟩ := h
  exact ⟨a1.keep (t := tN g) (by omega) rfl hN Gx.lg (Nat.le_refl _) (fun _ _ _ => rfl), ⟨a2, fun hi => (a3 hi).keep (t := tN gi) (by omega) rfl hN Gx.lg (Nat.le_refl _) (fun _ _ _ => rfl)⟩, a4⟩
theorem K_whose {T : TC} {J : MI} {H : MG} {D : Nat} (e : Nat) (hL : LI T D J H) (s v : Int32) : Two T mX8_whose mX9_whose (e + 100) D [.int s, .int v] J H := by
  obtain ⟨hD, hM, ⟨j, hj⟩, g, gi, im, so, sz, ce, th, A, B, hc, tp, tb, w, tl, hC, hR, hP⟩ := hL
  refine OkI.imp (C8_whose (e + 94) hD hC.1 hC.2.2.1 s v) ?_
  rintro _ J1 _ ⟨rfl, hF1, rfl⟩
  replace hC := hC.ps hF1
  replace hR := hR.cls (fun x h1 h2 => hF1 x (fun z => by unfold PS PK at z; omega))
  refine ⟨hM, ?_⟩
  refine OkI.imp (C9_whose (e + 95) hM (by rw [hR.1.1]; exact hC.1.w) sz hR.2.1.2.1 s v) ?_
  rintro _ J2 _ ⟨rfl, hg, hF, L, rfl⟩
  refine ⟨by rw [hR.1.1, hR.2.1.1, hR.2.1.2.2], ?_⟩
  exact LI.fin (hD.gx (t := 0) Gx.lg) (hM.gx (X := D + 1) (t := 0) Gx.lg (by omega)) ⟨j, hj⟩ (hC.lg (by omega)) hR hP (hF.mono (fun x z => by unfold Pt at z; unfold Pm; omega)) (fun j _ => by rw [hF _ (fun z => by unfold Pt at z; omega)]) (hg.trans hR.1.1)
