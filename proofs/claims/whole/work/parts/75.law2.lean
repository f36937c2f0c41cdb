/-! the law: both are asked -/
theorem OkI.imp {T : TC} {Y : YD} {d : Nat} {as : List Value} {I : MI} {G : MG} {Q Q' : Int32 → MI → MG → Prop} (h : OkI T Y d as I G Q) (hq : ∀ r I' G', Q r I' G' → Q' r I' G') : OkI T Y d as I G Q' := Ok.mono h (fun _ _ _ q => by obtain ⟨r, e, q⟩ := q; exact ⟨r, e, hq _ _ _ q⟩)
theorem OkP.i {T : TC} {Y : YD} {d : Nat} {as : List Value} {I : MI} {G : MG} {r : Int32} (h : OkP T Y d as I G r) : OkI T Y d as I G (fun r' I' G' => r' = r ∧ I' = I ∧ G' = G) := h
def Two (T : TC) (Y8 Y9 : YD) (d D : Nat) (as : List Value) (J : MI) (H : MG) : Prop := OkI T Y8 d (.ref D :: as) J H (fun r J1 H1 => MSh T H1 (D + 117) ∧ OkI T Y9 d (.ref (D + 117) :: as) J1 H1 (fun r2 J2 H2 => r2 = r ∧ LI T D J2 H2))
theorem K_told {T : TC} {J : MI} {H : MG} {D : Nat} (e : Nat) (hL : LI T D J H) (s v : Int32) : Two T mX8_told mX9_told (e + 100) D [.int s, .int v] J H := by
  obtain ⟨hD, hM, ⟨j, hj⟩, g, gi, im, so, sz, ce, th, A, B, hc, tp, tb, w, tl, hC, hR, hP⟩ := hL
  refine OkI.imp (C8_told (e + 97) hD hC.1 s v) ?_
  rintro _ J1 _ ⟨rfl, hF1, rfl⟩
  replace hC := hC.ps hF1
  replace hR := hR.cls (fun x h1 h2 => hF1 x (fun z => by unfold PS PK at z; omega))
  refine ⟨hM, ?_⟩
  refine OkI.imp (C9_told (e + 96) hM (by rw [hR.1.1]; exact hC.1.w) s v) ?_
  rintro _ J2 _ ⟨rfl, hg, hF, rfl⟩
  exact ⟨by rw [hR.1.1], LI.fin hD hM ⟨j, hj⟩ hC hR hP (hF.mono (fun x z => by unfold Pd at z; unfold Pm; omega)) (fun j _ => by rw [hF _ (fun z => by unfold Pd at z; omega)]) (hg.trans hR.1.1)⟩
theorem K_layer {T : TC} {J : MI} {H : MG} {D : Nat} (e : Nat) (hL : LI T D J H) (s v : Int32) : Two T mX8_layer mX9_layer (e + 100) D [.int s, .int v] J H := by
  obtain ⟨hD, hM, ⟨j, hj⟩, g, gi, im, so, sz, ce, th, A, B, hc, tp, tb, w, tl, hC, hR, hP⟩ := hL
  refine OkI.imp (OkP.i (C8_layer (e + 98) hD hC.1 s v)) ?_
  rintro _ _ _ ⟨rfl, rfl, rfl⟩
  refine ⟨hM, ?_⟩
  refine OkI.imp (C9_layer (e + 98) hM (by rw [hR.1.1]; exact hC.1.w) s v) ?_
  rintro _ J2 _ ⟨rfl, hg, hF, rfl⟩
  exact ⟨by rw [hR.1.1], LI.fin hD hM ⟨j, hj⟩ hC hR hP (hF.mono (fun x z => by unfold Pd at z; unfold Pm; omega)) (fun j _ => by rw [hF _ (fun z => by unfold Pd at z; omega)]) (hg.trans hR.1.1)⟩
theorem K_as {T : TC} {J : MI} {H : MG} {D : Nat} (e : Nat) (hL : LI T D J H) (s v : Int32) : Two T mX8_as mX9_as (e + 100) D [.int s, .int v] J H := by
  obtain ⟨hD, hM, ⟨j, hj⟩, g, gi, im, so, sz, ce, th, A, B, hc, tp, tb, w, tl, hC, hR, hP⟩ := hL
  refine OkI.imp (OkP.i (C8_as (e + 98) hD hC.1 s v)) ?_
  rintro _ _ _ ⟨rfl, rfl, rfl⟩
  refine ⟨hM, ?_⟩
  refine OkI.imp (C9_as (e + 98) hM (by rw [hR.1.1]; exact hC.1.w) s v) ?_
  rintro _ J2 _ ⟨rfl, hg, hF, rfl⟩
  exact ⟨by rw [hR.1.1], LI.fin hD hM ⟨j, hj⟩ hC hR hP (hF.mono (fun x z => by unfold Pd at z; unfold Pm; omega)) (fun j _ => by rw [hF _ (fun z => by unfold Pd at z; omega)]) (hg.trans hR.1.1)⟩
theorem K_hall {T : TC} {J : MI} {H : MG} {D : Nat} (e : Nat) (hL : LI T D J H) (v : Int32) : Two T mX8_hall mX9_hall (e + 100) D [.int v] J H := by
  obtain ⟨hD, hM, ⟨j, hj⟩, g, gi, im, so, sz, ce, th, A, B, hc, tp, tb, w, tl, hC, hR, hP⟩ := hL
  refine OkI.imp (OkP.i (C8_hall (e + 99) hD hC.1 v)) ?_
  rintro _ _ _ ⟨rfl, rfl, rfl⟩
  refine ⟨hM, ?_⟩
  refine OkI.imp (C9_hall (e + 98) hM (by rw [hR.1.1]; exact hC.1.w) v) ?_
  rintro _ J2 _ ⟨rfl, hg, hF, rfl⟩
  exact ⟨by rw [hR.1.1], LI.fin hD hM ⟨j, hj⟩ hC hR hP (hF.mono (fun x z => by unfold Pd at z; unfold Pm; omega)) (fun j _ => by rw [hF _ (fun z => by unfold Pd at z; omega)]) (hg.trans hR.1.1)⟩
theorem K_lies {T : TC} {J : MI} {H : MG} {D : Nat} (e : Nat) (hL : LI T D J H) (s : Int32) : Two T mX8_lies mX9_lies (e + 100) D [.int s] J H := by
  obtain ⟨hD, hM, ⟨j, hj⟩, g, gi, im, so, sz, ce, th, A, B, hc, tp, tb, w, tl, hC, hR, hP⟩ := hL
  refine OkI.imp (OkP.i (C8_lies (e + 97) hD hC.1 hC.2.2.1 s)) ?_
  rintro _ _ _ ⟨rfl, rfl, rfl⟩
  refine ⟨hM, ?_⟩
  refine OkI.imp (C9_lies (e + 97) hM (by rw [hR.1.1]; exact hC.1.w) sz hR.2.1.2.1 s) ?_
  rintro _ J2 _ ⟨rfl, hg, hF, rfl⟩
  exact ⟨by rw [hR.1.1, hR.2.1.1, hR.2.1.2.2], LI.fin hD hM ⟨j, hj⟩ hC hR hP (hF.2.mono (fun x z => by rcases z with z | z | z <;> first | exact False.elim z | ((try unfold Pt at z); unfold Pm; omega))) (fun j hj => hF.1 j hj) (hg.trans hR.1.1)⟩
theorem K_proof {T : TC} {J : MI} {H : MG} {D : Nat} (e : Nat) (hL : LI T D J H) (s u : Int32) : Two T mX8_proof mX9_proof (e + 100) D [.int s, .int u] J H := by
  obtain ⟨hD, hM, ⟨j, hj⟩, g, gi, im, so, sz, ce, th, A, B, hc, tp, tb, w, tl, hC, hR, hP⟩ := hL
  refine OkI.imp (OkP.i (C8_proof (e + 96) hD hC.1 hC.2.2.1 s u)) ?_
  rintro _ _ _ ⟨rfl, rfl, rfl⟩
  refine ⟨hM, ?_⟩
  refine OkI.imp (C9_proof (e + 97) hM (by rw [hR.1.1]; exact hC.1.w) sz hR.2.1.2.1 s u) ?_
  rintro _ J2 _ ⟨rfl, hg, hF, rfl⟩
  exact ⟨by rw [hR.1.1, hR.2.1.1, hR.2.1.2.2], LI.fin hD hM ⟨j, hj⟩ hC hR hP (hF.2.mono (fun x z => by rcases z with z | z | z <;> first | exact False.elim z | ((try unfold Pt at z); unfold Pm; omega))) (fun j hj => hF.1 j hj) (hg.trans hR.1.1)⟩
theorem K_common {T : TC} {J : MI} {H : MG} {D : Nat} (e : Nat) (hL : LI T D J H) (u v x : Int32) : Two T mX8_common mX9_common (e + 100) D [.int u, .int v, .int x] J H := by
  obtain ⟨hD, hM, ⟨j, hj⟩, g, gi, im, so, sz, ce, th, A, B, hc, tp, tb, w, tl, hC, hR, hP⟩ := hL
  refine OkI.imp (C8_common (e + 97) hD hC.1 u v x) ?_
  rintro _ J1 _ ⟨rfl, hF1, rfl⟩
  replace hC := hC.ps hF1
  replace hR := hR.cls (fun x h1 h2 => hF1 x (fun z => by unfold PS PK at z; omega))
  refine ⟨hM, ?_⟩
  refine OkI.imp (C9_common (e + 97) hM (by rw [hR.1.1]; exact hC.1.w) u v x) ?_
  rintro _ J2 _ ⟨rfl, hF, rfl⟩
  exact ⟨by rw [hR.1.1], LI.fin hD hM ⟨j, hj⟩ hC hR hP (hF.mono (fun x z => by unfold Pc5 at z; unfold Pm; omega)) (fun j _ => by rw [hF _ (fun z => by unfold Pc5 at z; omega)]) ((by rw [hF _ (fun z => by unfold Pc5 at z; omega)]; exact hR.1.1))⟩
theorem K_hiding {T : TC} {J : MI} {H : MG} {D : Nat} (e : Nat) (hL : LI T D J H) (s u : Int32) : Two T mX8_hiding mX9_hiding (e + 100) D [.int s, .int u] J H := by
  obtain ⟨hD, hM, ⟨j, hj⟩, g, gi, im, so, sz, ce, th, A, B, hc, tp, tb, w, tl, hC, hR, hP⟩ := hL
  refine OkI.imp (C8_hiding (e + 96) hD hC.1 hC.2.2.1 s u) ?_
  rintro _ J1 _ ⟨rfl, hF1, rfl⟩
  replace hC := hC.ps hF1
  replace hR := hR.cls (fun x h1 h2 => hF1 x (fun z => by unfold PS PK at z; omega))
  refine ⟨hM, ?_⟩
  refine OkI.imp (C9_hiding (e + 97) hM (by rw [hR.1.1]; exact hC.1.w) sz hR.2.1.2.1 s u) ?_
  rintro _ J2 _ ⟨rfl, hg, hF, rfl⟩
  exact ⟨by rw [hR.1.1, hR.2.1.1, hR.2.1.2.2], LI.fin hD hM ⟨j, hj⟩ hC hR hP (hF.2.mono (fun x z => by rcases z with z | z | z <;> first | exact False.elim z | ((try unfold Pt at z); unfold Pm; omega))) (fun j hj => hF.1 j hj) (hg.trans hR.1.1)⟩
theorem K_alike {T : TC} {J : MI} {H : MG} {D : Nat} (e : Nat) (hL : LI T D J H) (v : Int32) : Two T mX8_alike mX9_alike (e + 100) D [.int v] J H := by
  obtain ⟨hD, hM, ⟨j, hj⟩, g, gi, im, so, sz, ce, th, A, B, hc, tp, tb, w, tl, hC, hR, hP⟩ := hL
  refine OkI.imp (C8_alike (e + 98) hD hC.1 v) ?_
  rintro _ J1 _ ⟨rfl, hF1, rfl⟩
  replace hC := hC.ps hF1
  replace hR := hR.cls (fun x h1 h2 => hF1 x (fun z => by unfold PS PK at z; omega))
  refine ⟨hM, ?_⟩
  refine OkI.imp (C9_alike (e + 98) hM (by rw [hR.1.1]; exact hC.1.w) v) ?_
  rintro _ J2 _ ⟨rfl, hF, rfl⟩
  exact ⟨by rw [hR.1.1], LI.fin hD hM ⟨j, hj⟩ hC hR hP (hF.mono (fun x z => by unfold Pc5 at z; unfold Pm; omega)) (fun j _ => by rw [hF _ (fun z => by unfold Pc5 at z; omega)]) ((by rw [hF _ (fun z => by unfold Pc5 at z; omega)]; exact hR.1.1))⟩
theorem K_forged {T : TC} {J : MI} {H : MG} {D : Nat} (e : Nat) (hL : LI T D J H) (v : Int32) : Two T mX8_forged mX9_forged (e + 100) D [.int v] J H := by
  obtain ⟨hD, hM, ⟨j, hj⟩, g, gi, im, so, sz, ce, th, A, B, hc, tp, tb, w, tl, hC, hR, hP⟩ := hL
  refine OkI.imp (C8_forged (e + 97) hD hC.1 v) ?_
  rintro _ J1 _ ⟨rfl, hF1, rfl⟩
  replace hC := hC.ps hF1
  replace hR := hR.cls (fun x h1 h2 => hF1 x (fun z => by unfold PS PK at z; omega))
  refine ⟨hM, ?_⟩
  refine OkI.imp (C9_forged (e + 98) hM (by rw [hR.1.1]; exact hC.1.w) v) ?_
  rintro _ J2 _ ⟨rfl, hF, rfl⟩
  exact ⟨by rw [hR.1.1], LI.fin hD hM ⟨j, hj⟩ hC hR hP (hF.mono (fun x z => by unfold Pc5 at z; unfold Pm; omega)) (fun j _ => by rw [hF _ (fun z => by unfold Pc5 at z; omega)]) ((by rw [hF _ (fun z => by unfold Pc5 at z; omega)]; exact hR.1.1))⟩
theorem K_behind {T : TC} {J : MI} {H : MG} {D : Nat} (e : Nat) (hL : LI T D J H) (n v : Int32) : Two T mX8_behind mX9_behind (e + 100) D [.int n, .int v] J H := by
  obtain ⟨hD, hM, ⟨j, hj⟩, g, gi, im, so, sz, ce, th, A, B, hc, tp, tb, w, tl, hC, hR, hP⟩ := hL
  refine OkI.imp (C8_behind (e + 94) hD hC.1 n v) ?_
  rintro _ J1 _ ⟨rfl, hF1, rfl⟩
  replace hC := hC.ps hF1
  replace hR := hR.cls (fun x h1 h2 => hF1 x (fun z => by unfold PS PK at z; omega))
  refine ⟨hM, ?_⟩
  refine OkI.imp (C9_behind (e + 94) hM (by rw [hR.1.1]; exact hC.1.w) n v) ?_
  rintro _ J2 _ ⟨rfl, hg, hF, rfl⟩
  exact ⟨by rw [hR.1.1], LI.fin hD hM ⟨j, hj⟩ hC hR hP (hF.mono (fun x z => by unfold Pt at z; unfold Pm; omega)) (fun j _ => by rw [hF _ (fun z => by unfold Pt at z; omega)]) (hg.trans hR.1.1)⟩
theorem K_gone {T : TC} {J : MI} {H : MG} {D : Nat} (e : Nat) (hL : LI T D J H) (s u : Int32) : Two T mX8_gone mX9_gone (e + 100) D [.int s, .int u] J H := by
  obtain ⟨hD, hM, ⟨j, hj⟩, g, gi, im, so, sz, ce, th, A, B, hc, tp, tb, w, tl, hC, hR, hP⟩ := hL
  refine OkI.imp (C8_gone (e + 94) hD hC.1 hC.2.2.1 s u) ?_
  rintro _ J1 _ ⟨rfl, hF1, rfl⟩
  replace hC := hC.ps hF1
  replace hR := hR.cls (fun x h1 h2 => hF1 x (fun z => by unfold PS PK at z; omega))
  refine ⟨hM, ?_⟩
  refine OkI.imp (C9_gone (e + 94) hM (by rw [hR.1.1]; exact hC.1.w) sz hR.2.1.2.1 s u) ?_
  rintro _ J2 _ ⟨rfl, hg, hF, rfl⟩
  exact ⟨by rw [hR.1.1, hR.2.1.1, hR.2.1.2.2], LI.fin hD hM ⟨j, hj⟩ hC hR hP (hF.2.mono (fun x z => by rcases z with z | z | z <;> first | exact False.elim z | ((try unfold Pt at z); unfold Pm; omega))) (fun j hj => hF.1 j hj) (hg.trans hR.1.1)⟩
theorem K_safe {T : TC} {J : MI} {H : MG} {D : Nat} (e : Nat) (hL : LI T D J H) (s v : Int32) : Two T mX8_safe mX9_safe (e + 100) D [.int s, .int v] J H := by
  obtain ⟨hD, hM, ⟨j, hj⟩, g, gi, im, so, sz, ce, th, A, B, hc, tp, tb, w, tl, hC, hR, hP⟩ := hL
  refine OkI.imp (C8_safe (e + 94) hD hC.1 hC.2.2.1 s v) ?_
  rintro _ J1 _ ⟨rfl, hF1, rfl⟩
  replace hC := hC.ps hF1
  replace hR := hR.cls (fun x h1 h2 => hF1 x (fun z => by unfold PS PK at z; omega))
  refine ⟨hM, ?_⟩
  refine OkI.imp (C9_safe (e + 94) hM (by rw [hR.1.1]; exact hC.1.w) sz hR.2.1.2.1 s v) ?_
  rintro _ J2 _ ⟨rfl, hg, hF, rfl⟩
  exact ⟨by rw [hR.1.1, hR.2.1.1, hR.2.1.2.2], LI.fin hD hM ⟨j, hj⟩ hC hR hP (hF.2.mono (fun x z => by rcases z with z | z | z <;> first | exact False.elim z | ((try unfold Pt at z); unfold Pm; omega))) (fun j hj => hF.1 j hj) (hg.trans hR.1.1)⟩
theorem K_becomes {T : TC} {J : MI} {H : MG} {D : Nat} (e : Nat) (hL : LI T D J H) (s n v : Int32) : Two T mX8_becomes mX9_becomes (e + 100) D [.int s, .int n, .int v] J H := by
  obtain ⟨hD, hM, ⟨j, hj⟩, g, gi, im, so, sz, ce, th, A, B, hc, tp, tb, w, tl, hC, hR, hP⟩ := hL
  refine OkI.imp (C8_becomes (e + 94) hD hC.1 s n v) ?_
  rintro _ J1 _ ⟨rfl, hF1, rfl⟩
  replace hC := hC.ps hF1
  replace hR := hR.cls (fun x h1 h2 => hF1 x (fun z => by unfold PS PK at z; omega))
  refine ⟨hM, ?_⟩
  refine OkI.imp (C9_becomes (e + 94) hM (by rw [hR.1.1]; exact hC.1.w) s n v) ?_
  rintro _ J2 _ ⟨rfl, hg, hF, rfl⟩
  exact ⟨by rw [hR.1.1], LI.fin hD hM ⟨j, hj⟩ hC hR hP (hF.mono (fun x z => by unfold Pt at z; unfold Pm; omega)) (fun j _ => by rw [hF _ (fun z => by unfold Pt at z; omega)]) (hg.trans hR.1.1)⟩
theorem K_kept {T : TC} {J : MI} {H : MG} {D : Nat} (e : Nat) (hL : LI T D J H) (n v : Int32) : Two T mX8_kept mX9_kept (e + 100) D [.int n, .int v] J H := by
  obtain ⟨hD, hM, ⟨j, hj⟩, g, gi, im, so, sz, ce, th, A, B, hc, tp, tb, w, tl, hC, hR, hP⟩ := hL
  refine OkI.imp (C8_kept (e + 94) hD hC.1 n v) ?_
  rintro _ J1 _ ⟨rfl, hF1, rfl⟩
  replace hC := hC.ps hF1
  replace hR := hR.cls (fun x h1 h2 => hF1 x (fun z => by unfold PS PK at z; omega))
  refine ⟨hM, ?_⟩
  refine OkI.imp (C9_kept (e + 94) hM (by rw [hR.1.1]; exact hC.1.w) n v) ?_
  rintro _ J2 _ ⟨rfl, hg, hF, rfl⟩
  exact ⟨by rw [hR.1.1], LI.fin hD hM ⟨j, hj⟩ hC hR hP (hF.mono (fun x z => by unfold Pt at z; unfold Pm; omega)) (fun j _ => by rw [hF _ (fun z => by unfold Pt at z; omega)]) (hg.trans hR.1.1)⟩
theorem K_fee {T : TC} {J : MI} {H : MG} {D : Nat} (e : Nat) (hL : LI T D J H)  : Two T mX8_fee mX9_fee (e + 100) D [] J H := by
  obtain ⟨hD, hM, ⟨j, hj⟩, g, gi, im, so, sz, ce, th, A, B, hc, tp, tb, w, tl, hC, hR, hP⟩ := hL
  refine OkI.imp (C8_fee (e + 98) hD hC.1) ?_
  rintro _ J1 _ ⟨rfl, hF1, rfl⟩
  replace hC := hC.ps hF1
  replace hR := hR.cls (fun x h1 h2 => hF1 x (fun z => by unfold PS PK at z; omega))
  refine ⟨hM, ?_⟩
  refine OkI.imp (C9_fee (e + 98) hM (by rw [hR.1.1]; exact hC.1.w)) ?_
  rintro _ J2 _ ⟨rfl, hg, hF, rfl⟩
  exact ⟨by rw [hR.1.1], LI.fin hD hM ⟨j, hj⟩ hC hR hP (hF.mono (fun x z => by unfold Pd at z; unfold Pm; omega)) (fun j _ => by rw [hF _ (fun z => by unfold Pd at z; omega)]) (hg.trans hR.1.1)⟩
theorem K_fine {T : TC} {J : MI} {H : MG} {D : Nat} (e : Nat) (hL : LI T D J H) (s : Int32) : Two T mX8_fine mX9_fine (e + 100) D [.int s] J H := by
  obtain ⟨hD, hM, ⟨j, hj⟩, g, gi, im, so, sz, ce, th, A, B, hc, tp, tb, w, tl, hC, hR, hP⟩ := hL
  refine OkI.imp (C8_fine (e + 98) hD hC.1 s) ?_
  rintro _ J1 _ ⟨rfl, hF1, rfl⟩
  replace hC := hC.ps hF1
  replace hR := hR.cls (fun x h1 h2 => hF1 x (fun z => by unfold PS PK at z; omega))
  refine ⟨hM, ?_⟩
  refine OkI.imp (C9_fine (e + 98) hM (by rw [hR.1.1]; exact hC.1.w) s) ?_
  rintro _ J2 _ ⟨rfl, hg, hF, rfl⟩
  exact ⟨by rw [hR.1.1], LI.fin hD hM ⟨j, hj⟩ hC hR hP (hF.mono (fun x z => by unfold Pd at z; unfold Pm; omega)) (fun j _ => by rw [hF _ (fun z => by unfold Pd at z; omega)]) (hg.trans hR.1.1)⟩
theorem K_why {T : TC} {J : MI} {H : MG} {D : Nat} (e : Nat) (hL : LI T D J H) (k : Int32) : Two T mX8_why mX9_why (e + 100) D [.int k] J H := by
  obtain ⟨hD, hM, ⟨j, hj⟩, g, gi, im, so, sz, ce, th, A, B, hc, tp, tb, w, tl, hC, hR, hP⟩ := hL
  refine OkI.imp (OkP.i (C8_why (e + 99) hD hC.1 k)) ?_
  rintro _ _ _ ⟨rfl, rfl, rfl⟩
  refine ⟨hM, ?_⟩
  refine OkI.imp (OkP.i (C9_why (e + 99) hM (by rw [hR.1.1]; exact hC.1.w) k)) ?_
  rintro _ _ _ ⟨rfl, rfl, rfl⟩
  exact ⟨by rw [hR.1.1], ⟨hD, hM, ⟨j, hj⟩, g, gi, im, so, sz, ce, th, A, B, hc, tp, tb, w, tl, hC, hR, hP⟩⟩
theorem K_textTold {T : TC} {J : MI} {H : MG} {D : Nat} (e : Nat) (hL : LI T D J H) (t v : Int32) : Two T mX8_textTold mX9_textTold (e + 100) D [.int t, .int v] J H := by
  obtain ⟨hD, hM, ⟨j, hj⟩, g, gi, im, so, sz, ce, th, A, B, hc, tp, tb, w, tl, hC, hR, hP⟩ := hL
  refine OkI.imp (OkP.i (C8_textTold (e + 99) hD hC.1 t v)) ?_
  rintro _ _ _ ⟨rfl, rfl, rfl⟩
  refine ⟨hM, ?_⟩
  refine OkI.imp (OkP.i (C9_textTold (e + 99) hM (by rw [hR.1.1]; exact hC.1.w) t v)) ?_
  rintro _ _ _ ⟨rfl, rfl, rfl⟩
  exact ⟨by rw [hR.1.1], ⟨hD, hM, ⟨j, hj⟩, g, gi, im, so, sz, ce, th, A, B, hc, tp, tb, w, tl, hC, hR, hP⟩⟩
theorem K_reads {T : TC} {J : MI} {H : MG} {D : Nat} (e : Nat) (hL : LI T D J H) (s : Int32) : Two T mX8_reads mX9_reads (e + 100) D [.int s] J H := by
  obtain ⟨hD, hM, ⟨j, hj⟩, g, gi, im, so, sz, ce, th, A, B, hc, tp, tb, w, tl, hC, hR, hP⟩ := hL
  refine OkI.imp (OkP.i (C8_reads (e + 98) hD hC.1 hC.2.2.1 s)) ?_
  rintro _ _ _ ⟨rfl, rfl, rfl⟩
  refine ⟨hM, ?_⟩
  refine OkI.imp (OkP.i (C9_reads (e + 98) hM (by rw [hR.1.1]; exact hC.1.w) sz hR.2.1.2.1 s)) ?_
  rintro _ _ _ ⟨rfl, rfl, rfl⟩
  exact ⟨by rw [hR.1.1, hR.2.1.1, hR.2.1.2.2], ⟨hD, hM, ⟨j, hj⟩, g, gi, im, so, sz, ce, th, A, B, hc, tp, tb, w, tl, hC, hR, hP⟩⟩
theorem K_rest {T : TC} {J : MI} {H : MG} {D : Nat} (e : Nat) (hL : LI T D J H) (s n : Int32) : Two T mX8_rest mX9_rest (e + 100) D [.int s, .int n] J H := by
  obtain ⟨hD, hM, ⟨j, hj⟩, g, gi, im, so, sz, ce, th, A, B, hc, tp, tb, w, tl, hC, hR, hP⟩ := hL
  refine OkI.imp (OkP.i (C8_rest (e + 99) hD hC.2.2.2.1 s n)) ?_
  rintro _ _ _ ⟨rfl, rfl, rfl⟩
  refine ⟨hM, ?_⟩
  refine OkI.imp (OkP.i (C9_rest (e + 98) hM  s n)) ?_
  rintro _ _ _ ⟨rfl, rfl, rfl⟩
  exact ⟨by rw [hR.2.2.1.1, hR.2.2.1.2.1], ⟨hD, hM, ⟨j, hj⟩, g, gi, im, so, sz, ce, th, A, B, hc, tp, tb, w, tl, hC, hR, hP⟩⟩
theorem K_ask {T : TC} {J : MI} {H : MG} {D : Nat} (e : Nat) (hL : LI T D J H) (s n : Int32) : Two T mX8_ask mX9_ask (e + 100) D [.int s, .int n] J H := by
  obtain ⟨hD, hM, ⟨j, hj⟩, g, gi, im, so, sz, ce, th, A, B, hc, tp, tb, w, tl, hC, hR, hP⟩ := hL
  refine OkI.imp (OkP.i (C8_ask (e + 98) hD hC.2.2.2.1 s n)) ?_
  rintro _ _ _ ⟨rfl, rfl, rfl⟩
  refine ⟨hM, ?_⟩
  refine OkI.imp (OkP.i (C9_ask (e + 98) hM  s n)) ?_
  rintro _ _ _ ⟨rfl, rfl, rfl⟩
  exact ⟨by rw [hR.2.2.1.1, hR.2.2.1.2.1, hR.2.2.1.2.2.1], ⟨hD, hM, ⟨j, hj⟩, g, gi, im, so, sz, ce, th, A, B, hc, tp, tb, w, tl, hC, hR, hP⟩⟩
theorem K_count {T : TC} {J : MI} {H : MG} {D : Nat} (e : Nat) (hL : LI T D J H) (v : Int32) : Two T mX8_count mX9_count (e + 100) D [.int v] J H := by
  obtain ⟨hD, hM, ⟨j, hj⟩, g, gi, im, so, sz, ce, th, A, B, hc, tp, tb, w, tl, hC, hR, hP⟩ := hL
  refine OkI.imp (OkP.i (C8_count (e + 100) hD hC.1 v)) ?_
  rintro _ _ _ ⟨rfl, rfl, rfl⟩
  refine ⟨hM, ?_⟩
  refine OkI.imp (OkP.i (C9_count (e + 100) hM v)) ?_
  rintro _ _ _ ⟨rfl, rfl, rfl⟩
  exact ⟨by rw [hR.1.1, hR.2.2.2.2.1.1, hR.2.2.2.1.1, hC.2.2.2.2.1.1, hC.2.2.2.2.2.1], ⟨hD, hM, ⟨j, hj⟩, g, gi, im, so, sz, ce, th, A, B, hc, tp, tb, w, tl, hC, hR, hP⟩⟩
theorem K_item {T : TC} {J : MI} {H : MG} {D : Nat} (e : Nat) (hL : LI T D J H) (s p : Int32) : Two T mX8_item mX9_item (e + 100) D [.int s, .int p] J H := by
  obtain ⟨hD, hM, ⟨j, hj⟩, g, gi, im, so, sz, ce, th, A, B, hc, tp, tb, w, tl, hC, hR, hP⟩ := hL
  refine OkI.imp (OkP.i (C8_item (e + 99) hD hC.2.2.2.1 s p)) ?_
  rintro _ _ _ ⟨rfl, rfl, rfl⟩
  refine ⟨hM, ?_⟩
  refine OkI.imp (OkP.i (C9_item (e + 98) hM (fun k => cl (A k)) s p (fun i hi h2 => ?_))) ?_
  · rw [hR.2.2.1.1] at h2
    obtain ⟨z, hz, ez, -⟩ := (hC.2.2.2.1 i hi).2.2.1 h2
    have ec : cl (A i) = z := by rw [ez]; exact cl_nI (by omega)
    rw [hR.2.2.1.2.1]
    exact ⟨by rw [ec]; exact ez, by rw [ec]; exact hz⟩
  · rintro _ _ _ ⟨rfl, rfl, rfl⟩
    exact ⟨by rw [hR.2.2.1.1, hR.2.2.1.2.2.2], ⟨hD, hM, ⟨j, hj⟩, g, gi, im, so, sz, ce, th, A, B, hc, tp, tb, w, tl, hC, hR, hP⟩⟩
