/-! the reference: its constructor -/
def kr : Nat → Int32 := fun y => if y = 10 then nI 101 else if y = 9 then nI 110 else if y = 8 then nI 105 else if y = 7 then nI 102 else if y = 6 then nI 101 else if y = 5 then nI 101 else if y = 4 then nI 102 else if y = 3 then nI 116 else if y = 2 then nI 102 else if y = 1 then nI 105 else if y = 0 then nI 108 else 0
def kt : Nat → Int32 := fun y => if y = 3 then nI 11 else if y = 2 then nI 7 else if y = 1 then nI 4 else if y = 0 then nI 0 else 0
def ks : Nat → Int32 := fun y => if y = 3 then (-1) else if y = 2 then (-1) else if y = 1 then (-1) else if y = 0 then (-1) else 0
def rM (i : Nat) : Nat → Int32 := if i = 11 then kr else if i = 12 then kt else if i = 18 then ks else fun _ => 0
def MP (T : TC) (I0 : MI) (G0 : MG) (M k : Nat) (J : MI) (H : MG) : Prop := n0 T + gS H = M + 1 + k ∧ Is T H M 9 ∧ (∀ t ∈ mtab, t.2.1 ≤ k → gR H M t.1 = some (M + t.2.1) ∧ Is T H (M + t.2.1) t.2.2.1 ∧ gN H (M + t.2.1) = t.2.2.2) ∧ (∀ x, x < M → gK H x = gK G0 x ∧ gN H x = gN G0 x ∧ gR H x = gR G0 x ∧ J x = I0 x) ∧ ∀ i, i ≤ k → ∀ y, J (M + i) y = rM i y
theorem mt_u : ∀ t ∈ mtab, ∀ u ∈ mtab, (t.1 = u.1 ∨ t.2.1 = u.2.1) → t = u := by decide
theorem MP.s {T : TC} {I0 J J' : MI} {G0 H : MG} {M k : Nat} (h : MP T I0 G0 M k J H) (e : Nat × Nat × Nat × Nat) (he : e ∈ mtab) (hk : e.2.1 = k + 1) (hJ : ∀ x, x ≠ M + (k + 1) → J' x = J x) (hr : ∀ y, J' (M + (k + 1)) y = rM (k + 1) y) : MP T I0 G0 M (k + 1) J' (setR (alG H (M + (k + 1)) e.2.2.1 e.2.2.2) M e.1 (some (M + (k + 1)))) := by
  obtain ⟨h1, h2, h3, h4, h5⟩ := h
  have hq : n0 T + gS H = M + (k + 1) := by omega
  refine ⟨by show n0 T + (gS H + 1) = _; omega, (h2.al hq).setR, fun t ht hk2 => ?_, fun x hx => ?_, fun i hi y => ?_⟩
  · by_cases et : t = e
    · subst et
      rw [hk]
      exact ⟨if_pos ⟨rfl, rfl⟩, (Is.new hq).setR, if_pos rfl⟩
    · have n1 : t.1 ≠ e.1 := fun z => et (mt_u t ht e he (Or.inl z))
      have n2 : t.2.1 ≠ e.2.1 := fun z => et (mt_u t ht e he (Or.inr z))
      obtain ⟨p1, p2, p3⟩ := h3 t ht (by omega)
      refine ⟨?_, (p2.al hq).setR, ?_⟩
      · show (if M = M ∧ t.1 = e.1 then _ else _) = _
        rw [if_neg (fun z => n1 z.2), alG_Rn (by omega)]; exact p1
      · rw [setR_N, alG_Nn (by omega)]; exact p3
  · obtain ⟨e1, e2, e3, e4⟩ := h4 x hx
    exact ⟨(alG_Kn (by omega)).trans e1, (alG_Nn (by omega)).trans e2, (setR_Rn (by omega)).trans ((alG_Rn (by omega)).trans e3), (hJ x (by omega)).trans e4⟩
  · by_cases ei : i = k + 1
    · subst ei; exact hr y
    · rw [hJ _ (by omega)]; exact h5 i (by omega) y
theorem rM_0 {i : Nat} (h : i ≠ 11) (h2 : i ≠ 12) (h3 : i ≠ 18) (y : Nat) : rM i y = 0 := by unfold rM; rw [if_neg h, if_neg h2, if_neg h3]
theorem Ky_k : (∀ w, w ≤ 3 → kt w = nI (ka w)) ∧ ∀ j, j < 11 → kr j = nI (kc j) := by decide
set_option maxRecDepth 100000 in
set_option maxHeartbeats 4000000 in
theorem t9i_20 {T : TC} {I : MI} {G : MG} (d : Nat) {M : Nat} (hq : n0 T + gS G = M + 1) {J20 : MI} {H20 : MG} (mp20 : MP T I G M 20 J20 H20) : Ex T RX9 cX9_init 1 (d + 1) (fm T "<init>" none (fun v I' G' => v = none ∧ (MSh T G' M ∧ Ct M 26 I G I' G' ∧ (∀ i, i ≤ 26 → i ≠ 1 → ∀ y, I' (M + i) y = rM i y) ∧ I' (M + 1) = upd (upd (upd (fun _ => 0) 0 (nI 1)) 3 (nI 20)) 4 (nI 10)))) 259 [some (.ref M)] [] J20 H20 (6, 219) := by
  refine Ex_aload_n dX9_init_259 rfl ?_
  refine Ex_iconst (v := nI 5) dX9_init_260 (by rfl) ?_
  have hq21 : n0 T + gS H20 = M + 21 := by have := mp20.1; omega
  refine Ex_wid (b := (5 + 1, 214 + 5)) ?_ (by decide) (by decide)
  refine Ex_newI dX9_init_261 ac_int rfl (by decide) hq21 ?_
  refine Ex_putrF dX9_init_263 fX9_73 rfl rfl (fun _ _ _ _ _ _ _ _ _ _ _ h => h.2.2.2) rfl rfl (mp20.2.1.al hq21) ?_
  have mp21 := mp20.s (J' := (zI J20 (M + 21))) (32, 21, 10, 5) (by decide) rfl (fun x hx => zI_n hx) (fun y => by
    rw [rM_0 (by decide) (by decide) (by decide)]
    exact zI_s)
  change MP T I G M 21 (zI J20 (M + 21)) (setR (alG H20 (M + 21) 10 5) M 32 (some (M + 21))) at mp21
  generalize (zI J20 (M + 21)) = J21 at mp21 ⊢
  generalize setR (alG H20 (M + 21) 10 5) M 32 (some (M + 21)) = H21 at mp21 ⊢
  clear mp20 hq21
  refine Ex_aload_n dX9_init_266 rfl ?_
  refine Ex_iconst (v := nI 5) dX9_init_267 (by rfl) ?_
  have hq22 : n0 T + gS H21 = M + 22 := by have := mp21.1; omega
  refine Ex_wid (b := (4 + 1, 209 + 5)) ?_ (by decide) (by decide)
  refine Ex_newI dX9_init_268 ac_int rfl (by decide) hq22 ?_
  refine Ex_putrF dX9_init_270 fX9_76 rfl rfl (fun _ _ _ _ _ _ _ _ _ _ _ h => h.2.2.2) rfl rfl (mp21.2.1.al hq22) ?_
  have mp22 := mp21.s (J' := (zI J21 (M + 22))) (33, 22, 10, 5) (by decide) rfl (fun x hx => zI_n hx) (fun y => by
    rw [rM_0 (by decide) (by decide) (by decide)]
    exact zI_s)
  change MP T I G M 22 (zI J21 (M + 22)) (setR (alG H21 (M + 22) 10 5) M 33 (some (M + 22))) at mp22
  generalize (zI J21 (M + 22)) = J22 at mp22 ⊢
  generalize setR (alG H21 (M + 22) 10 5) M 33 (some (M + 22)) = H22 at mp22 ⊢
  clear mp21 hq22
  refine Ex_aload_n dX9_init_273 rfl ?_
  refine Ex_iconst (v := nI 5) dX9_init_274 (by rfl) ?_
  have hq23 : n0 T + gS H22 = M + 23 := by have := mp22.1; omega
  refine Ex_wid (b := (3 + 1, 204 + 5)) ?_ (by decide) (by decide)
  refine Ex_newI dX9_init_275 ac_int rfl (by decide) hq23 ?_
  refine Ex_putrF dX9_init_277 fX9_79 rfl rfl (fun _ _ _ _ _ _ _ _ _ _ _ h => h.2.2.2) rfl rfl (mp22.2.1.al hq23) ?_
  have mp23 := mp22.s (J' := (zI J22 (M + 23))) (34, 23, 10, 5) (by decide) rfl (fun x hx => zI_n hx) (fun y => by
    rw [rM_0 (by decide) (by decide) (by decide)]
    exact zI_s)
  change MP T I G M 23 (zI J22 (M + 23)) (setR (alG H22 (M + 23) 10 5) M 34 (some (M + 23))) at mp23
  generalize (zI J22 (M + 23)) = J23 at mp23 ⊢
  generalize setR (alG H22 (M + 23) 10 5) M 34 (some (M + 23)) = H23 at mp23 ⊢
  clear mp22 hq23
  refine Ex_aload_n dX9_init_280 rfl ?_
  refine Ex_bipush (v := nI 120) dX9_init_281 (by rfl) ?_
  have hq24 : n0 T + gS H23 = M + 24 := by have := mp23.1; omega
  refine Ex_wid (b := (2 + 1, 84 + 120)) ?_ (by decide) (by decide)
  refine Ex_newI dX9_init_283 ac_int rfl (by decide) hq24 ?_
  refine Ex_putrF dX9_init_285 fX9_82 rfl rfl (fun _ _ _ _ _ _ _ _ _ _ _ h => h.2.2.2) rfl rfl (mp23.2.1.al hq24) ?_
  have mp24 := mp23.s (J' := (zI J23 (M + 24))) (35, 24, 10, 120) (by decide) rfl (fun x hx => zI_n hx) (fun y => by
    rw [rM_0 (by decide) (by decide) (by decide)]
    exact zI_s)
  change MP T I G M 24 (zI J23 (M + 24)) (setR (alG H23 (M + 24) 10 120) M 35 (some (M + 24))) at mp24
  generalize (zI J23 (M + 24)) = J24 at mp24 ⊢
  generalize setR (alG H23 (M + 24) 10 120) M 35 (some (M + 24)) = H24 at mp24 ⊢
  clear mp23 hq24
  refine Ex_aload_n dX9_init_288 rfl ?_
  refine Ex_bipush (v := nI 24) dX9_init_289 (by rfl) ?_
  have hq25 : n0 T + gS H24 = M + 25 := by have := mp24.1; omega
  refine Ex_wid (b := (1 + 1, 60 + 24)) ?_ (by decide) (by decide)
  refine Ex_newI dX9_init_291 ac_int rfl (by decide) hq25 ?_
  refine Ex_putrF dX9_init_293 fX9_85 rfl rfl (fun _ _ _ _ _ _ _ _ _ _ _ h => h.2.2.2) rfl rfl (mp24.2.1.al hq25) ?_
  have mp25 := mp24.s (J' := (zI J24 (M + 25))) (36, 25, 10, 24) (by decide) rfl (fun x hx => zI_n hx) (fun y => by
    rw [rM_0 (by decide) (by decide) (by decide)]
    exact zI_s)
  change MP T I G M 25 (zI J24 (M + 25)) (setR (alG H24 (M + 25) 10 24) M 36 (some (M + 25))) at mp25
  generalize (zI J24 (M + 25)) = J25 at mp25 ⊢
  generalize setR (alG H24 (M + 25) 10 24) M 36 (some (M + 25)) = H25 at mp25 ⊢
  clear mp24 hq25
  refine Ex_aload_n dX9_init_296 rfl ?_
  refine Ex_bipush (v := nI 60) dX9_init_297 (by rfl) ?_
  have hq26 : n0 T + gS H25 = M + 26 := by have := mp25.1; omega
  refine Ex_wid (b := (0 + 1, 0 + 60)) ?_ (by decide) (by decide)
  refine Ex_newI dX9_init_299 ac_int rfl (by decide) hq26 ?_
  refine Ex_putrF dX9_init_301 fX9_88 rfl rfl (fun _ _ _ _ _ _ _ _ _ _ _ h => h.2.2.2) rfl rfl (mp25.2.1.al hq26) ?_
  have mp26 := mp25.s (J' := (zI J25 (M + 26))) (37, 26, 10, 60) (by decide) rfl (fun x hx => zI_n hx) (fun y => by
    rw [rM_0 (by decide) (by decide) (by decide)]
    exact zI_s)
  change MP T I G M 26 (zI J25 (M + 26)) (setR (alG H25 (M + 26) 10 60) M 37 (some (M + 26))) at mp26
  generalize (zI J25 (M + 26)) = J26 at mp26 ⊢
  generalize setR (alG H25 (M + 26) 10 60) M 37 (some (M + 26)) = H26 at mp26 ⊢
  clear mp25 hq26
  refine Ex_aload_n dX9_init_304 rfl ?_
  refine Ex_getr dX9_init_305 fX9_9 (mp26.2.1) (mp26.2.2.1 (0, 1, 10, 1516) (by decide) (by decide)).1 ?_
  refine Ex_iconst (v := nI 0) dX9_init_308 (by rfl) ?_
  refine Ex_iconst (v := nI 1) dX9_init_309 (by rfl) ?_
  refine Ex_iast dX9_init_310 (mp26.2.2.1 (0, 1, 10, 1516) (by decide) (by decide)).2.1 rfl (by rw [(mp26.2.2.1 (0, 1, 10, 1516) (by decide) (by decide)).2.2]; decide) (by rw [(mp26.2.2.1 (0, 1, 10, 1516) (by decide) (by decide)).2.2]; decide) ?_
  refine Ex_aload_n dX9_init_311 rfl ?_
  refine Ex_getr dX9_init_312 fX9_9 (mp26.2.1) (mp26.2.2.1 (0, 1, 10, 1516) (by decide) (by decide)).1 ?_
  refine Ex_iconst (v := nI 3) dX9_init_315 (by rfl) ?_
  refine Ex_bipush (v := nI 20) dX9_init_316 (by rfl) ?_
  refine Ex_iast dX9_init_318 (mp26.2.2.1 (0, 1, 10, 1516) (by decide) (by decide)).2.1 rfl (by rw [(mp26.2.2.1 (0, 1, 10, 1516) (by decide) (by decide)).2.2]; decide) (by rw [(mp26.2.2.1 (0, 1, 10, 1516) (by decide) (by decide)).2.2]; decide) ?_
  refine Ex_aload_n dX9_init_319 rfl ?_
  refine Ex_getr dX9_init_320 fX9_9 (mp26.2.1) (mp26.2.2.1 (0, 1, 10, 1516) (by decide) (by decide)).1 ?_
  refine Ex_iconst (v := nI 4) dX9_init_323 (by rfl) ?_
  refine Ex_bipush (v := nI 10) dX9_init_324 (by rfl) ?_
  refine Ex_iast dX9_init_326 (mp26.2.2.1 (0, 1, 10, 1516) (by decide) (by decide)).2.1 rfl (by rw [(mp26.2.2.1 (0, 1, 10, 1516) (by decide) (by decide)).2.2]; decide) (by rw [(mp26.2.2.1 (0, 1, 10, 1516) (by decide) (by decide)).2.2]; decide) ?_
  refine Ex_vret dX9_init_327 ?_
  refine ⟨rfl, ⟨mp26.2.1, fun t ht => mp26.2.2.1 t ht ((show ∀ t ∈ mtab, t.2.1 ≤ 26 by decide) t ht)⟩, ⟨?_, fun x hx => ?_⟩, fun i hi h1 y => ?_, ?_⟩
  · have := mp26.1; omega
  · obtain ⟨e1, e2, e3, e4⟩ := mp26.2.2.2.1 x hx
    exact ⟨e1, e2, e3, by rw [setI_a (by omega), setI_a (by omega), setI_a (by omega)]; exact e4⟩
  · have hne : M + i ≠ M + 1 := by omega
    rw [setI_a hne, setI_a hne, setI_a hne]; exact mp26.2.2.2.2 i hi y
  · rw [setI_row, setI_row, setI_row, rowI_s, rowI_s, rowI_s]
    congr 3
    funext y
    rw [mp26.2.2.2.2 1 (by decide) y]
    exact rM_0 (by decide) (by decide) (by decide) y
set_option maxRecDepth 100000 in
set_option maxHeartbeats 4000000 in
theorem t9i_16 {T : TC} {I : MI} {G : MG} (d : Nat) {M : Nat} (hq : n0 T + gS G = M + 1) {J16 : MI} {H16 : MG} (mp16 : MP T I G M 16 J16 H16) : Ex T RX9 cX9_init 1 (d + 1) (fm T "<init>" none (fun v I' G' => v = none ∧ (MSh T G' M ∧ Ct M 26 I G I' G' ∧ (∀ i, i ≤ 26 → i ≠ 1 → ∀ y, I' (M + i) y = rM i y) ∧ I' (M + 1) = upd (upd (upd (fun _ => 0) 0 (nI 1)) 3 (nI 20)) 4 (nI 10)))) 214 [some (.ref M)] [] J16 H16 (10, 327) := by
  refine Ex_aload_n dX9_init_214 rfl ?_
  refine Ex_iconst (v := nI 4) dX9_init_215 (by rfl) ?_
  have hq17 : n0 T + gS H16 = M + 17 := by have := mp16.1; omega
  refine Ex_wid (b := (9 + 1, 323 + 4)) ?_ (by decide) (by decide)
  refine Ex_newI dX9_init_216 ac_int rfl (by decide) hq17 ?_
  refine Ex_putrF dX9_init_218 fX9_61 rfl rfl (fun _ _ _ _ _ _ _ _ _ _ _ h => h.2.2.2) rfl rfl (mp16.2.1.al hq17) ?_
  have mp17 := mp16.s (J' := (zI J16 (M + 17))) (28, 17, 10, 4) (by decide) rfl (fun x hx => zI_n hx) (fun y => by
    rw [rM_0 (by decide) (by decide) (by decide)]
    exact zI_s)
  change MP T I G M 17 (zI J16 (M + 17)) (setR (alG H16 (M + 17) 10 4) M 28 (some (M + 17))) at mp17
  generalize (zI J16 (M + 17)) = J17 at mp17 ⊢
  generalize setR (alG H16 (M + 17) 10 4) M 28 (some (M + 17)) = H17 at mp17 ⊢
  clear mp16 hq17
  refine Ex_aload_n dX9_init_221 rfl ?_
  refine Ex_iconst (v := nI 4) dX9_init_222 (by rfl) ?_
  have hq18 : n0 T + gS H17 = M + 18 := by have := mp17.1; omega
  refine Ex_wid (b := (8 + 1, 319 + 4)) ?_ (by decide) (by decide)
  refine Ex_newI dX9_init_223 ac_int rfl (by decide) hq18 ?_
  refine Ex_dup dX9_init_225 rfl ?_
  refine Ex_iconst (v := nI 0) dX9_init_226 (by rfl) ?_
  refine Ex_iconst (v := (-1)) dX9_init_227 (by rfl) ?_
  refine Ex_iast dX9_init_228 (Is.new hq18) rfl (show _ < (if M + 18 = M + 18 then 4 else _) by rw [if_pos rfl]; decide) (show (if M + 18 = M + 18 then 4 else _) < 2 ^ 31 by rw [if_pos rfl]; decide) ?_
  refine Ex_dup dX9_init_229 rfl ?_
  refine Ex_iconst (v := nI 1) dX9_init_230 (by rfl) ?_
  refine Ex_iconst (v := (-1)) dX9_init_231 (by rfl) ?_
  refine Ex_iast dX9_init_232 (Is.new hq18) rfl (show _ < (if M + 18 = M + 18 then 4 else _) by rw [if_pos rfl]; decide) (show (if M + 18 = M + 18 then 4 else _) < 2 ^ 31 by rw [if_pos rfl]; decide) ?_
  refine Ex_dup dX9_init_233 rfl ?_
  refine Ex_iconst (v := nI 2) dX9_init_234 (by rfl) ?_
  refine Ex_iconst (v := (-1)) dX9_init_235 (by rfl) ?_
  refine Ex_iast dX9_init_236 (Is.new hq18) rfl (show _ < (if M + 18 = M + 18 then 4 else _) by rw [if_pos rfl]; decide) (show (if M + 18 = M + 18 then 4 else _) < 2 ^ 31 by rw [if_pos rfl]; decide) ?_
  refine Ex_dup dX9_init_237 rfl ?_
  refine Ex_iconst (v := nI 3) dX9_init_238 (by rfl) ?_
  refine Ex_iconst (v := (-1)) dX9_init_239 (by rfl) ?_
  refine Ex_iast dX9_init_240 (Is.new hq18) rfl (show _ < (if M + 18 = M + 18 then 4 else _) by rw [if_pos rfl]; decide) (show (if M + 18 = M + 18 then 4 else _) < 2 ^ 31 by rw [if_pos rfl]; decide) ?_
  refine Ex_putrF dX9_init_241 fX9_64 rfl rfl (fun _ _ _ _ _ _ _ _ _ _ _ h => h.2.2.2) rfl rfl (mp17.2.1.al hq18) ?_
  have mp18 := mp17.s (J' := (setI (setI (setI (setI (zI J17 (M + 18)) (M + 18) 0 ((-1))) (M + 18) 1 ((-1))) (M + 18) 2 ((-1))) (M + 18) 3 ((-1)))) (29, 18, 10, 4) (by decide) rfl (fun x hx => by rw [setI_a hx, setI_a hx, setI_a hx, setI_a hx, zI_n hx]) (fun y => by
    show (setI (setI (setI (setI (zI J17 (M + 18)) (M + 18) 0 ((-1))) (M + 18) 1 ((-1))) (M + 18) 2 ((-1))) (M + 18) 3 ((-1))) (M + 18) y = ks y
    simp [setI, zI, ks])
  change MP T I G M 18 (setI (setI (setI (setI (zI J17 (M + 18)) (M + 18) 0 ((-1))) (M + 18) 1 ((-1))) (M + 18) 2 ((-1))) (M + 18) 3 ((-1))) (setR (alG H17 (M + 18) 10 4) M 29 (some (M + 18))) at mp18
  generalize (setI (setI (setI (setI (zI J17 (M + 18)) (M + 18) 0 ((-1))) (M + 18) 1 ((-1))) (M + 18) 2 ((-1))) (M + 18) 3 ((-1))) = J18 at mp18 ⊢
  generalize setR (alG H17 (M + 18) 10 4) M 29 (some (M + 18)) = H18 at mp18 ⊢
  clear mp17 hq18
  refine Ex_aload_n dX9_init_244 rfl ?_
  refine Ex_iconst (v := nI 4) dX9_init_245 (by rfl) ?_
  have hq19 : n0 T + gS H18 = M + 19 := by have := mp18.1; omega
  refine Ex_wid (b := (7 + 1, 315 + 4)) ?_ (by decide) (by decide)
  refine Ex_newI dX9_init_246 ac_int rfl (by decide) hq19 ?_
  refine Ex_putrF dX9_init_248 fX9_67 rfl rfl (fun _ _ _ _ _ _ _ _ _ _ _ h => h.2.2.2) rfl rfl (mp18.2.1.al hq19) ?_
  have mp19 := mp18.s (J' := (zI J18 (M + 19))) (30, 19, 10, 4) (by decide) rfl (fun x hx => zI_n hx) (fun y => by
    rw [rM_0 (by decide) (by decide) (by decide)]
    exact zI_s)
  change MP T I G M 19 (zI J18 (M + 19)) (setR (alG H18 (M + 19) 10 4) M 30 (some (M + 19))) at mp19
  generalize (zI J18 (M + 19)) = J19 at mp19 ⊢
  generalize setR (alG H18 (M + 19) 10 4) M 30 (some (M + 19)) = H19 at mp19 ⊢
  clear mp18 hq19
  refine Ex_aload_n dX9_init_251 rfl ?_
  refine Ex_bipush (v := nI 96) dX9_init_252 (by rfl) ?_
  have hq20 : n0 T + gS H19 = M + 20 := by have := mp19.1; omega
  refine Ex_wid (b := (6 + 1, 219 + 96)) ?_ (by decide) (by decide)
  refine Ex_newI dX9_init_254 ac_int rfl (by decide) hq20 ?_
  refine Ex_putrF dX9_init_256 fX9_70 rfl rfl (fun _ _ _ _ _ _ _ _ _ _ _ h => h.2.2.2) rfl rfl (mp19.2.1.al hq20) ?_
  have mp20 := mp19.s (J' := (zI J19 (M + 20))) (31, 20, 10, 96) (by decide) rfl (fun x hx => zI_n hx) (fun y => by
    rw [rM_0 (by decide) (by decide) (by decide)]
    exact zI_s)
  change MP T I G M 20 (zI J19 (M + 20)) (setR (alG H19 (M + 20) 10 96) M 31 (some (M + 20))) at mp20
  generalize (zI J19 (M + 20)) = J20 at mp20 ⊢
  generalize setR (alG H19 (M + 20) 10 96) M 31 (some (M + 20)) = H20 at mp20 ⊢
  clear mp19 hq20
  exact t9i_20 d hq mp20
set_option maxRecDepth 100000 in
set_option maxHeartbeats 4000000 in
theorem t9i_12 {T : TC} {I : MI} {G : MG} (d : Nat) {M : Nat} (hq : n0 T + gS G = M + 1) {J12 : MI} {H12 : MG} (mp12 : MP T I G M 12 J12 H12) : Ex T RX9 cX9_init 1 (d + 1) (fm T "<init>" none (fun v I' G' => v = none ∧ (MSh T G' M ∧ Ct M 26 I G I' G' ∧ (∀ i, i ≤ 26 → i ≠ 1 → ∀ y, I' (M + i) y = rM i y) ∧ I' (M + 1) = upd (upd (upd (fun _ => 0) 0 (nI 1)) 3 (nI 20)) 4 (nI 10)))) 182 [some (.ref M)] [] J12 H12 (14, 625) := by
  refine Ex_aload_n dX9_init_182 rfl ?_
  refine Ex_bipush (v := nI 96) dX9_init_183 (by rfl) ?_
  have hq13 : n0 T + gS H12 = M + 13 := by have := mp12.1; omega
  refine Ex_wid (b := (13 + 1, 529 + 96)) ?_ (by decide) (by decide)
  refine Ex_newI dX9_init_185 ac_int rfl (by decide) hq13 ?_
  refine Ex_putrF dX9_init_187 fX9_48 rfl rfl (fun _ _ _ _ _ _ _ _ _ _ _ h => h.2.2.2) rfl rfl (mp12.2.1.al hq13) ?_
  have mp13 := mp12.s (J' := (zI J12 (M + 13))) (21, 13, 10, 96) (by decide) rfl (fun x hx => zI_n hx) (fun y => by
    rw [rM_0 (by decide) (by decide) (by decide)]
    exact zI_s)
  change MP T I G M 13 (zI J12 (M + 13)) (setR (alG H12 (M + 13) 10 96) M 21 (some (M + 13))) at mp13
  generalize (zI J12 (M + 13)) = J13 at mp13 ⊢
  generalize setR (alG H12 (M + 13) 10 96) M 21 (some (M + 13)) = H13 at mp13 ⊢
  clear mp12 hq13
  refine Ex_aload_n dX9_init_190 rfl ?_
  refine Ex_bipush (v := nI 96) dX9_init_191 (by rfl) ?_
  have hq14 : n0 T + gS H13 = M + 14 := by have := mp13.1; omega
  refine Ex_wid (b := (12 + 1, 433 + 96)) ?_ (by decide) (by decide)
  refine Ex_newI dX9_init_193 ac_int rfl (by decide) hq14 ?_
  refine Ex_putrF dX9_init_195 fX9_51 rfl rfl (fun _ _ _ _ _ _ _ _ _ _ _ h => h.2.2.2) rfl rfl (mp13.2.1.al hq14) ?_
  have mp14 := mp13.s (J' := (zI J13 (M + 14))) (24, 14, 10, 96) (by decide) rfl (fun x hx => zI_n hx) (fun y => by
    rw [rM_0 (by decide) (by decide) (by decide)]
    exact zI_s)
  change MP T I G M 14 (zI J13 (M + 14)) (setR (alG H13 (M + 14) 10 96) M 24 (some (M + 14))) at mp14
  generalize (zI J13 (M + 14)) = J14 at mp14 ⊢
  generalize setR (alG H13 (M + 14) 10 96) M 24 (some (M + 14)) = H14 at mp14 ⊢
  clear mp13 hq14
  refine Ex_aload_n dX9_init_198 rfl ?_
  refine Ex_bipush (v := nI 10) dX9_init_199 (by rfl) ?_
  have hq15 : n0 T + gS H14 = M + 15 := by have := mp14.1; omega
  refine Ex_wid (b := (11 + 1, 423 + 10)) ?_ (by decide) (by decide)
  refine Ex_newZ dX9_init_201 ac_boolean rfl (by decide) hq15 ?_
  refine Ex_putrF dX9_init_203 fX9_54 rfl rfl (fun _ _ _ _ _ _ _ _ _ _ _ h => h.2.2.2) rfl rfl (mp14.2.1.al hq15) ?_
  have mp15 := mp14.s (J' := (zI J14 (M + 15))) (26, 15, 11, 10) (by decide) rfl (fun x hx => zI_n hx) (fun y => by
    rw [rM_0 (by decide) (by decide) (by decide)]
    exact zI_s)
  change MP T I G M 15 (zI J14 (M + 15)) (setR (alG H14 (M + 15) 11 10) M 26 (some (M + 15))) at mp15
  generalize (zI J14 (M + 15)) = J15 at mp15 ⊢
  generalize setR (alG H14 (M + 15) 11 10) M 26 (some (M + 15)) = H15 at mp15 ⊢
  clear mp14 hq15
  refine Ex_aload_n dX9_init_206 rfl ?_
  refine Ex_bipush (v := nI 96) dX9_init_207 (by rfl) ?_
  have hq16 : n0 T + gS H15 = M + 16 := by have := mp15.1; omega
  refine Ex_wid (b := (10 + 1, 327 + 96)) ?_ (by decide) (by decide)
  refine Ex_newI dX9_init_209 ac_int rfl (by decide) hq16 ?_
  refine Ex_putrF dX9_init_211 fX9_58 rfl rfl (fun _ _ _ _ _ _ _ _ _ _ _ h => h.2.2.2) rfl rfl (mp15.2.1.al hq16) ?_
  have mp16 := mp15.s (J' := (zI J15 (M + 16))) (27, 16, 10, 96) (by decide) rfl (fun x hx => zI_n hx) (fun y => by
    rw [rM_0 (by decide) (by decide) (by decide)]
    exact zI_s)
  change MP T I G M 16 (zI J15 (M + 16)) (setR (alG H15 (M + 16) 10 96) M 27 (some (M + 16))) at mp16
  generalize (zI J15 (M + 16)) = J16 at mp16 ⊢
  generalize setR (alG H15 (M + 16) 10 96) M 27 (some (M + 16)) = H16 at mp16 ⊢
  clear mp15 hq16
  exact t9i_16 d hq mp16
set_option maxRecDepth 100000 in
set_option maxHeartbeats 4000000 in
theorem t9i_10 {T : TC} {I : MI} {G : MG} (d : Nat) {M : Nat} (hq : n0 T + gS G = M + 1) {J10 : MI} {H10 : MG} (mp10 : MP T I G M 10 J10 H10) : Ex T RX9 cX9_init 1 (d + 1) (fm T "<init>" none (fun v I' G' => v = none ∧ (MSh T G' M ∧ Ct M 26 I G I' G' ∧ (∀ i, i ≤ 26 → i ≠ 1 → ∀ y, I' (M + i) y = rM i y) ∧ I' (M + 1) = upd (upd (upd (fun _ => 0) 0 (nI 1)) 3 (nI 20)) 4 (nI 10)))) 89 [some (.ref M)] [] J10 H10 (16, 640) := by
  refine Ex_aload_n dX9_init_89 rfl ?_
  refine Ex_bipush (v := nI 11) dX9_init_90 (by rfl) ?_
  have hq11 : n0 T + gS H10 = M + 11 := by have := mp10.1; omega
  refine Ex_wid (b := (15 + 1, 629 + 11)) ?_ (by decide) (by decide)
  refine Ex_newC dX9_init_92 ac_char rfl (by decide) hq11 ?_
  refine Ex_dup dX9_init_94 rfl ?_
  refine Ex_iconst (v := nI 0) dX9_init_95 (by rfl) ?_
  refine Ex_bipush (v := nI 108) dX9_init_96 (by rfl) ?_
  refine Ex_cast dX9_init_98 (Is.new hq11) rfl (show _ < (if M + 11 = M + 11 then 11 else _) by rw [if_pos rfl]; decide) (show (if M + 11 = M + 11 then 11 else _) < 2 ^ 31 by rw [if_pos rfl]; decide) rfl ?_
  refine Ex_dup dX9_init_99 rfl ?_
  refine Ex_iconst (v := nI 1) dX9_init_100 (by rfl) ?_
  refine Ex_bipush (v := nI 105) dX9_init_101 (by rfl) ?_
  refine Ex_cast dX9_init_103 (Is.new hq11) rfl (show _ < (if M + 11 = M + 11 then 11 else _) by rw [if_pos rfl]; decide) (show (if M + 11 = M + 11 then 11 else _) < 2 ^ 31 by rw [if_pos rfl]; decide) rfl ?_
  refine Ex_dup dX9_init_104 rfl ?_
  refine Ex_iconst (v := nI 2) dX9_init_105 (by rfl) ?_
  refine Ex_bipush (v := nI 102) dX9_init_106 (by rfl) ?_
  refine Ex_cast dX9_init_108 (Is.new hq11) rfl (show _ < (if M + 11 = M + 11 then 11 else _) by rw [if_pos rfl]; decide) (show (if M + 11 = M + 11 then 11 else _) < 2 ^ 31 by rw [if_pos rfl]; decide) rfl ?_
  refine Ex_dup dX9_init_109 rfl ?_
  refine Ex_iconst (v := nI 3) dX9_init_110 (by rfl) ?_
  refine Ex_bipush (v := nI 116) dX9_init_111 (by rfl) ?_
  refine Ex_cast dX9_init_113 (Is.new hq11) rfl (show _ < (if M + 11 = M + 11 then 11 else _) by rw [if_pos rfl]; decide) (show (if M + 11 = M + 11 then 11 else _) < 2 ^ 31 by rw [if_pos rfl]; decide) rfl ?_
  refine Ex_dup dX9_init_114 rfl ?_
  refine Ex_iconst (v := nI 4) dX9_init_115 (by rfl) ?_
  refine Ex_bipush (v := nI 102) dX9_init_116 (by rfl) ?_
  refine Ex_cast dX9_init_118 (Is.new hq11) rfl (show _ < (if M + 11 = M + 11 then 11 else _) by rw [if_pos rfl]; decide) (show (if M + 11 = M + 11 then 11 else _) < 2 ^ 31 by rw [if_pos rfl]; decide) rfl ?_
  refine Ex_dup dX9_init_119 rfl ?_
  refine Ex_iconst (v := nI 5) dX9_init_120 (by rfl) ?_
  refine Ex_bipush (v := nI 101) dX9_init_121 (by rfl) ?_
  refine Ex_cast dX9_init_123 (Is.new hq11) rfl (show _ < (if M + 11 = M + 11 then 11 else _) by rw [if_pos rfl]; decide) (show (if M + 11 = M + 11 then 11 else _) < 2 ^ 31 by rw [if_pos rfl]; decide) rfl ?_
  refine Ex_dup dX9_init_124 rfl ?_
  refine Ex_bipush (v := nI 6) dX9_init_125 (by rfl) ?_
  refine Ex_bipush (v := nI 101) dX9_init_127 (by rfl) ?_
  refine Ex_cast dX9_init_129 (Is.new hq11) rfl (show _ < (if M + 11 = M + 11 then 11 else _) by rw [if_pos rfl]; decide) (show (if M + 11 = M + 11 then 11 else _) < 2 ^ 31 by rw [if_pos rfl]; decide) rfl ?_
  refine Ex_dup dX9_init_130 rfl ?_
  refine Ex_bipush (v := nI 7) dX9_init_131 (by rfl) ?_
  refine Ex_bipush (v := nI 102) dX9_init_133 (by rfl) ?_
  refine Ex_cast dX9_init_135 (Is.new hq11) rfl (show _ < (if M + 11 = M + 11 then 11 else _) by rw [if_pos rfl]; decide) (show (if M + 11 = M + 11 then 11 else _) < 2 ^ 31 by rw [if_pos rfl]; decide) rfl ?_
  refine Ex_dup dX9_init_136 rfl ?_
  refine Ex_bipush (v := nI 8) dX9_init_137 (by rfl) ?_
  refine Ex_bipush (v := nI 105) dX9_init_139 (by rfl) ?_
  refine Ex_cast dX9_init_141 (Is.new hq11) rfl (show _ < (if M + 11 = M + 11 then 11 else _) by rw [if_pos rfl]; decide) (show (if M + 11 = M + 11 then 11 else _) < 2 ^ 31 by rw [if_pos rfl]; decide) rfl ?_
  refine Ex_dup dX9_init_142 rfl ?_
  refine Ex_bipush (v := nI 9) dX9_init_143 (by rfl) ?_
  refine Ex_bipush (v := nI 110) dX9_init_145 (by rfl) ?_
  refine Ex_cast dX9_init_147 (Is.new hq11) rfl (show _ < (if M + 11 = M + 11 then 11 else _) by rw [if_pos rfl]; decide) (show (if M + 11 = M + 11 then 11 else _) < 2 ^ 31 by rw [if_pos rfl]; decide) rfl ?_
  refine Ex_dup dX9_init_148 rfl ?_
  refine Ex_bipush (v := nI 10) dX9_init_149 (by rfl) ?_
  refine Ex_bipush (v := nI 101) dX9_init_151 (by rfl) ?_
  refine Ex_cast dX9_init_153 (Is.new hq11) rfl (show _ < (if M + 11 = M + 11 then 11 else _) by rw [if_pos rfl]; decide) (show (if M + 11 = M + 11 then 11 else _) < 2 ^ 31 by rw [if_pos rfl]; decide) rfl ?_
  refine Ex_putrF dX9_init_154 fX9_41 rfl rfl (fun _ _ _ _ _ _ _ _ _ _ _ h => h.2.2.2) rfl rfl (mp10.2.1.al hq11) ?_
  have mp11 := mp10.s (J' := (setI (setI (setI (setI (setI (setI (setI (setI (setI (setI (setI (zI J10 (M + 11)) (M + 11) 0 (nI 108)) (M + 11) 1 (nI 105)) (M + 11) 2 (nI 102)) (M + 11) 3 (nI 116)) (M + 11) 4 (nI 102)) (M + 11) 5 (nI 101)) (M + 11) 6 (nI 101)) (M + 11) 7 (nI 102)) (M + 11) 8 (nI 105)) (M + 11) 9 (nI 110)) (M + 11) 10 (nI 101))) (19, 11, 12, 11) (by decide) rfl (fun x hx => by rw [setI_a hx, setI_a hx, setI_a hx, setI_a hx, setI_a hx, setI_a hx, setI_a hx, setI_a hx, setI_a hx, setI_a hx, setI_a hx, zI_n hx]) (fun y => by
    show (setI (setI (setI (setI (setI (setI (setI (setI (setI (setI (setI (zI J10 (M + 11)) (M + 11) 0 (nI 108)) (M + 11) 1 (nI 105)) (M + 11) 2 (nI 102)) (M + 11) 3 (nI 116)) (M + 11) 4 (nI 102)) (M + 11) 5 (nI 101)) (M + 11) 6 (nI 101)) (M + 11) 7 (nI 102)) (M + 11) 8 (nI 105)) (M + 11) 9 (nI 110)) (M + 11) 10 (nI 101)) (M + 11) y = kr y
    simp [setI, zI, kr])
  change MP T I G M 11 (setI (setI (setI (setI (setI (setI (setI (setI (setI (setI (setI (zI J10 (M + 11)) (M + 11) 0 (nI 108)) (M + 11) 1 (nI 105)) (M + 11) 2 (nI 102)) (M + 11) 3 (nI 116)) (M + 11) 4 (nI 102)) (M + 11) 5 (nI 101)) (M + 11) 6 (nI 101)) (M + 11) 7 (nI 102)) (M + 11) 8 (nI 105)) (M + 11) 9 (nI 110)) (M + 11) 10 (nI 101)) (setR (alG H10 (M + 11) 12 11) M 19 (some (M + 11))) at mp11
  generalize (setI (setI (setI (setI (setI (setI (setI (setI (setI (setI (setI (zI J10 (M + 11)) (M + 11) 0 (nI 108)) (M + 11) 1 (nI 105)) (M + 11) 2 (nI 102)) (M + 11) 3 (nI 116)) (M + 11) 4 (nI 102)) (M + 11) 5 (nI 101)) (M + 11) 6 (nI 101)) (M + 11) 7 (nI 102)) (M + 11) 8 (nI 105)) (M + 11) 9 (nI 110)) (M + 11) 10 (nI 101)) = J11 at mp11 ⊢
  generalize setR (alG H10 (M + 11) 12 11) M 19 (some (M + 11)) = H11 at mp11 ⊢
  clear mp10 hq11
  refine Ex_aload_n dX9_init_157 rfl ?_
  refine Ex_iconst (v := nI 4) dX9_init_158 (by rfl) ?_
  have hq12 : n0 T + gS H11 = M + 12 := by have := mp11.1; omega
  refine Ex_wid (b := (14 + 1, 625 + 4)) ?_ (by decide) (by decide)
  refine Ex_newI dX9_init_159 ac_int rfl (by decide) hq12 ?_
  refine Ex_dup dX9_init_161 rfl ?_
  refine Ex_iconst (v := nI 0) dX9_init_162 (by rfl) ?_
  refine Ex_iconst (v := nI 0) dX9_init_163 (by rfl) ?_
  refine Ex_iast dX9_init_164 (Is.new hq12) rfl (show _ < (if M + 12 = M + 12 then 4 else _) by rw [if_pos rfl]; decide) (show (if M + 12 = M + 12 then 4 else _) < 2 ^ 31 by rw [if_pos rfl]; decide) ?_
  refine Ex_dup dX9_init_165 rfl ?_
  refine Ex_iconst (v := nI 1) dX9_init_166 (by rfl) ?_
  refine Ex_iconst (v := nI 4) dX9_init_167 (by rfl) ?_
  refine Ex_iast dX9_init_168 (Is.new hq12) rfl (show _ < (if M + 12 = M + 12 then 4 else _) by rw [if_pos rfl]; decide) (show (if M + 12 = M + 12 then 4 else _) < 2 ^ 31 by rw [if_pos rfl]; decide) ?_
  refine Ex_dup dX9_init_169 rfl ?_
  refine Ex_iconst (v := nI 2) dX9_init_170 (by rfl) ?_
  refine Ex_bipush (v := nI 7) dX9_init_171 (by rfl) ?_
  refine Ex_iast dX9_init_173 (Is.new hq12) rfl (show _ < (if M + 12 = M + 12 then 4 else _) by rw [if_pos rfl]; decide) (show (if M + 12 = M + 12 then 4 else _) < 2 ^ 31 by rw [if_pos rfl]; decide) ?_
  refine Ex_dup dX9_init_174 rfl ?_
  refine Ex_iconst (v := nI 3) dX9_init_175 (by rfl) ?_
  refine Ex_bipush (v := nI 11) dX9_init_176 (by rfl) ?_
  refine Ex_iast dX9_init_178 (Is.new hq12) rfl (show _ < (if M + 12 = M + 12 then 4 else _) by rw [if_pos rfl]; decide) (show (if M + 12 = M + 12 then 4 else _) < 2 ^ 31 by rw [if_pos rfl]; decide) ?_
  refine Ex_putrF dX9_init_179 fX9_45 rfl rfl (fun _ _ _ _ _ _ _ _ _ _ _ h => h.2.2.2) rfl rfl (mp11.2.1.al hq12) ?_
  have mp12 := mp11.s (J' := (setI (setI (setI (setI (zI J11 (M + 12)) (M + 12) 0 (nI 0)) (M + 12) 1 (nI 4)) (M + 12) 2 (nI 7)) (M + 12) 3 (nI 11))) (20, 12, 10, 4) (by decide) rfl (fun x hx => by rw [setI_a hx, setI_a hx, setI_a hx, setI_a hx, zI_n hx]) (fun y => by
    show (setI (setI (setI (setI (zI J11 (M + 12)) (M + 12) 0 (nI 0)) (M + 12) 1 (nI 4)) (M + 12) 2 (nI 7)) (M + 12) 3 (nI 11)) (M + 12) y = kt y
    simp [setI, zI, kt])
  change MP T I G M 12 (setI (setI (setI (setI (zI J11 (M + 12)) (M + 12) 0 (nI 0)) (M + 12) 1 (nI 4)) (M + 12) 2 (nI 7)) (M + 12) 3 (nI 11)) (setR (alG H11 (M + 12) 10 4) M 20 (some (M + 12))) at mp12
  generalize (setI (setI (setI (setI (zI J11 (M + 12)) (M + 12) 0 (nI 0)) (M + 12) 1 (nI 4)) (M + 12) 2 (nI 7)) (M + 12) 3 (nI 11)) = J12 at mp12 ⊢
  generalize setR (alG H11 (M + 12) 10 4) M 20 (some (M + 12)) = H12 at mp12 ⊢
  clear mp11 hq12
  exact t9i_12 d hq mp12
set_option maxRecDepth 100000 in
set_option maxHeartbeats 4000000 in
theorem t9i_7 {T : TC} {I : MI} {G : MG} (d : Nat) {M : Nat} (hq : n0 T + gS G = M + 1) {J7 : MI} {H7 : MG} (mp7 : MP T I G M 7 J7 H7) : Ex T RX9 cX9_init 1 (d + 1) (fm T "<init>" none (fun v I' G' => v = none ∧ (MSh T G' M ∧ Ct M 26 I G I' G' ∧ (∀ i, i ≤ 26 → i ≠ 1 → ∀ y, I' (M + i) y = rM i y) ∧ I' (M + 1) = upd (upd (upd (fun _ => 0) 0 (nI 1)) 3 (nI 20)) 4 (nI 10)))) 64 [some (.ref M)] [] J7 H7 (19, 888) := by
  refine Ex_aload_n dX9_init_64 rfl ?_
  refine Ex_sipush (v := nI 144) dX9_init_65 (by rfl) ?_
  have hq8 : n0 T + gS H7 = M + 8 := by have := mp7.1; omega
  refine Ex_wid (b := (18 + 1, 744 + 144)) ?_ (by decide) (by decide)
  refine Ex_newI dX9_init_68 ac_int rfl (by decide) hq8 ?_
  refine Ex_putrF dX9_init_70 fX9_31 rfl rfl (fun _ _ _ _ _ _ _ _ _ _ _ h => h.2.2.2) rfl rfl (mp7.2.1.al hq8) ?_
  have mp8 := mp7.s (J' := (zI J7 (M + 8))) (9, 8, 10, 144) (by decide) rfl (fun x hx => zI_n hx) (fun y => by
    rw [rM_0 (by decide) (by decide) (by decide)]
    exact zI_s)
  change MP T I G M 8 (zI J7 (M + 8)) (setR (alG H7 (M + 8) 10 144) M 9 (some (M + 8))) at mp8
  generalize (zI J7 (M + 8)) = J8 at mp8 ⊢
  generalize setR (alG H7 (M + 8) 10 144) M 9 (some (M + 8)) = H8 at mp8 ⊢
  clear mp7 hq8
  refine Ex_aload_n dX9_init_73 rfl ?_
  refine Ex_bipush (v := nI 8) dX9_init_74 (by rfl) ?_
  have hq9 : n0 T + gS H8 = M + 9 := by have := mp8.1; omega
  refine Ex_wid (b := (17 + 1, 736 + 8)) ?_ (by decide) (by decide)
  refine Ex_newJ dX9_init_76 ac_long rfl (by decide) hq9 ?_
  refine Ex_putrF dX9_init_78 fX9_34 rfl rfl (fun _ _ _ _ _ _ _ _ _ _ _ h => h.2.2.2) rfl rfl (mp8.2.1.al hq9) ?_
  have mp9 := mp8.s (J' := (zI J8 (M + 9))) (10, 9, 13, 8) (by decide) rfl (fun x hx => zI_n hx) (fun y => by
    rw [rM_0 (by decide) (by decide) (by decide)]
    exact zI_s)
  change MP T I G M 9 (zI J8 (M + 9)) (setR (alG H8 (M + 9) 13 8) M 10 (some (M + 9))) at mp9
  generalize (zI J8 (M + 9)) = J9 at mp9 ⊢
  generalize setR (alG H8 (M + 9) 13 8) M 10 (some (M + 9)) = H9 at mp9 ⊢
  clear mp8 hq9
  refine Ex_aload_n dX9_init_81 rfl ?_
  refine Ex_bipush (v := nI 96) dX9_init_82 (by rfl) ?_
  have hq10 : n0 T + gS H9 = M + 10 := by have := mp9.1; omega
  refine Ex_wid (b := (16 + 1, 640 + 96)) ?_ (by decide) (by decide)
  refine Ex_newI dX9_init_84 ac_int rfl (by decide) hq10 ?_
  refine Ex_putrF dX9_init_86 fX9_38 rfl rfl (fun _ _ _ _ _ _ _ _ _ _ _ h => h.2.2.2) rfl rfl (mp9.2.1.al hq10) ?_
  have mp10 := mp9.s (J' := (zI J9 (M + 10))) (11, 10, 10, 96) (by decide) rfl (fun x hx => zI_n hx) (fun y => by
    rw [rM_0 (by decide) (by decide) (by decide)]
    exact zI_s)
  change MP T I G M 10 (zI J9 (M + 10)) (setR (alG H9 (M + 10) 10 96) M 11 (some (M + 10))) at mp10
  generalize (zI J9 (M + 10)) = J10 at mp10 ⊢
  generalize setR (alG H9 (M + 10) 10 96) M 11 (some (M + 10)) = H10 at mp10 ⊢
  clear mp9 hq10
  exact t9i_10 d hq mp10
set_option maxRecDepth 100000 in
set_option maxHeartbeats 4000000 in
theorem cX9_ini {T : TC} {I : MI} {G : MG} (d : Nat) {M : Nat} (ha : Is T G M 9) (hq : n0 T + gS G = M + 1) (h0 : ∀ y, I M y = 0) : Ok T mX9_init (d + 1) (26) (5666) [.ref M] I G (fun v I' G' => v = none ∧ (MSh T G' M ∧ Ct M 26 I G I' G' ∧ (∀ i, i ≤ 26 → i ≠ 1 → ∀ y, I' (M + i) y = rM i y) ∧ I' (M + 1) = upd (upd (upd (fun _ => 0) 0 (nI 1)) 3 (nI 20)) 4 (nI 10))) := by
  refine Ok_of (own := RX9) (by decide) rfl (cat1 rfl) (Nat.le_of_ble_eq_true rfl) ?_
  refine Ex_wid (b := (26, 5666)) ?_ (by omega) (by omega)
  show Ex T RX9 cX9_init 1 (d + 1) _ 0 [some (.ref M)] [] I G (26, 5666)
  refine Ex_aload_n dX9_init_0 rfl ?_
  refine Ex_objInit dX9_init_1 sX9_1 oi_1 oi_2 (Nat.le_of_ble_eq_true rfl) ?_
  have mp0 : MP T I G M 0 I G := ⟨by omega, ha, fun t ht hk => absurd hk ((show ∀ t ∈ mtab, ¬ t.2.1 ≤ 0 by decide) t ht), fun x _ => ⟨rfl, rfl, rfl, rfl⟩, fun i hi y => by
    have e : i = 0 := by omega
    subst e
    rw [rM_0 (by decide) (by decide) (by decide)]
    exact h0 y⟩
  refine Ex_aload_n dX9_init_4 rfl ?_
  refine Ex_sipush (v := nI 1516) dX9_init_5 (by rfl) ?_
  have hq1 : n0 T + gS G = M + 1 := by have := mp0.1; omega
  refine Ex_wid (b := (25 + 1, 4150 + 1516)) ?_ (by decide) (by decide)
  refine Ex_newI dX9_init_8 ac_int rfl (by decide) hq1 ?_
  refine Ex_putrF dX9_init_10 fX9_9 rfl rfl (fun _ _ _ _ _ _ _ _ _ _ _ h => h.2.2.2) rfl rfl (mp0.2.1.al hq1) ?_
  have mp1 := mp0.s (J' := (zI I (M + 1))) (0, 1, 10, 1516) (by decide) rfl (fun x hx => zI_n hx) (fun y => by
    rw [rM_0 (by decide) (by decide) (by decide)]
    exact zI_s)
  change MP T I G M 1 (zI I (M + 1)) (setR (alG G (M + 1) 10 1516) M 0 (some (M + 1))) at mp1
  generalize (zI I (M + 1)) = J1 at mp1 ⊢
  generalize setR (alG G (M + 1) 10 1516) M 0 (some (M + 1)) = H1 at mp1 ⊢
  clear mp0 hq1
  refine Ex_aload_n dX9_init_13 rfl ?_
  refine Ex_sipush (v := nI 1516) dX9_init_14 (by rfl) ?_
  have hq2 : n0 T + gS H1 = M + 2 := by have := mp1.1; omega
  refine Ex_wid (b := (24 + 1, 2634 + 1516)) ?_ (by decide) (by decide)
  refine Ex_newI dX9_init_17 ac_int rfl (by decide) hq2 ?_
  refine Ex_putrF dX9_init_19 fX9_13 rfl rfl (fun _ _ _ _ _ _ _ _ _ _ _ h => h.2.2.2) rfl rfl (mp1.2.1.al hq2) ?_
  have mp2 := mp1.s (J' := (zI J1 (M + 2))) (1, 2, 10, 1516) (by decide) rfl (fun x hx => zI_n hx) (fun y => by
    rw [rM_0 (by decide) (by decide) (by decide)]
    exact zI_s)
  change MP T I G M 2 (zI J1 (M + 2)) (setR (alG H1 (M + 2) 10 1516) M 1 (some (M + 2))) at mp2
  generalize (zI J1 (M + 2)) = J2 at mp2 ⊢
  generalize setR (alG H1 (M + 2) 10 1516) M 1 (some (M + 2)) = H2 at mp2 ⊢
  clear mp1 hq2
  refine Ex_aload_n dX9_init_22 rfl ?_
  refine Ex_sipush (v := nI 1516) dX9_init_23 (by rfl) ?_
  have hq3 : n0 T + gS H2 = M + 3 := by have := mp2.1; omega
  refine Ex_wid (b := (23 + 1, 1118 + 1516)) ?_ (by decide) (by decide)
  refine Ex_newI dX9_init_26 ac_int rfl (by decide) hq3 ?_
  refine Ex_putrF dX9_init_28 fX9_16 rfl rfl (fun _ _ _ _ _ _ _ _ _ _ _ h => h.2.2.2) rfl rfl (mp2.2.1.al hq3) ?_
  have mp3 := mp2.s (J' := (zI J2 (M + 3))) (2, 3, 10, 1516) (by decide) rfl (fun x hx => zI_n hx) (fun y => by
    rw [rM_0 (by decide) (by decide) (by decide)]
    exact zI_s)
  change MP T I G M 3 (zI J2 (M + 3)) (setR (alG H2 (M + 3) 10 1516) M 2 (some (M + 3))) at mp3
  generalize (zI J2 (M + 3)) = J3 at mp3 ⊢
  generalize setR (alG H2 (M + 3) 10 1516) M 2 (some (M + 3)) = H3 at mp3 ⊢
  clear mp2 hq3
  refine Ex_aload_n dX9_init_31 rfl ?_
  refine Ex_bipush (v := nI 24) dX9_init_32 (by rfl) ?_
  have hq4 : n0 T + gS H3 = M + 4 := by have := mp3.1; omega
  refine Ex_wid (b := (22 + 1, 1094 + 24)) ?_ (by decide) (by decide)
  refine Ex_newI dX9_init_34 ac_int rfl (by decide) hq4 ?_
  refine Ex_putrF dX9_init_36 fX9_19 rfl rfl (fun _ _ _ _ _ _ _ _ _ _ _ h => h.2.2.2) rfl rfl (mp3.2.1.al hq4) ?_
  have mp4 := mp3.s (J' := (zI J3 (M + 4))) (4, 4, 10, 24) (by decide) rfl (fun x hx => zI_n hx) (fun y => by
    rw [rM_0 (by decide) (by decide) (by decide)]
    exact zI_s)
  change MP T I G M 4 (zI J3 (M + 4)) (setR (alG H3 (M + 4) 10 24) M 4 (some (M + 4))) at mp4
  generalize (zI J3 (M + 4)) = J4 at mp4 ⊢
  generalize setR (alG H3 (M + 4) 10 24) M 4 (some (M + 4)) = H4 at mp4 ⊢
  clear mp3 hq4
  refine Ex_aload_n dX9_init_39 rfl ?_
  refine Ex_sipush (v := nI 169) dX9_init_40 (by rfl) ?_
  have hq5 : n0 T + gS H4 = M + 5 := by have := mp4.1; omega
  refine Ex_wid (b := (21 + 1, 925 + 169)) ?_ (by decide) (by decide)
  refine Ex_newI dX9_init_43 ac_int rfl (by decide) hq5 ?_
  refine Ex_putrF dX9_init_45 fX9_22 rfl rfl (fun _ _ _ _ _ _ _ _ _ _ _ h => h.2.2.2) rfl rfl (mp4.2.1.al hq5) ?_
  have mp5 := mp4.s (J' := (zI J4 (M + 5))) (6, 5, 10, 169) (by decide) rfl (fun x hx => zI_n hx) (fun y => by
    rw [rM_0 (by decide) (by decide) (by decide)]
    exact zI_s)
  change MP T I G M 5 (zI J4 (M + 5)) (setR (alG H4 (M + 5) 10 169) M 6 (some (M + 5))) at mp5
  generalize (zI J4 (M + 5)) = J5 at mp5 ⊢
  generalize setR (alG H4 (M + 5) 10 169) M 6 (some (M + 5)) = H5 at mp5 ⊢
  clear mp4 hq5
  refine Ex_aload_n dX9_init_48 rfl ?_
  refine Ex_bipush (v := nI 12) dX9_init_49 (by rfl) ?_
  have hq6 : n0 T + gS H5 = M + 6 := by have := mp5.1; omega
  refine Ex_wid (b := (20 + 1, 913 + 12)) ?_ (by decide) (by decide)
  refine Ex_newI dX9_init_51 ac_int rfl (by decide) hq6 ?_
  refine Ex_putrF dX9_init_53 fX9_25 rfl rfl (fun _ _ _ _ _ _ _ _ _ _ _ h => h.2.2.2) rfl rfl (mp5.2.1.al hq6) ?_
  have mp6 := mp5.s (J' := (zI J5 (M + 6))) (7, 6, 10, 12) (by decide) rfl (fun x hx => zI_n hx) (fun y => by
    rw [rM_0 (by decide) (by decide) (by decide)]
    exact zI_s)
  change MP T I G M 6 (zI J5 (M + 6)) (setR (alG H5 (M + 6) 10 12) M 7 (some (M + 6))) at mp6
  generalize (zI J5 (M + 6)) = J6 at mp6 ⊢
  generalize setR (alG H5 (M + 6) 10 12) M 7 (some (M + 6)) = H6 at mp6 ⊢
  clear mp5 hq6
  refine Ex_aload_n dX9_init_56 rfl ?_
  refine Ex_bipush (v := nI 25) dX9_init_57 (by rfl) ?_
  have hq7 : n0 T + gS H6 = M + 7 := by have := mp6.1; omega
  refine Ex_wid (b := (19 + 1, 888 + 25)) ?_ (by decide) (by decide)
  refine Ex_newI dX9_init_59 ac_int rfl (by decide) hq7 ?_
  refine Ex_putrF dX9_init_61 fX9_28 rfl rfl (fun _ _ _ _ _ _ _ _ _ _ _ h => h.2.2.2) rfl rfl (mp6.2.1.al hq7) ?_
  have mp7 := mp6.s (J' := (zI J6 (M + 7))) (8, 7, 10, 25) (by decide) rfl (fun x hx => zI_n hx) (fun y => by
    rw [rM_0 (by decide) (by decide) (by decide)]
    exact zI_s)
  change MP T I G M 7 (zI J6 (M + 7)) (setR (alG H6 (M + 7) 10 25) M 8 (some (M + 7))) at mp7
  generalize (zI J6 (M + 7)) = J7 at mp7 ⊢
  generalize setR (alG H6 (M + 7) 10 25) M 8 (some (M + 7)) = H7 at mp7 ⊢
  clear mp6 hq7
  exact t9i_7 d hq mp7
