/-! the launch's constants -/
theorem g_cs : Cond.fieldLink RJ0 38 "java/lang/String" "COMPACT_STRINGS" "Z" ∈ gtbl := gt 648 (by decide +kernel) rfl
theorem g_sf : Cond.fieldLink RJ0 1053 "jdk/internal/util/Preconditions" "SIOOBE_FORMATTER" "Ljava/util/function/BiFunction;" ∈ gtbl := gt 664 (by decide +kernel) rfl
theorem g_va : Cond.fieldLink RJ0 9 "java/lang/String" "value" "[B" ∈ gtbl := gt 1425 (by decide +kernel) rfl
theorem g_co : Cond.fieldLink RJ0 15 "java/lang/String" "coder" "B" ∈ gtbl := gt 1426 (by decide +kernel) rfl
def lS (i : Nat) : Nat := lenS.getD i 0
def cS (i k : Nat) : Int32 := (bytS.getD i []).getD k 0
section M9
variable {T : TC} {own : String} {cc : ByteArray} {nL d pc pc' ix n mc ms b1 b2 i : Nat} {F : FinT} {ls : List (Option Value)} {st : List Value} {I : MI} {G : MG} {b : Nat × Nat} {Y : YD} {As rest stk : List Value} {Q : Option Value → MI → MG → Prop} {x1 x2 : Value} {r : Int32}
theorem Ex_above (hd : Dc cc pc 3 pc' (.getstatic 58)) (k : Ex T RX5 cc nL d F pc' ls (.ref (tA T) :: st) I G b) : Ex T RX5 cc nL d F pc ls st I G b := by
  intro p l e R s m args below meth c Z H locs cells slots rl B S hF M h1 h2 L
  obtain ⟨hd, rfl⟩ := hd
  obtain ⟨⟨⟨cf, kf, fi, f, a, cell, g1, g2, g3, g4, g5, g6, g7, g8⟩, -, -, hl⟩, -⟩ := S.2.2.2.2.2
  exact va_WgetsN B.1 B.2.1 B.2.2.2.1 (va_Nw.use rfl hl) g1 g2 g3 g4 (by rw [M.2.2.2.1 a (Array.getElem?_eq_some_iff.mp g5).1 g8]; exact g5) (fun e => by rw [e] at g6; cases g6) g7 rfl hd (k p l e R s m args below meth c Z H locs cells slots rl B S hF M h1 h2 L)
theorem Ex_abld {x : Int32} {j : Nat} (hd : Dc cc pc 1 pc' .iaload) (hx : x = nI j) (hj : j < 6) (k : Ex T own cc nL d F pc' ls (.int (abF j) :: st) I G b) : Ex T own cc nL d F pc ls (.int x :: .ref (tA T) :: st) I G b := by
  intro p l e R s m args below meth c Z H locs cells slots rl B S hF M h1 h2 L
  obtain ⟨hd, rfl⟩ := hd
  obtain ⟨⟨-, hX, hlt, -⟩, -⟩ := S.2.2.2.2.2
  obtain ⟨v1, v2⟩ := nI_vp hx hj (by decide)
  exact va_sld B.1 B.2.1 hX hlt (fun q => absurd q (Nat.not_le.mpr hlt)) M.2.2 v1 hd (by rw [v2]; exact k p l e R s m args below meth c Z H locs cells slots rl B S hF M h1 h2 L)
theorem Ex_cstr (hd : Dc cc pc 3 pc' (.getstatic 38)) (k : Ex T RJ0 cc nL d F pc' ls (.int 1 :: st) I G b) : Ex T RJ0 cc nL d F pc ls st I G b := by
  intro p l e R s m args below meth c Z H locs cells slots rl B S hF M h1 h2 L
  obtain ⟨hd, rfl⟩ := hd
  obtain ⟨-, ⟨cf, kf, fi, f, a, cell, g1, g2, g3, g4, g5, g6, g7, g8⟩, -⟩ := S.2.2.2.2.2
  exact W.gets B.1 B.2.1 B.2.2.2.1 (B.2.2.2.2.1 _ g_cs) g1 g2 g3 g4 (by rw [M.2.2.2.1 a (Array.getElem?_eq_some_iff.mp g5).1 g8]; exact g5) (fun e => by rw [e] at g6; cases g6) g7 rfl hd (k p l e R s m args below meth c Z H locs cells slots rl B S hF M h1 h2 L)
theorem Ex_sioob (hd : Dc cc pc 3 pc' (.getstatic 1053)) (kn : Ex T RJ0 cc nL d F pc' ls (.null :: st) I G b) (kr : ∀ t, Ex T RJ0 cc nL d F pc' ls (.ref t :: st) I G b) : Ex T RJ0 cc nL d F pc ls st I G b := by
  intro p l e R s m args below meth c Z H locs cells slots rl B S hF M h1 h2 L
  obtain ⟨hd, rfl⟩ := hd
  obtain ⟨-, -, hq, -⟩ := S.2.2.2.2.2
  rcases hq with ⟨cf, kf, fi, f, a, cell, g1, g2, g3, g4, g5, g6, g7, g8⟩ | ⟨t, cf, kf, fi, f, a, cell, g1, g2, g3, g4, g5, g6, g7, g8⟩
  · exact W.gets B.1 B.2.1 B.2.2.2.1 (B.2.2.2.2.1 _ g_sf) g1 g2 g3 g4 (by rw [M.2.2.2.1 a (Array.getElem?_eq_some_iff.mp g5).1 g8]; exact g5) (fun e => by rw [e] at g6; cases g6) g7 rfl hd (kn p l e R s m args below meth c Z H locs cells slots rl B S hF M h1 h2 L)
  · exact W.gets B.1 B.2.1 B.2.2.2.1 (B.2.2.2.2.1 _ g_sf) g1 g2 g3 g4 (by rw [M.2.2.2.1 a (Array.getElem?_eq_some_iff.mp g5).1 g8]; exact g5) (fun e => by rw [e] at g6; cases g6) g7 rfl hd (kr t p l e R s m args below meth c Z H locs cells slots rl B S hF M h1 h2 L)
theorem Ex_sval (hi : i < 6) (hd : Dc cc pc 3 pc' (.getfield 9)) (k : Ex T RJ0 cc nL d F pc' ls (.ref (tV T i) :: st) I G b) : Ex T RJ0 cc nL d F pc ls (.ref (tK T i) :: st) I G b := by
  intro p l e R s m args below meth c Z H locs cells slots rl B S hF M h1 h2 L
  obtain ⟨hd, rfl⟩ := hd
  obtain ⟨-, -, -, -, hs⟩ := S.2.2.2.2.2
  obtain ⟨cf, kf, fi, f, cell, g1, g2, g3, g4, g5, g6⟩ := (hs.1 i hi).2.2.1.kept M.2.2.2.1
  exact W.getf B.1 B.2.1 B.2.2.2.1 (B.2.2.2.2.1 _ g_va) g1 g2 g3 g4 g5 rfl rfl hd (k p l e R s m args below meth c Z H locs cells slots rl B S hF M h1 h2 L)
theorem Ex_scod (hi : i < 6) (hd : Dc cc pc 3 pc' (.getfield 15)) (k : Ex T RJ0 cc nL d F pc' ls (.int 0 :: st) I G b) : Ex T RJ0 cc nL d F pc ls (.ref (tK T i) :: st) I G b := by
  intro p l e R s m args below meth c Z H locs cells slots rl B S hF M h1 h2 L
  obtain ⟨hd, rfl⟩ := hd
  obtain ⟨-, -, -, -, hs⟩ := S.2.2.2.2.2
  obtain ⟨cf, kf, fi, f, cell, g1, g2, g3, g4, g5, g6⟩ := (hs.1 i hi).2.1.kept M.2.2.2.1
  exact W.getf B.1 B.2.1 B.2.2.2.1 (B.2.2.2.2.1 _ g_co) g1 g2 g3 g4 g5 rfl rfl hd (k p l e R s m args below meth c Z H locs cells slots rl B S hF M h1 h2 L)
theorem Ex_salen (hi : i < 6) (hd : Dc cc pc 1 pc' .arraylength) (k : Ex T own cc nL d F pc' ls (.int (nI (lS i)) :: st) I G b) : Ex T own cc nL d F pc ls (.ref (tV T i) :: st) I G b := by
  intro p l e R s m args below meth c Z H locs cells slots rl B S hF M h1 h2 L
  obtain ⟨hd, rfl⟩ := hd
  obtain ⟨-, -, -, -, hs⟩ := S.2.2.2.2.2
  obtain ⟨cell, g1, g2, g3, g4, g5, g6, g7⟩ := (hs.1 i hi).2.2.2.kept M.2.2.2.1
  exact W.alen (n := nI (lS i)) B.1 B.2.1 g1 g2 g5 rfl rfl hd (k p l e R s m args below meth c Z H locs cells slots rl B S hF M h1 h2 L)
theorem Ex_sbald {x : Int32} {j : Nat} (hi : i < 6) (hd : Dc cc pc 1 pc' .baload) (hx : x = nI j) (hj : j < lS i) (k : Ex T own cc nL d F pc' ls (.int (cS i j) :: st) I G b) : Ex T own cc nL d F pc ls (.int x :: .ref (tV T i) :: st) I G b := by
  intro p l e R s m args below meth c Z H locs cells slots rl B S hF M h1 h2 L
  obtain ⟨hd, rfl⟩ := hd
  obtain ⟨-, -, -, -, hs⟩ := S.2.2.2.2.2
  obtain ⟨cell, g1, g2, g3, g4, g5, g6, g7⟩ := (hs.1 i hi).2.2.2.kept M.2.2.2.1
  have h31 : lS i < 2 ^ 31 := by
    rcases (show i = 0 ∨ i = 1 ∨ i = 2 ∨ i = 3 ∨ i = 4 ∨ i = 5 by omega) with rfl | rfl | rfl | rfl | rfl | rfl <;> decide
  obtain ⟨v1, v2⟩ := nI_vp hx hj h31
  have hg4 : lS i ≤ cell.slots.size := g4
  exact W.bald (v := .int (cS i j)) B.1 B.2.1 g1 g2 g3 (fun q => q.elim (fun q => v1 (Or.inl q)) (fun q => by rw [v2] at q; omega)) (by rw [v2]; exact g6 j hj) rfl rfl hd (k p l e R s m args below meth c Z H locs cells slots rl B S hF M h1 h2 L)
theorem Ex_ldcS (hi : i < 6) (hix : ixS i = ix) (hd : Dc cc pc 2 pc' (.ldc ix)) (k : Ex T RX0 cc nL d F pc' ls (.ref (tK T i) :: st) I G b) : Ex T RX0 cc nL d F pc ls st I G b := by
  intro p l e R s m args below meth c Z H locs cells slots rl B S hF M h1 h2 L
  obtain ⟨hd, rfl⟩ := hd
  obtain ⟨-, -, -, hr, -⟩ := S.2.2.2.2.2
  subst hix
  exact va_ldcS B.1 B.2.1 B.2.2.2.1 (hr i hi) hd (k p l e R s m args below meth c Z H locs cells slots rl B S hF M h1 h2 L)
theorem preT {s : State} {H : Heap} {locs : List Loc} (S : St T s) (M : Mem T I G H locs) (hi : i < 6) : PreV s H "java/lang/String" (tK T i) (va_Pc (.ref (tK T i) :: As) (fun U => St T U ∧ Mem T I G U.heap [])) As := by
  obtain ⟨-, -, -, -, hs⟩ := S.2.2.2.2.2
  obtain ⟨cell, g1, g2, g3, g4⟩ := (hs.1 i hi).1.kept M.2.2.2.1
  exact ⟨blindP, ⟨cell, g1, g2, g3⟩, fun _ hU hW => ⟨rfl, St.warm hW S, by rw [hU]; exact M.locs (fun q h => (List.not_mem_nil h).elim)⟩⟩
theorem Ex_callT (hd : Dc cc pc 3 pc' (.invokevirtual ix)) (hs : VS own ix n Y) (hC : Y.1.cls = "java/lang/String") (hi : i < 6) (hn : As.length = n) (hst : stk = As.reverse ++ .ref (tK T i) :: rest) (hcat : (rest.map fun v => v.category).sum ≤ 8) (hOk : Ok T Y d mc ms (.ref (tK T i) :: As) I G Q) (k : ∀ v I' G', Q v I' G' → Ex T own cc nL (d + 1) F pc' ls (v.toList ++ rest) I' G' (b1, b2)) : Ex T own cc nL (d + 1) F pc ls stk I G (b1 + mc, b2 + ms) := by
  intro p l e R s m args below meth c Z H locs cells slots rl B S hF M h1 h2 L
  obtain ⟨hd, rfl⟩ := hd
  obtain ⟨⟨hcode, hini, hY, hY4⟩, hl, hin, hse⟩ := hs
  have h1' : cells + (b1 + mc) ≤ R.cells := h1
  have h2' : slots + (b2 + ms) ≤ R.slots := h2
  have hfr := B.2.2.2.2.2.1
  have hlo := B.2.2.2.2.2.2
  have hts := B.2.2.2.2.1
  have hR : (rmOf d mc ms).frames + 1 ≤ R.frames ∧ 8 + (Y.2.2.1 + 11) + (rmOf d mc ms).locals ≤ R.locals := ⟨hfr, by show 8 + (Y.2.2.1 + 11) + 64 * d ≤ R.locals; omega⟩
  subst hst
  have cb := callB_of (own := own) (index := ix) n hts (gGood hcode) rfl (rm := rmOf d mc ms) rfl rfl (hts _ hini) (hts _ hl) hY hR
  have cw : CallW R s args own "java/lang/String" ix Y.1 Y.2.1 Y.2.2.1 Y.2.2.2 _ _ mc ms n := ⟨cb, hts _ hin, by rw [← hC]; exact hts _ hse⟩
  refine run_W (T := T) (Q := Q) (as := ((.ref (tK T i) :: As) : List Value).toArray) (va_runV (As := As) (rest := rest) ⟨B.1, B.2.1, B.2.2.1, B.2.2.2.1, hts⟩ (hOk l) cw (preT S M hi) rfl hn L.1 rfl (lv_room hcat) hd ⟨by omega, by omega⟩) M.2.2.2.2 ?_
  intro v I' G' H' locs' hq hM
  exact k v I' G' hq p l e R s m args below meth c Z H' locs' (cells + mc) (slots + ms) rl B S hF hM (by show cells + mc + b1 ≤ R.cells; omega) (by show slots + ms + b2 ≤ R.slots; omega) L
theorem Ex_T0p (hi : i < 6) (hC : Y.1.cls = "java/lang/String") (hd : Dc cc pc 3 pc' (.invokevirtual ix)) (hs : VS own ix 0 Y) (hcat : (st.map fun v => v.category).sum ≤ 8) (hOk : OkP T Y d [.ref (tK T i)] I G r) (k : Ex T own cc nL (d + 1) F pc' ls (.int r :: st) I G b) : Ex T own cc nL (d + 1) F pc ls (.ref (tK T i) :: st) I G b := by
  have K : Ex T own cc nL (d + 1) F pc ls (.ref (tK T i) :: st) I G (b.1 + 0, b.2 + 0) := Ex_callT (As := []) (mc := 0) (ms := 0) (b1 := b.1) (b2 := b.2) hd hs hC hi rfl rfl hcat hOk (fun _ I' G' h => h.elim fun r hh => by obtain ⟨rfl, rfl, rfl, rfl⟩ := hh; exact k)
  exact K
theorem Ex_T1p (hi : i < 6) (hC : Y.1.cls = "java/lang/String") (hd : Dc cc pc 3 pc' (.invokevirtual ix)) (hs : VS own ix 1 Y) (hcat : (st.map fun v => v.category).sum ≤ 8) (hOk : OkP T Y d [.ref (tK T i), x1] I G r) (k : Ex T own cc nL (d + 1) F pc' ls (.int r :: st) I G b) : Ex T own cc nL (d + 1) F pc ls (x1 :: .ref (tK T i) :: st) I G b := by
  have K : Ex T own cc nL (d + 1) F pc ls (x1 :: .ref (tK T i) :: st) I G (b.1 + 0, b.2 + 0) := Ex_callT (As := [x1]) (mc := 0) (ms := 0) (b1 := b.1) (b2 := b.2) hd hs hC hi rfl rfl hcat hOk (fun _ I' G' h => h.elim fun r hh => by obtain ⟨rfl, rfl, rfl, rfl⟩ := hh; exact k)
  exact K
theorem Ex_T2p (hi : i < 6) (hC : Y.1.cls = "java/lang/String") (hd : Dc cc pc 3 pc' (.invokevirtual ix)) (hs : VS own ix 2 Y) (hcat : (st.map fun v => v.category).sum ≤ 8) (hOk : OkP T Y d [.ref (tK T i), x1, x2] I G r) (k : Ex T own cc nL (d + 1) F pc' ls (.int r :: st) I G b) : Ex T own cc nL (d + 1) F pc ls (x2 :: x1 :: .ref (tK T i) :: st) I G b := by
  have K : Ex T own cc nL (d + 1) F pc ls (x2 :: x1 :: .ref (tK T i) :: st) I G (b.1 + 0, b.2 + 0) := Ex_callT (As := [x1, x2]) (mc := 0) (ms := 0) (b1 := b.1) (b2 := b.2) hd hs hC hi rfl rfl hcat hOk (fun _ I' G' h => h.elim fun r hh => by obtain ⟨rfl, rfl, rfl, rfl⟩ := hh; exact k)
  exact K
end M9
theorem i6 {i : Nat} (h : i < 6) : i = 0 ∨ i = 1 ∨ i = 2 ∨ i = 3 ∨ i = 4 ∨ i = 5 := by omega
theorem lS_4 {i : Nat} (h : i < 6) : 0 < lS i ∧ lS i ≤ 4 := by
  rcases i6 h with rfl | rfl | rfl | rfl | rfl | rfl <;> decide
theorem cS_a : ∀ i, i < 6 → ∀ k, k < lS i → ((cS i k &&& nI 255).toUInt32 % 65536).toInt32 = cS i k ∧ (cS i k).toNatClampNeg < 128 ∧ cS i k = nI (cS i k).toNatClampNeg := by decide +kernel
theorem cS_c {i k : Nat} (h : i < 6) (hk : k < lS i) : ((cS i k &&& nI 255).toUInt32 % 65536).toInt32 = cS i k ∧ narrow .char (.int (cS i k)) = .int (cS i k) ∧ ∃ n, n < 128 ∧ cS i k = nI n := by
  obtain ⟨h1, h2, h3⟩ := cS_a i h k hk
  exact ⟨h1, by rw [h3]; exact (pk_charN (by omega)).1, _, h2, h3⟩
set_option maxRecDepth 100000 in
set_option maxHeartbeats 4000000 in
theorem cS_coder {T : TC} {I : MI} {G : MG} (d : Nat) {i : Nat} (hi : i < 6)  : OkP T mJ0_coder_7d493 (d) [.ref (tK T i)] I G 0 := by
  refine Ok_of (own := RJ0) (by decide) rfl (cat1 rfl) (Nat.le_of_ble_eq_true rfl) ?_
  show Ex T RJ0 cJ0_coder_7d493 1 (d) _ 0 [some (.ref (tK T i))] [] I G (0, 0)
  refine Ex_cstr dJ0_coder_7d493_0 ?_
  refine Ex_if_eq (tgt := 13) dJ0_coder_7d493_3 (by decide) (fun h3 => ?_) (fun h3 => ?_)
  · exact absurd h3 (by decide)
  · refine Ex_aload_n dJ0_coder_7d493_6 rfl ?_
    refine Ex_scod hi dJ0_coder_7d493_7 ?_
    refine Ex_goto (tgt := 14) dJ0_coder_7d493_10 (by decide) ?_
    refine Ex_iret dJ0_coder_7d493_14 (by first | rfl | exact narrow_bI) ?_
    exact ⟨_, rfl, rfl, rfl, rfl⟩
set_option maxRecDepth 100000 in
set_option maxHeartbeats 4000000 in
theorem cS_isLatin1 {T : TC} {I : MI} {G : MG} (d : Nat) {i : Nat} (hi : i < 6)  : OkP T mJ0_isLatin1_aae02 (d) [.ref (tK T i)] I G (nI 1) := by
  refine Ok_of (own := RJ0) (by decide) rfl (cat1 rfl) (Nat.le_of_ble_eq_true rfl) ?_
  show Ex T RJ0 cJ0_isLatin1_aae02 1 (d) _ 0 [some (.ref (tK T i))] [] I G (0, 0)
  refine Ex_cstr dJ0_isLatin1_aae02_0 ?_
  refine Ex_if_eq (tgt := 17) dJ0_isLatin1_aae02_3 (by decide) (fun h3 => ?_) (fun h3 => ?_)
  · exact absurd h3 (by decide)
  · refine Ex_aload_n dJ0_isLatin1_aae02_6 rfl ?_
    refine Ex_scod hi dJ0_isLatin1_aae02_7 ?_
    refine Ex_if_ne (tgt := 17) dJ0_isLatin1_aae02_10 (by decide) (fun h10 => ?_) (fun h10 => ?_)
    · exact absurd rfl h10
    · refine Ex_iconst (v := nI 1) dJ0_isLatin1_aae02_13 (by rfl) ?_
      refine Ex_goto (tgt := 18) dJ0_isLatin1_aae02_14 (by decide) ?_
      refine Ex_iret dJ0_isLatin1_aae02_18 (by first | rfl | exact narrow_bI) ?_
      exact ⟨_, rfl, rfl, rfl, rfl⟩
set_option maxRecDepth 100000 in
set_option maxHeartbeats 4000000 in
theorem cS_length {T : TC} {I : MI} {G : MG} (d : Nat) {i : Nat} (hi : i < 6)  : OkP T mJ0_length_8abf5 (d + 1) [.ref (tK T i)] I G (nI (lS i)) := by
  refine Ok_of (own := RJ0) (by decide) rfl (cat1 rfl) (Nat.le_of_ble_eq_true rfl) ?_
  show Ex T RJ0 cJ0_length_8abf5 1 (d + 1) _ 0 [some (.ref (tK T i))] [] I G (0, 0)
  refine Ex_aload_n dJ0_length_8abf5_0 rfl ?_
  refine Ex_sval hi dJ0_length_8abf5_1 ?_
  refine Ex_salen hi dJ0_length_8abf5_4 ?_
  refine Ex_aload_n dJ0_length_8abf5_5 rfl ?_
  refine Ex_T0p hi rfl dJ0_length_8abf5_6 sJ0_335 (Nat.le_of_ble_eq_true rfl) (cS_coder d hi) ?_
  refine Ex_ishr dJ0_length_8abf5_9 ?_
  refine Ex_top (show _ = nI (lS i) by rcases i6 hi with rfl | rfl | rfl | rfl | rfl | rfl <;> decide) ?_
  refine Ex_iret dJ0_length_8abf5_10 (by first | rfl | exact narrow_bI) ?_
  exact ⟨_, rfl, rfl, rfl, rfl⟩
set_option maxRecDepth 100000 in
set_option maxHeartbeats 4000000 in
theorem cJ3_checkN {T : TC} {I : MI} {G : MG} (d : Nat) {k m : Nat} (hk : k < m) (hm : m < 2 ^ 31)  : OkP T mJ3_checkIndex_8e157 (d) [.int (nI k), .int (nI m), .null] I G (nI k) := by
  refine Ok_of (own := RJ3) (by decide) rfl (cat1 rfl) (Nat.le_of_ble_eq_true rfl) ?_
  show Ex T RJ3 cJ3_checkIndex_8e157 3 (d) _ 0 [some (.int (nI k)), some (.int (nI m)), some (.null)] [] I G (0, 0)
  refine Ex_iload_n dJ3_checkIndex_8e157_0 rfl ?_
  refine Ex_if_lt (tgt := 9) dJ3_checkIndex_8e157_1 (by decide) (fun h1 => ?_) (fun h1 => ?_)
  · exact absurd h1 (nI_pos (by omega))
  · refine Ex_iload_n dJ3_checkIndex_8e157_4 rfl ?_
    refine Ex_iload_n dJ3_checkIndex_8e157_5 rfl ?_
    refine Ex_icmp_ltN (by omega) (by omega) (tgt := 16) dJ3_checkIndex_8e157_6 (by decide) (fun h6 => ?_) (fun h6 => ?_)
    · refine Ex_iload_n dJ3_checkIndex_8e157_16 rfl ?_
      refine Ex_iret dJ3_checkIndex_8e157_17 (by first | rfl | exact narrow_bI) ?_
      exact ⟨_, rfl, rfl, rfl, rfl⟩
    · omega
set_option maxRecDepth 100000 in
set_option maxHeartbeats 4000000 in
theorem cJ3_checkR {T : TC} {I : MI} {G : MG} (d : Nat) {k m : Nat} (hk : k < m) (hm : m < 2 ^ 31) (t : Nat)  : OkP T mJ3_checkIndex_8e157 (d) [.int (nI k), .int (nI m), .ref t] I G (nI k) := by
  refine Ok_of (own := RJ3) (by decide) rfl (cat1 rfl) (Nat.le_of_ble_eq_true rfl) ?_
  show Ex T RJ3 cJ3_checkIndex_8e157 3 (d) _ 0 [some (.int (nI k)), some (.int (nI m)), some (.ref t)] [] I G (0, 0)
  refine Ex_iload_n dJ3_checkIndex_8e157_0 rfl ?_
  refine Ex_if_lt (tgt := 9) dJ3_checkIndex_8e157_1 (by decide) (fun h1 => ?_) (fun h1 => ?_)
  · exact absurd h1 (nI_pos (by omega))
  · refine Ex_iload_n dJ3_checkIndex_8e157_4 rfl ?_
    refine Ex_iload_n dJ3_checkIndex_8e157_5 rfl ?_
    refine Ex_icmp_ltN (by omega) (by omega) (tgt := 16) dJ3_checkIndex_8e157_6 (by decide) (fun h6 => ?_) (fun h6 => ?_)
    · refine Ex_iload_n dJ3_checkIndex_8e157_16 rfl ?_
      refine Ex_iret dJ3_checkIndex_8e157_17 (by first | rfl | exact narrow_bI) ?_
      exact ⟨_, rfl, rfl, rfl, rfl⟩
    · omega
set_option maxRecDepth 100000 in
set_option maxHeartbeats 4000000 in
theorem cS_check {T : TC} {I : MI} {G : MG} (d : Nat) {k m : Nat} (hk : k < m) (hm : m < 2 ^ 31)  : OkV T mJ0_checkIndex_df160 (d + 1) [.int (nI k), .int (nI m)] I G (fun I' G' => I' = I ∧ G' = G) := by
  refine Ok_of (own := RJ0) (by decide) rfl (cat1 rfl) (Nat.le_of_ble_eq_true rfl) ?_
  show Ex T RJ0 cJ0_checkIndex_df160 2 (d + 1) _ 0 [some (.int (nI k)), some (.int (nI m))] [] I G (0, 0)
  refine Ex_iload_n dJ0_checkIndex_df160_0 rfl ?_
  refine Ex_iload_n dJ0_checkIndex_df160_1 rfl ?_
  refine Ex_sioob dJ0_checkIndex_df160_2 ?_ (fun t => ?_)
  · refine Ex_S3p dJ0_checkIndex_df160_5 sJ0_1059  (Nat.le_of_ble_eq_true rfl) (cJ3_checkN d hk hm) ?_
    refine Ex_pop dJ0_checkIndex_df160_8 rfl ?_
    refine Ex_vret dJ0_checkIndex_df160_9 ?_
    exact ⟨rfl, rfl, rfl⟩
  · refine Ex_S3p dJ0_checkIndex_df160_5 sJ0_1059  (Nat.le_of_ble_eq_true rfl) (cJ3_checkR d hk hm t) ?_
    refine Ex_pop dJ0_checkIndex_df160_8 rfl ?_
    refine Ex_vret dJ0_checkIndex_df160_9 ?_
    exact ⟨rfl, rfl, rfl⟩
set_option maxRecDepth 100000 in
set_option maxHeartbeats 4000000 in
theorem cJ1_charAt {T : TC} {I : MI} {G : MG} (d : Nat) {i : Nat} (hi : i < 6) (k : Nat) (hk : k < lS i)  : OkP T mJ1_charAt_3b067 (d + 2) [.ref (tV T i), .int (nI k)] I G (cS i k) := by
  refine Ok_of (own := RJ1) (by decide) rfl (cat1 rfl) (Nat.le_of_ble_eq_true rfl) ?_
  show Ex T RJ1 cJ1_charAt_3b067 2 (d + 2) _ 0 [some (.ref (tV T i)), some (.int (nI k))] [] I G (0, 0)
  refine Ex_iload_n dJ1_charAt_3b067_0 rfl ?_
  refine Ex_aload_n dJ1_charAt_3b067_1 rfl ?_
  refine Ex_salen hi dJ1_charAt_3b067_2 ?_
  refine Ex_S2v dJ1_charAt_3b067_3 sJ1_9  (Nat.le_of_ble_eq_true rfl) (cS_check d hk (by have := (lS_4 hi).2; omega)) ?_
  rintro _ _ ⟨rfl, rfl⟩
  refine Ex_aload_n dJ1_charAt_3b067_6 rfl ?_
  refine Ex_iload_n dJ1_charAt_3b067_7 rfl ?_
  refine Ex_sbald hi dJ1_charAt_3b067_8 rfl hk ?_
  refine Ex_sipush (v := nI 255) dJ1_charAt_3b067_9 (by rfl) ?_
  refine Ex_iand dJ1_charAt_3b067_12 ?_
  refine Ex_i2c dJ1_charAt_3b067_13 ?_
  refine Ex_top (cS_c hi hk).1 ?_
  refine Ex_iret dJ1_charAt_3b067_14 (cS_c hi hk).2.1 ?_
  exact ⟨_, rfl, rfl, rfl, rfl⟩
set_option maxRecDepth 100000 in
set_option maxHeartbeats 4000000 in
theorem cS_charAt {T : TC} {I : MI} {G : MG} (d : Nat) {i : Nat} (hi : i < 6) (k : Nat) (hk : k < lS i)  : OkP T mJ0_charAt_5068e (d + 3) [.ref (tK T i), .int (nI k)] I G (cS i k) := by
  refine Ok_of (own := RJ0) (by decide) rfl (cat1 rfl) (Nat.le_of_ble_eq_true rfl) ?_
  show Ex T RJ0 cJ0_charAt_5068e 2 (d + 3) _ 0 [some (.ref (tK T i)), some (.int (nI k))] [] I G (0, 0)
  refine Ex_aload_n dJ0_charAt_5068e_0 rfl ?_
  refine Ex_T0p hi rfl dJ0_charAt_5068e_1 sJ0_492 (Nat.le_of_ble_eq_true rfl) (cS_isLatin1 (d + 2) hi) ?_
  refine Ex_if_eq (tgt := 16) dJ0_charAt_5068e_4 (by decide) (fun h4 => ?_) (fun h4 => ?_)
  · exact absurd h4 (by decide)
  · refine Ex_aload_n dJ0_charAt_5068e_7 rfl ?_
    refine Ex_sval hi dJ0_charAt_5068e_8 ?_
    refine Ex_iload_n dJ0_charAt_5068e_11 rfl ?_
    refine Ex_S2p dJ0_charAt_5068e_12 sJ0_495  (Nat.le_of_ble_eq_true rfl) (cJ1_charAt d hi k hk) ?_
    refine Ex_iret dJ0_charAt_5068e_15 (cS_c hi hk).2.1 ?_
    exact ⟨_, rfl, rfl, rfl, rfl⟩
def ixN (i b : Nat) : Nat → Nat → Int32
  | 0, _ => (-1)
  | c + 1, k => if cS i k = nI b then nI k else ixN i b c (k + 1)
theorem i2b_eq {b n : Nat} (hb : b < 256) (hn : n < 128) : nI n = (nI b).toInt8.toInt32 ↔ nI n = nI b := by
  have key : ∀ b, b < 256 → (nI b).toInt8.toInt32.toInt = if b < 128 then (b : Int) else (b : Int) - 256 := by decide +kernel
  rw [i_eq, i_eq, key b hb, nI_toInt (by omega), nI_toInt (by omega)]
  split <;> omega
set_option maxRecDepth 100000 in
set_option maxHeartbeats 4000000 in
theorem lJ1_ixc {T : TC} {I : MI} {G : MG} {bb : Nat × Nat} (d : Nat) {i : Nat} (hi : i < 6) (bt : Nat) (hb : bt < 256) : ∀ c k, k + c = lS i → ixN i bt c k = ixN i bt (lS i) 0 → Ex T RJ1 cJ1_indexOfChar_4cfef 6 d (fm T "indexOfChar" (some .int) (fun v I' G' => ∃ r, v = some (.int r) ∧ r = ixN i bt (lS i) 0 ∧ I' = I ∧ G' = G)) 7 [some (.ref (tV T i)), some (.int (nI bt)), some (.int (nI 0)), some (.int (nI (lS i))), some (.int (nI bt).toInt8.toInt32), some (.int (nI k))] [] I G bb := by
  have h4 := (lS_4 hi).2
  intro c
  induction c with
  | zero =>
    intro k h0 hk
    have e0 : k = lS i := by omega
    refine Ex_iload dJ1_indexOfChar_4cfef_7 rfl ?_
    refine Ex_iload_n dJ1_indexOfChar_4cfef_9 rfl ?_
    refine Ex_icmp_geN (by omega) (by omega) (tgt := 31) dJ1_indexOfChar_4cfef_10 (by decide) (fun h10 => ?_) (fun h10 => ?_)
    · refine Ex_iconst (v := (-1)) dJ1_indexOfChar_4cfef_31 (by rfl) ?_
      refine Ex_iret dJ1_indexOfChar_4cfef_32 (by first | rfl | exact narrow_bI) ?_
      exact ⟨_, rfl, hk, rfl, rfl⟩
    · omega
  | succ c ih =>
    intro k h0 hk
    have hk2 : (if cS i k = nI bt then nI k else ixN i bt c (k + 1)) = ixN i bt (lS i) 0 := hk
    obtain ⟨n, hn, en⟩ := (cS_c hi (show k < lS i by omega)).2.2
    refine Ex_iload dJ1_indexOfChar_4cfef_7 rfl ?_
    refine Ex_iload_n dJ1_indexOfChar_4cfef_9 rfl ?_
    refine Ex_icmp_geN (by omega) (by omega) (tgt := 31) dJ1_indexOfChar_4cfef_10 (by decide) (fun h10 => ?_) (fun h10 => ?_)
    · omega
    · refine Ex_aload_n dJ1_indexOfChar_4cfef_13 rfl ?_
      refine Ex_iload dJ1_indexOfChar_4cfef_14 rfl ?_
      refine Ex_sbald hi dJ1_indexOfChar_4cfef_16 rfl (show k < lS i by omega) ?_
      refine Ex_iload dJ1_indexOfChar_4cfef_17 rfl ?_
      refine Ex_icmp_ne (tgt := 25) dJ1_indexOfChar_4cfef_19 (by decide) (fun h19 => ?_) (fun h19 => ?_)
      · first | refine Ex_iincN (m := 1) dJ1_indexOfChar_4cfef_25 rfl rfl (by decide) rfl ?_ | refine Ex_iinc dJ1_indexOfChar_4cfef_25 rfl rfl (by decide) rfl ?_
        simp only [List.set_cons_zero, List.set_cons_succ]
        refine Ex_goto (tgt := 7) dJ1_indexOfChar_4cfef_28 (by decide) ?_
        exact ih (k + 1) (by omega) (by rw [if_neg (fun q => h19 (by rw [en] at q ⊢; exact (i2b_eq hb hn).mpr q))] at hk2; exact hk2)
      · refine Ex_iload dJ1_indexOfChar_4cfef_22 rfl ?_
        refine Ex_iret dJ1_indexOfChar_4cfef_24 (by first | rfl | exact narrow_bI) ?_
        exact ⟨_, rfl, (by rw [if_pos (by rw [en] at h19 ⊢; exact (i2b_eq hb hn).mp h19)] at hk2; exact hk2), rfl, rfl⟩
set_option maxRecDepth 100000 in
set_option maxHeartbeats 4000000 in
theorem cJ1_ixc {T : TC} {I : MI} {G : MG} (d : Nat) {i : Nat} (hi : i < 6) (bt : Nat) (hb : bt < 256)  : OkP T mJ1_indexOfChar_4cfef (d) [.ref (tV T i), .int (nI bt), .int (nI 0), .int (nI (lS i))] I G (ixN i bt (lS i) 0) := by
  refine Ok_of (own := RJ1) (by decide) rfl (cat1 rfl) (Nat.le_of_ble_eq_true rfl) ?_
  show Ex T RJ1 cJ1_indexOfChar_4cfef 6 (d) _ 0 [some (.ref (tV T i)), some (.int (nI bt)), some (.int (nI 0)), some (.int (nI (lS i))), none, none] [] I G (0, 0)
  refine Ex_iload_n dJ1_indexOfChar_4cfef_0 rfl ?_
  refine Ex_i2b dJ1_indexOfChar_4cfef_1 ?_
  refine Ex_istore dJ1_indexOfChar_4cfef_2 (by decide) rfl ?_
  simp only [List.set_cons_zero, List.set_cons_succ]
  refine Ex_iload_n dJ1_indexOfChar_4cfef_4 rfl ?_
  refine Ex_istore dJ1_indexOfChar_4cfef_5 (by decide) rfl ?_
  simp only [List.set_cons_zero, List.set_cons_succ]
  exact lJ1_ixc d hi bt hb (lS i) 0 (by omega) rfl
set_option maxRecDepth 100000 in
set_option maxHeartbeats 4000000 in
theorem cJ1_enc {T : TC} {I : MI} {G : MG} (d : Nat) (bt : Nat) (hb : bt < 256)  : OkP T mJ1_canEncode_9a6ad (d) [.int (nI bt)] I G (nI 1) := by
  refine Ok_of (own := RJ1) (by decide) rfl (cat1 rfl) (Nat.le_of_ble_eq_true rfl) ?_
  show Ex T RJ1 cJ1_canEncode_9a6ad 1 (d) _ 0 [some (.int (nI bt))] [] I G (0, 0)
  refine Ex_iload_n dJ1_canEncode_9a6ad_0 rfl ?_
  refine Ex_if_lt (tgt := 15) dJ1_canEncode_9a6ad_1 (by decide) (fun h1 => ?_) (fun h1 => ?_)
  · exact absurd h1 (nI_pos (by omega))
  · refine Ex_iload_n dJ1_canEncode_9a6ad_4 rfl ?_
    refine Ex_sipush (v := nI 255) dJ1_canEncode_9a6ad_5 (by rfl) ?_
    refine Ex_icmp_gtN (by omega) (by omega) (tgt := 15) dJ1_canEncode_9a6ad_8 (by decide) (fun h8 => ?_) (fun h8 => ?_)
    · omega
    · refine Ex_iconst (v := nI 1) dJ1_canEncode_9a6ad_11 (by rfl) ?_
      refine Ex_goto (tgt := 16) dJ1_canEncode_9a6ad_12 (by decide) ?_
      refine Ex_iret dJ1_canEncode_9a6ad_16 (by first | rfl | exact narrow_bI) ?_
      exact ⟨_, rfl, rfl, rfl, rfl⟩
set_option maxRecDepth 100000 in
set_option maxHeartbeats 4000000 in
theorem cJ1_indexOf {T : TC} {I : MI} {G : MG} (d : Nat) {i : Nat} (hi : i < 6) (bt : Nat) (hb : bt < 256)  : OkP T mJ1_indexOf_4cfef (d + 1) [.ref (tV T i), .int (nI bt), .int (nI 0), .int (nI (lS i))] I G (ixN i bt (lS i) 0) := by
  refine Ok_of (own := RJ1) (by decide) rfl (cat1 rfl) (Nat.le_of_ble_eq_true rfl) ?_
  show Ex T RJ1 cJ1_indexOf_4cfef 4 (d + 1) _ 0 [some (.ref (tV T i)), some (.int (nI bt)), some (.int (nI 0)), some (.int (nI (lS i)))] [] I G (0, 0)
  have h4 := lS_4 hi
  refine Ex_iload_n dJ1_indexOf_4cfef_0 rfl ?_
  refine Ex_S1p dJ1_indexOf_4cfef_1 sJ1_88  (Nat.le_of_ble_eq_true rfl) (cJ1_enc d bt hb) ?_
  refine Ex_if_ne (tgt := 9) dJ1_indexOf_4cfef_4 (by decide) (fun h4' => ?_) (fun h4' => ?_)
  · refine Ex_iload_n dJ1_indexOf_4cfef_9 rfl ?_
    refine Ex_iconst (v := nI 0) dJ1_indexOf_4cfef_10 (by rfl) ?_
    refine Ex_max dJ1_indexOf_4cfef_11 sJ1_92 (Nat.le_of_ble_eq_true rfl) ?_
    refine Ex_top (show _ = nI 0 from rfl) ?_
    refine Ex_istore_n dJ1_indexOf_4cfef_14 (by decide) rfl ?_
    simp only [st_n0, st_n1, st_n2, st_n3, List.set_cons_zero, List.set_cons_succ]
    refine Ex_iload_n dJ1_indexOf_4cfef_15 rfl ?_
    refine Ex_aload_n dJ1_indexOf_4cfef_16 rfl ?_
    refine Ex_salen hi dJ1_indexOf_4cfef_17 ?_
    refine Ex_min dJ1_indexOf_4cfef_18 sJ1_38 (Nat.le_of_ble_eq_true rfl) ?_
    refine Ex_top (show _ = nI (lS i) by rw [if_neg (nI_nlt (Nat.le_refl _) (by omega))]) ?_
    refine Ex_istore_n dJ1_indexOf_4cfef_21 (by decide) rfl ?_
    simp only [st_n0, st_n1, st_n2, st_n3, List.set_cons_zero, List.set_cons_succ]
    refine Ex_iload_n dJ1_indexOf_4cfef_22 rfl ?_
    refine Ex_iload_n dJ1_indexOf_4cfef_23 rfl ?_
    refine Ex_icmp_ltN (by omega) (by omega) (tgt := 29) dJ1_indexOf_4cfef_24 (by decide) (fun h24 => ?_) (fun h24 => ?_)
    · refine Ex_aload_n dJ1_indexOf_4cfef_29 rfl ?_
      refine Ex_iload_n dJ1_indexOf_4cfef_30 rfl ?_
      refine Ex_iload_n dJ1_indexOf_4cfef_31 rfl ?_
      refine Ex_iload_n dJ1_indexOf_4cfef_32 rfl ?_
      refine Ex_S4p dJ1_indexOf_4cfef_33 sJ1_95  (Nat.le_of_ble_eq_true rfl) (cJ1_ixc d hi bt hb) ?_
      refine Ex_iret dJ1_indexOf_4cfef_36 (by first | rfl | exact narrow_bI) ?_
      exact ⟨_, rfl, rfl, rfl, rfl⟩
    · omega
  · exact absurd h4' (by decide)
set_option maxRecDepth 100000 in
set_option maxHeartbeats 4000000 in
theorem cS_indexOf2 {T : TC} {I : MI} {G : MG} (d : Nat) {i : Nat} (hi : i < 6) (bt : Nat) (hb : bt < 256)  : OkP T mJ0_indexOf_7cf53 (d + 2) [.ref (tK T i), .int (nI bt), .int (nI 0)] I G (ixN i bt (lS i) 0) := by
  refine Ok_of (own := RJ0) (by decide) rfl (cat1 rfl) (Nat.le_of_ble_eq_true rfl) ?_
  show Ex T RJ0 cJ0_indexOf_7cf53 3 (d + 2) _ 0 [some (.ref (tK T i)), some (.int (nI bt)), some (.int (nI 0))] [] I G (0, 0)
  refine Ex_aload_n dJ0_indexOf_7cf53_0 rfl ?_
  refine Ex_T0p hi rfl dJ0_indexOf_7cf53_1 sJ0_492 (Nat.le_of_ble_eq_true rfl) (cS_isLatin1 (d + 1) hi) ?_
  refine Ex_if_eq (tgt := 23) dJ0_indexOf_7cf53_4 (by decide) (fun h4 => ?_) (fun h4 => ?_)
  · exact absurd h4 (by decide)
  · refine Ex_aload_n dJ0_indexOf_7cf53_7 rfl ?_
    refine Ex_sval hi dJ0_indexOf_7cf53_8 ?_
    refine Ex_iload_n dJ0_indexOf_7cf53_11 rfl ?_
    refine Ex_iload_n dJ0_indexOf_7cf53_12 rfl ?_
    refine Ex_aload_n dJ0_indexOf_7cf53_13 rfl ?_
    refine Ex_T0p hi rfl dJ0_indexOf_7cf53_14 sJ0_505 (Nat.le_of_ble_eq_true rfl) (cS_length d hi) ?_
    refine Ex_S4p dJ0_indexOf_7cf53_17 sJ0_637  (Nat.le_of_ble_eq_true rfl) (cJ1_indexOf d hi bt hb) ?_
    refine Ex_goto (tgt := 36) dJ0_indexOf_7cf53_20 (by decide) ?_
    refine Ex_iret dJ0_indexOf_7cf53_36 (by first | rfl | exact narrow_bI) ?_
    exact ⟨_, rfl, rfl, rfl, rfl⟩
set_option maxRecDepth 100000 in
set_option maxHeartbeats 4000000 in
theorem cS_indexOf {T : TC} {I : MI} {G : MG} (d : Nat) {i : Nat} (hi : i < 6) (bt : Nat) (hb : bt < 256)  : OkP T mJ0_indexOf_0f7a4 (d + 3) [.ref (tK T i), .int (nI bt)] I G (ixN i bt (lS i) 0) := by
  refine Ok_of (own := RJ0) (by decide) rfl (cat1 rfl) (Nat.le_of_ble_eq_true rfl) ?_
  show Ex T RJ0 cJ0_indexOf_0f7a4 2 (d + 3) _ 0 [some (.ref (tK T i)), some (.int (nI bt))] [] I G (0, 0)
  refine Ex_aload_n dJ0_indexOf_0f7a4_0 rfl ?_
  refine Ex_iload_n dJ0_indexOf_0f7a4_1 rfl ?_
  refine Ex_iconst (v := nI 0) dJ0_indexOf_0f7a4_2 (by rfl) ?_
  refine Ex_T2p hi rfl dJ0_indexOf_0f7a4_3 sJ0_633 (Nat.le_of_ble_eq_true rfl) (cS_indexOf2 d hi bt hb) ?_
  refine Ex_iret dJ0_indexOf_0f7a4_6 (by first | rfl | exact narrow_bI) ?_
  exact ⟨_, rfl, rfl, rfl, rfl⟩
def abN (u : Nat) : Nat := if u = 3 then 1 else if u = 4 then 2 else 0
def ofF : Nat → Nat → Nat → Bool
  | 0, _, _ => false
  | c + 1, u, w => if u = w then true else if u = 0 then false else ofF c (abN u) w
theorem of_und : ∀ u, u < 6 → ∀ w, w < 6 → (ofF 6 u w = true ↔ undP (nI u) (nI w)) := by decide +kernel
theorem ab_s {u : Nat} (h : u < 6) (h0 : ¬ u = 0) : abF u = nI (abN u) ∧ (abN u) < 6 := by
  rcases (show u = 1 ∨ u = 2 ∨ u = 3 ∨ u = 4 ∨ u = 5 by omega) with rfl | rfl | rfl | rfl | rfl <;> decide
set_option maxRecDepth 100000 in
set_option maxHeartbeats 4000000 in
theorem l5_ofE {T : TC} {I : MI} {G : MG} {bb : Nat × Nat} (d : Nat) {a : Nat} (w k0 k : Nat) (hk : k ≤ 6) (hr : ofF 6 k0 w = false) : Ex T RX5 cX5_isOf 4 (d + 1) (fm T "isOf" (some .boolean) (fun v I' G' => ∃ r, v = some (.int r) ∧ r = bI (ofF 6 k0 w = true) ∧ I' = I ∧ G' = G)) 7 [some (.ref a), some (.int (nI w)), some (.int ((-1))), some (.int (nI k))] [] I G bb := by
  refine Ex_iload_n dX5_isOf_7 rfl ?_
  refine Ex_bipush (v := nI 6) dX5_isOf_8 (by rfl) ?_
  refine Ex_icmp_geN (by omega) (by omega) (tgt := 41) dX5_isOf_10 (by decide) (fun h10 => ?_) (fun h10 => ?_)
  · refine Ex_iconst (v := nI 0) dX5_isOf_41 (by rfl) ?_
    refine Ex_iret dX5_isOf_42 (by first | rfl | exact narrow_bI) ?_
    exact ⟨_, rfl, (bI_f (by rw [hr]; decide)).symm, rfl, rfl⟩
  · refine Ex_iload_n dX5_isOf_13 rfl ?_
    refine Ex_bipush (v := nI 6) dX5_isOf_14 (by rfl) ?_
    refine Ex_N2p dX5_isOf_16 sX5_53  (Nat.le_of_ble_eq_true rfl) (c8_isBelow d _ _) ?_
    refine Ex_if_eqB (tgt := 41) dX5_isOf_19 (by decide) (fun h19 => ?_) (fun h19 => ?_)
    · refine Ex_iconst (v := nI 0) dX5_isOf_41 (by rfl) ?_
      refine Ex_iret dX5_isOf_42 (by first | rfl | exact narrow_bI) ?_
      exact ⟨_, rfl, (bI_f (by rw [hr]; decide)).symm, rfl, rfl⟩
    · exact absurd h19.1 (by decide)
set_option maxRecDepth 100000 in
set_option maxHeartbeats 4000000 in
theorem l5_of {T : TC} {I : MI} {G : MG} {bb : Nat × Nat} (d : Nat) {a : Nat} (w k0 : Nat) (hw : w < 6) : ∀ c u k, k + c = 6 → u < 6 → ofF c u w = ofF 6 k0 w → Ex T RX5 cX5_isOf 4 (d + 1) (fm T "isOf" (some .boolean) (fun v I' G' => ∃ r, v = some (.int r) ∧ r = bI (ofF 6 k0 w = true) ∧ I' = I ∧ G' = G)) 7 [some (.ref a), some (.int (nI w)), some (.int (nI u)), some (.int (nI k))] [] I G bb := by
  intro c
  induction c with
  | zero =>
    intro u k h0 hu hr
    have e0 : k = 6 := by omega
    refine Ex_iload_n dX5_isOf_7 rfl ?_
    refine Ex_bipush (v := nI 6) dX5_isOf_8 (by rfl) ?_
    refine Ex_icmp_geN (by omega) (by omega) (tgt := 41) dX5_isOf_10 (by decide) (fun h10 => ?_) (fun h10 => ?_)
    · refine Ex_iconst (v := nI 0) dX5_isOf_41 (by rfl) ?_
      refine Ex_iret dX5_isOf_42 (by first | rfl | exact narrow_bI) ?_
      exact ⟨_, rfl, (bI_f (by rw [← hr]; unfold ofF; decide)).symm, rfl, rfl⟩
    · omega
  | succ c ih =>
    intro u k h0 hu hr
    have hr2 : (if u = w then true else if u = 0 then false else ofF c (abN u) w) = ofF 6 k0 w := hr
    refine Ex_iload_n dX5_isOf_7 rfl ?_
    refine Ex_bipush (v := nI 6) dX5_isOf_8 (by rfl) ?_
    refine Ex_icmp_geN (by omega) (by omega) (tgt := 41) dX5_isOf_10 (by decide) (fun h10 => ?_) (fun h10 => ?_)
    · omega
    · refine Ex_iload_n dX5_isOf_13 rfl ?_
      refine Ex_bipush (v := nI 6) dX5_isOf_14 (by rfl) ?_
      refine Ex_N2p dX5_isOf_16 sX5_53  (Nat.le_of_ble_eq_true rfl) (c8_isBelow d _ _) ?_
      refine Ex_if_eqB (tgt := 41) dX5_isOf_19 (by decide) (fun h19 => ?_) (fun h19 => ?_)
      · exact absurd ⟨nI_pos' (by omega), nI_lt hu (by omega)⟩ h19
      · refine Ex_iload_n dX5_isOf_22 rfl ?_
        refine Ex_iload_n dX5_isOf_23 rfl ?_
        refine Ex_icmp_neN (by omega) (by omega) (tgt := 29) dX5_isOf_24 (by decide) (fun h24 => ?_) (fun h24 => ?_)
        · refine Ex_above dX5_isOf_29 ?_
          refine Ex_iload_n dX5_isOf_32 rfl ?_
          refine Ex_abld dX5_isOf_33 rfl hu ?_
          refine Ex_istore_n dX5_isOf_34 (by decide) rfl ?_
          simp only [st_n0, st_n1, st_n2, st_n3, List.set_cons_zero, List.set_cons_succ]
          first | refine Ex_iincN (m := 1) dX5_isOf_35 rfl rfl (by decide) rfl ?_ | refine Ex_iinc dX5_isOf_35 rfl rfl (by decide) rfl ?_
          simp only [List.set_cons_zero, List.set_cons_succ]
          refine Ex_goto (tgt := 7) dX5_isOf_38 (by decide) ?_
          rw [if_neg h24] at hr2
          by_cases u0 : u = 0
          · rw [if_pos u0] at hr2
            rw [u0]
            exact l5_ofE d w k0 (k + 1) (by omega) hr2.symm
          · rw [if_neg u0] at hr2
            obtain ⟨e1, e2⟩ := ab_s hu u0
            rw [e1]
            exact ih _ (k + 1) (by omega) e2 hr2
        · refine Ex_iconst (v := nI 1) dX5_isOf_27 (by rfl) ?_
          refine Ex_iret dX5_isOf_28 (by first | rfl | exact narrow_bI) ?_
          exact ⟨_, rfl, (bI_t (by rw [if_pos h24] at hr2; exact hr2.symm)).symm, rfl, rfl⟩
set_option maxRecDepth 100000 in
set_option maxHeartbeats 4000000 in
theorem c5_isOf {T : TC} {I : MI} {G : MG} (d : Nat) {a : Nat} (hS : SfS T G a) (w k : Nat) (hw : w < 6) (hk : k < 6) (h0 : I a 0 = nI k) : OkP T mX5_isOf (d + 1) [.ref a, .int (nI w)] I G (bI (undP (nI k) (nI w))) := by
  refine Ok_of (own := RX5) (by decide) rfl (cat1 rfl) (Nat.le_of_ble_eq_true rfl) ?_
  show Ex T RX5 cX5_isOf 4 (d + 1) _ 0 [some (.ref a), some (.int (nI w)), none, none] [] I G (0, 0)
  refine Ex_aload_n dX5_isOf_0 rfl ?_
  refine Ex_geti dX5_isOf_1 fX5_15 hS.1 ?_
  refine Ex_top h0 ?_
  refine Ex_istore_n dX5_isOf_4 (by decide) rfl ?_
  simp only [st_n0, st_n1, st_n2, st_n3, List.set_cons_zero, List.set_cons_succ]
  refine Ex_iconst (v := nI 0) dX5_isOf_5 (by rfl) ?_
  refine Ex_istore_n dX5_isOf_6 (by decide) rfl ?_
  simp only [st_n0, st_n1, st_n2, st_n3, List.set_cons_zero, List.set_cons_succ]
  rw [bI_congr (of_und k hk w hw).symm]
  exact l5_of d w k hw 6 k 0 (by omega) hk rfl
set_option maxRecDepth 100000 in
set_option maxHeartbeats 4000000 in
theorem C8_as {T : TC} {I : MI} {G : MG} (d : Nat) {D N : Nat} {g : Nat → Int32} (hD : DS T G D N) (hH : Hl T I G (D + 2) (D + 1) N g) (s k : Int32)  : OkP T mX8_as (d + 2) [.ref D, .int s, .int k] I G (r_as g s k) := by
  refine Ok_of (own := RX8) (by decide) rfl (cat1 rfl) (Nat.le_of_ble_eq_true rfl) ?_
  show Ex T RX8 cX8_as 4 (d + 2) _ 0 [some (.ref D), some (.int s), some (.int k), none] [] I G (0, 0)
  have hS := hH.1
  have hn8 := hH.n8
  refine Ex_aload_n dX8_as_0 rfl ?_
  refine Ex_iload_n dX8_as_1 rfl ?_
  refine Ex_V1p dX8_as_2 sX8_81 (ds_o hD) (Nat.le_of_ble_eq_true rfl) (c8_isSurface (d) hD hH _) ?_
  refine Ex_if_eqB (tgt := 17) dX8_as_5 (by decide) (fun h5 => ?_) (fun h5 => ?_)
  · refine Ex_ldc dX8_as_17 kX8_71 ?_
    refine Ex_iret dX8_as_19 (by first | rfl | exact narrow_bI) ?_
    exact ⟨_, rfl, (by unfold r_as; rw [if_neg (fun q => h5 q.1)]), rfl, rfl⟩
  · refine Ex_iload_n dX8_as_8 rfl ?_
    refine Ex_bipush (v := nI 6) dX8_as_9 (by rfl) ?_
    refine Ex_S2p dX8_as_11 sX8_67  (Nat.le_of_ble_eq_true rfl) (c8_isBelow (d + 1) _ _) ?_
    refine Ex_if_neB (tgt := 20) dX8_as_14 (by decide) (fun h14 => ?_) (fun h14 => ?_)
    · obtain ⟨s', hs', es⟩ := (rng_k (by omega)).mp h5
      subst es
      have ec : cl (nI s') = s' := cl_nI (by omega)
      have hl := hH.ly (s := s') (by omega)
      have hsf := hH.sf hs'
      obtain ⟨k', hk', ek⟩ := (rng_k (by omega)).mp h14
      subst ek
      obtain ⟨q, hq, ek9⟩ := hl.2.2.2
      refine Ex_aload_n dX8_as_20 rfl ?_
      refine Ex_getr dX8_as_21 fX8_16 (ds_o hD) (ds_h hD) ?_
      refine Ex_getr dX8_as_24 fX8_85 (hl_o hS) (hl_s hS) ?_
      refine Ex_iload_n dX8_as_27 rfl ?_
      refine Ex_aaldSu dX8_as_28 (hl_sI hS) rfl (by rw [hl_sN hS]; omega) (by rw [hl_sN hS]; decide) (hl_k hS s' (by omega)) ?_
      refine Ex_astore_n dX8_as_29 (by decide) rfl ?_
      simp only [st_n0, st_n1, st_n2, st_n3, List.set_cons_zero, List.set_cons_succ]
      refine Ex_aload_n dX8_as_30 rfl ?_
      refine Ex_iload_n dX8_as_31 rfl ?_
      refine Ex_V1p dX8_as_32 sX8_120 (hl_S hS s' (by omega)).1 (Nat.le_of_ble_eq_true rfl) (c5_isOf d (hl_S hS s' (by omega)) k' q hk' hq ((hsf.1 0 (by omega)).trans ek9)) ?_
      refine Ex_if_eqB (tgt := 45) dX8_as_35 (by decide) (fun h35 => ?_) (fun h35 => ?_)
      · refine Ex_ldc dX8_as_45 kX8_123 ?_
        refine Ex_iret dX8_as_47 (by first | rfl | exact narrow_bI) ?_
        exact ⟨_, rfl, (by unfold r_as; rw [if_pos ⟨h5, h14⟩, ec, ek9, if_neg h35]), rfl, rfl⟩
      · refine Ex_aload_n dX8_as_38 rfl ?_
        refine Ex_geti dX8_as_39 fX8_94 (hl_S hS s' (by omega)).1 ?_
        refine Ex_goto (tgt := 47) dX8_as_42 (by decide) ?_
        refine Ex_iret dX8_as_47 (by first | rfl | exact narrow_bI) ?_
        exact ⟨_, rfl, (by unfold r_as; rw [if_pos ⟨h5, h14⟩, ec, ek9, if_pos h35]; exact hsf.1 1 (by omega)), rfl, rfl⟩
    · refine Ex_ldc dX8_as_17 kX8_71 ?_
      refine Ex_iret dX8_as_19 (by first | rfl | exact narrow_bI) ?_
      exact ⟨_, rfl, (by unfold r_as; rw [if_neg (fun q => h14 q.2)]), rfl, rfl⟩
