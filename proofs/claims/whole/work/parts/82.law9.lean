/-! the law: the start -/
def g00 : Nat → Int32 := upd (upd (upd (fun _ => 0) 0 (nI 1)) 3 (nI 20)) 4 (nI 10)
theorem g00_z {x : Nat} (h : x = 1 ∨ x = 2 ∨ 5 ≤ x) : g00 x = 0 := by
  unfold g00
  rw [upd_n (by omega), upd_n (by omega), upd_n (by omega)]
theorem cl_0 : cl (0 : Int32) = 0 := by decide
theorem WfG_z {f : Nat → Int32} (h : ∀ x, x = 1 ∨ 7 ≤ x → f x = 0) : WfG f := by
  have n0' : nS f = 0 := by unfold nS; rw [h 1 (by omega)]; exact cl_0
  have t0' : tN f = 0 := by unfold tN; rw [h 7 (by omega)]; exact cl_0
  refine ⟨by rw [n0', h 1 (by omega)]; rfl, by omega, fun s hs => ?_, by rw [t0', h 7 (by omega)]; rfl, by omega, fun t ht => by omega⟩
  have m0' : mN f s = 0 := by unfold mN; rw [h _ (by omega)]; exact cl_0
  exact ⟨by rw [m0', h _ (by omega)]; rfl, by omega, fun i hi => by omega, 0, by omega, by rw [h _ (by omega)]; rfl⟩
theorem LI_0 {T : TC} {I J1 J2 : MI} {G H1 H2 : MG} {D : Nat} (de : DE T I G D 21 4 5 J1 H1) (hq : n0 T + gS H1 = D + 117) (hM : MSh T H2 (D + 117)) (hc : Ct (D + 117) 26 (zI J1 (D + 117)) (alG H1 (D + 117) 9 0) J2 H2) (hr : ∀ i, i ≤ 26 → i ≠ 1 → ∀ y, J2 (D + 117 + i) y = rM i y) (hg : J2 (D + 117 + 1) = g00) : LI T D J2 H2 := by
  obtain ⟨x1, q1, m1⟩ := hc.nw hq
  have hD : DS T H2 D (D + 144) := (de.ds (N := D + 144) (by omega)).gx (x1 (D + 1) 0)
  obtain ⟨⟨d0, -, d1, -⟩, -, -, dh, dt, -, -, ds, dl, -⟩ := de
  have z : ∀ i, i ≤ 26 → i ≠ 1 → i ≠ 11 → i ≠ 12 → i ≠ 18 → ∀ y, J2 (D + 117 + i) y = 0 := fun i h1 h2 h3 h4 h5 y => by rw [hr i h1 h2 y]; exact rM_0 h3 h4 h5 y
  have zM : ∀ y, J2 (D + 117) y = 0 := z 0 (by omega) (by omega) (by omega) (by omega) (by omega)
  have hW0 : WfG g00 := WfG_z (fun x hx => g00_z (by omega))
  have t00 : tN g00 = 0 := by decide
  have n00 : nS g00 = 0 := by decide
  obtain ⟨b1, b2, b3⟩ := dh (2, 2) (by decide) (by decide)
  have hH : Hl T J2 H2 (D + 2) (D + 1) (D + 144) g00 := by
    refine ⟨ds_H hD, by omega, ⟨fun q hq => ?_, fun k hk => ?_, fun s hs => by rw [n00] at hs; omega⟩, fun t ht => by rw [t00] at ht; omega, hW0⟩
    · rw [m1 _ (by omega)]
      have b2' : J1 (D + 2) = hv0 := b2
      rw [b2']
      exact (show ∀ q ∈ fxL, hv0 q.1 = g00 q.2 by decide) q hq
    · rw [m1 _ (by omega), t00]
      exact b3 k hk
  refine ⟨hD, hM, ⟨0, by omega⟩, g00, (fun _ => 0), 0, ks, (fun _ => 0), (fun _ _ => 0), (fun _ => 0), (fun _ => 0), (fun _ => 0), (fun _ _ => 0), 0, (fun _ => 0), 0, (fun _ => 0), ⟨hH, ⟨by rw [m1 _ (by omega)]; exact d1 3, fun h => absurd rfl h⟩, fun k hk => ?_, fun k hk => ?_, ⟨by rw [m1 _ (by omega)]; exact (dt (by decide)).2, fun j hj => absurd hj (Nat.not_lt_zero j)⟩, ⟨by rw [m1 _ (by omega)]; exact d1 10, fun k hk => absurd hk (Nat.not_lt_zero k)⟩⟩, ⟨⟨hg, funext (z 2 (by omega) (by omega) (by omega) (by omega) (by omega)), zM 3⟩, ⟨funext (hr 18 (by omega) (by omega)), fun s hs => ⟨z 19 (by omega) (by omega) (by omega) (by omega) (by omega) s, Nat.zero_le 24⟩, funext fun s => funext fun k => z 20 (by omega) (by omega) (by omega) (by omega) (by omega) _⟩, ⟨funext (z 21 (by omega) (by omega) (by omega) (by omega) (by omega)), funext (z 22 (by omega) (by omega) (by omega) (by omega) (by omega)), funext (z 23 (by omega) (by omega) (by omega) (by omega) (by omega)), funext fun s => funext fun k => z 24 (by omega) (by omega) (by omega) (by omega) (by omega) _⟩, ⟨zM 12, fun j hj => absurd hj (Nat.not_lt_zero j)⟩, ⟨zM 38, funext (z 26 (by omega) (by omega) (by omega) (by omega) (by omega))⟩, ?_⟩, ⟨⟨by rw [g00_z (by omega)]; rfl, by rw [g00_z (by omega)]; decide⟩, fun x hx => g00_z (by omega)⟩, ⟨WfG_z (fun _ _ => rfl), ⟨by decide, by decide⟩, fun _ _ => rfl⟩, fun h => absurd rfl h, ⟨by omega, fun j hj => absurd hj (Nat.not_lt_zero j)⟩, by omega⟩
  · obtain ⟨-, s1, s2, s3⟩ := ((ds (by decide)).2.2 k hk).2
    refine ⟨⟨?_, by rw [m1 _ (by omega)]; exact s2, Nat.zero_le 24, fun i _ => by rw [m1 _ (by omega)]; exact s3 i⟩, Or.inl ((show ∀ k, k < 4 → ks k = (-1) by decide) k hk), fun i _ => Or.inr ⟨show -99999 ≤ (0 : Int32).toInt by decide, show (0 : Int32).toInt ≤ 99999 by decide⟩⟩
    rw [m1 _ (by omega), s1]
    exact ((show ∀ k, k < 4 → ks k = (-1) by decide) k hk).symm
  · obtain ⟨-, -, -, -, -, s6⟩ := ((dl (by decide)).2.2 k hk).2
    exact ⟨by rw [m1 _ (by omega)]; exact s6, fun h => absurd h (show ¬ (0 : Int32) = nI 1 by decide), fun h => absurd h (show ¬ (0 : Int32) = nI 2 by decide), fun h => absurd h (show ¬ (0 : Int32) = nI 3 by decide)⟩
  · exact ⟨fun w hw => (hr 12 (by omega) (by omega) w).trans (Ky_k.1 w hw), fun j hj => (hr 11 (by omega) (by omega) j).trans (Ky_k.2 j hj)⟩
