theorem sg_no {tk vl : Int32} : ¬ sgI tk vl = (-11) := by
  unfold sgI
  repeat' split
  all_goals decide
theorem opC_s {x : Int32} {w : List Int32} (h : ¬ x = (-11)) : opC (x :: w) = opC w := by
  show opC w + _ = _
  rw [if_neg h, Nat.add_zero]
set_option maxRecDepth 100000 in
set_option maxHeartbeats 4000000 in
theorem u9_takesE {T : TC} {A : MI} {G : MG} {b : Nat × Nat} (d : Nat) {M : Nat} {c : Nat → Int32} {ky : Int32} (hM : MSh T G M) (tb : Nat → Nat) (N : Nat) (hT : TpO A M tb N) (hc : c 12 = nI N) (R : Bool × Nat × List Int32 × Nat) (i : Nat) (ih1 : (∀ (p f : Nat) (tk vl en : Int32) (w q : List Int32) (a pa no : Nat) (te cd wt : Nat → Int32) (x4 : Option Value), TkI N p f tk → N < f + i → w.length + q.length ≤ f → opC w = pa → pa ≤ 8 → no ≤ 96 → SR cd q → SR wt w → syE tb N ky i true p f tk vl en w q a pa no te = R → Ex T RX9 cX9_takesE 5 (d + 3) (fm T "takesE" (some .boolean) (fun v I' G' => ∃ r, v = some (.int r) ∧ (r = bI (R.1 = true) ∧ ∃ cd' wt' te' hd' nx' tk' vl' en', I' = PM A M c cd' wt' te' ky (nI R.2.2.1.length) (nI R.2.2.2) hd' nx' (nI R.2.1) tk' vl' en' ∧ SR cd' R.2.2.1) ∧ G' = G)) 28 [some (.ref M), some (.int (nI pa)), some (.int (nI no)), some (.int (nI 1)), x4] [] (PM A M c cd wt te ky (nI q.length) (nI a) (nI w.length) (nI p) (nI f) tk vl en) G b)) (ih2 : (∀ (p f : Nat) (tk vl en : Int32) (w q : List Int32) (a pa no : Nat) (te cd wt : Nat → Int32) (x4 : Option Value), TkI N p f tk → N < f + i → w.length + q.length ≤ f → opC w = pa → pa ≤ 8 → no ≤ 96 → SR cd q → SR wt w → syE tb N ky i false p f tk vl en w q a pa no te = R → Ex T RX9 cX9_takesE 5 (d + 3) (fm T "takesE" (some .boolean) (fun v I' G' => ∃ r, v = some (.int r) ∧ (r = bI (R.1 = true) ∧ ∃ cd' wt' te' hd' nx' tk' vl' en', I' = PM A M c cd' wt' te' ky (nI R.2.2.1.length) (nI R.2.2.2) hd' nx' (nI R.2.1) tk' vl' en' ∧ SR cd' R.2.2.1) ∧ G' = G)) 28 [some (.ref M), some (.int (nI pa)), some (.int (nI no)), some (.int (nI 0)), x4] [] (PM A M c cd wt te ky (nI q.length) (nI a) (nI w.length) (nI p) (nI f) tk vl en) G b)) : (∀ (p f : Nat) (tk vl en : Int32) (w q : List Int32) (a pa no : Nat) (te cd wt : Nat → Int32) (x4 : Option Value), TkI N p f tk → N < f + (i + 1) → w.length + q.length ≤ f → opC w = pa → pa ≤ 8 → no ≤ 96 → SR cd q → SR wt w → syE tb N ky (i + 1) true p f tk vl en w q a pa no te = R → Ex T RX9 cX9_takesE 5 (d + 3) (fm T "takesE" (some .boolean) (fun v I' G' => ∃ r, v = some (.int r) ∧ (r = bI (R.1 = true) ∧ ∃ cd' wt' te' hd' nx' tk' vl' en', I' = PM A M c cd' wt' te' ky (nI R.2.2.1.length) (nI R.2.2.2) hd' nx' (nI R.2.1) tk' vl' en' ∧ SR cd' R.2.2.1) ∧ G' = G)) 28 [some (.ref M), some (.int (nI pa)), some (.int (nI no)), some (.int (nI 1)), x4] [] (PM A M c cd wt te ky (nI q.length) (nI a) (nI w.length) (nI p) (nI f) tk vl en) G b) := by
  have h96 := hT.1
  intro p f tk vl en w q a pa no te cd wt x4 hk hfu hl hop hpa hno hq hw hR
  obtain ⟨hk1, hk2, hk3⟩ := hk
  have hg1 := gF_le (tb := tb) hk2
  have hgo := TkI_go (tb := tb) (en := en) hk2
  simp only [syE] at hR
  refine Ex_iload_n dX9_takesE_28 rfl ?_
  refine Ex_if_ne (tgt := 39) dX9_takesE_29 (by decide) (fun h29 => ?_) (fun h29 => ?_)
  · refine Ex_iload_n dX9_takesE_39 rfl ?_
    refine Ex_if_eq (tgt := 180) dX9_takesE_40 (by decide) (fun h40 => ?_) (fun h40 => ?_)
    · exact absurd h40 (by decide)
    · refine Ex_aload_n dX9_takesE_43 rfl ?_
      refine Ex_geti dX9_takesE_44 fX9_223 hM.1 ?_
      rw [qd15]
      refine Ex_iconst (v := nI 3) dX9_takesE_47 (by rfl) ?_
      refine Ex_icmp_ne (tgt := 97) dX9_takesE_48 (by decide) (fun h48 => ?_) (fun h48 => ?_)
      · refine Ex_aload_n dX9_takesE_97 rfl ?_
        refine Ex_geti dX9_takesE_98 fX9_223 hM.1 ?_
        rw [qd15]
        refine Ex_iconst (v := nI 3) dX9_takesE_101 (by rfl) ?_
        refine Ex_icmp_ne (tgt := 158) dX9_takesE_102 (by decide) (fun h102 => ?_) (fun h102 => ?_)
        · rw [if_neg (fun z => h48 z.1), if_neg (fun z => h102 z.1)] at hR
          refine t3_takesE d hM tb N hT hc p f hk2 tk vl en w q a pa no hpa te cd wt x4 hk1 (fun hpt => by have := hk3 (fun e => hpt.elim (fun h => absurd (e.symm.trans h) (by decide)) (fun h => absurd (e.symm.trans h.1) (by decide))); omega) hq hw (fun hpt cd2 wt2 hq2 hw2 => ?_) (fun hpt => ?_)
          · rw [if_pos hpt] at hR
            have hnz := hk3 (fun e => hpt.elim (fun h => absurd (e.symm.trans h) (by decide)) (fun h => absurd (e.symm.trans h.1) (by decide)))
            have hsl := stl_len (least := nI 6) w (atI ky tk vl :: q)
            simp only [List.length_cons] at hsl
            have hsn := noL_le (stl (nI 6) w (atI ky tk vl :: q)).1
            exact ih2 (gE tb N (gF tb N p)) (gF tb N p) (gT tb N (gF tb N p) en) (gV tb N (gF tb N p) vl) (gD tb N (gF tb N p) en) (stl (nI 6) w (atI ky tk vl :: q)).1 (stl (nI 6) w (atI ky tk vl :: q)).2 (a + 1) pa (noL (stl (nI 6) w (atI ky tk vl :: q)).1) te cd2 wt2 x4 hgo (by omega) (by omega) ((stl_op _ _).trans hop) hpa (by omega) hq2 hw2 hR
          · rw [if_neg hpt] at hR
            subst hR
            refine Ex_iconst (v := nI 0) dX9_takesE_170 (by rfl) ?_
            refine Ex_iret dX9_takesE_171 (by first | rfl | exact narrow_bI) ?_
            exact ⟨_, rfl, ⟨(bI_f (fun z => by cases z)).symm, _, _, _, _, _, _, _, _, rfl, hq⟩, rfl⟩
        · exact absurd h102 h48
      · refine Ex_aload_n dX9_takesE_51 rfl ?_
        refine Ex_geti dX9_takesE_52 fX9_229 hM.1 ?_
        rw [qd16]
        refine Ex_bipush (v := nI 33) dX9_takesE_55 (by rfl) ?_
        refine Ex_icmp_ne (tgt := 97) dX9_takesE_57 (by decide) (fun h57 => ?_) (fun h57 => ?_)
        · refine Ex_aload_n dX9_takesE_97 rfl ?_
          refine Ex_geti dX9_takesE_98 fX9_223 hM.1 ?_
          rw [qd15]
          refine Ex_iconst (v := nI 3) dX9_takesE_101 (by rfl) ?_
          refine Ex_icmp_ne (tgt := 158) dX9_takesE_102 (by decide) (fun h102 => ?_) (fun h102 => ?_)
          · exact absurd h48 h102
          · refine Ex_aload_n dX9_takesE_105 rfl ?_
            refine Ex_geti dX9_takesE_106 fX9_229 hM.1 ?_
            rw [qd16]
            refine Ex_bipush (v := nI 40) dX9_takesE_109 (by rfl) ?_
            refine Ex_icmp_ne (tgt := 158) dX9_takesE_111 (by decide) (fun h111 => ?_) (fun h111 => ?_)
            · rw [if_neg (fun z => h57 z.2.1), if_neg (fun z => h111 z.2.1)] at hR
              refine t3_takesE d hM tb N hT hc p f hk2 tk vl en w q a pa no hpa te cd wt x4 hk1 (fun hpt => by have := hk3 (fun e => hpt.elim (fun h => absurd (e.symm.trans h) (by decide)) (fun h => absurd (e.symm.trans h.1) (by decide))); omega) hq hw (fun hpt cd2 wt2 hq2 hw2 => ?_) (fun hpt => ?_)
              · rw [if_pos hpt] at hR
                have hnz := hk3 (fun e => hpt.elim (fun h => absurd (e.symm.trans h) (by decide)) (fun h => absurd (e.symm.trans h.1) (by decide)))
                have hsl := stl_len (least := nI 6) w (atI ky tk vl :: q)
                simp only [List.length_cons] at hsl
                have hsn := noL_le (stl (nI 6) w (atI ky tk vl :: q)).1
                exact ih2 (gE tb N (gF tb N p)) (gF tb N p) (gT tb N (gF tb N p) en) (gV tb N (gF tb N p) vl) (gD tb N (gF tb N p) en) (stl (nI 6) w (atI ky tk vl :: q)).1 (stl (nI 6) w (atI ky tk vl :: q)).2 (a + 1) pa (noL (stl (nI 6) w (atI ky tk vl :: q)).1) te cd2 wt2 x4 hgo (by omega) (by omega) ((stl_op _ _).trans hop) hpa (by omega) hq2 hw2 hR
              · rw [if_neg hpt] at hR
                subst hR
                refine Ex_iconst (v := nI 0) dX9_takesE_170 (by rfl) ?_
                refine Ex_iret dX9_takesE_171 (by first | rfl | exact narrow_bI) ?_
                exact ⟨_, rfl, ⟨(bI_f (fun z => by cases z)).symm, _, _, _, _, _, _, _, _, rfl, hq⟩, rfl⟩
            · refine Ex_iload_n dX9_takesE_114 rfl ?_
              refine Ex_bipush (v := nI 8) dX9_takesE_115 (by rfl) ?_
              refine Ex_icmp_geN (by omega) (by omega) (tgt := 158) dX9_takesE_117 (by decide) (fun h117 => ?_) (fun h117 => ?_)
              · rw [if_neg (fun z => h57 z.2.1), if_neg (fun z => by have := z.2.2; omega)] at hR
                refine t3_takesE d hM tb N hT hc p f hk2 tk vl en w q a pa no hpa te cd wt x4 hk1 (fun hpt => by have := hk3 (fun e => hpt.elim (fun h => absurd (e.symm.trans h) (by decide)) (fun h => absurd (e.symm.trans h.1) (by decide))); omega) hq hw (fun hpt cd2 wt2 hq2 hw2 => ?_) (fun hpt => ?_)
                · rw [if_pos hpt] at hR
                  have hnz := hk3 (fun e => hpt.elim (fun h => absurd (e.symm.trans h) (by decide)) (fun h => absurd (e.symm.trans h.1) (by decide)))
                  have hsl := stl_len (least := nI 6) w (atI ky tk vl :: q)
                  simp only [List.length_cons] at hsl
                  have hsn := noL_le (stl (nI 6) w (atI ky tk vl :: q)).1
                  exact ih2 (gE tb N (gF tb N p)) (gF tb N p) (gT tb N (gF tb N p) en) (gV tb N (gF tb N p) vl) (gD tb N (gF tb N p) en) (stl (nI 6) w (atI ky tk vl :: q)).1 (stl (nI 6) w (atI ky tk vl :: q)).2 (a + 1) pa (noL (stl (nI 6) w (atI ky tk vl :: q)).1) te cd2 wt2 x4 hgo (by omega) (by omega) ((stl_op _ _).trans hop) hpa (by omega) hq2 hw2 hR
                · rw [if_neg hpt] at hR
                  subst hR
                  refine Ex_iconst (v := nI 0) dX9_takesE_170 (by rfl) ?_
                  refine Ex_iret dX9_takesE_171 (by first | rfl | exact narrow_bI) ?_
                  exact ⟨_, rfl, ⟨(bI_f (fun z => by cases z)).symm, _, _, _, _, _, _, _, _, rfl, hq⟩, rfl⟩
              · rw [if_neg (fun z => h57 z.2.1), if_pos ⟨h102, h111, by omega⟩] at hR
                have hnz := hk3 (by rw [h102]; decide)
                have hn := noL_le ((-11) :: w)
                simp only [List.length_cons] at hn
                exact t2_takesE d hM tb N hT hc p f hk2 tk vl en w q a pa no hpa te cd wt x4 (by omega) (by omega) hw (ih1 (gE tb N (gF tb N p)) (gF tb N p) (gT tb N (gF tb N p) en) (gV tb N (gF tb N p) vl) (gD tb N (gF tb N p) en) ((-11) :: w) q a (pa + 1) (noL ((-11) :: w)) (upd te (pa + 1) (nI 0)) cd (upd wt w.length (-11)) x4 hgo (by omega) (by simp only [List.length_cons]; omega) (opC_11.trans (by rw [hop])) (by omega) (by omega) hq (SR_push hw) hR)
        · refine Ex_iload_n dX9_takesE_60 rfl ?_
          refine Ex_bipush (v := nI 8) dX9_takesE_61 (by rfl) ?_
          refine Ex_icmp_geN (by omega) (by omega) (tgt := 97) dX9_takesE_63 (by decide) (fun h63 => ?_) (fun h63 => ?_)
          · refine Ex_aload_n dX9_takesE_97 rfl ?_
            refine Ex_geti dX9_takesE_98 fX9_223 hM.1 ?_
            rw [qd15]
            refine Ex_iconst (v := nI 3) dX9_takesE_101 (by rfl) ?_
            refine Ex_icmp_ne (tgt := 158) dX9_takesE_102 (by decide) (fun h102 => ?_) (fun h102 => ?_)
            · exact absurd h48 h102
            · refine Ex_aload_n dX9_takesE_105 rfl ?_
              refine Ex_geti dX9_takesE_106 fX9_229 hM.1 ?_
              rw [qd16]
              refine Ex_bipush (v := nI 40) dX9_takesE_109 (by rfl) ?_
              refine Ex_icmp_ne (tgt := 158) dX9_takesE_111 (by decide) (fun h111 => ?_) (fun h111 => ?_)
              · rw [if_neg (fun z => by have := z.2.2; omega), if_neg (fun z => h111 z.2.1)] at hR
                refine t3_takesE d hM tb N hT hc p f hk2 tk vl en w q a pa no hpa te cd wt x4 hk1 (fun hpt => by have := hk3 (fun e => hpt.elim (fun h => absurd (e.symm.trans h) (by decide)) (fun h => absurd (e.symm.trans h.1) (by decide))); omega) hq hw (fun hpt cd2 wt2 hq2 hw2 => ?_) (fun hpt => ?_)
                · rw [if_pos hpt] at hR
                  have hnz := hk3 (fun e => hpt.elim (fun h => absurd (e.symm.trans h) (by decide)) (fun h => absurd (e.symm.trans h.1) (by decide)))
                  have hsl := stl_len (least := nI 6) w (atI ky tk vl :: q)
                  simp only [List.length_cons] at hsl
                  have hsn := noL_le (stl (nI 6) w (atI ky tk vl :: q)).1
                  exact ih2 (gE tb N (gF tb N p)) (gF tb N p) (gT tb N (gF tb N p) en) (gV tb N (gF tb N p) vl) (gD tb N (gF tb N p) en) (stl (nI 6) w (atI ky tk vl :: q)).1 (stl (nI 6) w (atI ky tk vl :: q)).2 (a + 1) pa (noL (stl (nI 6) w (atI ky tk vl :: q)).1) te cd2 wt2 x4 hgo (by omega) (by omega) ((stl_op _ _).trans hop) hpa (by omega) hq2 hw2 hR
                · rw [if_neg hpt] at hR
                  subst hR
                  refine Ex_iconst (v := nI 0) dX9_takesE_170 (by rfl) ?_
                  refine Ex_iret dX9_takesE_171 (by first | rfl | exact narrow_bI) ?_
                  exact ⟨_, rfl, ⟨(bI_f (fun z => by cases z)).symm, _, _, _, _, _, _, _, _, rfl, hq⟩, rfl⟩
              · refine Ex_iload_n dX9_takesE_114 rfl ?_
                refine Ex_bipush (v := nI 8) dX9_takesE_115 (by rfl) ?_
                refine Ex_icmp_geN (by omega) (by omega) (tgt := 158) dX9_takesE_117 (by decide) (fun h117 => ?_) (fun h117 => ?_)
                · rw [if_neg (fun z => by have := z.2.2; omega), if_neg (fun z => by have := z.2.2; omega)] at hR
                  refine t3_takesE d hM tb N hT hc p f hk2 tk vl en w q a pa no hpa te cd wt x4 hk1 (fun hpt => by have := hk3 (fun e => hpt.elim (fun h => absurd (e.symm.trans h) (by decide)) (fun h => absurd (e.symm.trans h.1) (by decide))); omega) hq hw (fun hpt cd2 wt2 hq2 hw2 => ?_) (fun hpt => ?_)
                  · rw [if_pos hpt] at hR
                    have hnz := hk3 (fun e => hpt.elim (fun h => absurd (e.symm.trans h) (by decide)) (fun h => absurd (e.symm.trans h.1) (by decide)))
                    have hsl := stl_len (least := nI 6) w (atI ky tk vl :: q)
                    simp only [List.length_cons] at hsl
                    have hsn := noL_le (stl (nI 6) w (atI ky tk vl :: q)).1
                    exact ih2 (gE tb N (gF tb N p)) (gF tb N p) (gT tb N (gF tb N p) en) (gV tb N (gF tb N p) vl) (gD tb N (gF tb N p) en) (stl (nI 6) w (atI ky tk vl :: q)).1 (stl (nI 6) w (atI ky tk vl :: q)).2 (a + 1) pa (noL (stl (nI 6) w (atI ky tk vl :: q)).1) te cd2 wt2 x4 hgo (by omega) (by omega) ((stl_op _ _).trans hop) hpa (by omega) hq2 hw2 hR
                  · rw [if_neg hpt] at hR
                    subst hR
                    refine Ex_iconst (v := nI 0) dX9_takesE_170 (by rfl) ?_
                    refine Ex_iret dX9_takesE_171 (by first | rfl | exact narrow_bI) ?_
                    exact ⟨_, rfl, ⟨(bI_f (fun z => by cases z)).symm, _, _, _, _, _, _, _, _, rfl, hq⟩, rfl⟩
                · rw [if_neg (fun z => by have := z.2.2; omega), if_pos ⟨h102, h111, by omega⟩] at hR
                  have hnz := hk3 (by rw [h102]; decide)
                  have hn := noL_le ((-11) :: w)
                  simp only [List.length_cons] at hn
                  exact t2_takesE d hM tb N hT hc p f hk2 tk vl en w q a pa no hpa te cd wt x4 (by omega) (by omega) hw (ih1 (gE tb N (gF tb N p)) (gF tb N p) (gT tb N (gF tb N p) en) (gV tb N (gF tb N p) vl) (gD tb N (gF tb N p) en) ((-11) :: w) q a (pa + 1) (noL ((-11) :: w)) (upd te (pa + 1) (nI 0)) cd (upd wt w.length (-11)) x4 hgo (by omega) (by simp only [List.length_cons]; omega) (opC_11.trans (by rw [hop])) (by omega) (by omega) hq (SR_push hw) hR)
          · rw [if_pos ⟨h48, h57, by omega⟩] at hR
            have hnz := hk3 (by rw [h48]; decide)
            have hn := noL_le ((-10) :: w)
            simp only [List.length_cons] at hn
            exact t1_takesE d hM tb N hT hc p f hk2 tk vl en w q a pa no hpa te cd wt x4 (by omega) hw (ih1 (gE tb N (gF tb N p)) (gF tb N p) (gT tb N (gF tb N p) en) (gV tb N (gF tb N p) vl) (gD tb N (gF tb N p) en) ((-10) :: w) q a pa (noL ((-10) :: w)) te cd (upd wt w.length (-10)) x4 hgo (by omega) (by simp only [List.length_cons]; omega) (opC_10.trans hop) hpa (by omega) hq (SR_push hw) hR)
  · exact absurd h29 (by decide)
set_option maxRecDepth 100000 in
set_option maxHeartbeats 4000000 in
theorem v9_takesE {T : TC} {A : MI} {G : MG} {b : Nat × Nat} (d : Nat) {M : Nat} {c : Nat → Int32} {ky : Int32} (hM : MSh T G M) (tb : Nat → Nat) (N : Nat) (hT : TpO A M tb N) (hc : c 12 = nI N) (R : Bool × Nat × List Int32 × Nat) (i : Nat) (ih1 : (∀ (p f : Nat) (tk vl en : Int32) (w q : List Int32) (a pa no : Nat) (te cd wt : Nat → Int32) (x4 : Option Value), TkI N p f tk → N < f + i → w.length + q.length ≤ f → opC w = pa → pa ≤ 8 → no ≤ 96 → SR cd q → SR wt w → syE tb N ky i true p f tk vl en w q a pa no te = R → Ex T RX9 cX9_takesE 5 (d + 3) (fm T "takesE" (some .boolean) (fun v I' G' => ∃ r, v = some (.int r) ∧ (r = bI (R.1 = true) ∧ ∃ cd' wt' te' hd' nx' tk' vl' en', I' = PM A M c cd' wt' te' ky (nI R.2.2.1.length) (nI R.2.2.2) hd' nx' (nI R.2.1) tk' vl' en' ∧ SR cd' R.2.2.1) ∧ G' = G)) 28 [some (.ref M), some (.int (nI pa)), some (.int (nI no)), some (.int (nI 1)), x4] [] (PM A M c cd wt te ky (nI q.length) (nI a) (nI w.length) (nI p) (nI f) tk vl en) G b)) (ih2 : (∀ (p f : Nat) (tk vl en : Int32) (w q : List Int32) (a pa no : Nat) (te cd wt : Nat → Int32) (x4 : Option Value), TkI N p f tk → N < f + i → w.length + q.length ≤ f → opC w = pa → pa ≤ 8 → no ≤ 96 → SR cd q → SR wt w → syE tb N ky i false p f tk vl en w q a pa no te = R → Ex T RX9 cX9_takesE 5 (d + 3) (fm T "takesE" (some .boolean) (fun v I' G' => ∃ r, v = some (.int r) ∧ (r = bI (R.1 = true) ∧ ∃ cd' wt' te' hd' nx' tk' vl' en', I' = PM A M c cd' wt' te' ky (nI R.2.2.1.length) (nI R.2.2.2) hd' nx' (nI R.2.1) tk' vl' en' ∧ SR cd' R.2.2.1) ∧ G' = G)) 28 [some (.ref M), some (.int (nI pa)), some (.int (nI no)), some (.int (nI 0)), x4] [] (PM A M c cd wt te ky (nI q.length) (nI a) (nI w.length) (nI p) (nI f) tk vl en) G b)) : (∀ (p f : Nat) (tk vl en : Int32) (w q : List Int32) (a pa no : Nat) (te cd wt : Nat → Int32) (x4 : Option Value), TkI N p f tk → N < f + (i + 1) → w.length + q.length ≤ f → opC w = pa → pa ≤ 8 → no ≤ 96 → SR cd q → SR wt w → syE tb N ky (i + 1) false p f tk vl en w q a pa no te = R → Ex T RX9 cX9_takesE 5 (d + 3) (fm T "takesE" (some .boolean) (fun v I' G' => ∃ r, v = some (.int r) ∧ (r = bI (R.1 = true) ∧ ∃ cd' wt' te' hd' nx' tk' vl' en', I' = PM A M c cd' wt' te' ky (nI R.2.2.1.length) (nI R.2.2.2) hd' nx' (nI R.2.1) tk' vl' en' ∧ SR cd' R.2.2.1) ∧ G' = G)) 28 [some (.ref M), some (.int (nI pa)), some (.int (nI no)), some (.int (nI 0)), x4] [] (PM A M c cd wt te ky (nI q.length) (nI a) (nI w.length) (nI p) (nI f) tk vl en) G b) := by
  have h96 := hT.1
  intro p f tk vl en w q a pa no te cd wt x4 hk hfu hl hop hpa hno hq hw hR
  obtain ⟨hk1, hk2, hk3⟩ := hk
  have hg1 := gF_le (tb := tb) hk2
  have hgo := TkI_go (tb := tb) (en := en) hk2
  simp only [syE] at hR
  refine Ex_iload_n dX9_takesE_28 rfl ?_
  refine Ex_if_ne (tgt := 39) dX9_takesE_29 (by decide) (fun h29 => ?_) (fun h29 => ?_)
  · exact absurd rfl h29
  · refine Ex_aload_n dX9_takesE_32 rfl ?_
    refine Ex_geti dX9_takesE_33 fX9_223 hM.1 ?_
    rw [qd15]
    refine Ex_if_eq (tgt := 345) dX9_takesE_36 (by decide) (fun h36 => ?_) (fun h36 => ?_)
    · have h36 : tk = nI 0 := h36
      refine Ex_aload_n dX9_takesE_345 rfl ?_
      refine Ex_iconst (v := nI 0) dX9_takesE_346 (by rfl) ?_
      refine Ex_V1v dX9_takesE_347 sX9_256 hM.1 (Nat.le_of_ble_eq_true rfl) (c9_settle (d + 1) hM (nI 0) w q cd wt (by omega) hq hw) ?_
      rintro _ _ ⟨⟨cd2, wt2, rfl, hq2, hw2⟩, e2⟩
      subst e2
      refine Ex_iload_n dX9_takesE_350 rfl ?_
      refine Ex_if_ne (tgt := 358) dX9_takesE_351 (by decide) (fun h351 => ?_) (fun h351 => ?_)
      · refine Ex_iconst (v := nI 0) dX9_takesE_358 (by rfl) ?_
        refine Ex_iret dX9_takesE_359 (by first | rfl | exact narrow_bI) ?_
        rw [if_pos h36] at hR
        subst hR
        exact ⟨_, rfl, ⟨(bI_f (fun z => by rw [decide_eq_true_iff] at z; exact h351 (by rw [z]; rfl))).symm, _, _, _, _, _, _, _, _, rfl, hq2⟩, rfl⟩
      · refine Ex_iconst (v := nI 1) dX9_takesE_354 (by rfl) ?_
        refine Ex_goto (tgt := 359) dX9_takesE_355 (by decide) ?_
        refine Ex_iret dX9_takesE_359 (by first | rfl | exact narrow_bI) ?_
        rw [if_pos h36] at hR
        subst hR
        exact ⟨_, rfl, ⟨(bI_t (by rw [decide_eq_true_iff]; exact (nI_eq (b := 0) (by omega) (by omega)).mp h351)).symm, _, _, _, _, _, _, _, _, rfl, hq2⟩, rfl⟩
    · have h36 : ¬ tk = nI 0 := h36
      refine Ex_iload_n dX9_takesE_39 rfl ?_
      refine Ex_if_eq (tgt := 180) dX9_takesE_40 (by decide) (fun h40 => ?_) (fun h40 => ?_)
      · refine Ex_aload_n dX9_takesE_180 rfl ?_
        refine Ex_geti dX9_takesE_181 fX9_223 hM.1 ?_
        rw [qd15]
        refine Ex_iconst (v := nI 3) dX9_takesE_184 (by rfl) ?_
        refine Ex_icmp_ne (tgt := 237) dX9_takesE_185 (by decide) (fun h185 => ?_) (fun h185 => ?_)
        · skip
          refine Ex_aload_n dX9_takesE_237 rfl ?_
          refine Ex_V0p dX9_takesE_238 sX9_266 hM.1 (Nat.le_of_ble_eq_true rfl) (c9_signHere (d + 2) hM tk vl qd15 qd16) ?_
          refine Ex_istore dX9_takesE_241 (by decide) rfl ?_
          simp only [List.set_cons_zero, List.set_cons_succ]
          refine Ex_iload dX9_takesE_243 rfl ?_
          refine Ex_if_eq (tgt := 266) dX9_takesE_245 (by decide) (fun h245 => ?_) (fun h245 => ?_)
          · refine Ex_iconst (v := nI 0) dX9_takesE_266 (by rfl) ?_
            refine Ex_iret dX9_takesE_267 (by first | rfl | exact narrow_bI) ?_
            rw [if_neg h36, if_neg (fun z => h185 z.1), if_pos (Or.inl h245)] at hR
            subst hR
            exact ⟨_, rfl, ⟨(bI_f (fun z => by cases z)).symm, _, _, _, _, _, _, _, _, rfl, hq⟩, rfl⟩
          · refine Ex_iload dX9_takesE_248 rfl ?_
            refine Ex_S1p dX9_takesE_250 sX9_244  (Nat.le_of_ble_eq_true rfl) (c9_rank (d + 2) _) ?_
            refine Ex_iconst (v := nI 3) dX9_takesE_253 (by rfl) ?_
            refine Ex_icmp_ne (tgt := 268) dX9_takesE_254 (by decide) (fun h254 => ?_) (fun h254 => ?_)
            · rw [if_neg h36, if_neg (fun z => h185 z.1), if_neg (fun z => z.elim h245 (fun z => h254 z.1))] at hR
              have hnz := hk3 h36
              have hs0 := stl_len (least := rkI (sgI tk vl)) w q
              exact t5_takesE d hM tb N hT hc p f hk2 tk vl en w q a pa no hpa te cd wt x4 (by omega) hq hw (fun cd2 wt2 hq2 hw2 => ih1 (gE tb N (gF tb N p)) (gF tb N p) (gT tb N (gF tb N p) en) (gV tb N (gF tb N p) vl) (gD tb N (gF tb N p) en) ((sgI tk vl) :: (stl (rkI (sgI tk vl)) w q).1) (stl (rkI (sgI tk vl)) w q).2 a pa no (upd te pa (teI (rkI (sgI tk vl)) (te pa))) cd2 wt2 (some (.int (sgI tk vl))) hgo (by omega) (by simp only [List.length_cons]; omega) ((opC_s sg_no).trans ((stl_op _ _).trans hop)) hpa hno hq2 hw2 hR)
            · refine Ex_aload_n dX9_takesE_257 rfl ?_
              refine Ex_getr dX9_takesE_258 fX9_54 hM.1 (mF26 hM).1 ?_
              refine Ex_iload_n dX9_takesE_261 rfl ?_
              refine Ex_zald dX9_takesE_262 (mF26 hM).2.1 rfl (by rw [(mF26 hM).2.2]; omega) (by rw [(mF26 hM).2.2]; decide) ?_
              rw [qa15]
              refine Ex_if_eq (tgt := 268) dX9_takesE_263 (by decide) (fun h263 => ?_) (fun h263 => ?_)
              · rw [if_neg h36, if_neg (fun z => h185 z.1), if_neg (fun z => z.elim h245 (fun z => z.2 h263))] at hR
                have hnz := hk3 h36
                have hs0 := stl_len (least := rkI (sgI tk vl)) w q
                exact t5_takesE d hM tb N hT hc p f hk2 tk vl en w q a pa no hpa te cd wt x4 (by omega) hq hw (fun cd2 wt2 hq2 hw2 => ih1 (gE tb N (gF tb N p)) (gF tb N p) (gT tb N (gF tb N p) en) (gV tb N (gF tb N p) vl) (gD tb N (gF tb N p) en) ((sgI tk vl) :: (stl (rkI (sgI tk vl)) w q).1) (stl (rkI (sgI tk vl)) w q).2 a pa no (upd te pa (teI (rkI (sgI tk vl)) (te pa))) cd2 wt2 (some (.int (sgI tk vl))) hgo (by omega) (by simp only [List.length_cons]; omega) ((opC_s sg_no).trans ((stl_op _ _).trans hop)) hpa hno hq2 hw2 hR)
              · refine Ex_iconst (v := nI 0) dX9_takesE_266 (by rfl) ?_
                refine Ex_iret dX9_takesE_267 (by first | rfl | exact narrow_bI) ?_
                rw [if_neg h36, if_neg (fun z => h185 z.1), if_pos (Or.inr ⟨h254, h263⟩)] at hR
                subst hR
                exact ⟨_, rfl, ⟨(bI_f (fun z => by cases z)).symm, _, _, _, _, _, _, _, _, rfl, hq⟩, rfl⟩
        · refine Ex_aload_n dX9_takesE_188 rfl ?_
          refine Ex_geti dX9_takesE_189 fX9_229 hM.1 ?_
          rw [qd16]
          refine Ex_bipush (v := nI 41) dX9_takesE_192 (by rfl) ?_
          refine Ex_icmp_ne (tgt := 237) dX9_takesE_194 (by decide) (fun h194 => ?_) (fun h194 => ?_)
          · skip
            refine Ex_aload_n dX9_takesE_237 rfl ?_
            refine Ex_V0p dX9_takesE_238 sX9_266 hM.1 (Nat.le_of_ble_eq_true rfl) (c9_signHere (d + 2) hM tk vl qd15 qd16) ?_
            refine Ex_istore dX9_takesE_241 (by decide) rfl ?_
            simp only [List.set_cons_zero, List.set_cons_succ]
            refine Ex_iload dX9_takesE_243 rfl ?_
            refine Ex_if_eq (tgt := 266) dX9_takesE_245 (by decide) (fun h245 => ?_) (fun h245 => ?_)
            · refine Ex_iconst (v := nI 0) dX9_takesE_266 (by rfl) ?_
              refine Ex_iret dX9_takesE_267 (by first | rfl | exact narrow_bI) ?_
              rw [if_neg h36, if_neg (fun z => h194 z.2.1), if_pos (Or.inl h245)] at hR
              subst hR
              exact ⟨_, rfl, ⟨(bI_f (fun z => by cases z)).symm, _, _, _, _, _, _, _, _, rfl, hq⟩, rfl⟩
            · refine Ex_iload dX9_takesE_248 rfl ?_
              refine Ex_S1p dX9_takesE_250 sX9_244  (Nat.le_of_ble_eq_true rfl) (c9_rank (d + 2) _) ?_
              refine Ex_iconst (v := nI 3) dX9_takesE_253 (by rfl) ?_
              refine Ex_icmp_ne (tgt := 268) dX9_takesE_254 (by decide) (fun h254 => ?_) (fun h254 => ?_)
              · rw [if_neg h36, if_neg (fun z => h194 z.2.1), if_neg (fun z => z.elim h245 (fun z => h254 z.1))] at hR
                have hnz := hk3 h36
                have hs0 := stl_len (least := rkI (sgI tk vl)) w q
                exact t5_takesE d hM tb N hT hc p f hk2 tk vl en w q a pa no hpa te cd wt x4 (by omega) hq hw (fun cd2 wt2 hq2 hw2 => ih1 (gE tb N (gF tb N p)) (gF tb N p) (gT tb N (gF tb N p) en) (gV tb N (gF tb N p) vl) (gD tb N (gF tb N p) en) ((sgI tk vl) :: (stl (rkI (sgI tk vl)) w q).1) (stl (rkI (sgI tk vl)) w q).2 a pa no (upd te pa (teI (rkI (sgI tk vl)) (te pa))) cd2 wt2 (some (.int (sgI tk vl))) hgo (by omega) (by simp only [List.length_cons]; omega) ((opC_s sg_no).trans ((stl_op _ _).trans hop)) hpa hno hq2 hw2 hR)
              · refine Ex_aload_n dX9_takesE_257 rfl ?_
                refine Ex_getr dX9_takesE_258 fX9_54 hM.1 (mF26 hM).1 ?_
                refine Ex_iload_n dX9_takesE_261 rfl ?_
                refine Ex_zald dX9_takesE_262 (mF26 hM).2.1 rfl (by rw [(mF26 hM).2.2]; omega) (by rw [(mF26 hM).2.2]; decide) ?_
                rw [qa15]
                refine Ex_if_eq (tgt := 268) dX9_takesE_263 (by decide) (fun h263 => ?_) (fun h263 => ?_)
                · rw [if_neg h36, if_neg (fun z => h194 z.2.1), if_neg (fun z => z.elim h245 (fun z => z.2 h263))] at hR
                  have hnz := hk3 h36
                  have hs0 := stl_len (least := rkI (sgI tk vl)) w q
                  exact t5_takesE d hM tb N hT hc p f hk2 tk vl en w q a pa no hpa te cd wt x4 (by omega) hq hw (fun cd2 wt2 hq2 hw2 => ih1 (gE tb N (gF tb N p)) (gF tb N p) (gT tb N (gF tb N p) en) (gV tb N (gF tb N p) vl) (gD tb N (gF tb N p) en) ((sgI tk vl) :: (stl (rkI (sgI tk vl)) w q).1) (stl (rkI (sgI tk vl)) w q).2 a pa no (upd te pa (teI (rkI (sgI tk vl)) (te pa))) cd2 wt2 (some (.int (sgI tk vl))) hgo (by omega) (by simp only [List.length_cons]; omega) ((opC_s sg_no).trans ((stl_op _ _).trans hop)) hpa hno hq2 hw2 hR)
                · refine Ex_iconst (v := nI 0) dX9_takesE_266 (by rfl) ?_
                  refine Ex_iret dX9_takesE_267 (by first | rfl | exact narrow_bI) ?_
                  rw [if_neg h36, if_neg (fun z => h194 z.2.1), if_pos (Or.inr ⟨h254, h263⟩)] at hR
                  subst hR
                  exact ⟨_, rfl, ⟨(bI_f (fun z => by cases z)).symm, _, _, _, _, _, _, _, _, rfl, hq⟩, rfl⟩
          · refine Ex_iload_n dX9_takesE_197 rfl ?_
            refine Ex_if_le (tgt := 237) dX9_takesE_198 (by decide) (fun h198 => ?_) (fun h198 => ?_)
            · have h198' : ¬ 0 < pa := fun e => by
                refine absurd h198 ?_
                rw [Int32.not_le]
                exact nI_lt (a := 0) e (by omega)
              refine Ex_aload_n dX9_takesE_237 rfl ?_
              refine Ex_V0p dX9_takesE_238 sX9_266 hM.1 (Nat.le_of_ble_eq_true rfl) (c9_signHere (d + 2) hM tk vl qd15 qd16) ?_
              refine Ex_istore dX9_takesE_241 (by decide) rfl ?_
              simp only [List.set_cons_zero, List.set_cons_succ]
              refine Ex_iload dX9_takesE_243 rfl ?_
              refine Ex_if_eq (tgt := 266) dX9_takesE_245 (by decide) (fun h245 => ?_) (fun h245 => ?_)
              · refine Ex_iconst (v := nI 0) dX9_takesE_266 (by rfl) ?_
                refine Ex_iret dX9_takesE_267 (by first | rfl | exact narrow_bI) ?_
                rw [if_neg h36, if_neg (fun z => h198' z.2.2), if_pos (Or.inl h245)] at hR
                subst hR
                exact ⟨_, rfl, ⟨(bI_f (fun z => by cases z)).symm, _, _, _, _, _, _, _, _, rfl, hq⟩, rfl⟩
              · refine Ex_iload dX9_takesE_248 rfl ?_
                refine Ex_S1p dX9_takesE_250 sX9_244  (Nat.le_of_ble_eq_true rfl) (c9_rank (d + 2) _) ?_
                refine Ex_iconst (v := nI 3) dX9_takesE_253 (by rfl) ?_
                refine Ex_icmp_ne (tgt := 268) dX9_takesE_254 (by decide) (fun h254 => ?_) (fun h254 => ?_)
                · rw [if_neg h36, if_neg (fun z => h198' z.2.2), if_neg (fun z => z.elim h245 (fun z => h254 z.1))] at hR
                  have hnz := hk3 h36
                  have hs0 := stl_len (least := rkI (sgI tk vl)) w q
                  exact t5_takesE d hM tb N hT hc p f hk2 tk vl en w q a pa no hpa te cd wt x4 (by omega) hq hw (fun cd2 wt2 hq2 hw2 => ih1 (gE tb N (gF tb N p)) (gF tb N p) (gT tb N (gF tb N p) en) (gV tb N (gF tb N p) vl) (gD tb N (gF tb N p) en) ((sgI tk vl) :: (stl (rkI (sgI tk vl)) w q).1) (stl (rkI (sgI tk vl)) w q).2 a pa no (upd te pa (teI (rkI (sgI tk vl)) (te pa))) cd2 wt2 (some (.int (sgI tk vl))) hgo (by omega) (by simp only [List.length_cons]; omega) ((opC_s sg_no).trans ((stl_op _ _).trans hop)) hpa hno hq2 hw2 hR)
                · refine Ex_aload_n dX9_takesE_257 rfl ?_
                  refine Ex_getr dX9_takesE_258 fX9_54 hM.1 (mF26 hM).1 ?_
                  refine Ex_iload_n dX9_takesE_261 rfl ?_
                  refine Ex_zald dX9_takesE_262 (mF26 hM).2.1 rfl (by rw [(mF26 hM).2.2]; omega) (by rw [(mF26 hM).2.2]; decide) ?_
                  rw [qa15]
                  refine Ex_if_eq (tgt := 268) dX9_takesE_263 (by decide) (fun h263 => ?_) (fun h263 => ?_)
                  · rw [if_neg h36, if_neg (fun z => h198' z.2.2), if_neg (fun z => z.elim h245 (fun z => z.2 h263))] at hR
                    have hnz := hk3 h36
                    have hs0 := stl_len (least := rkI (sgI tk vl)) w q
                    exact t5_takesE d hM tb N hT hc p f hk2 tk vl en w q a pa no hpa te cd wt x4 (by omega) hq hw (fun cd2 wt2 hq2 hw2 => ih1 (gE tb N (gF tb N p)) (gF tb N p) (gT tb N (gF tb N p) en) (gV tb N (gF tb N p) vl) (gD tb N (gF tb N p) en) ((sgI tk vl) :: (stl (rkI (sgI tk vl)) w q).1) (stl (rkI (sgI tk vl)) w q).2 a pa no (upd te pa (teI (rkI (sgI tk vl)) (te pa))) cd2 wt2 (some (.int (sgI tk vl))) hgo (by omega) (by simp only [List.length_cons]; omega) ((opC_s sg_no).trans ((stl_op _ _).trans hop)) hpa hno hq2 hw2 hR)
                  · refine Ex_iconst (v := nI 0) dX9_takesE_266 (by rfl) ?_
                    refine Ex_iret dX9_takesE_267 (by first | rfl | exact narrow_bI) ?_
                    rw [if_neg h36, if_neg (fun z => h198' z.2.2), if_pos (Or.inr ⟨h254, h263⟩)] at hR
                    subst hR
                    exact ⟨_, rfl, ⟨(bI_f (fun z => by cases z)).symm, _, _, _, _, _, _, _, _, rfl, hq⟩, rfl⟩
            · have h198' : 0 < pa := by
                refine Nat.pos_of_ne_zero (fun e => h198 ?_)
                rw [e]
                exact Int32.le_refl _
              rw [if_neg h36, if_pos ⟨h185, h194, h198'⟩] at hR
              have hnz := hk3 h36
              obtain ⟨w1, hw1⟩ := stl0_top (w := w) (q := q) (by omega)
              have hs0 := stl_len (least := nI 0) w q
              have hs1 : (stl (nI 0) w q).1.length = w1.length + 1 := by rw [hw1]; rfl
              have hs2 := stl_len (least := nI 6) w1 (stl (nI 0) w q).2
              have hsn := noL_le (stl (nI 6) w1 (stl (nI 0) w q).2).1
              have ho : opC w1 + 1 = pa := by rw [← hop, ← stl_op (l := nI 0) w q, hw1, opC_11]
              rw [hw1, List.tail_cons] at hR
              exact t4_takesE d hM tb N hT hc p f hk2 tk vl en w q a pa no hpa te cd wt x4 h198' (by omega) hq hw w1 hw1 (fun cd2 wt2 hq2 hw2 => ih2 (gE tb N (gF tb N p)) (gF tb N p) (gT tb N (gF tb N p) en) (gV tb N (gF tb N p) vl) (gD tb N (gF tb N p) en) (stl (nI 6) w1 (stl (nI 0) w q).2).1 (stl (nI 6) w1 (stl (nI 0) w q).2).2 a (pa - 1) (noL (stl (nI 6) w1 (stl (nI 0) w q).2).1) te cd2 wt2 x4 hgo (by omega) (by omega) ((stl_op _ _).trans (by omega)) (by omega) (by omega) hq2 hw2 hR)
      · exact absurd rfl h40
theorem l9_takesE {T : TC} {A : MI} {G : MG} {b : Nat × Nat} (d : Nat) {M : Nat} {c : Nat → Int32} {ky : Int32} (hM : MSh T G M) (tb : Nat → Nat) (N : Nat) (hT : TpO A M tb N) (hc : c 12 = nI N) (R : Bool × Nat × List Int32 × Nat) : ∀ i, (∀ (p f : Nat) (tk vl en : Int32) (w q : List Int32) (a pa no : Nat) (te cd wt : Nat → Int32) (x4 : Option Value), TkI N p f tk → N < f + i → w.length + q.length ≤ f → opC w = pa → pa ≤ 8 → no ≤ 96 → SR cd q → SR wt w → syE tb N ky i true p f tk vl en w q a pa no te = R → Ex T RX9 cX9_takesE 5 (d + 3) (fm T "takesE" (some .boolean) (fun v I' G' => ∃ r, v = some (.int r) ∧ (r = bI (R.1 = true) ∧ ∃ cd' wt' te' hd' nx' tk' vl' en', I' = PM A M c cd' wt' te' ky (nI R.2.2.1.length) (nI R.2.2.2) hd' nx' (nI R.2.1) tk' vl' en' ∧ SR cd' R.2.2.1) ∧ G' = G)) 28 [some (.ref M), some (.int (nI pa)), some (.int (nI no)), some (.int (nI 1)), x4] [] (PM A M c cd wt te ky (nI q.length) (nI a) (nI w.length) (nI p) (nI f) tk vl en) G b) ∧ (∀ (p f : Nat) (tk vl en : Int32) (w q : List Int32) (a pa no : Nat) (te cd wt : Nat → Int32) (x4 : Option Value), TkI N p f tk → N < f + i → w.length + q.length ≤ f → opC w = pa → pa ≤ 8 → no ≤ 96 → SR cd q → SR wt w → syE tb N ky i false p f tk vl en w q a pa no te = R → Ex T RX9 cX9_takesE 5 (d + 3) (fm T "takesE" (some .boolean) (fun v I' G' => ∃ r, v = some (.int r) ∧ (r = bI (R.1 = true) ∧ ∃ cd' wt' te' hd' nx' tk' vl' en', I' = PM A M c cd' wt' te' ky (nI R.2.2.1.length) (nI R.2.2.2) hd' nx' (nI R.2.1) tk' vl' en' ∧ SR cd' R.2.2.1) ∧ G' = G)) 28 [some (.ref M), some (.int (nI pa)), some (.int (nI no)), some (.int (nI 0)), x4] [] (PM A M c cd wt te ky (nI q.length) (nI a) (nI w.length) (nI p) (nI f) tk vl en) G b) := by
  intro i
  induction i with
  | zero =>
    refine ⟨?_, ?_⟩ <;>
    · intro p f tk vl en w q a pa no te cd wt x4 hk hfu
      exact absurd hk.1 (by have := hk.2.1; omega)
  | succ i ih => exact ⟨u9_takesE d hM tb N hT hc R i ih.1 ih.2, v9_takesE d hM tb N hT hc R i ih.1 ih.2⟩
