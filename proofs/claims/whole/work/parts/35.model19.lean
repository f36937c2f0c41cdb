/-! go -/
def goV (b : Nat → Int32) (tb : Nat → Nat) (N f : Nat) (vl en : Int32) : Nat → Int32 :=
  if f = N then tkU b (nI f) (nI f) (nI 0) vl en
  else if isLe tb N f then tkU b (nI (run (isLe tb N) (N - f) f)) (nI f) (if nI f = en then nI 4 else nI 1) (nI (tb f)) (nI (run (isLe tb N) (N - f) f))
  else if isFi tb N f then tkU b (nI (run (isFi tb N) (N - f) f)) (nI f) (if nI f = en ∨ 4 < run (isFi tb N) (N - f) f - f then nI 4 else nI 2) (nI (numR tb N f (N - f) f 0)) (nI (run (isFi tb N) (N - f) f))
  else tkU b (nI (f + 1)) (nI f) (nI 3) (nI (tb f)) en
def goU (b : Nat → Int32) (tb : Nat → Nat) (N p : Nat) (vl en : Int32) : Nat → Int32 := goV b tb N (run (isBl tb N) (N - p) p) vl en
set_option maxRecDepth 100000 in
set_option maxHeartbeats 4000000 in
theorem c9_go {T : TC} {I : MI} {G : MG} (d : Nat) {A : MI} {M : Nat} (hM : MSh T G M) (tb : Nat → Nat) (N : Nat) (hT : TpO A M tb N) (b : Nat → Int32) (hu : b 12 = nI N) (p : Nat) (hp : p ≤ N) (fr tk vl en : Int32)  : OkV T mX9_go (d + 1) [.ref M] (rowI A M (tkU b (nI p) fr tk vl en)) G (fun I' G' => I' = rowI A M (goU b tb N p vl en) ∧ G' = G) := by
  refine Ok_of (own := RX9) (by decide) rfl (cat1 rfl) (Nat.le_of_ble_eq_true rfl) ?_
  show Ex T RX9 cX9_go 2 (d + 1) _ 0 [some (.ref M), none] [] (rowI A M (tkU b (nI p) fr tk vl en)) G (0, 0)
  have h96 := hT.1
  refine b9_go d hM tb N hT b hu fr tk vl en _ ?_ (N - p) p (by omega) rfl
  have hRl := run_le (P := isBl tb N) (N - p) p
  unfold goU
  generalize run (isBl tb N) (N - p) p = R at hRl ⊢
  refine Ex_aload_n dX9_go_38 rfl ?_
  refine Ex_aload_n dX9_go_39 rfl ?_
  refine Ex_geti dX9_go_40 fX9_214 hM.1 ?_
  rw [rd13]
  refine Ex_puti dX9_go_43 fX9_217 rfl rfl rfl hM.1 ?_
  rw [wr14]
  refine Ex_aload_n dX9_go_46 rfl ?_
  refine Ex_geti dX9_go_47 fX9_217 hM.1 ?_
  rw [rd14]
  refine Ex_aload_n dX9_go_50 rfl ?_
  refine Ex_geti dX9_go_51 fX9_220 hM.1 ?_
  rw [rd17]
  refine Ex_icmp_ne (tgt := 61) dX9_go_54 (by decide) (fun h54 => ?_) (fun h54 => ?_)
  · refine Ex_iconst (v := nI 0) dX9_go_61 (by rfl) ?_
    refine Ex_istore_n dX9_go_62 (by decide) rfl ?_
    simp only [st_n0, st_n1, st_n2, st_n3, List.set_cons_zero, List.set_cons_succ]
    refine Ex_aload_n dX9_go_63 rfl ?_
    refine Ex_geti dX9_go_64 fX9_217 hM.1 ?_
    rw [rd14]
    refine Ex_aload_n dX9_go_67 rfl ?_
    refine Ex_geti dX9_go_68 fX9_211 hM.1 ?_
    rw [rd12, hu]
    refine Ex_icmp_neN (by omega) (by omega) (tgt := 82) dX9_go_71 (by decide) (fun h71 => ?_) (fun h71 => ?_)
    · refine Ex_aload_n dX9_go_82 rfl ?_
      refine Ex_aload_n dX9_go_83 rfl ?_
      refine Ex_geti dX9_go_84 fX9_217 hM.1 ?_
      rw [rd14]
      refine Ex_V1p dX9_go_87 sX9_226 hM.1 (Nat.le_of_ble_eq_true rfl) (c9_isLetter d hM tb N hT _ (show tkU b _ _ _ _ _ 12 = nI N from hu) R (by omega)) ?_
      refine Ex_if_eqB (tgt := 154) dX9_go_90 (by decide) (fun h90 => ?_) (fun h90 => ?_)
      · refine Ex_aload_n dX9_go_154 rfl ?_
        refine Ex_aload_n dX9_go_155 rfl ?_
        refine Ex_geti dX9_go_156 fX9_217 hM.1 ?_
        rw [rd14]
        refine Ex_V1p dX9_go_159 sX9_232 hM.1 (Nat.le_of_ble_eq_true rfl) (c9_isFigure d hM tb N hT _ (show tkU b _ _ _ _ _ 12 = nI N from hu) R (by omega)) ?_
        refine Ex_if_eqB (tgt := 275) dX9_go_162 (by decide) (fun h162 => ?_) (fun h162 => ?_)
        · refine Ex_aload_n dX9_go_275 rfl ?_
          refine Ex_iconst (v := nI 3) dX9_go_276 (by rfl) ?_
          refine Ex_puti dX9_go_277 fX9_223 rfl rfl rfl hM.1 ?_
          rw [wr15]
          refine Ex_aload_n dX9_go_280 rfl ?_
          refine Ex_aload_n dX9_go_281 rfl ?_
          refine Ex_getr dX9_go_282 fX9_38 hM.1 (mF11 hM).1 ?_
          refine Ex_aload_n dX9_go_285 rfl ?_
          refine Ex_geti dX9_go_286 fX9_217 hM.1 ?_
          rw [rd14]
          refine Ex_iald dX9_go_289 (mF11 hM).2.1 rfl (by rw [(mF11 hM).2.2]; omega) (by rw [(mF11 hM).2.2]; decide) ?_
          refine Ex_top (show _ = nI (tb R) by rw [rowI_n (by omega)]; exact (hT.2 R (by omega)).1) ?_
          refine Ex_puti dX9_go_290 fX9_229 rfl rfl rfl hM.1 ?_
          rw [wr16]
          refine Ex_aload_n dX9_go_293 rfl ?_
          refine Ex_dup dX9_go_294 rfl ?_
          refine Ex_geti dX9_go_295 fX9_214 hM.1 ?_
          rw [rd13]
          refine Ex_iconst (v := nI 1) dX9_go_298 (by rfl) ?_
          first | with_reducible refine Ex_iaddN dX9_go_299 ?_ | refine Ex_iadd dX9_go_299 ?_
          refine Ex_puti dX9_go_300 fX9_214 rfl rfl rfl hM.1 ?_
          rw [wr13]
          refine Ex_vret dX9_go_303 ?_
          exact ⟨rfl, (by unfold goV; rw [if_neg h71, if_neg h90, if_neg h162]), rfl⟩
        · refine Ex_aload_n dX9_go_165 rfl ?_
          refine Ex_iconst (v := nI 0) dX9_go_166 (by rfl) ?_
          refine Ex_puti dX9_go_167 fX9_229 rfl rfl rfl hM.1 ?_
          rw [wr16]
          have hRe := run_le (P := isFi tb N) (N - R) R
          refine n9_go d hM tb N hT b hu R _ _ _ _ _ ?_ (N - R) R 0 (by omega) (Nat.le_refl _) rfl rfl
          refine Ex_aload_n dX9_go_238 rfl ?_
          refine Ex_iload_n dX9_go_239 rfl ?_
          refine Ex_if_ne (tgt := 256) dX9_go_240 (by decide) (fun h240 => ?_) (fun h240 => ?_)
          · exact absurd rfl h240
          · refine Ex_aload_n dX9_go_243 rfl ?_
            refine Ex_geti dX9_go_244 fX9_214 hM.1 ?_
            rw [rd13]
            refine Ex_aload_n dX9_go_247 rfl ?_
            refine Ex_geti dX9_go_248 fX9_217 hM.1 ?_
            rw [rd14]
            refine Ex_isub dX9_go_251 ?_
            refine Ex_top (pk_sub (by omega)) ?_
            refine Ex_iconst (v := nI 4) dX9_go_252 (by rfl) ?_
            refine Ex_icmp_leN (by omega) (by omega) (tgt := 260) dX9_go_253 (by decide) (fun h253 => ?_) (fun h253 => ?_)
            · refine Ex_iconst (v := nI 2) dX9_go_260 (by rfl) ?_
              refine Ex_puti dX9_go_261 fX9_223 rfl rfl rfl hM.1 ?_
              rw [wr15]
              refine Ex_aload_n dX9_go_264 rfl ?_
              refine Ex_aload_n dX9_go_265 rfl ?_
              refine Ex_geti dX9_go_266 fX9_214 hM.1 ?_
              rw [rd13]
              refine Ex_puti dX9_go_269 fX9_220 rfl rfl rfl hM.1 ?_
              rw [wr17]
              refine Ex_goto (tgt := 303) dX9_go_272 (by decide) ?_
              refine Ex_vret dX9_go_303 ?_
              exact ⟨rfl, (by unfold goV; rw [if_neg h71, if_neg h90, if_pos h162, if_neg (fun q => q.elim h54 (fun q => by omega))]), rfl⟩
            · refine Ex_iconst (v := nI 4) dX9_go_256 (by rfl) ?_
              refine Ex_goto (tgt := 261) dX9_go_257 (by decide) ?_
              refine Ex_puti dX9_go_261 fX9_223 rfl rfl rfl hM.1 ?_
              rw [wr15]
              refine Ex_aload_n dX9_go_264 rfl ?_
              refine Ex_aload_n dX9_go_265 rfl ?_
              refine Ex_geti dX9_go_266 fX9_214 hM.1 ?_
              rw [rd13]
              refine Ex_puti dX9_go_269 fX9_220 rfl rfl rfl hM.1 ?_
              rw [wr17]
              refine Ex_goto (tgt := 303) dX9_go_272 (by decide) ?_
              refine Ex_vret dX9_go_303 ?_
              exact ⟨rfl, (by unfold goV; rw [if_neg h71, if_neg h90, if_pos h162, if_pos (Or.inr (by omega))]), rfl⟩
      · refine l9_go d hM tb N hT b hu _ _ _ _ _ _ ?_ (N - R) R (by omega) rfl
        refine Ex_aload_n dX9_go_117 rfl ?_
        refine Ex_iload_n dX9_go_118 rfl ?_
        refine Ex_if_eq (tgt := 126) dX9_go_119 (by decide) (fun h119 => ?_) (fun h119 => ?_)
        · refine Ex_iconst (v := nI 1) dX9_go_126 (by rfl) ?_
          refine Ex_puti dX9_go_127 fX9_223 rfl rfl rfl hM.1 ?_
          rw [wr15]
          refine Ex_aload_n dX9_go_130 rfl ?_
          refine Ex_aload_n dX9_go_131 rfl ?_
          refine Ex_getr dX9_go_132 fX9_38 hM.1 (mF11 hM).1 ?_
          refine Ex_aload_n dX9_go_135 rfl ?_
          refine Ex_geti dX9_go_136 fX9_217 hM.1 ?_
          rw [rd14]
          refine Ex_iald dX9_go_139 (mF11 hM).2.1 rfl (by rw [(mF11 hM).2.2]; omega) (by rw [(mF11 hM).2.2]; decide) ?_
          refine Ex_top (show _ = nI (tb R) by rw [rowI_n (by omega)]; exact (hT.2 R (by omega)).1) ?_
          refine Ex_puti dX9_go_140 fX9_229 rfl rfl rfl hM.1 ?_
          rw [wr16]
          refine Ex_aload_n dX9_go_143 rfl ?_
          refine Ex_aload_n dX9_go_144 rfl ?_
          refine Ex_geti dX9_go_145 fX9_214 hM.1 ?_
          rw [rd13]
          refine Ex_puti dX9_go_148 fX9_220 rfl rfl rfl hM.1 ?_
          rw [wr17]
          refine Ex_goto (tgt := 303) dX9_go_151 (by decide) ?_
          refine Ex_vret dX9_go_303 ?_
          exact ⟨rfl, (by unfold goV; rw [if_neg h71, if_pos h90, if_neg h54]), rfl⟩
        · exact absurd rfl h119
    · refine Ex_aload_n dX9_go_74 rfl ?_
      refine Ex_iconst (v := nI 0) dX9_go_75 (by rfl) ?_
      refine Ex_puti dX9_go_76 fX9_223 rfl rfl rfl hM.1 ?_
      rw [wr15]
      refine Ex_goto (tgt := 303) dX9_go_79 (by decide) ?_
      refine Ex_vret dX9_go_303 ?_
      exact ⟨rfl, (by unfold goV; rw [if_pos h71]), rfl⟩
  · refine Ex_iconst (v := nI 1) dX9_go_57 (by rfl) ?_
    refine Ex_goto (tgt := 62) dX9_go_58 (by decide) ?_
    refine Ex_istore_n dX9_go_62 (by decide) rfl ?_
    simp only [st_n0, st_n1, st_n2, st_n3, List.set_cons_zero, List.set_cons_succ]
    refine Ex_aload_n dX9_go_63 rfl ?_
    refine Ex_geti dX9_go_64 fX9_217 hM.1 ?_
    rw [rd14]
    refine Ex_aload_n dX9_go_67 rfl ?_
    refine Ex_geti dX9_go_68 fX9_211 hM.1 ?_
    rw [rd12, hu]
    refine Ex_icmp_neN (by omega) (by omega) (tgt := 82) dX9_go_71 (by decide) (fun h71 => ?_) (fun h71 => ?_)
    · refine Ex_aload_n dX9_go_82 rfl ?_
      refine Ex_aload_n dX9_go_83 rfl ?_
      refine Ex_geti dX9_go_84 fX9_217 hM.1 ?_
      rw [rd14]
      refine Ex_V1p dX9_go_87 sX9_226 hM.1 (Nat.le_of_ble_eq_true rfl) (c9_isLetter d hM tb N hT _ (show tkU b _ _ _ _ _ 12 = nI N from hu) R (by omega)) ?_
      refine Ex_if_eqB (tgt := 154) dX9_go_90 (by decide) (fun h90 => ?_) (fun h90 => ?_)
      · refine Ex_aload_n dX9_go_154 rfl ?_
        refine Ex_aload_n dX9_go_155 rfl ?_
        refine Ex_geti dX9_go_156 fX9_217 hM.1 ?_
        rw [rd14]
        refine Ex_V1p dX9_go_159 sX9_232 hM.1 (Nat.le_of_ble_eq_true rfl) (c9_isFigure d hM tb N hT _ (show tkU b _ _ _ _ _ 12 = nI N from hu) R (by omega)) ?_
        refine Ex_if_eqB (tgt := 275) dX9_go_162 (by decide) (fun h162 => ?_) (fun h162 => ?_)
        · refine Ex_aload_n dX9_go_275 rfl ?_
          refine Ex_iconst (v := nI 3) dX9_go_276 (by rfl) ?_
          refine Ex_puti dX9_go_277 fX9_223 rfl rfl rfl hM.1 ?_
          rw [wr15]
          refine Ex_aload_n dX9_go_280 rfl ?_
          refine Ex_aload_n dX9_go_281 rfl ?_
          refine Ex_getr dX9_go_282 fX9_38 hM.1 (mF11 hM).1 ?_
          refine Ex_aload_n dX9_go_285 rfl ?_
          refine Ex_geti dX9_go_286 fX9_217 hM.1 ?_
          rw [rd14]
          refine Ex_iald dX9_go_289 (mF11 hM).2.1 rfl (by rw [(mF11 hM).2.2]; omega) (by rw [(mF11 hM).2.2]; decide) ?_
          refine Ex_top (show _ = nI (tb R) by rw [rowI_n (by omega)]; exact (hT.2 R (by omega)).1) ?_
          refine Ex_puti dX9_go_290 fX9_229 rfl rfl rfl hM.1 ?_
          rw [wr16]
          refine Ex_aload_n dX9_go_293 rfl ?_
          refine Ex_dup dX9_go_294 rfl ?_
          refine Ex_geti dX9_go_295 fX9_214 hM.1 ?_
          rw [rd13]
          refine Ex_iconst (v := nI 1) dX9_go_298 (by rfl) ?_
          first | with_reducible refine Ex_iaddN dX9_go_299 ?_ | refine Ex_iadd dX9_go_299 ?_
          refine Ex_puti dX9_go_300 fX9_214 rfl rfl rfl hM.1 ?_
          rw [wr13]
          refine Ex_vret dX9_go_303 ?_
          exact ⟨rfl, (by unfold goV; rw [if_neg h71, if_neg h90, if_neg h162]), rfl⟩
        · refine Ex_aload_n dX9_go_165 rfl ?_
          refine Ex_iconst (v := nI 0) dX9_go_166 (by rfl) ?_
          refine Ex_puti dX9_go_167 fX9_229 rfl rfl rfl hM.1 ?_
          rw [wr16]
          have hRe := run_le (P := isFi tb N) (N - R) R
          refine n9_go d hM tb N hT b hu R _ _ _ _ _ ?_ (N - R) R 0 (by omega) (Nat.le_refl _) rfl rfl
          refine Ex_aload_n dX9_go_238 rfl ?_
          refine Ex_iload_n dX9_go_239 rfl ?_
          refine Ex_if_ne (tgt := 256) dX9_go_240 (by decide) (fun h240 => ?_) (fun h240 => ?_)
          · refine Ex_iconst (v := nI 4) dX9_go_256 (by rfl) ?_
            refine Ex_goto (tgt := 261) dX9_go_257 (by decide) ?_
            refine Ex_puti dX9_go_261 fX9_223 rfl rfl rfl hM.1 ?_
            rw [wr15]
            refine Ex_aload_n dX9_go_264 rfl ?_
            refine Ex_aload_n dX9_go_265 rfl ?_
            refine Ex_geti dX9_go_266 fX9_214 hM.1 ?_
            rw [rd13]
            refine Ex_puti dX9_go_269 fX9_220 rfl rfl rfl hM.1 ?_
            rw [wr17]
            refine Ex_goto (tgt := 303) dX9_go_272 (by decide) ?_
            refine Ex_vret dX9_go_303 ?_
            exact ⟨rfl, (by unfold goV; rw [if_neg h71, if_neg h90, if_pos h162, if_pos (Or.inl h54)]), rfl⟩
          · exact absurd h240 (by decide)
      · refine l9_go d hM tb N hT b hu _ _ _ _ _ _ ?_ (N - R) R (by omega) rfl
        refine Ex_aload_n dX9_go_117 rfl ?_
        refine Ex_iload_n dX9_go_118 rfl ?_
        refine Ex_if_eq (tgt := 126) dX9_go_119 (by decide) (fun h119 => ?_) (fun h119 => ?_)
        · exact absurd h119 (by decide)
        · refine Ex_iconst (v := nI 4) dX9_go_122 (by rfl) ?_
          refine Ex_goto (tgt := 127) dX9_go_123 (by decide) ?_
          refine Ex_puti dX9_go_127 fX9_223 rfl rfl rfl hM.1 ?_
          rw [wr15]
          refine Ex_aload_n dX9_go_130 rfl ?_
          refine Ex_aload_n dX9_go_131 rfl ?_
          refine Ex_getr dX9_go_132 fX9_38 hM.1 (mF11 hM).1 ?_
          refine Ex_aload_n dX9_go_135 rfl ?_
          refine Ex_geti dX9_go_136 fX9_217 hM.1 ?_
          rw [rd14]
          refine Ex_iald dX9_go_139 (mF11 hM).2.1 rfl (by rw [(mF11 hM).2.2]; omega) (by rw [(mF11 hM).2.2]; decide) ?_
          refine Ex_top (show _ = nI (tb R) by rw [rowI_n (by omega)]; exact (hT.2 R (by omega)).1) ?_
          refine Ex_puti dX9_go_140 fX9_229 rfl rfl rfl hM.1 ?_
          rw [wr16]
          refine Ex_aload_n dX9_go_143 rfl ?_
          refine Ex_aload_n dX9_go_144 rfl ?_
          refine Ex_geti dX9_go_145 fX9_214 hM.1 ?_
          rw [rd13]
          refine Ex_puti dX9_go_148 fX9_220 rfl rfl rfl hM.1 ?_
          rw [wr17]
          refine Ex_goto (tgt := 303) dX9_go_151 (by decide) ?_
          refine Ex_vret dX9_go_303 ?_
          exact ⟨rfl, (by unfold goV; rw [if_neg h71, if_pos h90, if_pos h54]), rfl⟩
    · refine Ex_aload_n dX9_go_74 rfl ?_
      refine Ex_iconst (v := nI 0) dX9_go_75 (by rfl) ?_
      refine Ex_puti dX9_go_76 fX9_223 rfl rfl rfl hM.1 ?_
      rw [wr15]
      refine Ex_goto (tgt := 303) dX9_go_79 (by decide) ?_
      refine Ex_vret dX9_go_303 ?_
      exact ⟨rfl, (by unfold goV; rw [if_pos h71]), rfl⟩
