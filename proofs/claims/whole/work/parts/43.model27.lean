/-! the memory while a text is read: its start, writes beside it -/
theorem PM_id {A : MI} {M : Nat} : PM A M (A M) (A (M + 13)) (A (M + 14)) (A (M + 15)) (A M 18) (A M 22) (A M 23) (A M 25) (A M 13) (A M 14) (A M 15) (A M 16) (A M 17) = A := by
  have h3 : ar3 A M (A (M + 13)) (A (M + 14)) (A (M + 15)) = A := by
    unfold ar3
    rw [rowI_self, rowI_self, rowI_self]
  have hb : pbU (A M) (A M 18) (A M 22) (A M 23) (A M 25) = A M := by
    funext j
    unfold pbU
    by_cases h : j = 18
    · rw [if_pos h, h]
    by_cases h2 : j = 22
    · rw [if_neg h, if_pos h2, h2]
    by_cases h3 : j = 23
    · rw [if_neg h, if_neg h2, if_pos h3, h3]
    by_cases h4 : j = 25
    · rw [if_neg h, if_neg h2, if_neg h3, if_pos h4, h4]
    rw [if_neg h, if_neg h2, if_neg h3, if_neg h4]
  unfold PM
  rw [h3, hb]
  exact tk_id
theorem qw12 {A : MI} {M : Nat} {c cd wt te : Nat → Int32} {ky cs aa hd nx fr tk vl en : Int32} {v : Int32} : setI (PM A M c cd wt te ky cs aa hd nx fr tk vl en) M 12 v = PM A M (upd c 12 v) cd wt te ky cs aa hd nx fr tk vl en := by
  unfold PM
  rw [setI_row, rowI_s, rowI_r]
  congr 1
  funext j
  by_cases h : j = 12
  · subst h; rfl
  · rw [upd_n h]
    unfold tkU pbU
    rw [upd_n h]
theorem qs1 {A : MI} {M : Nat} {c cd wt te : Nat → Int32} {ky cs aa hd nx fr tk vl en : Int32} {k : Nat} {v : Int32} : setI (PM A M c cd wt te ky cs aa hd nx fr tk vl en) (M + 1) k v = PM (rowI A (M + 1) (upd (A (M + 1)) k v)) M c cd wt te ky cs aa hd nx fr tk vl en := by
  rw [setI_row, qo (by omega) (by omega) (by omega) (by omega)]
  unfold PM ar3
  rw [rowI_c (show M ≠ M + 1 by omega), rowI_c (show M + 15 ≠ M + 1 by omega), rowI_c (show M + 14 ≠ M + 1 by omega), rowI_c (show M + 13 ≠ M + 1 by omega)]
