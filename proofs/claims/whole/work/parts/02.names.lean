/-! ===== BEGIN words of one list among another's, by their places ===== -/
theorem goodIn_r {big : List Cond} (ws : List Cond) (ps : List Nat) (hp : ws = ps.filterMap (fun i => big[i]?)) (h : ws.all goodWord = true) : GoodIn big ws := by
  intro w hw
  have h1 := List.all_eq_true.mp h w hw
  rw [hp] at hw
  obtain ⟨i, -, hi⟩ := List.mem_filterMap.mp hw
  have hm : w ∈ big := by first | exact List.mem_of_getElem? hi | exact List.getElem?_mem hi
  exact ⟨hm, good_of_word h1⟩
theorem goodIn_app {big a b : List Cond} (ha : GoodIn big a) (hb : GoodIn big b) : GoodIn big (a ++ b) := fun w h => (List.mem_append.mp h).elim (ha w) (hb w)
theorem goodIn_ca {big a b : List Cond} {c : Cond} (ha : GoodIn big (c :: a)) (hb : GoodIn big b) : GoodIn big (c :: (a ++ b)) := fun w h => (List.mem_cons.mp h).elim (fun e => ha w (List.mem_cons.mpr (Or.inl e))) (fun h => (List.mem_append.mp h).elim (fun h => ha w (List.mem_cons.mpr (Or.inr h))) (hb w))
theorem goodIn_sub {big ws : List Cond} (hm : ∀ w ∈ ws, w ∈ big) (h : ws.all goodWord = true) : GoodIn big ws := fun w hw => ⟨hm w hw, good_of_word (List.all_eq_true.mp h w hw)⟩
/-! ===== END ===== -/

/-! ===== BEGIN new T[n][m]: the outer array a place, the inner ones among the pooled ===== -/
/-- f, but v at every address of l -/
def vr_up {α : Type} (f : Nat → α) (l : List Nat) (v : α) : Nat → α := fun a => if a ∈ l then v else f a
theorem vr_up_in {α : Type} {f : Nat → α} {l : List Nat} {v : α} {a : Nat} (h : a ∈ l) : vr_up f l v a = v := if_pos h
theorem vr_up_ne {α : Type} {f : Nat → α} {l : List Nat} {v : α} {a : Nat} (h : a ∉ l) : vr_up f l v a = f a := if_neg h
theorem vr_rows {L l : List Nat} {f : Nat → va_E} {e : va_E} (h : ∀ a, a ∈ l → a ∉ L) : va_pl L f ++ l.map (fun a => (a, e)) = va_pl (L ++ l) (vr_up f l e) := by
  unfold va_pl
  rw [List.map_append]
  congr 1
  · apply List.map_congr_left
    intro a ha
    rw [vr_up_ne (fun q => h a q ha)]
  · apply List.map_congr_left
    intro a ha
    rw [vr_up_in ha]
theorem vr_lay {X rows : va_W} {x : Nat × va_E} {pl : va_W} {D : va_G} {cl : List vw_C} {H : Heap} (hP : va_P D cl (((X ++ pl) ++ [x]) ++ rows) H) : va_P D cl ((X ++ [x]) ++ (pl ++ rows)) H := by
  rw [List.append_assoc (X ++ pl)] at hP
  have h := va_P.swap hP
  rw [← List.append_assoc X] at h
  have h2 := va_P.swap h
  rw [List.append_assoc (X ++ [x])] at h2
  exact h2
theorem vr_layD {X rows : va_W} {x : Nat × va_E} {pl : va_W} {A : Nat → Prop} (hD : va_D A (((X ++ pl) ++ [x]) ++ rows)) : va_D A ((X ++ [x]) ++ (pl ++ rows)) := by
  rw [List.append_assoc (X ++ pl)] at hD
  have h := va_D.swap hD
  rw [← List.append_assoc X] at h
  have h2 := va_D.swap h
  rw [List.append_assoc (X ++ [x])] at h2
  exact h2
def va_AOA (t : FieldType) (U : State) : Prop := (Cond.arrayOver (.array t)).before #[] U = true
theorem va_AOA.use {t : FieldType} {A : Array Value} {U : State} (h : va_AOA t U) : (Cond.arrayOver (.array t)).before A U = true := h
/-! ===== END ===== -/

/-! ===== BEGIN printed: names, fields, word lists, decode rows ===== -/
def RX0 : String := "DustLayers$Grammar"
def TX0 : u_T := fun k => match k with
  | 0 => ("DustLayers$Grammar", "tape", "LDustLayers$Tape;", true)
  | 1 => ("DustLayers$Grammar", "steps", "[I", true)
  | 2 => ("DustLayers$Grammar", "length", "I", false)
  | 3 => ("DustLayers$Grammar", "atoms", "I", false)
  | 4 => ("DustLayers$Grammar", "key", "I", false)
  | 5 => ("DustLayers$Grammar", "start", "I", false)
  | 6 => ("DustLayers$Grammar", "end", "I", false)
  | _ => ("DustLayers$Grammar", "sort", "I", false)
def tyX0 : Nat → FieldType := fun k => match k with
  | 0 => .object "DustLayers$Tape"
  | 1 => .array .int
  | 2 => .int
  | 3 => .int
  | 4 => .int
  | 5 => .int
  | 6 => .int
  | _ => .int
abbrev wsX00 : List Cond := u_ws RX0 TX0 8
theorem nmX0 : ∀ a, a < 8 → ∀ b, b < 8 → a ≠ b → (TX0 a).2.1 ≠ (TX0 b).2.1 := by decide +kernel
theorem tyX0_ok : ∀ k, k < 8 → parseFieldDescriptor (TX0 k).2.2.1 = some (tyX0 k) := by decide +kernel
abbrev cX0_init : ByteArray := prog_2_method_1_code
def yX0_init : MethodName := ⟨RX0, "<init>", "(LDustLayers$Tape;)V"⟩
abbrev cX0_parseTape : ByteArray := prog_2_method_2_code
def yX0_parseTape : MethodName := ⟨RX0, "parseTape", "()Z"⟩
abbrev cX0_makeText : ByteArray := prog_2_method_3_code
def yX0_makeText : MethodName := ⟨RX0, "makeText", "()LDustLayers$Text;"⟩
abbrev cX0_parseLevel : ByteArray := prog_2_method_4_code
def yX0_parseLevel : MethodName := ⟨RX0, "parseLevel", "(III)Z"⟩
abbrev cX0_parsePiece : ByteArray := prog_2_method_5_code
def yX0_parsePiece : MethodName := ⟨RX0, "parsePiece", "(II)Z"⟩
abbrev cX0_parseAtom : ByteArray := prog_2_method_6_code
def yX0_parseAtom : MethodName := ⟨RX0, "parseAtom", "()Z"⟩
abbrev cX0_numberHere : ByteArray := prog_2_method_7_code
def yX0_numberHere : MethodName := ⟨RX0, "numberHere", "()I"⟩
abbrev cX0_nameHere : ByteArray := prog_2_method_8_code
def yX0_nameHere : MethodName := ⟨RX0, "nameHere", "()I"⟩
abbrev cX0_keyHere : ByteArray := prog_2_method_9_code
def yX0_keyHere : MethodName := ⟨RX0, "keyHere", "()I"⟩
abbrev cX0_isWord : ByteArray := prog_2_method_10_code
def yX0_isWord : MethodName := ⟨RX0, "isWord", "(Ljava/lang/String;)Z"⟩
abbrev cX0_isSign : ByteArray := prog_2_method_11_code
def yX0_isSign : MethodName := ⟨RX0, "isSign", "(I)Z"⟩
abbrev cX0_joins : ByteArray := prog_2_method_12_code
def yX0_joins : MethodName := ⟨RX0, "joins", "(I)Z"⟩
abbrev cX0_isGlued : ByteArray := prog_2_method_13_code
def yX0_isGlued : MethodName := ⟨RX0, "isGlued", "()Z"⟩
abbrev cX0_addStep : ByteArray := prog_2_method_14_code
def yX0_addStep : MethodName := ⟨RX0, "addStep", "(I)V"⟩
abbrev cX0_advance : ByteArray := prog_2_method_15_code
def yX0_advance : MethodName := ⟨RX0, "advance", "()V"⟩
abbrev cX0_sortOf : ByteArray := prog_2_method_16_code
def yX0_sortOf : MethodName := ⟨RX0, "sortOf", "(I)I"⟩
def RX1 : String := "DustLayers$Hall"
def TX1 : u_T := fun k => match k with
  | 0 => ("DustLayers$Hall", "surfaces", "[LDustLayers$Surface;", true)
  | 1 => ("DustLayers$Hall", "many", "I", false)
  | 2 => ("DustLayers$Hall", "broom", "I", false)
  | 3 => ("DustLayers$Hall", "draught", "I", false)
  | 4 => ("DustLayers$Hall", "swept", "I", false)
  | 5 => ("DustLayers$Hall", "blown", "I", false)
  | 6 => ("DustLayers$Hall", "day", "I", false)
  | 7 => ("DustLayers$Hall", "z", "I", false)
  | 8 => ("DustLayers$Hall", "texts", "[LDustLayers$Text;", true)
  | 9 => ("DustLayers$Hall", "textCount", "I", false)
  | _ => ("DustLayers$Hall", "standing", "[I", true)
def tyX1 : Nat → FieldType := fun k => match k with
  | 0 => .array (.object "DustLayers$Surface")
  | 1 => .int
  | 2 => .int
  | 3 => .int
  | 4 => .int
  | 5 => .int
  | 6 => .int
  | 7 => .int
  | 8 => .array (.object "DustLayers$Text")
  | 9 => .int
  | _ => .array .int
abbrev wsX10 : List Cond := u_ws RX1 TX1 11
theorem nmX1 : ∀ a, a < 11 → ∀ b, b < 11 → a ≠ b → (TX1 a).2.1 ≠ (TX1 b).2.1 := by decide +kernel
theorem tyX1_ok : ∀ k, k < 11 → parseFieldDescriptor (TX1 k).2.2.1 = some (tyX1 k) := by decide +kernel
abbrev cX1_init : ByteArray := prog_3_method_1_code
def yX1_init : MethodName := ⟨RX1, "<init>", "([LDustLayers$Text;)V"⟩
abbrev cX1_become : ByteArray := prog_3_method_2_code
def yX1_become : MethodName := ⟨RX1, "become", "(LDustLayers$Hall;)V"⟩
abbrev cX1_addSurface : ByteArray := prog_3_method_3_code
def yX1_addSurface : MethodName := ⟨RX1, "addSurface", "(II)I"⟩
abbrev cX1_addText : ByteArray := prog_3_method_4_code
def yX1_addText : MethodName := ⟨RX1, "addText", "(LDustLayers$Text;)I"⟩
abbrev cX1_standingText : ByteArray := prog_3_method_5_code
def yX1_standingText : MethodName := ⟨RX1, "standingText", "(I)LDustLayers$Text;"⟩
abbrev cX1_draw : ByteArray := prog_3_method_6_code
def yX1_draw : MethodName := ⟨RX1, "draw", "()I"⟩
abbrev cX1_passDays : ByteArray := prog_3_method_7_code
def yX1_passDays : MethodName := ⟨RX1, "passDays", "(I)V"⟩
abbrev cX1_passDay : ByteArray := prog_3_method_8_code
def yX1_passDay : MethodName := ⟨RX1, "passDay", "()V"⟩
abbrev cX1_settleWhereCaught : ByteArray := prog_3_method_9_code
def yX1_settleWhereCaught : MethodName := ⟨RX1, "settleWhereCaught", "(I)V"⟩
abbrev cX1_blowFrom : ByteArray := prog_3_method_10_code
def yX1_blowFrom : MethodName := ⟨RX1, "blowFrom", "(I)V"⟩
abbrev cX1_sweep : ByteArray := prog_3_method_11_code
def yX1_sweep : MethodName := ⟨RX1, "sweep", "(LDustLayers$Surface;)I"⟩
abbrev cX1_broomTakesFrom : ByteArray := prog_3_method_12_code
def yX1_broomTakesFrom : MethodName := ⟨RX1, "broomTakesFrom", "(LDustLayers$Surface;)I"⟩
abbrev cX1_allPressed : ByteArray := prog_3_method_13_code
def yX1_allPressed : MethodName := ⟨RX1, "allPressed", "()I"⟩
abbrev cX1_allLayers : ByteArray := prog_3_method_14_code
def yX1_allLayers : MethodName := ⟨RX1, "allLayers", "()I"⟩
abbrev cX1_bareSet : ByteArray := prog_3_method_15_code
def yX1_bareSet : MethodName := ⟨RX1, "bareSet", "()I"⟩
abbrev cX1_dayRowIsGone : ByteArray := prog_3_method_16_code
def yX1_dayRowIsGone : MethodName := ⟨RX1, "dayRowIsGone", "(LDustLayers$Sheet;LDustLayers$Surface;)I"⟩
abbrev cX1_addDifferences : ByteArray := prog_3_method_17_code
def yX1_addDifferences : MethodName := ⟨RX1, "addDifferences", "(LDustLayers$Sheet;[I)V"⟩
def RX2 : String := "DustLayers$Readings"
def TX2 : u_T := fun k => match k with
  | 0 => ("DustLayers$Readings", "longest", "[[I", true)
  | 1 => ("DustLayers$Readings", "common", "[I", true)
  | 2 => ("DustLayers$Readings", "fewest", "[I", true)
  | _ => ("DustLayers$Readings", "differences", "[I", true)
def tyX2 : Nat → FieldType := fun k => match k with
  | 0 => .array (.array .int)
  | 1 => .array .int
  | 2 => .array .int
  | _ => .array .int
abbrev wsX20 : List Cond := u_ws RX2 TX2 4
theorem nmX2 : ∀ a, a < 4 → ∀ b, b < 4 → a ≠ b → (TX2 a).2.1 ≠ (TX2 b).2.1 := by decide +kernel
theorem tyX2_ok : ∀ k, k < 4 → parseFieldDescriptor (TX2 k).2.2.1 = some (tyX2 k) := by decide +kernel
abbrev cX2_init : ByteArray := prog_4_method_1_code
def yX2_init : MethodName := ⟨RX2, "<init>", "()V"⟩
abbrev cX2_commonLength : ByteArray := prog_4_method_2_code
def yX2_commonLength : MethodName := ⟨RX2, "commonLength", "(LDustLayers$Surface;LDustLayers$Surface;)I"⟩
abbrev cX2_findCommon : ByteArray := prog_4_method_3_code
def yX2_findCommon : MethodName := ⟨RX2, "findCommon", "(LDustLayers$Surface;LDustLayers$Surface;)I"⟩
abbrev cX2_leastDeedThatKeeps : ByteArray := prog_4_method_4_code
def yX2_leastDeedThatKeeps : MethodName := ⟨RX2, "leastDeedThatKeeps", "(ILDustLayers$Surface;ILDustLayers$Surface;I)I"⟩
abbrev cX2_fewestToHide : ByteArray := prog_4_method_5_code
def yX2_fewestToHide : MethodName := ⟨RX2, "fewestToHide", "(LDustLayers$Sheet;LDustLayers$Surface;)I"⟩
def RX3 : String := "DustLayers$Sheet"
def TX3 : u_T := fun k => match k with
  | 0 => ("DustLayers$Sheet", "sort", "I", false)
  | 1 => ("DustLayers$Sheet", "many", "I", false)
  | _ => ("DustLayers$Sheet", "places", "[I", true)
def tyX3 : Nat → FieldType := fun k => match k with
  | 0 => .int
  | 1 => .int
  | _ => .array .int
abbrev wsX30 : List Cond := u_ws RX3 TX3 3
theorem nmX3 : ∀ a, a < 3 → ∀ b, b < 3 → a ≠ b → (TX3 a).2.1 ≠ (TX3 b).2.1 := by decide +kernel
theorem tyX3_ok : ∀ k, k < 3 → parseFieldDescriptor (TX3 k).2.2.1 = some (tyX3 k) := by decide +kernel
abbrev cX3_init : ByteArray := prog_5_method_1_code
def yX3_init : MethodName := ⟨RX3, "<init>", "()V"⟩
abbrev cX3_begin : ByteArray := prog_5_method_2_code
def yX3_begin : MethodName := ⟨RX3, "begin", "(II)V"⟩
abbrev cX3_become : ByteArray := prog_5_method_3_code
def yX3_become : MethodName := ⟨RX3, "become", "(LDustLayers$Sheet;)V"⟩
abbrev cX3_isNumber : ByteArray := prog_5_method_4_code
def yX3_isNumber : MethodName := ⟨RX3, "isNumber", "(I)Z"⟩
abbrev cX3_tellsDeeds : ByteArray := prog_5_method_5_code
def yX3_tellsDeeds : MethodName := ⟨RX3, "tellsDeeds", "()Z"⟩
abbrev cX3_hasPlaces : ByteArray := prog_5_method_6_code
def yX3_hasPlaces : MethodName := ⟨RX3, "hasPlaces", "(II)Z"⟩
def RX4 : String := "DustLayers$Slot"
def TX4 : u_T := fun k => match k with
  | 0 => ("DustLayers$Slot", "thing", "I", false)
  | 1 => ("DustLayers$Slot", "surface", "LDustLayers$Surface;", true)
  | 2 => ("DustLayers$Slot", "sheet", "LDustLayers$Sheet;", true)
  | _ => ("DustLayers$Slot", "number", "I", false)
def tyX4 : Nat → FieldType := fun k => match k with
  | 0 => .int
  | 1 => .object "DustLayers$Surface"
  | 2 => .object "DustLayers$Sheet"
  | _ => .int
abbrev wsX40 : List Cond := u_ws RX4 TX4 4
theorem nmX4 : ∀ a, a < 4 → ∀ b, b < 4 → a ≠ b → (TX4 a).2.1 ≠ (TX4 b).2.1 := by decide +kernel
theorem tyX4_ok : ∀ k, k < 4 → parseFieldDescriptor (TX4 k).2.2.1 = some (tyX4 k) := by decide +kernel
abbrev cX4_init : ByteArray := prog_6_method_1_code
def yX4_init : MethodName := ⟨RX4, "<init>", "()V"⟩
abbrev cX4_refusalAs : ByteArray := prog_6_method_2_code
def yX4_refusalAs : MethodName := ⟨RX4, "refusalAs", "(I)I"⟩
def RX5 : String := "DustLayers$Surface"
def TX5 : u_T := fun k => match k with
  | 0 => ("DustLayers$Surface", "kind", "I", false)
  | 1 => ("DustLayers$Surface", "damp", "I", false)
  | 2 => ("DustLayers$Surface", "many", "I", false)
  | 3 => ("DustLayers$Surface", "pressed", "I", false)
  | _ => ("DustLayers$Surface", "deeds", "[I", true)
def tyX5 : Nat → FieldType := fun k => match k with
  | 0 => .int
  | 1 => .int
  | 2 => .int
  | 3 => .int
  | _ => .array .int
abbrev wsX50 : List Cond := u_ws RX5 TX5 5
theorem nmX5 : ∀ a, a < 5 → ∀ b, b < 5 → a ≠ b → (TX5 a).2.1 ≠ (TX5 b).2.1 := by decide +kernel
theorem tyX5_ok : ∀ k, k < 5 → parseFieldDescriptor (TX5 k).2.2.1 = some (tyX5 k) := by decide +kernel
abbrev cX5_init : ByteArray := prog_7_method_1_code
def yX5_init : MethodName := ⟨RX5, "<init>", "()V"⟩
abbrev cX5_begin : ByteArray := prog_7_method_2_code
def yX5_begin : MethodName := ⟨RX5, "begin", "(II)V"⟩
abbrev cX5_become : ByteArray := prog_7_method_3_code
def yX5_become : MethodName := ⟨RX5, "become", "(LDustLayers$Surface;)V"⟩
abbrev cX5_settle : ByteArray := prog_7_method_4_code
def yX5_settle : MethodName := ⟨RX5, "settle", "(I)V"⟩
abbrev cX5_settleRow : ByteArray := prog_7_method_5_code
def yX5_settleRow : MethodName := ⟨RX5, "settleRow", "(LDustLayers$Sheet;)V"⟩
abbrev cX5_takeNewest : ByteArray := prog_7_method_6_code
def yX5_takeNewest : MethodName := ⟨RX5, "takeNewest", "(I)I"⟩
abbrev cX5_liftOut : ByteArray := prog_7_method_7_code
def yX5_liftOut : MethodName := ⟨RX5, "liftOut", "(I)I"⟩
abbrev cX5_isOf : ByteArray := prog_7_method_8_code
def yX5_isOf : MethodName := ⟨RX5, "isOf", "(I)Z"⟩
abbrev cX5_catches : ByteArray := prog_7_method_9_code
def yX5_catches : MethodName := ⟨RX5, "catches", "(II)Z"⟩
abbrev cX5_caughtSet : ByteArray := prog_7_method_10_code
def yX5_caughtSet : MethodName := ⟨RX5, "caughtSet", "(I)I"⟩
abbrev cX5_broomTakes : ByteArray := prog_7_method_11_code
def yX5_broomTakes : MethodName := ⟨RX5, "broomTakes", "(I)I"⟩
abbrev cX5_worth : ByteArray := prog_7_method_12_code
def yX5_worth : MethodName := ⟨RX5, "worth", "()I"⟩
abbrev cX5_readable : ByteArray := prog_7_method_13_code
def yX5_readable : MethodName := ⟨RX5, "readable", "(LDustLayers$Sheet;)I"⟩
abbrev cX5_bears : ByteArray := prog_7_method_14_code
def yX5_bears : MethodName := ⟨RX5, "bears", "(LDustLayers$Sheet;)Z"⟩
abbrev cX5_nextOf : ByteArray := prog_7_method_15_code
def yX5_nextOf : MethodName := ⟨RX5, "nextOf", "(II)I"⟩
def RX6 : String := "DustLayers$Tape"
def TX6 : u_T := fun k => match k with
  | 0 => ("DustLayers$Tape", "bytes", "[I", true)
  | _ => ("DustLayers$Tape", "many", "I", false)
def tyX6 : Nat → FieldType := fun k => match k with
  | 0 => .array .int
  | _ => .int
abbrev wsX60 : List Cond := u_ws RX6 TX6 2
theorem nmX6 : ∀ a, a < 2 → ∀ b, b < 2 → a ≠ b → (TX6 a).2.1 ≠ (TX6 b).2.1 := by decide +kernel
theorem tyX6_ok : ∀ k, k < 2 → parseFieldDescriptor (TX6 k).2.2.1 = some (tyX6 k) := by decide +kernel
abbrev cX6_init : ByteArray := prog_8_method_1_code
def yX6_init : MethodName := ⟨RX6, "<init>", "()V"⟩
abbrev cX6_addBytes : ByteArray := prog_8_method_2_code
def yX6_addBytes : MethodName := ⟨RX6, "addBytes", "(I)V"⟩
def RX7 : String := "DustLayers$Text"
def TX7 : u_T := fun k => match k with
  | 0 => ("DustLayers$Text", "key", "I", true)
  | 1 => ("DustLayers$Text", "atoms", "I", true)
  | 2 => ("DustLayers$Text", "steps", "[I", true)
  | _ => ("DustLayers$Text", "stack", "[I", true)
def tyX7 : Nat → FieldType := fun k => match k with
  | 0 => .int
  | 1 => .int
  | 2 => .array .int
  | _ => .array .int
abbrev wsX70 : List Cond := u_ws RX7 TX7 4
theorem nmX7 : ∀ a, a < 4 → ∀ b, b < 4 → a ≠ b → (TX7 a).2.1 ≠ (TX7 b).2.1 := by decide +kernel
theorem tyX7_ok : ∀ k, k < 4 → parseFieldDescriptor (TX7 k).2.2.1 = some (tyX7 k) := by decide +kernel
abbrev cX7_init : ByteArray := prog_9_method_1_code
def yX7_init : MethodName := ⟨RX7, "<init>", "(II[I)V"⟩
abbrev cX7_gives : ByteArray := prog_9_method_2_code
def yX7_gives : MethodName := ⟨RX7, "gives", "(III)I"⟩
abbrev cX7_work : ByteArray := prog_9_method_3_code
def yX7_work : MethodName := ⟨RX7, "work", "(III)I"⟩
def RX8 : String := "DustLayers"
def TX8 : u_T := fun k => match k with
  | 0 => ("DustLayers", "hall", "LDustLayers$Hall;", true)
  | 1 => ("DustLayers", "image", "LDustLayers$Hall;", true)
  | 2 => ("DustLayers", "thought", "LDustLayers$Hall;", true)
  | 3 => ("DustLayers", "imaged", "Z", false)
  | 4 => ("DustLayers", "tape", "LDustLayers$Tape;", true)
  | 5 => ("DustLayers", "grammar", "LDustLayers$Grammar;", true)
  | 6 => ("DustLayers", "readings", "LDustLayers$Readings;", true)
  | 7 => ("DustLayers", "sheets", "[LDustLayers$Sheet;", true)
  | 8 => ("DustLayers", "slots", "[LDustLayers$Slot;", true)
  | 9 => ("DustLayers", "waiting", "[I", true)
  | _ => ("DustLayers", "waits", "I", false)
def tyX8 : Nat → FieldType := fun k => match k with
  | 0 => .object "DustLayers$Hall"
  | 1 => .object "DustLayers$Hall"
  | 2 => .object "DustLayers$Hall"
  | 3 => .boolean
  | 4 => .object "DustLayers$Tape"
  | 5 => .object "DustLayers$Grammar"
  | 6 => .object "DustLayers$Readings"
  | 7 => .array (.object "DustLayers$Sheet")
  | 8 => .array (.object "DustLayers$Slot")
  | 9 => .array .int
  | _ => .int
abbrev wsX80 : List Cond := u_ws RX8 TX8 11
theorem nmX8 : ∀ a, a < 11 → ∀ b, b < 11 → a ≠ b → (TX8 a).2.1 ≠ (TX8 b).2.1 := by decide +kernel
theorem tyX8_ok : ∀ k, k < 11 → parseFieldDescriptor (TX8 k).2.2.1 = some (tyX8 k) := by decide +kernel
abbrev cX8_init : ByteArray := prog_1_method_1_code
def yX8_init : MethodName := ⟨RX8, "<init>", "()V"⟩
abbrev cX8_surface : ByteArray := prog_1_method_2_code
def yX8_surface : MethodName := ⟨RX8, "surface", "(II)I"⟩
abbrev cX8_told : ByteArray := prog_1_method_3_code
def yX8_told : MethodName := ⟨RX8, "told", "(II)I"⟩
abbrev cX8_layer : ByteArray := prog_1_method_4_code
def yX8_layer : MethodName := ⟨RX8, "layer", "(II)I"⟩
abbrev cX8_as : ByteArray := prog_1_method_5_code
def yX8_as : MethodName := ⟨RX8, "as", "(II)I"⟩
abbrev cX8_turns : ByteArray := prog_1_method_6_code
def yX8_turns : MethodName := ⟨RX8, "turns", "(II)I"⟩
abbrev cX8_damp : ByteArray := prog_1_method_7_code
def yX8_damp : MethodName := ⟨RX8, "damp", "(II)I"⟩
abbrev cX8_rule : ByteArray := prog_1_method_8_code
def yX8_rule : MethodName := ⟨RX8, "rule", "(II)I"⟩
abbrev cX8_settles : ByteArray := prog_1_method_9_code
def yX8_settles : MethodName := ⟨RX8, "settles", "(II)I"⟩
abbrev cX8_sweeps : ByteArray := prog_1_method_10_code
def yX8_sweeps : MethodName := ⟨RX8, "sweeps", "(I)I"⟩
abbrev cX8_lifts : ByteArray := prog_1_method_11_code
def yX8_lifts : MethodName := ⟨RX8, "lifts", "(II)I"⟩
abbrev cX8_deal : ByteArray := prog_1_method_12_code
def yX8_deal : MethodName := ⟨RX8, "deal", "(I)I"⟩
abbrev cX8_seed : ByteArray := prog_1_method_13_code
def yX8_seed : MethodName := ⟨RX8, "seed", "(I)I"⟩
abbrev cX8_days : ByteArray := prog_1_method_14_code
def yX8_days : MethodName := ⟨RX8, "days", "(I)I"⟩
abbrev cX8_hall : ByteArray := prog_1_method_15_code
def yX8_hall : MethodName := ⟨RX8, "hall", "(I)I"⟩
abbrev cX8_lies : ByteArray := prog_1_method_16_code
def yX8_lies : MethodName := ⟨RX8, "lies", "(I)I"⟩
abbrev cX8_proof : ByteArray := prog_1_method_17_code
def yX8_proof : MethodName := ⟨RX8, "proof", "(II)I"⟩
abbrev cX8_common : ByteArray := prog_1_method_18_code
def yX8_common : MethodName := ⟨RX8, "common", "(III)I"⟩
abbrev cX8_hiding : ByteArray := prog_1_method_19_code
def yX8_hiding : MethodName := ⟨RX8, "hiding", "(II)I"⟩
abbrev cX8_alike : ByteArray := prog_1_method_20_code
def yX8_alike : MethodName := ⟨RX8, "alike", "(I)I"⟩
abbrev cX8_forged : ByteArray := prog_1_method_21_code
def yX8_forged : MethodName := ⟨RX8, "forged", "(I)I"⟩
abbrev cX8_behind : ByteArray := prog_1_method_22_code
def yX8_behind : MethodName := ⟨RX8, "behind", "(II)I"⟩
abbrev cX8_gone : ByteArray := prog_1_method_23_code
def yX8_gone : MethodName := ⟨RX8, "gone", "(II)I"⟩
abbrev cX8_safe : ByteArray := prog_1_method_24_code
def yX8_safe : MethodName := ⟨RX8, "safe", "(II)I"⟩
abbrev cX8_becomes : ByteArray := prog_1_method_25_code
def yX8_becomes : MethodName := ⟨RX8, "becomes", "(III)I"⟩
abbrev cX8_kept : ByteArray := prog_1_method_26_code
def yX8_kept : MethodName := ⟨RX8, "kept", "(II)I"⟩
abbrev cX8_whose : ByteArray := prog_1_method_27_code
def yX8_whose : MethodName := ⟨RX8, "whose", "(II)I"⟩
abbrev cX8_fee : ByteArray := prog_1_method_28_code
def yX8_fee : MethodName := ⟨RX8, "fee", "()I"⟩
abbrev cX8_fine : ByteArray := prog_1_method_29_code
def yX8_fine : MethodName := ⟨RX8, "fine", "(I)I"⟩
abbrev cX8_feed : ByteArray := prog_1_method_30_code
def yX8_feed : MethodName := ⟨RX8, "feed", "(III)I"⟩
abbrev cX8_trim : ByteArray := prog_1_method_31_code
def yX8_trim : MethodName := ⟨RX8, "trim", "(I)I"⟩
abbrev cX8_text : ByteArray := prog_1_method_32_code
def yX8_text : MethodName := ⟨RX8, "text", "()I"⟩
abbrev cX8_textTold : ByteArray := prog_1_method_33_code
def yX8_textTold : MethodName := ⟨RX8, "textTold", "(II)I"⟩
abbrev cX8_why : ByteArray := prog_1_method_34_code
def yX8_why : MethodName := ⟨RX8, "why", "(I)I"⟩
abbrev cX8_sheet : ByteArray := prog_1_method_35_code
def yX8_sheet : MethodName := ⟨RX8, "sheet", "(III)I"⟩
abbrev cX8_mark : ByteArray := prog_1_method_36_code
def yX8_mark : MethodName := ⟨RX8, "mark", "(III)I"⟩
abbrev cX8_pour : ByteArray := prog_1_method_37_code
def yX8_pour : MethodName := ⟨RX8, "pour", "(I)I"⟩
abbrev cX8_reads : ByteArray := prog_1_method_38_code
def yX8_reads : MethodName := ⟨RX8, "reads", "(I)I"⟩
abbrev cX8_copy : ByteArray := prog_1_method_39_code
def yX8_copy : MethodName := ⟨RX8, "copy", "(IIIII)I"⟩
abbrev cX8_lay : ByteArray := prog_1_method_40_code
def yX8_lay : MethodName := ⟨RX8, "lay", "(III)I"⟩
abbrev cX8_ask : ByteArray := prog_1_method_41_code
def yX8_ask : MethodName := ⟨RX8, "ask", "(II)I"⟩
abbrev cX8_item : ByteArray := prog_1_method_42_code
def yX8_item : MethodName := ⟨RX8, "item", "(II)I"⟩
abbrev cX8_rest : ByteArray := prog_1_method_43_code
def yX8_rest : MethodName := ⟨RX8, "rest", "(II)I"⟩
abbrev cX8_tell : ByteArray := prog_1_method_44_code
def yX8_tell : MethodName := ⟨RX8, "tell", "(I)I"⟩
abbrev cX8_check : ByteArray := prog_1_method_45_code
def yX8_check : MethodName := ⟨RX8, "check", "(I)I"⟩
abbrev cX8_keep : ByteArray := prog_1_method_46_code
def yX8_keep : MethodName := ⟨RX8, "keep", "()I"⟩
abbrev cX8_back : ByteArray := prog_1_method_47_code
def yX8_back : MethodName := ⟨RX8, "back", "()I"⟩
abbrev cX8_count : ByteArray := prog_1_method_48_code
def yX8_count : MethodName := ⟨RX8, "count", "(I)I"⟩
abbrev cX8_isBelow : ByteArray := prog_1_method_49_code
def yX8_isBelow : MethodName := ⟨RX8, "isBelow", "(II)Z"⟩
abbrev cX8_within : ByteArray := prog_1_method_50_code
def yX8_within : MethodName := ⟨RX8, "within", "(III)I"⟩
abbrev cX8_isSurface : ByteArray := prog_1_method_51_code
def yX8_isSurface : MethodName := ⟨RX8, "isSurface", "(I)Z"⟩
abbrev cX8_sheetRefusal : ByteArray := prog_1_method_52_code
def yX8_sheetRefusal : MethodName := ⟨RX8, "sheetRefusal", "(I)I"⟩
abbrev cX8_rowRefusal : ByteArray := prog_1_method_53_code
def yX8_rowRefusal : MethodName := ⟨RX8, "rowRefusal", "(I)I"⟩
abbrev cX8_rowRefusal_ : ByteArray := prog_1_method_54_code
def yX8_rowRefusal_ : MethodName := ⟨RX8, "rowRefusal", "(II)I"⟩
abbrev cX8_commonWithAllOthers : ByteArray := prog_1_method_55_code
def yX8_commonWithAllOthers : MethodName := ⟨RX8, "commonWithAllOthers", "(I)I"⟩
def RX9 : String := "DustLayersModel"
def TX9 : u_T := fun k => match k with
  | 0 => ("DustLayersModel", "now", "[I", true)
  | 1 => ("DustLayersModel", "image", "[I", true)
  | 2 => ("DustLayersModel", "aside", "[I", true)
  | 3 => ("DustLayersModel", "hasImage", "Z", false)
  | 4 => ("DustLayersModel", "row", "[I", true)
  | 5 => ("DustLayersModel", "rowSize", "I", false)
  | 6 => ("DustLayersModel", "longest", "[I", true)
  | 7 => ("DustLayersModel", "alike", "[I", true)
  | 8 => ("DustLayersModel", "fewest", "[I", true)
  | 9 => ("DustLayersModel", "before", "[I", true)
  | 10 => ("DustLayersModel", "differ", "[J", true)
  | 11 => ("DustLayersModel", "tape", "[I", true)
  | 12 => ("DustLayersModel", "taped", "I", false)
  | 13 => ("DustLayersModel", "next", "I", false)
  | 14 => ("DustLayersModel", "from", "I", false)
  | 15 => ("DustLayersModel", "token", "I", false)
  | 16 => ("DustLayersModel", "value", "I", false)
  | 17 => ("DustLayersModel", "ended", "I", false)
  | 18 => ("DustLayersModel", "key", "I", false)
  | 19 => ("DustLayersModel", "keys", "[C", true)
  | 20 => ("DustLayersModel", "keyAt", "[I", true)
  | 21 => ("DustLayersModel", "code", "[I", true)
  | 22 => ("DustLayersModel", "codes", "I", false)
  | 23 => ("DustLayersModel", "atoms", "I", false)
  | 24 => ("DustLayersModel", "waits", "[I", true)
  | 25 => ("DustLayersModel", "held", "I", false)
  | 26 => ("DustLayersModel", "tested", "[Z", true)
  | 27 => ("DustLayersModel", "stack", "[I", true)
  | 28 => ("DustLayersModel", "facts", "[I", true)
  | 29 => ("DustLayersModel", "sorts", "[I", true)
  | 30 => ("DustLayersModel", "sizes", "[I", true)
  | 31 => ("DustLayersModel", "cells", "[I", true)
  | 32 => ("DustLayersModel", "holds", "[I", true)
  | 33 => ("DustLayersModel", "holdsA", "[I", true)
  | 34 => ("DustLayersModel", "holdsB", "[I", true)
  | 35 => ("DustLayersModel", "heldCells", "[I", true)
  | 36 => ("DustLayersModel", "moved", "[I", true)
  | 37 => ("DustLayersModel", "tells", "[I", true)
  | _ => ("DustLayersModel", "waiting", "I", false)
def tyX9 : Nat → FieldType := fun k => match k with
  | 0 => .array .int
  | 1 => .array .int
  | 2 => .array .int
  | 3 => .boolean
  | 4 => .array .int
  | 5 => .int
  | 6 => .array .int
  | 7 => .array .int
  | 8 => .array .int
  | 9 => .array .int
  | 10 => .array .long
  | 11 => .array .int
  | 12 => .int
  | 13 => .int
  | 14 => .int
  | 15 => .int
  | 16 => .int
  | 17 => .int
  | 18 => .int
  | 19 => .array .char
  | 20 => .array .int
  | 21 => .array .int
  | 22 => .int
  | 23 => .int
  | 24 => .array .int
  | 25 => .int
  | 26 => .array .boolean
  | 27 => .array .int
  | 28 => .array .int
  | 29 => .array .int
  | 30 => .array .int
  | 31 => .array .int
  | 32 => .array .int
  | 33 => .array .int
  | 34 => .array .int
  | 35 => .array .int
  | 36 => .array .int
  | 37 => .array .int
  | _ => .int
abbrev wsX90 : List Cond := u_ws RX9 TX9 39
theorem nmX9 : ∀ a, a < 39 → ∀ b, b < 39 → a ≠ b → (TX9 a).2.1 ≠ (TX9 b).2.1 := by decide +kernel
theorem tyX9_ok : ∀ k, k < 39 → parseFieldDescriptor (TX9 k).2.2.1 = some (tyX9 k) := by decide +kernel
abbrev cX9_init : ByteArray := prog_11_method_1_code
def yX9_init : MethodName := ⟨RX9, "<init>", "()V"⟩
abbrev cX9_in : ByteArray := prog_11_method_2_code
def yX9_in : MethodName := ⟨RX9, "in", "(III)Z"⟩
abbrev cX9_within : ByteArray := prog_11_method_3_code
def yX9_within : MethodName := ⟨RX9, "within", "(III)I"⟩
abbrev cX9_copyAll : ByteArray := prog_11_method_4_code
def yX9_copyAll : MethodName := ⟨RX9, "copyAll", "([I[I)V"⟩
abbrev cX9_isSurface : ByteArray := prog_11_method_5_code
def yX9_isSurface : MethodName := ⟨RX9, "isSurface", "(I)Z"⟩
abbrev cX9_isDeed : ByteArray := prog_11_method_6_code
def yX9_isDeed : MethodName := ⟨RX9, "isDeed", "(I)Z"⟩
abbrev cX9_of : ByteArray := prog_11_method_7_code
def yX9_of : MethodName := ⟨RX9, "of", "(II)I"⟩
abbrev cX9_put : ByteArray := prog_11_method_8_code
def yX9_put : MethodName := ⟨RX9, "put", "(III)V"⟩
abbrev cX9_swaps : ByteArray := prog_11_method_9_code
def yX9_swaps : MethodName := ⟨RX9, "swaps", "(II)I"⟩
abbrev cX9_comes : ByteArray := prog_11_method_10_code
def yX9_comes : MethodName := ⟨RX9, "comes", "(II)I"⟩
abbrev cX9_surface : ByteArray := prog_11_method_11_code
def yX9_surface : MethodName := ⟨RX9, "surface", "(II)I"⟩
abbrev cX9_doesCatch : ByteArray := prog_11_method_12_code
def yX9_doesCatch : MethodName := ⟨RX9, "doesCatch", "(II)Z"⟩
abbrev cX9_liftsOf : ByteArray := prog_11_method_13_code
def yX9_liftsOf : MethodName := ⟨RX9, "liftsOf", "(I)I"⟩
abbrev cX9_worthOf : ByteArray := prog_11_method_14_code
def yX9_worthOf : MethodName := ⟨RX9, "worthOf", "(I)I"⟩
abbrev cX9_told : ByteArray := prog_11_method_15_code
def yX9_told : MethodName := ⟨RX9, "told", "(II)I"⟩
abbrev cX9_layer : ByteArray := prog_11_method_16_code
def yX9_layer : MethodName := ⟨RX9, "layer", "(II)I"⟩
abbrev cX9_isUnder : ByteArray := prog_11_method_17_code
def yX9_isUnder : MethodName := ⟨RX9, "isUnder", "(II)Z"⟩
abbrev cX9_as : ByteArray := prog_11_method_18_code
def yX9_as : MethodName := ⟨RX9, "as", "(II)I"⟩
abbrev cX9_turns : ByteArray := prog_11_method_19_code
def yX9_turns : MethodName := ⟨RX9, "turns", "(II)I"⟩
abbrev cX9_damp : ByteArray := prog_11_method_20_code
def yX9_damp : MethodName := ⟨RX9, "damp", "(II)I"⟩
abbrev cX9_rule : ByteArray := prog_11_method_21_code
def yX9_rule : MethodName := ⟨RX9, "rule", "(II)I"⟩
abbrev cX9_takesOut : ByteArray := prog_11_method_22_code
def yX9_takesOut : MethodName := ⟨RX9, "takesOut", "(II)I"⟩
abbrev cX9_settlesOn : ByteArray := prog_11_method_23_code
def yX9_settlesOn : MethodName := ⟨RX9, "settlesOn", "(II)V"⟩
abbrev cX9_settles : ByteArray := prog_11_method_24_code
def yX9_settles : MethodName := ⟨RX9, "settles", "(II)I"⟩
abbrev cX9_sweepsOff : ByteArray := prog_11_method_25_code
def yX9_sweepsOff : MethodName := ⟨RX9, "sweepsOff", "(I)I"⟩
abbrev cX9_sweeps : ByteArray := prog_11_method_26_code
def yX9_sweeps : MethodName := ⟨RX9, "sweeps", "(I)I"⟩
abbrev cX9_lifts : ByteArray := prog_11_method_27_code
def yX9_lifts : MethodName := ⟨RX9, "lifts", "(II)I"⟩
abbrev cX9_draw : ByteArray := prog_11_method_28_code
def yX9_draw : MethodName := ⟨RX9, "draw", "()I"⟩
abbrev cX9_deal : ByteArray := prog_11_method_29_code
def yX9_deal : MethodName := ⟨RX9, "deal", "(I)I"⟩
abbrev cX9_seed : ByteArray := prog_11_method_30_code
def yX9_seed : MethodName := ⟨RX9, "seed", "(I)I"⟩
abbrev cX9_blows : ByteArray := prog_11_method_31_code
def yX9_blows : MethodName := ⟨RX9, "blows", "(I)V"⟩
abbrev cX9_day : ByteArray := prog_11_method_32_code
def yX9_day : MethodName := ⟨RX9, "day", "()V"⟩
abbrev cX9_goesOn : ByteArray := prog_11_method_33_code
def yX9_goesOn : MethodName := ⟨RX9, "goesOn", "(I)V"⟩
abbrev cX9_days : ByteArray := prog_11_method_34_code
def yX9_days : MethodName := ⟨RX9, "days", "(I)I"⟩
abbrev cX9_sumOf : ByteArray := prog_11_method_35_code
def yX9_sumOf : MethodName := ⟨RX9, "sumOf", "(I)I"⟩
abbrev cX9_hall : ByteArray := prog_11_method_36_code
def yX9_hall : MethodName := ⟨RX9, "hall", "(I)I"⟩
abbrev cX9_isRowOf : ByteArray := prog_11_method_37_code
def yX9_isRowOf : MethodName := ⟨RX9, "isRowOf", "(I)Z"⟩
abbrev cX9_proved : ByteArray := prog_11_method_38_code
def yX9_proved : MethodName := ⟨RX9, "proved", "(I)I"⟩
abbrev cX9_doesLie : ByteArray := prog_11_method_39_code
def yX9_doesLie : MethodName := ⟨RX9, "doesLie", "(I)Z"⟩
abbrev cX9_lies : ByteArray := prog_11_method_40_code
def yX9_lies : MethodName := ⟨RX9, "lies", "(I)I"⟩
abbrev cX9_proof : ByteArray := prog_11_method_41_code
def yX9_proof : MethodName := ⟨RX9, "proof", "(II)I"⟩
abbrev cX9_commonOf : ByteArray := prog_11_method_42_code
def yX9_commonOf : MethodName := ⟨RX9, "commonOf", "(II)I"⟩
abbrev cX9_firstOf : ByteArray := prog_11_method_43_code
def yX9_firstOf : MethodName := ⟨RX9, "firstOf", "(III)I"⟩
abbrev cX9_laysCommon : ByteArray := prog_11_method_44_code
def yX9_laysCommon : MethodName := ⟨RX9, "laysCommon", "(II)I"⟩
abbrev cX9_common : ByteArray := prog_11_method_45_code
def yX9_common : MethodName := ⟨RX9, "common", "(III)I"⟩
abbrev cX9_hidingOf : ByteArray := prog_11_method_46_code
def yX9_hidingOf : MethodName := ⟨RX9, "hidingOf", "(I)I"⟩
abbrev cX9_hiding : ByteArray := prog_11_method_47_code
def yX9_hiding : MethodName := ⟨RX9, "hiding", "(II)I"⟩
abbrev cX9_alike : ByteArray := prog_11_method_48_code
def yX9_alike : MethodName := ⟨RX9, "alike", "(I)I"⟩
abbrev cX9_forged : ByteArray := prog_11_method_49_code
def yX9_forged : MethodName := ⟨RX9, "forged", "(I)I"⟩
abbrev cX9_thinks : ByteArray := prog_11_method_50_code
def yX9_thinks : MethodName := ⟨RX9, "thinks", "()V"⟩
abbrev cX9_putsBack : ByteArray := prog_11_method_51_code
def yX9_putsBack : MethodName := ⟨RX9, "putsBack", "()V"⟩
abbrev cX9_behind : ByteArray := prog_11_method_52_code
def yX9_behind : MethodName := ⟨RX9, "behind", "(II)I"⟩
abbrev cX9_goneFrom : ByteArray := prog_11_method_53_code
def yX9_goneFrom : MethodName := ⟨RX9, "goneFrom", "(I)I"⟩
abbrev cX9_gone : ByteArray := prog_11_method_54_code
def yX9_gone : MethodName := ⟨RX9, "gone", "(II)I"⟩
abbrev cX9_safe : ByteArray := prog_11_method_55_code
def yX9_safe : MethodName := ⟨RX9, "safe", "(II)I"⟩
abbrev cX9_becomes : ByteArray := prog_11_method_56_code
def yX9_becomes : MethodName := ⟨RX9, "becomes", "(III)I"⟩
abbrev cX9_kept : ByteArray := prog_11_method_57_code
def yX9_kept : MethodName := ⟨RX9, "kept", "(II)I"⟩
abbrev cX9_whose : ByteArray := prog_11_method_58_code
def yX9_whose : MethodName := ⟨RX9, "whose", "(II)I"⟩
abbrev cX9_fee : ByteArray := prog_11_method_59_code
def yX9_fee : MethodName := ⟨RX9, "fee", "()I"⟩
abbrev cX9_fine : ByteArray := prog_11_method_60_code
def yX9_fine : MethodName := ⟨RX9, "fine", "(I)I"⟩
abbrev cX9_feed : ByteArray := prog_11_method_61_code
def yX9_feed : MethodName := ⟨RX9, "feed", "(III)I"⟩
abbrev cX9_trim : ByteArray := prog_11_method_62_code
def yX9_trim : MethodName := ⟨RX9, "trim", "(I)I"⟩
abbrev cX9_isLetter : ByteArray := prog_11_method_63_code
def yX9_isLetter : MethodName := ⟨RX9, "isLetter", "(I)Z"⟩
abbrev cX9_isFigure : ByteArray := prog_11_method_64_code
def yX9_isFigure : MethodName := ⟨RX9, "isFigure", "(I)Z"⟩
abbrev cX9_go : ByteArray := prog_11_method_65_code
def yX9_go : MethodName := ⟨RX9, "go", "()V"⟩
abbrev cX9_takesKey : ByteArray := prog_11_method_66_code
def yX9_takesKey : MethodName := ⟨RX9, "takesKey", "()Z"⟩
abbrev cX9_nameOf : ByteArray := prog_11_method_67_code
def yX9_nameOf : MethodName := ⟨RX9, "nameOf", "(I)I"⟩
abbrev cX9_rank : ByteArray := prog_11_method_68_code
def yX9_rank : MethodName := ⟨RX9, "rank", "(I)I"⟩
abbrev cX9_settle : ByteArray := prog_11_method_69_code
def yX9_settle : MethodName := ⟨RX9, "settle", "(I)V"⟩
abbrev cX9_signHere : ByteArray := prog_11_method_70_code
def yX9_signHere : MethodName := ⟨RX9, "signHere", "()I"⟩
abbrev cX9_takesPart : ByteArray := prog_11_method_71_code
def yX9_takesPart : MethodName := ⟨RX9, "takesPart", "()Z"⟩
abbrev cX9_takesE : ByteArray := prog_11_method_72_code
def yX9_takesE : MethodName := ⟨RX9, "takesE", "()Z"⟩
abbrev cX9_notsOpen : ByteArray := prog_11_method_73_code
def yX9_notsOpen : MethodName := ⟨RX9, "notsOpen", "()I"⟩
abbrev cX9_text : ByteArray := prog_11_method_74_code
def yX9_text : MethodName := ⟨RX9, "text", "()I"⟩
abbrev cX9_textTold : ByteArray := prog_11_method_75_code
def yX9_textTold : MethodName := ⟨RX9, "textTold", "(II)I"⟩
abbrev cX9_counts : ByteArray := prog_11_method_76_code
def yX9_counts : MethodName := ⟨RX9, "counts", "(I)I"⟩
abbrev cX9_why : ByteArray := prog_11_method_77_code
def yX9_why : MethodName := ⟨RX9, "why", "(I)I"⟩
abbrev cX9_two : ByteArray := prog_11_method_78_code
def yX9_two : MethodName := ⟨RX9, "two", "(III)I"⟩
abbrev cX9_worksOut : ByteArray := prog_11_method_79_code
def yX9_worksOut : MethodName := ⟨RX9, "worksOut", "(I)I"⟩
abbrev cX9_isSheet : ByteArray := prog_11_method_80_code
def yX9_isSheet : MethodName := ⟨RX9, "isSheet", "(I)Z"⟩
abbrev cX9_isSlot : ByteArray := prog_11_method_81_code
def yX9_isSlot : MethodName := ⟨RX9, "isSlot", "(I)Z"⟩
abbrev cX9_sheet : ByteArray := prog_11_method_82_code
def yX9_sheet : MethodName := ⟨RX9, "sheet", "(III)I"⟩
abbrev cX9_mark : ByteArray := prog_11_method_83_code
def yX9_mark : MethodName := ⟨RX9, "mark", "(III)I"⟩
abbrev cX9_pour : ByteArray := prog_11_method_84_code
def yX9_pour : MethodName := ⟨RX9, "pour", "(I)I"⟩
abbrev cX9_reads : ByteArray := prog_11_method_85_code
def yX9_reads : MethodName := ⟨RX9, "reads", "(I)I"⟩
abbrev cX9_copy : ByteArray := prog_11_method_86_code
def yX9_copy : MethodName := ⟨RX9, "copy", "(IIIII)I"⟩
abbrev cX9_lay : ByteArray := prog_11_method_87_code
def yX9_lay : MethodName := ⟨RX9, "lay", "(III)I"⟩
abbrev cX9_ask : ByteArray := prog_11_method_88_code
def yX9_ask : MethodName := ⟨RX9, "ask", "(II)I"⟩
abbrev cX9_item : ByteArray := prog_11_method_89_code
def yX9_item : MethodName := ⟨RX9, "item", "(II)I"⟩
abbrev cX9_rest : ByteArray := prog_11_method_90_code
def yX9_rest : MethodName := ⟨RX9, "rest", "(II)I"⟩
abbrev cX9_tell : ByteArray := prog_11_method_91_code
def yX9_tell : MethodName := ⟨RX9, "tell", "(I)I"⟩
abbrev cX9_check : ByteArray := prog_11_method_92_code
def yX9_check : MethodName := ⟨RX9, "check", "(I)I"⟩
abbrev cX9_keep : ByteArray := prog_11_method_93_code
def yX9_keep : MethodName := ⟨RX9, "keep", "()I"⟩
abbrev cX9_back : ByteArray := prog_11_method_94_code
def yX9_back : MethodName := ⟨RX9, "back", "()I"⟩
abbrev cX9_count : ByteArray := prog_11_method_95_code
def yX9_count : MethodName := ⟨RX9, "count", "(I)I"⟩
def RJx145de : String := "java/io/Serializable"
def TJx145de : u_T := fun k => match k with
  | _ => ("", "", "", false)
def tyJx145de : Nat → FieldType := fun k => match k with
  | _ => .int
abbrev wsJx145de0 : List Cond := u_ws RJx145de TJx145de 0
theorem nmJx145de : ∀ a, a < 0 → ∀ b, b < 0 → a ≠ b → (TJx145de a).2.1 ≠ (TJx145de b).2.1 := by decide +kernel
theorem tyJx145de_ok : ∀ k, k < 0 → parseFieldDescriptor (TJx145de k).2.2.1 = some (tyJx145de k) := by decide +kernel
def RJx9f9b0 : String := "java/lang/CharSequence"
def TJx9f9b0 : u_T := fun k => match k with
  | _ => ("", "", "", false)
def tyJx9f9b0 : Nat → FieldType := fun k => match k with
  | _ => .int
abbrev wsJx9f9b00 : List Cond := u_ws RJx9f9b0 TJx9f9b0 0
theorem nmJx9f9b0 : ∀ a, a < 0 → ∀ b, b < 0 → a ≠ b → (TJx9f9b0 a).2.1 ≠ (TJx9f9b0 b).2.1 := by decide +kernel
theorem tyJx9f9b0_ok : ∀ k, k < 0 → parseFieldDescriptor (TJx9f9b0 k).2.2.1 = some (tyJx9f9b0 k) := by decide +kernel
def RJ11 : String := "java/lang/Character"
def TJ11 : u_T := fun k => match k with
  | _ => ("", "", "", false)
def tyJ11 : Nat → FieldType := fun k => match k with
  | _ => .int
abbrev wsJ110 : List Cond := u_ws RJ11 TJ11 0
theorem nmJ11 : ∀ a, a < 0 → ∀ b, b < 0 → a ≠ b → (TJ11 a).2.1 ≠ (TJ11 b).2.1 := by decide +kernel
theorem tyJ11_ok : ∀ k, k < 0 → parseFieldDescriptor (TJ11 k).2.2.1 = some (tyJ11 k) := by decide +kernel
abbrev cJ11_isValidCodePoint_9a6ad : ByteArray := prog_12_method_11_code
def yJ11_isValidCodePoint_9a6ad : MethodName := ⟨RJ11, "isValidCodePoint", "(I)Z"⟩
abbrev cJ11_highSurrogate_5068e : ByteArray := prog_12_method_28_code
def yJ11_highSurrogate_5068e : MethodName := ⟨RJ11, "highSurrogate", "(I)C"⟩
abbrev cJ11_lowSurrogate_5068e : ByteArray := prog_12_method_29_code
def yJ11_lowSurrogate_5068e : MethodName := ⟨RJ11, "lowSurrogate", "(I)C"⟩
def RJx8e188 : String := "java/lang/Cloneable"
def TJx8e188 : u_T := fun k => match k with
  | _ => ("", "", "", false)
def tyJx8e188 : Nat → FieldType := fun k => match k with
  | _ => .int
abbrev wsJx8e1880 : List Cond := u_ws RJx8e188 TJx8e188 0
theorem nmJx8e188 : ∀ a, a < 0 → ∀ b, b < 0 → a ≠ b → (TJx8e188 a).2.1 ≠ (TJx8e188 b).2.1 := by decide +kernel
theorem tyJx8e188_ok : ∀ k, k < 0 → parseFieldDescriptor (TJx8e188 k).2.2.1 = some (tyJx8e188 k) := by decide +kernel
def RJxb160c : String := "java/lang/Comparable"
def TJxb160c : u_T := fun k => match k with
  | _ => ("", "", "", false)
def tyJxb160c : Nat → FieldType := fun k => match k with
  | _ => .int
abbrev wsJxb160c0 : List Cond := u_ws RJxb160c TJxb160c 0
theorem nmJxb160c : ∀ a, a < 0 → ∀ b, b < 0 → a ≠ b → (TJxb160c a).2.1 ≠ (TJxb160c b).2.1 := by decide +kernel
theorem tyJxb160c_ok : ∀ k, k < 0 → parseFieldDescriptor (TJxb160c k).2.2.1 = some (tyJxb160c k) := by decide +kernel
def RJ9 : String := "java/lang/Math"
def TJ9 : u_T := fun k => match k with
  | _ => ("", "", "", false)
def tyJ9 : Nat → FieldType := fun k => match k with
  | _ => .int
abbrev wsJ90 : List Cond := u_ws RJ9 TJ9 0
theorem nmJ9 : ∀ a, a < 0 → ∀ b, b < 0 → a ≠ b → (TJ9 a).2.1 ≠ (TJ9 b).2.1 := by decide +kernel
theorem tyJ9_ok : ∀ k, k < 0 → parseFieldDescriptor (TJ9 k).2.2.1 = some (tyJ9 k) := by decide +kernel
abbrev cJ9_abs_0f7a4 : ByteArray := prog_14_method_59_code
def yJ9_abs_0f7a4 : MethodName := ⟨RJ9, "abs", "(I)I"⟩
abbrev cJ9_max_7cf53 : ByteArray := prog_14_method_65_code
def yJ9_max_7cf53 : MethodName := ⟨RJ9, "max", "(II)I"⟩
abbrev cJ9_min_7cf53 : ByteArray := prog_14_method_69_code
def yJ9_min_7cf53 : MethodName := ⟨RJ9, "min", "(II)I"⟩
def RJ0 : String := "java/lang/String"
def TJ0 : u_T := fun k => match k with
  | _ => ("", "", "", false)
def tyJ0 : Nat → FieldType := fun k => match k with
  | _ => .int
abbrev wsJ00 : List Cond := u_ws RJ0 TJ0 0
theorem nmJ0 : ∀ a, a < 0 → ∀ b, b < 0 → a ≠ b → (TJ0 a).2.1 ≠ (TJ0 b).2.1 := by decide +kernel
theorem tyJ0_ok : ∀ k, k < 0 → parseFieldDescriptor (TJ0 k).2.2.1 = some (tyJ0 k) := by decide +kernel
abbrev cJ0_length_8abf5 : ByteArray := prog_15_method_54_code
def yJ0_length_8abf5 : MethodName := ⟨RJ0, "length", "()I"⟩
abbrev cJ0_charAt_5068e : ByteArray := prog_15_method_56_code
def yJ0_charAt_5068e : MethodName := ⟨RJ0, "charAt", "(I)C"⟩
abbrev cJ0_indexOf_0f7a4 : ByteArray := prog_15_method_79_code
def yJ0_indexOf_0f7a4 : MethodName := ⟨RJ0, "indexOf", "(I)I"⟩
abbrev cJ0_indexOf_7cf53 : ByteArray := prog_15_method_80_code
def yJ0_indexOf_7cf53 : MethodName := ⟨RJ0, "indexOf", "(II)I"⟩
abbrev cJ0_coder_7d493 : ByteArray := prog_15_method_152_code
def yJ0_coder_7d493 : MethodName := ⟨RJ0, "coder", "()B"⟩
abbrev cJ0_isLatin1_aae02 : ByteArray := prog_15_method_154_code
def yJ0_isLatin1_aae02 : MethodName := ⟨RJ0, "isLatin1", "()Z"⟩
abbrev cJ0_checkIndex_df160 : ByteArray := prog_15_method_155_code
def yJ0_checkIndex_df160 : MethodName := ⟨RJ0, "checkIndex", "(II)V"⟩
abbrev cJ0_checkBoundsBeginEnd_23922 : ByteArray := prog_15_method_158_code
def yJ0_checkBoundsBeginEnd_23922 : MethodName := ⟨RJ0, "checkBoundsBeginEnd", "(III)V"⟩
def RJ1 : String := "java/lang/StringLatin1"
def TJ1 : u_T := fun k => match k with
  | _ => ("", "", "", false)
def tyJ1 : Nat → FieldType := fun k => match k with
  | _ => .int
abbrev wsJ10 : List Cond := u_ws RJ1 TJ1 0
theorem nmJ1 : ∀ a, a < 0 → ∀ b, b < 0 → a ≠ b → (TJ1 a).2.1 ≠ (TJ1 b).2.1 := by decide +kernel
theorem tyJ1_ok : ∀ k, k < 0 → parseFieldDescriptor (TJ1 k).2.2.1 = some (tyJ1 k) := by decide +kernel
abbrev cJ1_charAt_3b067 : ByteArray := prog_16_method_2_code
def yJ1_charAt_3b067 : MethodName := ⟨RJ1, "charAt", "([BI)C"⟩
abbrev cJ1_canEncode_9a6ad : ByteArray := prog_16_method_4_code
def yJ1_canEncode_9a6ad : MethodName := ⟨RJ1, "canEncode", "(I)Z"⟩
abbrev cJ1_indexOf_4cfef : ByteArray := prog_16_method_22_code
def yJ1_indexOf_4cfef : MethodName := ⟨RJ1, "indexOf", "([BIII)I"⟩
abbrev cJ1_indexOfChar_4cfef : ByteArray := prog_16_method_23_code
def yJ1_indexOfChar_4cfef : MethodName := ⟨RJ1, "indexOfChar", "([BIII)I"⟩
def RJ2 : String := "java/lang/StringUTF16"
def TJ2 : u_T := fun k => match k with
  | _ => ("", "", "", false)
def tyJ2 : Nat → FieldType := fun k => match k with
  | _ => .int
abbrev wsJ20 : List Cond := u_ws RJ2 TJ2 0
theorem nmJ2 : ∀ a, a < 0 → ∀ b, b < 0 → a ≠ b → (TJ2 a).2.1 ≠ (TJ2 b).2.1 := by decide +kernel
theorem tyJ2_ok : ∀ k, k < 0 → parseFieldDescriptor (TJ2 k).2.2.1 = some (tyJ2 k) := by decide +kernel
abbrev cJ2_getChar_3b067 : ByteArray := prog_17_method_5_code
def yJ2_getChar_3b067 : MethodName := ⟨RJ2, "getChar", "([BI)C"⟩
abbrev cJ2_length_9d52b : ByteArray := prog_17_method_6_code
def yJ2_length_9d52b : MethodName := ⟨RJ2, "length", "([B)I"⟩
abbrev cJ2_indexOf_4cfef : ByteArray := prog_17_method_40_code
def yJ2_indexOf_4cfef : MethodName := ⟨RJ2, "indexOf", "([BIII)I"⟩
abbrev cJ2_indexOfChar_4cfef : ByteArray := prog_17_method_47_code
def yJ2_indexOfChar_4cfef : MethodName := ⟨RJ2, "indexOfChar", "([BIII)I"⟩
abbrev cJ2_indexOfCharUnsafe_4cfef : ByteArray := prog_17_method_48_code
def yJ2_indexOfCharUnsafe_4cfef : MethodName := ⟨RJ2, "indexOfCharUnsafe", "([BIII)I"⟩
abbrev cJ2_indexOfSupplementary_4cfef : ByteArray := prog_17_method_49_code
def yJ2_indexOfSupplementary_4cfef : MethodName := ⟨RJ2, "indexOfSupplementary", "([BIII)I"⟩
abbrev cJ2_charAt_3b067 : ByteArray := prog_17_method_83_code
def yJ2_charAt_3b067 : MethodName := ⟨RJ2, "charAt", "([BI)C"⟩
abbrev cJ2_checkIndex_2214a : ByteArray := prog_17_method_91_code
def yJ2_checkIndex_2214a : MethodName := ⟨RJ2, "checkIndex", "(I[B)V"⟩
abbrev cJ2_checkBoundsBeginEnd_d044e : ByteArray := prog_17_method_93_code
def yJ2_checkBoundsBeginEnd_d044e : MethodName := ⟨RJ2, "checkBoundsBeginEnd", "(II[B)V"⟩
def RJ10 : String := "java/lang/System"
def TJ10 : u_T := fun k => match k with
  | _ => ("", "", "", false)
def tyJ10 : Nat → FieldType := fun k => match k with
  | _ => .int
abbrev wsJ100 : List Cond := u_ws RJ10 TJ10 0
theorem nmJ10 : ∀ a, a < 0 → ∀ b, b < 0 → a ≠ b → (TJ10 a).2.1 ≠ (TJ10 b).2.1 := by decide +kernel
theorem tyJ10_ok : ∀ k, k < 0 → parseFieldDescriptor (TJ10 k).2.2.1 = some (tyJ10 k) := by decide +kernel
def RJxfd54e : String := "java/lang/constant/Constable"
def TJxfd54e : u_T := fun k => match k with
  | _ => ("", "", "", false)
def tyJxfd54e : Nat → FieldType := fun k => match k with
  | _ => .int
abbrev wsJxfd54e0 : List Cond := u_ws RJxfd54e TJxfd54e 0
theorem nmJxfd54e : ∀ a, a < 0 → ∀ b, b < 0 → a ≠ b → (TJxfd54e a).2.1 ≠ (TJxfd54e b).2.1 := by decide +kernel
theorem tyJxfd54e_ok : ∀ k, k < 0 → parseFieldDescriptor (TJxfd54e k).2.2.1 = some (tyJxfd54e k) := by decide +kernel
def RJx3cf43 : String := "java/lang/constant/ConstantDesc"
def TJx3cf43 : u_T := fun k => match k with
  | _ => ("", "", "", false)
def tyJx3cf43 : Nat → FieldType := fun k => match k with
  | _ => .int
abbrev wsJx3cf430 : List Cond := u_ws RJx3cf43 TJx3cf43 0
theorem nmJx3cf43 : ∀ a, a < 0 → ∀ b, b < 0 → a ≠ b → (TJx3cf43 a).2.1 ≠ (TJx3cf43 b).2.1 := by decide +kernel
theorem tyJx3cf43_ok : ∀ k, k < 0 → parseFieldDescriptor (TJx3cf43 k).2.2.1 = some (tyJx3cf43 k) := by decide +kernel
def RJ7 : String := "java/util/Arrays"
def TJ7 : u_T := fun k => match k with
  | _ => ("", "", "", false)
def tyJ7 : Nat → FieldType := fun k => match k with
  | _ => .int
abbrev wsJ70 : List Cond := u_ws RJ7 TJ7 0
theorem nmJ7 : ∀ a, a < 0 → ∀ b, b < 0 → a ≠ b → (TJ7 a).2.1 ≠ (TJ7 b).2.1 := by decide +kernel
theorem tyJ7_ok : ∀ k, k < 0 → parseFieldDescriptor (TJ7 k).2.2.1 = some (tyJ7 k) := by decide +kernel
abbrev cJ7_fill_53178 : ByteArray := prog_19_method_103_code
def yJ7_fill_53178 : MethodName := ⟨RJ7, "fill", "([II)V"⟩
abbrev cJ7_copyOf_59c91 : ByteArray := prog_19_method_123_code
def yJ7_copyOf_59c91 : MethodName := ⟨RJ7, "copyOf", "([II)[I"⟩
def RJ3 : String := "jdk/internal/util/Preconditions"
def TJ3 : u_T := fun k => match k with
  | _ => ("", "", "", false)
def tyJ3 : Nat → FieldType := fun k => match k with
  | _ => .int
abbrev wsJ30 : List Cond := u_ws RJ3 TJ3 0
theorem nmJ3 : ∀ a, a < 0 → ∀ b, b < 0 → a ≠ b → (TJ3 a).2.1 ≠ (TJ3 b).2.1 := by decide +kernel
theorem tyJ3_ok : ∀ k, k < 0 → parseFieldDescriptor (TJ3 k).2.2.1 = some (tyJ3 k) := by decide +kernel
abbrev cJ3_checkIndex_8e157 : ByteArray := prog_20_method_11_code
def yJ3_checkIndex_8e157 : MethodName := ⟨RJ3, "checkIndex", "(IILjava/util/function/BiFunction;)I"⟩
abbrev cJ3_checkFromToIndex_8c36e : ByteArray := prog_20_method_12_code
def yJ3_checkFromToIndex_8c36e : MethodName := ⟨RJ3, "checkFromToIndex", "(IIILjava/util/function/BiFunction;)I"⟩
def RL : String := "DustLayersLaw"
abbrev cL_law : ByteArray := code
def yL_law : MethodName := ⟨RL, "law", "([I)Z"⟩
abbrev vwCl : List vw_C := [(RX0, TX0, 8), (RX1, TX1, 11), (RX2, TX2, 4), (RX3, TX3, 3), (RX4, TX4, 4), (RX5, TX5, 5), (RX6, TX6, 2), (RX7, TX7, 4), (RX8, TX8, 11), (RX9, TX9, 39)]
