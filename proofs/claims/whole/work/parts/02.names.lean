/-! ===== BEGIN words of one list among another's, by their places ===== -/
theorem goodIn_r {big : List Cond} (ws : List Cond) (ps : List Nat) (hp : ws = ps.filterMap (fun i => big[i]?)) (h : ws.all goodWord = true) : GoodIn big ws := by
  intro w hw
  have h1 := List.all_eq_true.mp h w hw
  rw [hp] at hw
  obtain ⟨i, -, hi⟩ := List.mem_filterMap.mp hw
  have hm : w ∈ big := by first | exact List.mem_of_getElem? hi | exact List.getElem?_mem hi
  exact ⟨hm, good_of_word h1⟩
theorem goodIn_app {big a b : List Cond} (ha : GoodIn big a) (hb : GoodIn big b) : GoodIn big (a ++ b) := fun w h => (List.mem_append.mp h).elim (ha w) (hb w)
theorem goodIn_ca {big a b : List Cond} {c : Cond} (ha : GoodIn big (c :: a)) (hb : GoodIn big b) : GoodIn big (c :: (a ++ b)) := fun w h => (List.mem_cons.mp h).elim (fun e => ha w (List.mem_cons.mpr (Or.inl e))) (fun h => (List.mem_append.mp h).elim (fun h => ha w (List.mem_cons.mpr (Or.inr h))) (hb w))
theorem goodIn_sub {big ws : List Cond} (hm : ∀ w ∈ ws, w ∈ big) (h : ws.all goodWord = true) : GoodIn big ws := fun w hw => ⟨hm w hw, good_of_word (List.all_eq_true.mp h w hw)⟩
/-! ===== END ===== -/



def RX0 : String := "AnswerPass$Law"
def TX0 : u_T := fun k => match k with
  | 0 => ("AnswerPass$Law", "use", "I", true)
  | 1 => ("AnswerPass$Law", "codes", "[I", true)
  | 2 => ("AnswerPass$Law", "open", "[I", true)
  | _ => ("AnswerPass$Law", "size", "I", false)
def tyX0 : Nat → FieldType := fun k => match k with
  | 0 => .int
  | 1 => .array .int
  | 2 => .array .int
  | _ => .int
abbrev wsX00 : List Cond := u_ws RX0 TX0 4
theorem nmX0 : ∀ a, a < 4 → ∀ b, b < 4 → a ≠ b → (TX0 a).2.1 ≠ (TX0 b).2.1 := by decide +kernel
theorem tyX0_ok : ∀ k, k < 4 → parseFieldDescriptor (TX0 k).2.2.1 = some (tyX0 k) := by decide +kernel
abbrev cX0_init : ByteArray := prog_2_method_1_code
def yX0_init : MethodName := ⟨RX0, "<init>", "(I)V"⟩
abbrev cX0_copies : ByteArray := prog_2_method_2_code
def yX0_copies : MethodName := ⟨RX0, "copies", "(LAnswerPass$Law;)V"⟩
abbrev cX0_becomes : ByteArray := prog_2_method_3_code
def yX0_becomes : MethodName := ⟨RX0, "becomes", "([II)V"⟩
abbrev cX0_gives : ByteArray := prog_2_method_4_code
def yX0_gives : MethodName := ⟨RX0, "gives", "(III)I"⟩
abbrev cX0_without : ByteArray := prog_2_method_5_code
def yX0_without : MethodName := ⟨RX0, "without", "(I)I"⟩
abbrev cX0_joined : ByteArray := prog_2_method_6_code
def yX0_joined : MethodName := ⟨RX0, "joined", "(III)I"⟩
def RX1 : String := "AnswerPass$Pass"
def TX1 : u_T := fun k => match k with
  | 0 => ("AnswerPass$Pass", "clear", "LAnswerPass$Law;", true)
  | 1 => ("AnswerPass$Pass", "pace", "LAnswerPass$Law;", true)
  | 2 => ("AnswerPass$Pass", "kinds", "[I", true)
  | 3 => ("AnswerPass$Pass", "numbers", "[I", true)
  | 4 => ("AnswerPass$Pass", "sures", "[I", true)
  | 5 => ("AnswerPass$Pass", "at", "[I", true)
  | 6 => ("AnswerPass$Pass", "lost", "[Z", true)
  | 7 => ("AnswerPass$Pass", "people", "I", false)
  | 8 => ("AnswerPass$Pass", "drops", "I", false)
  | _ => ("AnswerPass$Pass", "hour", "I", false)
def tyX1 : Nat → FieldType := fun k => match k with
  | 0 => .object "AnswerPass$Law"
  | 1 => .object "AnswerPass$Law"
  | 2 => .array .int
  | 3 => .array .int
  | 4 => .array .int
  | 5 => .array .int
  | 6 => .array .boolean
  | 7 => .int
  | 8 => .int
  | _ => .int
abbrev wsX10 : List Cond := u_ws RX1 TX1 10
theorem nmX1 : ∀ a, a < 10 → ∀ b, b < 10 → a ≠ b → (TX1 a).2.1 ≠ (TX1 b).2.1 := by decide +kernel
theorem tyX1_ok : ∀ k, k < 10 → parseFieldDescriptor (TX1 k).2.2.1 = some (tyX1 k) := by decide +kernel
abbrev cX1_init : ByteArray := prog_3_method_1_code
def yX1_init : MethodName := ⟨RX1, "<init>", "(LAnswerPass$Law;LAnswerPass$Law;)V"⟩
abbrev cX1_copies : ByteArray := prog_3_method_2_code
def yX1_copies : MethodName := ⟨RX1, "copies", "(LAnswerPass$Pass;)V"⟩
abbrev cX1_takesIn : ByteArray := prog_3_method_3_code
def yX1_takesIn : MethodName := ⟨RX1, "takesIn", "(III)I"⟩
abbrev cX1_stands : ByteArray := prog_3_method_4_code
def yX1_stands : MethodName := ⟨RX1, "stands", "(II)V"⟩
abbrev cX1_clearFor : ByteArray := prog_3_method_5_code
def yX1_clearFor : MethodName := ⟨RX1, "clearFor", "(I)I"⟩
abbrev cX1_paceOf : ByteArray := prog_3_method_6_code
def yX1_paceOf : MethodName := ⟨RX1, "paceOf", "(II)I"⟩
abbrev cX1_sees : ByteArray := prog_3_method_7_code
def yX1_sees : MethodName := ⟨RX1, "sees", "(I)I"⟩
abbrev cX1_together : ByteArray := prog_3_method_8_code
def yX1_together : MethodName := ⟨RX1, "together", "(I)I"⟩
abbrev cX1_falls : ByteArray := prog_3_method_9_code
def yX1_falls : MethodName := ⟨RX1, "falls", "(I)Z"⟩
abbrev cX1_anHourGoes : ByteArray := prog_3_method_10_code
def yX1_anHourGoes : MethodName := ⟨RX1, "anHourGoes", "(I)V"⟩
abbrev cX1_goes : ByteArray := prog_3_method_11_code
def yX1_goes : MethodName := ⟨RX1, "goes", "(IIZ)V"⟩
abbrev cX1_through : ByteArray := prog_3_method_12_code
def yX1_through : MethodName := ⟨RX1, "through", "()I"⟩
abbrev cX1_howManyAre : ByteArray := prog_3_method_13_code
def yX1_howManyAre : MethodName := ⟨RX1, "howManyAre", "([I[II)I"⟩
def RX2 : String := "AnswerPass$Reader"
def TX2 : u_T := fun k => match k with
  | 0 => ("AnswerPass$Reader", "tape", "[I", true)
  | 1 => ("AnswerPass$Reader", "codes", "[I", true)
  | 2 => ("AnswerPass$Reader", "written", "I", false)
  | 3 => ("AnswerPass$Reader", "size", "I", false)
  | 4 => ("AnswerPass$Reader", "place", "I", false)
  | _ => ("AnswerPass$Reader", "names", "Ljava/lang/String;", false)
def tyX2 : Nat → FieldType := fun k => match k with
  | 0 => .array .int
  | 1 => .array .int
  | 2 => .int
  | 3 => .int
  | 4 => .int
  | _ => .object "java/lang/String"
abbrev wsX20 : List Cond := u_ws RX2 TX2 6
theorem nmX2 : ∀ a, a < 6 → ∀ b, b < 6 → a ≠ b → (TX2 a).2.1 ≠ (TX2 b).2.1 := by decide +kernel
theorem tyX2_ok : ∀ k, k < 6 → parseFieldDescriptor (TX2 k).2.2.1 = some (tyX2 k) := by decide +kernel
abbrev cX2_init : ByteArray := prog_4_method_1_code
def yX2_init : MethodName := ⟨RX2, "<init>", "([I)V"⟩
abbrev cX2_faultOf : ByteArray := prog_4_method_2_code
def yX2_faultOf : MethodName := ⟨RX2, "faultOf", "(II)I"⟩
abbrev cX2_reads : ByteArray := prog_4_method_3_code
def yX2_reads : MethodName := ⟨RX2, "reads", "(II)Z"⟩
abbrev cX2_readsUnit : ByteArray := prog_4_method_4_code
def yX2_readsUnit : MethodName := ⟨RX2, "readsUnit", "(I)Z"⟩
abbrev cX2_readsNumber : ByteArray := prog_4_method_5_code
def yX2_readsNumber : MethodName := ⟨RX2, "readsNumber", "()Z"⟩
abbrev cX2_readsNot : ByteArray := prog_4_method_6_code
def yX2_readsNot : MethodName := ⟨RX2, "readsNot", "(I)Z"⟩
abbrev cX2_readsInner : ByteArray := prog_4_method_7_code
def yX2_readsInner : MethodName := ⟨RX2, "readsInner", "(I)Z"⟩
abbrev cX2_next : ByteArray := prog_4_method_8_code
def yX2_next : MethodName := ⟨RX2, "next", "()I"⟩
abbrev cX2_writes : ByteArray := prog_4_method_9_code
def yX2_writes : MethodName := ⟨RX2, "writes", "(I)V"⟩
abbrev cX2_isDigit : ByteArray := prog_4_method_10_code
def yX2_isDigit : MethodName := ⟨RX2, "isDigit", "(I)Z"⟩
abbrev cX2_rankOf : ByteArray := prog_4_method_11_code
def yX2_rankOf : MethodName := ⟨RX2, "rankOf", "(I)I"⟩
def RX3 : String := "AnswerPass$Sheets"
def TX3 : u_T := fun k => match k with
  | 0 => ("AnswerPass$Sheets", "bits", "[I", true)
  | 1 => ("AnswerPass$Sheets", "sizes", "[I", true)
  | _ => ("AnswerPass$Sheets", "rows", "[[I", true)
def tyX3 : Nat → FieldType := fun k => match k with
  | 0 => .array .int
  | 1 => .array .int
  | _ => .array (.array .int)
abbrev wsX30 : List Cond := u_ws RX3 TX3 3
theorem nmX3 : ∀ a, a < 3 → ∀ b, b < 3 → a ≠ b → (TX3 a).2.1 ≠ (TX3 b).2.1 := by decide +kernel
theorem tyX3_ok : ∀ k, k < 3 → parseFieldDescriptor (TX3 k).2.2.1 = some (tyX3 k) := by decide +kernel
abbrev cX3_init : ByteArray := prog_5_method_1_code
def yX3_init : MethodName := ⟨RX3, "<init>", "()V"⟩
abbrev cX3_isMissing : ByteArray := prog_5_method_2_code
def yX3_isMissing : MethodName := ⟨RX3, "isMissing", "(I)Z"⟩
abbrev cX3_lays : ByteArray := prog_5_method_3_code
def yX3_lays : MethodName := ⟨RX3, "lays", "(III)V"⟩
abbrev cX3_lowest : ByteArray := prog_5_method_4_code
def yX3_lowest : MethodName := ⟨RX3, "lowest", "(II)I"⟩
abbrev cX3_holds : ByteArray := prog_5_method_5_code
def yX3_holds : MethodName := ⟨RX3, "holds", "(III)Z"⟩
def RX4 : String := "AnswerPass$State"
def TX4 : u_T := fun k => match k with
  | 0 => ("AnswerPass$State", "clear", "LAnswerPass$Law;", true)
  | 1 => ("AnswerPass$State", "pace", "LAnswerPass$Law;", true)
  | 2 => ("AnswerPass$State", "pass", "LAnswerPass$Pass;", true)
  | 3 => ("AnswerPass$State", "tape", "[I", true)
  | 4 => ("AnswerPass$State", "tapeSize", "I", false)
  | 5 => ("AnswerPass$State", "waits", "[I", true)
  | 6 => ("AnswerPass$State", "waiting", "I", false)
  | _ => ("AnswerPass$State", "z", "I", false)
def tyX4 : Nat → FieldType := fun k => match k with
  | 0 => .object "AnswerPass$Law"
  | 1 => .object "AnswerPass$Law"
  | 2 => .object "AnswerPass$Pass"
  | 3 => .array .int
  | 4 => .int
  | 5 => .array .int
  | 6 => .int
  | _ => .int
abbrev wsX40 : List Cond := u_ws RX4 TX4 8
theorem nmX4 : ∀ a, a < 8 → ∀ b, b < 8 → a ≠ b → (TX4 a).2.1 ≠ (TX4 b).2.1 := by decide +kernel
theorem tyX4_ok : ∀ k, k < 8 → parseFieldDescriptor (TX4 k).2.2.1 = some (tyX4 k) := by decide +kernel
abbrev cX4_init : ByteArray := prog_6_method_1_code
def yX4_init : MethodName := ⟨RX4, "<init>", "()V"⟩
abbrev cX4_copies : ByteArray := prog_6_method_2_code
def yX4_copies : MethodName := ⟨RX4, "copies", "(LAnswerPass$State;)V"⟩
abbrev cX4_lawOf : ByteArray := prog_6_method_3_code
def yX4_lawOf : MethodName := ⟨RX4, "lawOf", "(I)LAnswerPass$Law;"⟩
abbrev cX4_takesBytes : ByteArray := prog_6_method_4_code
def yX4_takesBytes : MethodName := ⟨RX4, "takesBytes", "(JI)V"⟩
abbrev cX4_draws : ByteArray := prog_6_method_5_code
def yX4_draws : MethodName := ⟨RX4, "draws", "()I"⟩
abbrev cX4_drawsAnHour : ByteArray := prog_6_method_6_code
def yX4_drawsAnHour : MethodName := ⟨RX4, "drawsAnHour", "()V"⟩
def RX5 : String := "AnswerPass$Thought"
def TX5 : u_T := fun k => match k with
  | 0 => ("AnswerPass$Thought", "truth", "LAnswerPass$Pass;", true)
  | _ => ("AnswerPass$Thought", "pass", "LAnswerPass$Pass;", true)
def tyX5 : Nat → FieldType := fun k => match k with
  | 0 => .object "AnswerPass$Pass"
  | _ => .object "AnswerPass$Pass"
abbrev wsX50 : List Cond := u_ws RX5 TX5 2
theorem nmX5 : ∀ a, a < 2 → ∀ b, b < 2 → a ≠ b → (TX5 a).2.1 ≠ (TX5 b).2.1 := by decide +kernel
theorem tyX5_ok : ∀ k, k < 2 → parseFieldDescriptor (TX5 k).2.2.1 = some (tyX5 k) := by decide +kernel
abbrev cX5_init : ByteArray := prog_7_method_1_code
def yX5_init : MethodName := ⟨RX5, "<init>", "(LAnswerPass$Pass;)V"⟩
abbrev cX5_starts : ByteArray := prog_7_method_2_code
def yX5_starts : MethodName := ⟨RX5, "starts", "()V"⟩
abbrev cX5_goesOn : ByteArray := prog_7_method_3_code
def yX5_goesOn : MethodName := ⟨RX5, "goesOn", "(II)V"⟩
abbrev cX5_hoursTo : ByteArray := prog_7_method_4_code
def yX5_hoursTo : MethodName := ⟨RX5, "hoursTo", "(III)I"⟩
abbrev cX5_comesWith : ByteArray := prog_7_method_5_code
def yX5_comesWith : MethodName := ⟨RX5, "comesWith", "(IIII)Z"⟩
abbrev cX5_comesWithout : ByteArray := prog_7_method_6_code
def yX5_comesWithout : MethodName := ⟨RX5, "comesWithout", "(IIII)Z"⟩
abbrev cX5_leastFilled : ByteArray := prog_7_method_7_code
def yX5_leastFilled : MethodName := ⟨RX5, "leastFilled", "(III)I"⟩
abbrev cX5_isDrop : ByteArray := prog_7_method_8_code
def yX5_isDrop : MethodName := ⟨RX5, "isDrop", "(I)Z"⟩
abbrev cX5_howFarWith : ByteArray := prog_7_method_9_code
def yX5_howFarWith : MethodName := ⟨RX5, "howFarWith", "(III)I"⟩
abbrev cX5_clearsAs : ByteArray := prog_7_method_10_code
def yX5_clearsAs : MethodName := ⟨RX5, "clearsAs", "(II[II)Z"⟩
def RX6 : String := "AnswerPass$Voices"
def TX6 : u_T := fun k => match k with
  | 0 => ("AnswerPass$Voices", "trace", "[I", true)
  | 1 => ("AnswerPass$Voices", "begun", "I", false)
  | 2 => ("AnswerPass$Voices", "isParted", "Z", false)
  | 3 => ("AnswerPass$Voices", "kind", "I", false)
  | 4 => ("AnswerPass$Voices", "k", "I", false)
  | _ => ("AnswerPass$Voices", "m", "I", false)
def tyX6 : Nat → FieldType := fun k => match k with
  | 0 => .array .int
  | 1 => .int
  | 2 => .boolean
  | 3 => .int
  | 4 => .int
  | _ => .int
abbrev wsX60 : List Cond := u_ws RX6 TX6 6
theorem nmX6 : ∀ a, a < 6 → ∀ b, b < 6 → a ≠ b → (TX6 a).2.1 ≠ (TX6 b).2.1 := by decide +kernel
theorem tyX6_ok : ∀ k, k < 6 → parseFieldDescriptor (TX6 k).2.2.1 = some (tyX6 k) := by decide +kernel
abbrev cX6_init : ByteArray := prog_8_method_1_code
def yX6_init : MethodName := ⟨RX6, "<init>", "()V"⟩
abbrev cX6_speaks : ByteArray := prog_8_method_2_code
def yX6_speaks : MethodName := ⟨RX6, "speaks", "(IIIII)I"⟩
abbrev cX6_says : ByteArray := prog_8_method_3_code
def yX6_says : MethodName := ⟨RX6, "says", "(II)I"⟩
abbrev cX6_sees : ByteArray := prog_8_method_4_code
def yX6_sees : MethodName := ⟨RX6, "sees", "(II)I"⟩
abbrev cX6_above : ByteArray := prog_8_method_5_code
def yX6_above : MethodName := ⟨RX6, "above", "(IIII)I"⟩
abbrev cX6_partsBy : ByteArray := prog_8_method_6_code
def yX6_partsBy : MethodName := ⟨RX6, "partsBy", "(II)I"⟩
abbrev cX6_worksOut : ByteArray := prog_8_method_7_code
def yX6_worksOut : MethodName := ⟨RX6, "worksOut", "(III)I"⟩
abbrev cX6_begins : ByteArray := prog_8_method_8_code
def yX6_begins : MethodName := ⟨RX6, "begins", "(I)V"⟩
abbrev cX6_bodyFrom : ByteArray := prog_8_method_9_code
def yX6_bodyFrom : MethodName := ⟨RX6, "bodyFrom", "(II)I"⟩
def RX7 : String := "AnswerPass"
def TX7 : u_T := fun k => match k with
  | 0 => ("AnswerPass", "now", "LAnswerPass$State;", true)
  | 1 => ("AnswerPass", "kept", "LAnswerPass$State;", true)
  | 2 => ("AnswerPass", "reader", "LAnswerPass$Reader;", true)
  | 3 => ("AnswerPass", "thought", "LAnswerPass$Thought;", true)
  | 4 => ("AnswerPass", "voices", "LAnswerPass$Voices;", true)
  | 5 => ("AnswerPass", "sheets", "LAnswerPass$Sheets;", true)
  | 6 => ("AnswerPass", "errors", "[I", true)
  | _ => ("AnswerPass", "images", "I", false)
def tyX7 : Nat → FieldType := fun k => match k with
  | 0 => .object "AnswerPass$State"
  | 1 => .object "AnswerPass$State"
  | 2 => .object "AnswerPass$Reader"
  | 3 => .object "AnswerPass$Thought"
  | 4 => .object "AnswerPass$Voices"
  | 5 => .object "AnswerPass$Sheets"
  | 6 => .array .int
  | _ => .int
abbrev wsX70 : List Cond := u_ws RX7 TX7 8
theorem nmX7 : ∀ a, a < 8 → ∀ b, b < 8 → a ≠ b → (TX7 a).2.1 ≠ (TX7 b).2.1 := by decide +kernel
theorem tyX7_ok : ∀ k, k < 8 → parseFieldDescriptor (TX7 k).2.2.1 = some (tyX7 k) := by decide +kernel
abbrev cX7_init : ByteArray := prog_1_method_1_code
def yX7_init : MethodName := ⟨RX7, "<init>", "()V"⟩
abbrev cX7_person : ByteArray := prog_1_method_2_code
def yX7_person : MethodName := ⟨RX7, "person", "(II)I"⟩
abbrev cX7_personIs : ByteArray := prog_1_method_3_code
def yX7_personIs : MethodName := ⟨RX7, "personIs", "(II)I"⟩
abbrev cX7_become : ByteArray := prog_1_method_4_code
def yX7_become : MethodName := ⟨RX7, "become", "(II)I"⟩
abbrev cX7_as : ByteArray := prog_1_method_5_code
def yX7_as : MethodName := ⟨RX7, "as", "(II)I"⟩
abbrev cX7_answers : ByteArray := prog_1_method_6_code
def yX7_answers : MethodName := ⟨RX7, "answers", "(II)I"⟩
abbrev cX7_puts : ByteArray := prog_1_method_7_code
def yX7_puts : MethodName := ⟨RX7, "puts", "(II)I"⟩
abbrev cX7_drop : ByteArray := prog_1_method_8_code
def yX7_drop : MethodName := ⟨RX7, "drop", "(II)I"⟩
abbrev cX7_feed : ByteArray := prog_1_method_9_code
def yX7_feed : MethodName := ⟨RX7, "feed", "(JI)I"⟩
abbrev cX7_text : ByteArray := prog_1_method_10_code
def yX7_text : MethodName := ⟨RX7, "text", "(I)I"⟩
abbrev cX7_untell : ByteArray := prog_1_method_11_code
def yX7_untell : MethodName := ⟨RX7, "untell", "(I)I"⟩
abbrev cX7_law : ByteArray := prog_1_method_12_code
def yX7_law : MethodName := ⟨RX7, "law", "(IIII)I"⟩
abbrev cX7_hours : ByteArray := prog_1_method_13_code
def yX7_hours : MethodName := ⟨RX7, "hours", "(I)I"⟩
abbrev cX7_loose : ByteArray := prog_1_method_14_code
def yX7_loose : MethodName := ⟨RX7, "loose", "(I)I"⟩
abbrev cX7_hour : ByteArray := prog_1_method_15_code
def yX7_hour : MethodName := ⟨RX7, "hour", "(I)I"⟩
abbrev cX7_seed : ByteArray := prog_1_method_16_code
def yX7_seed : MethodName := ⟨RX7, "seed", "(I)I"⟩
abbrev cX7_then : ByteArray := prog_1_method_17_code
def yX7_then : MethodName := ⟨RX7, "then", "(III)I"⟩
abbrev cX7_soonest : ByteArray := prog_1_method_18_code
def yX7_soonest : MethodName := ⟨RX7, "soonest", "(II)I"⟩
abbrev cX7_least : ByteArray := prog_1_method_19_code
def yX7_least : MethodName := ⟨RX7, "least", "(III)I"⟩
abbrev cX7_fills : ByteArray := prog_1_method_20_code
def yX7_fills : MethodName := ⟨RX7, "fills", "(IIII)I"⟩
abbrev cX7_withWhom : ByteArray := prog_1_method_21_code
def yX7_withWhom : MethodName := ⟨RX7, "withWhom", "(II)I"⟩
abbrev cX7_odds : ByteArray := prog_1_method_22_code
def yX7_odds : MethodName := ⟨RX7, "odds", "(IIII)I"⟩
abbrev cX7_fits : ByteArray := prog_1_method_23_code
def yX7_fits : MethodName := ⟨RX7, "fits", "(III)I"⟩
abbrev cX7_voice : ByteArray := prog_1_method_24_code
def yX7_voice : MethodName := ⟨RX7, "voice", "(III)I"⟩
abbrev cX7_body : ByteArray := prog_1_method_25_code
def yX7_body : MethodName := ⟨RX7, "body", "(I)I"⟩
abbrev cX7_sheet : ByteArray := prog_1_method_26_code
def yX7_sheet : MethodName := ⟨RX7, "sheet", "(III)I"⟩
abbrev cX7_put : ByteArray := prog_1_method_27_code
def yX7_put : MethodName := ⟨RX7, "put", "(III)I"⟩
abbrev cX7_move : ByteArray := prog_1_method_28_code
def yX7_move : MethodName := ⟨RX7, "move", "(IIIII)I"⟩
abbrev cX7_sures : ByteArray := prog_1_method_29_code
def yX7_sures : MethodName := ⟨RX7, "sures", "(I)I"⟩
abbrev cX7_judge : ByteArray := prog_1_method_30_code
def yX7_judge : MethodName := ⟨RX7, "judge", "(I)I"⟩
abbrev cX7_image : ByteArray := prog_1_method_31_code
def yX7_image : MethodName := ⟨RX7, "image", "()I"⟩
abbrev cX7_restore : ByteArray := prog_1_method_32_code
def yX7_restore : MethodName := ⟨RX7, "restore", "()I"⟩
abbrev cX7_tell : ByteArray := prog_1_method_33_code
def yX7_tell : MethodName := ⟨RX7, "tell", "(I)I"⟩
abbrev cX7_check : ByteArray := prog_1_method_34_code
def yX7_check : MethodName := ⟨RX7, "check", "()I"⟩
abbrev cX7_count : ByteArray := prog_1_method_35_code
def yX7_count : MethodName := ⟨RX7, "count", "(I)I"⟩
abbrev cX7_told : ByteArray := prog_1_method_36_code
def yX7_told : MethodName := ⟨RX7, "told", "(I)I"⟩
abbrev cX7_refuse : ByteArray := prog_1_method_37_code
def yX7_refuse : MethodName := ⟨RX7, "refuse", "(I)I"⟩
abbrev cX7_isPerson : ByteArray := prog_1_method_38_code
def yX7_isPerson : MethodName := ⟨RX7, "isPerson", "(I)Z"⟩
abbrev cX7_isWithin : ByteArray := prog_1_method_39_code
def yX7_isWithin : MethodName := ⟨RX7, "isWithin", "(III)Z"⟩
abbrev cX7_isKindAndNumber : ByteArray := prog_1_method_40_code
def yX7_isKindAndNumber : MethodName := ⟨RX7, "isKindAndNumber", "(I)Z"⟩
abbrev cX7_isSure : ByteArray := prog_1_method_41_code
def yX7_isSure : MethodName := ⟨RX7, "isSure", "(I)Z"⟩
abbrev cX7_isCell : ByteArray := prog_1_method_42_code
def yX7_isCell : MethodName := ⟨RX7, "isCell", "(I)Z"⟩
abbrev cX7_isNear : ByteArray := prog_1_method_43_code
def yX7_isNear : MethodName := ⟨RX7, "isNear", "(I)Z"⟩
abbrev cX7_isUse : ByteArray := prog_1_method_44_code
def yX7_isUse : MethodName := ⟨RX7, "isUse", "(I)Z"⟩
abbrev cX7_isSheet : ByteArray := prog_1_method_45_code
def yX7_isSheet : MethodName := ⟨RX7, "isSheet", "(I)Z"⟩
abbrev cX7_isKindOrUnder : ByteArray := prog_1_method_46_code
def yX7_isKindOrUnder : MethodName := ⟨RX7, "isKindOrUnder", "(II)Z"⟩
abbrev cX7_commonDivisor : ByteArray := prog_1_method_47_code
def yX7_commonDivisor : MethodName := ⟨RX7, "commonDivisor", "(II)I"⟩
def RX8 : String := "AnswerPassModel"
def TX8 : u_T := fun k => match k with
  | 0 => ("AnswerPassModel", "s", "[I", true)
  | 1 => ("AnswerPassModel", "kept", "[I", true)
  | 2 => ("AnswerPassModel", "laid", "[I", true)
  | 3 => ("AnswerPassModel", "images", "I", false)
  | 4 => ("AnswerPassModel", "errors", "[I", true)
  | 5 => ("AnswerPassModel", "at", "I", false)
  | 6 => ("AnswerPassModel", "open", "I", false)
  | 7 => ("AnswerPassModel", "steps", "I", false)
  | 8 => ("AnswerPassModel", "use", "I", false)
  | 9 => ("AnswerPassModel", "step", "[I", true)
  | 10 => ("AnswerPassModel", "named", "[I", true)
  | 11 => ("AnswerPassModel", "pile", "[I", true)
  | 12 => ("AnswerPassModel", "traced", "I", false)
  | 13 => ("AnswerPassModel", "trace", "[I", true)
  | 14 => ("AnswerPassModel", "speaks", "I", false)
  | 15 => ("AnswerPassModel", "isParted", "Z", false)
  | 16 => ("AnswerPassModel", "bits", "[I", true)
  | 17 => ("AnswerPassModel", "sizes", "[I", true)
  | 18 => ("AnswerPassModel", "number", "[I", true)
  | _ => ("AnswerPassModel", "aside", "[I", true)
def tyX8 : Nat → FieldType := fun k => match k with
  | 0 => .array .int
  | 1 => .array .int
  | 2 => .array .int
  | 3 => .int
  | 4 => .array .int
  | 5 => .int
  | 6 => .int
  | 7 => .int
  | 8 => .int
  | 9 => .array .int
  | 10 => .array .int
  | 11 => .array .int
  | 12 => .int
  | 13 => .array .int
  | 14 => .int
  | 15 => .boolean
  | 16 => .array .int
  | 17 => .array .int
  | 18 => .array .int
  | _ => .array .int
abbrev wsX80 : List Cond := u_ws RX8 TX8 20
theorem nmX8 : ∀ a, a < 20 → ∀ b, b < 20 → a ≠ b → (TX8 a).2.1 ≠ (TX8 b).2.1 := by decide +kernel
theorem tyX8_ok : ∀ k, k < 20 → parseFieldDescriptor (TX8 k).2.2.1 = some (tyX8 k) := by decide +kernel
abbrev cX8_init : ByteArray := prog_10_method_1_code
def yX8_init : MethodName := ⟨RX8, "<init>", "()V"⟩
abbrev cX8_error : ByteArray := prog_10_method_2_code
def yX8_error : MethodName := ⟨RX8, "error", "(I)I"⟩
abbrev cX8_in : ByteArray := prog_10_method_3_code
def yX8_in : MethodName := ⟨RX8, "in", "(III)Z"⟩
abbrev cX8_held : ByteArray := prog_10_method_4_code
def yX8_held : MethodName := ⟨RX8, "held", "(III)I"⟩
abbrev cX8_copyAll : ByteArray := prog_10_method_5_code
def yX8_copyAll : MethodName := ⟨RX8, "copyAll", "([I[I)V"⟩
abbrev cX8_layDown : ByteArray := prog_10_method_6_code
def yX8_layDown : MethodName := ⟨RX8, "layDown", "()V"⟩
abbrev cX8_layBack : ByteArray := prog_10_method_7_code
def yX8_layBack : MethodName := ⟨RX8, "layBack", "()V"⟩
abbrev cX8_isPerson : ByteArray := prog_10_method_8_code
def yX8_isPerson : MethodName := ⟨RX8, "isPerson", "(I)Z"⟩
abbrev cX8_isCell : ByteArray := prog_10_method_9_code
def yX8_isCell : MethodName := ⟨RX8, "isCell", "(I)Z"⟩
abbrev cX8_its : ByteArray := prog_10_method_10_code
def yX8_its : MethodName := ⟨RX8, "its", "(II)I"⟩
abbrev cX8_lays1 : ByteArray := prog_10_method_11_code
def yX8_lays1 : MethodName := ⟨RX8, "lays1", "(III)V"⟩
abbrev cX8_change1 : ByteArray := prog_10_method_12_code
def yX8_change1 : MethodName := ⟨RX8, "change1", "(II)I"⟩
abbrev cX8_isDrop : ByteArray := prog_10_method_13_code
def yX8_isDrop : MethodName := ⟨RX8, "isDrop", "(I)Z"⟩
abbrev cX8_feed : ByteArray := prog_10_method_14_code
def yX8_feed : MethodName := ⟨RX8, "feed", "(JI)I"⟩
abbrev cX8_look : ByteArray := prog_10_method_15_code
def yX8_look : MethodName := ⟨RX8, "look", "()I"⟩
abbrev cX8_isName : ByteArray := prog_10_method_16_code
def yX8_isName : MethodName := ⟨RX8, "isName", "(I)Z"⟩
abbrev cX8_step1 : ByteArray := prog_10_method_17_code
def yX8_step1 : MethodName := ⟨RX8, "step1", "(II)V"⟩
abbrev cX8_whole : ByteArray := prog_10_method_18_code
def yX8_whole : MethodName := ⟨RX8, "whole", "()Z"⟩
abbrev cX8_both : ByteArray := prog_10_method_19_code
def yX8_both : MethodName := ⟨RX8, "both", "()Z"⟩
abbrev cX8_compared : ByteArray := prog_10_method_20_code
def yX8_compared : MethodName := ⟨RX8, "compared", "()Z"⟩
abbrev cX8_sum : ByteArray := prog_10_method_21_code
def yX8_sum : MethodName := ⟨RX8, "sum", "()Z"⟩
abbrev cX8_product : ByteArray := prog_10_method_22_code
def yX8_product : MethodName := ⟨RX8, "product", "()Z"⟩
abbrev cX8_opens : ByteArray := prog_10_method_23_code
def yX8_opens : MethodName := ⟨RX8, "opens", "()Z"⟩
abbrev cX8_one : ByteArray := prog_10_method_24_code
def yX8_one : MethodName := ⟨RX8, "one", "()Z"⟩
abbrev cX8_hasText : ByteArray := prog_10_method_25_code
def yX8_hasText : MethodName := ⟨RX8, "hasText", "(I)Z"⟩
abbrev cX8_text : ByteArray := prog_10_method_26_code
def yX8_text : MethodName := ⟨RX8, "text", "(I)I"⟩
abbrev cX8_untell : ByteArray := prog_10_method_27_code
def yX8_untell : MethodName := ⟨RX8, "untell", "(I)I"⟩
abbrev cX8_joined : ByteArray := prog_10_method_28_code
def yX8_joined : MethodName := ⟨RX8, "joined", "(III)I"⟩
abbrev cX8_worked : ByteArray := prog_10_method_29_code
def yX8_worked : MethodName := ⟨RX8, "worked", "(I)I"⟩
abbrev cX8_together : ByteArray := prog_10_method_30_code
def yX8_together : MethodName := ⟨RX8, "together", "(I)I"⟩
abbrev cX8_seesOf : ByteArray := prog_10_method_31_code
def yX8_seesOf : MethodName := ⟨RX8, "seesOf", "(I)I"⟩
abbrev cX8_doesFall : ByteArray := prog_10_method_32_code
def yX8_doesFall : MethodName := ⟨RX8, "doesFall", "(I)Z"⟩
abbrev cX8_clearTold : ByteArray := prog_10_method_33_code
def yX8_clearTold : MethodName := ⟨RX8, "clearTold", "(III)I"⟩
abbrev cX8_paceTold : ByteArray := prog_10_method_34_code
def yX8_paceTold : MethodName := ⟨RX8, "paceTold", "(III)I"⟩
abbrev cX8_clearOf : ByteArray := prog_10_method_35_code
def yX8_clearOf : MethodName := ⟨RX8, "clearOf", "(I)I"⟩
abbrev cX8_paceOf : ByteArray := prog_10_method_36_code
def yX8_paceOf : MethodName := ⟨RX8, "paceOf", "(I)I"⟩
abbrev cX8_walks1 : ByteArray := prog_10_method_37_code
def yX8_walks1 : MethodName := ⟨RX8, "walks1", "(I)V"⟩
abbrev cX8_anHour : ByteArray := prog_10_method_38_code
def yX8_anHour : MethodName := ⟨RX8, "anHour", "()V"⟩
abbrev cX8_goes : ByteArray := prog_10_method_39_code
def yX8_goes : MethodName := ⟨RX8, "goes", "(I)V"⟩
abbrev cX8_through : ByteArray := prog_10_method_40_code
def yX8_through : MethodName := ⟨RX8, "through", "()I"⟩
abbrev cX8_draw : ByteArray := prog_10_method_41_code
def yX8_draw : MethodName := ⟨RX8, "draw", "()I"⟩
abbrev cX8_isKind : ByteArray := prog_10_method_42_code
def yX8_isKind : MethodName := ⟨RX8, "isKind", "(I)Z"⟩
abbrev cX8_person : ByteArray := prog_10_method_43_code
def yX8_person : MethodName := ⟨RX8, "person", "(II)I"⟩
abbrev cX8_personIs : ByteArray := prog_10_method_44_code
def yX8_personIs : MethodName := ⟨RX8, "personIs", "(II)I"⟩
abbrev cX8_become : ByteArray := prog_10_method_45_code
def yX8_become : MethodName := ⟨RX8, "become", "(II)I"⟩
abbrev cX8_as : ByteArray := prog_10_method_46_code
def yX8_as : MethodName := ⟨RX8, "as", "(II)I"⟩
abbrev cX8_answers : ByteArray := prog_10_method_47_code
def yX8_answers : MethodName := ⟨RX8, "answers", "(II)I"⟩
abbrev cX8_puts : ByteArray := prog_10_method_48_code
def yX8_puts : MethodName := ⟨RX8, "puts", "(II)I"⟩
abbrev cX8_drop : ByteArray := prog_10_method_49_code
def yX8_drop : MethodName := ⟨RX8, "drop", "(II)I"⟩
abbrev cX8_law : ByteArray := prog_10_method_50_code
def yX8_law : MethodName := ⟨RX8, "law", "(IIII)I"⟩
abbrev cX8_whyNot : ByteArray := prog_10_method_51_code
def yX8_whyNot : MethodName := ⟨RX8, "whyNot", "(II)I"⟩
abbrev cX8_hours : ByteArray := prog_10_method_52_code
def yX8_hours : MethodName := ⟨RX8, "hours", "(I)I"⟩
abbrev cX8_chances : ByteArray := prog_10_method_53_code
def yX8_chances : MethodName := ⟨RX8, "chances", "()V"⟩
abbrev cX8_loose : ByteArray := prog_10_method_54_code
def yX8_loose : MethodName := ⟨RX8, "loose", "(I)I"⟩
abbrev cX8_hour : ByteArray := prog_10_method_55_code
def yX8_hour : MethodName := ⟨RX8, "hour", "(I)I"⟩
abbrev cX8_seed : ByteArray := prog_10_method_56_code
def yX8_seed : MethodName := ⟨RX8, "seed", "(I)I"⟩
abbrev cX8_then : ByteArray := prog_10_method_57_code
def yX8_then : MethodName := ⟨RX8, "then", "(III)I"⟩
abbrev cX8_comesBy : ByteArray := prog_10_method_58_code
def yX8_comesBy : MethodName := ⟨RX8, "comesBy", "(III)I"⟩
abbrev cX8_soonest : ByteArray := prog_10_method_59_code
def yX8_soonest : MethodName := ⟨RX8, "soonest", "(II)I"⟩
abbrev cX8_isSoon : ByteArray := prog_10_method_60_code
def yX8_isSoon : MethodName := ⟨RX8, "isSoon", "(I)Z"⟩
abbrev cX8_comesWith : ByteArray := prog_10_method_61_code
def yX8_comesWith : MethodName := ⟨RX8, "comesWith", "(IIII)Z"⟩
abbrev cX8_least : ByteArray := prog_10_method_62_code
def yX8_least : MethodName := ⟨RX8, "least", "(III)I"⟩
abbrev cX8_manyIn : ByteArray := prog_10_method_63_code
def yX8_manyIn : MethodName := ⟨RX8, "manyIn", "(I)I"⟩
abbrev cX8_comesWithout : ByteArray := prog_10_method_64_code
def yX8_comesWithout : MethodName := ⟨RX8, "comesWithout", "(IIII)Z"⟩
abbrev cX8_fills : ByteArray := prog_10_method_65_code
def yX8_fills : MethodName := ⟨RX8, "fills", "(IIII)I"⟩
abbrev cX8_farWith : ByteArray := prog_10_method_66_code
def yX8_farWith : MethodName := ⟨RX8, "farWith", "(III)I"⟩
abbrev cX8_withWhom : ByteArray := prog_10_method_67_code
def yX8_withWhom : MethodName := ⟨RX8, "withWhom", "(II)I"⟩
abbrev cX8_divisor : ByteArray := prog_10_method_68_code
def yX8_divisor : MethodName := ⟨RX8, "divisor", "(II)I"⟩
abbrev cX8_odds : ByteArray := prog_10_method_69_code
def yX8_odds : MethodName := ⟨RX8, "odds", "(IIII)I"⟩
abbrev cX8_clearsSo : ByteArray := prog_10_method_70_code
def yX8_clearsSo : MethodName := ⟨RX8, "clearsSo", "(III)Z"⟩
abbrev cX8_fits : ByteArray := prog_10_method_71_code
def yX8_fits : MethodName := ⟨RX8, "fits", "(III)I"⟩
abbrev cX8_starts : ByteArray := prog_10_method_72_code
def yX8_starts : MethodName := ⟨RX8, "starts", "(I)V"⟩
abbrev cX8_above : ByteArray := prog_10_method_73_code
def yX8_above : MethodName := ⟨RX8, "above", "(I)I"⟩
abbrev cX8_kindNow : ByteArray := prog_10_method_74_code
def yX8_kindNow : MethodName := ⟨RX8, "kindNow", "()I"⟩
abbrev cX8_mNow : ByteArray := prog_10_method_75_code
def yX8_mNow : MethodName := ⟨RX8, "mNow", "()I"⟩
abbrev cX8_saysAs : ByteArray := prog_10_method_76_code
def yX8_saysAs : MethodName := ⟨RX8, "saysAs", "(II)I"⟩
abbrev cX8_seesAs : ByteArray := prog_10_method_77_code
def yX8_seesAs : MethodName := ⟨RX8, "seesAs", "(II)I"⟩
abbrev cX8_walksAs : ByteArray := prog_10_method_78_code
def yX8_walksAs : MethodName := ⟨RX8, "walksAs", "(II)I"⟩
abbrev cX8_partsAs : ByteArray := prog_10_method_79_code
def yX8_partsAs : MethodName := ⟨RX8, "partsAs", "(II)I"⟩
abbrev cX8_voice : ByteArray := prog_10_method_80_code
def yX8_voice : MethodName := ⟨RX8, "voice", "(III)I"⟩
abbrev cX8_body : ByteArray := prog_10_method_81_code
def yX8_body : MethodName := ⟨RX8, "body", "(I)I"⟩
abbrev cX8_isSheet : ByteArray := prog_10_method_82_code
def yX8_isSheet : MethodName := ⟨RX8, "isSheet", "(I)Z"⟩
abbrev cX8_sheet : ByteArray := prog_10_method_83_code
def yX8_sheet : MethodName := ⟨RX8, "sheet", "(III)I"⟩
abbrev cX8_put : ByteArray := prog_10_method_84_code
def yX8_put : MethodName := ⟨RX8, "put", "(III)I"⟩
abbrev cX8_move : ByteArray := prog_10_method_85_code
def yX8_move : MethodName := ⟨RX8, "move", "(IIIII)I"⟩
abbrev cX8_lacks : ByteArray := prog_10_method_86_code
def yX8_lacks : MethodName := ⟨RX8, "lacks", "(I)I"⟩
abbrev cX8_sures : ByteArray := prog_10_method_87_code
def yX8_sures : MethodName := ⟨RX8, "sures", "(I)I"⟩
abbrev cX8_judge : ByteArray := prog_10_method_88_code
def yX8_judge : MethodName := ⟨RX8, "judge", "(I)I"⟩
abbrev cX8_image : ByteArray := prog_10_method_89_code
def yX8_image : MethodName := ⟨RX8, "image", "()I"⟩
abbrev cX8_restore : ByteArray := prog_10_method_90_code
def yX8_restore : MethodName := ⟨RX8, "restore", "()I"⟩
abbrev cX8_tell : ByteArray := prog_10_method_91_code
def yX8_tell : MethodName := ⟨RX8, "tell", "(I)I"⟩
abbrev cX8_check : ByteArray := prog_10_method_92_code
def yX8_check : MethodName := ⟨RX8, "check", "()I"⟩
abbrev cX8_count : ByteArray := prog_10_method_93_code
def yX8_count : MethodName := ⟨RX8, "count", "(I)I"⟩
abbrev cX8_told : ByteArray := prog_10_method_94_code
def yX8_told : MethodName := ⟨RX8, "told", "(I)I"⟩
def RJ11 : String := "java/lang/Character"
def TJ11 : u_T := fun k => match k with
  | _ => ("", "", "", false)
def tyJ11 : Nat → FieldType := fun k => match k with
  | _ => .int
abbrev wsJ110 : List Cond := u_ws RJ11 TJ11 0
theorem nmJ11 : ∀ a, a < 0 → ∀ b, b < 0 → a ≠ b → (TJ11 a).2.1 ≠ (TJ11 b).2.1 := by decide +kernel
theorem tyJ11_ok : ∀ k, k < 0 → parseFieldDescriptor (TJ11 k).2.2.1 = some (tyJ11 k) := by decide +kernel
abbrev cJ11_isValidCodePoint_9a6ad : ByteArray := prog_11_method_11_code
def yJ11_isValidCodePoint_9a6ad : MethodName := ⟨RJ11, "isValidCodePoint", "(I)Z"⟩
abbrev cJ11_highSurrogate_5068e : ByteArray := prog_11_method_28_code
def yJ11_highSurrogate_5068e : MethodName := ⟨RJ11, "highSurrogate", "(I)C"⟩
abbrev cJ11_lowSurrogate_5068e : ByteArray := prog_11_method_29_code
def yJ11_lowSurrogate_5068e : MethodName := ⟨RJ11, "lowSurrogate", "(I)C"⟩
def RJ6 : String := "java/lang/Integer"
def TJ6 : u_T := fun k => match k with
  | _ => ("", "", "", false)
def tyJ6 : Nat → FieldType := fun k => match k with
  | _ => .int
abbrev wsJ60 : List Cond := u_ws RJ6 TJ6 0
theorem nmJ6 : ∀ a, a < 0 → ∀ b, b < 0 → a ≠ b → (TJ6 a).2.1 ≠ (TJ6 b).2.1 := by decide +kernel
theorem tyJ6_ok : ∀ k, k < 0 → parseFieldDescriptor (TJ6 k).2.2.1 = some (tyJ6 k) := by decide +kernel
abbrev cJ6_bitCount_0f7a4 : ByteArray := prog_12_method_49_code
def yJ6_bitCount_0f7a4 : MethodName := ⟨RJ6, "bitCount", "(I)I"⟩
def RJ9 : String := "java/lang/Math"
def TJ9 : u_T := fun k => match k with
  | _ => ("", "", "", false)
def tyJ9 : Nat → FieldType := fun k => match k with
  | _ => .int
abbrev wsJ90 : List Cond := u_ws RJ9 TJ9 0
theorem nmJ9 : ∀ a, a < 0 → ∀ b, b < 0 → a ≠ b → (TJ9 a).2.1 ≠ (TJ9 b).2.1 := by decide +kernel
theorem tyJ9_ok : ∀ k, k < 0 → parseFieldDescriptor (TJ9 k).2.2.1 = some (tyJ9 k) := by decide +kernel
abbrev cJ9_max_7cf53 : ByteArray := prog_13_method_65_code
def yJ9_max_7cf53 : MethodName := ⟨RJ9, "max", "(II)I"⟩
abbrev cJ9_min_7cf53 : ByteArray := prog_13_method_69_code
def yJ9_min_7cf53 : MethodName := ⟨RJ9, "min", "(II)I"⟩
def RJ0 : String := "java/lang/String"
def TJ0 : u_T := fun k => match k with
  | _ => ("", "", "", false)
def tyJ0 : Nat → FieldType := fun k => match k with
  | _ => .int
abbrev wsJ00 : List Cond := u_ws RJ0 TJ0 0
theorem nmJ0 : ∀ a, a < 0 → ∀ b, b < 0 → a ≠ b → (TJ0 a).2.1 ≠ (TJ0 b).2.1 := by decide +kernel
theorem tyJ0_ok : ∀ k, k < 0 → parseFieldDescriptor (TJ0 k).2.2.1 = some (tyJ0 k) := by decide +kernel
abbrev cJ0_length_8abf5 : ByteArray := prog_14_method_54_code
def yJ0_length_8abf5 : MethodName := ⟨RJ0, "length", "()I"⟩
abbrev cJ0_indexOf_0f7a4 : ByteArray := prog_14_method_79_code
def yJ0_indexOf_0f7a4 : MethodName := ⟨RJ0, "indexOf", "(I)I"⟩
abbrev cJ0_indexOf_7cf53 : ByteArray := prog_14_method_80_code
def yJ0_indexOf_7cf53 : MethodName := ⟨RJ0, "indexOf", "(II)I"⟩
abbrev cJ0_coder_7d493 : ByteArray := prog_14_method_152_code
def yJ0_coder_7d493 : MethodName := ⟨RJ0, "coder", "()B"⟩
abbrev cJ0_isLatin1_aae02 : ByteArray := prog_14_method_154_code
def yJ0_isLatin1_aae02 : MethodName := ⟨RJ0, "isLatin1", "()Z"⟩
abbrev cJ0_checkBoundsBeginEnd_23922 : ByteArray := prog_14_method_158_code
def yJ0_checkBoundsBeginEnd_23922 : MethodName := ⟨RJ0, "checkBoundsBeginEnd", "(III)V"⟩
def RJ1 : String := "java/lang/StringLatin1"
def TJ1 : u_T := fun k => match k with
  | _ => ("", "", "", false)
def tyJ1 : Nat → FieldType := fun k => match k with
  | _ => .int
abbrev wsJ10 : List Cond := u_ws RJ1 TJ1 0
theorem nmJ1 : ∀ a, a < 0 → ∀ b, b < 0 → a ≠ b → (TJ1 a).2.1 ≠ (TJ1 b).2.1 := by decide +kernel
theorem tyJ1_ok : ∀ k, k < 0 → parseFieldDescriptor (TJ1 k).2.2.1 = some (tyJ1 k) := by decide +kernel
abbrev cJ1_canEncode_9a6ad : ByteArray := prog_15_method_4_code
def yJ1_canEncode_9a6ad : MethodName := ⟨RJ1, "canEncode", "(I)Z"⟩
abbrev cJ1_indexOf_4cfef : ByteArray := prog_15_method_22_code
def yJ1_indexOf_4cfef : MethodName := ⟨RJ1, "indexOf", "([BIII)I"⟩
abbrev cJ1_indexOfChar_4cfef : ByteArray := prog_15_method_23_code
def yJ1_indexOfChar_4cfef : MethodName := ⟨RJ1, "indexOfChar", "([BIII)I"⟩
def RJ2 : String := "java/lang/StringUTF16"
def TJ2 : u_T := fun k => match k with
  | _ => ("", "", "", false)
def tyJ2 : Nat → FieldType := fun k => match k with
  | _ => .int
abbrev wsJ20 : List Cond := u_ws RJ2 TJ2 0
theorem nmJ2 : ∀ a, a < 0 → ∀ b, b < 0 → a ≠ b → (TJ2 a).2.1 ≠ (TJ2 b).2.1 := by decide +kernel
theorem tyJ2_ok : ∀ k, k < 0 → parseFieldDescriptor (TJ2 k).2.2.1 = some (tyJ2 k) := by decide +kernel
abbrev cJ2_getChar_3b067 : ByteArray := prog_16_method_5_code
def yJ2_getChar_3b067 : MethodName := ⟨RJ2, "getChar", "([BI)C"⟩
abbrev cJ2_length_9d52b : ByteArray := prog_16_method_6_code
def yJ2_length_9d52b : MethodName := ⟨RJ2, "length", "([B)I"⟩
abbrev cJ2_indexOf_4cfef : ByteArray := prog_16_method_40_code
def yJ2_indexOf_4cfef : MethodName := ⟨RJ2, "indexOf", "([BIII)I"⟩
abbrev cJ2_indexOfChar_4cfef : ByteArray := prog_16_method_47_code
def yJ2_indexOfChar_4cfef : MethodName := ⟨RJ2, "indexOfChar", "([BIII)I"⟩
abbrev cJ2_indexOfCharUnsafe_4cfef : ByteArray := prog_16_method_48_code
def yJ2_indexOfCharUnsafe_4cfef : MethodName := ⟨RJ2, "indexOfCharUnsafe", "([BIII)I"⟩
abbrev cJ2_indexOfSupplementary_4cfef : ByteArray := prog_16_method_49_code
def yJ2_indexOfSupplementary_4cfef : MethodName := ⟨RJ2, "indexOfSupplementary", "([BIII)I"⟩
abbrev cJ2_checkBoundsBeginEnd_d044e : ByteArray := prog_16_method_93_code
def yJ2_checkBoundsBeginEnd_d044e : MethodName := ⟨RJ2, "checkBoundsBeginEnd", "(II[B)V"⟩
def RJ10 : String := "java/lang/System"
def TJ10 : u_T := fun k => match k with
  | _ => ("", "", "", false)
def tyJ10 : Nat → FieldType := fun k => match k with
  | _ => .int
abbrev wsJ100 : List Cond := u_ws RJ10 TJ10 0
theorem nmJ10 : ∀ a, a < 0 → ∀ b, b < 0 → a ≠ b → (TJ10 a).2.1 ≠ (TJ10 b).2.1 := by decide +kernel
theorem tyJ10_ok : ∀ k, k < 0 → parseFieldDescriptor (TJ10 k).2.2.1 = some (tyJ10 k) := by decide +kernel
def RJ3 : String := "jdk/internal/util/Preconditions"
def TJ3 : u_T := fun k => match k with
  | _ => ("", "", "", false)
def tyJ3 : Nat → FieldType := fun k => match k with
  | _ => .int
abbrev wsJ30 : List Cond := u_ws RJ3 TJ3 0
theorem nmJ3 : ∀ a, a < 0 → ∀ b, b < 0 → a ≠ b → (TJ3 a).2.1 ≠ (TJ3 b).2.1 := by decide +kernel
theorem tyJ3_ok : ∀ k, k < 0 → parseFieldDescriptor (TJ3 k).2.2.1 = some (tyJ3 k) := by decide +kernel
abbrev cJ3_checkFromToIndex_8c36e : ByteArray := prog_18_method_12_code
def yJ3_checkFromToIndex_8c36e : MethodName := ⟨RJ3, "checkFromToIndex", "(IIILjava/util/function/BiFunction;)I"⟩
def RL : String := "AnswerPassLaw"
abbrev cL_law : ByteArray := code
def yL_law : MethodName := ⟨RL, "law", "([I)Z"⟩
theorem dX0_init_0 : decode cX0_init 0 = .ok (.aload_n 0, 1) := by decide +kernel
theorem dX0_init_1 : decode cX0_init 1 = .ok (.invokespecial 3, 3) := by decide +kernel
theorem dX0_init_4 : decode cX0_init 4 = .ok (.aload_n 0, 1) := by decide +kernel
theorem dX0_init_5 : decode cX0_init 5 = .ok (.bipush 60, 2) := by decide +kernel
theorem dX0_init_7 : decode cX0_init 7 = .ok (.newarray .int, 2) := by decide +kernel
theorem dX0_init_9 : decode cX0_init 9 = .ok (.putfield 9, 3) := by decide +kernel
theorem dX0_init_12 : decode cX0_init 12 = .ok (.aload_n 0, 1) := by decide +kernel
theorem dX0_init_13 : decode cX0_init 13 = .ok (.bipush 60, 2) := by decide +kernel
theorem dX0_init_15 : decode cX0_init 15 = .ok (.newarray .int, 2) := by decide +kernel
theorem dX0_init_17 : decode cX0_init 17 = .ok (.putfield 15, 3) := by decide +kernel
theorem dX0_init_20 : decode cX0_init 20 = .ok (.aload_n 0, 1) := by decide +kernel
theorem dX0_init_21 : decode cX0_init 21 = .ok (.iconst 0, 1) := by decide +kernel
theorem dX0_init_22 : decode cX0_init 22 = .ok (.putfield 18, 3) := by decide +kernel
theorem dX0_init_25 : decode cX0_init 25 = .ok (.aload_n 0, 1) := by decide +kernel
theorem dX0_init_26 : decode cX0_init 26 = .ok (.iload_n 1, 1) := by decide +kernel
theorem dX0_init_27 : decode cX0_init 27 = .ok (.putfield 22, 3) := by decide +kernel
theorem dX0_init_30 : decode cX0_init 30 = .ok (.return_, 1) := by decide +kernel
theorem dX0_copies_0 : decode cX0_copies 0 = .ok (.aload_n 0, 1) := by decide +kernel
theorem dX0_copies_1 : decode cX0_copies 1 = .ok (.aload_n 1, 1) := by decide +kernel
theorem dX0_copies_2 : decode cX0_copies 2 = .ok (.getfield 9, 3) := by decide +kernel
theorem dX0_copies_5 : decode cX0_copies 5 = .ok (.aload_n 1, 1) := by decide +kernel
theorem dX0_copies_6 : decode cX0_copies 6 = .ok (.getfield 18, 3) := by decide +kernel
theorem dX0_copies_9 : decode cX0_copies 9 = .ok (.invokevirtual 25, 3) := by decide +kernel
theorem dX0_copies_12 : decode cX0_copies 12 = .ok (.return_, 1) := by decide +kernel
theorem dX0_becomes_0 : decode cX0_becomes 0 = .ok (.aload_n 1, 1) := by decide +kernel
theorem dX0_becomes_1 : decode cX0_becomes 1 = .ok (.iconst 0, 1) := by decide +kernel
theorem dX0_becomes_2 : decode cX0_becomes 2 = .ok (.aload_n 0, 1) := by decide +kernel
theorem dX0_becomes_3 : decode cX0_becomes 3 = .ok (.getfield 9, 3) := by decide +kernel
theorem dX0_becomes_6 : decode cX0_becomes 6 = .ok (.iconst 0, 1) := by decide +kernel
theorem dX0_becomes_7 : decode cX0_becomes 7 = .ok (.iload_n 2, 1) := by decide +kernel
theorem dX0_becomes_8 : decode cX0_becomes 8 = .ok (.invokestatic 29, 3) := by decide +kernel
theorem dX0_becomes_11 : decode cX0_becomes 11 = .ok (.aload_n 0, 1) := by decide +kernel
theorem dX0_becomes_12 : decode cX0_becomes 12 = .ok (.iload_n 2, 1) := by decide +kernel
theorem dX0_becomes_13 : decode cX0_becomes 13 = .ok (.putfield 18, 3) := by decide +kernel
theorem dX0_becomes_16 : decode cX0_becomes 16 = .ok (.return_, 1) := by decide +kernel
theorem dX0_gives_0 : decode cX0_gives 0 = .ok (.iconst 0, 1) := by decide +kernel
theorem dX0_gives_1 : decode cX0_gives 1 = .ok (.istore 4, 2) := by decide +kernel
theorem dX0_gives_3 : decode cX0_gives 3 = .ok (.iconst 0, 1) := by decide +kernel
theorem dX0_gives_4 : decode cX0_gives 4 = .ok (.istore 5, 2) := by decide +kernel
theorem dX0_gives_6 : decode cX0_gives 6 = .ok (.iload 5, 2) := by decide +kernel
theorem dX0_gives_8 : decode cX0_gives 8 = .ok (.aload_n 0, 1) := by decide +kernel
theorem dX0_gives_9 : decode cX0_gives 9 = .ok (.getfield 18, 3) := by decide +kernel
theorem dX0_gives_12 : decode cX0_gives 12 = .ok (.if_icmp .ge 162, 3) := by decide +kernel
theorem dX0_gives_15 : decode cX0_gives 15 = .ok (.aload_n 0, 1) := by decide +kernel
theorem dX0_gives_16 : decode cX0_gives 16 = .ok (.getfield 9, 3) := by decide +kernel
theorem dX0_gives_19 : decode cX0_gives 19 = .ok (.iload 5, 2) := by decide +kernel
theorem dX0_gives_21 : decode cX0_gives 21 = .ok (.iaload, 1) := by decide +kernel
theorem dX0_gives_22 : decode cX0_gives 22 = .ok (.istore 6, 2) := by decide +kernel
theorem dX0_gives_24 : decode cX0_gives 24 = .ok (.iload 6, 2) := by decide +kernel
theorem dX0_gives_26 : decode cX0_gives 26 = .ok (.ifCond .lt 61, 3) := by decide +kernel
theorem dX0_gives_29 : decode cX0_gives 29 = .ok (.iload 4, 2) := by decide +kernel
theorem dX0_gives_31 : decode cX0_gives 31 = .ok (.bipush 60, 2) := by decide +kernel
theorem dX0_gives_33 : decode cX0_gives 33 = .ok (.if_icmp .ge 54, 3) := by decide +kernel
theorem dX0_gives_36 : decode cX0_gives 36 = .ok (.aload_n 0, 1) := by decide +kernel
theorem dX0_gives_37 : decode cX0_gives 37 = .ok (.getfield 15, 3) := by decide +kernel
theorem dX0_gives_40 : decode cX0_gives 40 = .ok (.iload 4, 2) := by decide +kernel
theorem dX0_gives_42 : decode cX0_gives 42 = .ok (.iload 6, 2) := by decide +kernel
theorem dX0_gives_44 : decode cX0_gives 44 = .ok (.sipush 10000, 3) := by decide +kernel
theorem dX0_gives_47 : decode cX0_gives 47 = .ok (.if_icmp .ge 8, 3) := by decide +kernel
theorem dX0_gives_50 : decode cX0_gives 50 = .ok (.iload 6, 2) := by decide +kernel
theorem dX0_gives_52 : decode cX0_gives 52 = .ok (.goto 28, 3) := by decide +kernel
theorem dX0_gives_55 : decode cX0_gives 55 = .ok (.iload 6, 2) := by decide +kernel
theorem dX0_gives_57 : decode cX0_gives 57 = .ok (.sipush 10000, 3) := by decide +kernel
theorem dX0_gives_60 : decode cX0_gives 60 = .ok (.if_icmp .ne 7, 3) := by decide +kernel
theorem dX0_gives_63 : decode cX0_gives 63 = .ok (.iload_n 1, 1) := by decide +kernel
theorem dX0_gives_64 : decode cX0_gives 64 = .ok (.goto 16, 3) := by decide +kernel
theorem dX0_gives_67 : decode cX0_gives 67 = .ok (.iload 6, 2) := by decide +kernel
theorem dX0_gives_69 : decode cX0_gives 69 = .ok (.sipush 10001, 3) := by decide +kernel
theorem dX0_gives_72 : decode cX0_gives 72 = .ok (.if_icmp .ne 7, 3) := by decide +kernel
theorem dX0_gives_75 : decode cX0_gives 75 = .ok (.iload_n 2, 1) := by decide +kernel
theorem dX0_gives_76 : decode cX0_gives 76 = .ok (.goto 4, 3) := by decide +kernel
theorem dX0_gives_79 : decode cX0_gives 79 = .ok (.iload_n 3, 1) := by decide +kernel
theorem dX0_gives_80 : decode cX0_gives 80 = .ok (.iastore, 1) := by decide +kernel
theorem dX0_gives_81 : decode cX0_gives 81 = .ok (.iinc 4 1, 3) := by decide +kernel
theorem dX0_gives_84 : decode cX0_gives 84 = .ok (.goto 84, 3) := by decide +kernel
theorem dX0_gives_87 : decode cX0_gives 87 = .ok (.iload 6, 2) := by decide +kernel
theorem dX0_gives_89 : decode cX0_gives 89 = .ok (.bipush (-33), 2) := by decide +kernel
theorem dX0_gives_91 : decode cX0_gives 91 = .ok (.if_icmp .ne 37, 3) := by decide +kernel
theorem dX0_gives_94 : decode cX0_gives 94 = .ok (.iload 4, 2) := by decide +kernel
theorem dX0_gives_96 : decode cX0_gives 96 = .ok (.ifCond .le 32, 3) := by decide +kernel
theorem dX0_gives_99 : decode cX0_gives 99 = .ok (.aload_n 0, 1) := by decide +kernel
theorem dX0_gives_100 : decode cX0_gives 100 = .ok (.getfield 15, 3) := by decide +kernel
theorem dX0_gives_103 : decode cX0_gives 103 = .ok (.iload 4, 2) := by decide +kernel
theorem dX0_gives_105 : decode cX0_gives 105 = .ok (.iconst 1, 1) := by decide +kernel
theorem dX0_gives_106 : decode cX0_gives 106 = .ok (.isub, 1) := by decide +kernel
theorem dX0_gives_107 : decode cX0_gives 107 = .ok (.aload_n 0, 1) := by decide +kernel
theorem dX0_gives_108 : decode cX0_gives 108 = .ok (.getfield 15, 3) := by decide +kernel
theorem dX0_gives_111 : decode cX0_gives 111 = .ok (.iload 4, 2) := by decide +kernel
theorem dX0_gives_113 : decode cX0_gives 113 = .ok (.iconst 1, 1) := by decide +kernel
theorem dX0_gives_114 : decode cX0_gives 114 = .ok (.isub, 1) := by decide +kernel
theorem dX0_gives_115 : decode cX0_gives 115 = .ok (.iaload, 1) := by decide +kernel
theorem dX0_gives_116 : decode cX0_gives 116 = .ok (.ifCond .ne 7, 3) := by decide +kernel
theorem dX0_gives_119 : decode cX0_gives 119 = .ok (.iconst 1, 1) := by decide +kernel
theorem dX0_gives_120 : decode cX0_gives 120 = .ok (.goto 4, 3) := by decide +kernel
theorem dX0_gives_123 : decode cX0_gives 123 = .ok (.iconst 0, 1) := by decide +kernel
theorem dX0_gives_124 : decode cX0_gives 124 = .ok (.iastore, 1) := by decide +kernel
theorem dX0_gives_125 : decode cX0_gives 125 = .ok (.goto 43, 3) := by decide +kernel
theorem dX0_gives_128 : decode cX0_gives 128 = .ok (.iload 4, 2) := by decide +kernel
theorem dX0_gives_130 : decode cX0_gives 130 = .ok (.iconst 1, 1) := by decide +kernel
theorem dX0_gives_131 : decode cX0_gives 131 = .ok (.if_icmp .le 37, 3) := by decide +kernel
theorem dX0_gives_134 : decode cX0_gives 134 = .ok (.iinc 4 (-1), 3) := by decide +kernel
theorem dX0_gives_137 : decode cX0_gives 137 = .ok (.aload_n 0, 1) := by decide +kernel
theorem dX0_gives_138 : decode cX0_gives 138 = .ok (.getfield 15, 3) := by decide +kernel
theorem dX0_gives_141 : decode cX0_gives 141 = .ok (.iload 4, 2) := by decide +kernel
theorem dX0_gives_143 : decode cX0_gives 143 = .ok (.iconst 1, 1) := by decide +kernel
theorem dX0_gives_144 : decode cX0_gives 144 = .ok (.isub, 1) := by decide +kernel
theorem dX0_gives_145 : decode cX0_gives 145 = .ok (.iload 6, 2) := by decide +kernel
theorem dX0_gives_147 : decode cX0_gives 147 = .ok (.ineg, 1) := by decide +kernel
theorem dX0_gives_148 : decode cX0_gives 148 = .ok (.aload_n 0, 1) := by decide +kernel
theorem dX0_gives_149 : decode cX0_gives 149 = .ok (.getfield 15, 3) := by decide +kernel
theorem dX0_gives_152 : decode cX0_gives 152 = .ok (.iload 4, 2) := by decide +kernel
theorem dX0_gives_154 : decode cX0_gives 154 = .ok (.iconst 1, 1) := by decide +kernel
theorem dX0_gives_155 : decode cX0_gives 155 = .ok (.isub, 1) := by decide +kernel
theorem dX0_gives_156 : decode cX0_gives 156 = .ok (.iaload, 1) := by decide +kernel
theorem dX0_gives_157 : decode cX0_gives 157 = .ok (.aload_n 0, 1) := by decide +kernel
theorem dX0_gives_158 : decode cX0_gives 158 = .ok (.getfield 15, 3) := by decide +kernel
theorem dX0_gives_161 : decode cX0_gives 161 = .ok (.iload 4, 2) := by decide +kernel
theorem dX0_gives_163 : decode cX0_gives 163 = .ok (.iaload, 1) := by decide +kernel
theorem dX0_gives_164 : decode cX0_gives 164 = .ok (.invokestatic 35, 3) := by decide +kernel
theorem dX0_gives_167 : decode cX0_gives 167 = .ok (.iastore, 1) := by decide +kernel
theorem dX0_gives_168 : decode cX0_gives 168 = .ok (.iinc 5 1, 3) := by decide +kernel
theorem dX0_gives_171 : decode cX0_gives 171 = .ok (.goto (-165), 3) := by decide +kernel
theorem dX0_gives_174 : decode cX0_gives 174 = .ok (.iload 4, 2) := by decide +kernel
theorem dX0_gives_176 : decode cX0_gives 176 = .ok (.ifCond .le 12, 3) := by decide +kernel
theorem dX0_gives_179 : decode cX0_gives 179 = .ok (.aload_n 0, 1) := by decide +kernel
theorem dX0_gives_180 : decode cX0_gives 180 = .ok (.getfield 15, 3) := by decide +kernel
theorem dX0_gives_183 : decode cX0_gives 183 = .ok (.iconst 0, 1) := by decide +kernel
theorem dX0_gives_184 : decode cX0_gives 184 = .ok (.iaload, 1) := by decide +kernel
theorem dX0_gives_185 : decode cX0_gives 185 = .ok (.goto 8, 3) := by decide +kernel
theorem dX0_gives_188 : decode cX0_gives 188 = .ok (.aload_n 0, 1) := by decide +kernel
theorem dX0_gives_189 : decode cX0_gives 189 = .ok (.iload_n 1, 1) := by decide +kernel
theorem dX0_gives_190 : decode cX0_gives 190 = .ok (.invokevirtual 39, 3) := by decide +kernel
theorem dX0_gives_193 : decode cX0_gives 193 = .ok (.istore 5, 2) := by decide +kernel
theorem dX0_gives_195 : decode cX0_gives 195 = .ok (.aload_n 0, 1) := by decide +kernel
theorem dX0_gives_196 : decode cX0_gives 196 = .ok (.getfield 22, 3) := by decide +kernel
theorem dX0_gives_199 : decode cX0_gives 199 = .ok (.ifCond .ne 8, 3) := by decide +kernel
theorem dX0_gives_202 : decode cX0_gives 202 = .ok (.bipush 20, 2) := by decide +kernel
theorem dX0_gives_204 : decode cX0_gives 204 = .ok (.goto 4, 3) := by decide +kernel
theorem dX0_gives_207 : decode cX0_gives 207 = .ok (.iconst 3, 1) := by decide +kernel
theorem dX0_gives_208 : decode cX0_gives 208 = .ok (.istore 6, 2) := by decide +kernel
theorem dX0_gives_210 : decode cX0_gives 210 = .ok (.iload 5, 2) := by decide +kernel
theorem dX0_gives_212 : decode cX0_gives 212 = .ok (.ifCond .ge 7, 3) := by decide +kernel
theorem dX0_gives_215 : decode cX0_gives 215 = .ok (.iconst 0, 1) := by decide +kernel
theorem dX0_gives_216 : decode cX0_gives 216 = .ok (.goto 17, 3) := by decide +kernel
theorem dX0_gives_219 : decode cX0_gives 219 = .ok (.iload 5, 2) := by decide +kernel
theorem dX0_gives_221 : decode cX0_gives 221 = .ok (.iload 6, 2) := by decide +kernel
theorem dX0_gives_223 : decode cX0_gives 223 = .ok (.if_icmp .le 8, 3) := by decide +kernel
theorem dX0_gives_226 : decode cX0_gives 226 = .ok (.iload 6, 2) := by decide +kernel
theorem dX0_gives_228 : decode cX0_gives 228 = .ok (.goto 5, 3) := by decide +kernel
theorem dX0_gives_231 : decode cX0_gives 231 = .ok (.iload 5, 2) := by decide +kernel
theorem dX0_gives_233 : decode cX0_gives 233 = .ok (.ireturn, 1) := by decide +kernel
theorem dX0_without_0 : decode cX0_without 0 = .ok (.aload_n 0, 1) := by decide +kernel
theorem dX0_without_1 : decode cX0_without 1 = .ok (.getfield 22, 3) := by decide +kernel
theorem dX0_without_4 : decode cX0_without 4 = .ok (.ifCond .ne 5, 3) := by decide +kernel
theorem dX0_without_7 : decode cX0_without 7 = .ok (.iload_n 1, 1) := by decide +kernel
theorem dX0_without_8 : decode cX0_without 8 = .ok (.ireturn, 1) := by decide +kernel
theorem dX0_without_9 : decode cX0_without 9 = .ok (.iload_n 1, 1) := by decide +kernel
theorem dX0_without_10 : decode cX0_without 10 = .ok (.iconst 3, 1) := by decide +kernel
theorem dX0_without_11 : decode cX0_without 11 = .ok (.if_icmp .le 7, 3) := by decide +kernel
theorem dX0_without_14 : decode cX0_without 14 = .ok (.iconst 2, 1) := by decide +kernel
theorem dX0_without_15 : decode cX0_without 15 = .ok (.goto 4, 3) := by decide +kernel
theorem dX0_without_18 : decode cX0_without 18 = .ok (.iconst 1, 1) := by decide +kernel
theorem dX0_without_19 : decode cX0_without 19 = .ok (.ireturn, 1) := by decide +kernel
theorem dX0_joined_0 : decode cX0_joined 0 = .ok (.iload_n 0, 1) := by decide +kernel
theorem dX0_joined_1 : decode cX0_joined 1 = .ok (.lookupswitch 188 #[(37, 176), (38, 105), (42, 160), (43, 152), (45, 156), (47, 164), (60, 119), (61, 130), (62, 141), (124, 91)], 91) := by decide +kernel
theorem dX0_joined_92 : decode cX0_joined 92 = .ok (.iload_n 1, 1) := by decide +kernel
theorem dX0_joined_93 : decode cX0_joined 93 = .ok (.ifCond .ne 7, 3) := by decide +kernel
theorem dX0_joined_96 : decode cX0_joined 96 = .ok (.iload_n 2, 1) := by decide +kernel
theorem dX0_joined_97 : decode cX0_joined 97 = .ok (.ifCond .eq 7, 3) := by decide +kernel
theorem dX0_joined_100 : decode cX0_joined 100 = .ok (.iconst 1, 1) := by decide +kernel
theorem dX0_joined_101 : decode cX0_joined 101 = .ok (.goto 4, 3) := by decide +kernel
theorem dX0_joined_104 : decode cX0_joined 104 = .ok (.iconst 0, 1) := by decide +kernel
theorem dX0_joined_105 : decode cX0_joined 105 = .ok (.ireturn, 1) := by decide +kernel
theorem dX0_joined_106 : decode cX0_joined 106 = .ok (.iload_n 1, 1) := by decide +kernel
theorem dX0_joined_107 : decode cX0_joined 107 = .ok (.ifCond .eq 11, 3) := by decide +kernel
theorem dX0_joined_110 : decode cX0_joined 110 = .ok (.iload_n 2, 1) := by decide +kernel
theorem dX0_joined_111 : decode cX0_joined 111 = .ok (.ifCond .eq 7, 3) := by decide +kernel
theorem dX0_joined_114 : decode cX0_joined 114 = .ok (.iconst 1, 1) := by decide +kernel
theorem dX0_joined_115 : decode cX0_joined 115 = .ok (.goto 4, 3) := by decide +kernel
theorem dX0_joined_118 : decode cX0_joined 118 = .ok (.iconst 0, 1) := by decide +kernel
theorem dX0_joined_119 : decode cX0_joined 119 = .ok (.ireturn, 1) := by decide +kernel
theorem dX0_joined_120 : decode cX0_joined 120 = .ok (.iload_n 1, 1) := by decide +kernel
theorem dX0_joined_121 : decode cX0_joined 121 = .ok (.iload_n 2, 1) := by decide +kernel
theorem dX0_joined_122 : decode cX0_joined 122 = .ok (.if_icmp .ge 7, 3) := by decide +kernel
theorem dX0_joined_125 : decode cX0_joined 125 = .ok (.iconst 1, 1) := by decide +kernel
theorem dX0_joined_126 : decode cX0_joined 126 = .ok (.goto 4, 3) := by decide +kernel
theorem dX0_joined_129 : decode cX0_joined 129 = .ok (.iconst 0, 1) := by decide +kernel
theorem dX0_joined_130 : decode cX0_joined 130 = .ok (.ireturn, 1) := by decide +kernel
theorem dX0_joined_131 : decode cX0_joined 131 = .ok (.iload_n 1, 1) := by decide +kernel
theorem dX0_joined_132 : decode cX0_joined 132 = .ok (.iload_n 2, 1) := by decide +kernel
theorem dX0_joined_133 : decode cX0_joined 133 = .ok (.if_icmp .ne 7, 3) := by decide +kernel
theorem dX0_joined_136 : decode cX0_joined 136 = .ok (.iconst 1, 1) := by decide +kernel
theorem dX0_joined_137 : decode cX0_joined 137 = .ok (.goto 4, 3) := by decide +kernel
theorem dX0_joined_140 : decode cX0_joined 140 = .ok (.iconst 0, 1) := by decide +kernel
theorem dX0_joined_141 : decode cX0_joined 141 = .ok (.ireturn, 1) := by decide +kernel
theorem dX0_joined_142 : decode cX0_joined 142 = .ok (.iload_n 1, 1) := by decide +kernel
theorem dX0_joined_143 : decode cX0_joined 143 = .ok (.iload_n 2, 1) := by decide +kernel
theorem dX0_joined_144 : decode cX0_joined 144 = .ok (.if_icmp .le 7, 3) := by decide +kernel
theorem dX0_joined_147 : decode cX0_joined 147 = .ok (.iconst 1, 1) := by decide +kernel
theorem dX0_joined_148 : decode cX0_joined 148 = .ok (.goto 4, 3) := by decide +kernel
theorem dX0_joined_151 : decode cX0_joined 151 = .ok (.iconst 0, 1) := by decide +kernel
theorem dX0_joined_152 : decode cX0_joined 152 = .ok (.ireturn, 1) := by decide +kernel
theorem dX0_joined_153 : decode cX0_joined 153 = .ok (.iload_n 1, 1) := by decide +kernel
theorem dX0_joined_154 : decode cX0_joined 154 = .ok (.iload_n 2, 1) := by decide +kernel
theorem dX0_joined_155 : decode cX0_joined 155 = .ok (.iadd, 1) := by decide +kernel
theorem dX0_joined_156 : decode cX0_joined 156 = .ok (.ireturn, 1) := by decide +kernel
theorem dX0_joined_157 : decode cX0_joined 157 = .ok (.iload_n 1, 1) := by decide +kernel
theorem dX0_joined_158 : decode cX0_joined 158 = .ok (.iload_n 2, 1) := by decide +kernel
theorem dX0_joined_159 : decode cX0_joined 159 = .ok (.isub, 1) := by decide +kernel
theorem dX0_joined_160 : decode cX0_joined 160 = .ok (.ireturn, 1) := by decide +kernel
theorem dX0_joined_161 : decode cX0_joined 161 = .ok (.iload_n 1, 1) := by decide +kernel
theorem dX0_joined_162 : decode cX0_joined 162 = .ok (.iload_n 2, 1) := by decide +kernel
theorem dX0_joined_163 : decode cX0_joined 163 = .ok (.imul, 1) := by decide +kernel
theorem dX0_joined_164 : decode cX0_joined 164 = .ok (.ireturn, 1) := by decide +kernel
theorem dX0_joined_165 : decode cX0_joined 165 = .ok (.iload_n 2, 1) := by decide +kernel
theorem dX0_joined_166 : decode cX0_joined 166 = .ok (.ifCond .ne 7, 3) := by decide +kernel
theorem dX0_joined_169 : decode cX0_joined 169 = .ok (.iconst 0, 1) := by decide +kernel
theorem dX0_joined_170 : decode cX0_joined 170 = .ok (.goto 6, 3) := by decide +kernel
theorem dX0_joined_173 : decode cX0_joined 173 = .ok (.iload_n 1, 1) := by decide +kernel
theorem dX0_joined_174 : decode cX0_joined 174 = .ok (.iload_n 2, 1) := by decide +kernel
theorem dX0_joined_175 : decode cX0_joined 175 = .ok (.idiv, 1) := by decide +kernel
theorem dX0_joined_176 : decode cX0_joined 176 = .ok (.ireturn, 1) := by decide +kernel
theorem dX0_joined_177 : decode cX0_joined 177 = .ok (.iload_n 2, 1) := by decide +kernel
theorem dX0_joined_178 : decode cX0_joined 178 = .ok (.ifCond .ne 7, 3) := by decide +kernel
theorem dX0_joined_181 : decode cX0_joined 181 = .ok (.iconst 0, 1) := by decide +kernel
theorem dX0_joined_182 : decode cX0_joined 182 = .ok (.goto 6, 3) := by decide +kernel
theorem dX0_joined_185 : decode cX0_joined 185 = .ok (.iload_n 1, 1) := by decide +kernel
theorem dX0_joined_186 : decode cX0_joined 186 = .ok (.iload_n 2, 1) := by decide +kernel
theorem dX0_joined_187 : decode cX0_joined 187 = .ok (.irem, 1) := by decide +kernel
theorem dX0_joined_188 : decode cX0_joined 188 = .ok (.ireturn, 1) := by decide +kernel
theorem dX0_joined_189 : decode cX0_joined 189 = .ok (.iconst 0, 1) := by decide +kernel
theorem dX0_joined_190 : decode cX0_joined 190 = .ok (.ireturn, 1) := by decide +kernel
theorem dX1_init_0 : decode cX1_init 0 = .ok (.aload_n 0, 1) := by decide +kernel
theorem dX1_init_1 : decode cX1_init 1 = .ok (.invokespecial 3, 3) := by decide +kernel
theorem dX1_init_4 : decode cX1_init 4 = .ok (.aload_n 0, 1) := by decide +kernel
theorem dX1_init_5 : decode cX1_init 5 = .ok (.bipush 6, 2) := by decide +kernel
theorem dX1_init_7 : decode cX1_init 7 = .ok (.newarray .int, 2) := by decide +kernel
theorem dX1_init_9 : decode cX1_init 9 = .ok (.putfield 9, 3) := by decide +kernel
theorem dX1_init_12 : decode cX1_init 12 = .ok (.aload_n 0, 1) := by decide +kernel
theorem dX1_init_13 : decode cX1_init 13 = .ok (.bipush 6, 2) := by decide +kernel
theorem dX1_init_15 : decode cX1_init 15 = .ok (.newarray .int, 2) := by decide +kernel
theorem dX1_init_17 : decode cX1_init 17 = .ok (.putfield 15, 3) := by decide +kernel
theorem dX1_init_20 : decode cX1_init 20 = .ok (.aload_n 0, 1) := by decide +kernel
theorem dX1_init_21 : decode cX1_init 21 = .ok (.bipush 6, 2) := by decide +kernel
theorem dX1_init_23 : decode cX1_init 23 = .ok (.newarray .int, 2) := by decide +kernel
theorem dX1_init_25 : decode cX1_init 25 = .ok (.putfield 18, 3) := by decide +kernel
theorem dX1_init_28 : decode cX1_init 28 = .ok (.aload_n 0, 1) := by decide +kernel
theorem dX1_init_29 : decode cX1_init 29 = .ok (.bipush 6, 2) := by decide +kernel
theorem dX1_init_31 : decode cX1_init 31 = .ok (.newarray .int, 2) := by decide +kernel
theorem dX1_init_33 : decode cX1_init 33 = .ok (.putfield 21, 3) := by decide +kernel
theorem dX1_init_36 : decode cX1_init 36 = .ok (.aload_n 0, 1) := by decide +kernel
theorem dX1_init_37 : decode cX1_init 37 = .ok (.bipush 6, 2) := by decide +kernel
theorem dX1_init_39 : decode cX1_init 39 = .ok (.newarray .boolean, 2) := by decide +kernel
theorem dX1_init_41 : decode cX1_init 41 = .ok (.putfield 24, 3) := by decide +kernel
theorem dX1_init_44 : decode cX1_init 44 = .ok (.aload_n 0, 1) := by decide +kernel
theorem dX1_init_45 : decode cX1_init 45 = .ok (.iconst 0, 1) := by decide +kernel
theorem dX1_init_46 : decode cX1_init 46 = .ok (.putfield 28, 3) := by decide +kernel
theorem dX1_init_49 : decode cX1_init 49 = .ok (.aload_n 0, 1) := by decide +kernel
theorem dX1_init_50 : decode cX1_init 50 = .ok (.iconst 0, 1) := by decide +kernel
theorem dX1_init_51 : decode cX1_init 51 = .ok (.putfield 32, 3) := by decide +kernel
theorem dX1_init_54 : decode cX1_init 54 = .ok (.aload_n 0, 1) := by decide +kernel
theorem dX1_init_55 : decode cX1_init 55 = .ok (.iconst 0, 1) := by decide +kernel
theorem dX1_init_56 : decode cX1_init 56 = .ok (.putfield 35, 3) := by decide +kernel
theorem dX1_init_59 : decode cX1_init 59 = .ok (.aload_n 0, 1) := by decide +kernel
theorem dX1_init_60 : decode cX1_init 60 = .ok (.aload_n 1, 1) := by decide +kernel
theorem dX1_init_61 : decode cX1_init 61 = .ok (.putfield 38, 3) := by decide +kernel
theorem dX1_init_64 : decode cX1_init 64 = .ok (.aload_n 0, 1) := by decide +kernel
theorem dX1_init_65 : decode cX1_init 65 = .ok (.aload_n 2, 1) := by decide +kernel
theorem dX1_init_66 : decode cX1_init 66 = .ok (.putfield 42, 3) := by decide +kernel
theorem dX1_init_69 : decode cX1_init 69 = .ok (.return_, 1) := by decide +kernel
theorem dX1_copies_0 : decode cX1_copies 0 = .ok (.aload_n 0, 1) := by decide +kernel
theorem dX1_copies_1 : decode cX1_copies 1 = .ok (.aload_n 1, 1) := by decide +kernel
theorem dX1_copies_2 : decode cX1_copies 2 = .ok (.getfield 28, 3) := by decide +kernel
theorem dX1_copies_5 : decode cX1_copies 5 = .ok (.putfield 28, 3) := by decide +kernel
theorem dX1_copies_8 : decode cX1_copies 8 = .ok (.aload_n 0, 1) := by decide +kernel
theorem dX1_copies_9 : decode cX1_copies 9 = .ok (.aload_n 1, 1) := by decide +kernel
theorem dX1_copies_10 : decode cX1_copies 10 = .ok (.getfield 32, 3) := by decide +kernel
theorem dX1_copies_13 : decode cX1_copies 13 = .ok (.putfield 32, 3) := by decide +kernel
theorem dX1_copies_16 : decode cX1_copies 16 = .ok (.aload_n 0, 1) := by decide +kernel
theorem dX1_copies_17 : decode cX1_copies 17 = .ok (.aload_n 1, 1) := by decide +kernel
theorem dX1_copies_18 : decode cX1_copies 18 = .ok (.getfield 35, 3) := by decide +kernel
theorem dX1_copies_21 : decode cX1_copies 21 = .ok (.putfield 35, 3) := by decide +kernel
theorem dX1_copies_24 : decode cX1_copies 24 = .ok (.iconst 0, 1) := by decide +kernel
theorem dX1_copies_25 : decode cX1_copies 25 = .ok (.istore_n 2, 1) := by decide +kernel
theorem dX1_copies_26 : decode cX1_copies 26 = .ok (.iload_n 2, 1) := by decide +kernel
theorem dX1_copies_27 : decode cX1_copies 27 = .ok (.aload_n 0, 1) := by decide +kernel
theorem dX1_copies_28 : decode cX1_copies 28 = .ok (.getfield 28, 3) := by decide +kernel
theorem dX1_copies_31 : decode cX1_copies 31 = .ok (.if_icmp .ge 69, 3) := by decide +kernel
theorem dX1_copies_34 : decode cX1_copies 34 = .ok (.aload_n 0, 1) := by decide +kernel
theorem dX1_copies_35 : decode cX1_copies 35 = .ok (.getfield 9, 3) := by decide +kernel
theorem dX1_copies_38 : decode cX1_copies 38 = .ok (.iload_n 2, 1) := by decide +kernel
theorem dX1_copies_39 : decode cX1_copies 39 = .ok (.aload_n 1, 1) := by decide +kernel
theorem dX1_copies_40 : decode cX1_copies 40 = .ok (.getfield 9, 3) := by decide +kernel
theorem dX1_copies_43 : decode cX1_copies 43 = .ok (.iload_n 2, 1) := by decide +kernel
theorem dX1_copies_44 : decode cX1_copies 44 = .ok (.iaload, 1) := by decide +kernel
theorem dX1_copies_45 : decode cX1_copies 45 = .ok (.iastore, 1) := by decide +kernel
theorem dX1_copies_46 : decode cX1_copies 46 = .ok (.aload_n 0, 1) := by decide +kernel
theorem dX1_copies_47 : decode cX1_copies 47 = .ok (.getfield 15, 3) := by decide +kernel
theorem dX1_copies_50 : decode cX1_copies 50 = .ok (.iload_n 2, 1) := by decide +kernel
theorem dX1_copies_51 : decode cX1_copies 51 = .ok (.aload_n 1, 1) := by decide +kernel
theorem dX1_copies_52 : decode cX1_copies 52 = .ok (.getfield 15, 3) := by decide +kernel
theorem dX1_copies_55 : decode cX1_copies 55 = .ok (.iload_n 2, 1) := by decide +kernel
theorem dX1_copies_56 : decode cX1_copies 56 = .ok (.iaload, 1) := by decide +kernel
theorem dX1_copies_57 : decode cX1_copies 57 = .ok (.iastore, 1) := by decide +kernel
theorem dX1_copies_58 : decode cX1_copies 58 = .ok (.aload_n 0, 1) := by decide +kernel
theorem dX1_copies_59 : decode cX1_copies 59 = .ok (.getfield 18, 3) := by decide +kernel
theorem dX1_copies_62 : decode cX1_copies 62 = .ok (.iload_n 2, 1) := by decide +kernel
theorem dX1_copies_63 : decode cX1_copies 63 = .ok (.aload_n 1, 1) := by decide +kernel
theorem dX1_copies_64 : decode cX1_copies 64 = .ok (.getfield 18, 3) := by decide +kernel
theorem dX1_copies_67 : decode cX1_copies 67 = .ok (.iload_n 2, 1) := by decide +kernel
theorem dX1_copies_68 : decode cX1_copies 68 = .ok (.iaload, 1) := by decide +kernel
theorem dX1_copies_69 : decode cX1_copies 69 = .ok (.iastore, 1) := by decide +kernel
theorem dX1_copies_70 : decode cX1_copies 70 = .ok (.aload_n 0, 1) := by decide +kernel
theorem dX1_copies_71 : decode cX1_copies 71 = .ok (.getfield 21, 3) := by decide +kernel
theorem dX1_copies_74 : decode cX1_copies 74 = .ok (.iload_n 2, 1) := by decide +kernel
theorem dX1_copies_75 : decode cX1_copies 75 = .ok (.aload_n 1, 1) := by decide +kernel
theorem dX1_copies_76 : decode cX1_copies 76 = .ok (.getfield 21, 3) := by decide +kernel
theorem dX1_copies_79 : decode cX1_copies 79 = .ok (.iload_n 2, 1) := by decide +kernel
theorem dX1_copies_80 : decode cX1_copies 80 = .ok (.iaload, 1) := by decide +kernel
theorem dX1_copies_81 : decode cX1_copies 81 = .ok (.iastore, 1) := by decide +kernel
theorem dX1_copies_82 : decode cX1_copies 82 = .ok (.aload_n 0, 1) := by decide +kernel
theorem dX1_copies_83 : decode cX1_copies 83 = .ok (.getfield 24, 3) := by decide +kernel
theorem dX1_copies_86 : decode cX1_copies 86 = .ok (.iload_n 2, 1) := by decide +kernel
theorem dX1_copies_87 : decode cX1_copies 87 = .ok (.aload_n 1, 1) := by decide +kernel
theorem dX1_copies_88 : decode cX1_copies 88 = .ok (.getfield 24, 3) := by decide +kernel
theorem dX1_copies_91 : decode cX1_copies 91 = .ok (.iload_n 2, 1) := by decide +kernel
theorem dX1_copies_92 : decode cX1_copies 92 = .ok (.baload, 1) := by decide +kernel
theorem dX1_copies_93 : decode cX1_copies 93 = .ok (.bastore, 1) := by decide +kernel
theorem dX1_copies_94 : decode cX1_copies 94 = .ok (.iinc 2 1, 3) := by decide +kernel
theorem dX1_copies_97 : decode cX1_copies 97 = .ok (.goto (-71), 3) := by decide +kernel
theorem dX1_copies_100 : decode cX1_copies 100 = .ok (.return_, 1) := by decide +kernel
theorem dX1_takesIn_0 : decode cX1_takesIn 0 = .ok (.aload_n 0, 1) := by decide +kernel
theorem dX1_takesIn_1 : decode cX1_takesIn 1 = .ok (.getfield 28, 3) := by decide +kernel
theorem dX1_takesIn_4 : decode cX1_takesIn 4 = .ok (.istore 4, 2) := by decide +kernel
theorem dX1_takesIn_6 : decode cX1_takesIn 6 = .ok (.aload_n 0, 1) := by decide +kernel
theorem dX1_takesIn_7 : decode cX1_takesIn 7 = .ok (.getfield 9, 3) := by decide +kernel
theorem dX1_takesIn_10 : decode cX1_takesIn 10 = .ok (.iload 4, 2) := by decide +kernel
theorem dX1_takesIn_12 : decode cX1_takesIn 12 = .ok (.iload_n 1, 1) := by decide +kernel
theorem dX1_takesIn_13 : decode cX1_takesIn 13 = .ok (.iastore, 1) := by decide +kernel
theorem dX1_takesIn_14 : decode cX1_takesIn 14 = .ok (.aload_n 0, 1) := by decide +kernel
theorem dX1_takesIn_15 : decode cX1_takesIn 15 = .ok (.getfield 15, 3) := by decide +kernel
theorem dX1_takesIn_18 : decode cX1_takesIn 18 = .ok (.iload 4, 2) := by decide +kernel
theorem dX1_takesIn_20 : decode cX1_takesIn 20 = .ok (.iload_n 2, 1) := by decide +kernel
theorem dX1_takesIn_21 : decode cX1_takesIn 21 = .ok (.iastore, 1) := by decide +kernel
theorem dX1_takesIn_22 : decode cX1_takesIn 22 = .ok (.aload_n 0, 1) := by decide +kernel
theorem dX1_takesIn_23 : decode cX1_takesIn 23 = .ok (.getfield 18, 3) := by decide +kernel
theorem dX1_takesIn_26 : decode cX1_takesIn 26 = .ok (.iload 4, 2) := by decide +kernel
theorem dX1_takesIn_28 : decode cX1_takesIn 28 = .ok (.iload_n 3, 1) := by decide +kernel
theorem dX1_takesIn_29 : decode cX1_takesIn 29 = .ok (.iastore, 1) := by decide +kernel
theorem dX1_takesIn_30 : decode cX1_takesIn 30 = .ok (.aload_n 0, 1) := by decide +kernel
theorem dX1_takesIn_31 : decode cX1_takesIn 31 = .ok (.iload 4, 2) := by decide +kernel
theorem dX1_takesIn_33 : decode cX1_takesIn 33 = .ok (.iconst 0, 1) := by decide +kernel
theorem dX1_takesIn_34 : decode cX1_takesIn 34 = .ok (.invokevirtual 45, 3) := by decide +kernel
theorem dX1_takesIn_37 : decode cX1_takesIn 37 = .ok (.aload_n 0, 1) := by decide +kernel
theorem dX1_takesIn_38 : decode cX1_takesIn 38 = .ok (.dup, 1) := by decide +kernel
theorem dX1_takesIn_39 : decode cX1_takesIn 39 = .ok (.getfield 28, 3) := by decide +kernel
theorem dX1_takesIn_42 : decode cX1_takesIn 42 = .ok (.iconst 1, 1) := by decide +kernel
theorem dX1_takesIn_43 : decode cX1_takesIn 43 = .ok (.iadd, 1) := by decide +kernel
theorem dX1_takesIn_44 : decode cX1_takesIn 44 = .ok (.putfield 28, 3) := by decide +kernel
theorem dX1_takesIn_47 : decode cX1_takesIn 47 = .ok (.iload 4, 2) := by decide +kernel
theorem dX1_takesIn_49 : decode cX1_takesIn 49 = .ok (.ireturn, 1) := by decide +kernel
theorem dX1_stands_0 : decode cX1_stands 0 = .ok (.aload_n 0, 1) := by decide +kernel
theorem dX1_stands_1 : decode cX1_stands 1 = .ok (.getfield 21, 3) := by decide +kernel
theorem dX1_stands_4 : decode cX1_stands 4 = .ok (.iload_n 1, 1) := by decide +kernel
theorem dX1_stands_5 : decode cX1_stands 5 = .ok (.iload_n 2, 1) := by decide +kernel
theorem dX1_stands_6 : decode cX1_stands 6 = .ok (.iastore, 1) := by decide +kernel
theorem dX1_stands_7 : decode cX1_stands 7 = .ok (.aload_n 0, 1) := by decide +kernel
theorem dX1_stands_8 : decode cX1_stands 8 = .ok (.getfield 24, 3) := by decide +kernel
theorem dX1_stands_11 : decode cX1_stands 11 = .ok (.iload_n 1, 1) := by decide +kernel
theorem dX1_stands_12 : decode cX1_stands 12 = .ok (.iconst 0, 1) := by decide +kernel
theorem dX1_stands_13 : decode cX1_stands 13 = .ok (.bastore, 1) := by decide +kernel
theorem dX1_stands_14 : decode cX1_stands 14 = .ok (.return_, 1) := by decide +kernel
theorem dX1_clearFor_0 : decode cX1_clearFor 0 = .ok (.aload_n 0, 1) := by decide +kernel
theorem dX1_clearFor_1 : decode cX1_clearFor 1 = .ok (.getfield 38, 3) := by decide +kernel
theorem dX1_clearFor_4 : decode cX1_clearFor 4 = .ok (.aload_n 0, 1) := by decide +kernel
theorem dX1_clearFor_5 : decode cX1_clearFor 5 = .ok (.iload_n 1, 1) := by decide +kernel
theorem dX1_clearFor_6 : decode cX1_clearFor 6 = .ok (.invokevirtual 49, 3) := by decide +kernel
theorem dX1_clearFor_9 : decode cX1_clearFor 9 = .ok (.aload_n 0, 1) := by decide +kernel
theorem dX1_clearFor_10 : decode cX1_clearFor 10 = .ok (.getfield 18, 3) := by decide +kernel
theorem dX1_clearFor_13 : decode cX1_clearFor 13 = .ok (.iload_n 1, 1) := by decide +kernel
theorem dX1_clearFor_14 : decode cX1_clearFor 14 = .ok (.iaload, 1) := by decide +kernel
theorem dX1_clearFor_15 : decode cX1_clearFor 15 = .ok (.aload_n 0, 1) := by decide +kernel
theorem dX1_clearFor_16 : decode cX1_clearFor 16 = .ok (.getfield 35, 3) := by decide +kernel
theorem dX1_clearFor_19 : decode cX1_clearFor 19 = .ok (.bipush 24, 2) := by decide +kernel
theorem dX1_clearFor_21 : decode cX1_clearFor 21 = .ok (.irem, 1) := by decide +kernel
theorem dX1_clearFor_22 : decode cX1_clearFor 22 = .ok (.invokevirtual 53, 3) := by decide +kernel
theorem dX1_clearFor_25 : decode cX1_clearFor 25 = .ok (.ireturn, 1) := by decide +kernel
theorem dX1_paceOf_0 : decode cX1_paceOf 0 = .ok (.aload_n 0, 1) := by decide +kernel
theorem dX1_paceOf_1 : decode cX1_paceOf 1 = .ok (.getfield 42, 3) := by decide +kernel
theorem dX1_paceOf_4 : decode cX1_paceOf 4 = .ok (.iload_n 2, 1) := by decide +kernel
theorem dX1_paceOf_5 : decode cX1_paceOf 5 = .ok (.aload_n 0, 1) := by decide +kernel
theorem dX1_paceOf_6 : decode cX1_paceOf 6 = .ok (.getfield 15, 3) := by decide +kernel
theorem dX1_paceOf_9 : decode cX1_paceOf 9 = .ok (.iload_n 1, 1) := by decide +kernel
theorem dX1_paceOf_10 : decode cX1_paceOf 10 = .ok (.iaload, 1) := by decide +kernel
theorem dX1_paceOf_11 : decode cX1_paceOf 11 = .ok (.aload_n 0, 1) := by decide +kernel
theorem dX1_paceOf_12 : decode cX1_paceOf 12 = .ok (.getfield 9, 3) := by decide +kernel
theorem dX1_paceOf_15 : decode cX1_paceOf 15 = .ok (.iload_n 1, 1) := by decide +kernel
theorem dX1_paceOf_16 : decode cX1_paceOf 16 = .ok (.iaload, 1) := by decide +kernel
theorem dX1_paceOf_17 : decode cX1_paceOf 17 = .ok (.invokevirtual 53, 3) := by decide +kernel
theorem dX1_paceOf_20 : decode cX1_paceOf 20 = .ok (.ireturn, 1) := by decide +kernel
theorem dX1_sees_0 : decode cX1_sees 0 = .ok (.aload_n 0, 1) := by decide +kernel
theorem dX1_sees_1 : decode cX1_sees 1 = .ok (.getfield 18, 3) := by decide +kernel
theorem dX1_sees_4 : decode cX1_sees 4 = .ok (.iload_n 1, 1) := by decide +kernel
theorem dX1_sees_5 : decode cX1_sees 5 = .ok (.iaload, 1) := by decide +kernel
theorem dX1_sees_6 : decode cX1_sees 6 = .ok (.bipush 10, 2) := by decide +kernel
theorem dX1_sees_8 : decode cX1_sees 8 = .ok (.idiv, 1) := by decide +kernel
theorem dX1_sees_9 : decode cX1_sees 9 = .ok (.istore_n 2, 1) := by decide +kernel
theorem dX1_sees_10 : decode cX1_sees 10 = .ok (.aload_n 0, 1) := by decide +kernel
theorem dX1_sees_11 : decode cX1_sees 11 = .ok (.getfield 15, 3) := by decide +kernel
theorem dX1_sees_14 : decode cX1_sees 14 = .ok (.iload_n 1, 1) := by decide +kernel
theorem dX1_sees_15 : decode cX1_sees 15 = .ok (.iaload, 1) := by decide +kernel
theorem dX1_sees_16 : decode cX1_sees 16 = .ok (.istore_n 3, 1) := by decide +kernel
theorem dX1_sees_17 : decode cX1_sees 17 = .ok (.aload_n 0, 1) := by decide +kernel
theorem dX1_sees_18 : decode cX1_sees 18 = .ok (.getfield 9, 3) := by decide +kernel
theorem dX1_sees_21 : decode cX1_sees 21 = .ok (.iload_n 1, 1) := by decide +kernel
theorem dX1_sees_22 : decode cX1_sees 22 = .ok (.iaload, 1) := by decide +kernel
theorem dX1_sees_23 : decode cX1_sees 23 = .ok (.tableswitch 84 1 6 #[37, 41, 54, 59, 69, 75], 37) := by decide +kernel
theorem dX1_sees_60 : decode cX1_sees 60 = .ok (.iload_n 2, 1) := by decide +kernel
theorem dX1_sees_61 : decode cX1_sees 61 = .ok (.iconst 2, 1) := by decide +kernel
theorem dX1_sees_62 : decode cX1_sees 62 = .ok (.idiv, 1) := by decide +kernel
theorem dX1_sees_63 : decode cX1_sees 63 = .ok (.ireturn, 1) := by decide +kernel
theorem dX1_sees_64 : decode cX1_sees 64 = .ok (.iload_n 2, 1) := by decide +kernel
theorem dX1_sees_65 : decode cX1_sees 65 = .ok (.iconst 3, 1) := by decide +kernel
theorem dX1_sees_66 : decode cX1_sees 66 = .ok (.if_icmp .ge 7, 3) := by decide +kernel
theorem dX1_sees_69 : decode cX1_sees 69 = .ok (.iconst 0, 1) := by decide +kernel
theorem dX1_sees_70 : decode cX1_sees 70 = .ok (.goto 6, 3) := by decide +kernel
theorem dX1_sees_73 : decode cX1_sees 73 = .ok (.iload_n 2, 1) := by decide +kernel
theorem dX1_sees_74 : decode cX1_sees 74 = .ok (.iconst 3, 1) := by decide +kernel
theorem dX1_sees_75 : decode cX1_sees 75 = .ok (.isub, 1) := by decide +kernel
theorem dX1_sees_76 : decode cX1_sees 76 = .ok (.ireturn, 1) := by decide +kernel
theorem dX1_sees_77 : decode cX1_sees 77 = .ok (.bipush 9, 2) := by decide +kernel
theorem dX1_sees_79 : decode cX1_sees 79 = .ok (.iload_n 3, 1) := by decide +kernel
theorem dX1_sees_80 : decode cX1_sees 80 = .ok (.iadd, 1) := by decide +kernel
theorem dX1_sees_81 : decode cX1_sees 81 = .ok (.ireturn, 1) := by decide +kernel
theorem dX1_sees_82 : decode cX1_sees 82 = .ok (.iload_n 2, 1) := by decide +kernel
theorem dX1_sees_83 : decode cX1_sees 83 = .ok (.iconst 2, 1) := by decide +kernel
theorem dX1_sees_84 : decode cX1_sees 84 = .ok (.idiv, 1) := by decide +kernel
theorem dX1_sees_85 : decode cX1_sees 85 = .ok (.aload_n 0, 1) := by decide +kernel
theorem dX1_sees_86 : decode cX1_sees 86 = .ok (.iload_n 1, 1) := by decide +kernel
theorem dX1_sees_87 : decode cX1_sees 87 = .ok (.invokevirtual 59, 3) := by decide +kernel
theorem dX1_sees_90 : decode cX1_sees 90 = .ok (.iadd, 1) := by decide +kernel
theorem dX1_sees_91 : decode cX1_sees 91 = .ok (.ireturn, 1) := by decide +kernel
theorem dX1_sees_92 : decode cX1_sees 92 = .ok (.iconst 1, 1) := by decide +kernel
theorem dX1_sees_93 : decode cX1_sees 93 = .ok (.iload_n 3, 1) := by decide +kernel
theorem dX1_sees_94 : decode cX1_sees 94 = .ok (.iconst 2, 1) := by decide +kernel
theorem dX1_sees_95 : decode cX1_sees 95 = .ok (.irem, 1) := by decide +kernel
theorem dX1_sees_96 : decode cX1_sees 96 = .ok (.iadd, 1) := by decide +kernel
theorem dX1_sees_97 : decode cX1_sees 97 = .ok (.ireturn, 1) := by decide +kernel
theorem dX1_sees_98 : decode cX1_sees 98 = .ok (.iload_n 2, 1) := by decide +kernel
theorem dX1_sees_99 : decode cX1_sees 99 = .ok (.aload_n 0, 1) := by decide +kernel
theorem dX1_sees_100 : decode cX1_sees 100 = .ok (.getfield 35, 3) := by decide +kernel
theorem dX1_sees_103 : decode cX1_sees 103 = .ok (.iconst 5, 1) := by decide +kernel
theorem dX1_sees_104 : decode cX1_sees 104 = .ok (.irem, 1) := by decide +kernel
theorem dX1_sees_105 : decode cX1_sees 105 = .ok (.iadd, 1) := by decide +kernel
theorem dX1_sees_106 : decode cX1_sees 106 = .ok (.ireturn, 1) := by decide +kernel
theorem dX1_sees_107 : decode cX1_sees 107 = .ok (.iload_n 2, 1) := by decide +kernel
theorem dX1_sees_108 : decode cX1_sees 108 = .ok (.ireturn, 1) := by decide +kernel
theorem dX1_together_0 : decode cX1_together 0 = .ok (.iconst 0, 1) := by decide +kernel
theorem dX1_together_1 : decode cX1_together 1 = .ok (.istore_n 2, 1) := by decide +kernel
theorem dX1_together_2 : decode cX1_together 2 = .ok (.iconst 0, 1) := by decide +kernel
theorem dX1_together_3 : decode cX1_together 3 = .ok (.istore_n 3, 1) := by decide +kernel
theorem dX1_together_4 : decode cX1_together 4 = .ok (.iload_n 3, 1) := by decide +kernel
theorem dX1_together_5 : decode cX1_together 5 = .ok (.aload_n 0, 1) := by decide +kernel
theorem dX1_together_6 : decode cX1_together 6 = .ok (.getfield 28, 3) := by decide +kernel
theorem dX1_together_9 : decode cX1_together 9 = .ok (.if_icmp .ge 41, 3) := by decide +kernel
theorem dX1_together_12 : decode cX1_together 12 = .ok (.iload_n 3, 1) := by decide +kernel
theorem dX1_together_13 : decode cX1_together 13 = .ok (.iload_n 1, 1) := by decide +kernel
theorem dX1_together_14 : decode cX1_together 14 = .ok (.if_icmp .eq 30, 3) := by decide +kernel
theorem dX1_together_17 : decode cX1_together 17 = .ok (.aload_n 0, 1) := by decide +kernel
theorem dX1_together_18 : decode cX1_together 18 = .ok (.getfield 21, 3) := by decide +kernel
theorem dX1_together_21 : decode cX1_together 21 = .ok (.iload_n 3, 1) := by decide +kernel
theorem dX1_together_22 : decode cX1_together 22 = .ok (.iaload, 1) := by decide +kernel
theorem dX1_together_23 : decode cX1_together 23 = .ok (.aload_n 0, 1) := by decide +kernel
theorem dX1_together_24 : decode cX1_together 24 = .ok (.getfield 21, 3) := by decide +kernel
theorem dX1_together_27 : decode cX1_together 27 = .ok (.iload_n 1, 1) := by decide +kernel
theorem dX1_together_28 : decode cX1_together 28 = .ok (.iaload, 1) := by decide +kernel
theorem dX1_together_29 : decode cX1_together 29 = .ok (.if_icmp .ne 15, 3) := by decide +kernel
theorem dX1_together_32 : decode cX1_together 32 = .ok (.aload_n 0, 1) := by decide +kernel
theorem dX1_together_33 : decode cX1_together 33 = .ok (.getfield 24, 3) := by decide +kernel
theorem dX1_together_36 : decode cX1_together 36 = .ok (.iload_n 3, 1) := by decide +kernel
theorem dX1_together_37 : decode cX1_together 37 = .ok (.baload, 1) := by decide +kernel
theorem dX1_together_38 : decode cX1_together 38 = .ok (.ifCond .ne 6, 3) := by decide +kernel
theorem dX1_together_41 : decode cX1_together 41 = .ok (.iinc 2 1, 3) := by decide +kernel
theorem dX1_together_44 : decode cX1_together 44 = .ok (.iinc 3 1, 3) := by decide +kernel
theorem dX1_together_47 : decode cX1_together 47 = .ok (.goto (-43), 3) := by decide +kernel
theorem dX1_together_50 : decode cX1_together 50 = .ok (.iload_n 2, 1) := by decide +kernel
theorem dX1_together_51 : decode cX1_together 51 = .ok (.ireturn, 1) := by decide +kernel
theorem dX1_falls_0 : decode cX1_falls 0 = .ok (.aload_n 0, 1) := by decide +kernel
theorem dX1_falls_1 : decode cX1_falls 1 = .ok (.getfield 15, 3) := by decide +kernel
theorem dX1_falls_4 : decode cX1_falls 4 = .ok (.iload_n 1, 1) := by decide +kernel
theorem dX1_falls_5 : decode cX1_falls 5 = .ok (.iaload, 1) := by decide +kernel
theorem dX1_falls_6 : decode cX1_falls 6 = .ok (.istore_n 2, 1) := by decide +kernel
theorem dX1_falls_7 : decode cX1_falls 7 = .ok (.aload_n 0, 1) := by decide +kernel
theorem dX1_falls_8 : decode cX1_falls 8 = .ok (.getfield 9, 3) := by decide +kernel
theorem dX1_falls_11 : decode cX1_falls 11 = .ok (.iload_n 1, 1) := by decide +kernel
theorem dX1_falls_12 : decode cX1_falls 12 = .ok (.iaload, 1) := by decide +kernel
theorem dX1_falls_13 : decode cX1_falls 13 = .ok (.tableswitch 76 2 6 #[35, 54, 76, 76, 56], 35) := by decide +kernel
theorem dX1_falls_48 : decode cX1_falls 48 = .ok (.aload_n 0, 1) := by decide +kernel
theorem dX1_falls_49 : decode cX1_falls 49 = .ok (.getfield 18, 3) := by decide +kernel
theorem dX1_falls_52 : decode cX1_falls 52 = .ok (.iload_n 1, 1) := by decide +kernel
theorem dX1_falls_53 : decode cX1_falls 53 = .ok (.iaload, 1) := by decide +kernel
theorem dX1_falls_54 : decode cX1_falls 54 = .ok (.bipush 10, 2) := by decide +kernel
theorem dX1_falls_56 : decode cX1_falls 56 = .ok (.iload_n 2, 1) := by decide +kernel
theorem dX1_falls_57 : decode cX1_falls 57 = .ok (.iadd, 1) := by decide +kernel
theorem dX1_falls_58 : decode cX1_falls 58 = .ok (.if_icmp .ge 7, 3) := by decide +kernel
theorem dX1_falls_61 : decode cX1_falls 61 = .ok (.iconst 1, 1) := by decide +kernel
theorem dX1_falls_62 : decode cX1_falls 62 = .ok (.goto 4, 3) := by decide +kernel
theorem dX1_falls_65 : decode cX1_falls 65 = .ok (.iconst 0, 1) := by decide +kernel
theorem dX1_falls_66 : decode cX1_falls 66 = .ok (.ireturn, 1) := by decide +kernel
theorem dX1_falls_67 : decode cX1_falls 67 = .ok (.iconst 1, 1) := by decide +kernel
theorem dX1_falls_68 : decode cX1_falls 68 = .ok (.ireturn, 1) := by decide +kernel
theorem dX1_falls_69 : decode cX1_falls 69 = .ok (.aload_n 0, 1) := by decide +kernel
theorem dX1_falls_70 : decode cX1_falls 70 = .ok (.getfield 35, 3) := by decide +kernel
theorem dX1_falls_73 : decode cX1_falls 73 = .ok (.bipush 24, 2) := by decide +kernel
theorem dX1_falls_75 : decode cX1_falls 75 = .ok (.irem, 1) := by decide +kernel
theorem dX1_falls_76 : decode cX1_falls 76 = .ok (.bipush 20, 2) := by decide +kernel
theorem dX1_falls_78 : decode cX1_falls 78 = .ok (.iload_n 2, 1) := by decide +kernel
theorem dX1_falls_79 : decode cX1_falls 79 = .ok (.isub, 1) := by decide +kernel
theorem dX1_falls_80 : decode cX1_falls 80 = .ok (.if_icmp .le 7, 3) := by decide +kernel
theorem dX1_falls_83 : decode cX1_falls 83 = .ok (.iconst 1, 1) := by decide +kernel
theorem dX1_falls_84 : decode cX1_falls 84 = .ok (.goto 4, 3) := by decide +kernel
theorem dX1_falls_87 : decode cX1_falls 87 = .ok (.iconst 0, 1) := by decide +kernel
theorem dX1_falls_88 : decode cX1_falls 88 = .ok (.ireturn, 1) := by decide +kernel
theorem dX1_falls_89 : decode cX1_falls 89 = .ok (.iconst 0, 1) := by decide +kernel
theorem dX1_falls_90 : decode cX1_falls 90 = .ok (.ireturn, 1) := by decide +kernel
theorem dX1_anHourGoes_0 : decode cX1_anHourGoes 0 = .ok (.iload_n 1, 1) := by decide +kernel
theorem dX1_anHourGoes_1 : decode cX1_anHourGoes 1 = .ok (.iconst (-1), 1) := by decide +kernel
theorem dX1_anHourGoes_2 : decode cX1_anHourGoes 2 = .ok (.if_icmp .eq 13, 3) := by decide +kernel
theorem dX1_anHourGoes_5 : decode cX1_anHourGoes 5 = .ok (.aload_n 0, 1) := by decide +kernel
theorem dX1_anHourGoes_6 : decode cX1_anHourGoes 6 = .ok (.getfield 9, 3) := by decide +kernel
theorem dX1_anHourGoes_9 : decode cX1_anHourGoes 9 = .ok (.iload_n 1, 1) := by decide +kernel
theorem dX1_anHourGoes_10 : decode cX1_anHourGoes 10 = .ok (.iaload, 1) := by decide +kernel
theorem dX1_anHourGoes_11 : decode cX1_anHourGoes 11 = .ok (.iconst 4, 1) := by decide +kernel
theorem dX1_anHourGoes_12 : decode cX1_anHourGoes 12 = .ok (.if_icmp .ne 7, 3) := by decide +kernel
theorem dX1_anHourGoes_15 : decode cX1_anHourGoes 15 = .ok (.iconst 1, 1) := by decide +kernel
theorem dX1_anHourGoes_16 : decode cX1_anHourGoes 16 = .ok (.goto 4, 3) := by decide +kernel
theorem dX1_anHourGoes_19 : decode cX1_anHourGoes 19 = .ok (.iconst 0, 1) := by decide +kernel
theorem dX1_anHourGoes_20 : decode cX1_anHourGoes 20 = .ok (.istore_n 2, 1) := by decide +kernel
theorem dX1_anHourGoes_21 : decode cX1_anHourGoes 21 = .ok (.iconst 0, 1) := by decide +kernel
theorem dX1_anHourGoes_22 : decode cX1_anHourGoes 22 = .ok (.istore_n 3, 1) := by decide +kernel
theorem dX1_anHourGoes_23 : decode cX1_anHourGoes 23 = .ok (.iload_n 3, 1) := by decide +kernel
theorem dX1_anHourGoes_24 : decode cX1_anHourGoes 24 = .ok (.aload_n 0, 1) := by decide +kernel
theorem dX1_anHourGoes_25 : decode cX1_anHourGoes 25 = .ok (.getfield 28, 3) := by decide +kernel
theorem dX1_anHourGoes_28 : decode cX1_anHourGoes 28 = .ok (.if_icmp .ge 67, 3) := by decide +kernel
theorem dX1_anHourGoes_31 : decode cX1_anHourGoes 31 = .ok (.aload_n 0, 1) := by decide +kernel
theorem dX1_anHourGoes_32 : decode cX1_anHourGoes 32 = .ok (.getfield 24, 3) := by decide +kernel
theorem dX1_anHourGoes_35 : decode cX1_anHourGoes 35 = .ok (.iload_n 3, 1) := by decide +kernel
theorem dX1_anHourGoes_36 : decode cX1_anHourGoes 36 = .ok (.baload, 1) := by decide +kernel
theorem dX1_anHourGoes_37 : decode cX1_anHourGoes 37 = .ok (.ifCond .ne 52, 3) := by decide +kernel
theorem dX1_anHourGoes_40 : decode cX1_anHourGoes 40 = .ok (.aload_n 0, 1) := by decide +kernel
theorem dX1_anHourGoes_41 : decode cX1_anHourGoes 41 = .ok (.getfield 21, 3) := by decide +kernel
theorem dX1_anHourGoes_44 : decode cX1_anHourGoes 44 = .ok (.iload_n 3, 1) := by decide +kernel
theorem dX1_anHourGoes_45 : decode cX1_anHourGoes 45 = .ok (.iaload, 1) := by decide +kernel
theorem dX1_anHourGoes_46 : decode cX1_anHourGoes 46 = .ok (.bipush 15, 2) := by decide +kernel
theorem dX1_anHourGoes_48 : decode cX1_anHourGoes 48 = .ok (.if_icmp .ge 41, 3) := by decide +kernel
theorem dX1_anHourGoes_51 : decode cX1_anHourGoes 51 = .ok (.iload_n 2, 1) := by decide +kernel
theorem dX1_anHourGoes_52 : decode cX1_anHourGoes 52 = .ok (.ifCond .ne 8, 3) := by decide +kernel
theorem dX1_anHourGoes_55 : decode cX1_anHourGoes 55 = .ok (.iload_n 3, 1) := by decide +kernel
theorem dX1_anHourGoes_56 : decode cX1_anHourGoes 56 = .ok (.iload_n 1, 1) := by decide +kernel
theorem dX1_anHourGoes_57 : decode cX1_anHourGoes 57 = .ok (.if_icmp .ne 32, 3) := by decide +kernel
theorem dX1_anHourGoes_60 : decode cX1_anHourGoes 60 = .ok (.aload_n 0, 1) := by decide +kernel
theorem dX1_anHourGoes_61 : decode cX1_anHourGoes 61 = .ok (.iload_n 3, 1) := by decide +kernel
theorem dX1_anHourGoes_62 : decode cX1_anHourGoes 62 = .ok (.invokevirtual 62, 3) := by decide +kernel
theorem dX1_anHourGoes_65 : decode cX1_anHourGoes 65 = .ok (.istore 4, 2) := by decide +kernel
theorem dX1_anHourGoes_67 : decode cX1_anHourGoes 67 = .ok (.aload_n 0, 1) := by decide +kernel
theorem dX1_anHourGoes_68 : decode cX1_anHourGoes 68 = .ok (.iload_n 3, 1) := by decide +kernel
theorem dX1_anHourGoes_69 : decode cX1_anHourGoes 69 = .ok (.aload_n 0, 1) := by decide +kernel
theorem dX1_anHourGoes_70 : decode cX1_anHourGoes 70 = .ok (.iload_n 3, 1) := by decide +kernel
theorem dX1_anHourGoes_71 : decode cX1_anHourGoes 71 = .ok (.iload 4, 2) := by decide +kernel
theorem dX1_anHourGoes_73 : decode cX1_anHourGoes 73 = .ok (.invokevirtual 65, 3) := by decide +kernel
theorem dX1_anHourGoes_76 : decode cX1_anHourGoes 76 = .ok (.iload 4, 2) := by decide +kernel
theorem dX1_anHourGoes_78 : decode cX1_anHourGoes 78 = .ok (.invokestatic 69, 3) := by decide +kernel
theorem dX1_anHourGoes_81 : decode cX1_anHourGoes 81 = .ok (.aload_n 0, 1) := by decide +kernel
theorem dX1_anHourGoes_82 : decode cX1_anHourGoes 82 = .ok (.iload_n 3, 1) := by decide +kernel
theorem dX1_anHourGoes_83 : decode cX1_anHourGoes 83 = .ok (.invokevirtual 74, 3) := by decide +kernel
theorem dX1_anHourGoes_86 : decode cX1_anHourGoes 86 = .ok (.invokevirtual 78, 3) := by decide +kernel
theorem dX1_anHourGoes_89 : decode cX1_anHourGoes 89 = .ok (.iinc 3 1, 3) := by decide +kernel
theorem dX1_anHourGoes_92 : decode cX1_anHourGoes 92 = .ok (.goto (-69), 3) := by decide +kernel
theorem dX1_anHourGoes_95 : decode cX1_anHourGoes 95 = .ok (.aload_n 0, 1) := by decide +kernel
theorem dX1_anHourGoes_96 : decode cX1_anHourGoes 96 = .ok (.dup, 1) := by decide +kernel
theorem dX1_anHourGoes_97 : decode cX1_anHourGoes 97 = .ok (.getfield 35, 3) := by decide +kernel
theorem dX1_anHourGoes_100 : decode cX1_anHourGoes 100 = .ok (.iconst 1, 1) := by decide +kernel
theorem dX1_anHourGoes_101 : decode cX1_anHourGoes 101 = .ok (.iadd, 1) := by decide +kernel
theorem dX1_anHourGoes_102 : decode cX1_anHourGoes 102 = .ok (.putfield 35, 3) := by decide +kernel
theorem dX1_anHourGoes_105 : decode cX1_anHourGoes 105 = .ok (.return_, 1) := by decide +kernel
theorem dX1_goes_0 : decode cX1_goes 0 = .ok (.iconst 0, 1) := by decide +kernel
theorem dX1_goes_1 : decode cX1_goes 1 = .ok (.istore 4, 2) := by decide +kernel
theorem dX1_goes_3 : decode cX1_goes 3 = .ok (.iload 4, 2) := by decide +kernel
theorem dX1_goes_5 : decode cX1_goes 5 = .ok (.iload_n 2, 1) := by decide +kernel
theorem dX1_goes_6 : decode cX1_goes 6 = .ok (.if_icmp .ge 78, 3) := by decide +kernel
theorem dX1_goes_9 : decode cX1_goes 9 = .ok (.aload_n 0, 1) := by decide +kernel
theorem dX1_goes_10 : decode cX1_goes 10 = .ok (.getfield 21, 3) := by decide +kernel
theorem dX1_goes_13 : decode cX1_goes 13 = .ok (.iload_n 1, 1) := by decide +kernel
theorem dX1_goes_14 : decode cX1_goes 14 = .ok (.iaload, 1) := by decide +kernel
theorem dX1_goes_15 : decode cX1_goes 15 = .ok (.bipush 15, 2) := by decide +kernel
theorem dX1_goes_17 : decode cX1_goes 17 = .ok (.if_icmp .ge 67, 3) := by decide +kernel
theorem dX1_goes_20 : decode cX1_goes 20 = .ok (.aload_n 0, 1) := by decide +kernel
theorem dX1_goes_21 : decode cX1_goes 21 = .ok (.getfield 32, 3) := by decide +kernel
theorem dX1_goes_24 : decode cX1_goes 24 = .ok (.aload_n 0, 1) := by decide +kernel
theorem dX1_goes_25 : decode cX1_goes 25 = .ok (.getfield 21, 3) := by decide +kernel
theorem dX1_goes_28 : decode cX1_goes 28 = .ok (.iload_n 1, 1) := by decide +kernel
theorem dX1_goes_29 : decode cX1_goes 29 = .ok (.iaload, 1) := by decide +kernel
theorem dX1_goes_30 : decode cX1_goes 30 = .ok (.iconst 1, 1) := by decide +kernel
theorem dX1_goes_31 : decode cX1_goes 31 = .ok (.iadd, 1) := by decide +kernel
theorem dX1_goes_32 : decode cX1_goes 32 = .ok (.ishr, 1) := by decide +kernel
theorem dX1_goes_33 : decode cX1_goes 33 = .ok (.iconst 1, 1) := by decide +kernel
theorem dX1_goes_34 : decode cX1_goes 34 = .ok (.iand, 1) := by decide +kernel
theorem dX1_goes_35 : decode cX1_goes 35 = .ok (.ifCond .eq 7, 3) := by decide +kernel
theorem dX1_goes_38 : decode cX1_goes 38 = .ok (.iconst 1, 1) := by decide +kernel
theorem dX1_goes_39 : decode cX1_goes 39 = .ok (.goto 4, 3) := by decide +kernel
theorem dX1_goes_42 : decode cX1_goes 42 = .ok (.iconst 0, 1) := by decide +kernel
theorem dX1_goes_43 : decode cX1_goes 43 = .ok (.istore 5, 2) := by decide +kernel
theorem dX1_goes_45 : decode cX1_goes 45 = .ok (.iload 5, 2) := by decide +kernel
theorem dX1_goes_47 : decode cX1_goes 47 = .ok (.ifCond .eq 8, 3) := by decide +kernel
theorem dX1_goes_50 : decode cX1_goes 50 = .ok (.iload_n 3, 1) := by decide +kernel
theorem dX1_goes_51 : decode cX1_goes 51 = .ok (.ifCond .ne 4, 3) := by decide +kernel
theorem dX1_goes_54 : decode cX1_goes 54 = .ok (.return_, 1) := by decide +kernel
theorem dX1_goes_55 : decode cX1_goes 55 = .ok (.aload_n 0, 1) := by decide +kernel
theorem dX1_goes_56 : decode cX1_goes 56 = .ok (.getfield 21, 3) := by decide +kernel
theorem dX1_goes_59 : decode cX1_goes 59 = .ok (.iload_n 1, 1) := by decide +kernel
theorem dX1_goes_60 : decode cX1_goes 60 = .ok (.dup2, 1) := by decide +kernel
theorem dX1_goes_61 : decode cX1_goes 61 = .ok (.iaload, 1) := by decide +kernel
theorem dX1_goes_62 : decode cX1_goes 62 = .ok (.iconst 1, 1) := by decide +kernel
theorem dX1_goes_63 : decode cX1_goes 63 = .ok (.iadd, 1) := by decide +kernel
theorem dX1_goes_64 : decode cX1_goes 64 = .ok (.iastore, 1) := by decide +kernel
theorem dX1_goes_65 : decode cX1_goes 65 = .ok (.iload 5, 2) := by decide +kernel
theorem dX1_goes_67 : decode cX1_goes 67 = .ok (.ifCond .eq 11, 3) := by decide +kernel
theorem dX1_goes_70 : decode cX1_goes 70 = .ok (.aload_n 0, 1) := by decide +kernel
theorem dX1_goes_71 : decode cX1_goes 71 = .ok (.getfield 24, 3) := by decide +kernel
theorem dX1_goes_74 : decode cX1_goes 74 = .ok (.iload_n 1, 1) := by decide +kernel
theorem dX1_goes_75 : decode cX1_goes 75 = .ok (.iconst 1, 1) := by decide +kernel
theorem dX1_goes_76 : decode cX1_goes 76 = .ok (.bastore, 1) := by decide +kernel
theorem dX1_goes_77 : decode cX1_goes 77 = .ok (.return_, 1) := by decide +kernel
theorem dX1_goes_78 : decode cX1_goes 78 = .ok (.iinc 4 1, 3) := by decide +kernel
theorem dX1_goes_81 : decode cX1_goes 81 = .ok (.goto (-78), 3) := by decide +kernel
theorem dX1_goes_84 : decode cX1_goes 84 = .ok (.return_, 1) := by decide +kernel
theorem dX1_through_0 : decode cX1_through 0 = .ok (.iconst 0, 1) := by decide +kernel
theorem dX1_through_1 : decode cX1_through 1 = .ok (.istore_n 1, 1) := by decide +kernel
theorem dX1_through_2 : decode cX1_through 2 = .ok (.iconst 0, 1) := by decide +kernel
theorem dX1_through_3 : decode cX1_through 3 = .ok (.istore_n 2, 1) := by decide +kernel
theorem dX1_through_4 : decode cX1_through 4 = .ok (.iload_n 2, 1) := by decide +kernel
theorem dX1_through_5 : decode cX1_through 5 = .ok (.aload_n 0, 1) := by decide +kernel
theorem dX1_through_6 : decode cX1_through 6 = .ok (.getfield 28, 3) := by decide +kernel
theorem dX1_through_9 : decode cX1_through 9 = .ok (.if_icmp .ge 26, 3) := by decide +kernel
theorem dX1_through_12 : decode cX1_through 12 = .ok (.aload_n 0, 1) := by decide +kernel
theorem dX1_through_13 : decode cX1_through 13 = .ok (.getfield 21, 3) := by decide +kernel
theorem dX1_through_16 : decode cX1_through 16 = .ok (.iload_n 2, 1) := by decide +kernel
theorem dX1_through_17 : decode cX1_through 17 = .ok (.iaload, 1) := by decide +kernel
theorem dX1_through_18 : decode cX1_through 18 = .ok (.bipush 15, 2) := by decide +kernel
theorem dX1_through_20 : decode cX1_through 20 = .ok (.if_icmp .ne 9, 3) := by decide +kernel
theorem dX1_through_23 : decode cX1_through 23 = .ok (.iload_n 1, 1) := by decide +kernel
theorem dX1_through_24 : decode cX1_through 24 = .ok (.iconst 1, 1) := by decide +kernel
theorem dX1_through_25 : decode cX1_through 25 = .ok (.iload_n 2, 1) := by decide +kernel
theorem dX1_through_26 : decode cX1_through 26 = .ok (.ishl, 1) := by decide +kernel
theorem dX1_through_27 : decode cX1_through 27 = .ok (.ior, 1) := by decide +kernel
theorem dX1_through_28 : decode cX1_through 28 = .ok (.istore_n 1, 1) := by decide +kernel
theorem dX1_through_29 : decode cX1_through 29 = .ok (.iinc 2 1, 3) := by decide +kernel
theorem dX1_through_32 : decode cX1_through 32 = .ok (.goto (-28), 3) := by decide +kernel
theorem dX1_through_35 : decode cX1_through 35 = .ok (.iload_n 1, 1) := by decide +kernel
theorem dX1_through_36 : decode cX1_through 36 = .ok (.ireturn, 1) := by decide +kernel
theorem dX1_howManyAre_0 : decode cX1_howManyAre 0 = .ok (.iconst 0, 1) := by decide +kernel
theorem dX1_howManyAre_1 : decode cX1_howManyAre 1 = .ok (.istore 4, 2) := by decide +kernel
theorem dX1_howManyAre_3 : decode cX1_howManyAre 3 = .ok (.iload 4, 2) := by decide +kernel
theorem dX1_howManyAre_5 : decode cX1_howManyAre 5 = .ok (.iload_n 3, 1) := by decide +kernel
theorem dX1_howManyAre_6 : decode cX1_howManyAre 6 = .ok (.if_icmp .ge 29, 3) := by decide +kernel
theorem dX1_howManyAre_9 : decode cX1_howManyAre 9 = .ok (.iload 4, 2) := by decide +kernel
theorem dX1_howManyAre_11 : decode cX1_howManyAre 11 = .ok (.aload_n 0, 1) := by decide +kernel
theorem dX1_howManyAre_12 : decode cX1_howManyAre 12 = .ok (.getfield 28, 3) := by decide +kernel
theorem dX1_howManyAre_15 : decode cX1_howManyAre 15 = .ok (.if_icmp .ge 20, 3) := by decide +kernel
theorem dX1_howManyAre_18 : decode cX1_howManyAre 18 = .ok (.aload_n 2, 1) := by decide +kernel
theorem dX1_howManyAre_19 : decode cX1_howManyAre 19 = .ok (.iload 4, 2) := by decide +kernel
theorem dX1_howManyAre_21 : decode cX1_howManyAre 21 = .ok (.iaload, 1) := by decide +kernel
theorem dX1_howManyAre_22 : decode cX1_howManyAre 22 = .ok (.aload_n 1, 1) := by decide +kernel
theorem dX1_howManyAre_23 : decode cX1_howManyAre 23 = .ok (.iload 4, 2) := by decide +kernel
theorem dX1_howManyAre_25 : decode cX1_howManyAre 25 = .ok (.iaload, 1) := by decide +kernel
theorem dX1_howManyAre_26 : decode cX1_howManyAre 26 = .ok (.if_icmp .ne 9, 3) := by decide +kernel
theorem dX1_howManyAre_29 : decode cX1_howManyAre 29 = .ok (.iinc 4 1, 3) := by decide +kernel
theorem dX1_howManyAre_32 : decode cX1_howManyAre 32 = .ok (.goto (-29), 3) := by decide +kernel
theorem dX1_howManyAre_35 : decode cX1_howManyAre 35 = .ok (.iload 4, 2) := by decide +kernel
theorem dX1_howManyAre_37 : decode cX1_howManyAre 37 = .ok (.ireturn, 1) := by decide +kernel
theorem dX2_init_0 : decode cX2_init 0 = .ok (.aload_n 0, 1) := by decide +kernel
theorem dX2_init_1 : decode cX2_init 1 = .ok (.invokespecial 3, 3) := by decide +kernel
theorem dX2_init_4 : decode cX2_init 4 = .ok (.aload_n 0, 1) := by decide +kernel
theorem dX2_init_5 : decode cX2_init 5 = .ok (.bipush 60, 2) := by decide +kernel
theorem dX2_init_7 : decode cX2_init 7 = .ok (.newarray .int, 2) := by decide +kernel
theorem dX2_init_9 : decode cX2_init 9 = .ok (.putfield 9, 3) := by decide +kernel
theorem dX2_init_12 : decode cX2_init 12 = .ok (.aload_n 0, 1) := by decide +kernel
theorem dX2_init_13 : decode cX2_init 13 = .ok (.iconst 0, 1) := by decide +kernel
theorem dX2_init_14 : decode cX2_init 14 = .ok (.putfield 15, 3) := by decide +kernel
theorem dX2_init_17 : decode cX2_init 17 = .ok (.aload_n 0, 1) := by decide +kernel
theorem dX2_init_18 : decode cX2_init 18 = .ok (.iconst 0, 1) := by decide +kernel
theorem dX2_init_19 : decode cX2_init 19 = .ok (.putfield 19, 3) := by decide +kernel
theorem dX2_init_22 : decode cX2_init 22 = .ok (.aload_n 0, 1) := by decide +kernel
theorem dX2_init_23 : decode cX2_init 23 = .ok (.iconst 0, 1) := by decide +kernel
theorem dX2_init_24 : decode cX2_init 24 = .ok (.putfield 22, 3) := by decide +kernel
theorem dX2_init_27 : decode cX2_init 27 = .ok (.aload_n 0, 1) := by decide +kernel
theorem dX2_init_28 : decode cX2_init 28 = .ok (.ldc 25, 2) := by decide +kernel
theorem dX2_init_30 : decode cX2_init 30 = .ok (.putfield 27, 3) := by decide +kernel
theorem dX2_init_33 : decode cX2_init 33 = .ok (.aload_n 0, 1) := by decide +kernel
theorem dX2_init_34 : decode cX2_init 34 = .ok (.aload_n 1, 1) := by decide +kernel
theorem dX2_init_35 : decode cX2_init 35 = .ok (.putfield 31, 3) := by decide +kernel
theorem dX2_init_38 : decode cX2_init 38 = .ok (.return_, 1) := by decide +kernel
theorem dX2_faultOf_0 : decode cX2_faultOf 0 = .ok (.aload_n 0, 1) := by decide +kernel
theorem dX2_faultOf_1 : decode cX2_faultOf 1 = .ok (.iload_n 1, 1) := by decide +kernel
theorem dX2_faultOf_2 : decode cX2_faultOf 2 = .ok (.putfield 19, 3) := by decide +kernel
theorem dX2_faultOf_5 : decode cX2_faultOf 5 = .ok (.aload_n 0, 1) := by decide +kernel
theorem dX2_faultOf_6 : decode cX2_faultOf 6 = .ok (.iload_n 2, 1) := by decide +kernel
theorem dX2_faultOf_7 : decode cX2_faultOf 7 = .ok (.ifCond .ne 8, 3) := by decide +kernel
theorem dX2_faultOf_10 : decode cX2_faultOf 10 = .ok (.ldc 34, 2) := by decide +kernel
theorem dX2_faultOf_12 : decode cX2_faultOf 12 = .ok (.goto 5, 3) := by decide +kernel
theorem dX2_faultOf_15 : decode cX2_faultOf 15 = .ok (.ldc 36, 2) := by decide +kernel
theorem dX2_faultOf_17 : decode cX2_faultOf 17 = .ok (.putfield 27, 3) := by decide +kernel
theorem dX2_faultOf_20 : decode cX2_faultOf 20 = .ok (.aload_n 0, 1) := by decide +kernel
theorem dX2_faultOf_21 : decode cX2_faultOf 21 = .ok (.iconst 0, 1) := by decide +kernel
theorem dX2_faultOf_22 : decode cX2_faultOf 22 = .ok (.putfield 22, 3) := by decide +kernel
theorem dX2_faultOf_25 : decode cX2_faultOf 25 = .ok (.aload_n 0, 1) := by decide +kernel
theorem dX2_faultOf_26 : decode cX2_faultOf 26 = .ok (.iconst 0, 1) := by decide +kernel
theorem dX2_faultOf_27 : decode cX2_faultOf 27 = .ok (.putfield 15, 3) := by decide +kernel
theorem dX2_faultOf_30 : decode cX2_faultOf 30 = .ok (.aload_n 0, 1) := by decide +kernel
theorem dX2_faultOf_31 : decode cX2_faultOf 31 = .ok (.iconst 0, 1) := by decide +kernel
theorem dX2_faultOf_32 : decode cX2_faultOf 32 = .ok (.iconst 0, 1) := by decide +kernel
theorem dX2_faultOf_33 : decode cX2_faultOf 33 = .ok (.invokevirtual 38, 3) := by decide +kernel
theorem dX2_faultOf_36 : decode cX2_faultOf 36 = .ok (.ifCond .eq 18, 3) := by decide +kernel
theorem dX2_faultOf_39 : decode cX2_faultOf 39 = .ok (.aload_n 0, 1) := by decide +kernel
theorem dX2_faultOf_40 : decode cX2_faultOf 40 = .ok (.getfield 22, 3) := by decide +kernel
theorem dX2_faultOf_43 : decode cX2_faultOf 43 = .ok (.aload_n 0, 1) := by decide +kernel
theorem dX2_faultOf_44 : decode cX2_faultOf 44 = .ok (.getfield 19, 3) := by decide +kernel
theorem dX2_faultOf_47 : decode cX2_faultOf 47 = .ok (.if_icmp .ne 7, 3) := by decide +kernel
theorem dX2_faultOf_50 : decode cX2_faultOf 50 = .ok (.iconst (-1), 1) := by decide +kernel
theorem dX2_faultOf_51 : decode cX2_faultOf 51 = .ok (.goto 7, 3) := by decide +kernel
theorem dX2_faultOf_54 : decode cX2_faultOf 54 = .ok (.aload_n 0, 1) := by decide +kernel
theorem dX2_faultOf_55 : decode cX2_faultOf 55 = .ok (.getfield 22, 3) := by decide +kernel
theorem dX2_faultOf_58 : decode cX2_faultOf 58 = .ok (.ireturn, 1) := by decide +kernel
theorem dX2_reads_0 : decode cX2_reads 0 = .ok (.iload_n 1, 1) := by decide +kernel
theorem dX2_reads_1 : decode cX2_reads 1 = .ok (.iconst 5, 1) := by decide +kernel
theorem dX2_reads_2 : decode cX2_reads 2 = .ok (.if_icmp .lt 9, 3) := by decide +kernel
theorem dX2_reads_5 : decode cX2_reads 5 = .ok (.aload_n 0, 1) := by decide +kernel
theorem dX2_reads_6 : decode cX2_reads 6 = .ok (.iload_n 2, 1) := by decide +kernel
theorem dX2_reads_7 : decode cX2_reads 7 = .ok (.invokevirtual 42, 3) := by decide +kernel
theorem dX2_reads_10 : decode cX2_reads 10 = .ok (.ireturn, 1) := by decide +kernel
theorem dX2_reads_11 : decode cX2_reads 11 = .ok (.aload_n 0, 1) := by decide +kernel
theorem dX2_reads_12 : decode cX2_reads 12 = .ok (.iload_n 1, 1) := by decide +kernel
theorem dX2_reads_13 : decode cX2_reads 13 = .ok (.iconst 1, 1) := by decide +kernel
theorem dX2_reads_14 : decode cX2_reads 14 = .ok (.iadd, 1) := by decide +kernel
theorem dX2_reads_15 : decode cX2_reads 15 = .ok (.iload_n 2, 1) := by decide +kernel
theorem dX2_reads_16 : decode cX2_reads 16 = .ok (.invokevirtual 38, 3) := by decide +kernel
theorem dX2_reads_19 : decode cX2_reads 19 = .ok (.ifCond .ne 5, 3) := by decide +kernel
theorem dX2_reads_22 : decode cX2_reads 22 = .ok (.iconst 0, 1) := by decide +kernel
theorem dX2_reads_23 : decode cX2_reads 23 = .ok (.ireturn, 1) := by decide +kernel
theorem dX2_reads_24 : decode cX2_reads 24 = .ok (.iconst 0, 1) := by decide +kernel
theorem dX2_reads_25 : decode cX2_reads 25 = .ok (.istore_n 3, 1) := by decide +kernel
theorem dX2_reads_26 : decode cX2_reads 26 = .ok (.iload_n 3, 1) := by decide +kernel
theorem dX2_reads_27 : decode cX2_reads 27 = .ok (.bipush 60, 2) := by decide +kernel
theorem dX2_reads_29 : decode cX2_reads 29 = .ok (.if_icmp .ge 63, 3) := by decide +kernel
theorem dX2_reads_32 : decode cX2_reads 32 = .ok (.aload_n 0, 1) := by decide +kernel
theorem dX2_reads_33 : decode cX2_reads 33 = .ok (.invokevirtual 46, 3) := by decide +kernel
theorem dX2_reads_36 : decode cX2_reads 36 = .ok (.invokestatic 50, 3) := by decide +kernel
theorem dX2_reads_39 : decode cX2_reads 39 = .ok (.iload_n 1, 1) := by decide +kernel
theorem dX2_reads_40 : decode cX2_reads 40 = .ok (.if_icmp .ne 52, 3) := by decide +kernel
theorem dX2_reads_43 : decode cX2_reads 43 = .ok (.aload_n 0, 1) := by decide +kernel
theorem dX2_reads_44 : decode cX2_reads 44 = .ok (.invokevirtual 46, 3) := by decide +kernel
theorem dX2_reads_47 : decode cX2_reads 47 = .ok (.istore 4, 2) := by decide +kernel
theorem dX2_reads_49 : decode cX2_reads 49 = .ok (.aload_n 0, 1) := by decide +kernel
theorem dX2_reads_50 : decode cX2_reads 50 = .ok (.dup, 1) := by decide +kernel
theorem dX2_reads_51 : decode cX2_reads 51 = .ok (.getfield 22, 3) := by decide +kernel
theorem dX2_reads_54 : decode cX2_reads 54 = .ok (.iconst 1, 1) := by decide +kernel
theorem dX2_reads_55 : decode cX2_reads 55 = .ok (.iadd, 1) := by decide +kernel
theorem dX2_reads_56 : decode cX2_reads 56 = .ok (.putfield 22, 3) := by decide +kernel
theorem dX2_reads_59 : decode cX2_reads 59 = .ok (.aload_n 0, 1) := by decide +kernel
theorem dX2_reads_60 : decode cX2_reads 60 = .ok (.iload_n 1, 1) := by decide +kernel
theorem dX2_reads_61 : decode cX2_reads 61 = .ok (.iconst 1, 1) := by decide +kernel
theorem dX2_reads_62 : decode cX2_reads 62 = .ok (.iadd, 1) := by decide +kernel
theorem dX2_reads_63 : decode cX2_reads 63 = .ok (.iload_n 2, 1) := by decide +kernel
theorem dX2_reads_64 : decode cX2_reads 64 = .ok (.invokevirtual 38, 3) := by decide +kernel
theorem dX2_reads_67 : decode cX2_reads 67 = .ok (.ifCond .ne 5, 3) := by decide +kernel
theorem dX2_reads_70 : decode cX2_reads 70 = .ok (.iconst 0, 1) := by decide +kernel
theorem dX2_reads_71 : decode cX2_reads 71 = .ok (.ireturn, 1) := by decide +kernel
theorem dX2_reads_72 : decode cX2_reads 72 = .ok (.aload_n 0, 1) := by decide +kernel
theorem dX2_reads_73 : decode cX2_reads 73 = .ok (.iload 4, 2) := by decide +kernel
theorem dX2_reads_75 : decode cX2_reads 75 = .ok (.ineg, 1) := by decide +kernel
theorem dX2_reads_76 : decode cX2_reads 76 = .ok (.invokevirtual 54, 3) := by decide +kernel
theorem dX2_reads_79 : decode cX2_reads 79 = .ok (.iload_n 1, 1) := by decide +kernel
theorem dX2_reads_80 : decode cX2_reads 80 = .ok (.iconst 2, 1) := by decide +kernel
theorem dX2_reads_81 : decode cX2_reads 81 = .ok (.if_icmp .ne 5, 3) := by decide +kernel
theorem dX2_reads_84 : decode cX2_reads 84 = .ok (.iconst 1, 1) := by decide +kernel
theorem dX2_reads_85 : decode cX2_reads 85 = .ok (.ireturn, 1) := by decide +kernel
theorem dX2_reads_86 : decode cX2_reads 86 = .ok (.iinc 3 1, 3) := by decide +kernel
theorem dX2_reads_89 : decode cX2_reads 89 = .ok (.goto (-63), 3) := by decide +kernel
theorem dX2_reads_92 : decode cX2_reads 92 = .ok (.iconst 1, 1) := by decide +kernel
theorem dX2_reads_93 : decode cX2_reads 93 = .ok (.ireturn, 1) := by decide +kernel
theorem dX2_readsUnit_0 : decode cX2_readsUnit 0 = .ok (.aload_n 0, 1) := by decide +kernel
theorem dX2_readsUnit_1 : decode cX2_readsUnit 1 = .ok (.invokevirtual 46, 3) := by decide +kernel
theorem dX2_readsUnit_4 : decode cX2_readsUnit 4 = .ok (.istore_n 2, 1) := by decide +kernel
theorem dX2_readsUnit_5 : decode cX2_readsUnit 5 = .ok (.iload_n 2, 1) := by decide +kernel
theorem dX2_readsUnit_6 : decode cX2_readsUnit 6 = .ok (.invokestatic 58, 3) := by decide +kernel
theorem dX2_readsUnit_9 : decode cX2_readsUnit 9 = .ok (.ifCond .eq 8, 3) := by decide +kernel
theorem dX2_readsUnit_12 : decode cX2_readsUnit 12 = .ok (.aload_n 0, 1) := by decide +kernel
theorem dX2_readsUnit_13 : decode cX2_readsUnit 13 = .ok (.invokevirtual 61, 3) := by decide +kernel
theorem dX2_readsUnit_16 : decode cX2_readsUnit 16 = .ok (.ireturn, 1) := by decide +kernel
theorem dX2_readsUnit_17 : decode cX2_readsUnit 17 = .ok (.iload_n 2, 1) := by decide +kernel
theorem dX2_readsUnit_18 : decode cX2_readsUnit 18 = .ok (.ifCond .ge 7, 3) := by decide +kernel
theorem dX2_readsUnit_21 : decode cX2_readsUnit 21 = .ok (.iconst (-1), 1) := by decide +kernel
theorem dX2_readsUnit_22 : decode cX2_readsUnit 22 = .ok (.goto 12, 3) := by decide +kernel
theorem dX2_readsUnit_25 : decode cX2_readsUnit 25 = .ok (.aload_n 0, 1) := by decide +kernel
theorem dX2_readsUnit_26 : decode cX2_readsUnit 26 = .ok (.getfield 27, 3) := by decide +kernel
theorem dX2_readsUnit_29 : decode cX2_readsUnit 29 = .ok (.iload_n 2, 1) := by decide +kernel
theorem dX2_readsUnit_30 : decode cX2_readsUnit 30 = .ok (.i2c, 1) := by decide +kernel
theorem dX2_readsUnit_31 : decode cX2_readsUnit 31 = .ok (.invokevirtual 65, 3) := by decide +kernel
theorem dX2_readsUnit_34 : decode cX2_readsUnit 34 = .ok (.istore_n 3, 1) := by decide +kernel
theorem dX2_readsUnit_35 : decode cX2_readsUnit 35 = .ok (.iload_n 3, 1) := by decide +kernel
theorem dX2_readsUnit_36 : decode cX2_readsUnit 36 = .ok (.ifCond .lt 24, 3) := by decide +kernel
theorem dX2_readsUnit_39 : decode cX2_readsUnit 39 = .ok (.aload_n 0, 1) := by decide +kernel
theorem dX2_readsUnit_40 : decode cX2_readsUnit 40 = .ok (.dup, 1) := by decide +kernel
theorem dX2_readsUnit_41 : decode cX2_readsUnit 41 = .ok (.getfield 22, 3) := by decide +kernel
theorem dX2_readsUnit_44 : decode cX2_readsUnit 44 = .ok (.iconst 1, 1) := by decide +kernel
theorem dX2_readsUnit_45 : decode cX2_readsUnit 45 = .ok (.iadd, 1) := by decide +kernel
theorem dX2_readsUnit_46 : decode cX2_readsUnit 46 = .ok (.putfield 22, 3) := by decide +kernel
theorem dX2_readsUnit_49 : decode cX2_readsUnit 49 = .ok (.aload_n 0, 1) := by decide +kernel
theorem dX2_readsUnit_50 : decode cX2_readsUnit 50 = .ok (.sipush 10000, 3) := by decide +kernel
theorem dX2_readsUnit_53 : decode cX2_readsUnit 53 = .ok (.iload_n 3, 1) := by decide +kernel
theorem dX2_readsUnit_54 : decode cX2_readsUnit 54 = .ok (.iadd, 1) := by decide +kernel
theorem dX2_readsUnit_55 : decode cX2_readsUnit 55 = .ok (.invokevirtual 54, 3) := by decide +kernel
theorem dX2_readsUnit_58 : decode cX2_readsUnit 58 = .ok (.iconst 1, 1) := by decide +kernel
theorem dX2_readsUnit_59 : decode cX2_readsUnit 59 = .ok (.ireturn, 1) := by decide +kernel
theorem dX2_readsUnit_60 : decode cX2_readsUnit 60 = .ok (.iload_n 2, 1) := by decide +kernel
theorem dX2_readsUnit_61 : decode cX2_readsUnit 61 = .ok (.bipush 33, 2) := by decide +kernel
theorem dX2_readsUnit_63 : decode cX2_readsUnit 63 = .ok (.if_icmp .eq 9, 3) := by decide +kernel
theorem dX2_readsUnit_66 : decode cX2_readsUnit 66 = .ok (.iload_n 2, 1) := by decide +kernel
theorem dX2_readsUnit_67 : decode cX2_readsUnit 67 = .ok (.bipush 40, 2) := by decide +kernel
theorem dX2_readsUnit_69 : decode cX2_readsUnit 69 = .ok (.if_icmp .ne 8, 3) := by decide +kernel
theorem dX2_readsUnit_72 : decode cX2_readsUnit 72 = .ok (.iload_n 1, 1) := by decide +kernel
theorem dX2_readsUnit_73 : decode cX2_readsUnit 73 = .ok (.iconst 5, 1) := by decide +kernel
theorem dX2_readsUnit_74 : decode cX2_readsUnit 74 = .ok (.if_icmp .lt 5, 3) := by decide +kernel
theorem dX2_readsUnit_77 : decode cX2_readsUnit 77 = .ok (.iconst 0, 1) := by decide +kernel
theorem dX2_readsUnit_78 : decode cX2_readsUnit 78 = .ok (.ireturn, 1) := by decide +kernel
theorem dX2_readsUnit_79 : decode cX2_readsUnit 79 = .ok (.aload_n 0, 1) := by decide +kernel
theorem dX2_readsUnit_80 : decode cX2_readsUnit 80 = .ok (.dup, 1) := by decide +kernel
theorem dX2_readsUnit_81 : decode cX2_readsUnit 81 = .ok (.getfield 22, 3) := by decide +kernel
theorem dX2_readsUnit_84 : decode cX2_readsUnit 84 = .ok (.iconst 1, 1) := by decide +kernel
theorem dX2_readsUnit_85 : decode cX2_readsUnit 85 = .ok (.iadd, 1) := by decide +kernel
theorem dX2_readsUnit_86 : decode cX2_readsUnit 86 = .ok (.putfield 22, 3) := by decide +kernel
theorem dX2_readsUnit_89 : decode cX2_readsUnit 89 = .ok (.iload_n 2, 1) := by decide +kernel
theorem dX2_readsUnit_90 : decode cX2_readsUnit 90 = .ok (.bipush 33, 2) := by decide +kernel
theorem dX2_readsUnit_92 : decode cX2_readsUnit 92 = .ok (.if_icmp .ne 13, 3) := by decide +kernel
theorem dX2_readsUnit_95 : decode cX2_readsUnit 95 = .ok (.aload_n 0, 1) := by decide +kernel
theorem dX2_readsUnit_96 : decode cX2_readsUnit 96 = .ok (.iload_n 1, 1) := by decide +kernel
theorem dX2_readsUnit_97 : decode cX2_readsUnit 97 = .ok (.iconst 1, 1) := by decide +kernel
theorem dX2_readsUnit_98 : decode cX2_readsUnit 98 = .ok (.iadd, 1) := by decide +kernel
theorem dX2_readsUnit_99 : decode cX2_readsUnit 99 = .ok (.invokevirtual 72, 3) := by decide +kernel
theorem dX2_readsUnit_102 : decode cX2_readsUnit 102 = .ok (.goto 10, 3) := by decide +kernel
theorem dX2_readsUnit_105 : decode cX2_readsUnit 105 = .ok (.aload_n 0, 1) := by decide +kernel
theorem dX2_readsUnit_106 : decode cX2_readsUnit 106 = .ok (.iload_n 1, 1) := by decide +kernel
theorem dX2_readsUnit_107 : decode cX2_readsUnit 107 = .ok (.iconst 1, 1) := by decide +kernel
theorem dX2_readsUnit_108 : decode cX2_readsUnit 108 = .ok (.iadd, 1) := by decide +kernel
theorem dX2_readsUnit_109 : decode cX2_readsUnit 109 = .ok (.invokevirtual 75, 3) := by decide +kernel
theorem dX2_readsUnit_112 : decode cX2_readsUnit 112 = .ok (.ireturn, 1) := by decide +kernel
theorem dX2_readsNumber_0 : decode cX2_readsNumber 0 = .ok (.iconst 0, 1) := by decide +kernel
theorem dX2_readsNumber_1 : decode cX2_readsNumber 1 = .ok (.istore_n 1, 1) := by decide +kernel
theorem dX2_readsNumber_2 : decode cX2_readsNumber 2 = .ok (.iconst 0, 1) := by decide +kernel
theorem dX2_readsNumber_3 : decode cX2_readsNumber 3 = .ok (.istore_n 2, 1) := by decide +kernel
theorem dX2_readsNumber_4 : decode cX2_readsNumber 4 = .ok (.iload_n 2, 1) := by decide +kernel
theorem dX2_readsNumber_5 : decode cX2_readsNumber 5 = .ok (.iconst 4, 1) := by decide +kernel
theorem dX2_readsNumber_6 : decode cX2_readsNumber 6 = .ok (.if_icmp .ge 42, 3) := by decide +kernel
theorem dX2_readsNumber_9 : decode cX2_readsNumber 9 = .ok (.aload_n 0, 1) := by decide +kernel
theorem dX2_readsNumber_10 : decode cX2_readsNumber 10 = .ok (.invokevirtual 46, 3) := by decide +kernel
theorem dX2_readsNumber_13 : decode cX2_readsNumber 13 = .ok (.invokestatic 58, 3) := by decide +kernel
theorem dX2_readsNumber_16 : decode cX2_readsNumber 16 = .ok (.ifCond .eq 32, 3) := by decide +kernel
theorem dX2_readsNumber_19 : decode cX2_readsNumber 19 = .ok (.iload_n 1, 1) := by decide +kernel
theorem dX2_readsNumber_20 : decode cX2_readsNumber 20 = .ok (.bipush 10, 2) := by decide +kernel
theorem dX2_readsNumber_22 : decode cX2_readsNumber 22 = .ok (.imul, 1) := by decide +kernel
theorem dX2_readsNumber_23 : decode cX2_readsNumber 23 = .ok (.aload_n 0, 1) := by decide +kernel
theorem dX2_readsNumber_24 : decode cX2_readsNumber 24 = .ok (.invokevirtual 46, 3) := by decide +kernel
theorem dX2_readsNumber_27 : decode cX2_readsNumber 27 = .ok (.iadd, 1) := by decide +kernel
theorem dX2_readsNumber_28 : decode cX2_readsNumber 28 = .ok (.bipush 48, 2) := by decide +kernel
theorem dX2_readsNumber_30 : decode cX2_readsNumber 30 = .ok (.isub, 1) := by decide +kernel
theorem dX2_readsNumber_31 : decode cX2_readsNumber 31 = .ok (.istore_n 1, 1) := by decide +kernel
theorem dX2_readsNumber_32 : decode cX2_readsNumber 32 = .ok (.aload_n 0, 1) := by decide +kernel
theorem dX2_readsNumber_33 : decode cX2_readsNumber 33 = .ok (.dup, 1) := by decide +kernel
theorem dX2_readsNumber_34 : decode cX2_readsNumber 34 = .ok (.getfield 22, 3) := by decide +kernel
theorem dX2_readsNumber_37 : decode cX2_readsNumber 37 = .ok (.iconst 1, 1) := by decide +kernel
theorem dX2_readsNumber_38 : decode cX2_readsNumber 38 = .ok (.iadd, 1) := by decide +kernel
theorem dX2_readsNumber_39 : decode cX2_readsNumber 39 = .ok (.putfield 22, 3) := by decide +kernel
theorem dX2_readsNumber_42 : decode cX2_readsNumber 42 = .ok (.iinc 2 1, 3) := by decide +kernel
theorem dX2_readsNumber_45 : decode cX2_readsNumber 45 = .ok (.goto (-41), 3) := by decide +kernel
theorem dX2_readsNumber_48 : decode cX2_readsNumber 48 = .ok (.aload_n 0, 1) := by decide +kernel
theorem dX2_readsNumber_49 : decode cX2_readsNumber 49 = .ok (.iload_n 1, 1) := by decide +kernel
theorem dX2_readsNumber_50 : decode cX2_readsNumber 50 = .ok (.invokevirtual 54, 3) := by decide +kernel
theorem dX2_readsNumber_53 : decode cX2_readsNumber 53 = .ok (.iconst 1, 1) := by decide +kernel
theorem dX2_readsNumber_54 : decode cX2_readsNumber 54 = .ok (.ireturn, 1) := by decide +kernel
theorem dX2_readsNot_0 : decode cX2_readsNot 0 = .ok (.aload_n 0, 1) := by decide +kernel
theorem dX2_readsNot_1 : decode cX2_readsNot 1 = .ok (.iload_n 1, 1) := by decide +kernel
theorem dX2_readsNot_2 : decode cX2_readsNot 2 = .ok (.invokevirtual 42, 3) := by decide +kernel
theorem dX2_readsNot_5 : decode cX2_readsNot 5 = .ok (.ifCond .ne 5, 3) := by decide +kernel
theorem dX2_readsNot_8 : decode cX2_readsNot 8 = .ok (.iconst 0, 1) := by decide +kernel
theorem dX2_readsNot_9 : decode cX2_readsNot 9 = .ok (.ireturn, 1) := by decide +kernel
theorem dX2_readsNot_10 : decode cX2_readsNot 10 = .ok (.aload_n 0, 1) := by decide +kernel
theorem dX2_readsNot_11 : decode cX2_readsNot 11 = .ok (.bipush (-33), 2) := by decide +kernel
theorem dX2_readsNot_13 : decode cX2_readsNot 13 = .ok (.invokevirtual 54, 3) := by decide +kernel
theorem dX2_readsNot_16 : decode cX2_readsNot 16 = .ok (.iconst 1, 1) := by decide +kernel
theorem dX2_readsNot_17 : decode cX2_readsNot 17 = .ok (.ireturn, 1) := by decide +kernel
theorem dX2_readsInner_0 : decode cX2_readsInner 0 = .ok (.aload_n 0, 1) := by decide +kernel
theorem dX2_readsInner_1 : decode cX2_readsInner 1 = .ok (.iconst 0, 1) := by decide +kernel
theorem dX2_readsInner_2 : decode cX2_readsInner 2 = .ok (.iload_n 1, 1) := by decide +kernel
theorem dX2_readsInner_3 : decode cX2_readsInner 3 = .ok (.invokevirtual 38, 3) := by decide +kernel
theorem dX2_readsInner_6 : decode cX2_readsInner 6 = .ok (.ifCond .eq 12, 3) := by decide +kernel
theorem dX2_readsInner_9 : decode cX2_readsInner 9 = .ok (.aload_n 0, 1) := by decide +kernel
theorem dX2_readsInner_10 : decode cX2_readsInner 10 = .ok (.invokevirtual 46, 3) := by decide +kernel
theorem dX2_readsInner_13 : decode cX2_readsInner 13 = .ok (.bipush 41, 2) := by decide +kernel
theorem dX2_readsInner_15 : decode cX2_readsInner 15 = .ok (.if_icmp .eq 5, 3) := by decide +kernel
theorem dX2_readsInner_18 : decode cX2_readsInner 18 = .ok (.iconst 0, 1) := by decide +kernel
theorem dX2_readsInner_19 : decode cX2_readsInner 19 = .ok (.ireturn, 1) := by decide +kernel
theorem dX2_readsInner_20 : decode cX2_readsInner 20 = .ok (.aload_n 0, 1) := by decide +kernel
theorem dX2_readsInner_21 : decode cX2_readsInner 21 = .ok (.dup, 1) := by decide +kernel
theorem dX2_readsInner_22 : decode cX2_readsInner 22 = .ok (.getfield 22, 3) := by decide +kernel
theorem dX2_readsInner_25 : decode cX2_readsInner 25 = .ok (.iconst 1, 1) := by decide +kernel
theorem dX2_readsInner_26 : decode cX2_readsInner 26 = .ok (.iadd, 1) := by decide +kernel
theorem dX2_readsInner_27 : decode cX2_readsInner 27 = .ok (.putfield 22, 3) := by decide +kernel
theorem dX2_readsInner_30 : decode cX2_readsInner 30 = .ok (.iconst 1, 1) := by decide +kernel
theorem dX2_readsInner_31 : decode cX2_readsInner 31 = .ok (.ireturn, 1) := by decide +kernel
theorem dX2_next_0 : decode cX2_next 0 = .ok (.aload_n 0, 1) := by decide +kernel
theorem dX2_next_1 : decode cX2_next 1 = .ok (.getfield 22, 3) := by decide +kernel
theorem dX2_next_4 : decode cX2_next 4 = .ok (.aload_n 0, 1) := by decide +kernel
theorem dX2_next_5 : decode cX2_next 5 = .ok (.getfield 19, 3) := by decide +kernel
theorem dX2_next_8 : decode cX2_next 8 = .ok (.if_icmp .ge 15, 3) := by decide +kernel
theorem dX2_next_11 : decode cX2_next 11 = .ok (.aload_n 0, 1) := by decide +kernel
theorem dX2_next_12 : decode cX2_next 12 = .ok (.getfield 31, 3) := by decide +kernel
theorem dX2_next_15 : decode cX2_next 15 = .ok (.aload_n 0, 1) := by decide +kernel
theorem dX2_next_16 : decode cX2_next 16 = .ok (.getfield 22, 3) := by decide +kernel
theorem dX2_next_19 : decode cX2_next 19 = .ok (.iaload, 1) := by decide +kernel
theorem dX2_next_20 : decode cX2_next 20 = .ok (.goto 4, 3) := by decide +kernel
theorem dX2_next_23 : decode cX2_next 23 = .ok (.iconst (-1), 1) := by decide +kernel
theorem dX2_next_24 : decode cX2_next 24 = .ok (.ireturn, 1) := by decide +kernel
theorem dX2_writes_0 : decode cX2_writes 0 = .ok (.aload_n 0, 1) := by decide +kernel
theorem dX2_writes_1 : decode cX2_writes 1 = .ok (.getfield 15, 3) := by decide +kernel
theorem dX2_writes_4 : decode cX2_writes 4 = .ok (.bipush 60, 2) := by decide +kernel
theorem dX2_writes_6 : decode cX2_writes 6 = .ok (.if_icmp .ge 23, 3) := by decide +kernel
theorem dX2_writes_9 : decode cX2_writes 9 = .ok (.aload_n 0, 1) := by decide +kernel
theorem dX2_writes_10 : decode cX2_writes 10 = .ok (.getfield 9, 3) := by decide +kernel
theorem dX2_writes_13 : decode cX2_writes 13 = .ok (.aload_n 0, 1) := by decide +kernel
theorem dX2_writes_14 : decode cX2_writes 14 = .ok (.getfield 15, 3) := by decide +kernel
theorem dX2_writes_17 : decode cX2_writes 17 = .ok (.iload_n 1, 1) := by decide +kernel
theorem dX2_writes_18 : decode cX2_writes 18 = .ok (.iastore, 1) := by decide +kernel
theorem dX2_writes_19 : decode cX2_writes 19 = .ok (.aload_n 0, 1) := by decide +kernel
theorem dX2_writes_20 : decode cX2_writes 20 = .ok (.dup, 1) := by decide +kernel
theorem dX2_writes_21 : decode cX2_writes 21 = .ok (.getfield 15, 3) := by decide +kernel
theorem dX2_writes_24 : decode cX2_writes 24 = .ok (.iconst 1, 1) := by decide +kernel
theorem dX2_writes_25 : decode cX2_writes 25 = .ok (.iadd, 1) := by decide +kernel
theorem dX2_writes_26 : decode cX2_writes 26 = .ok (.putfield 15, 3) := by decide +kernel
theorem dX2_writes_29 : decode cX2_writes 29 = .ok (.return_, 1) := by decide +kernel
theorem dX2_isDigit_0 : decode cX2_isDigit 0 = .ok (.iload_n 0, 1) := by decide +kernel
theorem dX2_isDigit_1 : decode cX2_isDigit 1 = .ok (.bipush 48, 2) := by decide +kernel
theorem dX2_isDigit_3 : decode cX2_isDigit 3 = .ok (.if_icmp .lt 13, 3) := by decide +kernel
theorem dX2_isDigit_6 : decode cX2_isDigit 6 = .ok (.iload_n 0, 1) := by decide +kernel
theorem dX2_isDigit_7 : decode cX2_isDigit 7 = .ok (.bipush 57, 2) := by decide +kernel
theorem dX2_isDigit_9 : decode cX2_isDigit 9 = .ok (.if_icmp .gt 7, 3) := by decide +kernel
theorem dX2_isDigit_12 : decode cX2_isDigit 12 = .ok (.iconst 1, 1) := by decide +kernel
theorem dX2_isDigit_13 : decode cX2_isDigit 13 = .ok (.goto 4, 3) := by decide +kernel
theorem dX2_isDigit_16 : decode cX2_isDigit 16 = .ok (.iconst 0, 1) := by decide +kernel
theorem dX2_isDigit_17 : decode cX2_isDigit 17 = .ok (.ireturn, 1) := by decide +kernel
theorem dX2_rankOf_0 : decode cX2_rankOf 0 = .ok (.iload_n 0, 1) := by decide +kernel
theorem dX2_rankOf_1 : decode cX2_rankOf 1 = .ok (.lookupswitch 101 #[(37, 99), (38, 93), (42, 99), (43, 97), (45, 97), (47, 99), (60, 95), (61, 95), (62, 95), (124, 91)], 91) := by decide +kernel
theorem dX2_rankOf_92 : decode cX2_rankOf 92 = .ok (.iconst 0, 1) := by decide +kernel
theorem dX2_rankOf_93 : decode cX2_rankOf 93 = .ok (.ireturn, 1) := by decide +kernel
theorem dX2_rankOf_94 : decode cX2_rankOf 94 = .ok (.iconst 1, 1) := by decide +kernel
theorem dX2_rankOf_95 : decode cX2_rankOf 95 = .ok (.ireturn, 1) := by decide +kernel
theorem dX2_rankOf_96 : decode cX2_rankOf 96 = .ok (.iconst 2, 1) := by decide +kernel
theorem dX2_rankOf_97 : decode cX2_rankOf 97 = .ok (.ireturn, 1) := by decide +kernel
theorem dX2_rankOf_98 : decode cX2_rankOf 98 = .ok (.iconst 3, 1) := by decide +kernel
theorem dX2_rankOf_99 : decode cX2_rankOf 99 = .ok (.ireturn, 1) := by decide +kernel
theorem dX2_rankOf_100 : decode cX2_rankOf 100 = .ok (.iconst 4, 1) := by decide +kernel
theorem dX2_rankOf_101 : decode cX2_rankOf 101 = .ok (.ireturn, 1) := by decide +kernel
theorem dX2_rankOf_102 : decode cX2_rankOf 102 = .ok (.iconst (-1), 1) := by decide +kernel
theorem dX2_rankOf_103 : decode cX2_rankOf 103 = .ok (.ireturn, 1) := by decide +kernel
theorem dX3_init_0 : decode cX3_init 0 = .ok (.aload_n 0, 1) := by decide +kernel
theorem dX3_init_1 : decode cX3_init 1 = .ok (.invokespecial 1, 3) := by decide +kernel
theorem dX3_init_4 : decode cX3_init 4 = .ok (.aload_n 0, 1) := by decide +kernel
theorem dX3_init_5 : decode cX3_init 5 = .ok (.iconst 4, 1) := by decide +kernel
theorem dX3_init_6 : decode cX3_init 6 = .ok (.newarray .int, 2) := by decide +kernel
theorem dX3_init_8 : decode cX3_init 8 = .ok (.putfield 9, 3) := by decide +kernel
theorem dX3_init_11 : decode cX3_init 11 = .ok (.aload_n 0, 1) := by decide +kernel
theorem dX3_init_12 : decode cX3_init 12 = .ok (.iconst 4, 1) := by decide +kernel
theorem dX3_init_13 : decode cX3_init 13 = .ok (.newarray .int, 2) := by decide +kernel
theorem dX3_init_15 : decode cX3_init 15 = .ok (.putfield 13, 3) := by decide +kernel
theorem dX3_init_18 : decode cX3_init 18 = .ok (.aload_n 0, 1) := by decide +kernel
theorem dX3_init_19 : decode cX3_init 19 = .ok (.iconst 4, 1) := by decide +kernel
theorem dX3_init_20 : decode cX3_init 20 = .ok (.bipush 24, 2) := by decide +kernel
theorem dX3_init_22 : decode cX3_init 22 = .ok (.multianewarray 16 2, 4) := by decide +kernel
theorem dX3_init_26 : decode cX3_init 26 = .ok (.putfield 18, 3) := by decide +kernel
theorem dX3_init_29 : decode cX3_init 29 = .ok (.return_, 1) := by decide +kernel
theorem dX3_isMissing_0 : decode cX3_isMissing 0 = .ok (.aload_n 0, 1) := by decide +kernel
theorem dX3_isMissing_1 : decode cX3_isMissing 1 = .ok (.getfield 9, 3) := by decide +kernel
theorem dX3_isMissing_4 : decode cX3_isMissing 4 = .ok (.iload_n 1, 1) := by decide +kernel
theorem dX3_isMissing_5 : decode cX3_isMissing 5 = .ok (.iaload, 1) := by decide +kernel
theorem dX3_isMissing_6 : decode cX3_isMissing 6 = .ok (.ifCond .ne 7, 3) := by decide +kernel
theorem dX3_isMissing_9 : decode cX3_isMissing 9 = .ok (.iconst 1, 1) := by decide +kernel
theorem dX3_isMissing_10 : decode cX3_isMissing 10 = .ok (.goto 4, 3) := by decide +kernel
theorem dX3_isMissing_13 : decode cX3_isMissing 13 = .ok (.iconst 0, 1) := by decide +kernel
theorem dX3_isMissing_14 : decode cX3_isMissing 14 = .ok (.ireturn, 1) := by decide +kernel
theorem dX3_lays_0 : decode cX3_lays 0 = .ok (.aload_n 0, 1) := by decide +kernel
theorem dX3_lays_1 : decode cX3_lays 1 = .ok (.getfield 9, 3) := by decide +kernel
theorem dX3_lays_4 : decode cX3_lays 4 = .ok (.iload_n 1, 1) := by decide +kernel
theorem dX3_lays_5 : decode cX3_lays 5 = .ok (.iload_n 2, 1) := by decide +kernel
theorem dX3_lays_6 : decode cX3_lays 6 = .ok (.iastore, 1) := by decide +kernel
theorem dX3_lays_7 : decode cX3_lays 7 = .ok (.aload_n 0, 1) := by decide +kernel
theorem dX3_lays_8 : decode cX3_lays 8 = .ok (.getfield 13, 3) := by decide +kernel
theorem dX3_lays_11 : decode cX3_lays 11 = .ok (.iload_n 1, 1) := by decide +kernel
theorem dX3_lays_12 : decode cX3_lays 12 = .ok (.iload_n 3, 1) := by decide +kernel
theorem dX3_lays_13 : decode cX3_lays 13 = .ok (.iastore, 1) := by decide +kernel
theorem dX3_lays_14 : decode cX3_lays 14 = .ok (.iconst 0, 1) := by decide +kernel
theorem dX3_lays_15 : decode cX3_lays 15 = .ok (.istore 4, 2) := by decide +kernel
theorem dX3_lays_17 : decode cX3_lays 17 = .ok (.iload 4, 2) := by decide +kernel
theorem dX3_lays_19 : decode cX3_lays 19 = .ok (.iload_n 3, 1) := by decide +kernel
theorem dX3_lays_20 : decode cX3_lays 20 = .ok (.if_icmp .ge 19, 3) := by decide +kernel
theorem dX3_lays_23 : decode cX3_lays 23 = .ok (.aload_n 0, 1) := by decide +kernel
theorem dX3_lays_24 : decode cX3_lays 24 = .ok (.getfield 18, 3) := by decide +kernel
theorem dX3_lays_27 : decode cX3_lays 27 = .ok (.iload_n 1, 1) := by decide +kernel
theorem dX3_lays_28 : decode cX3_lays 28 = .ok (.aaload, 1) := by decide +kernel
theorem dX3_lays_29 : decode cX3_lays 29 = .ok (.iload 4, 2) := by decide +kernel
theorem dX3_lays_31 : decode cX3_lays 31 = .ok (.iconst 0, 1) := by decide +kernel
theorem dX3_lays_32 : decode cX3_lays 32 = .ok (.iastore, 1) := by decide +kernel
theorem dX3_lays_33 : decode cX3_lays 33 = .ok (.iinc 4 1, 3) := by decide +kernel
theorem dX3_lays_36 : decode cX3_lays 36 = .ok (.goto (-19), 3) := by decide +kernel
theorem dX3_lays_39 : decode cX3_lays 39 = .ok (.return_, 1) := by decide +kernel
theorem dX3_lowest_0 : decode cX3_lowest 0 = .ok (.aload_n 0, 1) := by decide +kernel
theorem dX3_lowest_1 : decode cX3_lowest 1 = .ok (.getfield 9, 3) := by decide +kernel
theorem dX3_lowest_4 : decode cX3_lowest 4 = .ok (.iload_n 1, 1) := by decide +kernel
theorem dX3_lowest_5 : decode cX3_lowest 5 = .ok (.iaload, 1) := by decide +kernel
theorem dX3_lowest_6 : decode cX3_lowest 6 = .ok (.lookupswitch 32 #[(8, 26), (16, 29)], 26) := by decide +kernel
theorem dX3_lowest_32 : decode cX3_lowest 32 = .ok (.iload_n 2, 1) := by decide +kernel
theorem dX3_lowest_33 : decode cX3_lowest 33 = .ok (.i2b, 1) := by decide +kernel
theorem dX3_lowest_34 : decode cX3_lowest 34 = .ok (.ireturn, 1) := by decide +kernel
theorem dX3_lowest_35 : decode cX3_lowest 35 = .ok (.iload_n 2, 1) := by decide +kernel
theorem dX3_lowest_36 : decode cX3_lowest 36 = .ok (.i2s, 1) := by decide +kernel
theorem dX3_lowest_37 : decode cX3_lowest 37 = .ok (.ireturn, 1) := by decide +kernel
theorem dX3_lowest_38 : decode cX3_lowest 38 = .ok (.iload_n 2, 1) := by decide +kernel
theorem dX3_lowest_39 : decode cX3_lowest 39 = .ok (.ireturn, 1) := by decide +kernel
theorem dX3_holds_0 : decode cX3_holds 0 = .ok (.iload_n 3, 1) := by decide +kernel
theorem dX3_holds_1 : decode cX3_holds 1 = .ok (.ifCond .lt 23, 3) := by decide +kernel
theorem dX3_holds_4 : decode cX3_holds 4 = .ok (.iload_n 2, 1) := by decide +kernel
theorem dX3_holds_5 : decode cX3_holds 5 = .ok (.ifCond .lt 19, 3) := by decide +kernel
theorem dX3_holds_8 : decode cX3_holds 8 = .ok (.iload_n 2, 1) := by decide +kernel
theorem dX3_holds_9 : decode cX3_holds 9 = .ok (.aload_n 0, 1) := by decide +kernel
theorem dX3_holds_10 : decode cX3_holds 10 = .ok (.getfield 13, 3) := by decide +kernel
theorem dX3_holds_13 : decode cX3_holds 13 = .ok (.iload_n 1, 1) := by decide +kernel
theorem dX3_holds_14 : decode cX3_holds 14 = .ok (.iaload, 1) := by decide +kernel
theorem dX3_holds_15 : decode cX3_holds 15 = .ok (.iload_n 3, 1) := by decide +kernel
theorem dX3_holds_16 : decode cX3_holds 16 = .ok (.isub, 1) := by decide +kernel
theorem dX3_holds_17 : decode cX3_holds 17 = .ok (.if_icmp .gt 7, 3) := by decide +kernel
theorem dX3_holds_20 : decode cX3_holds 20 = .ok (.iconst 1, 1) := by decide +kernel
theorem dX3_holds_21 : decode cX3_holds 21 = .ok (.goto 4, 3) := by decide +kernel
theorem dX3_holds_24 : decode cX3_holds 24 = .ok (.iconst 0, 1) := by decide +kernel
theorem dX3_holds_25 : decode cX3_holds 25 = .ok (.ireturn, 1) := by decide +kernel
theorem dX4_init_0 : decode cX4_init 0 = .ok (.aload_n 0, 1) := by decide +kernel
theorem dX4_init_1 : decode cX4_init 1 = .ok (.invokespecial 3, 3) := by decide +kernel
theorem dX4_init_4 : decode cX4_init 4 = .ok (.aload_n 0, 1) := by decide +kernel
theorem dX4_init_5 : decode cX4_init 5 = .ok (.new 9, 3) := by decide +kernel
theorem dX4_init_8 : decode cX4_init 8 = .ok (.dup, 1) := by decide +kernel
theorem dX4_init_9 : decode cX4_init 9 = .ok (.iconst 0, 1) := by decide +kernel
theorem dX4_init_10 : decode cX4_init 10 = .ok (.invokespecial 11, 3) := by decide +kernel
theorem dX4_init_13 : decode cX4_init 13 = .ok (.putfield 14, 3) := by decide +kernel
theorem dX4_init_16 : decode cX4_init 16 = .ok (.aload_n 0, 1) := by decide +kernel
theorem dX4_init_17 : decode cX4_init 17 = .ok (.new 9, 3) := by decide +kernel
theorem dX4_init_20 : decode cX4_init 20 = .ok (.dup, 1) := by decide +kernel
theorem dX4_init_21 : decode cX4_init 21 = .ok (.iconst 1, 1) := by decide +kernel
theorem dX4_init_22 : decode cX4_init 22 = .ok (.invokespecial 11, 3) := by decide +kernel
theorem dX4_init_25 : decode cX4_init 25 = .ok (.putfield 20, 3) := by decide +kernel
theorem dX4_init_28 : decode cX4_init 28 = .ok (.aload_n 0, 1) := by decide +kernel
theorem dX4_init_29 : decode cX4_init 29 = .ok (.new 23, 3) := by decide +kernel
theorem dX4_init_32 : decode cX4_init 32 = .ok (.dup, 1) := by decide +kernel
theorem dX4_init_33 : decode cX4_init 33 = .ok (.aload_n 0, 1) := by decide +kernel
theorem dX4_init_34 : decode cX4_init 34 = .ok (.getfield 14, 3) := by decide +kernel
theorem dX4_init_37 : decode cX4_init 37 = .ok (.aload_n 0, 1) := by decide +kernel
theorem dX4_init_38 : decode cX4_init 38 = .ok (.getfield 20, 3) := by decide +kernel
theorem dX4_init_41 : decode cX4_init 41 = .ok (.invokespecial 25, 3) := by decide +kernel
theorem dX4_init_44 : decode cX4_init 44 = .ok (.putfield 28, 3) := by decide +kernel
theorem dX4_init_47 : decode cX4_init 47 = .ok (.aload_n 0, 1) := by decide +kernel
theorem dX4_init_48 : decode cX4_init 48 = .ok (.bipush 60, 2) := by decide +kernel
theorem dX4_init_50 : decode cX4_init 50 = .ok (.newarray .int, 2) := by decide +kernel
theorem dX4_init_52 : decode cX4_init 52 = .ok (.putfield 32, 3) := by decide +kernel
theorem dX4_init_55 : decode cX4_init 55 = .ok (.aload_n 0, 1) := by decide +kernel
theorem dX4_init_56 : decode cX4_init 56 = .ok (.iconst 0, 1) := by decide +kernel
theorem dX4_init_57 : decode cX4_init 57 = .ok (.putfield 36, 3) := by decide +kernel
theorem dX4_init_60 : decode cX4_init 60 = .ok (.aload_n 0, 1) := by decide +kernel
theorem dX4_init_61 : decode cX4_init 61 = .ok (.bipush 24, 2) := by decide +kernel
theorem dX4_init_63 : decode cX4_init 63 = .ok (.newarray .int, 2) := by decide +kernel
theorem dX4_init_65 : decode cX4_init 65 = .ok (.putfield 40, 3) := by decide +kernel
theorem dX4_init_68 : decode cX4_init 68 = .ok (.aload_n 0, 1) := by decide +kernel
theorem dX4_init_69 : decode cX4_init 69 = .ok (.iconst 0, 1) := by decide +kernel
theorem dX4_init_70 : decode cX4_init 70 = .ok (.putfield 43, 3) := by decide +kernel
theorem dX4_init_73 : decode cX4_init 73 = .ok (.aload_n 0, 1) := by decide +kernel
theorem dX4_init_74 : decode cX4_init 74 = .ok (.iconst 1, 1) := by decide +kernel
theorem dX4_init_75 : decode cX4_init 75 = .ok (.putfield 46, 3) := by decide +kernel
theorem dX4_init_78 : decode cX4_init 78 = .ok (.return_, 1) := by decide +kernel
theorem dX4_copies_0 : decode cX4_copies 0 = .ok (.aload_n 0, 1) := by decide +kernel
theorem dX4_copies_1 : decode cX4_copies 1 = .ok (.getfield 14, 3) := by decide +kernel
theorem dX4_copies_4 : decode cX4_copies 4 = .ok (.aload_n 1, 1) := by decide +kernel
theorem dX4_copies_5 : decode cX4_copies 5 = .ok (.getfield 14, 3) := by decide +kernel
theorem dX4_copies_8 : decode cX4_copies 8 = .ok (.invokevirtual 49, 3) := by decide +kernel
theorem dX4_copies_11 : decode cX4_copies 11 = .ok (.aload_n 0, 1) := by decide +kernel
theorem dX4_copies_12 : decode cX4_copies 12 = .ok (.getfield 20, 3) := by decide +kernel
theorem dX4_copies_15 : decode cX4_copies 15 = .ok (.aload_n 1, 1) := by decide +kernel
theorem dX4_copies_16 : decode cX4_copies 16 = .ok (.getfield 20, 3) := by decide +kernel
theorem dX4_copies_19 : decode cX4_copies 19 = .ok (.invokevirtual 49, 3) := by decide +kernel
theorem dX4_copies_22 : decode cX4_copies 22 = .ok (.aload_n 0, 1) := by decide +kernel
theorem dX4_copies_23 : decode cX4_copies 23 = .ok (.getfield 28, 3) := by decide +kernel
theorem dX4_copies_26 : decode cX4_copies 26 = .ok (.aload_n 1, 1) := by decide +kernel
theorem dX4_copies_27 : decode cX4_copies 27 = .ok (.getfield 28, 3) := by decide +kernel
theorem dX4_copies_30 : decode cX4_copies 30 = .ok (.invokevirtual 53, 3) := by decide +kernel
theorem dX4_copies_33 : decode cX4_copies 33 = .ok (.aload_n 1, 1) := by decide +kernel
theorem dX4_copies_34 : decode cX4_copies 34 = .ok (.getfield 32, 3) := by decide +kernel
theorem dX4_copies_37 : decode cX4_copies 37 = .ok (.iconst 0, 1) := by decide +kernel
theorem dX4_copies_38 : decode cX4_copies 38 = .ok (.aload_n 0, 1) := by decide +kernel
theorem dX4_copies_39 : decode cX4_copies 39 = .ok (.getfield 32, 3) := by decide +kernel
theorem dX4_copies_42 : decode cX4_copies 42 = .ok (.iconst 0, 1) := by decide +kernel
theorem dX4_copies_43 : decode cX4_copies 43 = .ok (.bipush 60, 2) := by decide +kernel
theorem dX4_copies_45 : decode cX4_copies 45 = .ok (.invokestatic 56, 3) := by decide +kernel
theorem dX4_copies_48 : decode cX4_copies 48 = .ok (.aload_n 0, 1) := by decide +kernel
theorem dX4_copies_49 : decode cX4_copies 49 = .ok (.aload_n 1, 1) := by decide +kernel
theorem dX4_copies_50 : decode cX4_copies 50 = .ok (.getfield 36, 3) := by decide +kernel
theorem dX4_copies_53 : decode cX4_copies 53 = .ok (.putfield 36, 3) := by decide +kernel
theorem dX4_copies_56 : decode cX4_copies 56 = .ok (.aload_n 1, 1) := by decide +kernel
theorem dX4_copies_57 : decode cX4_copies 57 = .ok (.getfield 40, 3) := by decide +kernel
theorem dX4_copies_60 : decode cX4_copies 60 = .ok (.iconst 0, 1) := by decide +kernel
theorem dX4_copies_61 : decode cX4_copies 61 = .ok (.aload_n 0, 1) := by decide +kernel
theorem dX4_copies_62 : decode cX4_copies 62 = .ok (.getfield 40, 3) := by decide +kernel
theorem dX4_copies_65 : decode cX4_copies 65 = .ok (.iconst 0, 1) := by decide +kernel
theorem dX4_copies_66 : decode cX4_copies 66 = .ok (.bipush 24, 2) := by decide +kernel
theorem dX4_copies_68 : decode cX4_copies 68 = .ok (.invokestatic 56, 3) := by decide +kernel
theorem dX4_copies_71 : decode cX4_copies 71 = .ok (.aload_n 0, 1) := by decide +kernel
theorem dX4_copies_72 : decode cX4_copies 72 = .ok (.aload_n 1, 1) := by decide +kernel
theorem dX4_copies_73 : decode cX4_copies 73 = .ok (.getfield 43, 3) := by decide +kernel
theorem dX4_copies_76 : decode cX4_copies 76 = .ok (.putfield 43, 3) := by decide +kernel
theorem dX4_copies_79 : decode cX4_copies 79 = .ok (.aload_n 0, 1) := by decide +kernel
theorem dX4_copies_80 : decode cX4_copies 80 = .ok (.aload_n 1, 1) := by decide +kernel
theorem dX4_copies_81 : decode cX4_copies 81 = .ok (.getfield 46, 3) := by decide +kernel
theorem dX4_copies_84 : decode cX4_copies 84 = .ok (.putfield 46, 3) := by decide +kernel
theorem dX4_copies_87 : decode cX4_copies 87 = .ok (.return_, 1) := by decide +kernel
theorem dX4_lawOf_0 : decode cX4_lawOf 0 = .ok (.iload_n 1, 1) := by decide +kernel
theorem dX4_lawOf_1 : decode cX4_lawOf 1 = .ok (.ifCond .ne 10, 3) := by decide +kernel
theorem dX4_lawOf_4 : decode cX4_lawOf 4 = .ok (.aload_n 0, 1) := by decide +kernel
theorem dX4_lawOf_5 : decode cX4_lawOf 5 = .ok (.getfield 14, 3) := by decide +kernel
theorem dX4_lawOf_8 : decode cX4_lawOf 8 = .ok (.goto 7, 3) := by decide +kernel
theorem dX4_lawOf_11 : decode cX4_lawOf 11 = .ok (.aload_n 0, 1) := by decide +kernel
theorem dX4_lawOf_12 : decode cX4_lawOf 12 = .ok (.getfield 20, 3) := by decide +kernel
theorem dX4_lawOf_15 : decode cX4_lawOf 15 = .ok (.areturn, 1) := by decide +kernel
theorem dX4_takesBytes_0 : decode cX4_takesBytes 0 = .ok (.iconst 0, 1) := by decide +kernel
theorem dX4_takesBytes_1 : decode cX4_takesBytes 1 = .ok (.istore 4, 2) := by decide +kernel
theorem dX4_takesBytes_3 : decode cX4_takesBytes 3 = .ok (.iload 4, 2) := by decide +kernel
theorem dX4_takesBytes_5 : decode cX4_takesBytes 5 = .ok (.iload_n 3, 1) := by decide +kernel
theorem dX4_takesBytes_6 : decode cX4_takesBytes 6 = .ok (.if_icmp .ge 49, 3) := by decide +kernel
theorem dX4_takesBytes_9 : decode cX4_takesBytes 9 = .ok (.aload_n 0, 1) := by decide +kernel
theorem dX4_takesBytes_10 : decode cX4_takesBytes 10 = .ok (.getfield 36, 3) := by decide +kernel
theorem dX4_takesBytes_13 : decode cX4_takesBytes 13 = .ok (.bipush 60, 2) := by decide +kernel
theorem dX4_takesBytes_15 : decode cX4_takesBytes 15 = .ok (.if_icmp .ge 40, 3) := by decide +kernel
theorem dX4_takesBytes_18 : decode cX4_takesBytes 18 = .ok (.aload_n 0, 1) := by decide +kernel
theorem dX4_takesBytes_19 : decode cX4_takesBytes 19 = .ok (.getfield 32, 3) := by decide +kernel
theorem dX4_takesBytes_22 : decode cX4_takesBytes 22 = .ok (.aload_n 0, 1) := by decide +kernel
theorem dX4_takesBytes_23 : decode cX4_takesBytes 23 = .ok (.getfield 36, 3) := by decide +kernel
theorem dX4_takesBytes_26 : decode cX4_takesBytes 26 = .ok (.lload_n 1, 1) := by decide +kernel
theorem dX4_takesBytes_27 : decode cX4_takesBytes 27 = .ok (.bipush 8, 2) := by decide +kernel
theorem dX4_takesBytes_29 : decode cX4_takesBytes 29 = .ok (.iload 4, 2) := by decide +kernel
theorem dX4_takesBytes_31 : decode cX4_takesBytes 31 = .ok (.imul, 1) := by decide +kernel
theorem dX4_takesBytes_32 : decode cX4_takesBytes 32 = .ok (.lushr, 1) := by decide +kernel
theorem dX4_takesBytes_33 : decode cX4_takesBytes 33 = .ok (.l2i, 1) := by decide +kernel
theorem dX4_takesBytes_34 : decode cX4_takesBytes 34 = .ok (.sipush 255, 3) := by decide +kernel
theorem dX4_takesBytes_37 : decode cX4_takesBytes 37 = .ok (.iand, 1) := by decide +kernel
theorem dX4_takesBytes_38 : decode cX4_takesBytes 38 = .ok (.iastore, 1) := by decide +kernel
theorem dX4_takesBytes_39 : decode cX4_takesBytes 39 = .ok (.aload_n 0, 1) := by decide +kernel
theorem dX4_takesBytes_40 : decode cX4_takesBytes 40 = .ok (.dup, 1) := by decide +kernel
theorem dX4_takesBytes_41 : decode cX4_takesBytes 41 = .ok (.getfield 36, 3) := by decide +kernel
theorem dX4_takesBytes_44 : decode cX4_takesBytes 44 = .ok (.iconst 1, 1) := by decide +kernel
theorem dX4_takesBytes_45 : decode cX4_takesBytes 45 = .ok (.iadd, 1) := by decide +kernel
theorem dX4_takesBytes_46 : decode cX4_takesBytes 46 = .ok (.putfield 36, 3) := by decide +kernel
theorem dX4_takesBytes_49 : decode cX4_takesBytes 49 = .ok (.iinc 4 1, 3) := by decide +kernel
theorem dX4_takesBytes_52 : decode cX4_takesBytes 52 = .ok (.goto (-49), 3) := by decide +kernel
theorem dX4_takesBytes_55 : decode cX4_takesBytes 55 = .ok (.return_, 1) := by decide +kernel
theorem dX4_draws_0 : decode cX4_draws 0 = .ok (.aload_n 0, 1) := by decide +kernel
theorem dX4_draws_1 : decode cX4_draws 1 = .ok (.aload_n 0, 1) := by decide +kernel
theorem dX4_draws_2 : decode cX4_draws 2 = .ok (.getfield 46, 3) := by decide +kernel
theorem dX4_draws_5 : decode cX4_draws 5 = .ok (.ldc 62, 2) := by decide +kernel
theorem dX4_draws_7 : decode cX4_draws 7 = .ok (.imul, 1) := by decide +kernel
theorem dX4_draws_8 : decode cX4_draws 8 = .ok (.sipush 12345, 3) := by decide +kernel
theorem dX4_draws_11 : decode cX4_draws 11 = .ok (.iadd, 1) := by decide +kernel
theorem dX4_draws_12 : decode cX4_draws 12 = .ok (.putfield 46, 3) := by decide +kernel
theorem dX4_draws_15 : decode cX4_draws 15 = .ok (.aload_n 0, 1) := by decide +kernel
theorem dX4_draws_16 : decode cX4_draws 16 = .ok (.getfield 46, 3) := by decide +kernel
theorem dX4_draws_19 : decode cX4_draws 19 = .ok (.bipush 8, 2) := by decide +kernel
theorem dX4_draws_21 : decode cX4_draws 21 = .ok (.iushr, 1) := by decide +kernel
theorem dX4_draws_22 : decode cX4_draws 22 = .ok (.ireturn, 1) := by decide +kernel
theorem dX4_drawsAnHour_0 : decode cX4_drawsAnHour 0 = .ok (.aload_n 0, 1) := by decide +kernel
theorem dX4_drawsAnHour_1 : decode cX4_drawsAnHour 1 = .ok (.getfield 28, 3) := by decide +kernel
theorem dX4_drawsAnHour_4 : decode cX4_drawsAnHour 4 = .ok (.getfield 63, 3) := by decide +kernel
theorem dX4_drawsAnHour_7 : decode cX4_drawsAnHour 7 = .ok (.ifCond .le 56, 3) := by decide +kernel
theorem dX4_drawsAnHour_10 : decode cX4_drawsAnHour 10 = .ok (.aload_n 0, 1) := by decide +kernel
theorem dX4_drawsAnHour_11 : decode cX4_drawsAnHour 11 = .ok (.invokevirtual 66, 3) := by decide +kernel
theorem dX4_drawsAnHour_14 : decode cX4_drawsAnHour 14 = .ok (.aload_n 0, 1) := by decide +kernel
theorem dX4_drawsAnHour_15 : decode cX4_drawsAnHour 15 = .ok (.getfield 28, 3) := by decide +kernel
theorem dX4_drawsAnHour_18 : decode cX4_drawsAnHour 18 = .ok (.getfield 63, 3) := by decide +kernel
theorem dX4_drawsAnHour_21 : decode cX4_drawsAnHour 21 = .ok (.irem, 1) := by decide +kernel
theorem dX4_drawsAnHour_22 : decode cX4_drawsAnHour 22 = .ok (.istore_n 1, 1) := by decide +kernel
theorem dX4_drawsAnHour_23 : decode cX4_drawsAnHour 23 = .ok (.aload_n 0, 1) := by decide +kernel
theorem dX4_drawsAnHour_24 : decode cX4_drawsAnHour 24 = .ok (.invokevirtual 66, 3) := by decide +kernel
theorem dX4_drawsAnHour_27 : decode cX4_drawsAnHour 27 = .ok (.bipush 21, 2) := by decide +kernel
theorem dX4_drawsAnHour_29 : decode cX4_drawsAnHour 29 = .ok (.irem, 1) := by decide +kernel
theorem dX4_drawsAnHour_30 : decode cX4_drawsAnHour 30 = .ok (.bipush 10, 2) := by decide +kernel
theorem dX4_drawsAnHour_32 : decode cX4_drawsAnHour 32 = .ok (.isub, 1) := by decide +kernel
theorem dX4_drawsAnHour_33 : decode cX4_drawsAnHour 33 = .ok (.istore_n 2, 1) := by decide +kernel
theorem dX4_drawsAnHour_34 : decode cX4_drawsAnHour 34 = .ok (.aload_n 0, 1) := by decide +kernel
theorem dX4_drawsAnHour_35 : decode cX4_drawsAnHour 35 = .ok (.getfield 28, 3) := by decide +kernel
theorem dX4_drawsAnHour_38 : decode cX4_drawsAnHour 38 = .ok (.getfield 70, 3) := by decide +kernel
theorem dX4_drawsAnHour_41 : decode cX4_drawsAnHour 41 = .ok (.iload_n 1, 1) := by decide +kernel
theorem dX4_drawsAnHour_42 : decode cX4_drawsAnHour 42 = .ok (.iconst 0, 1) := by decide +kernel
theorem dX4_drawsAnHour_43 : decode cX4_drawsAnHour 43 = .ok (.bipush 99, 2) := by decide +kernel
theorem dX4_drawsAnHour_45 : decode cX4_drawsAnHour 45 = .ok (.aload_n 0, 1) := by decide +kernel
theorem dX4_drawsAnHour_46 : decode cX4_drawsAnHour 46 = .ok (.getfield 28, 3) := by decide +kernel
theorem dX4_drawsAnHour_49 : decode cX4_drawsAnHour 49 = .ok (.getfield 70, 3) := by decide +kernel
theorem dX4_drawsAnHour_52 : decode cX4_drawsAnHour 52 = .ok (.iload_n 1, 1) := by decide +kernel
theorem dX4_drawsAnHour_53 : decode cX4_drawsAnHour 53 = .ok (.iaload, 1) := by decide +kernel
theorem dX4_drawsAnHour_54 : decode cX4_drawsAnHour 54 = .ok (.iload_n 2, 1) := by decide +kernel
theorem dX4_drawsAnHour_55 : decode cX4_drawsAnHour 55 = .ok (.iadd, 1) := by decide +kernel
theorem dX4_drawsAnHour_56 : decode cX4_drawsAnHour 56 = .ok (.invokestatic 73, 3) := by decide +kernel
theorem dX4_drawsAnHour_59 : decode cX4_drawsAnHour 59 = .ok (.invokestatic 79, 3) := by decide +kernel
theorem dX4_drawsAnHour_62 : decode cX4_drawsAnHour 62 = .ok (.iastore, 1) := by decide +kernel
theorem dX4_drawsAnHour_63 : decode cX4_drawsAnHour 63 = .ok (.iconst 1, 1) := by decide +kernel
theorem dX4_drawsAnHour_64 : decode cX4_drawsAnHour 64 = .ok (.aload_n 0, 1) := by decide +kernel
theorem dX4_drawsAnHour_65 : decode cX4_drawsAnHour 65 = .ok (.invokevirtual 66, 3) := by decide +kernel
theorem dX4_drawsAnHour_68 : decode cX4_drawsAnHour 68 = .ok (.bipush 14, 2) := by decide +kernel
theorem dX4_drawsAnHour_70 : decode cX4_drawsAnHour 70 = .ok (.irem, 1) := by decide +kernel
theorem dX4_drawsAnHour_71 : decode cX4_drawsAnHour 71 = .ok (.iadd, 1) := by decide +kernel
theorem dX4_drawsAnHour_72 : decode cX4_drawsAnHour 72 = .ok (.istore_n 1, 1) := by decide +kernel
theorem dX4_drawsAnHour_73 : decode cX4_drawsAnHour 73 = .ok (.aload_n 0, 1) := by decide +kernel
theorem dX4_drawsAnHour_74 : decode cX4_drawsAnHour 74 = .ok (.invokevirtual 66, 3) := by decide +kernel
theorem dX4_drawsAnHour_77 : decode cX4_drawsAnHour 77 = .ok (.bipush 8, 2) := by decide +kernel
theorem dX4_drawsAnHour_79 : decode cX4_drawsAnHour 79 = .ok (.irem, 1) := by decide +kernel
theorem dX4_drawsAnHour_80 : decode cX4_drawsAnHour 80 = .ok (.ifCond .ne 18, 3) := by decide +kernel
theorem dX4_drawsAnHour_83 : decode cX4_drawsAnHour 83 = .ok (.aload_n 0, 1) := by decide +kernel
theorem dX4_drawsAnHour_84 : decode cX4_drawsAnHour 84 = .ok (.getfield 28, 3) := by decide +kernel
theorem dX4_drawsAnHour_87 : decode cX4_drawsAnHour 87 = .ok (.dup, 1) := by decide +kernel
theorem dX4_drawsAnHour_88 : decode cX4_drawsAnHour 88 = .ok (.getfield 82, 3) := by decide +kernel
theorem dX4_drawsAnHour_91 : decode cX4_drawsAnHour 91 = .ok (.iconst 1, 1) := by decide +kernel
theorem dX4_drawsAnHour_92 : decode cX4_drawsAnHour 92 = .ok (.iload_n 1, 1) := by decide +kernel
theorem dX4_drawsAnHour_93 : decode cX4_drawsAnHour 93 = .ok (.ishl, 1) := by decide +kernel
theorem dX4_drawsAnHour_94 : decode cX4_drawsAnHour 94 = .ok (.ixor, 1) := by decide +kernel
theorem dX4_drawsAnHour_95 : decode cX4_drawsAnHour 95 = .ok (.putfield 82, 3) := by decide +kernel
theorem dX4_drawsAnHour_98 : decode cX4_drawsAnHour 98 = .ok (.aload_n 0, 1) := by decide +kernel
theorem dX4_drawsAnHour_99 : decode cX4_drawsAnHour 99 = .ok (.getfield 28, 3) := by decide +kernel
theorem dX4_drawsAnHour_102 : decode cX4_drawsAnHour 102 = .ok (.iconst (-1), 1) := by decide +kernel
theorem dX4_drawsAnHour_103 : decode cX4_drawsAnHour 103 = .ok (.invokevirtual 85, 3) := by decide +kernel
theorem dX4_drawsAnHour_106 : decode cX4_drawsAnHour 106 = .ok (.return_, 1) := by decide +kernel
theorem dX5_init_0 : decode cX5_init 0 = .ok (.aload_n 0, 1) := by decide +kernel
theorem dX5_init_1 : decode cX5_init 1 = .ok (.invokespecial 3, 3) := by decide +kernel
theorem dX5_init_4 : decode cX5_init 4 = .ok (.aload_n 0, 1) := by decide +kernel
theorem dX5_init_5 : decode cX5_init 5 = .ok (.aload_n 1, 1) := by decide +kernel
theorem dX5_init_6 : decode cX5_init 6 = .ok (.putfield 9, 3) := by decide +kernel
theorem dX5_init_9 : decode cX5_init 9 = .ok (.aload_n 0, 1) := by decide +kernel
theorem dX5_init_10 : decode cX5_init 10 = .ok (.new 15, 3) := by decide +kernel
theorem dX5_init_13 : decode cX5_init 13 = .ok (.dup, 1) := by decide +kernel
theorem dX5_init_14 : decode cX5_init 14 = .ok (.aload_n 1, 1) := by decide +kernel
theorem dX5_init_15 : decode cX5_init 15 = .ok (.getfield 17, 3) := by decide +kernel
theorem dX5_init_18 : decode cX5_init 18 = .ok (.aload_n 1, 1) := by decide +kernel
theorem dX5_init_19 : decode cX5_init 19 = .ok (.getfield 21, 3) := by decide +kernel
theorem dX5_init_22 : decode cX5_init 22 = .ok (.invokespecial 24, 3) := by decide +kernel
theorem dX5_init_25 : decode cX5_init 25 = .ok (.putfield 27, 3) := by decide +kernel
theorem dX5_init_28 : decode cX5_init 28 = .ok (.return_, 1) := by decide +kernel
theorem dX5_starts_0 : decode cX5_starts 0 = .ok (.aload_n 0, 1) := by decide +kernel
theorem dX5_starts_1 : decode cX5_starts 1 = .ok (.getfield 27, 3) := by decide +kernel
theorem dX5_starts_4 : decode cX5_starts 4 = .ok (.aload_n 0, 1) := by decide +kernel
theorem dX5_starts_5 : decode cX5_starts 5 = .ok (.getfield 9, 3) := by decide +kernel
theorem dX5_starts_8 : decode cX5_starts 8 = .ok (.invokevirtual 30, 3) := by decide +kernel
theorem dX5_starts_11 : decode cX5_starts 11 = .ok (.return_, 1) := by decide +kernel
theorem dX5_goesOn_0 : decode cX5_goesOn 0 = .ok (.iconst 0, 1) := by decide +kernel
theorem dX5_goesOn_1 : decode cX5_goesOn 1 = .ok (.istore_n 3, 1) := by decide +kernel
theorem dX5_goesOn_2 : decode cX5_goesOn 2 = .ok (.iload_n 3, 1) := by decide +kernel
theorem dX5_goesOn_3 : decode cX5_goesOn 3 = .ok (.iload_n 2, 1) := by decide +kernel
theorem dX5_goesOn_4 : decode cX5_goesOn 4 = .ok (.if_icmp .ge 17, 3) := by decide +kernel
theorem dX5_goesOn_7 : decode cX5_goesOn 7 = .ok (.aload_n 0, 1) := by decide +kernel
theorem dX5_goesOn_8 : decode cX5_goesOn 8 = .ok (.getfield 27, 3) := by decide +kernel
theorem dX5_goesOn_11 : decode cX5_goesOn 11 = .ok (.iload_n 1, 1) := by decide +kernel
theorem dX5_goesOn_12 : decode cX5_goesOn 12 = .ok (.invokevirtual 34, 3) := by decide +kernel
theorem dX5_goesOn_15 : decode cX5_goesOn 15 = .ok (.iinc 3 1, 3) := by decide +kernel
theorem dX5_goesOn_18 : decode cX5_goesOn 18 = .ok (.goto (-16), 3) := by decide +kernel
theorem dX5_goesOn_21 : decode cX5_goesOn 21 = .ok (.return_, 1) := by decide +kernel
theorem dX5_hoursTo_0 : decode cX5_hoursTo 0 = .ok (.iconst 0, 1) := by decide +kernel
theorem dX5_hoursTo_1 : decode cX5_hoursTo 1 = .ok (.istore 4, 2) := by decide +kernel
theorem dX5_hoursTo_3 : decode cX5_hoursTo 3 = .ok (.iload 4, 2) := by decide +kernel
theorem dX5_hoursTo_5 : decode cX5_hoursTo 5 = .ok (.iload_n 3, 1) := by decide +kernel
theorem dX5_hoursTo_6 : decode cX5_hoursTo 6 = .ok (.if_icmp .gt 45, 3) := by decide +kernel
theorem dX5_hoursTo_9 : decode cX5_hoursTo 9 = .ok (.aload_n 0, 1) := by decide +kernel
theorem dX5_hoursTo_10 : decode cX5_hoursTo 10 = .ok (.getfield 27, 3) := by decide +kernel
theorem dX5_hoursTo_13 : decode cX5_hoursTo 13 = .ok (.getfield 38, 3) := by decide +kernel
theorem dX5_hoursTo_16 : decode cX5_hoursTo 16 = .ok (.iload_n 1, 1) := by decide +kernel
theorem dX5_hoursTo_17 : decode cX5_hoursTo 17 = .ok (.baload, 1) := by decide +kernel
theorem dX5_hoursTo_18 : decode cX5_hoursTo 18 = .ok (.ifCond .ne 33, 3) := by decide +kernel
theorem dX5_hoursTo_21 : decode cX5_hoursTo 21 = .ok (.aload_n 0, 1) := by decide +kernel
theorem dX5_hoursTo_22 : decode cX5_hoursTo 22 = .ok (.getfield 27, 3) := by decide +kernel
theorem dX5_hoursTo_25 : decode cX5_hoursTo 25 = .ok (.getfield 42, 3) := by decide +kernel
theorem dX5_hoursTo_28 : decode cX5_hoursTo 28 = .ok (.iload_n 1, 1) := by decide +kernel
theorem dX5_hoursTo_29 : decode cX5_hoursTo 29 = .ok (.iaload, 1) := by decide +kernel
theorem dX5_hoursTo_30 : decode cX5_hoursTo 30 = .ok (.iload_n 2, 1) := by decide +kernel
theorem dX5_hoursTo_31 : decode cX5_hoursTo 31 = .ok (.if_icmp .lt 6, 3) := by decide +kernel
theorem dX5_hoursTo_34 : decode cX5_hoursTo 34 = .ok (.iload 4, 2) := by decide +kernel
theorem dX5_hoursTo_36 : decode cX5_hoursTo 36 = .ok (.ireturn, 1) := by decide +kernel
theorem dX5_hoursTo_37 : decode cX5_hoursTo 37 = .ok (.aload_n 0, 1) := by decide +kernel
theorem dX5_hoursTo_38 : decode cX5_hoursTo 38 = .ok (.getfield 27, 3) := by decide +kernel
theorem dX5_hoursTo_41 : decode cX5_hoursTo 41 = .ok (.iload_n 1, 1) := by decide +kernel
theorem dX5_hoursTo_42 : decode cX5_hoursTo 42 = .ok (.invokevirtual 34, 3) := by decide +kernel
theorem dX5_hoursTo_45 : decode cX5_hoursTo 45 = .ok (.iinc 4 1, 3) := by decide +kernel
theorem dX5_hoursTo_48 : decode cX5_hoursTo 48 = .ok (.goto (-45), 3) := by decide +kernel
theorem dX5_hoursTo_51 : decode cX5_hoursTo 51 = .ok (.iconst (-1), 1) := by decide +kernel
theorem dX5_hoursTo_52 : decode cX5_hoursTo 52 = .ok (.ireturn, 1) := by decide +kernel
theorem dX5_comesWith_0 : decode cX5_comesWith 0 = .ok (.aload_n 0, 1) := by decide +kernel
theorem dX5_comesWith_1 : decode cX5_comesWith 1 = .ok (.invokevirtual 46, 3) := by decide +kernel
theorem dX5_comesWith_4 : decode cX5_comesWith 4 = .ok (.aload_n 0, 1) := by decide +kernel
theorem dX5_comesWith_5 : decode cX5_comesWith 5 = .ok (.getfield 27, 3) := by decide +kernel
theorem dX5_comesWith_8 : decode cX5_comesWith 8 = .ok (.getfield 49, 3) := by decide +kernel
theorem dX5_comesWith_11 : decode cX5_comesWith 11 = .ok (.iload_n 1, 1) := by decide +kernel
theorem dX5_comesWith_12 : decode cX5_comesWith 12 = .ok (.iload_n 2, 1) := by decide +kernel
theorem dX5_comesWith_13 : decode cX5_comesWith 13 = .ok (.iastore, 1) := by decide +kernel
theorem dX5_comesWith_14 : decode cX5_comesWith 14 = .ok (.aload_n 0, 1) := by decide +kernel
theorem dX5_comesWith_15 : decode cX5_comesWith 15 = .ok (.iload_n 1, 1) := by decide +kernel
theorem dX5_comesWith_16 : decode cX5_comesWith 16 = .ok (.iload_n 3, 1) := by decide +kernel
theorem dX5_comesWith_17 : decode cX5_comesWith 17 = .ok (.iload 4, 2) := by decide +kernel
theorem dX5_comesWith_19 : decode cX5_comesWith 19 = .ok (.invokevirtual 52, 3) := by decide +kernel
theorem dX5_comesWith_22 : decode cX5_comesWith 22 = .ok (.ifCond .lt 7, 3) := by decide +kernel
theorem dX5_comesWith_25 : decode cX5_comesWith 25 = .ok (.iconst 1, 1) := by decide +kernel
theorem dX5_comesWith_26 : decode cX5_comesWith 26 = .ok (.goto 4, 3) := by decide +kernel
theorem dX5_comesWith_29 : decode cX5_comesWith 29 = .ok (.iconst 0, 1) := by decide +kernel
theorem dX5_comesWith_30 : decode cX5_comesWith 30 = .ok (.ireturn, 1) := by decide +kernel
theorem dX5_comesWithout_0 : decode cX5_comesWithout 0 = .ok (.aload_n 0, 1) := by decide +kernel
theorem dX5_comesWithout_1 : decode cX5_comesWithout 1 = .ok (.invokevirtual 46, 3) := by decide +kernel
theorem dX5_comesWithout_4 : decode cX5_comesWithout 4 = .ok (.aload_n 0, 1) := by decide +kernel
theorem dX5_comesWithout_5 : decode cX5_comesWithout 5 = .ok (.getfield 27, 3) := by decide +kernel
theorem dX5_comesWithout_8 : decode cX5_comesWithout 8 = .ok (.dup, 1) := by decide +kernel
theorem dX5_comesWithout_9 : decode cX5_comesWithout 9 = .ok (.getfield 56, 3) := by decide +kernel
theorem dX5_comesWithout_12 : decode cX5_comesWithout 12 = .ok (.iload_n 1, 1) := by decide +kernel
theorem dX5_comesWithout_13 : decode cX5_comesWithout 13 = .ok (.iconst (-1), 1) := by decide +kernel
theorem dX5_comesWithout_14 : decode cX5_comesWithout 14 = .ok (.ixor, 1) := by decide +kernel
theorem dX5_comesWithout_15 : decode cX5_comesWithout 15 = .ok (.iand, 1) := by decide +kernel
theorem dX5_comesWithout_16 : decode cX5_comesWithout 16 = .ok (.putfield 56, 3) := by decide +kernel
theorem dX5_comesWithout_19 : decode cX5_comesWithout 19 = .ok (.aload_n 0, 1) := by decide +kernel
theorem dX5_comesWithout_20 : decode cX5_comesWithout 20 = .ok (.iload_n 2, 1) := by decide +kernel
theorem dX5_comesWithout_21 : decode cX5_comesWithout 21 = .ok (.iload_n 3, 1) := by decide +kernel
theorem dX5_comesWithout_22 : decode cX5_comesWithout 22 = .ok (.iload 4, 2) := by decide +kernel
theorem dX5_comesWithout_24 : decode cX5_comesWithout 24 = .ok (.invokevirtual 52, 3) := by decide +kernel
theorem dX5_comesWithout_27 : decode cX5_comesWithout 27 = .ok (.ifCond .lt 7, 3) := by decide +kernel
theorem dX5_comesWithout_30 : decode cX5_comesWithout 30 = .ok (.iconst 1, 1) := by decide +kernel
theorem dX5_comesWithout_31 : decode cX5_comesWithout 31 = .ok (.goto 4, 3) := by decide +kernel
theorem dX5_comesWithout_34 : decode cX5_comesWithout 34 = .ok (.iconst 0, 1) := by decide +kernel
theorem dX5_comesWithout_35 : decode cX5_comesWithout 35 = .ok (.ireturn, 1) := by decide +kernel
theorem dX5_leastFilled_0 : decode cX5_leastFilled 0 = .ok (.aload_n 0, 1) := by decide +kernel
theorem dX5_leastFilled_1 : decode cX5_leastFilled 1 = .ok (.iconst 0, 1) := by decide +kernel
theorem dX5_leastFilled_2 : decode cX5_leastFilled 2 = .ok (.iload_n 1, 1) := by decide +kernel
theorem dX5_leastFilled_3 : decode cX5_leastFilled 3 = .ok (.iload_n 2, 1) := by decide +kernel
theorem dX5_leastFilled_4 : decode cX5_leastFilled 4 = .ok (.iload_n 3, 1) := by decide +kernel
theorem dX5_leastFilled_5 : decode cX5_leastFilled 5 = .ok (.invokevirtual 60, 3) := by decide +kernel
theorem dX5_leastFilled_8 : decode cX5_leastFilled 8 = .ok (.ifCond .eq 5, 3) := by decide +kernel
theorem dX5_leastFilled_11 : decode cX5_leastFilled 11 = .ok (.iconst 0, 1) := by decide +kernel
theorem dX5_leastFilled_12 : decode cX5_leastFilled 12 = .ok (.ireturn, 1) := by decide +kernel
theorem dX5_leastFilled_13 : decode cX5_leastFilled 13 = .ok (.iconst 1, 1) := by decide +kernel
theorem dX5_leastFilled_14 : decode cX5_leastFilled 14 = .ok (.istore 4, 2) := by decide +kernel
theorem dX5_leastFilled_16 : decode cX5_leastFilled 16 = .ok (.iload 4, 2) := by decide +kernel
theorem dX5_leastFilled_18 : decode cX5_leastFilled 18 = .ok (.bipush 15, 2) := by decide +kernel
theorem dX5_leastFilled_20 : decode cX5_leastFilled 20 = .ok (.if_icmp .ge 37, 3) := by decide +kernel
theorem dX5_leastFilled_23 : decode cX5_leastFilled 23 = .ok (.aload_n 0, 1) := by decide +kernel
theorem dX5_leastFilled_24 : decode cX5_leastFilled 24 = .ok (.iload 4, 2) := by decide +kernel
theorem dX5_leastFilled_26 : decode cX5_leastFilled 26 = .ok (.invokevirtual 64, 3) := by decide +kernel
theorem dX5_leastFilled_29 : decode cX5_leastFilled 29 = .ok (.ifCond .eq 22, 3) := by decide +kernel
theorem dX5_leastFilled_32 : decode cX5_leastFilled 32 = .ok (.aload_n 0, 1) := by decide +kernel
theorem dX5_leastFilled_33 : decode cX5_leastFilled 33 = .ok (.iconst 1, 1) := by decide +kernel
theorem dX5_leastFilled_34 : decode cX5_leastFilled 34 = .ok (.iload 4, 2) := by decide +kernel
theorem dX5_leastFilled_36 : decode cX5_leastFilled 36 = .ok (.ishl, 1) := by decide +kernel
theorem dX5_leastFilled_37 : decode cX5_leastFilled 37 = .ok (.iload_n 1, 1) := by decide +kernel
theorem dX5_leastFilled_38 : decode cX5_leastFilled 38 = .ok (.iload_n 2, 1) := by decide +kernel
theorem dX5_leastFilled_39 : decode cX5_leastFilled 39 = .ok (.iload_n 3, 1) := by decide +kernel
theorem dX5_leastFilled_40 : decode cX5_leastFilled 40 = .ok (.invokevirtual 60, 3) := by decide +kernel
theorem dX5_leastFilled_43 : decode cX5_leastFilled 43 = .ok (.ifCond .eq 8, 3) := by decide +kernel
theorem dX5_leastFilled_46 : decode cX5_leastFilled 46 = .ok (.iconst 1, 1) := by decide +kernel
theorem dX5_leastFilled_47 : decode cX5_leastFilled 47 = .ok (.iload 4, 2) := by decide +kernel
theorem dX5_leastFilled_49 : decode cX5_leastFilled 49 = .ok (.ishl, 1) := by decide +kernel
theorem dX5_leastFilled_50 : decode cX5_leastFilled 50 = .ok (.ireturn, 1) := by decide +kernel
theorem dX5_leastFilled_51 : decode cX5_leastFilled 51 = .ok (.iinc 4 1, 3) := by decide +kernel
theorem dX5_leastFilled_54 : decode cX5_leastFilled 54 = .ok (.goto (-38), 3) := by decide +kernel
theorem dX5_leastFilled_57 : decode cX5_leastFilled 57 = .ok (.iconst 2, 1) := by decide +kernel
theorem dX5_leastFilled_58 : decode cX5_leastFilled 58 = .ok (.istore 4, 2) := by decide +kernel
theorem dX5_leastFilled_60 : decode cX5_leastFilled 60 = .ok (.iload 4, 2) := by decide +kernel
theorem dX5_leastFilled_62 : decode cX5_leastFilled 62 = .ok (.bipush 15, 2) := by decide +kernel
theorem dX5_leastFilled_64 : decode cX5_leastFilled 64 = .ok (.if_icmp .ge 69, 3) := by decide +kernel
theorem dX5_leastFilled_67 : decode cX5_leastFilled 67 = .ok (.iconst 1, 1) := by decide +kernel
theorem dX5_leastFilled_68 : decode cX5_leastFilled 68 = .ok (.istore 5, 2) := by decide +kernel
theorem dX5_leastFilled_70 : decode cX5_leastFilled 70 = .ok (.iload 5, 2) := by decide +kernel
theorem dX5_leastFilled_72 : decode cX5_leastFilled 72 = .ok (.iload 4, 2) := by decide +kernel
theorem dX5_leastFilled_74 : decode cX5_leastFilled 74 = .ok (.if_icmp .ge 53, 3) := by decide +kernel
theorem dX5_leastFilled_77 : decode cX5_leastFilled 77 = .ok (.iconst 1, 1) := by decide +kernel
theorem dX5_leastFilled_78 : decode cX5_leastFilled 78 = .ok (.iload 4, 2) := by decide +kernel
theorem dX5_leastFilled_80 : decode cX5_leastFilled 80 = .ok (.ishl, 1) := by decide +kernel
theorem dX5_leastFilled_81 : decode cX5_leastFilled 81 = .ok (.iconst 1, 1) := by decide +kernel
theorem dX5_leastFilled_82 : decode cX5_leastFilled 82 = .ok (.iload 5, 2) := by decide +kernel
theorem dX5_leastFilled_84 : decode cX5_leastFilled 84 = .ok (.ishl, 1) := by decide +kernel
theorem dX5_leastFilled_85 : decode cX5_leastFilled 85 = .ok (.ior, 1) := by decide +kernel
theorem dX5_leastFilled_86 : decode cX5_leastFilled 86 = .ok (.istore 6, 2) := by decide +kernel
theorem dX5_leastFilled_88 : decode cX5_leastFilled 88 = .ok (.aload_n 0, 1) := by decide +kernel
theorem dX5_leastFilled_89 : decode cX5_leastFilled 89 = .ok (.iload 4, 2) := by decide +kernel
theorem dX5_leastFilled_91 : decode cX5_leastFilled 91 = .ok (.invokevirtual 64, 3) := by decide +kernel
theorem dX5_leastFilled_94 : decode cX5_leastFilled 94 = .ok (.ifCond .eq 27, 3) := by decide +kernel
theorem dX5_leastFilled_97 : decode cX5_leastFilled 97 = .ok (.aload_n 0, 1) := by decide +kernel
theorem dX5_leastFilled_98 : decode cX5_leastFilled 98 = .ok (.iload 5, 2) := by decide +kernel
theorem dX5_leastFilled_100 : decode cX5_leastFilled 100 = .ok (.invokevirtual 64, 3) := by decide +kernel
theorem dX5_leastFilled_103 : decode cX5_leastFilled 103 = .ok (.ifCond .eq 18, 3) := by decide +kernel
theorem dX5_leastFilled_106 : decode cX5_leastFilled 106 = .ok (.aload_n 0, 1) := by decide +kernel
theorem dX5_leastFilled_107 : decode cX5_leastFilled 107 = .ok (.iload 6, 2) := by decide +kernel
theorem dX5_leastFilled_109 : decode cX5_leastFilled 109 = .ok (.iload_n 1, 1) := by decide +kernel
theorem dX5_leastFilled_110 : decode cX5_leastFilled 110 = .ok (.iload_n 2, 1) := by decide +kernel
theorem dX5_leastFilled_111 : decode cX5_leastFilled 111 = .ok (.iload_n 3, 1) := by decide +kernel
theorem dX5_leastFilled_112 : decode cX5_leastFilled 112 = .ok (.invokevirtual 60, 3) := by decide +kernel
theorem dX5_leastFilled_115 : decode cX5_leastFilled 115 = .ok (.ifCond .eq 6, 3) := by decide +kernel
theorem dX5_leastFilled_118 : decode cX5_leastFilled 118 = .ok (.iload 6, 2) := by decide +kernel
theorem dX5_leastFilled_120 : decode cX5_leastFilled 120 = .ok (.ireturn, 1) := by decide +kernel
theorem dX5_leastFilled_121 : decode cX5_leastFilled 121 = .ok (.iinc 5 1, 3) := by decide +kernel
theorem dX5_leastFilled_124 : decode cX5_leastFilled 124 = .ok (.goto (-54), 3) := by decide +kernel
theorem dX5_leastFilled_127 : decode cX5_leastFilled 127 = .ok (.iinc 4 1, 3) := by decide +kernel
theorem dX5_leastFilled_130 : decode cX5_leastFilled 130 = .ok (.goto (-70), 3) := by decide +kernel
theorem dX5_leastFilled_133 : decode cX5_leastFilled 133 = .ok (.iconst (-1), 1) := by decide +kernel
theorem dX5_leastFilled_134 : decode cX5_leastFilled 134 = .ok (.ireturn, 1) := by decide +kernel
theorem dX5_isDrop_0 : decode cX5_isDrop 0 = .ok (.aload_n 0, 1) := by decide +kernel
theorem dX5_isDrop_1 : decode cX5_isDrop 1 = .ok (.getfield 9, 3) := by decide +kernel
theorem dX5_isDrop_4 : decode cX5_isDrop 4 = .ok (.getfield 56, 3) := by decide +kernel
theorem dX5_isDrop_7 : decode cX5_isDrop 7 = .ok (.iload_n 1, 1) := by decide +kernel
theorem dX5_isDrop_8 : decode cX5_isDrop 8 = .ok (.ishr, 1) := by decide +kernel
theorem dX5_isDrop_9 : decode cX5_isDrop 9 = .ok (.iconst 1, 1) := by decide +kernel
theorem dX5_isDrop_10 : decode cX5_isDrop 10 = .ok (.iand, 1) := by decide +kernel
theorem dX5_isDrop_11 : decode cX5_isDrop 11 = .ok (.ifCond .eq 7, 3) := by decide +kernel
theorem dX5_isDrop_14 : decode cX5_isDrop 14 = .ok (.iconst 1, 1) := by decide +kernel
theorem dX5_isDrop_15 : decode cX5_isDrop 15 = .ok (.goto 4, 3) := by decide +kernel
theorem dX5_isDrop_18 : decode cX5_isDrop 18 = .ok (.iconst 0, 1) := by decide +kernel
theorem dX5_isDrop_19 : decode cX5_isDrop 19 = .ok (.ireturn, 1) := by decide +kernel
theorem dX5_howFarWith_0 : decode cX5_howFarWith 0 = .ok (.aload_n 0, 1) := by decide +kernel
theorem dX5_howFarWith_1 : decode cX5_howFarWith 1 = .ok (.invokevirtual 46, 3) := by decide +kernel
theorem dX5_howFarWith_4 : decode cX5_howFarWith 4 = .ok (.aload_n 0, 1) := by decide +kernel
theorem dX5_howFarWith_5 : decode cX5_howFarWith 5 = .ok (.getfield 27, 3) := by decide +kernel
theorem dX5_howFarWith_8 : decode cX5_howFarWith 8 = .ok (.iload_n 1, 1) := by decide +kernel
theorem dX5_howFarWith_9 : decode cX5_howFarWith 9 = .ok (.aload_n 0, 1) := by decide +kernel
theorem dX5_howFarWith_10 : decode cX5_howFarWith 10 = .ok (.getfield 9, 3) := by decide +kernel
theorem dX5_howFarWith_13 : decode cX5_howFarWith 13 = .ok (.getfield 42, 3) := by decide +kernel
theorem dX5_howFarWith_16 : decode cX5_howFarWith 16 = .ok (.iload_n 2, 1) := by decide +kernel
theorem dX5_howFarWith_17 : decode cX5_howFarWith 17 = .ok (.iaload, 1) := by decide +kernel
theorem dX5_howFarWith_18 : decode cX5_howFarWith 18 = .ok (.invokevirtual 68, 3) := by decide +kernel
theorem dX5_howFarWith_21 : decode cX5_howFarWith 21 = .ok (.aload_n 0, 1) := by decide +kernel
theorem dX5_howFarWith_22 : decode cX5_howFarWith 22 = .ok (.iload_n 1, 1) := by decide +kernel
theorem dX5_howFarWith_23 : decode cX5_howFarWith 23 = .ok (.iload_n 3, 1) := by decide +kernel
theorem dX5_howFarWith_24 : decode cX5_howFarWith 24 = .ok (.invokevirtual 72, 3) := by decide +kernel
theorem dX5_howFarWith_27 : decode cX5_howFarWith 27 = .ok (.aload_n 0, 1) := by decide +kernel
theorem dX5_howFarWith_28 : decode cX5_howFarWith 28 = .ok (.getfield 27, 3) := by decide +kernel
theorem dX5_howFarWith_31 : decode cX5_howFarWith 31 = .ok (.getfield 38, 3) := by decide +kernel
theorem dX5_howFarWith_34 : decode cX5_howFarWith 34 = .ok (.iload_n 1, 1) := by decide +kernel
theorem dX5_howFarWith_35 : decode cX5_howFarWith 35 = .ok (.baload, 1) := by decide +kernel
theorem dX5_howFarWith_36 : decode cX5_howFarWith 36 = .ok (.ifCond .eq 7, 3) := by decide +kernel
theorem dX5_howFarWith_39 : decode cX5_howFarWith 39 = .ok (.iconst 0, 1) := by decide +kernel
theorem dX5_howFarWith_40 : decode cX5_howFarWith 40 = .ok (.goto 22, 3) := by decide +kernel
theorem dX5_howFarWith_43 : decode cX5_howFarWith 43 = .ok (.aload_n 0, 1) := by decide +kernel
theorem dX5_howFarWith_44 : decode cX5_howFarWith 44 = .ok (.getfield 27, 3) := by decide +kernel
theorem dX5_howFarWith_47 : decode cX5_howFarWith 47 = .ok (.getfield 42, 3) := by decide +kernel
theorem dX5_howFarWith_50 : decode cX5_howFarWith 50 = .ok (.iload_n 1, 1) := by decide +kernel
theorem dX5_howFarWith_51 : decode cX5_howFarWith 51 = .ok (.iaload, 1) := by decide +kernel
theorem dX5_howFarWith_52 : decode cX5_howFarWith 52 = .ok (.aload_n 0, 1) := by decide +kernel
theorem dX5_howFarWith_53 : decode cX5_howFarWith 53 = .ok (.getfield 9, 3) := by decide +kernel
theorem dX5_howFarWith_56 : decode cX5_howFarWith 56 = .ok (.getfield 42, 3) := by decide +kernel
theorem dX5_howFarWith_59 : decode cX5_howFarWith 59 = .ok (.iload_n 2, 1) := by decide +kernel
theorem dX5_howFarWith_60 : decode cX5_howFarWith 60 = .ok (.iaload, 1) := by decide +kernel
theorem dX5_howFarWith_61 : decode cX5_howFarWith 61 = .ok (.isub, 1) := by decide +kernel
theorem dX5_howFarWith_62 : decode cX5_howFarWith 62 = .ok (.ireturn, 1) := by decide +kernel
theorem dX5_clearsAs_0 : decode cX5_clearsAs 0 = .ok (.aload_n 0, 1) := by decide +kernel
theorem dX5_clearsAs_1 : decode cX5_clearsAs 1 = .ok (.invokevirtual 46, 3) := by decide +kernel
theorem dX5_clearsAs_4 : decode cX5_clearsAs 4 = .ok (.aload_n 0, 1) := by decide +kernel
theorem dX5_clearsAs_5 : decode cX5_clearsAs 5 = .ok (.getfield 27, 3) := by decide +kernel
theorem dX5_clearsAs_8 : decode cX5_clearsAs 8 = .ok (.getfield 49, 3) := by decide +kernel
theorem dX5_clearsAs_11 : decode cX5_clearsAs 11 = .ok (.iload_n 1, 1) := by decide +kernel
theorem dX5_clearsAs_12 : decode cX5_clearsAs 12 = .ok (.iload_n 2, 1) := by decide +kernel
theorem dX5_clearsAs_13 : decode cX5_clearsAs 13 = .ok (.iastore, 1) := by decide +kernel
theorem dX5_clearsAs_14 : decode cX5_clearsAs 14 = .ok (.iconst 0, 1) := by decide +kernel
theorem dX5_clearsAs_15 : decode cX5_clearsAs 15 = .ok (.istore 5, 2) := by decide +kernel
theorem dX5_clearsAs_17 : decode cX5_clearsAs 17 = .ok (.iload 5, 2) := by decide +kernel
theorem dX5_clearsAs_19 : decode cX5_clearsAs 19 = .ok (.iload 4, 2) := by decide +kernel
theorem dX5_clearsAs_21 : decode cX5_clearsAs 21 = .ok (.if_icmp .ge 34, 3) := by decide +kernel
theorem dX5_clearsAs_24 : decode cX5_clearsAs 24 = .ok (.aload_n 0, 1) := by decide +kernel
theorem dX5_clearsAs_25 : decode cX5_clearsAs 25 = .ok (.getfield 27, 3) := by decide +kernel
theorem dX5_clearsAs_28 : decode cX5_clearsAs 28 = .ok (.iload_n 1, 1) := by decide +kernel
theorem dX5_clearsAs_29 : decode cX5_clearsAs 29 = .ok (.invokevirtual 75, 3) := by decide +kernel
theorem dX5_clearsAs_32 : decode cX5_clearsAs 32 = .ok (.aload_n 3, 1) := by decide +kernel
theorem dX5_clearsAs_33 : decode cX5_clearsAs 33 = .ok (.iload 5, 2) := by decide +kernel
theorem dX5_clearsAs_35 : decode cX5_clearsAs 35 = .ok (.iaload, 1) := by decide +kernel
theorem dX5_clearsAs_36 : decode cX5_clearsAs 36 = .ok (.if_icmp .eq 5, 3) := by decide +kernel
theorem dX5_clearsAs_39 : decode cX5_clearsAs 39 = .ok (.iconst 0, 1) := by decide +kernel
theorem dX5_clearsAs_40 : decode cX5_clearsAs 40 = .ok (.ireturn, 1) := by decide +kernel
theorem dX5_clearsAs_41 : decode cX5_clearsAs 41 = .ok (.aload_n 0, 1) := by decide +kernel
theorem dX5_clearsAs_42 : decode cX5_clearsAs 42 = .ok (.getfield 27, 3) := by decide +kernel
theorem dX5_clearsAs_45 : decode cX5_clearsAs 45 = .ok (.iload_n 1, 1) := by decide +kernel
theorem dX5_clearsAs_46 : decode cX5_clearsAs 46 = .ok (.invokevirtual 34, 3) := by decide +kernel
theorem dX5_clearsAs_49 : decode cX5_clearsAs 49 = .ok (.iinc 5 1, 3) := by decide +kernel
theorem dX5_clearsAs_52 : decode cX5_clearsAs 52 = .ok (.goto (-35), 3) := by decide +kernel
theorem dX5_clearsAs_55 : decode cX5_clearsAs 55 = .ok (.iconst 1, 1) := by decide +kernel
theorem dX5_clearsAs_56 : decode cX5_clearsAs 56 = .ok (.ireturn, 1) := by decide +kernel
theorem dX6_init_0 : decode cX6_init 0 = .ok (.aload_n 0, 1) := by decide +kernel
theorem dX6_init_1 : decode cX6_init 1 = .ok (.invokespecial 3, 3) := by decide +kernel
theorem dX6_init_4 : decode cX6_init 4 = .ok (.aload_n 0, 1) := by decide +kernel
theorem dX6_init_5 : decode cX6_init 5 = .ok (.bipush 30, 2) := by decide +kernel
theorem dX6_init_7 : decode cX6_init 7 = .ok (.newarray .int, 2) := by decide +kernel
theorem dX6_init_9 : decode cX6_init 9 = .ok (.putfield 11, 3) := by decide +kernel
theorem dX6_init_12 : decode cX6_init 12 = .ok (.aload_n 0, 1) := by decide +kernel
theorem dX6_init_13 : decode cX6_init 13 = .ok (.iconst 0, 1) := by decide +kernel
theorem dX6_init_14 : decode cX6_init 14 = .ok (.putfield 15, 3) := by decide +kernel
theorem dX6_init_17 : decode cX6_init 17 = .ok (.aload_n 0, 1) := by decide +kernel
theorem dX6_init_18 : decode cX6_init 18 = .ok (.iconst 0, 1) := by decide +kernel
theorem dX6_init_19 : decode cX6_init 19 = .ok (.putfield 19, 3) := by decide +kernel
theorem dX6_init_22 : decode cX6_init 22 = .ok (.return_, 1) := by decide +kernel
theorem dX6_speaks_0 : decode cX6_speaks 0 = .ok (.aload_n 0, 1) := by decide +kernel
theorem dX6_speaks_1 : decode cX6_speaks 1 = .ok (.iload_n 1, 1) := by decide +kernel
theorem dX6_speaks_2 : decode cX6_speaks 2 = .ok (.putfield 23, 3) := by decide +kernel
theorem dX6_speaks_5 : decode cX6_speaks 5 = .ok (.aload_n 0, 1) := by decide +kernel
theorem dX6_speaks_6 : decode cX6_speaks 6 = .ok (.iload_n 2, 1) := by decide +kernel
theorem dX6_speaks_7 : decode cX6_speaks 7 = .ok (.putfield 26, 3) := by decide +kernel
theorem dX6_speaks_10 : decode cX6_speaks 10 = .ok (.aload_n 0, 1) := by decide +kernel
theorem dX6_speaks_11 : decode cX6_speaks 11 = .ok (.iload_n 3, 1) := by decide +kernel
theorem dX6_speaks_12 : decode cX6_speaks 12 = .ok (.putfield 29, 3) := by decide +kernel
theorem dX6_speaks_15 : decode cX6_speaks 15 = .ok (.aload_n 0, 1) := by decide +kernel
theorem dX6_speaks_16 : decode cX6_speaks 16 = .ok (.iconst 0, 1) := by decide +kernel
theorem dX6_speaks_17 : decode cX6_speaks 17 = .ok (.putfield 15, 3) := by decide +kernel
theorem dX6_speaks_20 : decode cX6_speaks 20 = .ok (.aload_n 0, 1) := by decide +kernel
theorem dX6_speaks_21 : decode cX6_speaks 21 = .ok (.iconst 0, 1) := by decide +kernel
theorem dX6_speaks_22 : decode cX6_speaks 22 = .ok (.putfield 19, 3) := by decide +kernel
theorem dX6_speaks_25 : decode cX6_speaks 25 = .ok (.aload_n 0, 1) := by decide +kernel
theorem dX6_speaks_26 : decode cX6_speaks 26 = .ok (.iload_n 1, 1) := by decide +kernel
theorem dX6_speaks_27 : decode cX6_speaks 27 = .ok (.iload 4, 2) := by decide +kernel
theorem dX6_speaks_29 : decode cX6_speaks 29 = .ok (.invokestatic 32, 3) := by decide +kernel
theorem dX6_speaks_32 : decode cX6_speaks 32 = .ok (.iload 5, 2) := by decide +kernel
theorem dX6_speaks_34 : decode cX6_speaks 34 = .ok (.iconst 0, 1) := by decide +kernel
theorem dX6_speaks_35 : decode cX6_speaks 35 = .ok (.invokevirtual 36, 3) := by decide +kernel
theorem dX6_speaks_38 : decode cX6_speaks 38 = .ok (.ireturn, 1) := by decide +kernel
theorem dX6_says_0 : decode cX6_says 0 = .ok (.aload_n 0, 1) := by decide +kernel
theorem dX6_says_1 : decode cX6_says 1 = .ok (.aload_n 0, 1) := by decide +kernel
theorem dX6_says_2 : decode cX6_says 2 = .ok (.getfield 23, 3) := by decide +kernel
theorem dX6_says_5 : decode cX6_says 5 = .ok (.iconst 0, 1) := by decide +kernel
theorem dX6_says_6 : decode cX6_says 6 = .ok (.invokestatic 32, 3) := by decide +kernel
theorem dX6_says_9 : decode cX6_says 9 = .ok (.iload_n 1, 1) := by decide +kernel
theorem dX6_says_10 : decode cX6_says 10 = .ok (.iload_n 2, 1) := by decide +kernel
theorem dX6_says_11 : decode cX6_says 11 = .ok (.invokevirtual 36, 3) := by decide +kernel
theorem dX6_says_14 : decode cX6_says 14 = .ok (.ireturn, 1) := by decide +kernel
theorem dX6_sees_0 : decode cX6_sees 0 = .ok (.aload_n 0, 1) := by decide +kernel
theorem dX6_sees_1 : decode cX6_sees 1 = .ok (.aload_n 0, 1) := by decide +kernel
theorem dX6_sees_2 : decode cX6_sees 2 = .ok (.getfield 23, 3) := by decide +kernel
theorem dX6_sees_5 : decode cX6_sees 5 = .ok (.iconst 1, 1) := by decide +kernel
theorem dX6_sees_6 : decode cX6_sees 6 = .ok (.invokestatic 32, 3) := by decide +kernel
theorem dX6_sees_9 : decode cX6_sees 9 = .ok (.iload_n 1, 1) := by decide +kernel
theorem dX6_sees_10 : decode cX6_sees 10 = .ok (.iload_n 2, 1) := by decide +kernel
theorem dX6_sees_11 : decode cX6_sees 11 = .ok (.invokevirtual 36, 3) := by decide +kernel
theorem dX6_sees_14 : decode cX6_sees 14 = .ok (.ireturn, 1) := by decide +kernel
theorem dX6_above_0 : decode cX6_above 0 = .ok (.aload_n 0, 1) := by decide +kernel
theorem dX6_above_1 : decode cX6_above 1 = .ok (.getstatic 40, 3) := by decide +kernel
theorem dX6_above_4 : decode cX6_above 4 = .ok (.iload_n 1, 1) := by decide +kernel
theorem dX6_above_5 : decode cX6_above 5 = .ok (.bipush 10, 2) := by decide +kernel
theorem dX6_above_7 : decode cX6_above 7 = .ok (.idiv, 1) := by decide +kernel
theorem dX6_above_8 : decode cX6_above 8 = .ok (.iconst 1, 1) := by decide +kernel
theorem dX6_above_9 : decode cX6_above 9 = .ok (.isub, 1) := by decide +kernel
theorem dX6_above_10 : decode cX6_above 10 = .ok (.iaload, 1) := by decide +kernel
theorem dX6_above_11 : decode cX6_above 11 = .ok (.iload_n 2, 1) := by decide +kernel
theorem dX6_above_12 : decode cX6_above 12 = .ok (.invokestatic 32, 3) := by decide +kernel
theorem dX6_above_15 : decode cX6_above 15 = .ok (.iload_n 3, 1) := by decide +kernel
theorem dX6_above_16 : decode cX6_above 16 = .ok (.iload 4, 2) := by decide +kernel
theorem dX6_above_18 : decode cX6_above 18 = .ok (.invokevirtual 36, 3) := by decide +kernel
theorem dX6_above_21 : decode cX6_above 21 = .ok (.ireturn, 1) := by decide +kernel
theorem dX6_partsBy_0 : decode cX6_partsBy 0 = .ok (.iload_n 1, 1) := by decide +kernel
theorem dX6_partsBy_1 : decode cX6_partsBy 1 = .ok (.ifCond .ne 10, 3) := by decide +kernel
theorem dX6_partsBy_4 : decode cX6_partsBy 4 = .ok (.aload_n 0, 1) := by decide +kernel
theorem dX6_partsBy_5 : decode cX6_partsBy 5 = .ok (.iconst 1, 1) := by decide +kernel
theorem dX6_partsBy_6 : decode cX6_partsBy 6 = .ok (.putfield 19, 3) := by decide +kernel
theorem dX6_partsBy_9 : decode cX6_partsBy 9 = .ok (.iconst 0, 1) := by decide +kernel
theorem dX6_partsBy_10 : decode cX6_partsBy 10 = .ok (.ireturn, 1) := by decide +kernel
theorem dX6_partsBy_11 : decode cX6_partsBy 11 = .ok (.iload_n 2, 1) := by decide +kernel
theorem dX6_partsBy_12 : decode cX6_partsBy 12 = .ok (.iload_n 1, 1) := by decide +kernel
theorem dX6_partsBy_13 : decode cX6_partsBy 13 = .ok (.idiv, 1) := by decide +kernel
theorem dX6_partsBy_14 : decode cX6_partsBy 14 = .ok (.ireturn, 1) := by decide +kernel
theorem dX6_worksOut_0 : decode cX6_worksOut 0 = .ok (.aload_n 0, 1) := by decide +kernel
theorem dX6_worksOut_1 : decode cX6_worksOut 1 = .ok (.getfield 19, 3) := by decide +kernel
theorem dX6_worksOut_4 : decode cX6_worksOut 4 = .ok (.ifCond .ne 13, 3) := by decide +kernel
theorem dX6_worksOut_7 : decode cX6_worksOut 7 = .ok (.iload_n 1, 1) := by decide +kernel
theorem dX6_worksOut_8 : decode cX6_worksOut 8 = .ok (.ifCond .eq 9, 3) := by decide +kernel
theorem dX6_worksOut_11 : decode cX6_worksOut 11 = .ok (.iload_n 3, 1) := by decide +kernel
theorem dX6_worksOut_12 : decode cX6_worksOut 12 = .ok (.bipush 20, 2) := by decide +kernel
theorem dX6_worksOut_14 : decode cX6_worksOut 14 = .ok (.if_icmp .le 5, 3) := by decide +kernel
theorem dX6_worksOut_17 : decode cX6_worksOut 17 = .ok (.iconst 0, 1) := by decide +kernel
theorem dX6_worksOut_18 : decode cX6_worksOut 18 = .ok (.ireturn, 1) := by decide +kernel
theorem dX6_worksOut_19 : decode cX6_worksOut 19 = .ok (.aload_n 0, 1) := by decide +kernel
theorem dX6_worksOut_20 : decode cX6_worksOut 20 = .ok (.iload_n 1, 1) := by decide +kernel
theorem dX6_worksOut_21 : decode cX6_worksOut 21 = .ok (.invokevirtual 43, 3) := by decide +kernel
theorem dX6_worksOut_24 : decode cX6_worksOut 24 = .ok (.iload_n 3, 1) := by decide +kernel
theorem dX6_worksOut_25 : decode cX6_worksOut 25 = .ok (.iconst 1, 1) := by decide +kernel
theorem dX6_worksOut_26 : decode cX6_worksOut 26 = .ok (.iadd, 1) := by decide +kernel
theorem dX6_worksOut_27 : decode cX6_worksOut 27 = .ok (.istore 4, 2) := by decide +kernel
theorem dX6_worksOut_29 : decode cX6_worksOut 29 = .ok (.iload_n 1, 1) := by decide +kernel
theorem dX6_worksOut_30 : decode cX6_worksOut 30 = .ok (.lookupswitch 270 #[(10, 114), (11, 121), (12, 131), (13, 144), (20, 159), (21, 171), (30, 189), (40, 201), (50, 213), (51, 225), (60, 240), (70, 252), (71, 255)], 114) := by decide +kernel
theorem dX6_worksOut_144 : decode cX6_worksOut 144 = .ok (.iload_n 2, 1) := by decide +kernel
theorem dX6_worksOut_145 : decode cX6_worksOut 145 = .ok (.aload_n 0, 1) := by decide +kernel
theorem dX6_worksOut_146 : decode cX6_worksOut 146 = .ok (.getfield 26, 3) := by decide +kernel
theorem dX6_worksOut_149 : decode cX6_worksOut 149 = .ok (.iadd, 1) := by decide +kernel
theorem dX6_worksOut_150 : decode cX6_worksOut 150 = .ok (.ireturn, 1) := by decide +kernel
theorem dX6_worksOut_151 : decode cX6_worksOut 151 = .ok (.aload_n 0, 1) := by decide +kernel
theorem dX6_worksOut_152 : decode cX6_worksOut 152 = .ok (.iload_n 2, 1) := by decide +kernel
theorem dX6_worksOut_153 : decode cX6_worksOut 153 = .ok (.iload 4, 2) := by decide +kernel
theorem dX6_worksOut_155 : decode cX6_worksOut 155 = .ok (.invokevirtual 47, 3) := by decide +kernel
theorem dX6_worksOut_158 : decode cX6_worksOut 158 = .ok (.iconst 2, 1) := by decide +kernel
theorem dX6_worksOut_159 : decode cX6_worksOut 159 = .ok (.imul, 1) := by decide +kernel
theorem dX6_worksOut_160 : decode cX6_worksOut 160 = .ok (.ireturn, 1) := by decide +kernel
theorem dX6_worksOut_161 : decode cX6_worksOut 161 = .ok (.aload_n 0, 1) := by decide +kernel
theorem dX6_worksOut_162 : decode cX6_worksOut 162 = .ok (.iload_n 2, 1) := by decide +kernel
theorem dX6_worksOut_163 : decode cX6_worksOut 163 = .ok (.iload 4, 2) := by decide +kernel
theorem dX6_worksOut_165 : decode cX6_worksOut 165 = .ok (.invokevirtual 50, 3) := by decide +kernel
theorem dX6_worksOut_168 : decode cX6_worksOut 168 = .ok (.aload_n 0, 1) := by decide +kernel
theorem dX6_worksOut_169 : decode cX6_worksOut 169 = .ok (.getfield 29, 3) := by decide +kernel
theorem dX6_worksOut_172 : decode cX6_worksOut 172 = .ok (.isub, 1) := by decide +kernel
theorem dX6_worksOut_173 : decode cX6_worksOut 173 = .ok (.ireturn, 1) := by decide +kernel
theorem dX6_worksOut_174 : decode cX6_worksOut 174 = .ok (.aload_n 0, 1) := by decide +kernel
theorem dX6_worksOut_175 : decode cX6_worksOut 175 = .ok (.aload_n 0, 1) := by decide +kernel
theorem dX6_worksOut_176 : decode cX6_worksOut 176 = .ok (.getfield 29, 3) := by decide +kernel
theorem dX6_worksOut_179 : decode cX6_worksOut 179 = .ok (.aload_n 0, 1) := by decide +kernel
theorem dX6_worksOut_180 : decode cX6_worksOut 180 = .ok (.getfield 26, 3) := by decide +kernel
theorem dX6_worksOut_183 : decode cX6_worksOut 183 = .ok (.isub, 1) := by decide +kernel
theorem dX6_worksOut_184 : decode cX6_worksOut 184 = .ok (.iload_n 2, 1) := by decide +kernel
theorem dX6_worksOut_185 : decode cX6_worksOut 185 = .ok (.invokevirtual 53, 3) := by decide +kernel
theorem dX6_worksOut_188 : decode cX6_worksOut 188 = .ok (.ireturn, 1) := by decide +kernel
theorem dX6_worksOut_189 : decode cX6_worksOut 189 = .ok (.aload_n 0, 1) := by decide +kernel
theorem dX6_worksOut_190 : decode cX6_worksOut 190 = .ok (.iload_n 1, 1) := by decide +kernel
theorem dX6_worksOut_191 : decode cX6_worksOut 191 = .ok (.iconst 0, 1) := by decide +kernel
theorem dX6_worksOut_192 : decode cX6_worksOut 192 = .ok (.iload_n 2, 1) := by decide +kernel
theorem dX6_worksOut_193 : decode cX6_worksOut 193 = .ok (.iload 4, 2) := by decide +kernel
theorem dX6_worksOut_195 : decode cX6_worksOut 195 = .ok (.invokevirtual 56, 3) := by decide +kernel
theorem dX6_worksOut_198 : decode cX6_worksOut 198 = .ok (.iconst 4, 1) := by decide +kernel
theorem dX6_worksOut_199 : decode cX6_worksOut 199 = .ok (.isub, 1) := by decide +kernel
theorem dX6_worksOut_200 : decode cX6_worksOut 200 = .ok (.ireturn, 1) := by decide +kernel
theorem dX6_worksOut_201 : decode cX6_worksOut 201 = .ok (.aload_n 0, 1) := by decide +kernel
theorem dX6_worksOut_202 : decode cX6_worksOut 202 = .ok (.iload_n 1, 1) := by decide +kernel
theorem dX6_worksOut_203 : decode cX6_worksOut 203 = .ok (.iconst 3, 1) := by decide +kernel
theorem dX6_worksOut_204 : decode cX6_worksOut 204 = .ok (.iload_n 2, 1) := by decide +kernel
theorem dX6_worksOut_205 : decode cX6_worksOut 205 = .ok (.iload 4, 2) := by decide +kernel
theorem dX6_worksOut_207 : decode cX6_worksOut 207 = .ok (.invokevirtual 56, 3) := by decide +kernel
theorem dX6_worksOut_210 : decode cX6_worksOut 210 = .ok (.aload_n 0, 1) := by decide +kernel
theorem dX6_worksOut_211 : decode cX6_worksOut 211 = .ok (.iconst 1, 1) := by decide +kernel
theorem dX6_worksOut_212 : decode cX6_worksOut 212 = .ok (.iload 4, 2) := by decide +kernel
theorem dX6_worksOut_214 : decode cX6_worksOut 214 = .ok (.invokevirtual 50, 3) := by decide +kernel
theorem dX6_worksOut_217 : decode cX6_worksOut 217 = .ok (.iadd, 1) := by decide +kernel
theorem dX6_worksOut_218 : decode cX6_worksOut 218 = .ok (.ireturn, 1) := by decide +kernel
theorem dX6_worksOut_219 : decode cX6_worksOut 219 = .ok (.iconst 0, 1) := by decide +kernel
theorem dX6_worksOut_220 : decode cX6_worksOut 220 = .ok (.aload_n 0, 1) := by decide +kernel
theorem dX6_worksOut_221 : decode cX6_worksOut 221 = .ok (.iload_n 1, 1) := by decide +kernel
theorem dX6_worksOut_222 : decode cX6_worksOut 222 = .ok (.iconst 1, 1) := by decide +kernel
theorem dX6_worksOut_223 : decode cX6_worksOut 223 = .ok (.iload_n 2, 1) := by decide +kernel
theorem dX6_worksOut_224 : decode cX6_worksOut 224 = .ok (.iload 4, 2) := by decide +kernel
theorem dX6_worksOut_226 : decode cX6_worksOut 226 = .ok (.invokevirtual 56, 3) := by decide +kernel
theorem dX6_worksOut_229 : decode cX6_worksOut 229 = .ok (.isub, 1) := by decide +kernel
theorem dX6_worksOut_230 : decode cX6_worksOut 230 = .ok (.ireturn, 1) := by decide +kernel
theorem dX6_worksOut_231 : decode cX6_worksOut 231 = .ok (.aload_n 0, 1) := by decide +kernel
theorem dX6_worksOut_232 : decode cX6_worksOut 232 = .ok (.iload_n 1, 1) := by decide +kernel
theorem dX6_worksOut_233 : decode cX6_worksOut 233 = .ok (.iconst 2, 1) := by decide +kernel
theorem dX6_worksOut_234 : decode cX6_worksOut 234 = .ok (.iload_n 2, 1) := by decide +kernel
theorem dX6_worksOut_235 : decode cX6_worksOut 235 = .ok (.iconst 2, 1) := by decide +kernel
theorem dX6_worksOut_236 : decode cX6_worksOut 236 = .ok (.idiv, 1) := by decide +kernel
theorem dX6_worksOut_237 : decode cX6_worksOut 237 = .ok (.iload 4, 2) := by decide +kernel
theorem dX6_worksOut_239 : decode cX6_worksOut 239 = .ok (.invokevirtual 56, 3) := by decide +kernel
theorem dX6_worksOut_242 : decode cX6_worksOut 242 = .ok (.ireturn, 1) := by decide +kernel
theorem dX6_worksOut_243 : decode cX6_worksOut 243 = .ok (.aload_n 0, 1) := by decide +kernel
theorem dX6_worksOut_244 : decode cX6_worksOut 244 = .ok (.iload_n 1, 1) := by decide +kernel
theorem dX6_worksOut_245 : decode cX6_worksOut 245 = .ok (.iconst 0, 1) := by decide +kernel
theorem dX6_worksOut_246 : decode cX6_worksOut 246 = .ok (.iload_n 2, 1) := by decide +kernel
theorem dX6_worksOut_247 : decode cX6_worksOut 247 = .ok (.iload 4, 2) := by decide +kernel
theorem dX6_worksOut_249 : decode cX6_worksOut 249 = .ok (.invokevirtual 56, 3) := by decide +kernel
theorem dX6_worksOut_252 : decode cX6_worksOut 252 = .ok (.iconst 3, 1) := by decide +kernel
theorem dX6_worksOut_253 : decode cX6_worksOut 253 = .ok (.imul, 1) := by decide +kernel
theorem dX6_worksOut_254 : decode cX6_worksOut 254 = .ok (.ireturn, 1) := by decide +kernel
theorem dX6_worksOut_255 : decode cX6_worksOut 255 = .ok (.aload_n 0, 1) := by decide +kernel
theorem dX6_worksOut_256 : decode cX6_worksOut 256 = .ok (.iload_n 1, 1) := by decide +kernel
theorem dX6_worksOut_257 : decode cX6_worksOut 257 = .ok (.iconst 2, 1) := by decide +kernel
theorem dX6_worksOut_258 : decode cX6_worksOut 258 = .ok (.iload_n 2, 1) := by decide +kernel
theorem dX6_worksOut_259 : decode cX6_worksOut 259 = .ok (.iload 4, 2) := by decide +kernel
theorem dX6_worksOut_261 : decode cX6_worksOut 261 = .ok (.invokevirtual 56, 3) := by decide +kernel
theorem dX6_worksOut_264 : decode cX6_worksOut 264 = .ok (.aload_n 0, 1) := by decide +kernel
theorem dX6_worksOut_265 : decode cX6_worksOut 265 = .ok (.getfield 26, 3) := by decide +kernel
theorem dX6_worksOut_268 : decode cX6_worksOut 268 = .ok (.ixor, 1) := by decide +kernel
theorem dX6_worksOut_269 : decode cX6_worksOut 269 = .ok (.ireturn, 1) := by decide +kernel
theorem dX6_worksOut_270 : decode cX6_worksOut 270 = .ok (.aload_n 0, 1) := by decide +kernel
theorem dX6_worksOut_271 : decode cX6_worksOut 271 = .ok (.iload_n 1, 1) := by decide +kernel
theorem dX6_worksOut_272 : decode cX6_worksOut 272 = .ok (.iconst 1, 1) := by decide +kernel
theorem dX6_worksOut_273 : decode cX6_worksOut 273 = .ok (.iload_n 2, 1) := by decide +kernel
theorem dX6_worksOut_274 : decode cX6_worksOut 274 = .ok (.iconst 1, 1) := by decide +kernel
theorem dX6_worksOut_275 : decode cX6_worksOut 275 = .ok (.iadd, 1) := by decide +kernel
theorem dX6_worksOut_276 : decode cX6_worksOut 276 = .ok (.iload 4, 2) := by decide +kernel
theorem dX6_worksOut_278 : decode cX6_worksOut 278 = .ok (.invokevirtual 56, 3) := by decide +kernel
theorem dX6_worksOut_281 : decode cX6_worksOut 281 = .ok (.ireturn, 1) := by decide +kernel
theorem dX6_worksOut_282 : decode cX6_worksOut 282 = .ok (.bipush 9, 2) := by decide +kernel
theorem dX6_worksOut_284 : decode cX6_worksOut 284 = .ok (.ireturn, 1) := by decide +kernel
theorem dX6_worksOut_285 : decode cX6_worksOut 285 = .ok (.aload_n 0, 1) := by decide +kernel
theorem dX6_worksOut_286 : decode cX6_worksOut 286 = .ok (.iload_n 1, 1) := by decide +kernel
theorem dX6_worksOut_287 : decode cX6_worksOut 287 = .ok (.iconst 1, 1) := by decide +kernel
theorem dX6_worksOut_288 : decode cX6_worksOut 288 = .ok (.iload_n 2, 1) := by decide +kernel
theorem dX6_worksOut_289 : decode cX6_worksOut 289 = .ok (.iload 4, 2) := by decide +kernel
theorem dX6_worksOut_291 : decode cX6_worksOut 291 = .ok (.invokevirtual 56, 3) := by decide +kernel
theorem dX6_worksOut_294 : decode cX6_worksOut 294 = .ok (.aload_n 0, 1) := by decide +kernel
theorem dX6_worksOut_295 : decode cX6_worksOut 295 = .ok (.getfield 29, 3) := by decide +kernel
theorem dX6_worksOut_298 : decode cX6_worksOut 298 = .ok (.iadd, 1) := by decide +kernel
theorem dX6_worksOut_299 : decode cX6_worksOut 299 = .ok (.ireturn, 1) := by decide +kernel
theorem dX6_worksOut_300 : decode cX6_worksOut 300 = .ok (.iconst 0, 1) := by decide +kernel
theorem dX6_worksOut_301 : decode cX6_worksOut 301 = .ok (.ireturn, 1) := by decide +kernel
theorem dX6_begins_0 : decode cX6_begins 0 = .ok (.aload_n 0, 1) := by decide +kernel
theorem dX6_begins_1 : decode cX6_begins 1 = .ok (.getfield 15, 3) := by decide +kernel
theorem dX6_begins_4 : decode cX6_begins 4 = .ok (.bipush 30, 2) := by decide +kernel
theorem dX6_begins_6 : decode cX6_begins 6 = .ok (.if_icmp .ge 23, 3) := by decide +kernel
theorem dX6_begins_9 : decode cX6_begins 9 = .ok (.aload_n 0, 1) := by decide +kernel
theorem dX6_begins_10 : decode cX6_begins 10 = .ok (.getfield 11, 3) := by decide +kernel
theorem dX6_begins_13 : decode cX6_begins 13 = .ok (.aload_n 0, 1) := by decide +kernel
theorem dX6_begins_14 : decode cX6_begins 14 = .ok (.getfield 15, 3) := by decide +kernel
theorem dX6_begins_17 : decode cX6_begins 17 = .ok (.iload_n 1, 1) := by decide +kernel
theorem dX6_begins_18 : decode cX6_begins 18 = .ok (.iastore, 1) := by decide +kernel
theorem dX6_begins_19 : decode cX6_begins 19 = .ok (.aload_n 0, 1) := by decide +kernel
theorem dX6_begins_20 : decode cX6_begins 20 = .ok (.dup, 1) := by decide +kernel
theorem dX6_begins_21 : decode cX6_begins 21 = .ok (.getfield 15, 3) := by decide +kernel
theorem dX6_begins_24 : decode cX6_begins 24 = .ok (.iconst 1, 1) := by decide +kernel
theorem dX6_begins_25 : decode cX6_begins 25 = .ok (.iadd, 1) := by decide +kernel
theorem dX6_begins_26 : decode cX6_begins 26 = .ok (.putfield 15, 3) := by decide +kernel
theorem dX6_begins_29 : decode cX6_begins 29 = .ok (.return_, 1) := by decide +kernel
theorem dX6_bodyFrom_0 : decode cX6_bodyFrom 0 = .ok (.iload_n 0, 1) := by decide +kernel
theorem dX6_bodyFrom_1 : decode cX6_bodyFrom 1 = .ok (.istore_n 2, 1) := by decide +kernel
theorem dX6_bodyFrom_2 : decode cX6_bodyFrom 2 = .ok (.iconst 0, 1) := by decide +kernel
theorem dX6_bodyFrom_3 : decode cX6_bodyFrom 3 = .ok (.istore_n 3, 1) := by decide +kernel
theorem dX6_bodyFrom_4 : decode cX6_bodyFrom 4 = .ok (.iload_n 3, 1) := by decide +kernel
theorem dX6_bodyFrom_5 : decode cX6_bodyFrom 5 = .ok (.bipush 7, 2) := by decide +kernel
theorem dX6_bodyFrom_7 : decode cX6_bodyFrom 7 = .ok (.if_icmp .ge 38, 3) := by decide +kernel
theorem dX6_bodyFrom_10 : decode cX6_bodyFrom 10 = .ok (.iload_n 2, 1) := by decide +kernel
theorem dX6_bodyFrom_11 : decode cX6_bodyFrom 11 = .ok (.ifCond .lt 34, 3) := by decide +kernel
theorem dX6_bodyFrom_14 : decode cX6_bodyFrom 14 = .ok (.getstatic 60, 3) := by decide +kernel
theorem dX6_bodyFrom_17 : decode cX6_bodyFrom 17 = .ok (.iconst 4, 1) := by decide +kernel
theorem dX6_bodyFrom_18 : decode cX6_bodyFrom 18 = .ok (.iload_n 2, 1) := by decide +kernel
theorem dX6_bodyFrom_19 : decode cX6_bodyFrom 19 = .ok (.imul, 1) := by decide +kernel
theorem dX6_bodyFrom_20 : decode cX6_bodyFrom 20 = .ok (.iload_n 1, 1) := by decide +kernel
theorem dX6_bodyFrom_21 : decode cX6_bodyFrom 21 = .ok (.iadd, 1) := by decide +kernel
theorem dX6_bodyFrom_22 : decode cX6_bodyFrom 22 = .ok (.iaload, 1) := by decide +kernel
theorem dX6_bodyFrom_23 : decode cX6_bodyFrom 23 = .ok (.istore 4, 2) := by decide +kernel
theorem dX6_bodyFrom_25 : decode cX6_bodyFrom 25 = .ok (.iload 4, 2) := by decide +kernel
theorem dX6_bodyFrom_27 : decode cX6_bodyFrom 27 = .ok (.ifCond .eq 6, 3) := by decide +kernel
theorem dX6_bodyFrom_30 : decode cX6_bodyFrom 30 = .ok (.iload 4, 2) := by decide +kernel
theorem dX6_bodyFrom_32 : decode cX6_bodyFrom 32 = .ok (.ireturn, 1) := by decide +kernel
theorem dX6_bodyFrom_33 : decode cX6_bodyFrom 33 = .ok (.getstatic 40, 3) := by decide +kernel
theorem dX6_bodyFrom_36 : decode cX6_bodyFrom 36 = .ok (.iload_n 2, 1) := by decide +kernel
theorem dX6_bodyFrom_37 : decode cX6_bodyFrom 37 = .ok (.iaload, 1) := by decide +kernel
theorem dX6_bodyFrom_38 : decode cX6_bodyFrom 38 = .ok (.istore_n 2, 1) := by decide +kernel
theorem dX6_bodyFrom_39 : decode cX6_bodyFrom 39 = .ok (.iinc 3 1, 3) := by decide +kernel
theorem dX6_bodyFrom_42 : decode cX6_bodyFrom 42 = .ok (.goto (-38), 3) := by decide +kernel
theorem dX6_bodyFrom_45 : decode cX6_bodyFrom 45 = .ok (.iconst 0, 1) := by decide +kernel
theorem dX6_bodyFrom_46 : decode cX6_bodyFrom 46 = .ok (.ireturn, 1) := by decide +kernel
theorem dX7_init_0 : decode cX7_init 0 = .ok (.aload_n 0, 1) := by decide +kernel
theorem dX7_init_1 : decode cX7_init 1 = .ok (.invokespecial 1, 3) := by decide +kernel
theorem dX7_init_4 : decode cX7_init 4 = .ok (.aload_n 0, 1) := by decide +kernel
theorem dX7_init_5 : decode cX7_init 5 = .ok (.new 7, 3) := by decide +kernel
theorem dX7_init_8 : decode cX7_init 8 = .ok (.dup, 1) := by decide +kernel
theorem dX7_init_9 : decode cX7_init 9 = .ok (.invokespecial 9, 3) := by decide +kernel
theorem dX7_init_12 : decode cX7_init 12 = .ok (.putfield 10, 3) := by decide +kernel
theorem dX7_init_15 : decode cX7_init 15 = .ok (.aload_n 0, 1) := by decide +kernel
theorem dX7_init_16 : decode cX7_init 16 = .ok (.new 7, 3) := by decide +kernel
theorem dX7_init_19 : decode cX7_init 19 = .ok (.dup, 1) := by decide +kernel
theorem dX7_init_20 : decode cX7_init 20 = .ok (.invokespecial 9, 3) := by decide +kernel
theorem dX7_init_23 : decode cX7_init 23 = .ok (.putfield 16, 3) := by decide +kernel
theorem dX7_init_26 : decode cX7_init 26 = .ok (.aload_n 0, 1) := by decide +kernel
theorem dX7_init_27 : decode cX7_init 27 = .ok (.new 19, 3) := by decide +kernel
theorem dX7_init_30 : decode cX7_init 30 = .ok (.dup, 1) := by decide +kernel
theorem dX7_init_31 : decode cX7_init 31 = .ok (.aload_n 0, 1) := by decide +kernel
theorem dX7_init_32 : decode cX7_init 32 = .ok (.getfield 10, 3) := by decide +kernel
theorem dX7_init_35 : decode cX7_init 35 = .ok (.getfield 21, 3) := by decide +kernel
theorem dX7_init_38 : decode cX7_init 38 = .ok (.invokespecial 25, 3) := by decide +kernel
theorem dX7_init_41 : decode cX7_init 41 = .ok (.putfield 28, 3) := by decide +kernel
theorem dX7_init_44 : decode cX7_init 44 = .ok (.aload_n 0, 1) := by decide +kernel
theorem dX7_init_45 : decode cX7_init 45 = .ok (.new 32, 3) := by decide +kernel
theorem dX7_init_48 : decode cX7_init 48 = .ok (.dup, 1) := by decide +kernel
theorem dX7_init_49 : decode cX7_init 49 = .ok (.aload_n 0, 1) := by decide +kernel
theorem dX7_init_50 : decode cX7_init 50 = .ok (.getfield 10, 3) := by decide +kernel
theorem dX7_init_53 : decode cX7_init 53 = .ok (.getfield 34, 3) := by decide +kernel
theorem dX7_init_56 : decode cX7_init 56 = .ok (.invokespecial 38, 3) := by decide +kernel
theorem dX7_init_59 : decode cX7_init 59 = .ok (.putfield 41, 3) := by decide +kernel
theorem dX7_init_62 : decode cX7_init 62 = .ok (.aload_n 0, 1) := by decide +kernel
theorem dX7_init_63 : decode cX7_init 63 = .ok (.new 45, 3) := by decide +kernel
theorem dX7_init_66 : decode cX7_init 66 = .ok (.dup, 1) := by decide +kernel
theorem dX7_init_67 : decode cX7_init 67 = .ok (.invokespecial 47, 3) := by decide +kernel
theorem dX7_init_70 : decode cX7_init 70 = .ok (.putfield 48, 3) := by decide +kernel
theorem dX7_init_73 : decode cX7_init 73 = .ok (.aload_n 0, 1) := by decide +kernel
theorem dX7_init_74 : decode cX7_init 74 = .ok (.new 52, 3) := by decide +kernel
theorem dX7_init_77 : decode cX7_init 77 = .ok (.dup, 1) := by decide +kernel
theorem dX7_init_78 : decode cX7_init 78 = .ok (.invokespecial 54, 3) := by decide +kernel
theorem dX7_init_81 : decode cX7_init 81 = .ok (.putfield 55, 3) := by decide +kernel
theorem dX7_init_84 : decode cX7_init 84 = .ok (.aload_n 0, 1) := by decide +kernel
theorem dX7_init_85 : decode cX7_init 85 = .ok (.bipush 7, 2) := by decide +kernel
theorem dX7_init_87 : decode cX7_init 87 = .ok (.newarray .int, 2) := by decide +kernel
theorem dX7_init_89 : decode cX7_init 89 = .ok (.putfield 59, 3) := by decide +kernel
theorem dX7_init_92 : decode cX7_init 92 = .ok (.aload_n 0, 1) := by decide +kernel
theorem dX7_init_93 : decode cX7_init 93 = .ok (.iconst 0, 1) := by decide +kernel
theorem dX7_init_94 : decode cX7_init 94 = .ok (.putfield 62, 3) := by decide +kernel
theorem dX7_init_97 : decode cX7_init 97 = .ok (.return_, 1) := by decide +kernel
theorem dX7_person_0 : decode cX7_person 0 = .ok (.iload_n 1, 1) := by decide +kernel
theorem dX7_person_1 : decode cX7_person 1 = .ok (.invokestatic 66, 3) := by decide +kernel
theorem dX7_person_4 : decode cX7_person 4 = .ok (.ifCond .eq 10, 3) := by decide +kernel
theorem dX7_person_7 : decode cX7_person 7 = .ok (.iload_n 2, 1) := by decide +kernel
theorem dX7_person_8 : decode cX7_person 8 = .ok (.invokestatic 70, 3) := by decide +kernel
theorem dX7_person_11 : decode cX7_person 11 = .ok (.ifCond .ne 9, 3) := by decide +kernel
theorem dX7_person_14 : decode cX7_person 14 = .ok (.aload_n 0, 1) := by decide +kernel
theorem dX7_person_15 : decode cX7_person 15 = .ok (.iconst 1, 1) := by decide +kernel
theorem dX7_person_16 : decode cX7_person 16 = .ok (.invokevirtual 73, 3) := by decide +kernel
theorem dX7_person_19 : decode cX7_person 19 = .ok (.ireturn, 1) := by decide +kernel
theorem dX7_person_20 : decode cX7_person 20 = .ok (.aload_n 0, 1) := by decide +kernel
theorem dX7_person_21 : decode cX7_person 21 = .ok (.getfield 10, 3) := by decide +kernel
theorem dX7_person_24 : decode cX7_person 24 = .ok (.getfield 34, 3) := by decide +kernel
theorem dX7_person_27 : decode cX7_person 27 = .ok (.astore_n 3, 1) := by decide +kernel
theorem dX7_person_28 : decode cX7_person 28 = .ok (.aload_n 3, 1) := by decide +kernel
theorem dX7_person_29 : decode cX7_person 29 = .ok (.getfield 77, 3) := by decide +kernel
theorem dX7_person_32 : decode cX7_person 32 = .ok (.bipush 6, 2) := by decide +kernel
theorem dX7_person_34 : decode cX7_person 34 = .ok (.if_icmp .lt 9, 3) := by decide +kernel
theorem dX7_person_37 : decode cX7_person 37 = .ok (.aload_n 0, 1) := by decide +kernel
theorem dX7_person_38 : decode cX7_person 38 = .ok (.iconst 4, 1) := by decide +kernel
theorem dX7_person_39 : decode cX7_person 39 = .ok (.invokevirtual 73, 3) := by decide +kernel
theorem dX7_person_42 : decode cX7_person 42 = .ok (.ireturn, 1) := by decide +kernel
theorem dX7_person_43 : decode cX7_person 43 = .ok (.aload_n 3, 1) := by decide +kernel
theorem dX7_person_44 : decode cX7_person 44 = .ok (.iload_n 1, 1) := by decide +kernel
theorem dX7_person_45 : decode cX7_person 45 = .ok (.bipush 10, 2) := by decide +kernel
theorem dX7_person_47 : decode cX7_person 47 = .ok (.idiv, 1) := by decide +kernel
theorem dX7_person_48 : decode cX7_person 48 = .ok (.iload_n 1, 1) := by decide +kernel
theorem dX7_person_49 : decode cX7_person 49 = .ok (.bipush 10, 2) := by decide +kernel
theorem dX7_person_51 : decode cX7_person 51 = .ok (.irem, 1) := by decide +kernel
theorem dX7_person_52 : decode cX7_person 52 = .ok (.iload_n 2, 1) := by decide +kernel
theorem dX7_person_53 : decode cX7_person 53 = .ok (.invokevirtual 82, 3) := by decide +kernel
theorem dX7_person_56 : decode cX7_person 56 = .ok (.ireturn, 1) := by decide +kernel
theorem dX7_personIs_0 : decode cX7_personIs 0 = .ok (.aload_n 0, 1) := by decide +kernel
theorem dX7_personIs_1 : decode cX7_personIs 1 = .ok (.iload_n 1, 1) := by decide +kernel
theorem dX7_personIs_2 : decode cX7_personIs 2 = .ok (.invokevirtual 86, 3) := by decide +kernel
theorem dX7_personIs_5 : decode cX7_personIs 5 = .ok (.ifCond .ne 9, 3) := by decide +kernel
theorem dX7_personIs_8 : decode cX7_personIs 8 = .ok (.aload_n 0, 1) := by decide +kernel
theorem dX7_personIs_9 : decode cX7_personIs 9 = .ok (.iconst 1, 1) := by decide +kernel
theorem dX7_personIs_10 : decode cX7_personIs 10 = .ok (.invokevirtual 73, 3) := by decide +kernel
theorem dX7_personIs_13 : decode cX7_personIs 13 = .ok (.ireturn, 1) := by decide +kernel
theorem dX7_personIs_14 : decode cX7_personIs 14 = .ok (.aload_n 0, 1) := by decide +kernel
theorem dX7_personIs_15 : decode cX7_personIs 15 = .ok (.getfield 10, 3) := by decide +kernel
theorem dX7_personIs_18 : decode cX7_personIs 18 = .ok (.getfield 34, 3) := by decide +kernel
theorem dX7_personIs_21 : decode cX7_personIs 21 = .ok (.astore_n 3, 1) := by decide +kernel
theorem dX7_personIs_22 : decode cX7_personIs 22 = .ok (.iload_n 2, 1) := by decide +kernel
theorem dX7_personIs_23 : decode cX7_personIs 23 = .ok (.tableswitch 119 0 7 #[45, 52, 59, 66, 73, 88, 94, 105], 45) := by decide +kernel
theorem dX7_personIs_68 : decode cX7_personIs 68 = .ok (.aload_n 3, 1) := by decide +kernel
theorem dX7_personIs_69 : decode cX7_personIs 69 = .ok (.getfield 89, 3) := by decide +kernel
theorem dX7_personIs_72 : decode cX7_personIs 72 = .ok (.iload_n 1, 1) := by decide +kernel
theorem dX7_personIs_73 : decode cX7_personIs 73 = .ok (.iaload, 1) := by decide +kernel
theorem dX7_personIs_74 : decode cX7_personIs 74 = .ok (.ireturn, 1) := by decide +kernel
theorem dX7_personIs_75 : decode cX7_personIs 75 = .ok (.aload_n 3, 1) := by decide +kernel
theorem dX7_personIs_76 : decode cX7_personIs 76 = .ok (.getfield 92, 3) := by decide +kernel
theorem dX7_personIs_79 : decode cX7_personIs 79 = .ok (.iload_n 1, 1) := by decide +kernel
theorem dX7_personIs_80 : decode cX7_personIs 80 = .ok (.iaload, 1) := by decide +kernel
theorem dX7_personIs_81 : decode cX7_personIs 81 = .ok (.ireturn, 1) := by decide +kernel
theorem dX7_personIs_82 : decode cX7_personIs 82 = .ok (.aload_n 3, 1) := by decide +kernel
theorem dX7_personIs_83 : decode cX7_personIs 83 = .ok (.getfield 95, 3) := by decide +kernel
theorem dX7_personIs_86 : decode cX7_personIs 86 = .ok (.iload_n 1, 1) := by decide +kernel
theorem dX7_personIs_87 : decode cX7_personIs 87 = .ok (.iaload, 1) := by decide +kernel
theorem dX7_personIs_88 : decode cX7_personIs 88 = .ok (.ireturn, 1) := by decide +kernel
theorem dX7_personIs_89 : decode cX7_personIs 89 = .ok (.aload_n 3, 1) := by decide +kernel
theorem dX7_personIs_90 : decode cX7_personIs 90 = .ok (.getfield 98, 3) := by decide +kernel
theorem dX7_personIs_93 : decode cX7_personIs 93 = .ok (.iload_n 1, 1) := by decide +kernel
theorem dX7_personIs_94 : decode cX7_personIs 94 = .ok (.iaload, 1) := by decide +kernel
theorem dX7_personIs_95 : decode cX7_personIs 95 = .ok (.ireturn, 1) := by decide +kernel
theorem dX7_personIs_96 : decode cX7_personIs 96 = .ok (.aload_n 3, 1) := by decide +kernel
theorem dX7_personIs_97 : decode cX7_personIs 97 = .ok (.getfield 101, 3) := by decide +kernel
theorem dX7_personIs_100 : decode cX7_personIs 100 = .ok (.iload_n 1, 1) := by decide +kernel
theorem dX7_personIs_101 : decode cX7_personIs 101 = .ok (.baload, 1) := by decide +kernel
theorem dX7_personIs_102 : decode cX7_personIs 102 = .ok (.ifCond .eq 7, 3) := by decide +kernel
theorem dX7_personIs_105 : decode cX7_personIs 105 = .ok (.iconst 1, 1) := by decide +kernel
theorem dX7_personIs_106 : decode cX7_personIs 106 = .ok (.goto 4, 3) := by decide +kernel
theorem dX7_personIs_109 : decode cX7_personIs 109 = .ok (.iconst 0, 1) := by decide +kernel
theorem dX7_personIs_110 : decode cX7_personIs 110 = .ok (.ireturn, 1) := by decide +kernel
theorem dX7_personIs_111 : decode cX7_personIs 111 = .ok (.aload_n 3, 1) := by decide +kernel
theorem dX7_personIs_112 : decode cX7_personIs 112 = .ok (.iload_n 1, 1) := by decide +kernel
theorem dX7_personIs_113 : decode cX7_personIs 113 = .ok (.invokevirtual 105, 3) := by decide +kernel
theorem dX7_personIs_116 : decode cX7_personIs 116 = .ok (.ireturn, 1) := by decide +kernel
theorem dX7_personIs_117 : decode cX7_personIs 117 = .ok (.aload_n 3, 1) := by decide +kernel
theorem dX7_personIs_118 : decode cX7_personIs 118 = .ok (.iload_n 1, 1) := by decide +kernel
theorem dX7_personIs_119 : decode cX7_personIs 119 = .ok (.aload_n 3, 1) := by decide +kernel
theorem dX7_personIs_120 : decode cX7_personIs 120 = .ok (.iload_n 1, 1) := by decide +kernel
theorem dX7_personIs_121 : decode cX7_personIs 121 = .ok (.invokevirtual 105, 3) := by decide +kernel
theorem dX7_personIs_124 : decode cX7_personIs 124 = .ok (.invokevirtual 108, 3) := by decide +kernel
theorem dX7_personIs_127 : decode cX7_personIs 127 = .ok (.ireturn, 1) := by decide +kernel
theorem dX7_personIs_128 : decode cX7_personIs 128 = .ok (.aload_n 3, 1) := by decide +kernel
theorem dX7_personIs_129 : decode cX7_personIs 129 = .ok (.iload_n 1, 1) := by decide +kernel
theorem dX7_personIs_130 : decode cX7_personIs 130 = .ok (.invokevirtual 112, 3) := by decide +kernel
theorem dX7_personIs_133 : decode cX7_personIs 133 = .ok (.ifCond .eq 7, 3) := by decide +kernel
theorem dX7_personIs_136 : decode cX7_personIs 136 = .ok (.iconst 1, 1) := by decide +kernel
theorem dX7_personIs_137 : decode cX7_personIs 137 = .ok (.goto 4, 3) := by decide +kernel
theorem dX7_personIs_140 : decode cX7_personIs 140 = .ok (.iconst 0, 1) := by decide +kernel
theorem dX7_personIs_141 : decode cX7_personIs 141 = .ok (.ireturn, 1) := by decide +kernel
theorem dX7_personIs_142 : decode cX7_personIs 142 = .ok (.aload_n 0, 1) := by decide +kernel
theorem dX7_personIs_143 : decode cX7_personIs 143 = .ok (.iconst 1, 1) := by decide +kernel
theorem dX7_personIs_144 : decode cX7_personIs 144 = .ok (.invokevirtual 73, 3) := by decide +kernel
theorem dX7_personIs_147 : decode cX7_personIs 147 = .ok (.ireturn, 1) := by decide +kernel
theorem dX7_become_0 : decode cX7_become 0 = .ok (.aload_n 0, 1) := by decide +kernel
theorem dX7_become_1 : decode cX7_become 1 = .ok (.iload_n 1, 1) := by decide +kernel
theorem dX7_become_2 : decode cX7_become 2 = .ok (.invokevirtual 86, 3) := by decide +kernel
theorem dX7_become_5 : decode cX7_become 5 = .ok (.ifCond .eq 10, 3) := by decide +kernel
theorem dX7_become_8 : decode cX7_become 8 = .ok (.iload_n 2, 1) := by decide +kernel
theorem dX7_become_9 : decode cX7_become 9 = .ok (.invokestatic 66, 3) := by decide +kernel
theorem dX7_become_12 : decode cX7_become 12 = .ok (.ifCond .ne 9, 3) := by decide +kernel
theorem dX7_become_15 : decode cX7_become 15 = .ok (.aload_n 0, 1) := by decide +kernel
theorem dX7_become_16 : decode cX7_become 16 = .ok (.iconst 1, 1) := by decide +kernel
theorem dX7_become_17 : decode cX7_become 17 = .ok (.invokevirtual 73, 3) := by decide +kernel
theorem dX7_become_20 : decode cX7_become 20 = .ok (.ireturn, 1) := by decide +kernel
theorem dX7_become_21 : decode cX7_become 21 = .ok (.aload_n 0, 1) := by decide +kernel
theorem dX7_become_22 : decode cX7_become 22 = .ok (.getfield 10, 3) := by decide +kernel
theorem dX7_become_25 : decode cX7_become 25 = .ok (.getfield 34, 3) := by decide +kernel
theorem dX7_become_28 : decode cX7_become 28 = .ok (.astore_n 3, 1) := by decide +kernel
theorem dX7_become_29 : decode cX7_become 29 = .ok (.aload_n 3, 1) := by decide +kernel
theorem dX7_become_30 : decode cX7_become 30 = .ok (.getfield 89, 3) := by decide +kernel
theorem dX7_become_33 : decode cX7_become 33 = .ok (.iload_n 1, 1) := by decide +kernel
theorem dX7_become_34 : decode cX7_become 34 = .ok (.iaload, 1) := by decide +kernel
theorem dX7_become_35 : decode cX7_become 35 = .ok (.istore 4, 2) := by decide +kernel
theorem dX7_become_37 : decode cX7_become 37 = .ok (.aload_n 3, 1) := by decide +kernel
theorem dX7_become_38 : decode cX7_become 38 = .ok (.getfield 89, 3) := by decide +kernel
theorem dX7_become_41 : decode cX7_become 41 = .ok (.iload_n 1, 1) := by decide +kernel
theorem dX7_become_42 : decode cX7_become 42 = .ok (.iload_n 2, 1) := by decide +kernel
theorem dX7_become_43 : decode cX7_become 43 = .ok (.bipush 10, 2) := by decide +kernel
theorem dX7_become_45 : decode cX7_become 45 = .ok (.idiv, 1) := by decide +kernel
theorem dX7_become_46 : decode cX7_become 46 = .ok (.iastore, 1) := by decide +kernel
theorem dX7_become_47 : decode cX7_become 47 = .ok (.aload_n 3, 1) := by decide +kernel
theorem dX7_become_48 : decode cX7_become 48 = .ok (.getfield 92, 3) := by decide +kernel
theorem dX7_become_51 : decode cX7_become 51 = .ok (.iload_n 1, 1) := by decide +kernel
theorem dX7_become_52 : decode cX7_become 52 = .ok (.iload_n 2, 1) := by decide +kernel
theorem dX7_become_53 : decode cX7_become 53 = .ok (.bipush 10, 2) := by decide +kernel
theorem dX7_become_55 : decode cX7_become 55 = .ok (.irem, 1) := by decide +kernel
theorem dX7_become_56 : decode cX7_become 56 = .ok (.iastore, 1) := by decide +kernel
theorem dX7_become_57 : decode cX7_become 57 = .ok (.iload 4, 2) := by decide +kernel
theorem dX7_become_59 : decode cX7_become 59 = .ok (.ireturn, 1) := by decide +kernel
theorem dX7_as_0 : decode cX7_as 0 = .ok (.aload_n 0, 1) := by decide +kernel
theorem dX7_as_1 : decode cX7_as 1 = .ok (.iload_n 1, 1) := by decide +kernel
theorem dX7_as_2 : decode cX7_as 2 = .ok (.invokevirtual 86, 3) := by decide +kernel
theorem dX7_as_5 : decode cX7_as 5 = .ok (.ifCond .eq 13, 3) := by decide +kernel
theorem dX7_as_8 : decode cX7_as 8 = .ok (.iload_n 2, 1) := by decide +kernel
theorem dX7_as_9 : decode cX7_as 9 = .ok (.iconst 0, 1) := by decide +kernel
theorem dX7_as_10 : decode cX7_as 10 = .ok (.bipush 6, 2) := by decide +kernel
theorem dX7_as_12 : decode cX7_as 12 = .ok (.invokestatic 115, 3) := by decide +kernel
theorem dX7_as_15 : decode cX7_as 15 = .ok (.ifCond .ne 9, 3) := by decide +kernel
theorem dX7_as_18 : decode cX7_as 18 = .ok (.aload_n 0, 1) := by decide +kernel
theorem dX7_as_19 : decode cX7_as 19 = .ok (.iconst 1, 1) := by decide +kernel
theorem dX7_as_20 : decode cX7_as 20 = .ok (.invokevirtual 73, 3) := by decide +kernel
theorem dX7_as_23 : decode cX7_as 23 = .ok (.ireturn, 1) := by decide +kernel
theorem dX7_as_24 : decode cX7_as 24 = .ok (.aload_n 0, 1) := by decide +kernel
theorem dX7_as_25 : decode cX7_as 25 = .ok (.getfield 10, 3) := by decide +kernel
theorem dX7_as_28 : decode cX7_as 28 = .ok (.getfield 34, 3) := by decide +kernel
theorem dX7_as_31 : decode cX7_as 31 = .ok (.getfield 89, 3) := by decide +kernel
theorem dX7_as_34 : decode cX7_as 34 = .ok (.iload_n 1, 1) := by decide +kernel
theorem dX7_as_35 : decode cX7_as 35 = .ok (.iaload, 1) := by decide +kernel
theorem dX7_as_36 : decode cX7_as 36 = .ok (.iload_n 2, 1) := by decide +kernel
theorem dX7_as_37 : decode cX7_as 37 = .ok (.invokestatic 119, 3) := by decide +kernel
theorem dX7_as_40 : decode cX7_as 40 = .ok (.ifCond .ne 9, 3) := by decide +kernel
theorem dX7_as_43 : decode cX7_as 43 = .ok (.aload_n 0, 1) := by decide +kernel
theorem dX7_as_44 : decode cX7_as 44 = .ok (.iconst 5, 1) := by decide +kernel
theorem dX7_as_45 : decode cX7_as 45 = .ok (.invokevirtual 73, 3) := by decide +kernel
theorem dX7_as_48 : decode cX7_as 48 = .ok (.ireturn, 1) := by decide +kernel
theorem dX7_as_49 : decode cX7_as 49 = .ok (.aload_n 0, 1) := by decide +kernel
theorem dX7_as_50 : decode cX7_as 50 = .ok (.getfield 10, 3) := by decide +kernel
theorem dX7_as_53 : decode cX7_as 53 = .ok (.getfield 34, 3) := by decide +kernel
theorem dX7_as_56 : decode cX7_as 56 = .ok (.getfield 92, 3) := by decide +kernel
theorem dX7_as_59 : decode cX7_as 59 = .ok (.iload_n 1, 1) := by decide +kernel
theorem dX7_as_60 : decode cX7_as 60 = .ok (.iaload, 1) := by decide +kernel
theorem dX7_as_61 : decode cX7_as 61 = .ok (.ireturn, 1) := by decide +kernel
theorem dX7_answers_0 : decode cX7_answers 0 = .ok (.aload_n 0, 1) := by decide +kernel
theorem dX7_answers_1 : decode cX7_answers 1 = .ok (.iload_n 1, 1) := by decide +kernel
theorem dX7_answers_2 : decode cX7_answers 2 = .ok (.invokevirtual 86, 3) := by decide +kernel
theorem dX7_answers_5 : decode cX7_answers 5 = .ok (.ifCond .eq 10, 3) := by decide +kernel
theorem dX7_answers_8 : decode cX7_answers 8 = .ok (.iload_n 2, 1) := by decide +kernel
theorem dX7_answers_9 : decode cX7_answers 9 = .ok (.invokestatic 70, 3) := by decide +kernel
theorem dX7_answers_12 : decode cX7_answers 12 = .ok (.ifCond .ne 9, 3) := by decide +kernel
theorem dX7_answers_15 : decode cX7_answers 15 = .ok (.aload_n 0, 1) := by decide +kernel
theorem dX7_answers_16 : decode cX7_answers 16 = .ok (.iconst 1, 1) := by decide +kernel
theorem dX7_answers_17 : decode cX7_answers 17 = .ok (.invokevirtual 73, 3) := by decide +kernel
theorem dX7_answers_20 : decode cX7_answers 20 = .ok (.ireturn, 1) := by decide +kernel
theorem dX7_answers_21 : decode cX7_answers 21 = .ok (.aload_n 0, 1) := by decide +kernel
theorem dX7_answers_22 : decode cX7_answers 22 = .ok (.getfield 10, 3) := by decide +kernel
theorem dX7_answers_25 : decode cX7_answers 25 = .ok (.getfield 34, 3) := by decide +kernel
theorem dX7_answers_28 : decode cX7_answers 28 = .ok (.getfield 95, 3) := by decide +kernel
theorem dX7_answers_31 : decode cX7_answers 31 = .ok (.iload_n 1, 1) := by decide +kernel
theorem dX7_answers_32 : decode cX7_answers 32 = .ok (.iaload, 1) := by decide +kernel
theorem dX7_answers_33 : decode cX7_answers 33 = .ok (.istore_n 3, 1) := by decide +kernel
theorem dX7_answers_34 : decode cX7_answers 34 = .ok (.aload_n 0, 1) := by decide +kernel
theorem dX7_answers_35 : decode cX7_answers 35 = .ok (.getfield 10, 3) := by decide +kernel
theorem dX7_answers_38 : decode cX7_answers 38 = .ok (.getfield 34, 3) := by decide +kernel
theorem dX7_answers_41 : decode cX7_answers 41 = .ok (.getfield 95, 3) := by decide +kernel
theorem dX7_answers_44 : decode cX7_answers 44 = .ok (.iload_n 1, 1) := by decide +kernel
theorem dX7_answers_45 : decode cX7_answers 45 = .ok (.iload_n 2, 1) := by decide +kernel
theorem dX7_answers_46 : decode cX7_answers 46 = .ok (.iastore, 1) := by decide +kernel
theorem dX7_answers_47 : decode cX7_answers 47 = .ok (.iload_n 3, 1) := by decide +kernel
theorem dX7_answers_48 : decode cX7_answers 48 = .ok (.ireturn, 1) := by decide +kernel
theorem dX7_puts_0 : decode cX7_puts 0 = .ok (.aload_n 0, 1) := by decide +kernel
theorem dX7_puts_1 : decode cX7_puts 1 = .ok (.iload_n 1, 1) := by decide +kernel
theorem dX7_puts_2 : decode cX7_puts 2 = .ok (.invokevirtual 86, 3) := by decide +kernel
theorem dX7_puts_5 : decode cX7_puts 5 = .ok (.ifCond .eq 10, 3) := by decide +kernel
theorem dX7_puts_8 : decode cX7_puts 8 = .ok (.iload_n 2, 1) := by decide +kernel
theorem dX7_puts_9 : decode cX7_puts 9 = .ok (.invokestatic 123, 3) := by decide +kernel
theorem dX7_puts_12 : decode cX7_puts 12 = .ok (.ifCond .ne 9, 3) := by decide +kernel
theorem dX7_puts_15 : decode cX7_puts 15 = .ok (.aload_n 0, 1) := by decide +kernel
theorem dX7_puts_16 : decode cX7_puts 16 = .ok (.iconst 1, 1) := by decide +kernel
theorem dX7_puts_17 : decode cX7_puts 17 = .ok (.invokevirtual 73, 3) := by decide +kernel
theorem dX7_puts_20 : decode cX7_puts 20 = .ok (.ireturn, 1) := by decide +kernel
theorem dX7_puts_21 : decode cX7_puts 21 = .ok (.aload_n 0, 1) := by decide +kernel
theorem dX7_puts_22 : decode cX7_puts 22 = .ok (.getfield 10, 3) := by decide +kernel
theorem dX7_puts_25 : decode cX7_puts 25 = .ok (.getfield 34, 3) := by decide +kernel
theorem dX7_puts_28 : decode cX7_puts 28 = .ok (.getfield 98, 3) := by decide +kernel
theorem dX7_puts_31 : decode cX7_puts 31 = .ok (.iload_n 1, 1) := by decide +kernel
theorem dX7_puts_32 : decode cX7_puts 32 = .ok (.iaload, 1) := by decide +kernel
theorem dX7_puts_33 : decode cX7_puts 33 = .ok (.istore_n 3, 1) := by decide +kernel
theorem dX7_puts_34 : decode cX7_puts 34 = .ok (.aload_n 0, 1) := by decide +kernel
theorem dX7_puts_35 : decode cX7_puts 35 = .ok (.getfield 10, 3) := by decide +kernel
theorem dX7_puts_38 : decode cX7_puts 38 = .ok (.getfield 34, 3) := by decide +kernel
theorem dX7_puts_41 : decode cX7_puts 41 = .ok (.iload_n 1, 1) := by decide +kernel
theorem dX7_puts_42 : decode cX7_puts 42 = .ok (.iload_n 2, 1) := by decide +kernel
theorem dX7_puts_43 : decode cX7_puts 43 = .ok (.invokevirtual 126, 3) := by decide +kernel
theorem dX7_puts_46 : decode cX7_puts 46 = .ok (.iload_n 3, 1) := by decide +kernel
theorem dX7_puts_47 : decode cX7_puts 47 = .ok (.ireturn, 1) := by decide +kernel
theorem dX7_drop_0 : decode cX7_drop 0 = .ok (.iload_n 1, 1) := by decide +kernel
theorem dX7_drop_1 : decode cX7_drop 1 = .ok (.iconst 1, 1) := by decide +kernel
theorem dX7_drop_2 : decode cX7_drop 2 = .ok (.bipush 14, 2) := by decide +kernel
theorem dX7_drop_4 : decode cX7_drop 4 = .ok (.invokestatic 115, 3) := by decide +kernel
theorem dX7_drop_7 : decode cX7_drop 7 = .ok (.ifCond .eq 12, 3) := by decide +kernel
theorem dX7_drop_10 : decode cX7_drop 10 = .ok (.iload_n 2, 1) := by decide +kernel
theorem dX7_drop_11 : decode cX7_drop 11 = .ok (.iconst 0, 1) := by decide +kernel
theorem dX7_drop_12 : decode cX7_drop 12 = .ok (.iconst 1, 1) := by decide +kernel
theorem dX7_drop_13 : decode cX7_drop 13 = .ok (.invokestatic 115, 3) := by decide +kernel
theorem dX7_drop_16 : decode cX7_drop 16 = .ok (.ifCond .ne 9, 3) := by decide +kernel
theorem dX7_drop_19 : decode cX7_drop 19 = .ok (.aload_n 0, 1) := by decide +kernel
theorem dX7_drop_20 : decode cX7_drop 20 = .ok (.iconst 1, 1) := by decide +kernel
theorem dX7_drop_21 : decode cX7_drop 21 = .ok (.invokevirtual 73, 3) := by decide +kernel
theorem dX7_drop_24 : decode cX7_drop 24 = .ok (.ireturn, 1) := by decide +kernel
theorem dX7_drop_25 : decode cX7_drop 25 = .ok (.aload_n 0, 1) := by decide +kernel
theorem dX7_drop_26 : decode cX7_drop 26 = .ok (.getfield 10, 3) := by decide +kernel
theorem dX7_drop_29 : decode cX7_drop 29 = .ok (.getfield 34, 3) := by decide +kernel
theorem dX7_drop_32 : decode cX7_drop 32 = .ok (.astore_n 3, 1) := by decide +kernel
theorem dX7_drop_33 : decode cX7_drop 33 = .ok (.aload_n 3, 1) := by decide +kernel
theorem dX7_drop_34 : decode cX7_drop 34 = .ok (.getfield 130, 3) := by decide +kernel
theorem dX7_drop_37 : decode cX7_drop 37 = .ok (.iload_n 1, 1) := by decide +kernel
theorem dX7_drop_38 : decode cX7_drop 38 = .ok (.ishr, 1) := by decide +kernel
theorem dX7_drop_39 : decode cX7_drop 39 = .ok (.iconst 1, 1) := by decide +kernel
theorem dX7_drop_40 : decode cX7_drop 40 = .ok (.iand, 1) := by decide +kernel
theorem dX7_drop_41 : decode cX7_drop 41 = .ok (.istore 4, 2) := by decide +kernel
theorem dX7_drop_43 : decode cX7_drop 43 = .ok (.iload 4, 2) := by decide +kernel
theorem dX7_drop_45 : decode cX7_drop 45 = .ok (.iload_n 2, 1) := by decide +kernel
theorem dX7_drop_46 : decode cX7_drop 46 = .ok (.if_icmp .eq 15, 3) := by decide +kernel
theorem dX7_drop_49 : decode cX7_drop 49 = .ok (.aload_n 3, 1) := by decide +kernel
theorem dX7_drop_50 : decode cX7_drop 50 = .ok (.dup, 1) := by decide +kernel
theorem dX7_drop_51 : decode cX7_drop 51 = .ok (.getfield 130, 3) := by decide +kernel
theorem dX7_drop_54 : decode cX7_drop 54 = .ok (.iconst 1, 1) := by decide +kernel
theorem dX7_drop_55 : decode cX7_drop 55 = .ok (.iload_n 1, 1) := by decide +kernel
theorem dX7_drop_56 : decode cX7_drop 56 = .ok (.ishl, 1) := by decide +kernel
theorem dX7_drop_57 : decode cX7_drop 57 = .ok (.ixor, 1) := by decide +kernel
theorem dX7_drop_58 : decode cX7_drop 58 = .ok (.putfield 130, 3) := by decide +kernel
theorem dX7_drop_61 : decode cX7_drop 61 = .ok (.iload 4, 2) := by decide +kernel
theorem dX7_drop_63 : decode cX7_drop 63 = .ok (.ireturn, 1) := by decide +kernel
theorem dX7_feed_0 : decode cX7_feed 0 = .ok (.iload_n 3, 1) := by decide +kernel
theorem dX7_feed_1 : decode cX7_feed 1 = .ok (.iconst 1, 1) := by decide +kernel
theorem dX7_feed_2 : decode cX7_feed 2 = .ok (.bipush 8, 2) := by decide +kernel
theorem dX7_feed_4 : decode cX7_feed 4 = .ok (.invokestatic 115, 3) := by decide +kernel
theorem dX7_feed_7 : decode cX7_feed 7 = .ok (.ifCond .ne 9, 3) := by decide +kernel
theorem dX7_feed_10 : decode cX7_feed 10 = .ok (.aload_n 0, 1) := by decide +kernel
theorem dX7_feed_11 : decode cX7_feed 11 = .ok (.iconst 1, 1) := by decide +kernel
theorem dX7_feed_12 : decode cX7_feed 12 = .ok (.invokevirtual 73, 3) := by decide +kernel
theorem dX7_feed_15 : decode cX7_feed 15 = .ok (.ireturn, 1) := by decide +kernel
theorem dX7_feed_16 : decode cX7_feed 16 = .ok (.aload_n 0, 1) := by decide +kernel
theorem dX7_feed_17 : decode cX7_feed 17 = .ok (.getfield 10, 3) := by decide +kernel
theorem dX7_feed_20 : decode cX7_feed 20 = .ok (.getfield 133, 3) := by decide +kernel
theorem dX7_feed_23 : decode cX7_feed 23 = .ok (.bipush 60, 2) := by decide +kernel
theorem dX7_feed_25 : decode cX7_feed 25 = .ok (.iload_n 3, 1) := by decide +kernel
theorem dX7_feed_26 : decode cX7_feed 26 = .ok (.isub, 1) := by decide +kernel
theorem dX7_feed_27 : decode cX7_feed 27 = .ok (.if_icmp .le 9, 3) := by decide +kernel
theorem dX7_feed_30 : decode cX7_feed 30 = .ok (.aload_n 0, 1) := by decide +kernel
theorem dX7_feed_31 : decode cX7_feed 31 = .ok (.iconst 4, 1) := by decide +kernel
theorem dX7_feed_32 : decode cX7_feed 32 = .ok (.invokevirtual 73, 3) := by decide +kernel
theorem dX7_feed_35 : decode cX7_feed 35 = .ok (.ireturn, 1) := by decide +kernel
theorem dX7_feed_36 : decode cX7_feed 36 = .ok (.aload_n 0, 1) := by decide +kernel
theorem dX7_feed_37 : decode cX7_feed 37 = .ok (.getfield 10, 3) := by decide +kernel
theorem dX7_feed_40 : decode cX7_feed 40 = .ok (.lload_n 1, 1) := by decide +kernel
theorem dX7_feed_41 : decode cX7_feed 41 = .ok (.iload_n 3, 1) := by decide +kernel
theorem dX7_feed_42 : decode cX7_feed 42 = .ok (.invokevirtual 136, 3) := by decide +kernel
theorem dX7_feed_45 : decode cX7_feed 45 = .ok (.aload_n 0, 1) := by decide +kernel
theorem dX7_feed_46 : decode cX7_feed 46 = .ok (.getfield 10, 3) := by decide +kernel
theorem dX7_feed_49 : decode cX7_feed 49 = .ok (.getfield 133, 3) := by decide +kernel
theorem dX7_feed_52 : decode cX7_feed 52 = .ok (.ireturn, 1) := by decide +kernel
theorem dX7_text_0 : decode cX7_text 0 = .ok (.iload_n 1, 1) := by decide +kernel
theorem dX7_text_1 : decode cX7_text 1 = .ok (.invokestatic 140, 3) := by decide +kernel
theorem dX7_text_4 : decode cX7_text 4 = .ok (.ifCond .ne 9, 3) := by decide +kernel
theorem dX7_text_7 : decode cX7_text 7 = .ok (.aload_n 0, 1) := by decide +kernel
theorem dX7_text_8 : decode cX7_text 8 = .ok (.iconst 1, 1) := by decide +kernel
theorem dX7_text_9 : decode cX7_text 9 = .ok (.invokevirtual 73, 3) := by decide +kernel
theorem dX7_text_12 : decode cX7_text 12 = .ok (.ireturn, 1) := by decide +kernel
theorem dX7_text_13 : decode cX7_text 13 = .ok (.aload_n 0, 1) := by decide +kernel
theorem dX7_text_14 : decode cX7_text 14 = .ok (.getfield 28, 3) := by decide +kernel
theorem dX7_text_17 : decode cX7_text 17 = .ok (.aload_n 0, 1) := by decide +kernel
theorem dX7_text_18 : decode cX7_text 18 = .ok (.getfield 10, 3) := by decide +kernel
theorem dX7_text_21 : decode cX7_text 21 = .ok (.getfield 133, 3) := by decide +kernel
theorem dX7_text_24 : decode cX7_text 24 = .ok (.iload_n 1, 1) := by decide +kernel
theorem dX7_text_25 : decode cX7_text 25 = .ok (.invokevirtual 143, 3) := by decide +kernel
theorem dX7_text_28 : decode cX7_text 28 = .ok (.istore_n 2, 1) := by decide +kernel
theorem dX7_text_29 : decode cX7_text 29 = .ok (.aload_n 0, 1) := by decide +kernel
theorem dX7_text_30 : decode cX7_text 30 = .ok (.getfield 10, 3) := by decide +kernel
theorem dX7_text_33 : decode cX7_text 33 = .ok (.iconst 0, 1) := by decide +kernel
theorem dX7_text_34 : decode cX7_text 34 = .ok (.putfield 133, 3) := by decide +kernel
theorem dX7_text_37 : decode cX7_text 37 = .ok (.iload_n 2, 1) := by decide +kernel
theorem dX7_text_38 : decode cX7_text 38 = .ok (.ifCond .lt 8, 3) := by decide +kernel
theorem dX7_text_41 : decode cX7_text 41 = .ok (.bipush (-10), 2) := by decide +kernel
theorem dX7_text_43 : decode cX7_text 43 = .ok (.iload_n 2, 1) := by decide +kernel
theorem dX7_text_44 : decode cX7_text 44 = .ok (.isub, 1) := by decide +kernel
theorem dX7_text_45 : decode cX7_text 45 = .ok (.ireturn, 1) := by decide +kernel
theorem dX7_text_46 : decode cX7_text 46 = .ok (.aload_n 0, 1) := by decide +kernel
theorem dX7_text_47 : decode cX7_text 47 = .ok (.getfield 10, 3) := by decide +kernel
theorem dX7_text_50 : decode cX7_text 50 = .ok (.iload_n 1, 1) := by decide +kernel
theorem dX7_text_51 : decode cX7_text 51 = .ok (.invokevirtual 146, 3) := by decide +kernel
theorem dX7_text_54 : decode cX7_text 54 = .ok (.aload_n 0, 1) := by decide +kernel
theorem dX7_text_55 : decode cX7_text 55 = .ok (.getfield 28, 3) := by decide +kernel
theorem dX7_text_58 : decode cX7_text 58 = .ok (.getfield 150, 3) := by decide +kernel
theorem dX7_text_61 : decode cX7_text 61 = .ok (.aload_n 0, 1) := by decide +kernel
theorem dX7_text_62 : decode cX7_text 62 = .ok (.getfield 28, 3) := by decide +kernel
theorem dX7_text_65 : decode cX7_text 65 = .ok (.getfield 153, 3) := by decide +kernel
theorem dX7_text_68 : decode cX7_text 68 = .ok (.invokevirtual 156, 3) := by decide +kernel
theorem dX7_text_71 : decode cX7_text 71 = .ok (.iconst 1, 1) := by decide +kernel
theorem dX7_text_72 : decode cX7_text 72 = .ok (.ireturn, 1) := by decide +kernel
theorem dX7_untell_0 : decode cX7_untell 0 = .ok (.iload_n 1, 1) := by decide +kernel
theorem dX7_untell_1 : decode cX7_untell 1 = .ok (.invokestatic 140, 3) := by decide +kernel
theorem dX7_untell_4 : decode cX7_untell 4 = .ok (.ifCond .ne 9, 3) := by decide +kernel
theorem dX7_untell_7 : decode cX7_untell 7 = .ok (.aload_n 0, 1) := by decide +kernel
theorem dX7_untell_8 : decode cX7_untell 8 = .ok (.iconst 1, 1) := by decide +kernel
theorem dX7_untell_9 : decode cX7_untell 9 = .ok (.invokevirtual 73, 3) := by decide +kernel
theorem dX7_untell_12 : decode cX7_untell 12 = .ok (.ireturn, 1) := by decide +kernel
theorem dX7_untell_13 : decode cX7_untell 13 = .ok (.aload_n 0, 1) := by decide +kernel
theorem dX7_untell_14 : decode cX7_untell 14 = .ok (.getfield 10, 3) := by decide +kernel
theorem dX7_untell_17 : decode cX7_untell 17 = .ok (.iload_n 1, 1) := by decide +kernel
theorem dX7_untell_18 : decode cX7_untell 18 = .ok (.invokevirtual 146, 3) := by decide +kernel
theorem dX7_untell_21 : decode cX7_untell 21 = .ok (.astore_n 2, 1) := by decide +kernel
theorem dX7_untell_22 : decode cX7_untell 22 = .ok (.aload_n 2, 1) := by decide +kernel
theorem dX7_untell_23 : decode cX7_untell 23 = .ok (.getfield 162, 3) := by decide +kernel
theorem dX7_untell_26 : decode cX7_untell 26 = .ok (.ifCond .le 7, 3) := by decide +kernel
theorem dX7_untell_29 : decode cX7_untell 29 = .ok (.iconst 1, 1) := by decide +kernel
theorem dX7_untell_30 : decode cX7_untell 30 = .ok (.goto 4, 3) := by decide +kernel
theorem dX7_untell_33 : decode cX7_untell 33 = .ok (.iconst 0, 1) := by decide +kernel
theorem dX7_untell_34 : decode cX7_untell 34 = .ok (.istore_n 3, 1) := by decide +kernel
theorem dX7_untell_35 : decode cX7_untell 35 = .ok (.aload_n 2, 1) := by decide +kernel
theorem dX7_untell_36 : decode cX7_untell 36 = .ok (.iconst 0, 1) := by decide +kernel
theorem dX7_untell_37 : decode cX7_untell 37 = .ok (.putfield 162, 3) := by decide +kernel
theorem dX7_untell_40 : decode cX7_untell 40 = .ok (.iload_n 3, 1) := by decide +kernel
theorem dX7_untell_41 : decode cX7_untell 41 = .ok (.ireturn, 1) := by decide +kernel
theorem dX7_law_0 : decode cX7_law 0 = .ok (.iload_n 1, 1) := by decide +kernel
theorem dX7_law_1 : decode cX7_law 1 = .ok (.invokestatic 140, 3) := by decide +kernel
theorem dX7_law_4 : decode cX7_law 4 = .ok (.ifCond .ne 9, 3) := by decide +kernel
theorem dX7_law_7 : decode cX7_law 7 = .ok (.aload_n 0, 1) := by decide +kernel
theorem dX7_law_8 : decode cX7_law 8 = .ok (.iconst 1, 1) := by decide +kernel
theorem dX7_law_9 : decode cX7_law 9 = .ok (.invokevirtual 73, 3) := by decide +kernel
theorem dX7_law_12 : decode cX7_law 12 = .ok (.ireturn, 1) := by decide +kernel
theorem dX7_law_13 : decode cX7_law 13 = .ok (.aload_n 0, 1) := by decide +kernel
theorem dX7_law_14 : decode cX7_law 14 = .ok (.getfield 10, 3) := by decide +kernel
theorem dX7_law_17 : decode cX7_law 17 = .ok (.iload_n 1, 1) := by decide +kernel
theorem dX7_law_18 : decode cX7_law 18 = .ok (.invokevirtual 146, 3) := by decide +kernel
theorem dX7_law_21 : decode cX7_law 21 = .ok (.iload_n 2, 1) := by decide +kernel
theorem dX7_law_22 : decode cX7_law 22 = .ok (.iload_n 3, 1) := by decide +kernel
theorem dX7_law_23 : decode cX7_law 23 = .ok (.iload 4, 2) := by decide +kernel
theorem dX7_law_25 : decode cX7_law 25 = .ok (.invokevirtual 165, 3) := by decide +kernel
theorem dX7_law_28 : decode cX7_law 28 = .ok (.ireturn, 1) := by decide +kernel
theorem dX7_hours_0 : decode cX7_hours 0 = .ok (.iload_n 1, 1) := by decide +kernel
theorem dX7_hours_1 : decode cX7_hours 1 = .ok (.iconst 1, 1) := by decide +kernel
theorem dX7_hours_2 : decode cX7_hours 2 = .ok (.bipush 60, 2) := by decide +kernel
theorem dX7_hours_4 : decode cX7_hours 4 = .ok (.invokestatic 115, 3) := by decide +kernel
theorem dX7_hours_7 : decode cX7_hours 7 = .ok (.ifCond .ne 9, 3) := by decide +kernel
theorem dX7_hours_10 : decode cX7_hours 10 = .ok (.aload_n 0, 1) := by decide +kernel
theorem dX7_hours_11 : decode cX7_hours 11 = .ok (.iconst 1, 1) := by decide +kernel
theorem dX7_hours_12 : decode cX7_hours 12 = .ok (.invokevirtual 73, 3) := by decide +kernel
theorem dX7_hours_15 : decode cX7_hours 15 = .ok (.ireturn, 1) := by decide +kernel
theorem dX7_hours_16 : decode cX7_hours 16 = .ok (.aload_n 0, 1) := by decide +kernel
theorem dX7_hours_17 : decode cX7_hours 17 = .ok (.getfield 10, 3) := by decide +kernel
theorem dX7_hours_20 : decode cX7_hours 20 = .ok (.getfield 34, 3) := by decide +kernel
theorem dX7_hours_23 : decode cX7_hours 23 = .ok (.astore_n 2, 1) := by decide +kernel
theorem dX7_hours_24 : decode cX7_hours 24 = .ok (.aload_n 2, 1) := by decide +kernel
theorem dX7_hours_25 : decode cX7_hours 25 = .ok (.getfield 168, 3) := by decide +kernel
theorem dX7_hours_28 : decode cX7_hours 28 = .ok (.sipush 9999, 3) := by decide +kernel
theorem dX7_hours_31 : decode cX7_hours 31 = .ok (.iload_n 1, 1) := by decide +kernel
theorem dX7_hours_32 : decode cX7_hours 32 = .ok (.isub, 1) := by decide +kernel
theorem dX7_hours_33 : decode cX7_hours 33 = .ok (.if_icmp .le 9, 3) := by decide +kernel
theorem dX7_hours_36 : decode cX7_hours 36 = .ok (.aload_n 0, 1) := by decide +kernel
theorem dX7_hours_37 : decode cX7_hours 37 = .ok (.iconst 3, 1) := by decide +kernel
theorem dX7_hours_38 : decode cX7_hours 38 = .ok (.invokevirtual 73, 3) := by decide +kernel
theorem dX7_hours_41 : decode cX7_hours 41 = .ok (.ireturn, 1) := by decide +kernel
theorem dX7_hours_42 : decode cX7_hours 42 = .ok (.iconst 0, 1) := by decide +kernel
theorem dX7_hours_43 : decode cX7_hours 43 = .ok (.istore_n 3, 1) := by decide +kernel
theorem dX7_hours_44 : decode cX7_hours 44 = .ok (.iload_n 3, 1) := by decide +kernel
theorem dX7_hours_45 : decode cX7_hours 45 = .ok (.iload_n 1, 1) := by decide +kernel
theorem dX7_hours_46 : decode cX7_hours 46 = .ok (.if_icmp .ge 14, 3) := by decide +kernel
theorem dX7_hours_49 : decode cX7_hours 49 = .ok (.aload_n 2, 1) := by decide +kernel
theorem dX7_hours_50 : decode cX7_hours 50 = .ok (.iconst (-1), 1) := by decide +kernel
theorem dX7_hours_51 : decode cX7_hours 51 = .ok (.invokevirtual 171, 3) := by decide +kernel
theorem dX7_hours_54 : decode cX7_hours 54 = .ok (.iinc 3 1, 3) := by decide +kernel
theorem dX7_hours_57 : decode cX7_hours 57 = .ok (.goto (-13), 3) := by decide +kernel
theorem dX7_hours_60 : decode cX7_hours 60 = .ok (.aload_n 2, 1) := by decide +kernel
theorem dX7_hours_61 : decode cX7_hours 61 = .ok (.invokevirtual 175, 3) := by decide +kernel
theorem dX7_hours_64 : decode cX7_hours 64 = .ok (.ireturn, 1) := by decide +kernel
theorem dX7_loose_0 : decode cX7_loose 0 = .ok (.iload_n 1, 1) := by decide +kernel
theorem dX7_loose_1 : decode cX7_loose 1 = .ok (.iconst 1, 1) := by decide +kernel
theorem dX7_loose_2 : decode cX7_loose 2 = .ok (.bipush 30, 2) := by decide +kernel
theorem dX7_loose_4 : decode cX7_loose 4 = .ok (.invokestatic 115, 3) := by decide +kernel
theorem dX7_loose_7 : decode cX7_loose 7 = .ok (.ifCond .ne 9, 3) := by decide +kernel
theorem dX7_loose_10 : decode cX7_loose 10 = .ok (.aload_n 0, 1) := by decide +kernel
theorem dX7_loose_11 : decode cX7_loose 11 = .ok (.iconst 1, 1) := by decide +kernel
theorem dX7_loose_12 : decode cX7_loose 12 = .ok (.invokevirtual 73, 3) := by decide +kernel
theorem dX7_loose_15 : decode cX7_loose 15 = .ok (.ireturn, 1) := by decide +kernel
theorem dX7_loose_16 : decode cX7_loose 16 = .ok (.aload_n 0, 1) := by decide +kernel
theorem dX7_loose_17 : decode cX7_loose 17 = .ok (.getfield 10, 3) := by decide +kernel
theorem dX7_loose_20 : decode cX7_loose 20 = .ok (.getfield 34, 3) := by decide +kernel
theorem dX7_loose_23 : decode cX7_loose 23 = .ok (.astore_n 2, 1) := by decide +kernel
theorem dX7_loose_24 : decode cX7_loose 24 = .ok (.aload_n 2, 1) := by decide +kernel
theorem dX7_loose_25 : decode cX7_loose 25 = .ok (.getfield 168, 3) := by decide +kernel
theorem dX7_loose_28 : decode cX7_loose 28 = .ok (.sipush 9999, 3) := by decide +kernel
theorem dX7_loose_31 : decode cX7_loose 31 = .ok (.iload_n 1, 1) := by decide +kernel
theorem dX7_loose_32 : decode cX7_loose 32 = .ok (.isub, 1) := by decide +kernel
theorem dX7_loose_33 : decode cX7_loose 33 = .ok (.if_icmp .le 9, 3) := by decide +kernel
theorem dX7_loose_36 : decode cX7_loose 36 = .ok (.aload_n 0, 1) := by decide +kernel
theorem dX7_loose_37 : decode cX7_loose 37 = .ok (.iconst 3, 1) := by decide +kernel
theorem dX7_loose_38 : decode cX7_loose 38 = .ok (.invokevirtual 73, 3) := by decide +kernel
theorem dX7_loose_41 : decode cX7_loose 41 = .ok (.ireturn, 1) := by decide +kernel
theorem dX7_loose_42 : decode cX7_loose 42 = .ok (.iconst 0, 1) := by decide +kernel
theorem dX7_loose_43 : decode cX7_loose 43 = .ok (.istore_n 3, 1) := by decide +kernel
theorem dX7_loose_44 : decode cX7_loose 44 = .ok (.iload_n 3, 1) := by decide +kernel
theorem dX7_loose_45 : decode cX7_loose 45 = .ok (.iload_n 1, 1) := by decide +kernel
theorem dX7_loose_46 : decode cX7_loose 46 = .ok (.if_icmp .ge 16, 3) := by decide +kernel
theorem dX7_loose_49 : decode cX7_loose 49 = .ok (.aload_n 0, 1) := by decide +kernel
theorem dX7_loose_50 : decode cX7_loose 50 = .ok (.getfield 10, 3) := by decide +kernel
theorem dX7_loose_53 : decode cX7_loose 53 = .ok (.invokevirtual 179, 3) := by decide +kernel
theorem dX7_loose_56 : decode cX7_loose 56 = .ok (.iinc 3 1, 3) := by decide +kernel
theorem dX7_loose_59 : decode cX7_loose 59 = .ok (.goto (-15), 3) := by decide +kernel
theorem dX7_loose_62 : decode cX7_loose 62 = .ok (.aload_n 2, 1) := by decide +kernel
theorem dX7_loose_63 : decode cX7_loose 63 = .ok (.invokevirtual 175, 3) := by decide +kernel
theorem dX7_loose_66 : decode cX7_loose 66 = .ok (.ireturn, 1) := by decide +kernel
theorem dX7_hour_0 : decode cX7_hour 0 = .ok (.iload_n 1, 1) := by decide +kernel
theorem dX7_hour_1 : decode cX7_hour 1 = .ok (.iconst 0, 1) := by decide +kernel
theorem dX7_hour_2 : decode cX7_hour 2 = .ok (.sipush 9999, 3) := by decide +kernel
theorem dX7_hour_5 : decode cX7_hour 5 = .ok (.invokestatic 115, 3) := by decide +kernel
theorem dX7_hour_8 : decode cX7_hour 8 = .ok (.ifCond .ne 9, 3) := by decide +kernel
theorem dX7_hour_11 : decode cX7_hour 11 = .ok (.aload_n 0, 1) := by decide +kernel
theorem dX7_hour_12 : decode cX7_hour 12 = .ok (.iconst 1, 1) := by decide +kernel
theorem dX7_hour_13 : decode cX7_hour 13 = .ok (.invokevirtual 73, 3) := by decide +kernel
theorem dX7_hour_16 : decode cX7_hour 16 = .ok (.ireturn, 1) := by decide +kernel
theorem dX7_hour_17 : decode cX7_hour 17 = .ok (.aload_n 0, 1) := by decide +kernel
theorem dX7_hour_18 : decode cX7_hour 18 = .ok (.getfield 10, 3) := by decide +kernel
theorem dX7_hour_21 : decode cX7_hour 21 = .ok (.getfield 34, 3) := by decide +kernel
theorem dX7_hour_24 : decode cX7_hour 24 = .ok (.getfield 168, 3) := by decide +kernel
theorem dX7_hour_27 : decode cX7_hour 27 = .ok (.istore_n 2, 1) := by decide +kernel
theorem dX7_hour_28 : decode cX7_hour 28 = .ok (.aload_n 0, 1) := by decide +kernel
theorem dX7_hour_29 : decode cX7_hour 29 = .ok (.getfield 10, 3) := by decide +kernel
theorem dX7_hour_32 : decode cX7_hour 32 = .ok (.getfield 34, 3) := by decide +kernel
theorem dX7_hour_35 : decode cX7_hour 35 = .ok (.iload_n 1, 1) := by decide +kernel
theorem dX7_hour_36 : decode cX7_hour 36 = .ok (.putfield 168, 3) := by decide +kernel
theorem dX7_hour_39 : decode cX7_hour 39 = .ok (.iload_n 2, 1) := by decide +kernel
theorem dX7_hour_40 : decode cX7_hour 40 = .ok (.ireturn, 1) := by decide +kernel
theorem dX7_seed_0 : decode cX7_seed 0 = .ok (.aload_n 0, 1) := by decide +kernel
theorem dX7_seed_1 : decode cX7_seed 1 = .ok (.getfield 10, 3) := by decide +kernel
theorem dX7_seed_4 : decode cX7_seed 4 = .ok (.getfield 182, 3) := by decide +kernel
theorem dX7_seed_7 : decode cX7_seed 7 = .ok (.istore_n 2, 1) := by decide +kernel
theorem dX7_seed_8 : decode cX7_seed 8 = .ok (.aload_n 0, 1) := by decide +kernel
theorem dX7_seed_9 : decode cX7_seed 9 = .ok (.getfield 10, 3) := by decide +kernel
theorem dX7_seed_12 : decode cX7_seed 12 = .ok (.iload_n 1, 1) := by decide +kernel
theorem dX7_seed_13 : decode cX7_seed 13 = .ok (.putfield 182, 3) := by decide +kernel
theorem dX7_seed_16 : decode cX7_seed 16 = .ok (.iload_n 2, 1) := by decide +kernel
theorem dX7_seed_17 : decode cX7_seed 17 = .ok (.ireturn, 1) := by decide +kernel
theorem dX7_then_0 : decode cX7_then 0 = .ok (.aload_n 0, 1) := by decide +kernel
theorem dX7_then_1 : decode cX7_then 1 = .ok (.iload_n 1, 1) := by decide +kernel
theorem dX7_then_2 : decode cX7_then 2 = .ok (.invokevirtual 86, 3) := by decide +kernel
theorem dX7_then_5 : decode cX7_then 5 = .ok (.ifCond .eq 22, 3) := by decide +kernel
theorem dX7_then_8 : decode cX7_then 8 = .ok (.iload_n 2, 1) := by decide +kernel
theorem dX7_then_9 : decode cX7_then 9 = .ok (.iconst 0, 1) := by decide +kernel
theorem dX7_then_10 : decode cX7_then 10 = .ok (.bipush 60, 2) := by decide +kernel
theorem dX7_then_12 : decode cX7_then 12 = .ok (.invokestatic 115, 3) := by decide +kernel
theorem dX7_then_15 : decode cX7_then 15 = .ok (.ifCond .eq 12, 3) := by decide +kernel
theorem dX7_then_18 : decode cX7_then 18 = .ok (.iload_n 3, 1) := by decide +kernel
theorem dX7_then_19 : decode cX7_then 19 = .ok (.iconst 0, 1) := by decide +kernel
theorem dX7_then_20 : decode cX7_then 20 = .ok (.iconst 1, 1) := by decide +kernel
theorem dX7_then_21 : decode cX7_then 21 = .ok (.invokestatic 115, 3) := by decide +kernel
theorem dX7_then_24 : decode cX7_then 24 = .ok (.ifCond .ne 9, 3) := by decide +kernel
theorem dX7_then_27 : decode cX7_then 27 = .ok (.aload_n 0, 1) := by decide +kernel
theorem dX7_then_28 : decode cX7_then 28 = .ok (.iconst 1, 1) := by decide +kernel
theorem dX7_then_29 : decode cX7_then 29 = .ok (.invokevirtual 73, 3) := by decide +kernel
theorem dX7_then_32 : decode cX7_then 32 = .ok (.ireturn, 1) := by decide +kernel
theorem dX7_then_33 : decode cX7_then 33 = .ok (.aload_n 0, 1) := by decide +kernel
theorem dX7_then_34 : decode cX7_then 34 = .ok (.getfield 41, 3) := by decide +kernel
theorem dX7_then_37 : decode cX7_then 37 = .ok (.invokevirtual 185, 3) := by decide +kernel
theorem dX7_then_40 : decode cX7_then 40 = .ok (.aload_n 0, 1) := by decide +kernel
theorem dX7_then_41 : decode cX7_then 41 = .ok (.getfield 41, 3) := by decide +kernel
theorem dX7_then_44 : decode cX7_then 44 = .ok (.iload_n 1, 1) := by decide +kernel
theorem dX7_then_45 : decode cX7_then 45 = .ok (.iload_n 2, 1) := by decide +kernel
theorem dX7_then_46 : decode cX7_then 46 = .ok (.invokevirtual 188, 3) := by decide +kernel
theorem dX7_then_49 : decode cX7_then 49 = .ok (.aload_n 0, 1) := by decide +kernel
theorem dX7_then_50 : decode cX7_then 50 = .ok (.getfield 41, 3) := by decide +kernel
theorem dX7_then_53 : decode cX7_then 53 = .ok (.getfield 191, 3) := by decide +kernel
theorem dX7_then_56 : decode cX7_then 56 = .ok (.astore 4, 2) := by decide +kernel
theorem dX7_then_58 : decode cX7_then 58 = .ok (.iload_n 3, 1) := by decide +kernel
theorem dX7_then_59 : decode cX7_then 59 = .ok (.ifCond .ne 11, 3) := by decide +kernel
theorem dX7_then_62 : decode cX7_then 62 = .ok (.aload 4, 2) := by decide +kernel
theorem dX7_then_64 : decode cX7_then 64 = .ok (.getfield 98, 3) := by decide +kernel
theorem dX7_then_67 : decode cX7_then 67 = .ok (.iload_n 1, 1) := by decide +kernel
theorem dX7_then_68 : decode cX7_then 68 = .ok (.iaload, 1) := by decide +kernel
theorem dX7_then_69 : decode cX7_then 69 = .ok (.ireturn, 1) := by decide +kernel
theorem dX7_then_70 : decode cX7_then 70 = .ok (.aload 4, 2) := by decide +kernel
theorem dX7_then_72 : decode cX7_then 72 = .ok (.getfield 101, 3) := by decide +kernel
theorem dX7_then_75 : decode cX7_then 75 = .ok (.iload_n 1, 1) := by decide +kernel
theorem dX7_then_76 : decode cX7_then 76 = .ok (.baload, 1) := by decide +kernel
theorem dX7_then_77 : decode cX7_then 77 = .ok (.ifCond .eq 7, 3) := by decide +kernel
theorem dX7_then_80 : decode cX7_then 80 = .ok (.iconst 1, 1) := by decide +kernel
theorem dX7_then_81 : decode cX7_then 81 = .ok (.goto 4, 3) := by decide +kernel
theorem dX7_then_84 : decode cX7_then 84 = .ok (.iconst 0, 1) := by decide +kernel
theorem dX7_then_85 : decode cX7_then 85 = .ok (.ireturn, 1) := by decide +kernel
theorem dX7_soonest_0 : decode cX7_soonest 0 = .ok (.aload_n 0, 1) := by decide +kernel
theorem dX7_soonest_1 : decode cX7_soonest 1 = .ok (.iload_n 1, 1) := by decide +kernel
theorem dX7_soonest_2 : decode cX7_soonest 2 = .ok (.invokevirtual 86, 3) := by decide +kernel
theorem dX7_soonest_5 : decode cX7_soonest 5 = .ok (.ifCond .eq 10, 3) := by decide +kernel
theorem dX7_soonest_8 : decode cX7_soonest 8 = .ok (.iload_n 2, 1) := by decide +kernel
theorem dX7_soonest_9 : decode cX7_soonest 9 = .ok (.invokestatic 123, 3) := by decide +kernel
theorem dX7_soonest_12 : decode cX7_soonest 12 = .ok (.ifCond .ne 9, 3) := by decide +kernel
theorem dX7_soonest_15 : decode cX7_soonest 15 = .ok (.aload_n 0, 1) := by decide +kernel
theorem dX7_soonest_16 : decode cX7_soonest 16 = .ok (.iconst 1, 1) := by decide +kernel
theorem dX7_soonest_17 : decode cX7_soonest 17 = .ok (.invokevirtual 73, 3) := by decide +kernel
theorem dX7_soonest_20 : decode cX7_soonest 20 = .ok (.ireturn, 1) := by decide +kernel
theorem dX7_soonest_21 : decode cX7_soonest 21 = .ok (.aload_n 0, 1) := by decide +kernel
theorem dX7_soonest_22 : decode cX7_soonest 22 = .ok (.getfield 41, 3) := by decide +kernel
theorem dX7_soonest_25 : decode cX7_soonest 25 = .ok (.invokevirtual 185, 3) := by decide +kernel
theorem dX7_soonest_28 : decode cX7_soonest 28 = .ok (.aload_n 0, 1) := by decide +kernel
theorem dX7_soonest_29 : decode cX7_soonest 29 = .ok (.getfield 41, 3) := by decide +kernel
theorem dX7_soonest_32 : decode cX7_soonest 32 = .ok (.iload_n 1, 1) := by decide +kernel
theorem dX7_soonest_33 : decode cX7_soonest 33 = .ok (.iload_n 2, 1) := by decide +kernel
theorem dX7_soonest_34 : decode cX7_soonest 34 = .ok (.bipush 60, 2) := by decide +kernel
theorem dX7_soonest_36 : decode cX7_soonest 36 = .ok (.invokevirtual 192, 3) := by decide +kernel
theorem dX7_soonest_39 : decode cX7_soonest 39 = .ok (.istore_n 3, 1) := by decide +kernel
theorem dX7_soonest_40 : decode cX7_soonest 40 = .ok (.iload_n 3, 1) := by decide +kernel
theorem dX7_soonest_41 : decode cX7_soonest 41 = .ok (.ifCond .ge 11, 3) := by decide +kernel
theorem dX7_soonest_44 : decode cX7_soonest 44 = .ok (.aload_n 0, 1) := by decide +kernel
theorem dX7_soonest_45 : decode cX7_soonest 45 = .ok (.iconst 2, 1) := by decide +kernel
theorem dX7_soonest_46 : decode cX7_soonest 46 = .ok (.invokevirtual 73, 3) := by decide +kernel
theorem dX7_soonest_49 : decode cX7_soonest 49 = .ok (.goto 4, 3) := by decide +kernel
theorem dX7_soonest_52 : decode cX7_soonest 52 = .ok (.iload_n 3, 1) := by decide +kernel
theorem dX7_soonest_53 : decode cX7_soonest 53 = .ok (.ireturn, 1) := by decide +kernel
theorem dX7_least_0 : decode cX7_least 0 = .ok (.aload_n 0, 1) := by decide +kernel
theorem dX7_least_1 : decode cX7_least 1 = .ok (.iload_n 1, 1) := by decide +kernel
theorem dX7_least_2 : decode cX7_least 2 = .ok (.invokevirtual 86, 3) := by decide +kernel
theorem dX7_least_5 : decode cX7_least 5 = .ok (.ifCond .eq 17, 3) := by decide +kernel
theorem dX7_least_8 : decode cX7_least 8 = .ok (.iload_n 2, 1) := by decide +kernel
theorem dX7_least_9 : decode cX7_least 9 = .ok (.invokestatic 123, 3) := by decide +kernel
theorem dX7_least_12 : decode cX7_least 12 = .ok (.ifCond .eq 10, 3) := by decide +kernel
theorem dX7_least_15 : decode cX7_least 15 = .ok (.iload_n 3, 1) := by decide +kernel
theorem dX7_least_16 : decode cX7_least 16 = .ok (.invokestatic 195, 3) := by decide +kernel
theorem dX7_least_19 : decode cX7_least 19 = .ok (.ifCond .ne 9, 3) := by decide +kernel
theorem dX7_least_22 : decode cX7_least 22 = .ok (.aload_n 0, 1) := by decide +kernel
theorem dX7_least_23 : decode cX7_least 23 = .ok (.iconst 1, 1) := by decide +kernel
theorem dX7_least_24 : decode cX7_least 24 = .ok (.invokevirtual 73, 3) := by decide +kernel
theorem dX7_least_27 : decode cX7_least 27 = .ok (.ireturn, 1) := by decide +kernel
theorem dX7_least_28 : decode cX7_least 28 = .ok (.iconst 0, 1) := by decide +kernel
theorem dX7_least_29 : decode cX7_least 29 = .ok (.istore 4, 2) := by decide +kernel
theorem dX7_least_31 : decode cX7_least 31 = .ok (.iload 4, 2) := by decide +kernel
theorem dX7_least_33 : decode cX7_least 33 = .ok (.bipush 100, 2) := by decide +kernel
theorem dX7_least_35 : decode cX7_least 35 = .ok (.if_icmp .ge 27, 3) := by decide +kernel
theorem dX7_least_38 : decode cX7_least 38 = .ok (.aload_n 0, 1) := by decide +kernel
theorem dX7_least_39 : decode cX7_least 39 = .ok (.getfield 41, 3) := by decide +kernel
theorem dX7_least_42 : decode cX7_least 42 = .ok (.iload_n 1, 1) := by decide +kernel
theorem dX7_least_43 : decode cX7_least 43 = .ok (.iload 4, 2) := by decide +kernel
theorem dX7_least_45 : decode cX7_least 45 = .ok (.iload_n 2, 1) := by decide +kernel
theorem dX7_least_46 : decode cX7_least 46 = .ok (.iload_n 3, 1) := by decide +kernel
theorem dX7_least_47 : decode cX7_least 47 = .ok (.invokevirtual 198, 3) := by decide +kernel
theorem dX7_least_50 : decode cX7_least 50 = .ok (.ifCond .eq 6, 3) := by decide +kernel
theorem dX7_least_53 : decode cX7_least 53 = .ok (.iload 4, 2) := by decide +kernel
theorem dX7_least_55 : decode cX7_least 55 = .ok (.ireturn, 1) := by decide +kernel
theorem dX7_least_56 : decode cX7_least 56 = .ok (.iinc 4 1, 3) := by decide +kernel
theorem dX7_least_59 : decode cX7_least 59 = .ok (.goto (-28), 3) := by decide +kernel
theorem dX7_least_62 : decode cX7_least 62 = .ok (.aload_n 0, 1) := by decide +kernel
theorem dX7_least_63 : decode cX7_least 63 = .ok (.iconst 2, 1) := by decide +kernel
theorem dX7_least_64 : decode cX7_least 64 = .ok (.invokevirtual 73, 3) := by decide +kernel
theorem dX7_least_67 : decode cX7_least 67 = .ok (.ireturn, 1) := by decide +kernel
theorem dX7_fills_0 : decode cX7_fills 0 = .ok (.aload_n 0, 1) := by decide +kernel
theorem dX7_fills_1 : decode cX7_fills 1 = .ok (.iload_n 1, 1) := by decide +kernel
theorem dX7_fills_2 : decode cX7_fills 2 = .ok (.invokevirtual 86, 3) := by decide +kernel
theorem dX7_fills_5 : decode cX7_fills 5 = .ok (.ifCond .eq 27, 3) := by decide +kernel
theorem dX7_fills_8 : decode cX7_fills 8 = .ok (.iload_n 2, 1) := by decide +kernel
theorem dX7_fills_9 : decode cX7_fills 9 = .ok (.invokestatic 123, 3) := by decide +kernel
theorem dX7_fills_12 : decode cX7_fills 12 = .ok (.ifCond .eq 20, 3) := by decide +kernel
theorem dX7_fills_15 : decode cX7_fills 15 = .ok (.iload_n 3, 1) := by decide +kernel
theorem dX7_fills_16 : decode cX7_fills 16 = .ok (.invokestatic 195, 3) := by decide +kernel
theorem dX7_fills_19 : decode cX7_fills 19 = .ok (.ifCond .eq 13, 3) := by decide +kernel
theorem dX7_fills_22 : decode cX7_fills 22 = .ok (.iload 4, 2) := by decide +kernel
theorem dX7_fills_24 : decode cX7_fills 24 = .ok (.iconst 0, 1) := by decide +kernel
theorem dX7_fills_25 : decode cX7_fills 25 = .ok (.iconst 1, 1) := by decide +kernel
theorem dX7_fills_26 : decode cX7_fills 26 = .ok (.invokestatic 115, 3) := by decide +kernel
theorem dX7_fills_29 : decode cX7_fills 29 = .ok (.ifCond .ne 9, 3) := by decide +kernel
theorem dX7_fills_32 : decode cX7_fills 32 = .ok (.aload_n 0, 1) := by decide +kernel
theorem dX7_fills_33 : decode cX7_fills 33 = .ok (.iconst 1, 1) := by decide +kernel
theorem dX7_fills_34 : decode cX7_fills 34 = .ok (.invokevirtual 73, 3) := by decide +kernel
theorem dX7_fills_37 : decode cX7_fills 37 = .ok (.ireturn, 1) := by decide +kernel
theorem dX7_fills_38 : decode cX7_fills 38 = .ok (.aload_n 0, 1) := by decide +kernel
theorem dX7_fills_39 : decode cX7_fills 39 = .ok (.getfield 41, 3) := by decide +kernel
theorem dX7_fills_42 : decode cX7_fills 42 = .ok (.iload_n 1, 1) := by decide +kernel
theorem dX7_fills_43 : decode cX7_fills 43 = .ok (.iload_n 2, 1) := by decide +kernel
theorem dX7_fills_44 : decode cX7_fills 44 = .ok (.iload_n 3, 1) := by decide +kernel
theorem dX7_fills_45 : decode cX7_fills 45 = .ok (.invokevirtual 202, 3) := by decide +kernel
theorem dX7_fills_48 : decode cX7_fills 48 = .ok (.istore 5, 2) := by decide +kernel
theorem dX7_fills_50 : decode cX7_fills 50 = .ok (.iload 5, 2) := by decide +kernel
theorem dX7_fills_52 : decode cX7_fills 52 = .ok (.ifCond .ge 9, 3) := by decide +kernel
theorem dX7_fills_55 : decode cX7_fills 55 = .ok (.aload_n 0, 1) := by decide +kernel
theorem dX7_fills_56 : decode cX7_fills 56 = .ok (.iconst 2, 1) := by decide +kernel
theorem dX7_fills_57 : decode cX7_fills 57 = .ok (.invokevirtual 73, 3) := by decide +kernel
theorem dX7_fills_60 : decode cX7_fills 60 = .ok (.ireturn, 1) := by decide +kernel
theorem dX7_fills_61 : decode cX7_fills 61 = .ok (.iload 4, 2) := by decide +kernel
theorem dX7_fills_63 : decode cX7_fills 63 = .ok (.ifCond .ne 11, 3) := by decide +kernel
theorem dX7_fills_66 : decode cX7_fills 66 = .ok (.iload 5, 2) := by decide +kernel
theorem dX7_fills_68 : decode cX7_fills 68 = .ok (.invokestatic 205, 3) := by decide +kernel
theorem dX7_fills_71 : decode cX7_fills 71 = .ok (.goto 5, 3) := by decide +kernel
theorem dX7_fills_74 : decode cX7_fills 74 = .ok (.iload 5, 2) := by decide +kernel
theorem dX7_fills_76 : decode cX7_fills 76 = .ok (.ireturn, 1) := by decide +kernel
theorem dX7_withWhom_0 : decode cX7_withWhom 0 = .ok (.aload_n 0, 1) := by decide +kernel
theorem dX7_withWhom_1 : decode cX7_withWhom 1 = .ok (.iload_n 1, 1) := by decide +kernel
theorem dX7_withWhom_2 : decode cX7_withWhom 2 = .ok (.invokevirtual 86, 3) := by decide +kernel
theorem dX7_withWhom_5 : decode cX7_withWhom 5 = .ok (.ifCond .eq 10, 3) := by decide +kernel
theorem dX7_withWhom_8 : decode cX7_withWhom 8 = .ok (.iload_n 2, 1) := by decide +kernel
theorem dX7_withWhom_9 : decode cX7_withWhom 9 = .ok (.invokestatic 195, 3) := by decide +kernel
theorem dX7_withWhom_12 : decode cX7_withWhom 12 = .ok (.ifCond .ne 9, 3) := by decide +kernel
theorem dX7_withWhom_15 : decode cX7_withWhom 15 = .ok (.aload_n 0, 1) := by decide +kernel
theorem dX7_withWhom_16 : decode cX7_withWhom 16 = .ok (.iconst 1, 1) := by decide +kernel
theorem dX7_withWhom_17 : decode cX7_withWhom 17 = .ok (.invokevirtual 73, 3) := by decide +kernel
theorem dX7_withWhom_20 : decode cX7_withWhom 20 = .ok (.ireturn, 1) := by decide +kernel
theorem dX7_withWhom_21 : decode cX7_withWhom 21 = .ok (.iconst (-1), 1) := by decide +kernel
theorem dX7_withWhom_22 : decode cX7_withWhom 22 = .ok (.istore_n 3, 1) := by decide +kernel
theorem dX7_withWhom_23 : decode cX7_withWhom 23 = .ok (.iconst (-1), 1) := by decide +kernel
theorem dX7_withWhom_24 : decode cX7_withWhom 24 = .ok (.istore 4, 2) := by decide +kernel
theorem dX7_withWhom_26 : decode cX7_withWhom 26 = .ok (.iconst 0, 1) := by decide +kernel
theorem dX7_withWhom_27 : decode cX7_withWhom 27 = .ok (.istore 5, 2) := by decide +kernel
theorem dX7_withWhom_29 : decode cX7_withWhom 29 = .ok (.iload 5, 2) := by decide +kernel
theorem dX7_withWhom_31 : decode cX7_withWhom 31 = .ok (.aload_n 0, 1) := by decide +kernel
theorem dX7_withWhom_32 : decode cX7_withWhom 32 = .ok (.getfield 10, 3) := by decide +kernel
theorem dX7_withWhom_35 : decode cX7_withWhom 35 = .ok (.getfield 34, 3) := by decide +kernel
theorem dX7_withWhom_38 : decode cX7_withWhom 38 = .ok (.getfield 77, 3) := by decide +kernel
theorem dX7_withWhom_41 : decode cX7_withWhom 41 = .ok (.if_icmp .ge 46, 3) := by decide +kernel
theorem dX7_withWhom_44 : decode cX7_withWhom 44 = .ok (.iload 5, 2) := by decide +kernel
theorem dX7_withWhom_46 : decode cX7_withWhom 46 = .ok (.iload_n 1, 1) := by decide +kernel
theorem dX7_withWhom_47 : decode cX7_withWhom 47 = .ok (.if_icmp .ne 7, 3) := by decide +kernel
theorem dX7_withWhom_50 : decode cX7_withWhom 50 = .ok (.iconst (-1), 1) := by decide +kernel
theorem dX7_withWhom_51 : decode cX7_withWhom 51 = .ok (.goto 14, 3) := by decide +kernel
theorem dX7_withWhom_54 : decode cX7_withWhom 54 = .ok (.aload_n 0, 1) := by decide +kernel
theorem dX7_withWhom_55 : decode cX7_withWhom 55 = .ok (.getfield 41, 3) := by decide +kernel
theorem dX7_withWhom_58 : decode cX7_withWhom 58 = .ok (.iload_n 1, 1) := by decide +kernel
theorem dX7_withWhom_59 : decode cX7_withWhom 59 = .ok (.iload 5, 2) := by decide +kernel
theorem dX7_withWhom_61 : decode cX7_withWhom 61 = .ok (.iload_n 2, 1) := by decide +kernel
theorem dX7_withWhom_62 : decode cX7_withWhom 62 = .ok (.invokevirtual 210, 3) := by decide +kernel
theorem dX7_withWhom_65 : decode cX7_withWhom 65 = .ok (.istore 6, 2) := by decide +kernel
theorem dX7_withWhom_67 : decode cX7_withWhom 67 = .ok (.iload 6, 2) := by decide +kernel
theorem dX7_withWhom_69 : decode cX7_withWhom 69 = .ok (.iload 4, 2) := by decide +kernel
theorem dX7_withWhom_71 : decode cX7_withWhom 71 = .ok (.if_icmp .le 10, 3) := by decide +kernel
theorem dX7_withWhom_74 : decode cX7_withWhom 74 = .ok (.iload 6, 2) := by decide +kernel
theorem dX7_withWhom_76 : decode cX7_withWhom 76 = .ok (.istore 4, 2) := by decide +kernel
theorem dX7_withWhom_78 : decode cX7_withWhom 78 = .ok (.iload 5, 2) := by decide +kernel
theorem dX7_withWhom_80 : decode cX7_withWhom 80 = .ok (.istore_n 3, 1) := by decide +kernel
theorem dX7_withWhom_81 : decode cX7_withWhom 81 = .ok (.iinc 5 1, 3) := by decide +kernel
theorem dX7_withWhom_84 : decode cX7_withWhom 84 = .ok (.goto (-55), 3) := by decide +kernel
theorem dX7_withWhom_87 : decode cX7_withWhom 87 = .ok (.iload_n 3, 1) := by decide +kernel
theorem dX7_withWhom_88 : decode cX7_withWhom 88 = .ok (.ifCond .ge 11, 3) := by decide +kernel
theorem dX7_withWhom_91 : decode cX7_withWhom 91 = .ok (.aload_n 0, 1) := by decide +kernel
theorem dX7_withWhom_92 : decode cX7_withWhom 92 = .ok (.iconst 2, 1) := by decide +kernel
theorem dX7_withWhom_93 : decode cX7_withWhom 93 = .ok (.invokevirtual 73, 3) := by decide +kernel
theorem dX7_withWhom_96 : decode cX7_withWhom 96 = .ok (.goto 4, 3) := by decide +kernel
theorem dX7_withWhom_99 : decode cX7_withWhom 99 = .ok (.iload_n 3, 1) := by decide +kernel
theorem dX7_withWhom_100 : decode cX7_withWhom 100 = .ok (.ireturn, 1) := by decide +kernel
theorem dX7_odds_0 : decode cX7_odds 0 = .ok (.aload_n 0, 1) := by decide +kernel
theorem dX7_odds_1 : decode cX7_odds 1 = .ok (.iload_n 1, 1) := by decide +kernel
theorem dX7_odds_2 : decode cX7_odds 2 = .ok (.invokevirtual 86, 3) := by decide +kernel
theorem dX7_odds_5 : decode cX7_odds 5 = .ok (.ifCond .eq 27, 3) := by decide +kernel
theorem dX7_odds_8 : decode cX7_odds 8 = .ok (.iload_n 2, 1) := by decide +kernel
theorem dX7_odds_9 : decode cX7_odds 9 = .ok (.invokestatic 123, 3) := by decide +kernel
theorem dX7_odds_12 : decode cX7_odds 12 = .ok (.ifCond .eq 20, 3) := by decide +kernel
theorem dX7_odds_15 : decode cX7_odds 15 = .ok (.iload_n 3, 1) := by decide +kernel
theorem dX7_odds_16 : decode cX7_odds 16 = .ok (.invokestatic 195, 3) := by decide +kernel
theorem dX7_odds_19 : decode cX7_odds 19 = .ok (.ifCond .eq 13, 3) := by decide +kernel
theorem dX7_odds_22 : decode cX7_odds 22 = .ok (.iload 4, 2) := by decide +kernel
theorem dX7_odds_24 : decode cX7_odds 24 = .ok (.iconst 0, 1) := by decide +kernel
theorem dX7_odds_25 : decode cX7_odds 25 = .ok (.iconst 1, 1) := by decide +kernel
theorem dX7_odds_26 : decode cX7_odds 26 = .ok (.invokestatic 115, 3) := by decide +kernel
theorem dX7_odds_29 : decode cX7_odds 29 = .ok (.ifCond .ne 9, 3) := by decide +kernel
theorem dX7_odds_32 : decode cX7_odds 32 = .ok (.aload_n 0, 1) := by decide +kernel
theorem dX7_odds_33 : decode cX7_odds 33 = .ok (.iconst 1, 1) := by decide +kernel
theorem dX7_odds_34 : decode cX7_odds 34 = .ok (.invokevirtual 73, 3) := by decide +kernel
theorem dX7_odds_37 : decode cX7_odds 37 = .ok (.ireturn, 1) := by decide +kernel
theorem dX7_odds_38 : decode cX7_odds 38 = .ok (.iconst 0, 1) := by decide +kernel
theorem dX7_odds_39 : decode cX7_odds 39 = .ok (.istore 5, 2) := by decide +kernel
theorem dX7_odds_41 : decode cX7_odds 41 = .ok (.iconst 0, 1) := by decide +kernel
theorem dX7_odds_42 : decode cX7_odds 42 = .ok (.istore 6, 2) := by decide +kernel
theorem dX7_odds_44 : decode cX7_odds 44 = .ok (.iload 6, 2) := by decide +kernel
theorem dX7_odds_46 : decode cX7_odds 46 = .ok (.bipush 100, 2) := by decide +kernel
theorem dX7_odds_48 : decode cX7_odds 48 = .ok (.if_icmp .ge 27, 3) := by decide +kernel
theorem dX7_odds_51 : decode cX7_odds 51 = .ok (.aload_n 0, 1) := by decide +kernel
theorem dX7_odds_52 : decode cX7_odds 52 = .ok (.getfield 41, 3) := by decide +kernel
theorem dX7_odds_55 : decode cX7_odds 55 = .ok (.iload_n 1, 1) := by decide +kernel
theorem dX7_odds_56 : decode cX7_odds 56 = .ok (.iload 6, 2) := by decide +kernel
theorem dX7_odds_58 : decode cX7_odds 58 = .ok (.iload_n 2, 1) := by decide +kernel
theorem dX7_odds_59 : decode cX7_odds 59 = .ok (.iload_n 3, 1) := by decide +kernel
theorem dX7_odds_60 : decode cX7_odds 60 = .ok (.invokevirtual 198, 3) := by decide +kernel
theorem dX7_odds_63 : decode cX7_odds 63 = .ok (.ifCond .eq 6, 3) := by decide +kernel
theorem dX7_odds_66 : decode cX7_odds 66 = .ok (.iinc 5 1, 3) := by decide +kernel
theorem dX7_odds_69 : decode cX7_odds 69 = .ok (.iinc 6 1, 3) := by decide +kernel
theorem dX7_odds_72 : decode cX7_odds 72 = .ok (.goto (-28), 3) := by decide +kernel
theorem dX7_odds_75 : decode cX7_odds 75 = .ok (.iload 5, 2) := by decide +kernel
theorem dX7_odds_77 : decode cX7_odds 77 = .ok (.bipush 100, 2) := by decide +kernel
theorem dX7_odds_79 : decode cX7_odds 79 = .ok (.invokestatic 213, 3) := by decide +kernel
theorem dX7_odds_82 : decode cX7_odds 82 = .ok (.istore 6, 2) := by decide +kernel
theorem dX7_odds_84 : decode cX7_odds 84 = .ok (.iload 4, 2) := by decide +kernel
theorem dX7_odds_86 : decode cX7_odds 86 = .ok (.ifCond .ne 8, 3) := by decide +kernel
theorem dX7_odds_89 : decode cX7_odds 89 = .ok (.iload 5, 2) := by decide +kernel
theorem dX7_odds_91 : decode cX7_odds 91 = .ok (.goto 5, 3) := by decide +kernel
theorem dX7_odds_94 : decode cX7_odds 94 = .ok (.bipush 100, 2) := by decide +kernel
theorem dX7_odds_96 : decode cX7_odds 96 = .ok (.iload 6, 2) := by decide +kernel
theorem dX7_odds_98 : decode cX7_odds 98 = .ok (.idiv, 1) := by decide +kernel
theorem dX7_odds_99 : decode cX7_odds 99 = .ok (.ireturn, 1) := by decide +kernel
theorem dX7_fits_0 : decode cX7_fits 0 = .ok (.iload_n 1, 1) := by decide +kernel
theorem dX7_fits_1 : decode cX7_fits 1 = .ok (.invokestatic 216, 3) := by decide +kernel
theorem dX7_fits_4 : decode cX7_fits 4 = .ok (.ifCond .eq 20, 3) := by decide +kernel
theorem dX7_fits_7 : decode cX7_fits 7 = .ok (.aload_n 0, 1) := by decide +kernel
theorem dX7_fits_8 : decode cX7_fits 8 = .ok (.iload_n 2, 1) := by decide +kernel
theorem dX7_fits_9 : decode cX7_fits 9 = .ok (.invokevirtual 86, 3) := by decide +kernel
theorem dX7_fits_12 : decode cX7_fits 12 = .ok (.ifCond .eq 12, 3) := by decide +kernel
theorem dX7_fits_15 : decode cX7_fits 15 = .ok (.iload_n 3, 1) := by decide +kernel
theorem dX7_fits_16 : decode cX7_fits 16 = .ok (.iconst 0, 1) := by decide +kernel
theorem dX7_fits_17 : decode cX7_fits 17 = .ok (.iconst 1, 1) := by decide +kernel
theorem dX7_fits_18 : decode cX7_fits 18 = .ok (.invokestatic 115, 3) := by decide +kernel
theorem dX7_fits_21 : decode cX7_fits 21 = .ok (.ifCond .ne 9, 3) := by decide +kernel
theorem dX7_fits_24 : decode cX7_fits 24 = .ok (.aload_n 0, 1) := by decide +kernel
theorem dX7_fits_25 : decode cX7_fits 25 = .ok (.iconst 1, 1) := by decide +kernel
theorem dX7_fits_26 : decode cX7_fits 26 = .ok (.invokevirtual 73, 3) := by decide +kernel
theorem dX7_fits_29 : decode cX7_fits 29 = .ok (.ireturn, 1) := by decide +kernel
theorem dX7_fits_30 : decode cX7_fits 30 = .ok (.aload_n 0, 1) := by decide +kernel
theorem dX7_fits_31 : decode cX7_fits 31 = .ok (.getfield 55, 3) := by decide +kernel
theorem dX7_fits_34 : decode cX7_fits 34 = .ok (.iload_n 1, 1) := by decide +kernel
theorem dX7_fits_35 : decode cX7_fits 35 = .ok (.invokevirtual 219, 3) := by decide +kernel
theorem dX7_fits_38 : decode cX7_fits 38 = .ok (.ifCond .eq 9, 3) := by decide +kernel
theorem dX7_fits_41 : decode cX7_fits 41 = .ok (.aload_n 0, 1) := by decide +kernel
theorem dX7_fits_42 : decode cX7_fits 42 = .ok (.iconst 2, 1) := by decide +kernel
theorem dX7_fits_43 : decode cX7_fits 43 = .ok (.invokevirtual 73, 3) := by decide +kernel
theorem dX7_fits_46 : decode cX7_fits 46 = .ok (.ireturn, 1) := by decide +kernel
theorem dX7_fits_47 : decode cX7_fits 47 = .ok (.iconst 0, 1) := by decide +kernel
theorem dX7_fits_48 : decode cX7_fits 48 = .ok (.istore 4, 2) := by decide +kernel
theorem dX7_fits_50 : decode cX7_fits 50 = .ok (.iconst (-1), 1) := by decide +kernel
theorem dX7_fits_51 : decode cX7_fits 51 = .ok (.istore 5, 2) := by decide +kernel
theorem dX7_fits_53 : decode cX7_fits 53 = .ok (.iconst 0, 1) := by decide +kernel
theorem dX7_fits_54 : decode cX7_fits 54 = .ok (.istore 6, 2) := by decide +kernel
theorem dX7_fits_56 : decode cX7_fits 56 = .ok (.iload 6, 2) := by decide +kernel
theorem dX7_fits_58 : decode cX7_fits 58 = .ok (.bipush 100, 2) := by decide +kernel
theorem dX7_fits_60 : decode cX7_fits 60 = .ok (.if_icmp .ge 57, 3) := by decide +kernel
theorem dX7_fits_63 : decode cX7_fits 63 = .ok (.aload_n 0, 1) := by decide +kernel
theorem dX7_fits_64 : decode cX7_fits 64 = .ok (.getfield 41, 3) := by decide +kernel
theorem dX7_fits_67 : decode cX7_fits 67 = .ok (.iload_n 2, 1) := by decide +kernel
theorem dX7_fits_68 : decode cX7_fits 68 = .ok (.iload 6, 2) := by decide +kernel
theorem dX7_fits_70 : decode cX7_fits 70 = .ok (.aload_n 0, 1) := by decide +kernel
theorem dX7_fits_71 : decode cX7_fits 71 = .ok (.getfield 55, 3) := by decide +kernel
theorem dX7_fits_74 : decode cX7_fits 74 = .ok (.getfield 222, 3) := by decide +kernel
theorem dX7_fits_77 : decode cX7_fits 77 = .ok (.iload_n 1, 1) := by decide +kernel
theorem dX7_fits_78 : decode cX7_fits 78 = .ok (.aaload, 1) := by decide +kernel
theorem dX7_fits_79 : decode cX7_fits 79 = .ok (.aload_n 0, 1) := by decide +kernel
theorem dX7_fits_80 : decode cX7_fits 80 = .ok (.getfield 55, 3) := by decide +kernel
theorem dX7_fits_83 : decode cX7_fits 83 = .ok (.getfield 226, 3) := by decide +kernel
theorem dX7_fits_86 : decode cX7_fits 86 = .ok (.iload_n 1, 1) := by decide +kernel
theorem dX7_fits_87 : decode cX7_fits 87 = .ok (.iaload, 1) := by decide +kernel
theorem dX7_fits_88 : decode cX7_fits 88 = .ok (.invokevirtual 229, 3) := by decide +kernel
theorem dX7_fits_91 : decode cX7_fits 91 = .ok (.ifCond .eq 20, 3) := by decide +kernel
theorem dX7_fits_94 : decode cX7_fits 94 = .ok (.iload 5, 2) := by decide +kernel
theorem dX7_fits_96 : decode cX7_fits 96 = .ok (.ifCond .ge 8, 3) := by decide +kernel
theorem dX7_fits_99 : decode cX7_fits 99 = .ok (.iload 6, 2) := by decide +kernel
theorem dX7_fits_101 : decode cX7_fits 101 = .ok (.goto 5, 3) := by decide +kernel
theorem dX7_fits_104 : decode cX7_fits 104 = .ok (.iload 5, 2) := by decide +kernel
theorem dX7_fits_106 : decode cX7_fits 106 = .ok (.istore 5, 2) := by decide +kernel
theorem dX7_fits_108 : decode cX7_fits 108 = .ok (.iinc 4 1, 3) := by decide +kernel
theorem dX7_fits_111 : decode cX7_fits 111 = .ok (.iinc 6 1, 3) := by decide +kernel
theorem dX7_fits_114 : decode cX7_fits 114 = .ok (.goto (-58), 3) := by decide +kernel
theorem dX7_fits_117 : decode cX7_fits 117 = .ok (.iload_n 3, 1) := by decide +kernel
theorem dX7_fits_118 : decode cX7_fits 118 = .ok (.ifCond .ne 6, 3) := by decide +kernel
theorem dX7_fits_121 : decode cX7_fits 121 = .ok (.iload 4, 2) := by decide +kernel
theorem dX7_fits_123 : decode cX7_fits 123 = .ok (.ireturn, 1) := by decide +kernel
theorem dX7_fits_124 : decode cX7_fits 124 = .ok (.iload 5, 2) := by decide +kernel
theorem dX7_fits_126 : decode cX7_fits 126 = .ok (.ifCond .ge 11, 3) := by decide +kernel
theorem dX7_fits_129 : decode cX7_fits 129 = .ok (.aload_n 0, 1) := by decide +kernel
theorem dX7_fits_130 : decode cX7_fits 130 = .ok (.iconst 2, 1) := by decide +kernel
theorem dX7_fits_131 : decode cX7_fits 131 = .ok (.invokevirtual 73, 3) := by decide +kernel
theorem dX7_fits_134 : decode cX7_fits 134 = .ok (.goto 5, 3) := by decide +kernel
theorem dX7_fits_137 : decode cX7_fits 137 = .ok (.iload 5, 2) := by decide +kernel
theorem dX7_fits_139 : decode cX7_fits 139 = .ok (.ireturn, 1) := by decide +kernel
theorem dX7_voice_0 : decode cX7_voice 0 = .ok (.aload_n 0, 1) := by decide +kernel
theorem dX7_voice_1 : decode cX7_voice 1 = .ok (.iload_n 1, 1) := by decide +kernel
theorem dX7_voice_2 : decode cX7_voice 2 = .ok (.invokevirtual 86, 3) := by decide +kernel
theorem dX7_voice_5 : decode cX7_voice 5 = .ok (.ifCond .eq 12, 3) := by decide +kernel
theorem dX7_voice_8 : decode cX7_voice 8 = .ok (.iload_n 2, 1) := by decide +kernel
theorem dX7_voice_9 : decode cX7_voice 9 = .ok (.iconst 0, 1) := by decide +kernel
theorem dX7_voice_10 : decode cX7_voice 10 = .ok (.iconst 3, 1) := by decide +kernel
theorem dX7_voice_11 : decode cX7_voice 11 = .ok (.invokestatic 115, 3) := by decide +kernel
theorem dX7_voice_14 : decode cX7_voice 14 = .ok (.ifCond .ne 9, 3) := by decide +kernel
theorem dX7_voice_17 : decode cX7_voice 17 = .ok (.aload_n 0, 1) := by decide +kernel
theorem dX7_voice_18 : decode cX7_voice 18 = .ok (.iconst 1, 1) := by decide +kernel
theorem dX7_voice_19 : decode cX7_voice 19 = .ok (.invokevirtual 73, 3) := by decide +kernel
theorem dX7_voice_22 : decode cX7_voice 22 = .ok (.ireturn, 1) := by decide +kernel
theorem dX7_voice_23 : decode cX7_voice 23 = .ok (.aload_n 0, 1) := by decide +kernel
theorem dX7_voice_24 : decode cX7_voice 24 = .ok (.getfield 48, 3) := by decide +kernel
theorem dX7_voice_27 : decode cX7_voice 27 = .ok (.aload_n 0, 1) := by decide +kernel
theorem dX7_voice_28 : decode cX7_voice 28 = .ok (.getfield 10, 3) := by decide +kernel
theorem dX7_voice_31 : decode cX7_voice 31 = .ok (.getfield 34, 3) := by decide +kernel
theorem dX7_voice_34 : decode cX7_voice 34 = .ok (.getfield 89, 3) := by decide +kernel
theorem dX7_voice_37 : decode cX7_voice 37 = .ok (.iload_n 1, 1) := by decide +kernel
theorem dX7_voice_38 : decode cX7_voice 38 = .ok (.iaload, 1) := by decide +kernel
theorem dX7_voice_39 : decode cX7_voice 39 = .ok (.iload_n 1, 1) := by decide +kernel
theorem dX7_voice_40 : decode cX7_voice 40 = .ok (.aload_n 0, 1) := by decide +kernel
theorem dX7_voice_41 : decode cX7_voice 41 = .ok (.getfield 10, 3) := by decide +kernel
theorem dX7_voice_44 : decode cX7_voice 44 = .ok (.getfield 34, 3) := by decide +kernel
theorem dX7_voice_47 : decode cX7_voice 47 = .ok (.getfield 92, 3) := by decide +kernel
theorem dX7_voice_50 : decode cX7_voice 50 = .ok (.iload_n 1, 1) := by decide +kernel
theorem dX7_voice_51 : decode cX7_voice 51 = .ok (.iaload, 1) := by decide +kernel
theorem dX7_voice_52 : decode cX7_voice 52 = .ok (.iload_n 2, 1) := by decide +kernel
theorem dX7_voice_53 : decode cX7_voice 53 = .ok (.iload_n 3, 1) := by decide +kernel
theorem dX7_voice_54 : decode cX7_voice 54 = .ok (.invokevirtual 233, 3) := by decide +kernel
theorem dX7_voice_57 : decode cX7_voice 57 = .ok (.istore 4, 2) := by decide +kernel
theorem dX7_voice_59 : decode cX7_voice 59 = .ok (.aload_n 0, 1) := by decide +kernel
theorem dX7_voice_60 : decode cX7_voice 60 = .ok (.getfield 48, 3) := by decide +kernel
theorem dX7_voice_63 : decode cX7_voice 63 = .ok (.getfield 237, 3) := by decide +kernel
theorem dX7_voice_66 : decode cX7_voice 66 = .ok (.ifCond .eq 12, 3) := by decide +kernel
theorem dX7_voice_69 : decode cX7_voice 69 = .ok (.aload_n 0, 1) := by decide +kernel
theorem dX7_voice_70 : decode cX7_voice 70 = .ok (.bipush 6, 2) := by decide +kernel
theorem dX7_voice_72 : decode cX7_voice 72 = .ok (.invokevirtual 73, 3) := by decide +kernel
theorem dX7_voice_75 : decode cX7_voice 75 = .ok (.goto 5, 3) := by decide +kernel
theorem dX7_voice_78 : decode cX7_voice 78 = .ok (.iload 4, 2) := by decide +kernel
theorem dX7_voice_80 : decode cX7_voice 80 = .ok (.ireturn, 1) := by decide +kernel
theorem dX7_body_0 : decode cX7_body 0 = .ok (.iload_n 1, 1) := by decide +kernel
theorem dX7_body_1 : decode cX7_body 1 = .ok (.iconst 0, 1) := by decide +kernel
theorem dX7_body_2 : decode cX7_body 2 = .ok (.aload_n 0, 1) := by decide +kernel
theorem dX7_body_3 : decode cX7_body 3 = .ok (.getfield 48, 3) := by decide +kernel
theorem dX7_body_6 : decode cX7_body 6 = .ok (.getfield 241, 3) := by decide +kernel
theorem dX7_body_9 : decode cX7_body 9 = .ok (.iconst 1, 1) := by decide +kernel
theorem dX7_body_10 : decode cX7_body 10 = .ok (.isub, 1) := by decide +kernel
theorem dX7_body_11 : decode cX7_body 11 = .ok (.invokestatic 115, 3) := by decide +kernel
theorem dX7_body_14 : decode cX7_body 14 = .ok (.ifCond .ne 9, 3) := by decide +kernel
theorem dX7_body_17 : decode cX7_body 17 = .ok (.aload_n 0, 1) := by decide +kernel
theorem dX7_body_18 : decode cX7_body 18 = .ok (.iconst 2, 1) := by decide +kernel
theorem dX7_body_19 : decode cX7_body 19 = .ok (.invokevirtual 73, 3) := by decide +kernel
theorem dX7_body_22 : decode cX7_body 22 = .ok (.ireturn, 1) := by decide +kernel
theorem dX7_body_23 : decode cX7_body 23 = .ok (.aload_n 0, 1) := by decide +kernel
theorem dX7_body_24 : decode cX7_body 24 = .ok (.getfield 48, 3) := by decide +kernel
theorem dX7_body_27 : decode cX7_body 27 = .ok (.getfield 244, 3) := by decide +kernel
theorem dX7_body_30 : decode cX7_body 30 = .ok (.iload_n 1, 1) := by decide +kernel
theorem dX7_body_31 : decode cX7_body 31 = .ok (.iaload, 1) := by decide +kernel
theorem dX7_body_32 : decode cX7_body 32 = .ok (.ireturn, 1) := by decide +kernel
theorem dX7_sheet_0 : decode cX7_sheet 0 = .ok (.iload_n 1, 1) := by decide +kernel
theorem dX7_sheet_1 : decode cX7_sheet 1 = .ok (.invokestatic 216, 3) := by decide +kernel
theorem dX7_sheet_4 : decode cX7_sheet 4 = .ok (.ifCond .eq 25, 3) := by decide +kernel
theorem dX7_sheet_7 : decode cX7_sheet 7 = .ok (.iload_n 2, 1) := by decide +kernel
theorem dX7_sheet_8 : decode cX7_sheet 8 = .ok (.ifCond .eq 27, 3) := by decide +kernel
theorem dX7_sheet_11 : decode cX7_sheet 11 = .ok (.iload_n 2, 1) := by decide +kernel
theorem dX7_sheet_12 : decode cX7_sheet 12 = .ok (.bipush 8, 2) := by decide +kernel
theorem dX7_sheet_14 : decode cX7_sheet 14 = .ok (.if_icmp .eq 21, 3) := by decide +kernel
theorem dX7_sheet_17 : decode cX7_sheet 17 = .ok (.iload_n 2, 1) := by decide +kernel
theorem dX7_sheet_18 : decode cX7_sheet 18 = .ok (.bipush 16, 2) := by decide +kernel
theorem dX7_sheet_20 : decode cX7_sheet 20 = .ok (.if_icmp .eq 15, 3) := by decide +kernel
theorem dX7_sheet_23 : decode cX7_sheet 23 = .ok (.iload_n 2, 1) := by decide +kernel
theorem dX7_sheet_24 : decode cX7_sheet 24 = .ok (.bipush 32, 2) := by decide +kernel
theorem dX7_sheet_26 : decode cX7_sheet 26 = .ok (.if_icmp .eq 9, 3) := by decide +kernel
theorem dX7_sheet_29 : decode cX7_sheet 29 = .ok (.aload_n 0, 1) := by decide +kernel
theorem dX7_sheet_30 : decode cX7_sheet 30 = .ok (.iconst 1, 1) := by decide +kernel
theorem dX7_sheet_31 : decode cX7_sheet 31 = .ok (.invokevirtual 73, 3) := by decide +kernel
theorem dX7_sheet_34 : decode cX7_sheet 34 = .ok (.ireturn, 1) := by decide +kernel
theorem dX7_sheet_35 : decode cX7_sheet 35 = .ok (.iload_n 2, 1) := by decide +kernel
theorem dX7_sheet_36 : decode cX7_sheet 36 = .ok (.ifCond .ne 15, 3) := by decide +kernel
theorem dX7_sheet_39 : decode cX7_sheet 39 = .ok (.aload_n 0, 1) := by decide +kernel
theorem dX7_sheet_40 : decode cX7_sheet 40 = .ok (.getfield 55, 3) := by decide +kernel
theorem dX7_sheet_43 : decode cX7_sheet 43 = .ok (.iload_n 1, 1) := by decide +kernel
theorem dX7_sheet_44 : decode cX7_sheet 44 = .ok (.iconst 0, 1) := by decide +kernel
theorem dX7_sheet_45 : decode cX7_sheet 45 = .ok (.iconst 0, 1) := by decide +kernel
theorem dX7_sheet_46 : decode cX7_sheet 46 = .ok (.invokevirtual 247, 3) := by decide +kernel
theorem dX7_sheet_49 : decode cX7_sheet 49 = .ok (.iconst 1, 1) := by decide +kernel
theorem dX7_sheet_50 : decode cX7_sheet 50 = .ok (.ireturn, 1) := by decide +kernel
theorem dX7_sheet_51 : decode cX7_sheet 51 = .ok (.iload_n 3, 1) := by decide +kernel
theorem dX7_sheet_52 : decode cX7_sheet 52 = .ok (.ifCond .ge 9, 3) := by decide +kernel
theorem dX7_sheet_55 : decode cX7_sheet 55 = .ok (.aload_n 0, 1) := by decide +kernel
theorem dX7_sheet_56 : decode cX7_sheet 56 = .ok (.iconst 3, 1) := by decide +kernel
theorem dX7_sheet_57 : decode cX7_sheet 57 = .ok (.invokevirtual 73, 3) := by decide +kernel
theorem dX7_sheet_60 : decode cX7_sheet 60 = .ok (.ireturn, 1) := by decide +kernel
theorem dX7_sheet_61 : decode cX7_sheet 61 = .ok (.iload_n 3, 1) := by decide +kernel
theorem dX7_sheet_62 : decode cX7_sheet 62 = .ok (.bipush 24, 2) := by decide +kernel
theorem dX7_sheet_64 : decode cX7_sheet 64 = .ok (.if_icmp .le 9, 3) := by decide +kernel
theorem dX7_sheet_67 : decode cX7_sheet 67 = .ok (.aload_n 0, 1) := by decide +kernel
theorem dX7_sheet_68 : decode cX7_sheet 68 = .ok (.iconst 1, 1) := by decide +kernel
theorem dX7_sheet_69 : decode cX7_sheet 69 = .ok (.invokevirtual 73, 3) := by decide +kernel
theorem dX7_sheet_72 : decode cX7_sheet 72 = .ok (.ireturn, 1) := by decide +kernel
theorem dX7_sheet_73 : decode cX7_sheet 73 = .ok (.aload_n 0, 1) := by decide +kernel
theorem dX7_sheet_74 : decode cX7_sheet 74 = .ok (.getfield 55, 3) := by decide +kernel
theorem dX7_sheet_77 : decode cX7_sheet 77 = .ok (.iload_n 1, 1) := by decide +kernel
theorem dX7_sheet_78 : decode cX7_sheet 78 = .ok (.iload_n 2, 1) := by decide +kernel
theorem dX7_sheet_79 : decode cX7_sheet 79 = .ok (.iload_n 3, 1) := by decide +kernel
theorem dX7_sheet_80 : decode cX7_sheet 80 = .ok (.invokevirtual 247, 3) := by decide +kernel
theorem dX7_sheet_83 : decode cX7_sheet 83 = .ok (.iconst 1, 1) := by decide +kernel
theorem dX7_sheet_84 : decode cX7_sheet 84 = .ok (.ireturn, 1) := by decide +kernel
theorem dX7_put_0 : decode cX7_put 0 = .ok (.iload_n 1, 1) := by decide +kernel
theorem dX7_put_1 : decode cX7_put 1 = .ok (.invokestatic 216, 3) := by decide +kernel
theorem dX7_put_4 : decode cX7_put 4 = .ok (.ifCond .ne 9, 3) := by decide +kernel
theorem dX7_put_7 : decode cX7_put 7 = .ok (.aload_n 0, 1) := by decide +kernel
theorem dX7_put_8 : decode cX7_put 8 = .ok (.iconst 1, 1) := by decide +kernel
theorem dX7_put_9 : decode cX7_put 9 = .ok (.invokevirtual 73, 3) := by decide +kernel
theorem dX7_put_12 : decode cX7_put 12 = .ok (.ireturn, 1) := by decide +kernel
theorem dX7_put_13 : decode cX7_put 13 = .ok (.aload_n 0, 1) := by decide +kernel
theorem dX7_put_14 : decode cX7_put 14 = .ok (.getfield 55, 3) := by decide +kernel
theorem dX7_put_17 : decode cX7_put 17 = .ok (.iload_n 1, 1) := by decide +kernel
theorem dX7_put_18 : decode cX7_put 18 = .ok (.invokevirtual 219, 3) := by decide +kernel
theorem dX7_put_21 : decode cX7_put 21 = .ok (.ifCond .eq 9, 3) := by decide +kernel
theorem dX7_put_24 : decode cX7_put 24 = .ok (.aload_n 0, 1) := by decide +kernel
theorem dX7_put_25 : decode cX7_put 25 = .ok (.iconst 2, 1) := by decide +kernel
theorem dX7_put_26 : decode cX7_put 26 = .ok (.invokevirtual 73, 3) := by decide +kernel
theorem dX7_put_29 : decode cX7_put 29 = .ok (.ireturn, 1) := by decide +kernel
theorem dX7_put_30 : decode cX7_put 30 = .ok (.iload_n 2, 1) := by decide +kernel
theorem dX7_put_31 : decode cX7_put 31 = .ok (.iconst 0, 1) := by decide +kernel
theorem dX7_put_32 : decode cX7_put 32 = .ok (.aload_n 0, 1) := by decide +kernel
theorem dX7_put_33 : decode cX7_put 33 = .ok (.getfield 55, 3) := by decide +kernel
theorem dX7_put_36 : decode cX7_put 36 = .ok (.getfield 226, 3) := by decide +kernel
theorem dX7_put_39 : decode cX7_put 39 = .ok (.iload_n 1, 1) := by decide +kernel
theorem dX7_put_40 : decode cX7_put 40 = .ok (.iaload, 1) := by decide +kernel
theorem dX7_put_41 : decode cX7_put 41 = .ok (.iconst 1, 1) := by decide +kernel
theorem dX7_put_42 : decode cX7_put 42 = .ok (.isub, 1) := by decide +kernel
theorem dX7_put_43 : decode cX7_put 43 = .ok (.invokestatic 115, 3) := by decide +kernel
theorem dX7_put_46 : decode cX7_put 46 = .ok (.ifCond .ne 9, 3) := by decide +kernel
theorem dX7_put_49 : decode cX7_put 49 = .ok (.aload_n 0, 1) := by decide +kernel
theorem dX7_put_50 : decode cX7_put 50 = .ok (.iconst 1, 1) := by decide +kernel
theorem dX7_put_51 : decode cX7_put 51 = .ok (.invokevirtual 73, 3) := by decide +kernel
theorem dX7_put_54 : decode cX7_put 54 = .ok (.ireturn, 1) := by decide +kernel
theorem dX7_put_55 : decode cX7_put 55 = .ok (.aload_n 0, 1) := by decide +kernel
theorem dX7_put_56 : decode cX7_put 56 = .ok (.getfield 55, 3) := by decide +kernel
theorem dX7_put_59 : decode cX7_put 59 = .ok (.getfield 222, 3) := by decide +kernel
theorem dX7_put_62 : decode cX7_put 62 = .ok (.iload_n 1, 1) := by decide +kernel
theorem dX7_put_63 : decode cX7_put 63 = .ok (.aaload, 1) := by decide +kernel
theorem dX7_put_64 : decode cX7_put 64 = .ok (.iload_n 2, 1) := by decide +kernel
theorem dX7_put_65 : decode cX7_put 65 = .ok (.aload_n 0, 1) := by decide +kernel
theorem dX7_put_66 : decode cX7_put 66 = .ok (.getfield 55, 3) := by decide +kernel
theorem dX7_put_69 : decode cX7_put 69 = .ok (.iload_n 1, 1) := by decide +kernel
theorem dX7_put_70 : decode cX7_put 70 = .ok (.iload_n 3, 1) := by decide +kernel
theorem dX7_put_71 : decode cX7_put 71 = .ok (.invokevirtual 251, 3) := by decide +kernel
theorem dX7_put_74 : decode cX7_put 74 = .ok (.iastore, 1) := by decide +kernel
theorem dX7_put_75 : decode cX7_put 75 = .ok (.iconst 1, 1) := by decide +kernel
theorem dX7_put_76 : decode cX7_put 76 = .ok (.ireturn, 1) := by decide +kernel
theorem dX7_move_0 : decode cX7_move 0 = .ok (.iload_n 1, 1) := by decide +kernel
theorem dX7_move_1 : decode cX7_move 1 = .ok (.invokestatic 216, 3) := by decide +kernel
theorem dX7_move_4 : decode cX7_move 4 = .ok (.ifCond .eq 10, 3) := by decide +kernel
theorem dX7_move_7 : decode cX7_move 7 = .ok (.iload_n 3, 1) := by decide +kernel
theorem dX7_move_8 : decode cX7_move 8 = .ok (.invokestatic 216, 3) := by decide +kernel
theorem dX7_move_11 : decode cX7_move 11 = .ok (.ifCond .ne 9, 3) := by decide +kernel
theorem dX7_move_14 : decode cX7_move 14 = .ok (.aload_n 0, 1) := by decide +kernel
theorem dX7_move_15 : decode cX7_move 15 = .ok (.iconst 1, 1) := by decide +kernel
theorem dX7_move_16 : decode cX7_move 16 = .ok (.invokevirtual 73, 3) := by decide +kernel
theorem dX7_move_19 : decode cX7_move 19 = .ok (.ireturn, 1) := by decide +kernel
theorem dX7_move_20 : decode cX7_move 20 = .ok (.aload_n 0, 1) := by decide +kernel
theorem dX7_move_21 : decode cX7_move 21 = .ok (.getfield 55, 3) := by decide +kernel
theorem dX7_move_24 : decode cX7_move 24 = .ok (.iload_n 1, 1) := by decide +kernel
theorem dX7_move_25 : decode cX7_move 25 = .ok (.invokevirtual 219, 3) := by decide +kernel
theorem dX7_move_28 : decode cX7_move 28 = .ok (.ifCond .ne 14, 3) := by decide +kernel
theorem dX7_move_31 : decode cX7_move 31 = .ok (.aload_n 0, 1) := by decide +kernel
theorem dX7_move_32 : decode cX7_move 32 = .ok (.getfield 55, 3) := by decide +kernel
theorem dX7_move_35 : decode cX7_move 35 = .ok (.iload_n 3, 1) := by decide +kernel
theorem dX7_move_36 : decode cX7_move 36 = .ok (.invokevirtual 219, 3) := by decide +kernel
theorem dX7_move_39 : decode cX7_move 39 = .ok (.ifCond .eq 9, 3) := by decide +kernel
theorem dX7_move_42 : decode cX7_move 42 = .ok (.aload_n 0, 1) := by decide +kernel
theorem dX7_move_43 : decode cX7_move 43 = .ok (.iconst 2, 1) := by decide +kernel
theorem dX7_move_44 : decode cX7_move 44 = .ok (.invokevirtual 73, 3) := by decide +kernel
theorem dX7_move_47 : decode cX7_move 47 = .ok (.ireturn, 1) := by decide +kernel
theorem dX7_move_48 : decode cX7_move 48 = .ok (.aload_n 0, 1) := by decide +kernel
theorem dX7_move_49 : decode cX7_move 49 = .ok (.getfield 55, 3) := by decide +kernel
theorem dX7_move_52 : decode cX7_move 52 = .ok (.getfield 254, 3) := by decide +kernel
theorem dX7_move_55 : decode cX7_move 55 = .ok (.iload_n 1, 1) := by decide +kernel
theorem dX7_move_56 : decode cX7_move 56 = .ok (.iaload, 1) := by decide +kernel
theorem dX7_move_57 : decode cX7_move 57 = .ok (.aload_n 0, 1) := by decide +kernel
theorem dX7_move_58 : decode cX7_move 58 = .ok (.getfield 55, 3) := by decide +kernel
theorem dX7_move_61 : decode cX7_move 61 = .ok (.getfield 254, 3) := by decide +kernel
theorem dX7_move_64 : decode cX7_move 64 = .ok (.iload_n 3, 1) := by decide +kernel
theorem dX7_move_65 : decode cX7_move 65 = .ok (.iaload, 1) := by decide +kernel
theorem dX7_move_66 : decode cX7_move 66 = .ok (.if_icmp .eq 9, 3) := by decide +kernel
theorem dX7_move_69 : decode cX7_move 69 = .ok (.aload_n 0, 1) := by decide +kernel
theorem dX7_move_70 : decode cX7_move 70 = .ok (.iconst 5, 1) := by decide +kernel
theorem dX7_move_71 : decode cX7_move 71 = .ok (.invokevirtual 73, 3) := by decide +kernel
theorem dX7_move_74 : decode cX7_move 74 = .ok (.ireturn, 1) := by decide +kernel
theorem dX7_move_75 : decode cX7_move 75 = .ok (.aload_n 0, 1) := by decide +kernel
theorem dX7_move_76 : decode cX7_move 76 = .ok (.getfield 55, 3) := by decide +kernel
theorem dX7_move_79 : decode cX7_move 79 = .ok (.iload_n 1, 1) := by decide +kernel
theorem dX7_move_80 : decode cX7_move 80 = .ok (.iload_n 2, 1) := by decide +kernel
theorem dX7_move_81 : decode cX7_move 81 = .ok (.iload 5, 2) := by decide +kernel
theorem dX7_move_83 : decode cX7_move 83 = .ok (.invokevirtual 257, 3) := by decide +kernel
theorem dX7_move_86 : decode cX7_move 86 = .ok (.ifCond .eq 18, 3) := by decide +kernel
theorem dX7_move_89 : decode cX7_move 89 = .ok (.aload_n 0, 1) := by decide +kernel
theorem dX7_move_90 : decode cX7_move 90 = .ok (.getfield 55, 3) := by decide +kernel
theorem dX7_move_93 : decode cX7_move 93 = .ok (.iload_n 3, 1) := by decide +kernel
theorem dX7_move_94 : decode cX7_move 94 = .ok (.iload 4, 2) := by decide +kernel
theorem dX7_move_96 : decode cX7_move 96 = .ok (.iload 5, 2) := by decide +kernel
theorem dX7_move_98 : decode cX7_move 98 = .ok (.invokevirtual 257, 3) := by decide +kernel
theorem dX7_move_101 : decode cX7_move 101 = .ok (.ifCond .ne 9, 3) := by decide +kernel
theorem dX7_move_104 : decode cX7_move 104 = .ok (.aload_n 0, 1) := by decide +kernel
theorem dX7_move_105 : decode cX7_move 105 = .ok (.iconst 1, 1) := by decide +kernel
theorem dX7_move_106 : decode cX7_move 106 = .ok (.invokevirtual 73, 3) := by decide +kernel
theorem dX7_move_109 : decode cX7_move 109 = .ok (.ireturn, 1) := by decide +kernel
theorem dX7_move_110 : decode cX7_move 110 = .ok (.aload_n 0, 1) := by decide +kernel
theorem dX7_move_111 : decode cX7_move 111 = .ok (.getfield 55, 3) := by decide +kernel
theorem dX7_move_114 : decode cX7_move 114 = .ok (.getfield 222, 3) := by decide +kernel
theorem dX7_move_117 : decode cX7_move 117 = .ok (.iload_n 1, 1) := by decide +kernel
theorem dX7_move_118 : decode cX7_move 118 = .ok (.aaload, 1) := by decide +kernel
theorem dX7_move_119 : decode cX7_move 119 = .ok (.iload_n 2, 1) := by decide +kernel
theorem dX7_move_120 : decode cX7_move 120 = .ok (.aload_n 0, 1) := by decide +kernel
theorem dX7_move_121 : decode cX7_move 121 = .ok (.getfield 55, 3) := by decide +kernel
theorem dX7_move_124 : decode cX7_move 124 = .ok (.getfield 222, 3) := by decide +kernel
theorem dX7_move_127 : decode cX7_move 127 = .ok (.iload_n 3, 1) := by decide +kernel
theorem dX7_move_128 : decode cX7_move 128 = .ok (.aaload, 1) := by decide +kernel
theorem dX7_move_129 : decode cX7_move 129 = .ok (.iload 4, 2) := by decide +kernel
theorem dX7_move_131 : decode cX7_move 131 = .ok (.iload 5, 2) := by decide +kernel
theorem dX7_move_133 : decode cX7_move 133 = .ok (.invokestatic 260, 3) := by decide +kernel
theorem dX7_move_136 : decode cX7_move 136 = .ok (.iload 5, 2) := by decide +kernel
theorem dX7_move_138 : decode cX7_move 138 = .ok (.ireturn, 1) := by decide +kernel
theorem dX7_sures_0 : decode cX7_sures 0 = .ok (.iload_n 1, 1) := by decide +kernel
theorem dX7_sures_1 : decode cX7_sures 1 = .ok (.invokestatic 216, 3) := by decide +kernel
theorem dX7_sures_4 : decode cX7_sures 4 = .ok (.ifCond .ne 9, 3) := by decide +kernel
theorem dX7_sures_7 : decode cX7_sures 7 = .ok (.aload_n 0, 1) := by decide +kernel
theorem dX7_sures_8 : decode cX7_sures 8 = .ok (.iconst 1, 1) := by decide +kernel
theorem dX7_sures_9 : decode cX7_sures 9 = .ok (.invokevirtual 73, 3) := by decide +kernel
theorem dX7_sures_12 : decode cX7_sures 12 = .ok (.ireturn, 1) := by decide +kernel
theorem dX7_sures_13 : decode cX7_sures 13 = .ok (.aload_n 0, 1) := by decide +kernel
theorem dX7_sures_14 : decode cX7_sures 14 = .ok (.getfield 55, 3) := by decide +kernel
theorem dX7_sures_17 : decode cX7_sures 17 = .ok (.iload_n 1, 1) := by decide +kernel
theorem dX7_sures_18 : decode cX7_sures 18 = .ok (.invokevirtual 219, 3) := by decide +kernel
theorem dX7_sures_21 : decode cX7_sures 21 = .ok (.ifCond .eq 9, 3) := by decide +kernel
theorem dX7_sures_24 : decode cX7_sures 24 = .ok (.aload_n 0, 1) := by decide +kernel
theorem dX7_sures_25 : decode cX7_sures 25 = .ok (.iconst 2, 1) := by decide +kernel
theorem dX7_sures_26 : decode cX7_sures 26 = .ok (.invokevirtual 73, 3) := by decide +kernel
theorem dX7_sures_29 : decode cX7_sures 29 = .ok (.ireturn, 1) := by decide +kernel
theorem dX7_sures_30 : decode cX7_sures 30 = .ok (.aload_n 0, 1) := by decide +kernel
theorem dX7_sures_31 : decode cX7_sures 31 = .ok (.getfield 55, 3) := by decide +kernel
theorem dX7_sures_34 : decode cX7_sures 34 = .ok (.getfield 222, 3) := by decide +kernel
theorem dX7_sures_37 : decode cX7_sures 37 = .ok (.iload_n 1, 1) := by decide +kernel
theorem dX7_sures_38 : decode cX7_sures 38 = .ok (.aaload, 1) := by decide +kernel
theorem dX7_sures_39 : decode cX7_sures 39 = .ok (.astore_n 2, 1) := by decide +kernel
theorem dX7_sures_40 : decode cX7_sures 40 = .ok (.aload_n 0, 1) := by decide +kernel
theorem dX7_sures_41 : decode cX7_sures 41 = .ok (.getfield 55, 3) := by decide +kernel
theorem dX7_sures_44 : decode cX7_sures 44 = .ok (.getfield 226, 3) := by decide +kernel
theorem dX7_sures_47 : decode cX7_sures 47 = .ok (.iload_n 1, 1) := by decide +kernel
theorem dX7_sures_48 : decode cX7_sures 48 = .ok (.iaload, 1) := by decide +kernel
theorem dX7_sures_49 : decode cX7_sures 49 = .ok (.aload_n 0, 1) := by decide +kernel
theorem dX7_sures_50 : decode cX7_sures 50 = .ok (.getfield 10, 3) := by decide +kernel
theorem dX7_sures_53 : decode cX7_sures 53 = .ok (.getfield 34, 3) := by decide +kernel
theorem dX7_sures_56 : decode cX7_sures 56 = .ok (.getfield 77, 3) := by decide +kernel
theorem dX7_sures_59 : decode cX7_sures 59 = .ok (.invokestatic 266, 3) := by decide +kernel
theorem dX7_sures_62 : decode cX7_sures 62 = .ok (.istore_n 3, 1) := by decide +kernel
theorem dX7_sures_63 : decode cX7_sures 63 = .ok (.iconst 0, 1) := by decide +kernel
theorem dX7_sures_64 : decode cX7_sures 64 = .ok (.istore 4, 2) := by decide +kernel
theorem dX7_sures_66 : decode cX7_sures 66 = .ok (.iload 4, 2) := by decide +kernel
theorem dX7_sures_68 : decode cX7_sures 68 = .ok (.iload_n 3, 1) := by decide +kernel
theorem dX7_sures_69 : decode cX7_sures 69 = .ok (.if_icmp .ge 36, 3) := by decide +kernel
theorem dX7_sures_72 : decode cX7_sures 72 = .ok (.aload_n 2, 1) := by decide +kernel
theorem dX7_sures_73 : decode cX7_sures 73 = .ok (.iload 4, 2) := by decide +kernel
theorem dX7_sures_75 : decode cX7_sures 75 = .ok (.iaload, 1) := by decide +kernel
theorem dX7_sures_76 : decode cX7_sures 76 = .ok (.invokestatic 70, 3) := by decide +kernel
theorem dX7_sures_79 : decode cX7_sures 79 = .ok (.ifCond .eq 26, 3) := by decide +kernel
theorem dX7_sures_82 : decode cX7_sures 82 = .ok (.aload_n 0, 1) := by decide +kernel
theorem dX7_sures_83 : decode cX7_sures 83 = .ok (.getfield 10, 3) := by decide +kernel
theorem dX7_sures_86 : decode cX7_sures 86 = .ok (.getfield 34, 3) := by decide +kernel
theorem dX7_sures_89 : decode cX7_sures 89 = .ok (.getfield 95, 3) := by decide +kernel
theorem dX7_sures_92 : decode cX7_sures 92 = .ok (.iload 4, 2) := by decide +kernel
theorem dX7_sures_94 : decode cX7_sures 94 = .ok (.aload_n 2, 1) := by decide +kernel
theorem dX7_sures_95 : decode cX7_sures 95 = .ok (.iload 4, 2) := by decide +kernel
theorem dX7_sures_97 : decode cX7_sures 97 = .ok (.iaload, 1) := by decide +kernel
theorem dX7_sures_98 : decode cX7_sures 98 = .ok (.iastore, 1) := by decide +kernel
theorem dX7_sures_99 : decode cX7_sures 99 = .ok (.iinc 4 1, 3) := by decide +kernel
theorem dX7_sures_102 : decode cX7_sures 102 = .ok (.goto (-36), 3) := by decide +kernel
theorem dX7_sures_105 : decode cX7_sures 105 = .ok (.iload 4, 2) := by decide +kernel
theorem dX7_sures_107 : decode cX7_sures 107 = .ok (.ireturn, 1) := by decide +kernel
theorem dX7_judge_0 : decode cX7_judge 0 = .ok (.iload_n 1, 1) := by decide +kernel
theorem dX7_judge_1 : decode cX7_judge 1 = .ok (.invokestatic 216, 3) := by decide +kernel
theorem dX7_judge_4 : decode cX7_judge 4 = .ok (.ifCond .ne 9, 3) := by decide +kernel
theorem dX7_judge_7 : decode cX7_judge 7 = .ok (.aload_n 0, 1) := by decide +kernel
theorem dX7_judge_8 : decode cX7_judge 8 = .ok (.iconst 1, 1) := by decide +kernel
theorem dX7_judge_9 : decode cX7_judge 9 = .ok (.invokevirtual 73, 3) := by decide +kernel
theorem dX7_judge_12 : decode cX7_judge 12 = .ok (.ireturn, 1) := by decide +kernel
theorem dX7_judge_13 : decode cX7_judge 13 = .ok (.aload_n 0, 1) := by decide +kernel
theorem dX7_judge_14 : decode cX7_judge 14 = .ok (.getfield 55, 3) := by decide +kernel
theorem dX7_judge_17 : decode cX7_judge 17 = .ok (.iload_n 1, 1) := by decide +kernel
theorem dX7_judge_18 : decode cX7_judge 18 = .ok (.invokevirtual 219, 3) := by decide +kernel
theorem dX7_judge_21 : decode cX7_judge 21 = .ok (.ifCond .eq 9, 3) := by decide +kernel
theorem dX7_judge_24 : decode cX7_judge 24 = .ok (.aload_n 0, 1) := by decide +kernel
theorem dX7_judge_25 : decode cX7_judge 25 = .ok (.iconst 2, 1) := by decide +kernel
theorem dX7_judge_26 : decode cX7_judge 26 = .ok (.invokevirtual 73, 3) := by decide +kernel
theorem dX7_judge_29 : decode cX7_judge 29 = .ok (.ireturn, 1) := by decide +kernel
theorem dX7_judge_30 : decode cX7_judge 30 = .ok (.aload_n 0, 1) := by decide +kernel
theorem dX7_judge_31 : decode cX7_judge 31 = .ok (.getfield 10, 3) := by decide +kernel
theorem dX7_judge_34 : decode cX7_judge 34 = .ok (.getfield 34, 3) := by decide +kernel
theorem dX7_judge_37 : decode cX7_judge 37 = .ok (.aload_n 0, 1) := by decide +kernel
theorem dX7_judge_38 : decode cX7_judge 38 = .ok (.getfield 10, 3) := by decide +kernel
theorem dX7_judge_41 : decode cX7_judge 41 = .ok (.getfield 34, 3) := by decide +kernel
theorem dX7_judge_44 : decode cX7_judge 44 = .ok (.getfield 98, 3) := by decide +kernel
theorem dX7_judge_47 : decode cX7_judge 47 = .ok (.aload_n 0, 1) := by decide +kernel
theorem dX7_judge_48 : decode cX7_judge 48 = .ok (.getfield 55, 3) := by decide +kernel
theorem dX7_judge_51 : decode cX7_judge 51 = .ok (.getfield 222, 3) := by decide +kernel
theorem dX7_judge_54 : decode cX7_judge 54 = .ok (.iload_n 1, 1) := by decide +kernel
theorem dX7_judge_55 : decode cX7_judge 55 = .ok (.aaload, 1) := by decide +kernel
theorem dX7_judge_56 : decode cX7_judge 56 = .ok (.aload_n 0, 1) := by decide +kernel
theorem dX7_judge_57 : decode cX7_judge 57 = .ok (.getfield 55, 3) := by decide +kernel
theorem dX7_judge_60 : decode cX7_judge 60 = .ok (.getfield 226, 3) := by decide +kernel
theorem dX7_judge_63 : decode cX7_judge 63 = .ok (.iload_n 1, 1) := by decide +kernel
theorem dX7_judge_64 : decode cX7_judge 64 = .ok (.iaload, 1) := by decide +kernel
theorem dX7_judge_65 : decode cX7_judge 65 = .ok (.invokevirtual 271, 3) := by decide +kernel
theorem dX7_judge_68 : decode cX7_judge 68 = .ok (.ireturn, 1) := by decide +kernel
theorem dX7_image_0 : decode cX7_image 0 = .ok (.aload_n 0, 1) := by decide +kernel
theorem dX7_image_1 : decode cX7_image 1 = .ok (.getfield 16, 3) := by decide +kernel
theorem dX7_image_4 : decode cX7_image 4 = .ok (.aload_n 0, 1) := by decide +kernel
theorem dX7_image_5 : decode cX7_image 5 = .ok (.getfield 10, 3) := by decide +kernel
theorem dX7_image_8 : decode cX7_image 8 = .ok (.invokevirtual 275, 3) := by decide +kernel
theorem dX7_image_11 : decode cX7_image 11 = .ok (.aload_n 0, 1) := by decide +kernel
theorem dX7_image_12 : decode cX7_image 12 = .ok (.dup, 1) := by decide +kernel
theorem dX7_image_13 : decode cX7_image 13 = .ok (.getfield 62, 3) := by decide +kernel
theorem dX7_image_16 : decode cX7_image 16 = .ok (.iconst 1, 1) := by decide +kernel
theorem dX7_image_17 : decode cX7_image 17 = .ok (.iadd, 1) := by decide +kernel
theorem dX7_image_18 : decode cX7_image 18 = .ok (.putfield 62, 3) := by decide +kernel
theorem dX7_image_21 : decode cX7_image 21 = .ok (.aload_n 0, 1) := by decide +kernel
theorem dX7_image_22 : decode cX7_image 22 = .ok (.getfield 62, 3) := by decide +kernel
theorem dX7_image_25 : decode cX7_image 25 = .ok (.ireturn, 1) := by decide +kernel
theorem dX7_restore_0 : decode cX7_restore 0 = .ok (.aload_n 0, 1) := by decide +kernel
theorem dX7_restore_1 : decode cX7_restore 1 = .ok (.getfield 62, 3) := by decide +kernel
theorem dX7_restore_4 : decode cX7_restore 4 = .ok (.ifCond .ne 9, 3) := by decide +kernel
theorem dX7_restore_7 : decode cX7_restore 7 = .ok (.aload_n 0, 1) := by decide +kernel
theorem dX7_restore_8 : decode cX7_restore 8 = .ok (.iconst 2, 1) := by decide +kernel
theorem dX7_restore_9 : decode cX7_restore 9 = .ok (.invokevirtual 73, 3) := by decide +kernel
theorem dX7_restore_12 : decode cX7_restore 12 = .ok (.ireturn, 1) := by decide +kernel
theorem dX7_restore_13 : decode cX7_restore 13 = .ok (.aload_n 0, 1) := by decide +kernel
theorem dX7_restore_14 : decode cX7_restore 14 = .ok (.getfield 10, 3) := by decide +kernel
theorem dX7_restore_17 : decode cX7_restore 17 = .ok (.aload_n 0, 1) := by decide +kernel
theorem dX7_restore_18 : decode cX7_restore 18 = .ok (.getfield 16, 3) := by decide +kernel
theorem dX7_restore_21 : decode cX7_restore 21 = .ok (.invokevirtual 275, 3) := by decide +kernel
theorem dX7_restore_24 : decode cX7_restore 24 = .ok (.aload_n 0, 1) := by decide +kernel
theorem dX7_restore_25 : decode cX7_restore 25 = .ok (.getfield 10, 3) := by decide +kernel
theorem dX7_restore_28 : decode cX7_restore 28 = .ok (.getfield 34, 3) := by decide +kernel
theorem dX7_restore_31 : decode cX7_restore 31 = .ok (.getfield 168, 3) := by decide +kernel
theorem dX7_restore_34 : decode cX7_restore 34 = .ok (.ireturn, 1) := by decide +kernel
theorem dX7_tell_0 : decode cX7_tell 0 = .ok (.aload_n 0, 1) := by decide +kernel
theorem dX7_tell_1 : decode cX7_tell 1 = .ok (.getfield 10, 3) := by decide +kernel
theorem dX7_tell_4 : decode cX7_tell 4 = .ok (.getfield 279, 3) := by decide +kernel
theorem dX7_tell_7 : decode cX7_tell 7 = .ok (.bipush 24, 2) := by decide +kernel
theorem dX7_tell_9 : decode cX7_tell 9 = .ok (.if_icmp .lt 9, 3) := by decide +kernel
theorem dX7_tell_12 : decode cX7_tell 12 = .ok (.aload_n 0, 1) := by decide +kernel
theorem dX7_tell_13 : decode cX7_tell 13 = .ok (.iconst 4, 1) := by decide +kernel
theorem dX7_tell_14 : decode cX7_tell 14 = .ok (.invokevirtual 73, 3) := by decide +kernel
theorem dX7_tell_17 : decode cX7_tell 17 = .ok (.ireturn, 1) := by decide +kernel
theorem dX7_tell_18 : decode cX7_tell 18 = .ok (.aload_n 0, 1) := by decide +kernel
theorem dX7_tell_19 : decode cX7_tell 19 = .ok (.getfield 10, 3) := by decide +kernel
theorem dX7_tell_22 : decode cX7_tell 22 = .ok (.getfield 282, 3) := by decide +kernel
theorem dX7_tell_25 : decode cX7_tell 25 = .ok (.aload_n 0, 1) := by decide +kernel
theorem dX7_tell_26 : decode cX7_tell 26 = .ok (.getfield 10, 3) := by decide +kernel
theorem dX7_tell_29 : decode cX7_tell 29 = .ok (.getfield 279, 3) := by decide +kernel
theorem dX7_tell_32 : decode cX7_tell 32 = .ok (.iload_n 1, 1) := by decide +kernel
theorem dX7_tell_33 : decode cX7_tell 33 = .ok (.iastore, 1) := by decide +kernel
theorem dX7_tell_34 : decode cX7_tell 34 = .ok (.aload_n 0, 1) := by decide +kernel
theorem dX7_tell_35 : decode cX7_tell 35 = .ok (.getfield 10, 3) := by decide +kernel
theorem dX7_tell_38 : decode cX7_tell 38 = .ok (.dup, 1) := by decide +kernel
theorem dX7_tell_39 : decode cX7_tell 39 = .ok (.getfield 279, 3) := by decide +kernel
theorem dX7_tell_42 : decode cX7_tell 42 = .ok (.iconst 1, 1) := by decide +kernel
theorem dX7_tell_43 : decode cX7_tell 43 = .ok (.iadd, 1) := by decide +kernel
theorem dX7_tell_44 : decode cX7_tell 44 = .ok (.putfield 279, 3) := by decide +kernel
theorem dX7_tell_47 : decode cX7_tell 47 = .ok (.aload_n 0, 1) := by decide +kernel
theorem dX7_tell_48 : decode cX7_tell 48 = .ok (.getfield 10, 3) := by decide +kernel
theorem dX7_tell_51 : decode cX7_tell 51 = .ok (.getfield 279, 3) := by decide +kernel
theorem dX7_tell_54 : decode cX7_tell 54 = .ok (.ireturn, 1) := by decide +kernel
theorem dX7_check_0 : decode cX7_check 0 = .ok (.aload_n 0, 1) := by decide +kernel
theorem dX7_check_1 : decode cX7_check 1 = .ok (.getfield 10, 3) := by decide +kernel
theorem dX7_check_4 : decode cX7_check 4 = .ok (.getfield 279, 3) := by decide +kernel
theorem dX7_check_7 : decode cX7_check 7 = .ok (.istore_n 1, 1) := by decide +kernel
theorem dX7_check_8 : decode cX7_check 8 = .ok (.aload_n 0, 1) := by decide +kernel
theorem dX7_check_9 : decode cX7_check 9 = .ok (.getfield 10, 3) := by decide +kernel
theorem dX7_check_12 : decode cX7_check 12 = .ok (.getfield 34, 3) := by decide +kernel
theorem dX7_check_15 : decode cX7_check 15 = .ok (.aload_n 0, 1) := by decide +kernel
theorem dX7_check_16 : decode cX7_check 16 = .ok (.getfield 10, 3) := by decide +kernel
theorem dX7_check_19 : decode cX7_check 19 = .ok (.getfield 34, 3) := by decide +kernel
theorem dX7_check_22 : decode cX7_check 22 = .ok (.getfield 95, 3) := by decide +kernel
theorem dX7_check_25 : decode cX7_check 25 = .ok (.aload_n 0, 1) := by decide +kernel
theorem dX7_check_26 : decode cX7_check 26 = .ok (.getfield 10, 3) := by decide +kernel
theorem dX7_check_29 : decode cX7_check 29 = .ok (.getfield 282, 3) := by decide +kernel
theorem dX7_check_32 : decode cX7_check 32 = .ok (.iload_n 1, 1) := by decide +kernel
theorem dX7_check_33 : decode cX7_check 33 = .ok (.invokevirtual 271, 3) := by decide +kernel
theorem dX7_check_36 : decode cX7_check 36 = .ok (.istore_n 2, 1) := by decide +kernel
theorem dX7_check_37 : decode cX7_check 37 = .ok (.aload_n 0, 1) := by decide +kernel
theorem dX7_check_38 : decode cX7_check 38 = .ok (.getfield 10, 3) := by decide +kernel
theorem dX7_check_41 : decode cX7_check 41 = .ok (.iconst 0, 1) := by decide +kernel
theorem dX7_check_42 : decode cX7_check 42 = .ok (.putfield 279, 3) := by decide +kernel
theorem dX7_check_45 : decode cX7_check 45 = .ok (.iload_n 2, 1) := by decide +kernel
theorem dX7_check_46 : decode cX7_check 46 = .ok (.iload_n 1, 1) := by decide +kernel
theorem dX7_check_47 : decode cX7_check 47 = .ok (.if_icmp .ne 7, 3) := by decide +kernel
theorem dX7_check_50 : decode cX7_check 50 = .ok (.iconst 0, 1) := by decide +kernel
theorem dX7_check_51 : decode cX7_check 51 = .ok (.goto 6, 3) := by decide +kernel
theorem dX7_check_54 : decode cX7_check 54 = .ok (.iconst 1, 1) := by decide +kernel
theorem dX7_check_55 : decode cX7_check 55 = .ok (.iload_n 2, 1) := by decide +kernel
theorem dX7_check_56 : decode cX7_check 56 = .ok (.iadd, 1) := by decide +kernel
theorem dX7_check_57 : decode cX7_check 57 = .ok (.ireturn, 1) := by decide +kernel
theorem dX7_count_0 : decode cX7_count 0 = .ok (.iload_n 1, 1) := by decide +kernel
theorem dX7_count_1 : decode cX7_count 1 = .ok (.tableswitch 123 0 7 #[47, 58, 69, 80, 91, 99, 107, 115], 47) := by decide +kernel
theorem dX7_count_48 : decode cX7_count 48 = .ok (.aload_n 0, 1) := by decide +kernel
theorem dX7_count_49 : decode cX7_count 49 = .ok (.getfield 10, 3) := by decide +kernel
theorem dX7_count_52 : decode cX7_count 52 = .ok (.getfield 34, 3) := by decide +kernel
theorem dX7_count_55 : decode cX7_count 55 = .ok (.getfield 77, 3) := by decide +kernel
theorem dX7_count_58 : decode cX7_count 58 = .ok (.ireturn, 1) := by decide +kernel
theorem dX7_count_59 : decode cX7_count 59 = .ok (.aload_n 0, 1) := by decide +kernel
theorem dX7_count_60 : decode cX7_count 60 = .ok (.getfield 10, 3) := by decide +kernel
theorem dX7_count_63 : decode cX7_count 63 = .ok (.getfield 34, 3) := by decide +kernel
theorem dX7_count_66 : decode cX7_count 66 = .ok (.getfield 130, 3) := by decide +kernel
theorem dX7_count_69 : decode cX7_count 69 = .ok (.ireturn, 1) := by decide +kernel
theorem dX7_count_70 : decode cX7_count 70 = .ok (.aload_n 0, 1) := by decide +kernel
theorem dX7_count_71 : decode cX7_count 71 = .ok (.getfield 10, 3) := by decide +kernel
theorem dX7_count_74 : decode cX7_count 74 = .ok (.getfield 34, 3) := by decide +kernel
theorem dX7_count_77 : decode cX7_count 77 = .ok (.getfield 168, 3) := by decide +kernel
theorem dX7_count_80 : decode cX7_count 80 = .ok (.ireturn, 1) := by decide +kernel
theorem dX7_count_81 : decode cX7_count 81 = .ok (.aload_n 0, 1) := by decide +kernel
theorem dX7_count_82 : decode cX7_count 82 = .ok (.getfield 10, 3) := by decide +kernel
theorem dX7_count_85 : decode cX7_count 85 = .ok (.getfield 34, 3) := by decide +kernel
theorem dX7_count_88 : decode cX7_count 88 = .ok (.invokevirtual 175, 3) := by decide +kernel
theorem dX7_count_91 : decode cX7_count 91 = .ok (.ireturn, 1) := by decide +kernel
theorem dX7_count_92 : decode cX7_count 92 = .ok (.aload_n 0, 1) := by decide +kernel
theorem dX7_count_93 : decode cX7_count 93 = .ok (.getfield 10, 3) := by decide +kernel
theorem dX7_count_96 : decode cX7_count 96 = .ok (.getfield 133, 3) := by decide +kernel
theorem dX7_count_99 : decode cX7_count 99 = .ok (.ireturn, 1) := by decide +kernel
theorem dX7_count_100 : decode cX7_count 100 = .ok (.aload_n 0, 1) := by decide +kernel
theorem dX7_count_101 : decode cX7_count 101 = .ok (.getfield 10, 3) := by decide +kernel
theorem dX7_count_104 : decode cX7_count 104 = .ok (.getfield 279, 3) := by decide +kernel
theorem dX7_count_107 : decode cX7_count 107 = .ok (.ireturn, 1) := by decide +kernel
theorem dX7_count_108 : decode cX7_count 108 = .ok (.aload_n 0, 1) := by decide +kernel
theorem dX7_count_109 : decode cX7_count 109 = .ok (.getfield 48, 3) := by decide +kernel
theorem dX7_count_112 : decode cX7_count 112 = .ok (.getfield 241, 3) := by decide +kernel
theorem dX7_count_115 : decode cX7_count 115 = .ok (.ireturn, 1) := by decide +kernel
theorem dX7_count_116 : decode cX7_count 116 = .ok (.aload_n 0, 1) := by decide +kernel
theorem dX7_count_117 : decode cX7_count 117 = .ok (.getfield 10, 3) := by decide +kernel
theorem dX7_count_120 : decode cX7_count 120 = .ok (.getfield 182, 3) := by decide +kernel
theorem dX7_count_123 : decode cX7_count 123 = .ok (.ireturn, 1) := by decide +kernel
theorem dX7_count_124 : decode cX7_count 124 = .ok (.aload_n 0, 1) := by decide +kernel
theorem dX7_count_125 : decode cX7_count 125 = .ok (.iconst 1, 1) := by decide +kernel
theorem dX7_count_126 : decode cX7_count 126 = .ok (.invokevirtual 73, 3) := by decide +kernel
theorem dX7_count_129 : decode cX7_count 129 = .ok (.ireturn, 1) := by decide +kernel
theorem dX7_told_0 : decode cX7_told 0 = .ok (.iload_n 1, 1) := by decide +kernel
theorem dX7_told_1 : decode cX7_told 1 = .ok (.iconst 1, 1) := by decide +kernel
theorem dX7_told_2 : decode cX7_told 2 = .ok (.bipush 6, 2) := by decide +kernel
theorem dX7_told_4 : decode cX7_told 4 = .ok (.invokestatic 115, 3) := by decide +kernel
theorem dX7_told_7 : decode cX7_told 7 = .ok (.ifCond .ne 9, 3) := by decide +kernel
theorem dX7_told_10 : decode cX7_told 10 = .ok (.aload_n 0, 1) := by decide +kernel
theorem dX7_told_11 : decode cX7_told 11 = .ok (.iconst 1, 1) := by decide +kernel
theorem dX7_told_12 : decode cX7_told 12 = .ok (.invokevirtual 73, 3) := by decide +kernel
theorem dX7_told_15 : decode cX7_told 15 = .ok (.ireturn, 1) := by decide +kernel
theorem dX7_told_16 : decode cX7_told 16 = .ok (.aload_n 0, 1) := by decide +kernel
theorem dX7_told_17 : decode cX7_told 17 = .ok (.getfield 59, 3) := by decide +kernel
theorem dX7_told_20 : decode cX7_told 20 = .ok (.iload_n 1, 1) := by decide +kernel
theorem dX7_told_21 : decode cX7_told 21 = .ok (.iaload, 1) := by decide +kernel
theorem dX7_told_22 : decode cX7_told 22 = .ok (.ireturn, 1) := by decide +kernel
theorem dX7_refuse_0 : decode cX7_refuse 0 = .ok (.aload_n 0, 1) := by decide +kernel
theorem dX7_refuse_1 : decode cX7_refuse 1 = .ok (.getfield 59, 3) := by decide +kernel
theorem dX7_refuse_4 : decode cX7_refuse 4 = .ok (.iload_n 1, 1) := by decide +kernel
theorem dX7_refuse_5 : decode cX7_refuse 5 = .ok (.dup2, 1) := by decide +kernel
theorem dX7_refuse_6 : decode cX7_refuse 6 = .ok (.iaload, 1) := by decide +kernel
theorem dX7_refuse_7 : decode cX7_refuse 7 = .ok (.iconst 1, 1) := by decide +kernel
theorem dX7_refuse_8 : decode cX7_refuse 8 = .ok (.iadd, 1) := by decide +kernel
theorem dX7_refuse_9 : decode cX7_refuse 9 = .ok (.iastore, 1) := by decide +kernel
theorem dX7_refuse_10 : decode cX7_refuse 10 = .ok (.ldc_w 285, 3) := by decide +kernel
theorem dX7_refuse_13 : decode cX7_refuse 13 = .ok (.iload_n 1, 1) := by decide +kernel
theorem dX7_refuse_14 : decode cX7_refuse 14 = .ok (.isub, 1) := by decide +kernel
theorem dX7_refuse_15 : decode cX7_refuse 15 = .ok (.ireturn, 1) := by decide +kernel
theorem dX7_isPerson_0 : decode cX7_isPerson 0 = .ok (.iload_n 1, 1) := by decide +kernel
theorem dX7_isPerson_1 : decode cX7_isPerson 1 = .ok (.ifCond .lt 21, 3) := by decide +kernel
theorem dX7_isPerson_4 : decode cX7_isPerson 4 = .ok (.iload_n 1, 1) := by decide +kernel
theorem dX7_isPerson_5 : decode cX7_isPerson 5 = .ok (.aload_n 0, 1) := by decide +kernel
theorem dX7_isPerson_6 : decode cX7_isPerson 6 = .ok (.getfield 10, 3) := by decide +kernel
theorem dX7_isPerson_9 : decode cX7_isPerson 9 = .ok (.getfield 34, 3) := by decide +kernel
theorem dX7_isPerson_12 : decode cX7_isPerson 12 = .ok (.getfield 77, 3) := by decide +kernel
theorem dX7_isPerson_15 : decode cX7_isPerson 15 = .ok (.if_icmp .ge 7, 3) := by decide +kernel
theorem dX7_isPerson_18 : decode cX7_isPerson 18 = .ok (.iconst 1, 1) := by decide +kernel
theorem dX7_isPerson_19 : decode cX7_isPerson 19 = .ok (.goto 4, 3) := by decide +kernel
theorem dX7_isPerson_22 : decode cX7_isPerson 22 = .ok (.iconst 0, 1) := by decide +kernel
theorem dX7_isPerson_23 : decode cX7_isPerson 23 = .ok (.ireturn, 1) := by decide +kernel
theorem dX7_isWithin_0 : decode cX7_isWithin 0 = .ok (.iload_n 0, 1) := by decide +kernel
theorem dX7_isWithin_1 : decode cX7_isWithin 1 = .ok (.iload_n 1, 1) := by decide +kernel
theorem dX7_isWithin_2 : decode cX7_isWithin 2 = .ok (.if_icmp .lt 12, 3) := by decide +kernel
theorem dX7_isWithin_5 : decode cX7_isWithin 5 = .ok (.iload_n 0, 1) := by decide +kernel
theorem dX7_isWithin_6 : decode cX7_isWithin 6 = .ok (.iload_n 2, 1) := by decide +kernel
theorem dX7_isWithin_7 : decode cX7_isWithin 7 = .ok (.if_icmp .gt 7, 3) := by decide +kernel
theorem dX7_isWithin_10 : decode cX7_isWithin 10 = .ok (.iconst 1, 1) := by decide +kernel
theorem dX7_isWithin_11 : decode cX7_isWithin 11 = .ok (.goto 4, 3) := by decide +kernel
theorem dX7_isWithin_14 : decode cX7_isWithin 14 = .ok (.iconst 0, 1) := by decide +kernel
theorem dX7_isWithin_15 : decode cX7_isWithin 15 = .ok (.ireturn, 1) := by decide +kernel
theorem dX7_isKindAndNumber_0 : decode cX7_isKindAndNumber 0 = .ok (.iload_n 0, 1) := by decide +kernel
theorem dX7_isKindAndNumber_1 : decode cX7_isKindAndNumber 1 = .ok (.iconst 0, 1) := by decide +kernel
theorem dX7_isKindAndNumber_2 : decode cX7_isKindAndNumber 2 = .ok (.bipush 69, 2) := by decide +kernel
theorem dX7_isKindAndNumber_4 : decode cX7_isKindAndNumber 4 = .ok (.invokestatic 115, 3) := by decide +kernel
theorem dX7_isKindAndNumber_7 : decode cX7_isKindAndNumber 7 = .ok (.ireturn, 1) := by decide +kernel
theorem dX7_isSure_0 : decode cX7_isSure 0 = .ok (.iload_n 0, 1) := by decide +kernel
theorem dX7_isSure_1 : decode cX7_isSure 1 = .ok (.iconst 0, 1) := by decide +kernel
theorem dX7_isSure_2 : decode cX7_isSure 2 = .ok (.bipush 99, 2) := by decide +kernel
theorem dX7_isSure_4 : decode cX7_isSure 4 = .ok (.invokestatic 115, 3) := by decide +kernel
theorem dX7_isSure_7 : decode cX7_isSure 7 = .ok (.ireturn, 1) := by decide +kernel
theorem dX7_isCell_0 : decode cX7_isCell 0 = .ok (.iload_n 0, 1) := by decide +kernel
theorem dX7_isCell_1 : decode cX7_isCell 1 = .ok (.iconst 0, 1) := by decide +kernel
theorem dX7_isCell_2 : decode cX7_isCell 2 = .ok (.bipush 15, 2) := by decide +kernel
theorem dX7_isCell_4 : decode cX7_isCell 4 = .ok (.invokestatic 115, 3) := by decide +kernel
theorem dX7_isCell_7 : decode cX7_isCell 7 = .ok (.ireturn, 1) := by decide +kernel
theorem dX7_isNear_0 : decode cX7_isNear 0 = .ok (.iload_n 0, 1) := by decide +kernel
theorem dX7_isNear_1 : decode cX7_isNear 1 = .ok (.iconst 0, 1) := by decide +kernel
theorem dX7_isNear_2 : decode cX7_isNear 2 = .ok (.bipush 20, 2) := by decide +kernel
theorem dX7_isNear_4 : decode cX7_isNear 4 = .ok (.invokestatic 115, 3) := by decide +kernel
theorem dX7_isNear_7 : decode cX7_isNear 7 = .ok (.ireturn, 1) := by decide +kernel
theorem dX7_isUse_0 : decode cX7_isUse 0 = .ok (.iload_n 0, 1) := by decide +kernel
theorem dX7_isUse_1 : decode cX7_isUse 1 = .ok (.iconst 0, 1) := by decide +kernel
theorem dX7_isUse_2 : decode cX7_isUse 2 = .ok (.iconst 1, 1) := by decide +kernel
theorem dX7_isUse_3 : decode cX7_isUse 3 = .ok (.invokestatic 115, 3) := by decide +kernel
theorem dX7_isUse_6 : decode cX7_isUse 6 = .ok (.ireturn, 1) := by decide +kernel
theorem dX7_isSheet_0 : decode cX7_isSheet 0 = .ok (.iload_n 0, 1) := by decide +kernel
theorem dX7_isSheet_1 : decode cX7_isSheet 1 = .ok (.iconst 0, 1) := by decide +kernel
theorem dX7_isSheet_2 : decode cX7_isSheet 2 = .ok (.iconst 3, 1) := by decide +kernel
theorem dX7_isSheet_3 : decode cX7_isSheet 3 = .ok (.invokestatic 115, 3) := by decide +kernel
theorem dX7_isSheet_6 : decode cX7_isSheet 6 = .ok (.ireturn, 1) := by decide +kernel
theorem dX7_isKindOrUnder_0 : decode cX7_isKindOrUnder 0 = .ok (.iload_n 0, 1) := by decide +kernel
theorem dX7_isKindOrUnder_1 : decode cX7_isKindOrUnder 1 = .ok (.istore_n 2, 1) := by decide +kernel
theorem dX7_isKindOrUnder_2 : decode cX7_isKindOrUnder 2 = .ok (.iconst 0, 1) := by decide +kernel
theorem dX7_isKindOrUnder_3 : decode cX7_isKindOrUnder 3 = .ok (.istore_n 3, 1) := by decide +kernel
theorem dX7_isKindOrUnder_4 : decode cX7_isKindOrUnder 4 = .ok (.iload_n 3, 1) := by decide +kernel
theorem dX7_isKindOrUnder_5 : decode cX7_isKindOrUnder 5 = .ok (.bipush 7, 2) := by decide +kernel
theorem dX7_isKindOrUnder_7 : decode cX7_isKindOrUnder 7 = .ok (.if_icmp .ge 26, 3) := by decide +kernel
theorem dX7_isKindOrUnder_10 : decode cX7_isKindOrUnder 10 = .ok (.iload_n 2, 1) := by decide +kernel
theorem dX7_isKindOrUnder_11 : decode cX7_isKindOrUnder 11 = .ok (.ifCond .lt 22, 3) := by decide +kernel
theorem dX7_isKindOrUnder_14 : decode cX7_isKindOrUnder 14 = .ok (.iload_n 2, 1) := by decide +kernel
theorem dX7_isKindOrUnder_15 : decode cX7_isKindOrUnder 15 = .ok (.iload_n 1, 1) := by decide +kernel
theorem dX7_isKindOrUnder_16 : decode cX7_isKindOrUnder 16 = .ok (.if_icmp .ne 5, 3) := by decide +kernel
theorem dX7_isKindOrUnder_19 : decode cX7_isKindOrUnder 19 = .ok (.iconst 1, 1) := by decide +kernel
theorem dX7_isKindOrUnder_20 : decode cX7_isKindOrUnder 20 = .ok (.ireturn, 1) := by decide +kernel
theorem dX7_isKindOrUnder_21 : decode cX7_isKindOrUnder 21 = .ok (.getstatic 286, 3) := by decide +kernel
theorem dX7_isKindOrUnder_24 : decode cX7_isKindOrUnder 24 = .ok (.iload_n 2, 1) := by decide +kernel
theorem dX7_isKindOrUnder_25 : decode cX7_isKindOrUnder 25 = .ok (.iaload, 1) := by decide +kernel
theorem dX7_isKindOrUnder_26 : decode cX7_isKindOrUnder 26 = .ok (.istore_n 2, 1) := by decide +kernel
theorem dX7_isKindOrUnder_27 : decode cX7_isKindOrUnder 27 = .ok (.iinc 3 1, 3) := by decide +kernel
theorem dX7_isKindOrUnder_30 : decode cX7_isKindOrUnder 30 = .ok (.goto (-26), 3) := by decide +kernel
theorem dX7_isKindOrUnder_33 : decode cX7_isKindOrUnder 33 = .ok (.iconst 0, 1) := by decide +kernel
theorem dX7_isKindOrUnder_34 : decode cX7_isKindOrUnder 34 = .ok (.ireturn, 1) := by decide +kernel
theorem dX7_commonDivisor_0 : decode cX7_commonDivisor 0 = .ok (.iload_n 1, 1) := by decide +kernel
theorem dX7_commonDivisor_1 : decode cX7_commonDivisor 1 = .ok (.istore_n 2, 1) := by decide +kernel
theorem dX7_commonDivisor_2 : decode cX7_commonDivisor 2 = .ok (.iload_n 0, 1) := by decide +kernel
theorem dX7_commonDivisor_3 : decode cX7_commonDivisor 3 = .ok (.istore_n 3, 1) := by decide +kernel
theorem dX7_commonDivisor_4 : decode cX7_commonDivisor 4 = .ok (.iconst 0, 1) := by decide +kernel
theorem dX7_commonDivisor_5 : decode cX7_commonDivisor 5 = .ok (.istore 4, 2) := by decide +kernel
theorem dX7_commonDivisor_7 : decode cX7_commonDivisor 7 = .ok (.iload 4, 2) := by decide +kernel
theorem dX7_commonDivisor_9 : decode cX7_commonDivisor 9 = .ok (.bipush 100, 2) := by decide +kernel
theorem dX7_commonDivisor_11 : decode cX7_commonDivisor 11 = .ok (.if_icmp .ge 23, 3) := by decide +kernel
theorem dX7_commonDivisor_14 : decode cX7_commonDivisor 14 = .ok (.iload_n 3, 1) := by decide +kernel
theorem dX7_commonDivisor_15 : decode cX7_commonDivisor 15 = .ok (.ifCond .eq 19, 3) := by decide +kernel
theorem dX7_commonDivisor_18 : decode cX7_commonDivisor 18 = .ok (.iload_n 2, 1) := by decide +kernel
theorem dX7_commonDivisor_19 : decode cX7_commonDivisor 19 = .ok (.iload_n 3, 1) := by decide +kernel
theorem dX7_commonDivisor_20 : decode cX7_commonDivisor 20 = .ok (.irem, 1) := by decide +kernel
theorem dX7_commonDivisor_21 : decode cX7_commonDivisor 21 = .ok (.istore 5, 2) := by decide +kernel
theorem dX7_commonDivisor_23 : decode cX7_commonDivisor 23 = .ok (.iload_n 3, 1) := by decide +kernel
theorem dX7_commonDivisor_24 : decode cX7_commonDivisor 24 = .ok (.istore_n 2, 1) := by decide +kernel
theorem dX7_commonDivisor_25 : decode cX7_commonDivisor 25 = .ok (.iload 5, 2) := by decide +kernel
theorem dX7_commonDivisor_27 : decode cX7_commonDivisor 27 = .ok (.istore_n 3, 1) := by decide +kernel
theorem dX7_commonDivisor_28 : decode cX7_commonDivisor 28 = .ok (.iinc 4 1, 3) := by decide +kernel
theorem dX7_commonDivisor_31 : decode cX7_commonDivisor 31 = .ok (.goto (-24), 3) := by decide +kernel
theorem dX7_commonDivisor_34 : decode cX7_commonDivisor 34 = .ok (.iload_n 2, 1) := by decide +kernel
theorem dX7_commonDivisor_35 : decode cX7_commonDivisor 35 = .ok (.ifCond .ne 7, 3) := by decide +kernel
theorem dX7_commonDivisor_38 : decode cX7_commonDivisor 38 = .ok (.iconst 1, 1) := by decide +kernel
theorem dX7_commonDivisor_39 : decode cX7_commonDivisor 39 = .ok (.goto 4, 3) := by decide +kernel
theorem dX7_commonDivisor_42 : decode cX7_commonDivisor 42 = .ok (.iload_n 2, 1) := by decide +kernel
theorem dX7_commonDivisor_43 : decode cX7_commonDivisor 43 = .ok (.ireturn, 1) := by decide +kernel
abbrev vwCl : List vw_C := [(RX0, TX0, 4), (RX1, TX1, 10), (RX2, TX2, 6), (RX3, TX3, 3), (RX4, TX4, 8), (RX5, TX5, 2), (RX6, TX6, 6), (RX7, TX7, 8), (RX8, TX8, 20)]
