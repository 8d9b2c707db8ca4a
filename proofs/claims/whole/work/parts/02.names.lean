theorem goodIn_r {big : List Cond} (ws : List Cond) (ps : List Nat) (hp : ws = ps.filterMap (fun i => big[i]?)) (h : ws.all goodWord = true) : GoodIn big ws := by
  intro w hw
  have h1 := List.all_eq_true.mp h w hw
  rw [hp] at hw
  obtain ⟨i, -, hi⟩ := List.mem_filterMap.mp hw
  have hm : w ∈ big := by first | exact List.mem_of_getElem? hi | exact List.getElem?_mem hi
  exact ⟨hm, good_of_word h1⟩
theorem goodIn_app {big a b : List Cond} (ha : GoodIn big a) (hb : GoodIn big b) : GoodIn big (a ++ b) := fun w h => (List.mem_append.mp h).elim (ha w) (hb w)
theorem goodIn_ca {big a b : List Cond} {c : Cond} (ha : GoodIn big (c :: a)) (hb : GoodIn big b) : GoodIn big (c :: (a ++ b)) := fun w h => (List.mem_cons.mp h).elim (fun e => ha w (List.mem_cons.mpr (Or.inl e))) (fun h => (List.mem_append.mp h).elim (fun h => ha w (List.mem_cons.mpr (Or.inr h))) (hb w))
theorem goodIn_sub {big ws : List Cond} (hm : ∀ w ∈ ws, w ∈ big) (h : ws.all goodWord = true) : GoodIn big ws := fun w hw => ⟨hm w hw, good_of_word (List.all_eq_true.mp h w hw)⟩
def RX0 : String := "SignTriples$Arrangement"
def TX0 : u_T := fun k => match k with
  | 0 => ("SignTriples$Arrangement", "size", "I", false)
  | 1 => ("SignTriples$Arrangement", "signs", "[I", true)
  | _ => ("SignTriples$Arrangement", "points", "[I", true)
def tyX0 : Nat → FieldType := fun k => match k with
  | 0 => .int
  | 1 => .array .int
  | _ => .array .int
theorem nmX0 : ∀ a, a < 3 → ∀ b, b < 3 → a ≠ b → (TX0 a).2.1 ≠ (TX0 b).2.1 := by decide +kernel
theorem tyX0_ok : ∀ k, k < 3 → parseFieldDescriptor (TX0 k).2.2.1 = some (tyX0 k) := by decide +kernel
abbrev cX0_init : ByteArray := prog_2_method_1_code
def yX0_init : MethodName := ⟨RX0, "<init>", "()V"⟩
abbrev cX0_begin : ByteArray := prog_2_method_2_code
def yX0_begin : MethodName := ⟨RX0, "begin", "(I)V"⟩
abbrev cX0_copy : ByteArray := prog_2_method_3_code
def yX0_copy : MethodName := ⟨RX0, "copy", "(LSignTriples$Arrangement;)V"⟩
abbrev cX0_size : ByteArray := prog_2_method_4_code
def yX0_size : MethodName := ⟨RX0, "size", "()I"⟩
abbrev cX0_has : ByteArray := prog_2_method_5_code
def yX0_has : MethodName := ⟨RX0, "has", "(I)Z"⟩
abbrev cX0_triples : ByteArray := prog_2_method_6_code
def yX0_triples : MethodName := ⟨RX0, "triples", "()I"⟩
abbrev cX0_triplesOf : ByteArray := prog_2_method_7_code
def yX0_triplesOf : MethodName := ⟨RX0, "triplesOf", "(I)I"⟩
abbrev cX0_signOf : ByteArray := prog_2_method_8_code
def yX0_signOf : MethodName := ⟨RX0, "signOf", "(III)I"⟩
abbrev cX0_giveInOrder : ByteArray := prog_2_method_9_code
def yX0_giveInOrder : MethodName := ⟨RX0, "giveInOrder", "(IIII)V"⟩
abbrev cX0_giveSign : ByteArray := prog_2_method_10_code
def yX0_giveSign : MethodName := ⟨RX0, "giveSign", "(IIII)V"⟩
abbrev cX0_numberOf : ByteArray := prog_2_method_11_code
def yX0_numberOf : MethodName := ⟨RX0, "numberOf", "(II)I"⟩
abbrev cX0_isAt : ByteArray := prog_2_method_12_code
def yX0_isAt : MethodName := ⟨RX0, "isAt", "(IIII)Z"⟩
abbrev cX0_givePoint : ByteArray := prog_2_method_13_code
def yX0_givePoint : MethodName := ⟨RX0, "givePoint", "(IIII)V"⟩
abbrev cX0_turnOf : ByteArray := prog_2_method_14_code
def yX0_turnOf : MethodName := ⟨RX0, "turnOf", "(III)I"⟩
abbrev cX0_minor : ByteArray := prog_2_method_15_code
def yX0_minor : MethodName := ⟨RX0, "minor", "(IIII)I"⟩
abbrev cX0_reverse : ByteArray := prog_2_method_16_code
def yX0_reverse : MethodName := ⟨RX0, "reverse", "(I)I"⟩
abbrev cX0_trade : ByteArray := prog_2_method_17_code
def yX0_trade : MethodName := ⟨RX0, "trade", "(II)I"⟩
abbrev cX0_tradeSigns : ByteArray := prog_2_method_18_code
def yX0_tradeSigns : MethodName := ⟨RX0, "tradeSigns", "(IIII)I"⟩
abbrev cX0_tradePoints : ByteArray := prog_2_method_19_code
def yX0_tradePoints : MethodName := ⟨RX0, "tradePoints", "(II)V"⟩
abbrev cX0_append : ByteArray := prog_2_method_20_code
def yX0_append : MethodName := ⟨RX0, "append", "(III)V"⟩
abbrev cX0_widen : ByteArray := prog_2_method_21_code
def yX0_widen : MethodName := ⟨RX0, "widen", "()V"⟩
abbrev cX0_remove : ByteArray := prog_2_method_22_code
def yX0_remove : MethodName := ⟨RX0, "remove", "(I)V"⟩
abbrev cX0_takeTurns : ByteArray := prog_2_method_23_code
def yX0_takeTurns : MethodName := ⟨RX0, "takeTurns", "()I"⟩
abbrev cX0_isDrawn : ByteArray := prog_2_method_24_code
def yX0_isDrawn : MethodName := ⟨RX0, "isDrawn", "()Z"⟩
abbrev cX0_bases : ByteArray := prog_2_method_25_code
def yX0_bases : MethodName := ⟨RX0, "bases", "()I"⟩
def RX1 : String := "SignTriples$Box"
def TX1 : u_T := fun k => match k with
  | 0 => ("SignTriples$Box", "isThere", "Z", false)
  | 1 => ("SignTriples$Box", "isForFull", "Z", false)
  | 2 => ("SignTriples$Box", "places", "I", false)
  | 3 => ("SignTriples$Box", "keys", "[I", true)
  | _ => ("SignTriples$Box", "elements", "[I", true)
def tyX1 : Nat → FieldType := fun k => match k with
  | 0 => .boolean
  | 1 => .boolean
  | 2 => .int
  | 3 => .array .int
  | _ => .array .int
theorem nmX1 : ∀ a, a < 5 → ∀ b, b < 5 → a ≠ b → (TX1 a).2.1 ≠ (TX1 b).2.1 := by decide +kernel
theorem tyX1_ok : ∀ k, k < 5 → parseFieldDescriptor (TX1 k).2.2.1 = some (tyX1 k) := by decide +kernel
abbrev cX1_init : ByteArray := prog_3_method_1_code
def yX1_init : MethodName := ⟨RX1, "<init>", "()V"⟩
abbrev cX1_make : ByteArray := prog_3_method_2_code
def yX1_make : MethodName := ⟨RX1, "make", "(ZI)V"⟩
abbrev cX1_vanish : ByteArray := prog_3_method_3_code
def yX1_vanish : MethodName := ⟨RX1, "vanish", "()V"⟩
abbrev cX1_isMissing : ByteArray := prog_3_method_4_code
def yX1_isMissing : MethodName := ⟨RX1, "isMissing", "()Z"⟩
abbrev cX1_hasPlace : ByteArray := prog_3_method_5_code
def yX1_hasPlace : MethodName := ⟨RX1, "hasPlace", "(I)Z"⟩
abbrev cX1_isEmptyAt : ByteArray := prog_3_method_6_code
def yX1_isEmptyAt : MethodName := ⟨RX1, "isEmptyAt", "(I)Z"⟩
abbrev cX1_isMadeFor : ByteArray := prog_3_method_7_code
def yX1_isMadeFor : MethodName := ⟨RX1, "isMadeFor", "(I)Z"⟩
abbrev cX1_put : ByteArray := prog_3_method_8_code
def yX1_put : MethodName := ⟨RX1, "put", "(III)V"⟩
abbrev cX1_keyAt : ByteArray := prog_3_method_9_code
def yX1_keyAt : MethodName := ⟨RX1, "keyAt", "(I)I"⟩
abbrev cX1_elementsAt : ByteArray := prog_3_method_10_code
def yX1_elementsAt : MethodName := ⟨RX1, "elementsAt", "(I)I"⟩
abbrev cX1_vectors : ByteArray := prog_3_method_11_code
def yX1_vectors : MethodName := ⟨RX1, "vectors", "()I"⟩
def RX2 : String := "SignTriples$Findings"
def TX2 : u_T := fun k => match k with
  | 0 => ("SignTriples$Findings", "now", "LSignTriples$Arrangement;", true)
  | 1 => ("SignTriples$Findings", "rules", "LSignTriples$Rules;", true)
  | 2 => ("SignTriples$Findings", "vectors", "LSignTriples$Vectors;", true)
  | 3 => ("SignTriples$Findings", "graph", "LSignTriples$TopeGraph;", true)
  | 4 => ("SignTriples$Findings", "foretelling", "LSignTriples$Foretelling;", true)
  | 5 => ("SignTriples$Findings", "isOrderKnown", "Z", false)
  | 6 => ("SignTriples$Findings", "isOrderly", "Z", false)
  | 7 => ("SignTriples$Findings", "isGraphKnown", "Z", false)
  | 8 => ("SignTriples$Findings", "mutations", "I", false)
  | _ => ("SignTriples$Findings", "extensionWays", "I", false)
def tyX2 : Nat → FieldType := fun k => match k with
  | 0 => .object "SignTriples$Arrangement"
  | 1 => .object "SignTriples$Rules"
  | 2 => .object "SignTriples$Vectors"
  | 3 => .object "SignTriples$TopeGraph"
  | 4 => .object "SignTriples$Foretelling"
  | 5 => .boolean
  | 6 => .boolean
  | 7 => .boolean
  | 8 => .int
  | _ => .int
theorem nmX2 : ∀ a, a < 10 → ∀ b, b < 10 → a ≠ b → (TX2 a).2.1 ≠ (TX2 b).2.1 := by decide +kernel
theorem tyX2_ok : ∀ k, k < 10 → parseFieldDescriptor (TX2 k).2.2.1 = some (tyX2 k) := by decide +kernel
abbrev cX2_init : ByteArray := prog_4_method_1_code
def yX2_init : MethodName := ⟨RX2, "<init>", "(LSignTriples$Arrangement;)V"⟩
abbrev cX2_forget : ByteArray := prog_4_method_2_code
def yX2_forget : MethodName := ⟨RX2, "forget", "()V"⟩
abbrev cX2_hasExchange : ByteArray := prog_4_method_3_code
def yX2_hasExchange : MethodName := ⟨RX2, "hasExchange", "()Z"⟩
abbrev cX2_isOrderly : ByteArray := prog_4_method_4_code
def yX2_isOrderly : MethodName := ⟨RX2, "isOrderly", "()Z"⟩
abbrev cX2_loops : ByteArray := prog_4_method_5_code
def yX2_loops : MethodName := ⟨RX2, "loops", "()I"⟩
abbrev cX2_parallels : ByteArray := prog_4_method_6_code
def yX2_parallels : MethodName := ⟨RX2, "parallels", "()I"⟩
abbrev cX2_canTellOf : ByteArray := prog_4_method_7_code
def yX2_canTellOf : MethodName := ⟨RX2, "canTellOf", "(I)Z"⟩
abbrev cX2_ofKind : ByteArray := prog_4_method_8_code
def yX2_ofKind : MethodName := ⟨RX2, "ofKind", "(I)LSignTriples$VectorRow;"⟩
abbrev cX2_graph : ByteArray := prog_4_method_9_code
def yX2_graph : MethodName := ⟨RX2, "graph", "()LSignTriples$TopeGraph;"⟩
abbrev cX2_mutations : ByteArray := prog_4_method_10_code
def yX2_mutations : MethodName := ⟨RX2, "mutations", "()I"⟩
abbrev cX2_extensionWays : ByteArray := prog_4_method_11_code
def yX2_extensionWays : MethodName := ⟨RX2, "extensionWays", "()I"⟩
def RX3 : String := "SignTriples$Foretelling"
def TX3 : u_T := fun k => match k with
  | _ => ("SignTriples$Foretelling", "trial", "LSignTriples$Arrangement;", true)
def tyX3 : Nat → FieldType := fun k => match k with
  | _ => .object "SignTriples$Arrangement"
theorem nmX3 : ∀ a, a < 1 → ∀ b, b < 1 → a ≠ b → (TX3 a).2.1 ≠ (TX3 b).2.1 := by decide +kernel
theorem tyX3_ok : ∀ k, k < 1 → parseFieldDescriptor (TX3 k).2.2.1 = some (tyX3 k) := by decide +kernel
abbrev cX3_init : ByteArray := prog_5_method_1_code
def yX3_init : MethodName := ⟨RX3, "<init>", "()V"⟩
abbrev cX3_mutations : ByteArray := prog_5_method_2_code
def yX3_mutations : MethodName := ⟨RX3, "mutations", "(LSignTriples$Arrangement;)I"⟩
abbrev cX3_isMutation : ByteArray := prog_5_method_3_code
def yX3_isMutation : MethodName := ⟨RX3, "isMutation", "(III)Z"⟩
abbrev cX3_extensionWays : ByteArray := prog_5_method_4_code
def yX3_extensionWays : MethodName := ⟨RX3, "extensionWays", "(LSignTriples$Arrangement;LSignTriples$Rules;)I"⟩
abbrev cX3_ways : ByteArray := prog_5_method_5_code
def yX3_ways : MethodName := ⟨RX3, "ways", "(LSignTriples$Arrangement;LSignTriples$Rules;II)I"⟩
def RX4 : String := "SignTriples$History"
def TX4 : u_T := fun k => match k with
  | 0 => ("SignTriples$History", "states", "[LSignTriples$Arrangement;", true)
  | 1 => ("SignTriples$History", "next", "I", false)
  | _ => ("SignTriples$History", "size", "I", false)
def tyX4 : Nat → FieldType := fun k => match k with
  | 0 => .array (.object "SignTriples$Arrangement")
  | 1 => .int
  | _ => .int
theorem nmX4 : ∀ a, a < 3 → ∀ b, b < 3 → a ≠ b → (TX4 a).2.1 ≠ (TX4 b).2.1 := by decide +kernel
theorem tyX4_ok : ∀ k, k < 3 → parseFieldDescriptor (TX4 k).2.2.1 = some (tyX4 k) := by decide +kernel
abbrev cX4_init : ByteArray := prog_6_method_1_code
def yX4_init : MethodName := ⟨RX4, "<init>", "()V"⟩
abbrev cX4_size : ByteArray := prog_6_method_2_code
def yX4_size : MethodName := ⟨RX4, "size", "()I"⟩
abbrev cX4_clear : ByteArray := prog_6_method_3_code
def yX4_clear : MethodName := ⟨RX4, "clear", "()V"⟩
abbrev cX4_remember : ByteArray := prog_6_method_4_code
def yX4_remember : MethodName := ⟨RX4, "remember", "(LSignTriples$Arrangement;)V"⟩
abbrev cX4_takeLatest : ByteArray := prog_6_method_5_code
def yX4_takeLatest : MethodName := ⟨RX4, "takeLatest", "(LSignTriples$Arrangement;)V"⟩
def RX5 : String := "SignTriples$Key"
def TX5 : u_T := fun k => match k with
  | _ => ("", "", "", false)
def tyX5 : Nat → FieldType := fun k => match k with
  | _ => .int
theorem nmX5 : ∀ a, a < 0 → ∀ b, b < 0 → a ≠ b → (TX5 a).2.1 ≠ (TX5 b).2.1 := by decide +kernel
theorem tyX5_ok : ∀ k, k < 0 → parseFieldDescriptor (TX5 k).2.2.1 = some (tyX5 k) := by decide +kernel
abbrev cX5_zero : ByteArray := prog_7_method_2_code
def yX5_zero : MethodName := ⟨RX5, "zero", "(I)I"⟩
abbrev cX5_withNumber : ByteArray := prog_7_method_3_code
def yX5_withNumber : MethodName := ⟨RX5, "withNumber", "(II)I"⟩
abbrev cX5_numberAt : ByteArray := prog_7_method_4_code
def yX5_numberAt : MethodName := ⟨RX5, "numberAt", "(III)I"⟩
abbrev cX5_opposite : ByteArray := prog_7_method_5_code
def yX5_opposite : MethodName := ⟨RX5, "opposite", "(II)I"⟩
abbrev cX5_composed : ByteArray := prog_7_method_6_code
def yX5_composed : MethodName := ⟨RX5, "composed", "(II)I"⟩
abbrev cX5_zeros : ByteArray := prog_7_method_7_code
def yX5_zeros : MethodName := ⟨RX5, "zeros", "(I)I"⟩
abbrev cX5_separation : ByteArray := prog_7_method_8_code
def yX5_separation : MethodName := ⟨RX5, "separation", "(II)I"⟩
def RX6 : String := "SignTriples$Rules"
def TX6 : u_T := fun k => match k with
  | 0 => ("SignTriples$Rules", "isBase", "[Z", true)
  | 1 => ("SignTriples$Rules", "bases", "[I", true)
  | _ => ("SignTriples$Rules", "length", "I", false)
def tyX6 : Nat → FieldType := fun k => match k with
  | 0 => .array .boolean
  | 1 => .array .int
  | _ => .int
theorem nmX6 : ∀ a, a < 3 → ∀ b, b < 3 → a ≠ b → (TX6 a).2.1 ≠ (TX6 b).2.1 := by decide +kernel
theorem tyX6_ok : ∀ k, k < 3 → parseFieldDescriptor (TX6 k).2.2.1 = some (tyX6 k) := by decide +kernel
abbrev cX6_init : ByteArray := prog_8_method_1_code
def yX6_init : MethodName := ⟨RX6, "<init>", "()V"⟩
abbrev cX6_areOrderly : ByteArray := prog_8_method_2_code
def yX6_areOrderly : MethodName := ⟨RX6, "areOrderly", "(LSignTriples$Arrangement;)Z"⟩
abbrev cX6_haveExchange : ByteArray := prog_8_method_3_code
def yX6_haveExchange : MethodName := ⟨RX6, "haveExchange", "(LSignTriples$Arrangement;)Z"⟩
abbrev cX6_gather : ByteArray := prog_8_method_4_code
def yX6_gather : MethodName := ⟨RX6, "gather", "(LSignTriples$Arrangement;)V"⟩
abbrev cX6_canExchange : ByteArray := prog_8_method_5_code
def yX6_canExchange : MethodName := ⟨RX6, "canExchange", "(II)Z"⟩
abbrev cX6_isMended : ByteArray := prog_8_method_6_code
def yX6_isMended : MethodName := ⟨RX6, "isMended", "(II)Z"⟩
abbrev cX6_loops : ByteArray := prog_8_method_7_code
def yX6_loops : MethodName := ⟨RX6, "loops", "(LSignTriples$Arrangement;)I"⟩
abbrev cX6_parallels : ByteArray := prog_8_method_8_code
def yX6_parallels : MethodName := ⟨RX6, "parallels", "(LSignTriples$Arrangement;)I"⟩
abbrev cX6_isInBase : ByteArray := prog_8_method_9_code
def yX6_isInBase : MethodName := ⟨RX6, "isInBase", "(I)Z"⟩
abbrev cX6_isGood : ByteArray := prog_8_method_10_code
def yX6_isGood : MethodName := ⟨RX6, "isGood", "(LSignTriples$Arrangement;IIIII)Z"⟩
abbrev cX6_badFives : ByteArray := prog_8_method_11_code
def yX6_badFives : MethodName := ⟨RX6, "badFives", "(LSignTriples$Arrangement;II)I"⟩
def RX7 : String := "SignTriples$Text"
def TX7 : u_T := fun k => match k with
  | 0 => ("SignTriples$Text", "letters", "[I", true)
  | 1 => ("SignTriples$Text", "length", "I", false)
  | 2 => ("SignTriples$Text", "begin", "I", false)
  | 3 => ("SignTriples$Text", "end", "I", false)
  | 4 => ("SignTriples$Text", "value", "I", false)
  | _ => ("SignTriples$Text", "clauses", "I", false)
def tyX7 : Nat → FieldType := fun k => match k with
  | 0 => .array .int
  | 1 => .int
  | 2 => .int
  | 3 => .int
  | 4 => .int
  | _ => .int
theorem nmX7 : ∀ a, a < 6 → ∀ b, b < 6 → a ≠ b → (TX7 a).2.1 ≠ (TX7 b).2.1 := by decide +kernel
theorem tyX7_ok : ∀ k, k < 6 → parseFieldDescriptor (TX7 k).2.2.1 = some (tyX7 k) := by decide +kernel
abbrev cX7_init : ByteArray := prog_9_method_1_code
def yX7_init : MethodName := ⟨RX7, "<init>", "()V"⟩
abbrev cX7_length : ByteArray := prog_9_method_2_code
def yX7_length : MethodName := ⟨RX7, "length", "()I"⟩
abbrev cX7_isFull : ByteArray := prog_9_method_3_code
def yX7_isFull : MethodName := ⟨RX7, "isFull", "()Z"⟩
abbrev cX7_append : ByteArray := prog_9_method_4_code
def yX7_append : MethodName := ⟨RX7, "append", "(I)V"⟩
abbrev cX7_clear : ByteArray := prog_9_method_5_code
def yX7_clear : MethodName := ⟨RX7, "clear", "()V"⟩
abbrev cX7_clauses : ByteArray := prog_9_method_6_code
def yX7_clauses : MethodName := ⟨RX7, "clauses", "()I"⟩
abbrev cX7_read : ByteArray := prog_9_method_7_code
def yX7_read : MethodName := ⟨RX7, "read", "(LSignTriples$Arrangement;)I"⟩
abbrev cX7_readClause : ByteArray := prog_9_method_8_code
def yX7_readClause : MethodName := ⟨RX7, "readClause", "(LSignTriples$Arrangement;)Z"⟩
abbrev cX7_readSigns : ByteArray := prog_9_method_9_code
def yX7_readSigns : MethodName := ⟨RX7, "readSigns", "(LSignTriples$Arrangement;)Z"⟩
abbrev cX7_readPoint : ByteArray := prog_9_method_10_code
def yX7_readPoint : MethodName := ⟨RX7, "readPoint", "(LSignTriples$Arrangement;)Z"⟩
abbrev cX7_readFlip : ByteArray := prog_9_method_11_code
def yX7_readFlip : MethodName := ⟨RX7, "readFlip", "(LSignTriples$Arrangement;)Z"⟩
abbrev cX7_readSwap : ByteArray := prog_9_method_12_code
def yX7_readSwap : MethodName := ⟨RX7, "readSwap", "(LSignTriples$Arrangement;)Z"⟩
abbrev cX7_readDraw : ByteArray := prog_9_method_13_code
def yX7_readDraw : MethodName := ⟨RX7, "readDraw", "(LSignTriples$Arrangement;)Z"⟩
abbrev cX7_readCoordinate : ByteArray := prog_9_method_14_code
def yX7_readCoordinate : MethodName := ⟨RX7, "readCoordinate", "()Z"⟩
abbrev cX7_readNumber : ByteArray := prog_9_method_15_code
def yX7_readNumber : MethodName := ⟨RX7, "readNumber", "(II)Z"⟩
abbrev cX7_isWord : ByteArray := prog_9_method_16_code
def yX7_isWord : MethodName := ⟨RX7, "isWord", "(Ljava/lang/String;)Z"⟩
abbrev cX7_isSignWord : ByteArray := prog_9_method_17_code
def yX7_isSignWord : MethodName := ⟨RX7, "isSignWord", "(I)Z"⟩
abbrev cX7_signTold : ByteArray := prog_9_method_18_code
def yX7_signTold : MethodName := ⟨RX7, "signTold", "(I)I"⟩
abbrev cX7_nextToken : ByteArray := prog_9_method_19_code
def yX7_nextToken : MethodName := ⟨RX7, "nextToken", "()V"⟩
abbrev cX7_isSmall : ByteArray := prog_9_method_20_code
def yX7_isSmall : MethodName := ⟨RX7, "isSmall", "(I)Z"⟩
abbrev cX7_isDigit : ByteArray := prog_9_method_21_code
def yX7_isDigit : MethodName := ⟨RX7, "isDigit", "(I)Z"⟩
def RX8 : String := "SignTriples$TopeGraph"
def TX8 : u_T := fun k => match k with
  | 0 => ("SignTriples$TopeGraph", "next", "[J", true)
  | _ => ("SignTriples$TopeGraph", "length", "I", false)
def tyX8 : Nat → FieldType := fun k => match k with
  | 0 => .array .long
  | _ => .int
theorem nmX8 : ∀ a, a < 2 → ∀ b, b < 2 → a ≠ b → (TX8 a).2.1 ≠ (TX8 b).2.1 := by decide +kernel
theorem tyX8_ok : ∀ k, k < 2 → parseFieldDescriptor (TX8 k).2.2.1 = some (tyX8 k) := by decide +kernel
abbrev cX8_init : ByteArray := prog_10_method_1_code
def yX8_init : MethodName := ⟨RX8, "<init>", "()V"⟩
abbrev cX8_build : ByteArray := prog_10_method_2_code
def yX8_build : MethodName := ⟨RX8, "build", "(LSignTriples$VectorRow;)V"⟩
abbrev cX8_isSomeBetween : ByteArray := prog_10_method_3_code
def yX8_isSomeBetween : MethodName := ⟨RX8, "isSomeBetween", "(LSignTriples$VectorRow;II)Z"⟩
abbrev cX8_has : ByteArray := prog_10_method_4_code
def yX8_has : MethodName := ⟨RX8, "has", "(I)Z"⟩
abbrev cX8_neighbours : ByteArray := prog_10_method_5_code
def yX8_neighbours : MethodName := ⟨RX8, "neighbours", "(I)I"⟩
abbrev cX8_isNext : ByteArray := prog_10_method_6_code
def yX8_isNext : MethodName := ⟨RX8, "isNext", "(II)Z"⟩
abbrev cX8_steps : ByteArray := prog_10_method_7_code
def yX8_steps : MethodName := ⟨RX8, "steps", "(II)I"⟩
abbrev cX8_nextToAny : ByteArray := prog_10_method_8_code
def yX8_nextToAny : MethodName := ⟨RX8, "nextToAny", "(J)J"⟩
def RX9 : String := "SignTriples$VectorRow"
def TX9 : u_T := fun k => match k with
  | 0 => ("SignTriples$VectorRow", "keys", "[I", true)
  | 1 => ("SignTriples$VectorRow", "words", "[I", true)
  | _ => ("SignTriples$VectorRow", "length", "I", false)
def tyX9 : Nat → FieldType := fun k => match k with
  | 0 => .array .int
  | 1 => .array .int
  | _ => .int
theorem nmX9 : ∀ a, a < 3 → ∀ b, b < 3 → a ≠ b → (TX9 a).2.1 ≠ (TX9 b).2.1 := by decide +kernel
theorem tyX9_ok : ∀ k, k < 3 → parseFieldDescriptor (TX9 k).2.2.1 = some (tyX9 k) := by decide +kernel
abbrev cX9_init : ByteArray := prog_11_method_1_code
def yX9_init : MethodName := ⟨RX9, "<init>", "()V"⟩
abbrev cX9_length : ByteArray := prog_11_method_2_code
def yX9_length : MethodName := ⟨RX9, "length", "()I"⟩
abbrev cX9_has : ByteArray := prog_11_method_3_code
def yX9_has : MethodName := ⟨RX9, "has", "(I)Z"⟩
abbrev cX9_at : ByteArray := prog_11_method_4_code
def yX9_at : MethodName := ⟨RX9, "at", "(I)I"⟩
abbrev cX9_clear : ByteArray := prog_11_method_5_code
def yX9_clear : MethodName := ⟨RX9, "clear", "()V"⟩
abbrev cX9_insert : ByteArray := prog_11_method_6_code
def yX9_insert : MethodName := ⟨RX9, "insert", "(I)V"⟩
abbrev cX9_sort : ByteArray := prog_11_method_7_code
def yX9_sort : MethodName := ⟨RX9, "sort", "()V"⟩
abbrev cX9_indexOf : ByteArray := prog_11_method_8_code
def yX9_indexOf : MethodName := ⟨RX9, "indexOf", "(I)I"⟩
def RX10 : String := "SignTriples$Vectors"
def TX10 : u_T := fun k => match k with
  | 0 => ("SignTriples$Vectors", "kinds", "[LSignTriples$VectorRow;", true)
  | _ => ("SignTriples$Vectors", "isKnown", "[Z", true)
def tyX10 : Nat → FieldType := fun k => match k with
  | 0 => .array (.object "SignTriples$VectorRow")
  | _ => .array .boolean
theorem nmX10 : ∀ a, a < 2 → ∀ b, b < 2 → a ≠ b → (TX10 a).2.1 ≠ (TX10 b).2.1 := by decide +kernel
theorem tyX10_ok : ∀ k, k < 2 → parseFieldDescriptor (TX10 k).2.2.1 = some (tyX10 k) := by decide +kernel
abbrev cX10_init : ByteArray := prog_12_method_1_code
def yX10_init : MethodName := ⟨RX10, "<init>", "()V"⟩
abbrev cX10_forget : ByteArray := prog_12_method_2_code
def yX10_forget : MethodName := ⟨RX10, "forget", "()V"⟩
abbrev cX10_cocircuits : ByteArray := prog_12_method_3_code
def yX10_cocircuits : MethodName := ⟨RX10, "cocircuits", "(LSignTriples$Arrangement;)LSignTriples$VectorRow;"⟩
abbrev cX10_cocircuit : ByteArray := prog_12_method_4_code
def yX10_cocircuit : MethodName := ⟨RX10, "cocircuit", "(LSignTriples$Arrangement;II)I"⟩
abbrev cX10_circuits : ByteArray := prog_12_method_5_code
def yX10_circuits : MethodName := ⟨RX10, "circuits", "(LSignTriples$Arrangement;)LSignTriples$VectorRow;"⟩
abbrev cX10_circuit : ByteArray := prog_12_method_6_code
def yX10_circuit : MethodName := ⟨RX10, "circuit", "(LSignTriples$Arrangement;IIII)I"⟩
abbrev cX10_insertBoth : ByteArray := prog_12_method_7_code
def yX10_insertBoth : MethodName := ⟨RX10, "insertBoth", "(LSignTriples$VectorRow;II)V"⟩
abbrev cX10_covectors : ByteArray := prog_12_method_8_code
def yX10_covectors : MethodName := ⟨RX10, "covectors", "(LSignTriples$Arrangement;)LSignTriples$VectorRow;"⟩
abbrev cX10_topes : ByteArray := prog_12_method_9_code
def yX10_topes : MethodName := ⟨RX10, "topes", "(LSignTriples$Arrangement;)LSignTriples$VectorRow;"⟩
def RX11 : String := "SignTriples"
def TX11 : u_T := fun k => match k with
  | 0 => ("SignTriples", "now", "LSignTriples$Arrangement;", true)
  | 1 => ("SignTriples", "draft", "LSignTriples$Arrangement;", true)
  | 2 => ("SignTriples", "past", "LSignTriples$History;", true)
  | 3 => ("SignTriples", "kept", "[LSignTriples$Arrangement;", true)
  | 4 => ("SignTriples", "isKept", "[Z", true)
  | 5 => ("SignTriples", "text", "LSignTriples$Text;", true)
  | 6 => ("SignTriples", "findings", "LSignTriples$Findings;", true)
  | _ => ("SignTriples", "boxes", "[LSignTriples$Box;", true)
def tyX11 : Nat → FieldType := fun k => match k with
  | 0 => .object "SignTriples$Arrangement"
  | 1 => .object "SignTriples$Arrangement"
  | 2 => .object "SignTriples$History"
  | 3 => .array (.object "SignTriples$Arrangement")
  | 4 => .array .boolean
  | 5 => .object "SignTriples$Text"
  | 6 => .object "SignTriples$Findings"
  | _ => .array (.object "SignTriples$Box")
theorem nmX11 : ∀ a, a < 8 → ∀ b, b < 8 → a ≠ b → (TX11 a).2.1 ≠ (TX11 b).2.1 := by decide +kernel
theorem tyX11_ok : ∀ k, k < 8 → parseFieldDescriptor (TX11 k).2.2.1 = some (tyX11 k) := by decide +kernel
abbrev cX11_init : ByteArray := prog_1_method_1_code
def yX11_init : MethodName := ⟨RX11, "<init>", "()V"⟩
abbrev cX11_write : ByteArray := prog_1_method_2_code
def yX11_write : MethodName := ⟨RX11, "write", "(I)I"⟩
abbrev cX11_erase : ByteArray := prog_1_method_3_code
def yX11_erase : MethodName := ⟨RX11, "erase", "()I"⟩
abbrev cX11_fault : ByteArray := prog_1_method_4_code
def yX11_fault : MethodName := ⟨RX11, "fault", "()I"⟩
abbrev cX11_tell : ByteArray := prog_1_method_5_code
def yX11_tell : MethodName := ⟨RX11, "tell", "()I"⟩
abbrev cX11_sign : ByteArray := prog_1_method_6_code
def yX11_sign : MethodName := ⟨RX11, "sign", "(III)I"⟩
abbrev cX11_turn : ByteArray := prog_1_method_7_code
def yX11_turn : MethodName := ⟨RX11, "turn", "(III)I"⟩
abbrev cX11_point : ByteArray := prog_1_method_8_code
def yX11_point : MethodName := ⟨RX11, "point", "(II)I"⟩
abbrev cX11_set : ByteArray := prog_1_method_9_code
def yX11_set : MethodName := ⟨RX11, "set", "(IIII)I"⟩
abbrev cX11_place : ByteArray := prog_1_method_10_code
def yX11_place : MethodName := ⟨RX11, "place", "(IIII)I"⟩
abbrev cX11_flip : ByteArray := prog_1_method_11_code
def yX11_flip : MethodName := ⟨RX11, "flip", "(I)I"⟩
abbrev cX11_swap : ByteArray := prog_1_method_12_code
def yX11_swap : MethodName := ⟨RX11, "swap", "(II)I"⟩
abbrev cX11_add : ByteArray := prog_1_method_13_code
def yX11_add : MethodName := ⟨RX11, "add", "(III)I"⟩
abbrev cX11_drop : ByteArray := prog_1_method_14_code
def yX11_drop : MethodName := ⟨RX11, "drop", "(I)I"⟩
abbrev cX11_draw : ByteArray := prog_1_method_15_code
def yX11_draw : MethodName := ⟨RX11, "draw", "()I"⟩
abbrev cX11_undo : ByteArray := prog_1_method_16_code
def yX11_undo : MethodName := ⟨RX11, "undo", "()I"⟩
abbrev cX11_keep : ByteArray := prog_1_method_17_code
def yX11_keep : MethodName := ⟨RX11, "keep", "(I)I"⟩
abbrev cX11_back : ByteArray := prog_1_method_18_code
def yX11_back : MethodName := ⟨RX11, "back", "(I)I"⟩
abbrev cX11_five : ByteArray := prog_1_method_19_code
def yX11_five : MethodName := ⟨RX11, "five", "(IIIII)I"⟩
abbrev cX11_is : ByteArray := prog_1_method_20_code
def yX11_is : MethodName := ⟨RX11, "is", "(I)I"⟩
abbrev cX11_vector : ByteArray := prog_1_method_21_code
def yX11_vector : MethodName := ⟨RX11, "vector", "(III)I"⟩
abbrev cX11_beside : ByteArray := prog_1_method_22_code
def yX11_beside : MethodName := ⟨RX11, "beside", "(I)I"⟩
abbrev cX11_between : ByteArray := prog_1_method_23_code
def yX11_between : MethodName := ⟨RX11, "between", "(III)I"⟩
abbrev cX11_mutation : ByteArray := prog_1_method_24_code
def yX11_mutation : MethodName := ⟨RX11, "mutation", "(I)I"⟩
abbrev cX11_extensions : ByteArray := prog_1_method_25_code
def yX11_extensions : MethodName := ⟨RX11, "extensions", "()I"⟩
abbrev cX11_box : ByteArray := prog_1_method_26_code
def yX11_box : MethodName := ⟨RX11, "box", "(III)I"⟩
abbrev cX11_lay : ByteArray := prog_1_method_27_code
def yX11_lay : MethodName := ⟨RX11, "lay", "(IIII)I"⟩
abbrev cX11_compose : ByteArray := prog_1_method_28_code
def yX11_compose : MethodName := ⟨RX11, "compose", "(III)I"⟩
abbrev cX11_seen : ByteArray := prog_1_method_29_code
def yX11_seen : MethodName := ⟨RX11, "seen", "(III)I"⟩
abbrev cX11_find : ByteArray := prog_1_method_30_code
def yX11_find : MethodName := ⟨RX11, "find", "(III)I"⟩
abbrev cX11_away : ByteArray := prog_1_method_31_code
def yX11_away : MethodName := ⟨RX11, "away", "(I)I"⟩
abbrev cX11_count : ByteArray := prog_1_method_32_code
def yX11_count : MethodName := ⟨RX11, "count", "(I)I"⟩
abbrev cX11_beginDeed : ByteArray := prog_1_method_33_code
def yX11_beginDeed : MethodName := ⟨RX11, "beginDeed", "()V"⟩
abbrev cX11_refusalAt : ByteArray := prog_1_method_34_code
def yX11_refusalAt : MethodName := ⟨RX11, "refusalAt", "(II)I"⟩
abbrev cX11_vectorsOnBoxes : ByteArray := prog_1_method_35_code
def yX11_vectorsOnBoxes : MethodName := ⟨RX11, "vectorsOnBoxes", "()I"⟩
abbrev cX11_isFar : ByteArray := prog_1_method_36_code
def yX11_isFar : MethodName := ⟨RX11, "isFar", "(I)Z"⟩
abbrev cX11_isKind : ByteArray := prog_1_method_37_code
def yX11_isKind : MethodName := ⟨RX11, "isKind", "(I)Z"⟩
abbrev cX11_isBox : ByteArray := prog_1_method_38_code
def yX11_isBox : MethodName := ⟨RX11, "isBox", "(I)Z"⟩
abbrev cX11_areDistinct : ByteArray := prog_1_method_39_code
def yX11_areDistinct : MethodName := ⟨RX11, "areDistinct", "(IIIII)Z"⟩
def RX12 : String := "SignTriplesModel"
def TX12 : u_T := fun k => match k with
  | 0 => ("SignTriplesModel", "rows", "[I", true)
  | 1 => ("SignTriplesModel", "undos", "I", false)
  | 2 => ("SignTriplesModel", "isKept", "[Z", true)
  | 3 => ("SignTriplesModel", "text", "[I", true)
  | 4 => ("SignTriplesModel", "length", "I", false)
  | 5 => ("SignTriplesModel", "sorts", "[I", true)
  | 6 => ("SignTriplesModel", "sizes", "[I", true)
  | 7 => ("SignTriplesModel", "codes", "[I", true)
  | 8 => ("SignTriplesModel", "lengths", "[I", true)
  | 9 => ("SignTriplesModel", "first", "I", false)
  | 10 => ("SignTriplesModel", "behind", "I", false)
  | 11 => ("SignTriplesModel", "told", "I", false)
  | 12 => ("SignTriplesModel", "clauses", "I", false)
  | 13 => ("SignTriplesModel", "doing", "Z", false)
  | 14 => ("SignTriplesModel", "numbers", "[I", true)
  | 15 => ("SignTriplesModel", "was", "[I", true)
  | 16 => ("SignTriplesModel", "marks", "[Z", true)
  | 17 => ("SignTriplesModel", "vector", "[I", true)
  | 18 => ("SignTriplesModel", "all", "I", false)
  | 19 => ("SignTriplesModel", "circuits", "[I", true)
  | 20 => ("SignTriplesModel", "topes", "[I", true)
  | 21 => ("SignTriplesModel", "many", "I", false)
  | _ => ("SignTriplesModel", "far", "[I", true)
def tyX12 : Nat → FieldType := fun k => match k with
  | 0 => .array .int
  | 1 => .int
  | 2 => .array .boolean
  | 3 => .array .int
  | 4 => .int
  | 5 => .array .int
  | 6 => .array .int
  | 7 => .array .int
  | 8 => .array .int
  | 9 => .int
  | 10 => .int
  | 11 => .int
  | 12 => .int
  | 13 => .boolean
  | 14 => .array .int
  | 15 => .array .int
  | 16 => .array .boolean
  | 17 => .array .int
  | 18 => .int
  | 19 => .array .int
  | 20 => .array .int
  | 21 => .int
  | _ => .array .int
theorem nmX12 : ∀ a, a < 23 → ∀ b, b < 23 → a ≠ b → (TX12 a).2.1 ≠ (TX12 b).2.1 := by decide +kernel
theorem tyX12_ok : ∀ k, k < 23 → parseFieldDescriptor (TX12 k).2.2.1 = some (tyX12 k) := by decide +kernel
abbrev cX12_init : ByteArray := prog_14_method_1_code
def yX12_init : MethodName := ⟨RX12, "<init>", "()V"⟩
abbrev cX12_in : ByteArray := prog_14_method_2_code
def yX12_in : MethodName := ⟨RX12, "in", "(JJJ)Z"⟩
abbrev cX12_n : ByteArray := prog_14_method_3_code
def yX12_n : MethodName := ⟨RX12, "n", "()I"⟩
abbrev cX12_pointsAnew : ByteArray := prog_14_method_4_code
def yX12_pointsAnew : MethodName := ⟨RX12, "pointsAnew", "()V"⟩
abbrev cX12_placeOf : ByteArray := prog_14_method_5_code
def yX12_placeOf : MethodName := ⟨RX12, "placeOf", "(III)I"⟩
abbrev cX12_turnsOf : ByteArray := prog_14_method_6_code
def yX12_turnsOf : MethodName := ⟨RX12, "turnsOf", "(III)I"⟩
abbrev cX12_low : ByteArray := prog_14_method_7_code
def yX12_low : MethodName := ⟨RX12, "low", "(III)I"⟩
abbrev cX12_high : ByteArray := prog_14_method_8_code
def yX12_high : MethodName := ⟨RX12, "high", "(III)I"⟩
abbrev cX12_signOf : ByteArray := prog_14_method_9_code
def yX12_signOf : MethodName := ⟨RX12, "signOf", "(III)I"⟩
abbrev cX12_signs : ByteArray := prog_14_method_10_code
def yX12_signs : MethodName := ⟨RX12, "signs", "(IIII)V"⟩
abbrev cX12_coordinate : ByteArray := prog_14_method_11_code
def yX12_coordinate : MethodName := ⟨RX12, "coordinate", "(II)I"⟩
abbrev cX12_turnOf : ByteArray := prog_14_method_12_code
def yX12_turnOf : MethodName := ⟨RX12, "turnOf", "(III)I"⟩
abbrev cX12_isElement : ByteArray := prog_14_method_13_code
def yX12_isElement : MethodName := ⟨RX12, "isElement", "(I)Z"⟩
abbrev cX12_areThree : ByteArray := prog_14_method_14_code
def yX12_areThree : MethodName := ⟨RX12, "areThree", "(III)Z"⟩
abbrev cX12_write : ByteArray := prog_14_method_15_code
def yX12_write : MethodName := ⟨RX12, "write", "(I)I"⟩
abbrev cX12_erase : ByteArray := prog_14_method_16_code
def yX12_erase : MethodName := ⟨RX12, "erase", "()I"⟩
abbrev cX12_isSmall : ByteArray := prog_14_method_17_code
def yX12_isSmall : MethodName := ⟨RX12, "isSmall", "(I)Z"⟩
abbrev cX12_isDigit : ByteArray := prog_14_method_18_code
def yX12_isDigit : MethodName := ⟨RX12, "isDigit", "(I)Z"⟩
abbrev cX12_next : ByteArray := prog_14_method_19_code
def yX12_next : MethodName := ⟨RX12, "next", "()V"⟩
abbrev cX12_isHere : ByteArray := prog_14_method_20_code
def yX12_isHere : MethodName := ⟨RX12, "isHere", "(I)Z"⟩
abbrev cX12_isWord : ByteArray := prog_14_method_21_code
def yX12_isWord : MethodName := ⟨RX12, "isWord", "(IIIII)Z"⟩
abbrev cX12_reads : ByteArray := prog_14_method_22_code
def yX12_reads : MethodName := ⟨RX12, "reads", "(III)Z"⟩
abbrev cX12_triples : ByteArray := prog_14_method_23_code
def yX12_triples : MethodName := ⟨RX12, "triples", "(I)I"⟩
abbrev cX12_readsSigns : ByteArray := prog_14_method_24_code
def yX12_readsSigns : MethodName := ⟨RX12, "readsSigns", "()Z"⟩
abbrev cX12_anew : ByteArray := prog_14_method_25_code
def yX12_anew : MethodName := ⟨RX12, "anew", "(I)V"⟩
abbrev cX12_readsPoint : ByteArray := prog_14_method_26_code
def yX12_readsPoint : MethodName := ⟨RX12, "readsPoint", "()Z"⟩
abbrev cX12_readsSwap : ByteArray := prog_14_method_27_code
def yX12_readsSwap : MethodName := ⟨RX12, "readsSwap", "()Z"⟩
abbrev cX12_valueHere : ByteArray := prog_14_method_28_code
def yX12_valueHere : MethodName := ⟨RX12, "valueHere", "()I"⟩
abbrev cX12_readsClause : ByteArray := prog_14_method_29_code
def yX12_readsClause : MethodName := ⟨RX12, "readsClause", "()Z"⟩
abbrev cX12_readsAll : ByteArray := prog_14_method_30_code
def yX12_readsAll : MethodName := ⟨RX12, "readsAll", "(Z)Z"⟩
abbrev cX12_fault : ByteArray := prog_14_method_31_code
def yX12_fault : MethodName := ⟨RX12, "fault", "()I"⟩
abbrev cX12_tell : ByteArray := prog_14_method_32_code
def yX12_tell : MethodName := ⟨RX12, "tell", "()I"⟩
abbrev cX12_sign : ByteArray := prog_14_method_33_code
def yX12_sign : MethodName := ⟨RX12, "sign", "(III)I"⟩
abbrev cX12_turn : ByteArray := prog_14_method_34_code
def yX12_turn : MethodName := ⟨RX12, "turn", "(III)I"⟩
abbrev cX12_point : ByteArray := prog_14_method_35_code
def yX12_point : MethodName := ⟨RX12, "point", "(II)I"⟩
abbrev cX12_copyRow : ByteArray := prog_14_method_36_code
def yX12_copyRow : MethodName := ⟨RX12, "copyRow", "(II)V"⟩
abbrev cX12_notes : ByteArray := prog_14_method_37_code
def yX12_notes : MethodName := ⟨RX12, "notes", "()V"⟩
abbrev cX12_set : ByteArray := prog_14_method_38_code
def yX12_set : MethodName := ⟨RX12, "set", "(IIII)I"⟩
abbrev cX12_isCoordinate : ByteArray := prog_14_method_39_code
def yX12_isCoordinate : MethodName := ⟨RX12, "isCoordinate", "(I)Z"⟩
abbrev cX12_points : ByteArray := prog_14_method_40_code
def yX12_points : MethodName := ⟨RX12, "points", "(IIII)V"⟩
abbrev cX12_place : ByteArray := prog_14_method_41_code
def yX12_place : MethodName := ⟨RX12, "place", "(IIII)I"⟩
abbrev cX12_flips : ByteArray := prog_14_method_42_code
def yX12_flips : MethodName := ⟨RX12, "flips", "(I)I"⟩
abbrev cX12_flip : ByteArray := prog_14_method_43_code
def yX12_flip : MethodName := ⟨RX12, "flip", "(I)I"⟩
abbrev cX12_wasSign : ByteArray := prog_14_method_44_code
def yX12_wasSign : MethodName := ⟨RX12, "wasSign", "(III)I"⟩
abbrev cX12_under : ByteArray := prog_14_method_45_code
def yX12_under : MethodName := ⟨RX12, "under", "(III)I"⟩
abbrev cX12_swaps : ByteArray := prog_14_method_46_code
def yX12_swaps : MethodName := ⟨RX12, "swaps", "(II)I"⟩
abbrev cX12_swap : ByteArray := prog_14_method_47_code
def yX12_swap : MethodName := ⟨RX12, "swap", "(II)I"⟩
abbrev cX12_add : ByteArray := prog_14_method_48_code
def yX12_add : MethodName := ⟨RX12, "add", "(III)I"⟩
abbrev cX12_drop : ByteArray := prog_14_method_49_code
def yX12_drop : MethodName := ⟨RX12, "drop", "(I)I"⟩
abbrev cX12_draws : ByteArray := prog_14_method_50_code
def yX12_draws : MethodName := ⟨RX12, "draws", "()I"⟩
abbrev cX12_draw : ByteArray := prog_14_method_51_code
def yX12_draw : MethodName := ⟨RX12, "draw", "()I"⟩
abbrev cX12_undo : ByteArray := prog_14_method_52_code
def yX12_undo : MethodName := ⟨RX12, "undo", "()I"⟩
abbrev cX12_keep : ByteArray := prog_14_method_53_code
def yX12_keep : MethodName := ⟨RX12, "keep", "(I)I"⟩
abbrev cX12_back : ByteArray := prog_14_method_54_code
def yX12_back : MethodName := ⟨RX12, "back", "(I)I"⟩
abbrev cX12_isBase : ByteArray := prog_14_method_55_code
def yX12_isBase : MethodName := ⟨RX12, "isBase", "(III)Z"⟩
abbrev cX12_exchanges : ByteArray := prog_14_method_56_code
def yX12_exchanges : MethodName := ⟨RX12, "exchanges", "(IIIIIII)Z"⟩
abbrev cX12_exchangeable : ByteArray := prog_14_method_57_code
def yX12_exchangeable : MethodName := ⟨RX12, "exchangeable", "(IIIIII)Z"⟩
abbrev cX12_areExchangeable : ByteArray := prog_14_method_58_code
def yX12_areExchangeable : MethodName := ⟨RX12, "areExchangeable", "(III)Z"⟩
abbrev cX12_bases : ByteArray := prog_14_method_59_code
def yX12_bases : MethodName := ⟨RX12, "bases", "()I"⟩
abbrev cX12_isExchange : ByteArray := prog_14_method_60_code
def yX12_isExchange : MethodName := ⟨RX12, "isExchange", "()Z"⟩
abbrev cX12_isGood : ByteArray := prog_14_method_61_code
def yX12_isGood : MethodName := ⟨RX12, "isGood", "(IIIII)Z"⟩
abbrev cX12_besides : ByteArray := prog_14_method_62_code
def yX12_besides : MethodName := ⟨RX12, "besides", "(III)I"⟩
abbrev cX12_badFives : ByteArray := prog_14_method_63_code
def yX12_badFives : MethodName := ⟨RX12, "badFives", "()I"⟩
abbrev cX12_isOrderly : ByteArray := prog_14_method_64_code
def yX12_isOrderly : MethodName := ⟨RX12, "isOrderly", "()Z"⟩
abbrev cX12_isDrawn : ByteArray := prog_14_method_65_code
def yX12_isDrawn : MethodName := ⟨RX12, "isDrawn", "()Z"⟩
abbrev cX12_five : ByteArray := prog_14_method_66_code
def yX12_five : MethodName := ⟨RX12, "five", "(IIIII)I"⟩
abbrev cX12_is : ByteArray := prog_14_method_67_code
def yX12_is : MethodName := ⟨RX12, "is", "(I)I"⟩
abbrev cX12_power : ByteArray := prog_14_method_68_code
def yX12_power : MethodName := ⟨RX12, "power", "(I)I"⟩
abbrev cX12_digit : ByteArray := prog_14_method_69_code
def yX12_digit : MethodName := ⟨RX12, "digit", "(III)I"⟩
abbrev cX12_codeOf : ByteArray := prog_14_method_70_code
def yX12_codeOf : MethodName := ⟨RX12, "codeOf", "()I"⟩
abbrev cX12_zeros : ByteArray := prog_14_method_71_code
def yX12_zeros : MethodName := ⟨RX12, "zeros", "(II)I"⟩
abbrev cX12_marksBoth : ByteArray := prog_14_method_72_code
def yX12_marksBoth : MethodName := ⟨RX12, "marksBoth", "()V"⟩
abbrev cX12_marksCocircuits : ByteArray := prog_14_method_73_code
def yX12_marksCocircuits : MethodName := ⟨RX12, "marksCocircuits", "()V"⟩
abbrev cX12_marksCircuits : ByteArray := prog_14_method_74_code
def yX12_marksCircuits : MethodName := ⟨RX12, "marksCircuits", "()V"⟩
abbrev cX12_areAcross : ByteArray := prog_14_method_75_code
def yX12_areAcross : MethodName := ⟨RX12, "areAcross", "(II)Z"⟩
abbrev cX12_marksCovectors : ByteArray := prog_14_method_76_code
def yX12_marksCovectors : MethodName := ⟨RX12, "marksCovectors", "()V"⟩
abbrev cX12_marksTopes : ByteArray := prog_14_method_77_code
def yX12_marksTopes : MethodName := ⟨RX12, "marksTopes", "()V"⟩
abbrev cX12_marksKind : ByteArray := prog_14_method_78_code
def yX12_marksKind : MethodName := ⟨RX12, "marksKind", "(I)V"⟩
abbrev cX12_marked : ByteArray := prog_14_method_79_code
def yX12_marked : MethodName := ⟨RX12, "marked", "()I"⟩
abbrev cX12_markedAt : ByteArray := prog_14_method_80_code
def yX12_markedAt : MethodName := ⟨RX12, "markedAt", "(I)I"⟩
abbrev cX12_isBarred : ByteArray := prog_14_method_81_code
def yX12_isBarred : MethodName := ⟨RX12, "isBarred", "(I)Z"⟩
abbrev cX12_vector : ByteArray := prog_14_method_82_code
def yX12_vector : MethodName := ⟨RX12, "vector", "(III)I"⟩
abbrev cX12_findsTopes : ByteArray := prog_14_method_83_code
def yX12_findsTopes : MethodName := ⟨RX12, "findsTopes", "()V"⟩
abbrev cX12_apart : ByteArray := prog_14_method_84_code
def yX12_apart : MethodName := ⟨RX12, "apart", "(II)I"⟩
abbrev cX12_isNext : ByteArray := prog_14_method_85_code
def yX12_isNext : MethodName := ⟨RX12, "isNext", "(II)Z"⟩
abbrev cX12_beside : ByteArray := prog_14_method_86_code
def yX12_beside : MethodName := ⟨RX12, "beside", "(I)I"⟩
abbrev cX12_ones : ByteArray := prog_14_method_87_code
def yX12_ones : MethodName := ⟨RX12, "ones", "(I)I"⟩
abbrev cX12_steps : ByteArray := prog_14_method_88_code
def yX12_steps : MethodName := ⟨RX12, "steps", "(II)I"⟩
abbrev cX12_between : ByteArray := prog_14_method_89_code
def yX12_between : MethodName := ⟨RX12, "between", "(III)I"⟩
abbrev cX12_isMutation : ByteArray := prog_14_method_90_code
def yX12_isMutation : MethodName := ⟨RX12, "isMutation", "(III)Z"⟩
abbrev cX12_mutation : ByteArray := prog_14_method_91_code
def yX12_mutation : MethodName := ⟨RX12, "mutation", "(I)I"⟩
abbrev cX12_extensions : ByteArray := prog_14_method_92_code
def yX12_extensions : MethodName := ⟨RX12, "extensions", "()I"⟩
abbrev cX12_isBox : ByteArray := prog_14_method_93_code
def yX12_isBox : MethodName := ⟨RX12, "isBox", "(I)Z"⟩
abbrev cX12_box : ByteArray := prog_14_method_94_code
def yX12_box : MethodName := ⟨RX12, "box", "(III)I"⟩
abbrev cX12_finds : ByteArray := prog_14_method_95_code
def yX12_finds : MethodName := ⟨RX12, "finds", "(II)I"⟩
abbrev cX12_lay : ByteArray := prog_14_method_96_code
def yX12_lay : MethodName := ⟨RX12, "lay", "(IIII)I"⟩
abbrev cX12_compose : ByteArray := prog_14_method_97_code
def yX12_compose : MethodName := ⟨RX12, "compose", "(III)I"⟩
abbrev cX12_seen : ByteArray := prog_14_method_98_code
def yX12_seen : MethodName := ⟨RX12, "seen", "(III)I"⟩
abbrev cX12_find : ByteArray := prog_14_method_99_code
def yX12_find : MethodName := ⟨RX12, "find", "(III)I"⟩
abbrev cX12_laid : ByteArray := prog_14_method_100_code
def yX12_laid : MethodName := ⟨RX12, "laid", "(I)I"⟩
abbrev cX12_away : ByteArray := prog_14_method_101_code
def yX12_away : MethodName := ⟨RX12, "away", "(I)I"⟩
abbrev cX12_loops : ByteArray := prog_14_method_102_code
def yX12_loops : MethodName := ⟨RX12, "loops", "()I"⟩
abbrev cX12_parallels : ByteArray := prog_14_method_103_code
def yX12_parallels : MethodName := ⟨RX12, "parallels", "()I"⟩
abbrev cX12_count : ByteArray := prog_14_method_104_code
def yX12_count : MethodName := ⟨RX12, "count", "(I)I"⟩
def RJx145de : String := "java/io/Serializable"
def TJx145de : u_T := fun k => match k with
  | _ => ("", "", "", false)
def tyJx145de : Nat → FieldType := fun k => match k with
  | _ => .int
theorem nmJx145de : ∀ a, a < 0 → ∀ b, b < 0 → a ≠ b → (TJx145de a).2.1 ≠ (TJx145de b).2.1 := by decide +kernel
theorem tyJx145de_ok : ∀ k, k < 0 → parseFieldDescriptor (TJx145de k).2.2.1 = some (tyJx145de k) := by decide +kernel
def RJx9f9b0 : String := "java/lang/CharSequence"
def TJx9f9b0 : u_T := fun k => match k with
  | _ => ("", "", "", false)
def tyJx9f9b0 : Nat → FieldType := fun k => match k with
  | _ => .int
theorem nmJx9f9b0 : ∀ a, a < 0 → ∀ b, b < 0 → a ≠ b → (TJx9f9b0 a).2.1 ≠ (TJx9f9b0 b).2.1 := by decide +kernel
theorem tyJx9f9b0_ok : ∀ k, k < 0 → parseFieldDescriptor (TJx9f9b0 k).2.2.1 = some (tyJx9f9b0 k) := by decide +kernel
def RJxb160c : String := "java/lang/Comparable"
def TJxb160c : u_T := fun k => match k with
  | _ => ("", "", "", false)
def tyJxb160c : Nat → FieldType := fun k => match k with
  | _ => .int
theorem nmJxb160c : ∀ a, a < 0 → ∀ b, b < 0 → a ≠ b → (TJxb160c a).2.1 ≠ (TJxb160c b).2.1 := by decide +kernel
theorem tyJxb160c_ok : ∀ k, k < 0 → parseFieldDescriptor (TJxb160c k).2.2.1 = some (tyJxb160c k) := by decide +kernel
def RJ6 : String := "java/lang/Integer"
def TJ6 : u_T := fun k => match k with
  | _ => ("", "", "", false)
def tyJ6 : Nat → FieldType := fun k => match k with
  | _ => .int
theorem nmJ6 : ∀ a, a < 0 → ∀ b, b < 0 → a ≠ b → (TJ6 a).2.1 ≠ (TJ6 b).2.1 := by decide +kernel
theorem tyJ6_ok : ∀ k, k < 0 → parseFieldDescriptor (TJ6 k).2.2.1 = some (tyJ6 k) := by decide +kernel
abbrev cJ6_bitCount_0f7a4 : ByteArray := prog_15_method_49_code
def yJ6_bitCount_0f7a4 : MethodName := ⟨RJ6, "bitCount", "(I)I"⟩
def RJ13 : String := "java/lang/Long"
def TJ13 : u_T := fun k => match k with
  | _ => ("", "", "", false)
def tyJ13 : Nat → FieldType := fun k => match k with
  | _ => .int
theorem nmJ13 : ∀ a, a < 0 → ∀ b, b < 0 → a ≠ b → (TJ13 a).2.1 ≠ (TJ13 b).2.1 := by decide +kernel
theorem tyJ13_ok : ∀ k, k < 0 → parseFieldDescriptor (TJ13 k).2.2.1 = some (tyJ13 k) := by decide +kernel
abbrev cJ13_bitCount_95d88 : ByteArray := prog_16_method_50_code
def yJ13_bitCount_95d88 : MethodName := ⟨RJ13, "bitCount", "(J)I"⟩
def RJ9 : String := "java/lang/Math"
def TJ9 : u_T := fun k => match k with
  | _ => ("", "", "", false)
def tyJ9 : Nat → FieldType := fun k => match k with
  | _ => .int
theorem nmJ9 : ∀ a, a < 0 → ∀ b, b < 0 → a ≠ b → (TJ9 a).2.1 ≠ (TJ9 b).2.1 := by decide +kernel
theorem tyJ9_ok : ∀ k, k < 0 → parseFieldDescriptor (TJ9 k).2.2.1 = some (tyJ9 k) := by decide +kernel
abbrev cJ9_max_7cf53 : ByteArray := prog_17_method_65_code
def yJ9_max_7cf53 : MethodName := ⟨RJ9, "max", "(II)I"⟩
abbrev cJ9_min_7cf53 : ByteArray := prog_17_method_69_code
def yJ9_min_7cf53 : MethodName := ⟨RJ9, "min", "(II)I"⟩
def RJ0 : String := "java/lang/String"
def TJ0 : u_T := fun k => match k with
  | _ => ("", "", "", false)
def tyJ0 : Nat → FieldType := fun k => match k with
  | _ => .int
theorem nmJ0 : ∀ a, a < 0 → ∀ b, b < 0 → a ≠ b → (TJ0 a).2.1 ≠ (TJ0 b).2.1 := by decide +kernel
theorem tyJ0_ok : ∀ k, k < 0 → parseFieldDescriptor (TJ0 k).2.2.1 = some (tyJ0 k) := by decide +kernel
abbrev cJ0_length_8abf5 : ByteArray := prog_18_method_54_code
def yJ0_length_8abf5 : MethodName := ⟨RJ0, "length", "()I"⟩
abbrev cJ0_charAt_5068e : ByteArray := prog_18_method_56_code
def yJ0_charAt_5068e : MethodName := ⟨RJ0, "charAt", "(I)C"⟩
abbrev cJ0_coder_7d493 : ByteArray := prog_18_method_152_code
def yJ0_coder_7d493 : MethodName := ⟨RJ0, "coder", "()B"⟩
abbrev cJ0_isLatin1_aae02 : ByteArray := prog_18_method_154_code
def yJ0_isLatin1_aae02 : MethodName := ⟨RJ0, "isLatin1", "()Z"⟩
abbrev cJ0_checkIndex_df160 : ByteArray := prog_18_method_155_code
def yJ0_checkIndex_df160 : MethodName := ⟨RJ0, "checkIndex", "(II)V"⟩
def RJ1 : String := "java/lang/StringLatin1"
def TJ1 : u_T := fun k => match k with
  | _ => ("", "", "", false)
def tyJ1 : Nat → FieldType := fun k => match k with
  | _ => .int
theorem nmJ1 : ∀ a, a < 0 → ∀ b, b < 0 → a ≠ b → (TJ1 a).2.1 ≠ (TJ1 b).2.1 := by decide +kernel
theorem tyJ1_ok : ∀ k, k < 0 → parseFieldDescriptor (TJ1 k).2.2.1 = some (tyJ1 k) := by decide +kernel
abbrev cJ1_charAt_3b067 : ByteArray := prog_19_method_2_code
def yJ1_charAt_3b067 : MethodName := ⟨RJ1, "charAt", "([BI)C"⟩
def RJ2 : String := "java/lang/StringUTF16"
def TJ2 : u_T := fun k => match k with
  | _ => ("", "", "", false)
def tyJ2 : Nat → FieldType := fun k => match k with
  | _ => .int
theorem nmJ2 : ∀ a, a < 0 → ∀ b, b < 0 → a ≠ b → (TJ2 a).2.1 ≠ (TJ2 b).2.1 := by decide +kernel
theorem tyJ2_ok : ∀ k, k < 0 → parseFieldDescriptor (TJ2 k).2.2.1 = some (tyJ2 k) := by decide +kernel
abbrev cJ2_getChar_3b067 : ByteArray := prog_20_method_5_code
def yJ2_getChar_3b067 : MethodName := ⟨RJ2, "getChar", "([BI)C"⟩
abbrev cJ2_length_9d52b : ByteArray := prog_20_method_6_code
def yJ2_length_9d52b : MethodName := ⟨RJ2, "length", "([B)I"⟩
abbrev cJ2_charAt_3b067 : ByteArray := prog_20_method_83_code
def yJ2_charAt_3b067 : MethodName := ⟨RJ2, "charAt", "([BI)C"⟩
abbrev cJ2_checkIndex_2214a : ByteArray := prog_20_method_91_code
def yJ2_checkIndex_2214a : MethodName := ⟨RJ2, "checkIndex", "(I[B)V"⟩
def RJ10 : String := "java/lang/System"
def TJ10 : u_T := fun k => match k with
  | _ => ("", "", "", false)
def tyJ10 : Nat → FieldType := fun k => match k with
  | _ => .int
theorem nmJ10 : ∀ a, a < 0 → ∀ b, b < 0 → a ≠ b → (TJ10 a).2.1 ≠ (TJ10 b).2.1 := by decide +kernel
theorem tyJ10_ok : ∀ k, k < 0 → parseFieldDescriptor (TJ10 k).2.2.1 = some (tyJ10 k) := by decide +kernel
def RJxfd54e : String := "java/lang/constant/Constable"
def TJxfd54e : u_T := fun k => match k with
  | _ => ("", "", "", false)
def tyJxfd54e : Nat → FieldType := fun k => match k with
  | _ => .int
theorem nmJxfd54e : ∀ a, a < 0 → ∀ b, b < 0 → a ≠ b → (TJxfd54e a).2.1 ≠ (TJxfd54e b).2.1 := by decide +kernel
theorem tyJxfd54e_ok : ∀ k, k < 0 → parseFieldDescriptor (TJxfd54e k).2.2.1 = some (tyJxfd54e k) := by decide +kernel
def RJx3cf43 : String := "java/lang/constant/ConstantDesc"
def TJx3cf43 : u_T := fun k => match k with
  | _ => ("", "", "", false)
def tyJx3cf43 : Nat → FieldType := fun k => match k with
  | _ => .int
theorem nmJx3cf43 : ∀ a, a < 0 → ∀ b, b < 0 → a ≠ b → (TJx3cf43 a).2.1 ≠ (TJx3cf43 b).2.1 := by decide +kernel
theorem tyJx3cf43_ok : ∀ k, k < 0 → parseFieldDescriptor (TJx3cf43 k).2.2.1 = some (tyJx3cf43 k) := by decide +kernel
def RJ7 : String := "java/util/Arrays"
def TJ7 : u_T := fun k => match k with
  | _ => ("", "", "", false)
def tyJ7 : Nat → FieldType := fun k => match k with
  | _ => .int
theorem nmJ7 : ∀ a, a < 0 → ∀ b, b < 0 → a ≠ b → (TJ7 a).2.1 ≠ (TJ7 b).2.1 := by decide +kernel
theorem tyJ7_ok : ∀ k, k < 0 → parseFieldDescriptor (TJ7 k).2.2.1 = some (tyJ7 k) := by decide +kernel
abbrev cJ7_fill_53178 : ByteArray := prog_22_method_103_code
def yJ7_fill_53178 : MethodName := ⟨RJ7, "fill", "([II)V"⟩
def RJ3 : String := "jdk/internal/util/Preconditions"
def TJ3 : u_T := fun k => match k with
  | _ => ("", "", "", false)
def tyJ3 : Nat → FieldType := fun k => match k with
  | _ => .int
theorem nmJ3 : ∀ a, a < 0 → ∀ b, b < 0 → a ≠ b → (TJ3 a).2.1 ≠ (TJ3 b).2.1 := by decide +kernel
theorem tyJ3_ok : ∀ k, k < 0 → parseFieldDescriptor (TJ3 k).2.2.1 = some (tyJ3 k) := by decide +kernel
abbrev cJ3_checkIndex_8e157 : ByteArray := prog_23_method_11_code
def yJ3_checkIndex_8e157 : MethodName := ⟨RJ3, "checkIndex", "(IILjava/util/function/BiFunction;)I"⟩
def RL : String := "SignTriplesLaw"
abbrev cL_law : ByteArray := code
def yL_law : MethodName := ⟨RL, "law", "([I)Z"⟩
abbrev vwCl : List vw_C := [(RX0, TX0, 3), (RX1, TX1, 5), (RX2, TX2, 10), (RX3, TX3, 1), (RX4, TX4, 3), (RX6, TX6, 3), (RX7, TX7, 6), (RX8, TX8, 2), (RX9, TX9, 3), (RX10, TX10, 2), (RX11, TX11, 8), (RX12, TX12, 23)]
