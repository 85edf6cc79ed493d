-- ===== PART A: goes FIRST, ahead of the names: the tables' words, and 'selects' of the private methods out of them =====
/-- a private method of a class that the tables say can be made, by its rows of tables_1 -/
def lw_okq (q : MethodName × Nat) : Prop := (q.1.cls ≠ "java/lang/invoke/MethodHandle" ∧ q.1.cls ≠ "java/lang/invoke/VarHandle") ∧ Cond.instantiable q.1.cls q.2 ∈ tables_1 ∧ Cond.privateMethod q.1 ∈ tables_1 ∧ Cond.instanceMethod q.1 ∈ tables_1
theorem lw_p0 : lw_okq (⟨"GripBench", "isStand", "(II)Z"⟩, 10) := ⟨⟨by decide +kernel, by decide +kernel⟩, List.mem_of_getElem? (i := 13) (by decide +kernel), List.mem_of_getElem? (i := 243) (by decide +kernel), List.mem_of_getElem? (i := 244) (by decide +kernel)⟩
theorem lw_p1 : lw_okq (⟨"GripBench$Triples", "add", "(IIII)V"⟩, 7) := ⟨⟨by decide +kernel, by decide +kernel⟩, List.mem_of_getElem? (i := 89) (by decide +kernel), List.mem_of_getElem? (i := 296) (by decide +kernel), List.mem_of_getElem? (i := 297) (by decide +kernel)⟩
theorem lw_p2 : lw_okq (⟨"GripBench", "isHeldBy", "(LGripBench$Hand;)Z"⟩, 10) := ⟨⟨by decide +kernel, by decide +kernel⟩, List.mem_of_getElem? (i := 13) (by decide +kernel), List.mem_of_getElem? (i := 321) (by decide +kernel), List.mem_of_getElem? (i := 322) (by decide +kernel)⟩
theorem lw_p3 : lw_okq (⟨"GripBench$Triples", "cross", "(II)Z"⟩, 7) := ⟨⟨by decide +kernel, by decide +kernel⟩, List.mem_of_getElem? (i := 89) (by decide +kernel), List.mem_of_getElem? (i := 329) (by decide +kernel), List.mem_of_getElem? (i := 330) (by decide +kernel)⟩
theorem lw_p4 : lw_okq (⟨"GripBench$Triples", "signs", "()I"⟩, 7) := ⟨⟨by decide +kernel, by decide +kernel⟩, List.mem_of_getElem? (i := 89) (by decide +kernel), List.mem_of_getElem? (i := 333) (by decide +kernel), List.mem_of_getElem? (i := 334) (by decide +kernel)⟩
theorem lw_p5 : lw_okq (⟨"GripBench$Triples", "turnIfBelow", "(I)V"⟩, 7) := ⟨⟨by decide +kernel, by decide +kernel⟩, List.mem_of_getElem? (i := 89) (by decide +kernel), List.mem_of_getElem? (i := 337) (by decide +kernel), List.mem_of_getElem? (i := 338) (by decide +kernel)⟩
theorem lw_p6 : lw_okq (⟨"GripBench", "isFinger", "(I)Z"⟩, 10) := ⟨⟨by decide +kernel, by decide +kernel⟩, List.mem_of_getElem? (i := 13) (by decide +kernel), List.mem_of_getElem? (i := 353) (by decide +kernel), List.mem_of_getElem? (i := 354) (by decide +kernel)⟩
theorem lw_p7 : lw_okq (⟨"GripBench", "isHeldWithin", "(I)Z"⟩, 10) := ⟨⟨by decide +kernel, by decide +kernel⟩, List.mem_of_getElem? (i := 13) (by decide +kernel), List.mem_of_getElem? (i := 375) (by decide +kernel), List.mem_of_getElem? (i := 376) (by decide +kernel)⟩
theorem lw_p8 : lw_okq (⟨"GripBench", "slide", "(II)Z"⟩, 10) := ⟨⟨by decide +kernel, by decide +kernel⟩, List.mem_of_getElem? (i := 13) (by decide +kernel), List.mem_of_getElem? (i := 379) (by decide +kernel), List.mem_of_getElem? (i := 380) (by decide +kernel)⟩
theorem lw_p9 : lw_okq (⟨"GripBench", "isShape", "(II)Z"⟩, 10) := ⟨⟨by decide +kernel, by decide +kernel⟩, List.mem_of_getElem? (i := 13) (by decide +kernel), List.mem_of_getElem? (i := 519) (by decide +kernel), List.mem_of_getElem? (i := 520) (by decide +kernel)⟩
def lw_privs_1 : List (MethodName × Nat) := [(⟨"GripBench", "isStand", "(II)Z"⟩, 10), (⟨"GripBench$Triples", "add", "(IIII)V"⟩, 7), (⟨"GripBench", "isHeldBy", "(LGripBench$Hand;)Z"⟩, 10), (⟨"GripBench$Triples", "cross", "(II)Z"⟩, 7), (⟨"GripBench$Triples", "signs", "()I"⟩, 7), (⟨"GripBench$Triples", "turnIfBelow", "(I)V"⟩, 7), (⟨"GripBench", "isFinger", "(I)Z"⟩, 10), (⟨"GripBench", "isHeldWithin", "(I)Z"⟩, 10), (⟨"GripBench", "slide", "(II)Z"⟩, 10), (⟨"GripBench", "isShape", "(II)Z"⟩, 10)]
theorem lw_r1 : ∀ q ∈ lw_privs_1, lw_okq q := List.forall_mem_cons.mpr ⟨lw_p0, List.forall_mem_cons.mpr ⟨lw_p1, List.forall_mem_cons.mpr ⟨lw_p2, List.forall_mem_cons.mpr ⟨lw_p3, List.forall_mem_cons.mpr ⟨lw_p4, List.forall_mem_cons.mpr ⟨lw_p5, List.forall_mem_cons.mpr ⟨lw_p6, List.forall_mem_cons.mpr ⟨lw_p7, List.forall_mem_cons.mpr ⟨lw_p8, List.forall_mem_cons.mpr ⟨lw_p9, fun _ h => absurd h List.not_mem_nil⟩⟩⟩⟩⟩⟩⟩⟩⟩⟩
def lw_privs : List (MethodName × Nat) := lw_privs_1
def lw_tbl : List Cond := k2_sels lw_privs ++ tables_1
theorem lw_privs_ok : ∀ q ∈ lw_privs, lw_okq q := lw_r1
/-! ===== BEGIN words of one list among another's, by their places ===== -/
theorem goodIn_r {big : List Cond} (ws : List Cond) (ps : List Nat) (hp : ws = ps.filterMap (fun i => big[i]?)) (h : ws.all goodWord = true) : GoodIn big ws := by
  intro w hw
  have h1 := List.all_eq_true.mp h w hw
  rw [hp] at hw
  obtain ⟨i, -, hi⟩ := List.mem_filterMap.mp hw
  have hm : w ∈ big := by first | exact List.mem_of_getElem? hi | exact List.getElem?_mem hi
  exact ⟨hm, good_of_word h1⟩
theorem goodIn_app {big a b : List Cond} (ha : GoodIn big a) (hb : GoodIn big b) : GoodIn big (a ++ b) := fun w h => (List.mem_append.mp h).elim (ha w) (hb w)
theorem goodIn_ca {big a b : List Cond} {c : Cond} (ha : GoodIn big (c :: a)) (hb : GoodIn big b) : GoodIn big (c :: (a ++ b)) := fun w h => (List.mem_cons.mp h).elim (fun e => ha w (List.mem_cons.mpr (Or.inl e))) (fun h => (List.mem_append.mp h).elim (fun h => ha w (List.mem_cons.mpr (Or.inr h))) (hb w))
theorem goodIn_sub {big ws : List Cond} (hm : ∀ w ∈ ws, w ∈ big) (h : ws.all goodWord = true) : GoodIn big ws := fun w hw => ⟨hm w hw, good_of_word (List.all_eq_true.mp h w hw)⟩
/-! ===== END ===== -/

/-! ===== BEGIN printed: names, fields, word lists, decode rows ===== -/
def RX0 : String := "GripBench$Bin"
def TX0 : u_T := fun k => match k with
  | 0 => ("GripBench$Bin", "above", "[I", true)
  | 1 => ("GripBench$Bin", "inside", "I", false)
  | _ => ("GripBench$Bin", "dropped", "I", false)
def tyX0 : Nat → FieldType := fun k => match k with
  | 0 => .array .int
  | 1 => .int
  | _ => .int
abbrev wsX00 : List Cond := u_ws RX0 TX0 3
theorem nmX0 : ∀ a, a < 3 → ∀ b, b < 3 → a ≠ b → (TX0 a).2.1 ≠ (TX0 b).2.1 := by decide +kernel
theorem tyX0_ok : ∀ k, k < 3 → parseFieldDescriptor (TX0 k).2.2.1 = some (tyX0 k) := by decide +kernel
abbrev cX0_init : ByteArray := prog_2_method_1_code
def yX0_init : MethodName := ⟨RX0, "<init>", "()V"⟩
abbrev cX0_dropped : ByteArray := prog_2_method_2_code
def yX0_dropped : MethodName := ⟨RX0, "dropped", "()I"⟩
abbrev cX0_size : ByteArray := prog_2_method_3_code
def yX0_size : MethodName := ⟨RX0, "size", "()I"⟩
def RX1 : String := "GripBench$Grips"
def TX1 : u_T := fun k => match k with
  | 0 => ("GripBench$Grips", "costs", "[I", true)
  | 1 => ("GripBench$Grips", "ways", "[I", true)
  | _ => ("GripBench$Grips", "size", "I", false)
def tyX1 : Nat → FieldType := fun k => match k with
  | 0 => .array .int
  | 1 => .array .int
  | _ => .int
abbrev wsX10 : List Cond := u_ws RX1 TX1 3
theorem nmX1 : ∀ a, a < 3 → ∀ b, b < 3 → a ≠ b → (TX1 a).2.1 ≠ (TX1 b).2.1 := by decide +kernel
theorem tyX1_ok : ∀ k, k < 3 → parseFieldDescriptor (TX1 k).2.2.1 = some (tyX1 k) := by decide +kernel
abbrev cX1_init : ByteArray := prog_3_method_1_code
def yX1_init : MethodName := ⟨RX1, "<init>", "()V"⟩
abbrev cX1_size : ByteArray := prog_3_method_2_code
def yX1_size : MethodName := ⟨RX1, "size", "()I"⟩
def RX2 : String := "GripBench$Hand"
def TX2 : u_T := fun k => match k with
  | 0 => ("GripBench$Hand", "edges", "[I", true)
  | 1 => ("GripBench$Hand", "eighths", "[I", true)
  | _ => ("GripBench$Hand", "size", "I", false)
def tyX2 : Nat → FieldType := fun k => match k with
  | 0 => .array .int
  | 1 => .array .int
  | _ => .int
abbrev wsX20 : List Cond := u_ws RX2 TX2 3
theorem nmX2 : ∀ a, a < 3 → ∀ b, b < 3 → a ≠ b → (TX2 a).2.1 ≠ (TX2 b).2.1 := by decide +kernel
theorem tyX2_ok : ∀ k, k < 3 → parseFieldDescriptor (TX2 k).2.2.1 = some (tyX2 k) := by decide +kernel
abbrev cX2_init : ByteArray := prog_4_method_1_code
def yX2_init : MethodName := ⟨RX2, "<init>", "()V"⟩
abbrev cX2_size : ByteArray := prog_4_method_2_code
def yX2_size : MethodName := ⟨RX2, "size", "()I"⟩
abbrev cX2_edge : ByteArray := prog_4_method_3_code
def yX2_edge : MethodName := ⟨RX2, "edge", "(I)I"⟩
abbrev cX2_eighth : ByteArray := prog_4_method_4_code
def yX2_eighth : MethodName := ⟨RX2, "eighth", "(I)I"⟩
abbrev cX2_clear : ByteArray := prog_4_method_5_code
def yX2_clear : MethodName := ⟨RX2, "clear", "()V"⟩
abbrev cX2_add : ByteArray := prog_4_method_6_code
def yX2_add : MethodName := ⟨RX2, "add", "(II)V"⟩
abbrev cX2_stand : ByteArray := prog_4_method_7_code
def yX2_stand : MethodName := ⟨RX2, "stand", "(III)V"⟩
abbrev cX2_become : ByteArray := prog_4_method_8_code
def yX2_become : MethodName := ⟨RX2, "become", "(LGripBench$Hand;)V"⟩
def RX3 : String := "GripBench$Polygon"
def TX3 : u_T := fun k => match k with
  | 0 => ("GripBench$Polygon", "xs", "[I", true)
  | 1 => ("GripBench$Polygon", "ys", "[I", true)
  | 2 => ("GripBench$Polygon", "corners", "I", false)
  | 3 => ("GripBench$Polygon", "area", "I", false)
  | 4 => ("GripBench$Polygon", "momentX", "I", false)
  | _ => ("GripBench$Polygon", "momentY", "I", false)
def tyX3 : Nat → FieldType := fun k => match k with
  | 0 => .array .int
  | 1 => .array .int
  | 2 => .int
  | 3 => .int
  | 4 => .int
  | _ => .int
abbrev wsX30 : List Cond := u_ws RX3 TX3 6
theorem nmX3 : ∀ a, a < 6 → ∀ b, b < 6 → a ≠ b → (TX3 a).2.1 ≠ (TX3 b).2.1 := by decide +kernel
theorem tyX3_ok : ∀ k, k < 6 → parseFieldDescriptor (TX3 k).2.2.1 = some (tyX3 k) := by decide +kernel
abbrev cX3_init : ByteArray := prog_5_method_1_code
def yX3_init : MethodName := ⟨RX3, "<init>", "()V"⟩
abbrev cX3_setCorner : ByteArray := prog_5_method_2_code
def yX3_setCorner : MethodName := ⟨RX3, "setCorner", "(III)V"⟩
abbrev cX3_close : ByteArray := prog_5_method_3_code
def yX3_close : MethodName := ⟨RX3, "close", "(I)V"⟩
abbrev cX3_corners : ByteArray := prog_5_method_4_code
def yX3_corners : MethodName := ⟨RX3, "corners", "()I"⟩
abbrev cX3_area : ByteArray := prog_5_method_5_code
def yX3_area : MethodName := ⟨RX3, "area", "()I"⟩
abbrev cX3_x : ByteArray := prog_5_method_8_code
def yX3_x : MethodName := ⟨RX3, "x", "(I)I"⟩
abbrev cX3_y : ByteArray := prog_5_method_9_code
def yX3_y : MethodName := ⟨RX3, "y", "(I)I"⟩
abbrev cX3_next : ByteArray := prog_5_method_10_code
def yX3_next : MethodName := ⟨RX3, "next", "(I)I"⟩
abbrev cX3_dx : ByteArray := prog_5_method_11_code
def yX3_dx : MethodName := ⟨RX3, "dx", "(I)I"⟩
abbrev cX3_dy : ByteArray := prog_5_method_12_code
def yX3_dy : MethodName := ⟨RX3, "dy", "(I)I"⟩
def RX4 : String := "GripBench$Probes"
def TX4 : u_T := fun k => match k with
  | 0 => ("GripBench$Probes", "xs", "[I", true)
  | 1 => ("GripBench$Probes", "ys", "[I", true)
  | _ => ("GripBench$Probes", "size", "I", false)
def tyX4 : Nat → FieldType := fun k => match k with
  | 0 => .array .int
  | 1 => .array .int
  | _ => .int
abbrev wsX40 : List Cond := u_ws RX4 TX4 3
theorem nmX4 : ∀ a, a < 3 → ∀ b, b < 3 → a ≠ b → (TX4 a).2.1 ≠ (TX4 b).2.1 := by decide +kernel
theorem tyX4_ok : ∀ k, k < 3 → parseFieldDescriptor (TX4 k).2.2.1 = some (tyX4 k) := by decide +kernel
abbrev cX4_init : ByteArray := prog_6_method_1_code
def yX4_init : MethodName := ⟨RX4, "<init>", "()V"⟩
abbrev cX4_size : ByteArray := prog_6_method_2_code
def yX4_size : MethodName := ⟨RX4, "size", "()I"⟩
def RX5 : String := "GripBench$Sheets"
def TX5 : u_T := fun k => match k with
  | 0 => ("GripBench$Sheets", "forms", "[I", true)
  | 1 => ("GripBench$Sheets", "lengths", "[I", true)
  | 2 => ("GripBench$Sheets", "items", "[I", true)
  | _ => ("GripBench$Sheets", "latestFinding", "I", false)
def tyX5 : Nat → FieldType := fun k => match k with
  | 0 => .array .int
  | 1 => .array .int
  | 2 => .array .int
  | _ => .int
abbrev wsX50 : List Cond := u_ws RX5 TX5 4
theorem nmX5 : ∀ a, a < 4 → ∀ b, b < 4 → a ≠ b → (TX5 a).2.1 ≠ (TX5 b).2.1 := by decide +kernel
theorem tyX5_ok : ∀ k, k < 4 → parseFieldDescriptor (TX5 k).2.2.1 = some (tyX5 k) := by decide +kernel
abbrev cX5_init : ByteArray := prog_7_method_1_code
def yX5_init : MethodName := ⟨RX5, "<init>", "()V"⟩
abbrev cX5_latestFinding : ByteArray := prog_7_method_2_code
def yX5_latestFinding : MethodName := ⟨RX5, "latestFinding", "()I"⟩
abbrev cX5_find : ByteArray := prog_7_method_3_code
def yX5_find : MethodName := ⟨RX5, "find", "(I)I"⟩
abbrev cX5_form : ByteArray := prog_7_method_4_code
def yX5_form : MethodName := ⟨RX5, "form", "(I)I"⟩
abbrev cX5_length : ByteArray := prog_7_method_5_code
def yX5_length : MethodName := ⟨RX5, "length", "(I)I"⟩
abbrev cX5_isLost : ByteArray := prog_7_method_6_code
def yX5_isLost : MethodName := ⟨RX5, "isLost", "(I)Z"⟩
abbrev cX5_forget : ByteArray := prog_7_method_7_code
def yX5_forget : MethodName := ⟨RX5, "forget", "(I)V"⟩
abbrev cX5_renew : ByteArray := prog_7_method_8_code
def yX5_renew : MethodName := ⟨RX5, "renew", "(III)V"⟩
abbrev cX5_value : ByteArray := prog_7_method_9_code
def yX5_value : MethodName := ⟨RX5, "value", "(II)I"⟩
abbrev cX5_write : ByteArray := prog_7_method_11_code
def yX5_write : MethodName := ⟨RX5, "write", "(III)V"⟩
abbrev cX5_faultAt : ByteArray := prog_7_method_12_code
def yX5_faultAt : MethodName := ⟨RX5, "faultAt", "(III)I"⟩
def RX6 : String := "GripBench$Spots"
def TX6 : u_T := fun k => match k with
  | 0 => ("GripBench$Spots", "edges", "[I", true)
  | 1 => ("GripBench$Spots", "eighths", "[I", true)
  | 2 => ("GripBench$Spots", "prices", "[I", true)
  | _ => ("GripBench$Spots", "size", "I", false)
def tyX6 : Nat → FieldType := fun k => match k with
  | 0 => .array .int
  | 1 => .array .int
  | 2 => .array .int
  | _ => .int
abbrev wsX60 : List Cond := u_ws RX6 TX6 4
theorem nmX6 : ∀ a, a < 4 → ∀ b, b < 4 → a ≠ b → (TX6 a).2.1 ≠ (TX6 b).2.1 := by decide +kernel
theorem tyX6_ok : ∀ k, k < 4 → parseFieldDescriptor (TX6 k).2.2.1 = some (tyX6 k) := by decide +kernel
abbrev cX6_init : ByteArray := prog_8_method_1_code
def yX6_init : MethodName := ⟨RX6, "<init>", "()V"⟩
abbrev cX6_size : ByteArray := prog_8_method_2_code
def yX6_size : MethodName := ⟨RX6, "size", "()I"⟩
abbrev cX6_clear : ByteArray := prog_8_method_3_code
def yX6_clear : MethodName := ⟨RX6, "clear", "()V"⟩
abbrev cX6_add : ByteArray := prog_8_method_4_code
def yX6_add : MethodName := ⟨RX6, "add", "(III)V"⟩
abbrev cX6_price : ByteArray := prog_8_method_5_code
def yX6_price : MethodName := ⟨RX6, "price", "(I)I"⟩
abbrev cX6_isBetter : ByteArray := prog_8_method_6_code
def yX6_isBetter : MethodName := ⟨RX6, "isBetter", "(II)Z"⟩
abbrev cX6_layOut : ByteArray := prog_8_method_7_code
def yX6_layOut : MethodName := ⟨RX6, "layOut", "(ILGripBench$Hand;)V"⟩
def RX7 : String := "GripBench$Triples"
def TX7 : u_T := fun k => match k with
  | 0 => ("GripBench$Triples", "forcesX", "[I", true)
  | 1 => ("GripBench$Triples", "forcesY", "[I", true)
  | 2 => ("GripBench$Triples", "turns", "[I", true)
  | 3 => ("GripBench$Triples", "size", "I", false)
  | 4 => ("GripBench$Triples", "crossX", "J", false)
  | 5 => ("GripBench$Triples", "crossY", "J", false)
  | _ => ("GripBench$Triples", "crossTurn", "J", false)
def tyX7 : Nat → FieldType := fun k => match k with
  | 0 => .array .int
  | 1 => .array .int
  | 2 => .array .int
  | 3 => .int
  | 4 => .long
  | 5 => .long
  | _ => .long
abbrev wsX70 : List Cond := u_ws RX7 TX7 7
theorem nmX7 : ∀ a, a < 7 → ∀ b, b < 7 → a ≠ b → (TX7 a).2.1 ≠ (TX7 b).2.1 := by decide +kernel
theorem tyX7_ok : ∀ k, k < 7 → parseFieldDescriptor (TX7 k).2.2.1 = some (tyX7 k) := by decide +kernel
abbrev cX7_init : ByteArray := prog_9_method_1_code
def yX7_init : MethodName := ⟨RX7, "<init>", "()V"⟩
abbrev cX7_size : ByteArray := prog_9_method_2_code
def yX7_size : MethodName := ⟨RX7, "size", "()I"⟩
abbrev cX7_part : ByteArray := prog_9_method_3_code
def yX7_part : MethodName := ⟨RX7, "part", "(II)I"⟩
abbrev cX7_press : ByteArray := prog_9_method_4_code
def yX7_press : MethodName := ⟨RX7, "press", "(LGripBench$Hand;LGripBench$Polygon;I)V"⟩
abbrev cX7_add : ByteArray := prog_9_method_5_code
def yX7_add : MethodName := ⟨RX7, "add", "(IIII)V"⟩
abbrev cX7_spread : ByteArray := prog_9_method_6_code
def yX7_spread : MethodName := ⟨RX7, "spread", "()I"⟩
abbrev cX7_turnIfBelow : ByteArray := prog_9_method_7_code
def yX7_turnIfBelow : MethodName := ⟨RX7, "turnIfBelow", "(I)V"⟩
abbrev cX7_normal : ByteArray := prog_9_method_8_code
def yX7_normal : MethodName := ⟨RX7, "normal", "(I)J"⟩
abbrev cX7_cross : ByteArray := prog_9_method_9_code
def yX7_cross : MethodName := ⟨RX7, "cross", "(II)Z"⟩
abbrev cX7_signs : ByteArray := prog_9_method_10_code
def yX7_signs : MethodName := ⟨RX7, "signs", "()I"⟩
def RX8 : String := "GripBench"
def TX8 : u_T := fun k => match k with
  | 0 => ("GripBench", "polygon", "LGripBench$Polygon;", true)
  | 1 => ("GripBench", "hand", "LGripBench$Hand;", true)
  | 2 => ("GripBench", "trial", "LGripBench$Hand;", true)
  | 3 => ("GripBench", "triples", "LGripBench$Triples;", true)
  | 4 => ("GripBench", "spots", "LGripBench$Spots;", true)
  | 5 => ("GripBench", "probes", "LGripBench$Probes;", true)
  | 6 => ("GripBench", "grips", "LGripBench$Grips;", true)
  | 7 => ("GripBench", "bin", "LGripBench$Bin;", true)
  | 8 => ("GripBench", "sheets", "LGripBench$Sheets;", true)
  | _ => ("GripBench", "friction", "I", false)
def tyX8 : Nat → FieldType := fun k => match k with
  | 0 => .object "GripBench$Polygon"
  | 1 => .object "GripBench$Hand"
  | 2 => .object "GripBench$Hand"
  | 3 => .object "GripBench$Triples"
  | 4 => .object "GripBench$Spots"
  | 5 => .object "GripBench$Probes"
  | 6 => .object "GripBench$Grips"
  | 7 => .object "GripBench$Bin"
  | 8 => .object "GripBench$Sheets"
  | _ => .int
abbrev wsX80 : List Cond := u_ws RX8 TX8 10
theorem nmX8 : ∀ a, a < 10 → ∀ b, b < 10 → a ≠ b → (TX8 a).2.1 ≠ (TX8 b).2.1 := by decide +kernel
theorem tyX8_ok : ∀ k, k < 10 → parseFieldDescriptor (TX8 k).2.2.1 = some (tyX8 k) := by decide +kernel
abbrev cX8_init : ByteArray := prog_1_method_1_code
def yX8_init : MethodName := ⟨RX8, "<init>", "()V"⟩
abbrev cX8_shape : ByteArray := prog_1_method_2_code
def yX8_shape : MethodName := ⟨RX8, "shape", "(II)I"⟩
abbrev cX8_isShape : ByteArray := prog_1_method_3_code
def yX8_isShape : MethodName := ⟨RX8, "isShape", "(II)Z"⟩
abbrev cX8_finger : ByteArray := prog_1_method_7_code
def yX8_finger : MethodName := ⟨RX8, "finger", "(II)I"⟩
abbrev cX8_friction : ByteArray := prog_1_method_10_code
def yX8_friction : MethodName := ⟨RX8, "friction", "(I)I"⟩
abbrev cX8_push : ByteArray := prog_1_method_11_code
def yX8_push : MethodName := ⟨RX8, "push", "(II)J"⟩
abbrev cX8_holds : ByteArray := prog_1_method_12_code
def yX8_holds : MethodName := ⟨RX8, "holds", "()I"⟩
abbrev cX8_witness : ByteArray := prog_1_method_13_code
def yX8_witness : MethodName := ⟨RX8, "witness", "(I)J"⟩
abbrev cX8_free : ByteArray := prog_1_method_14_code
def yX8_free : MethodName := ⟨RX8, "free", "(I)I"⟩
abbrev cX8_slip : ByteArray := prog_1_method_15_code
def yX8_slip : MethodName := ⟨RX8, "slip", "()I"⟩
abbrev cX8_isHeldWithin : ByteArray := prog_1_method_16_code
def yX8_isHeldWithin : MethodName := ⟨RX8, "isHeldWithin", "(I)Z"⟩
abbrev cX8_slide : ByteArray := prog_1_method_17_code
def yX8_slide : MethodName := ⟨RX8, "slide", "(II)Z"⟩
abbrev cX8_isHeldBy : ByteArray := prog_1_method_18_code
def yX8_isHeldBy : MethodName := ⟨RX8, "isHeldBy", "(LGripBench$Hand;)Z"⟩
abbrev cX8_spot : ByteArray := prog_1_method_19_code
def yX8_spot : MethodName := ⟨RX8, "spot", "(III)I"⟩
abbrev cX8_cheapest : ByteArray := prog_1_method_20_code
def yX8_cheapest : MethodName := ⟨RX8, "cheapest", "()I"⟩
abbrev cX8_take : ByteArray := prog_1_method_21_code
def yX8_take : MethodName := ⟨RX8, "take", "()I"⟩
abbrev cX8_sheet : ByteArray := prog_1_method_36_code
def yX8_sheet : MethodName := ⟨RX8, "sheet", "(III)I"⟩
abbrev cX8_put : ByteArray := prog_1_method_38_code
def yX8_put : MethodName := ⟨RX8, "put", "(IIII)I"⟩
abbrev cX8_count : ByteArray := prog_1_method_41_code
def yX8_count : MethodName := ⟨RX8, "count", "(I)I"⟩
abbrev cX8_refusal : ByteArray := prog_1_method_43_code
def yX8_refusal : MethodName := ⟨RX8, "refusal", "(I)J"⟩
abbrev cX8_isWithin : ByteArray := prog_1_method_44_code
def yX8_isWithin : MethodName := ⟨RX8, "isWithin", "(II)Z"⟩
abbrev cX8_isTriplePart : ByteArray := prog_1_method_47_code
def yX8_isTriplePart : MethodName := ⟨RX8, "isTriplePart", "(I)Z"⟩
abbrev cX8_isSheet : ByteArray := prog_1_method_48_code
def yX8_isSheet : MethodName := ⟨RX8, "isSheet", "(I)Z"⟩
abbrev cX8_isForm : ByteArray := prog_1_method_49_code
def yX8_isForm : MethodName := ⟨RX8, "isForm", "(I)Z"⟩
abbrev cX8_isStand : ByteArray := prog_1_method_50_code
def yX8_isStand : MethodName := ⟨RX8, "isStand", "(II)Z"⟩
abbrev cX8_isFinger : ByteArray := prog_1_method_51_code
def yX8_isFinger : MethodName := ⟨RX8, "isFinger", "(I)Z"⟩
abbrev cX8_item : ByteArray := prog_1_method_54_code
def yX8_item : MethodName := ⟨RX8, "item", "([II)I"⟩
abbrev cX8_setItem : ByteArray := prog_1_method_55_code
def yX8_setItem : MethodName := ⟨RX8, "setItem", "([III)V"⟩
def RX9 : String := "GripBenchModel"
def TX9 : u_T := fun k => match k with
  | _ => ("", "", "", false)
def tyX9 : Nat → FieldType := fun k => match k with
  | _ => .int
abbrev wsX90 : List Cond := u_ws RX9 TX9 0
theorem nmX9 : ∀ a, a < 0 → ∀ b, b < 0 → a ≠ b → (TX9 a).2.1 ≠ (TX9 b).2.1 := by decide +kernel
theorem tyX9_ok : ∀ k, k < 0 → parseFieldDescriptor (TX9 k).2.2.1 = some (tyX9 k) := by decide +kernel
def RJ6 : String := "java/lang/Integer"
def TJ6 : u_T := fun k => match k with
  | _ => ("", "", "", false)
def tyJ6 : Nat → FieldType := fun k => match k with
  | _ => .int
abbrev wsJ60 : List Cond := u_ws RJ6 TJ6 0
theorem nmJ6 : ∀ a, a < 0 → ∀ b, b < 0 → a ≠ b → (TJ6 a).2.1 ≠ (TJ6 b).2.1 := by decide +kernel
theorem tyJ6_ok : ∀ k, k < 0 → parseFieldDescriptor (TJ6 k).2.2.1 = some (tyJ6 k) := by decide +kernel
abbrev cJ6_bitCount_0f7a4 : ByteArray := prog_12_method_49_code
def yJ6_bitCount_0f7a4 : MethodName := ⟨RJ6, "bitCount", "(I)I"⟩
def RJ9 : String := "java/lang/Math"
def TJ9 : u_T := fun k => match k with
  | _ => ("", "", "", false)
def tyJ9 : Nat → FieldType := fun k => match k with
  | _ => .int
abbrev wsJ90 : List Cond := u_ws RJ9 TJ9 0
theorem nmJ9 : ∀ a, a < 0 → ∀ b, b < 0 → a ≠ b → (TJ9 a).2.1 ≠ (TJ9 b).2.1 := by decide +kernel
theorem tyJ9_ok : ∀ k, k < 0 → parseFieldDescriptor (TJ9 k).2.2.1 = some (tyJ9 k) := by decide +kernel
abbrev cJ9_max_7cf53 : ByteArray := prog_13_method_65_code
def yJ9_max_7cf53 : MethodName := ⟨RJ9, "max", "(II)I"⟩
abbrev cJ9_min_7cf53 : ByteArray := prog_13_method_69_code
def yJ9_min_7cf53 : MethodName := ⟨RJ9, "min", "(II)I"⟩
def RL : String := "GripBenchLaw"
abbrev cL_cell : ByteArray := method_2_code
def yL_cell : MethodName := ⟨RL, "cell", "([II)I"⟩
abbrev cL_up : ByteArray := method_3_code
def yL_up : MethodName := ⟨RL, "up", "(II)I"⟩
abbrev cL_shape : ByteArray := method_4_code
def yL_shape : MethodName := ⟨RL, "shape", "(LGripBench;[I[I)I"⟩
abbrev cL_law : ByteArray := code
def yL_law : MethodName := ⟨RL, "law", "([I)Z"⟩
def wsL_law_r1 : List Cond := [Cond.classLink RL 10 RX8, Cond.instantiable RX8 10, Cond.initialized RX8, Cond.arrayClass .int, Cond.constantLong RL 51 (-9223372036854775806), Cond.constantLong RL 60 (-9223372036854775805), Cond.methodLink RL 32 yX8_init, Cond.instanceMethod yX8_init, Cond.code yX8_init cX8_init 1 none, Cond.methodLink RX8 1 objectInit, Cond.instanceMethod objectInit, Cond.code objectInit ⟨#[0xb1]⟩ 1 none, Cond.classLink RX8 7 RX3, Cond.instantiable RX3 6, Cond.initialized RX3, Cond.fieldLink RX8 10 "GripBench" "polygon" "LGripBench$Polygon;", Cond.classLink RX8 16 RX2, Cond.instantiable RX2 3, Cond.initialized RX2, Cond.fieldLink RX8 19 "GripBench" "hand" "LGripBench$Hand;", Cond.fieldLink RX8 23 "GripBench" "trial" "LGripBench$Hand;", Cond.classLink RX8 26 RX7, Cond.instantiable RX7 7, Cond.initialized RX7]
def wsL_law_r2 : List Cond := [Cond.fieldLink RX8 29 "GripBench" "triples" "LGripBench$Triples;", Cond.classLink RX8 33 RX6, Cond.instantiable RX6 4, Cond.initialized RX6, Cond.fieldLink RX8 36 "GripBench" "spots" "LGripBench$Spots;", Cond.classLink RX8 40 RX4, Cond.instantiable RX4 3, Cond.initialized RX4, Cond.fieldLink RX8 43 "GripBench" "probes" "LGripBench$Probes;", Cond.classLink RX8 47 RX1, Cond.instantiable RX1 3, Cond.initialized RX1, Cond.fieldLink RX8 50 "GripBench" "grips" "LGripBench$Grips;", Cond.classLink RX8 54 RX0, Cond.instantiable RX0 3, Cond.initialized RX0, Cond.fieldLink RX8 57 "GripBench" "bin" "LGripBench$Bin;", Cond.classLink RX8 61 RX5, Cond.instantiable RX5 4, Cond.initialized RX5, Cond.fieldLink RX8 64 "GripBench" "sheets" "LGripBench$Sheets;", Cond.fieldLink RX8 68 "GripBench" "friction" "I", Cond.methodLink RX8 9 yX3_init, Cond.instanceMethod yX3_init]
def wsL_law_r3 : List Cond := [Cond.code yX3_init cX3_init 1 none, Cond.methodLink RX3 3 objectInit, Cond.fieldLink RX3 9 "GripBench$Polygon" "xs" "[I", Cond.fieldLink RX3 15 "GripBench$Polygon" "ys" "[I", Cond.methodLink RX3 18 yX3_setCorner, Cond.instanceMethod yX3_setCorner, Cond.selects RX3 yX3_setCorner yX3_setCorner, Cond.code yX3_setCorner cX3_setCorner 4 none, Cond.static yX8_setItem, Cond.code yX8_setItem cX8_setItem 3 none, Cond.methodLink RX3 22 yX3_close, Cond.instanceMethod yX3_close, Cond.selects RX3 yX3_close yX3_close, Cond.code yX3_close cX3_close 5 none, Cond.fieldLink RX3 30 "GripBench$Polygon" "corners" "I", Cond.fieldLink RX3 34 "GripBench$Polygon" "area" "I", Cond.fieldLink RX3 37 "GripBench$Polygon" "momentX" "I", Cond.fieldLink RX3 40 "GripBench$Polygon" "momentY" "I", Cond.methodLink RX3 43 yX3_next, Cond.instanceMethod yX3_next, Cond.selects RX3 yX3_next yX3_next, Cond.code yX3_next cX3_next 2 (some .int), Cond.methodLink RX3 47 yX3_x, Cond.instanceMethod yX3_x]
def wsL_law_r4 : List Cond := [Cond.selects RX3 yX3_x yX3_x, Cond.code yX3_x cX3_x 2 (some .int), Cond.static yX8_item, Cond.code yX8_item cX8_item 2 (some .int), Cond.methodLink RX3 50 yX3_y, Cond.instanceMethod yX3_y, Cond.selects RX3 yX3_y yX3_y, Cond.code yX3_y cX3_y 2 (some .int), Cond.instanceMethod yX2_init, Cond.code yX2_init cX2_init 1 none, Cond.methodLink RX2 3 objectInit, Cond.fieldLink RX2 9 "GripBench$Hand" "edges" "[I", Cond.fieldLink RX2 15 "GripBench$Hand" "eighths" "[I", Cond.instanceMethod yX7_init, Cond.code yX7_init cX7_init 1 none, Cond.methodLink RX7 3 objectInit, Cond.fieldLink RX7 9 "GripBench$Triples" "forcesX" "[I", Cond.fieldLink RX7 15 "GripBench$Triples" "forcesY" "[I", Cond.fieldLink RX7 18 "GripBench$Triples" "turns" "[I", Cond.instanceMethod yX6_init, Cond.code yX6_init cX6_init 1 none, Cond.methodLink RX6 3 objectInit, Cond.fieldLink RX6 9 "GripBench$Spots" "edges" "[I", Cond.fieldLink RX6 15 "GripBench$Spots" "eighths" "[I"]
def wsL_law_r5 : List Cond := [Cond.fieldLink RX6 18 "GripBench$Spots" "prices" "[I", Cond.instanceMethod yX4_init, Cond.code yX4_init cX4_init 1 none, Cond.methodLink RX4 3 objectInit, Cond.fieldLink RX4 9 "GripBench$Probes" "xs" "[I", Cond.fieldLink RX4 15 "GripBench$Probes" "ys" "[I", Cond.instanceMethod yX1_init, Cond.code yX1_init cX1_init 1 none, Cond.methodLink RX1 3 objectInit, Cond.fieldLink RX1 9 "GripBench$Grips" "costs" "[I", Cond.fieldLink RX1 15 "GripBench$Grips" "ways" "[I", Cond.instanceMethod yX0_init, Cond.code yX0_init cX0_init 1 none, Cond.methodLink RX0 3 objectInit, Cond.fieldLink RX0 9 "GripBench$Bin" "above" "[I", Cond.methodLink RX8 63 yX5_init, Cond.instanceMethod yX5_init, Cond.code yX5_init cX5_init 2 none, Cond.methodLink RX5 3 objectInit, Cond.fieldLink RX5 9 "GripBench$Sheets" "forms" "[I", Cond.fieldLink RX5 15 "GripBench$Sheets" "lengths" "[I", Cond.fieldLink RX5 18 "GripBench$Sheets" "items" "[I", Cond.methodLink RX5 21 yX5_forget, Cond.instanceMethod yX5_forget]
def wsL_law_r6 : List Cond := [Cond.selects RX5 yX5_forget yX5_forget, Cond.code yX5_forget cX5_forget 2 none, Cond.methodLink RL 33 yL_shape, Cond.static yL_shape, Cond.initialized RL, Cond.code yL_shape cL_shape 9 (some .int), Cond.methodLink RL 9 yX8_sheet, Cond.instanceMethod yX8_sheet, Cond.selects RX8 yX8_sheet yX8_sheet, Cond.code yX8_sheet cX8_sheet 4 (some .int), Cond.methodLink RX8 72 yX8_isSheet, Cond.static yX8_isSheet, Cond.code yX8_isSheet cX8_isSheet 1 (some .boolean), Cond.methodLink RX8 285 yX8_isForm, Cond.static yX8_isForm, Cond.code yX8_isForm cX8_isForm 1 (some .boolean), Cond.methodLink RX8 79 yX5_find, Cond.instanceMethod yX5_find, Cond.selects RX5 yX5_find yX5_find, Cond.code yX5_find cX5_find 2 (some .int), Cond.fieldLink RX5 25 "GripBench$Sheets" "latestFinding" "I", Cond.methodLink RX8 288 yX5_renew, Cond.instanceMethod yX5_renew, Cond.selects RX5 yX5_renew yX5_renew]
def wsL_law_r7 : List Cond := [Cond.code yX5_renew cX5_renew 5 none, Cond.methodLink RL 15 yL_cell, Cond.static yL_cell, Cond.code yL_cell cL_cell 2 (some .int), Cond.constant RL 7 (763049417), Cond.methodLink RL 21 yL_up, Cond.static yL_up, Cond.code yL_up cL_up 2 (some .int), Cond.constant RL 8 (2147483647), Cond.methodLink RL 25 yX8_put, Cond.instanceMethod yX8_put, Cond.selects RX8 yX8_put yX8_put, Cond.code yX8_put cX8_put 6 (some .int), Cond.methodLink RX8 294 yX5_faultAt, Cond.instanceMethod yX5_faultAt, Cond.selects RX5 yX5_faultAt yX5_faultAt, Cond.code yX5_faultAt cX5_faultAt 4 (some .int), Cond.methodLink RX5 48 yX5_isLost, Cond.instanceMethod yX5_isLost, Cond.selects RX5 yX5_isLost yX5_isLost, Cond.code yX5_isLost cX5_isLost 2 (some .boolean), Cond.methodLink RX5 33 yX5_form, Cond.instanceMethod yX5_form, Cond.selects RX5 yX5_form yX5_form]
def wsL_law_r8 : List Cond := [Cond.code yX5_form cX5_form 2 (some .int), Cond.methodLink RX5 41 yX5_length, Cond.instanceMethod yX5_length, Cond.selects RX5 yX5_length yX5_length, Cond.code yX5_length cX5_length 2 (some .int), Cond.methodLink RX8 298 yX5_write, Cond.instanceMethod yX5_write, Cond.selects RX5 yX5_write yX5_write, Cond.code yX5_write cX5_write 5 none, Cond.methodLink RL 29 yX8_shape, Cond.instanceMethod yX8_shape, Cond.selects RX8 yX8_shape yX8_shape, Cond.code yX8_shape cX8_shape 4 (some .int), Cond.methodLink RX8 76 yX5_isLost, Cond.methodLink RX8 83 yX5_length, Cond.methodLink RX8 86 yX8_isShape, Cond.instanceMethod yX8_isShape, Cond.selects RX8 yX8_isShape yX8_isShape, Cond.code yX8_isShape cX8_isShape 6 (some .boolean), Cond.methodLink RX8 90 yX5_value, Cond.instanceMethod yX5_value, Cond.selects RX5 yX5_value yX5_value, Cond.code yX5_value cX5_value 3 (some .int), Cond.methodLink RX8 110 yX8_isWithin]
def wsL_law_r9 : List Cond := [Cond.static yX8_isWithin, Cond.code yX8_isWithin cX8_isWithin 2 (some .boolean), Cond.methodLink RX8 94 yX3_setCorner, Cond.methodLink RX8 98 yX3_close, Cond.methodLink RX8 102 yX2_clear, Cond.instanceMethod yX2_clear, Cond.selects RX2 yX2_clear yX2_clear, Cond.code yX2_clear cX2_clear 1 none, Cond.fieldLink RX2 18 "GripBench$Hand" "size" "I", Cond.methodLink RX8 105 yX6_clear, Cond.instanceMethod yX6_clear, Cond.selects RX6 yX6_clear yX6_clear, Cond.code yX6_clear cX6_clear 1 none, Cond.fieldLink RX6 21 "GripBench$Spots" "size" "I", Cond.methodLink RX8 106 yX3_area, Cond.instanceMethod yX3_area, Cond.selects RX3 yX3_area yX3_area, Cond.code yX3_area cX3_area 1 (some .int), Cond.methodLink RL 36 yX8_friction, Cond.instanceMethod yX8_friction, Cond.selects RX8 yX8_friction yX8_friction, Cond.code yX8_friction cX8_friction 3 (some .int), Cond.methodLink RL 40 yX8_finger, Cond.instanceMethod yX8_finger]
def wsL_law_r10 : List Cond := [Cond.selects RX8 yX8_finger yX8_finger, Cond.code yX8_finger cX8_finger 3 (some .int), Cond.methodLink RX8 135 yX8_isStand, Cond.instanceMethod yX8_isStand, Cond.selects RX8 yX8_isStand yX8_isStand, Cond.code yX8_isStand cX8_isStand 3 (some .boolean), Cond.methodLink RX8 113 yX3_corners, Cond.instanceMethod yX3_corners, Cond.selects RX3 yX3_corners yX3_corners, Cond.code yX3_corners cX3_corners 1 (some .int), Cond.methodLink RX8 138 yX2_size, Cond.instanceMethod yX2_size, Cond.selects RX2 yX2_size yX2_size, Cond.code yX2_size cX2_size 1 (some .int), Cond.methodLink RX8 141 yX2_add, Cond.instanceMethod yX2_add, Cond.selects RX2 yX2_add yX2_add, Cond.code yX2_add cX2_add 3 none, Cond.methodLink RX2 26 yX2_stand, Cond.instanceMethod yX2_stand, Cond.selects RX2 yX2_stand yX2_stand, Cond.code yX2_stand cX2_stand 4 none, Cond.methodLink RL 43 yX8_holds, Cond.instanceMethod yX8_holds]
def wsL_law_r11 : List Cond := [Cond.selects RX8 yX8_holds yX8_holds, Cond.code yX8_holds cX8_holds 1 (some .int), Cond.methodLink RX8 166 yX8_isHeldBy, Cond.instanceMethod yX8_isHeldBy, Cond.selects RX8 yX8_isHeldBy yX8_isHeldBy, Cond.code yX8_isHeldBy cX8_isHeldBy 2 (some .boolean), Cond.methodLink RX8 151 yX7_press, Cond.instanceMethod yX7_press, Cond.selects RX7 yX7_press yX7_press, Cond.code yX7_press cX7_press 11 none, Cond.fieldLink RX7 21 "GripBench$Triples" "size" "I", Cond.methodLink RX7 29 yX2_size, Cond.methodLink RX7 34 yX2_edge, Cond.instanceMethod yX2_edge, Cond.selects RX2 yX2_edge yX2_edge, Cond.code yX2_edge cX2_edge 2 (some .int), Cond.methodLink RX7 38 yX2_eighth, Cond.instanceMethod yX2_eighth, Cond.selects RX2 yX2_eighth yX2_eighth, Cond.code yX2_eighth cX2_eighth 2 (some .int), Cond.methodLink RX7 41 yX3_dx, Cond.instanceMethod yX3_dx, Cond.selects RX3 yX3_dx yX3_dx, Cond.code yX3_dx cX3_dx 2 (some .int)]
def wsL_law_r12 : List Cond := [Cond.methodLink RX7 46 yX3_dy, Cond.instanceMethod yX3_dy, Cond.selects RX3 yX3_dy yX3_dy, Cond.code yX3_dy cX3_dy 2 (some .int), Cond.methodLink RX7 49 yX3_x, Cond.methodLink RX7 52 yX3_y, Cond.methodLink RX7 55 yX7_add, Cond.instanceMethod yX7_add, Cond.selects RX7 yX7_add yX7_add, Cond.code yX7_add cX7_add 5 none, Cond.methodLink RX8 170 yX7_spread, Cond.instanceMethod yX7_spread, Cond.selects RX7 yX7_spread yX7_spread, Cond.code yX7_spread cX7_spread 5 (some .int), Cond.methodLink RX7 63 yX7_cross, Cond.instanceMethod yX7_cross, Cond.selects RX7 yX7_cross yX7_cross, Cond.code yX7_cross cX7_cross 15 (some .boolean), Cond.fieldLink RX7 74 "GripBench$Triples" "crossX" "J", Cond.fieldLink RX7 78 "GripBench$Triples" "crossY" "J", Cond.fieldLink RX7 81 "GripBench$Triples" "crossTurn" "J", Cond.methodLink RX7 67 yX7_signs, Cond.instanceMethod yX7_signs, Cond.selects RX7 yX7_signs yX7_signs]
def wsL_law_r13 : List Cond := [Cond.code yX7_signs cX7_signs 5 (some .int), Cond.methodLink RX7 70 yX7_turnIfBelow, Cond.instanceMethod yX7_turnIfBelow, Cond.selects RX7 yX7_turnIfBelow yX7_turnIfBelow, Cond.code yX7_turnIfBelow cX7_turnIfBelow 2 none, Cond.methodLink RL 47 yX8_push, Cond.instanceMethod yX8_push, Cond.selects RX8 yX8_push yX8_push, Cond.code yX8_push cX8_push 3 (some .long), Cond.methodLink RX8 155 yX7_size, Cond.instanceMethod yX7_size, Cond.selects RX7 yX7_size yX7_size, Cond.code yX7_size cX7_size 1 (some .int), Cond.methodLink RX8 156 yX8_isTriplePart, Cond.static yX8_isTriplePart, Cond.code yX8_isTriplePart cX8_isTriplePart 1 (some .boolean), Cond.methodLink RX8 159 yX8_refusal, Cond.static yX8_refusal, Cond.code yX8_refusal cX8_refusal 1 (some .long), Cond.constantLong RX8 328 (-9223372036854775808), Cond.methodLink RX8 163 yX7_part, Cond.instanceMethod yX7_part, Cond.selects RX7 yX7_part yX7_part, Cond.code yX7_part cX7_part 3 (some .int)]
def wsL_law_r14 : List Cond := [Cond.methodLink RL 53 yX8_count, Cond.instanceMethod yX8_count, Cond.selects RX8 yX8_count yX8_count, Cond.code yX8_count cX8_count 2 (some .int), Cond.methodLink RX8 200 yX6_size, Cond.instanceMethod yX6_size, Cond.selects RX6 yX6_size yX6_size, Cond.code yX6_size cX6_size 1 (some .int), Cond.methodLink RX8 232 yX4_size, Cond.instanceMethod yX4_size, Cond.selects RX4 yX4_size yX4_size, Cond.code yX4_size cX4_size 1 (some .int), Cond.fieldLink RX4 18 "GripBench$Probes" "size" "I", Cond.methodLink RX8 243 yX1_size, Cond.instanceMethod yX1_size, Cond.selects RX1 yX1_size yX1_size, Cond.code yX1_size cX1_size 1 (some .int), Cond.fieldLink RX1 18 "GripBench$Grips" "size" "I", Cond.methodLink RX8 308 yX5_latestFinding, Cond.instanceMethod yX5_latestFinding, Cond.selects RX5 yX5_latestFinding yX5_latestFinding, Cond.code yX5_latestFinding cX5_latestFinding 1 (some .int), Cond.methodLink RX8 311 yX0_size, Cond.instanceMethod yX0_size]
def wsL_law_r15 : List Cond := [Cond.selects RX0 yX0_size yX0_size, Cond.code yX0_size cX0_size 1 (some .int), Cond.fieldLink RX0 19 "GripBench$Bin" "inside" "I", Cond.methodLink RX0 22 yJ6_bitCount_0f7a4, Cond.static yJ6_bitCount_0f7a4, Cond.initialized RJ6, Cond.code yJ6_bitCount_0f7a4 cJ6_bitCount_0f7a4 1 (some .int), Cond.constant RJ6 265 (1431655765), Cond.constant RJ6 266 (858993459), Cond.constant RJ6 267 (252645135), Cond.methodLink RX8 255 yX0_dropped, Cond.instanceMethod yX0_dropped, Cond.selects RX0 yX0_dropped yX0_dropped, Cond.code yX0_dropped cX0_dropped 1 (some .int), Cond.fieldLink RX0 15 "GripBench$Bin" "dropped" "I", Cond.methodLink RL 56 yX8_witness, Cond.instanceMethod yX8_witness, Cond.selects RX8 yX8_witness yX8_witness, Cond.code yX8_witness cX8_witness 2 (some .long), Cond.methodLink RX8 173 yX7_normal, Cond.instanceMethod yX7_normal, Cond.selects RX7 yX7_normal yX7_normal, Cond.code yX7_normal cX7_normal 2 (some .long), Cond.methodLink RL 62 yX8_free]
def wsL_law_r16 : List Cond := [Cond.instanceMethod yX8_free, Cond.selects RX8 yX8_free yX8_free, Cond.code yX8_free cX8_free 4 (some .int), Cond.methodLink RX8 145 yX8_isFinger, Cond.instanceMethod yX8_isFinger, Cond.selects RX8 yX8_isFinger yX8_isFinger, Cond.code yX8_isFinger cX8_isFinger 2 (some .boolean), Cond.methodLink RX8 176 yX2_become, Cond.instanceMethod yX2_become, Cond.selects RX2 yX2_become yX2_become, Cond.code yX2_become cX2_become 3 none, Cond.methodLink RX2 34 yX2_clear, Cond.methodLink RX2 37 yX2_size, Cond.methodLink RX2 40 yX2_edge, Cond.methodLink RX2 44 yX2_eighth, Cond.methodLink RX2 47 yX2_add, Cond.methodLink RX8 180 yX2_edge, Cond.methodLink RX8 148 yX2_stand, Cond.methodLink RL 65 yX8_spot, Cond.instanceMethod yX8_spot, Cond.selects RX8 yX8_spot yX8_spot, Cond.code yX8_spot cX8_spot 4 (some .int), Cond.methodLink RX8 201 yX6_add, Cond.instanceMethod yX6_add]
def wsL_law_r17 : List Cond := [Cond.selects RX6 yX6_add yX6_add, Cond.code yX6_add cX6_add 4 none, Cond.methodLink RL 68 yX8_cheapest, Cond.instanceMethod yX8_cheapest, Cond.selects RX8 yX8_cheapest yX8_cheapest, Cond.code yX8_cheapest cX8_cheapest 3 (some .int), Cond.methodLink RX8 203 yX6_isBetter, Cond.instanceMethod yX6_isBetter, Cond.selects RX6 yX6_isBetter yX6_isBetter, Cond.code yX6_isBetter cX6_isBetter 4 (some .boolean), Cond.methodLink RX6 33 yX6_price, Cond.instanceMethod yX6_price, Cond.selects RX6 yX6_price yX6_price, Cond.code yX6_price cX6_price 4 (some .int), Cond.methodLink RX6 37 yJ6_bitCount_0f7a4, Cond.methodLink RX8 206 yX6_layOut, Cond.instanceMethod yX6_layOut, Cond.selects RX6 yX6_layOut yX6_layOut, Cond.code yX6_layOut cX6_layOut 4 none, Cond.methodLink RX6 42 yX2_clear, Cond.methodLink RX6 47 yX2_add, Cond.methodLink RL 71 yX8_take, Cond.instanceMethod yX8_take, Cond.selects RX8 yX8_take yX8_take]
def wsL_law_r18 : List Cond := [Cond.code yX8_take cX8_take 2 (some .int), Cond.methodLink RX8 210 yX8_cheapest, Cond.methodLink RX8 213 yX6_price, Cond.methodLink RL 74 yX8_slip, Cond.instanceMethod yX8_slip, Cond.selects RX8 yX8_slip yX8_slip, Cond.code yX8_slip cX8_slip 2 (some .int), Cond.methodLink RX8 183 yX8_isHeldWithin, Cond.instanceMethod yX8_isHeldWithin, Cond.selects RX8 yX8_isHeldWithin yX8_isHeldWithin, Cond.code yX8_isHeldWithin cX8_isHeldWithin 4 (some .boolean), Cond.methodLink RX8 186 yX8_slide, Cond.instanceMethod yX8_slide, Cond.selects RX8 yX8_slide yX8_slide, Cond.code yX8_slide cX8_slide 7 (some .boolean), Cond.methodLink RX8 192 Lib.Math.max.name, Cond.static Lib.Math.max.name, Cond.initialized "java/lang/Math", Cond.code Lib.Math.max.name Lib.Math.max.code 2 (some .int), Cond.methodLink RX8 197 Lib.Math.min.name, Cond.static Lib.Math.min.name, Cond.code Lib.Math.min.name Lib.Math.min.code 2 (some .int), Cond.methodLink RX8 189 yX2_eighth]
def wsL_law : List Cond := (wsL_law_r1 ++ (wsL_law_r2 ++ (wsL_law_r3 ++ (wsL_law_r4 ++ (wsL_law_r5 ++ (wsL_law_r6 ++ (wsL_law_r7 ++ (wsL_law_r8 ++ (wsL_law_r9 ++ (wsL_law_r10 ++ (wsL_law_r11 ++ (wsL_law_r12 ++ (wsL_law_r13 ++ (wsL_law_r14 ++ (wsL_law_r15 ++ (wsL_law_r16 ++ (wsL_law_r17 ++ wsL_law_r18))))))))))))))))) ++ wsX80 ++ wsX30 ++ wsX20 ++ wsX70 ++ wsX60 ++ wsX40 ++ wsX10 ++ wsX00 ++ wsX50 ++ ([] : List Cond)
set_option maxRecDepth 20000 in
theorem wsL_law_r1_in : GoodIn lw_tbl wsL_law_r1 := goodIn_p wsL_law_r1 [26, 29] (by decide +kernel) (by decide +kernel)
set_option maxRecDepth 20000 in
theorem wsL_law_r2_in : GoodIn lw_tbl wsL_law_r2 := goodIn_p wsL_law_r2 [] (by decide +kernel) (by decide +kernel)
set_option maxRecDepth 20000 in
theorem wsL_law_r3_in : GoodIn lw_tbl wsL_law_r3 := goodIn_p wsL_law_r3 [34, 39, 42, 46, 50] (by decide +kernel) (by decide +kernel)
set_option maxRecDepth 20000 in
theorem wsL_law_r4_in : GoodIn lw_tbl wsL_law_r4 := goodIn_p wsL_law_r4 [54, 57, 61, 86, 102, 130] (by decide +kernel) (by decide +kernel)
set_option maxRecDepth 20000 in
theorem wsL_law_r5_in : GoodIn lw_tbl wsL_law_r5 := goodIn_p wsL_law_r5 [149, 165, 181, 197] (by decide +kernel) (by decide +kernel)
set_option maxRecDepth 20000 in
theorem wsL_law_r6_in : GoodIn lw_tbl wsL_law_r6 := goodIn_p wsL_law_r6 [202, 478, 482, 485, 488, 492] (by decide +kernel) (by decide +kernel)
set_option maxRecDepth 20000 in
theorem wsL_law_r7_in : GoodIn lw_tbl wsL_law_r7 := goodIn_p wsL_law_r7 [496, 470, 474, 500, 504, 508] (by decide +kernel) (by decide +kernel)
set_option maxRecDepth 20000 in
theorem wsL_law_r8_in : GoodIn lw_tbl wsL_law_r8 := goodIn_p wsL_law_r8 [512, 517, 521, 525, 531, 535] (by decide +kernel) (by decide +kernel)
set_option maxRecDepth 20000 in
theorem wsL_law_r9_in : GoodIn lw_tbl wsL_law_r9 := goodIn_p wsL_law_r9 [538, 373, 545, 549, 276] (by decide +kernel) (by decide +kernel)
set_option maxRecDepth 20000 in
theorem wsL_law_r10_in : GoodIn lw_tbl wsL_law_r10 := goodIn_p wsL_law_r10 [251, 255, 259, 263, 267, 271] (by decide +kernel) (by decide +kernel)
set_option maxRecDepth 20000 in
theorem wsL_law_r11_in : GoodIn lw_tbl wsL_law_r11 := goodIn_p wsL_law_r11 [329, 333, 284, 289, 294, 298] (by decide +kernel) (by decide +kernel)
set_option maxRecDepth 20000 in
theorem wsL_law_r12_in : GoodIn lw_tbl wsL_law_r12 := goodIn_p wsL_law_r12 [302, 308, 337, 341] (by decide +kernel) (by decide +kernel)
set_option maxRecDepth 20000 in
theorem wsL_law_r13_in : GoodIn lw_tbl wsL_law_r13 := goodIn_p wsL_law_r13 [345, 349, 280, 313, 316, 319, 324] (by decide +kernel) (by decide +kernel)
set_option maxRecDepth 20000 in
theorem wsL_law_r14_in : GoodIn lw_tbl wsL_law_r14 := goodIn_p wsL_law_r14 [446, 406, 450, 454, 458] (by decide +kernel) (by decide +kernel)
set_option maxRecDepth 20000 in
theorem wsL_law_r15_in : GoodIn lw_tbl wsL_law_r15 := goodIn_p wsL_law_r15 [462, 427, 467, 353, 357] (by decide +kernel) (by decide +kernel)
set_option maxRecDepth 20000 in
theorem wsL_law_r16_in : GoodIn lw_tbl wsL_law_r16 := goodIn_p wsL_law_r16 [361, 365, 369, 402] (by decide +kernel) (by decide +kernel)
set_option maxRecDepth 20000 in
theorem wsL_law_r17_in : GoodIn lw_tbl wsL_law_r17 := goodIn_p wsL_law_r17 [410, 415, 419, 423, 434] (by decide +kernel) (by decide +kernel)
set_option maxRecDepth 20000 in
theorem wsL_law_r18_in : GoodIn lw_tbl wsL_law_r18 := goodIn_p wsL_law_r18 [440, 383, 387, 391, 395, 398] (by decide +kernel) (by decide +kernel)
set_option maxRecDepth 20000 in
theorem wf0_in : GoodIn lw_tbl wsX00 := goodIn_p wsX00 [] (by decide +kernel) (by decide +kernel)
set_option maxRecDepth 20000 in
theorem wf1_in : GoodIn lw_tbl wsX10 := goodIn_p wsX10 [] (by decide +kernel) (by decide +kernel)
set_option maxRecDepth 20000 in
theorem wf2_in : GoodIn lw_tbl wsX20 := goodIn_p wsX20 [] (by decide +kernel) (by decide +kernel)
set_option maxRecDepth 20000 in
theorem wf3_in : GoodIn lw_tbl wsX30 := goodIn_p wsX30 [] (by decide +kernel) (by decide +kernel)
set_option maxRecDepth 20000 in
theorem wf4_in : GoodIn lw_tbl wsX40 := goodIn_p wsX40 [] (by decide +kernel) (by decide +kernel)
set_option maxRecDepth 20000 in
theorem wf5_in : GoodIn lw_tbl wsX50 := goodIn_p wsX50 [] (by decide +kernel) (by decide +kernel)
set_option maxRecDepth 20000 in
theorem wf6_in : GoodIn lw_tbl wsX60 := goodIn_p wsX60 [] (by decide +kernel) (by decide +kernel)
set_option maxRecDepth 20000 in
theorem wf7_in : GoodIn lw_tbl wsX70 := goodIn_p wsX70 [] (by decide +kernel) (by decide +kernel)
set_option maxRecDepth 20000 in
theorem wf8_in : GoodIn lw_tbl wsX80 := goodIn_p wsX80 [] (by decide +kernel) (by decide +kernel)
theorem wsL_law_good : GoodIn lw_tbl wsL_law := goodIn_app (goodIn_app (goodIn_app (goodIn_app (goodIn_app (goodIn_app (goodIn_app (goodIn_app (goodIn_app (goodIn_app (goodIn_app wsL_law_r1_in (goodIn_app wsL_law_r2_in (goodIn_app wsL_law_r3_in (goodIn_app wsL_law_r4_in (goodIn_app wsL_law_r5_in (goodIn_app wsL_law_r6_in (goodIn_app wsL_law_r7_in (goodIn_app wsL_law_r8_in (goodIn_app wsL_law_r9_in (goodIn_app wsL_law_r10_in (goodIn_app wsL_law_r11_in (goodIn_app wsL_law_r12_in (goodIn_app wsL_law_r13_in (goodIn_app wsL_law_r14_in (goodIn_app wsL_law_r15_in (goodIn_app wsL_law_r16_in (goodIn_app wsL_law_r17_in wsL_law_r18_in))))))))))))))))) wf8_in) wf3_in) wf2_in) wf7_in) wf6_in) wf4_in) wf1_in) wf0_in) wf5_in) (fun w h => absurd h List.not_mem_nil)
theorem wsL_law_in : ∀ w ∈ wsL_law, w ∈ lw_tbl := fun w h => (wsL_law_good w h).1
theorem inlX0 : ∀ w ∈ wsX00, w ∈ wsL_law := fun _ h => List.mem_append_left _ (List.mem_append_left _ (List.mem_append_right _ h))
theorem inX0 : ∀ w ∈ wsX00, w ∈ lw_tbl := fun w h => wsL_law_in w (inlX0 w h)
theorem inlX1 : ∀ w ∈ wsX10, w ∈ wsL_law := fun _ h => List.mem_append_left _ (List.mem_append_left _ (List.mem_append_left _ (List.mem_append_right _ h)))
theorem inX1 : ∀ w ∈ wsX10, w ∈ lw_tbl := fun w h => wsL_law_in w (inlX1 w h)
theorem inlX2 : ∀ w ∈ wsX20, w ∈ wsL_law := fun _ h => List.mem_append_left _ (List.mem_append_left _ (List.mem_append_left _ (List.mem_append_left _ (List.mem_append_left _ (List.mem_append_left _ (List.mem_append_left _ (List.mem_append_right _ h)))))))
theorem inX2 : ∀ w ∈ wsX20, w ∈ lw_tbl := fun w h => wsL_law_in w (inlX2 w h)
theorem inlX3 : ∀ w ∈ wsX30, w ∈ wsL_law := fun _ h => List.mem_append_left _ (List.mem_append_left _ (List.mem_append_left _ (List.mem_append_left _ (List.mem_append_left _ (List.mem_append_left _ (List.mem_append_left _ (List.mem_append_left _ (List.mem_append_right _ h))))))))
theorem inX3 : ∀ w ∈ wsX30, w ∈ lw_tbl := fun w h => wsL_law_in w (inlX3 w h)
theorem inlX4 : ∀ w ∈ wsX40, w ∈ wsL_law := fun _ h => List.mem_append_left _ (List.mem_append_left _ (List.mem_append_left _ (List.mem_append_left _ (List.mem_append_right _ h))))
theorem inX4 : ∀ w ∈ wsX40, w ∈ lw_tbl := fun w h => wsL_law_in w (inlX4 w h)
theorem inlX5 : ∀ w ∈ wsX50, w ∈ wsL_law := fun _ h => List.mem_append_left _ (List.mem_append_right _ h)
theorem inX5 : ∀ w ∈ wsX50, w ∈ lw_tbl := fun w h => wsL_law_in w (inlX5 w h)
theorem inlX6 : ∀ w ∈ wsX60, w ∈ wsL_law := fun _ h => List.mem_append_left _ (List.mem_append_left _ (List.mem_append_left _ (List.mem_append_left _ (List.mem_append_left _ (List.mem_append_right _ h)))))
theorem inX6 : ∀ w ∈ wsX60, w ∈ lw_tbl := fun w h => wsL_law_in w (inlX6 w h)
theorem inlX7 : ∀ w ∈ wsX70, w ∈ wsL_law := fun _ h => List.mem_append_left _ (List.mem_append_left _ (List.mem_append_left _ (List.mem_append_left _ (List.mem_append_left _ (List.mem_append_left _ (List.mem_append_right _ h))))))
theorem inX7 : ∀ w ∈ wsX70, w ∈ lw_tbl := fun w h => wsL_law_in w (inlX7 w h)
theorem inlX8 : ∀ w ∈ wsX80, w ∈ wsL_law := fun _ h => List.mem_append_left _ (List.mem_append_left _ (List.mem_append_left _ (List.mem_append_left _ (List.mem_append_left _ (List.mem_append_left _ (List.mem_append_left _ (List.mem_append_left _ (List.mem_append_left _ (List.mem_append_right _ h)))))))))
theorem inX8 : ∀ w ∈ wsX80, w ∈ lw_tbl := fun w h => wsL_law_in w (inlX8 w h)
theorem inX9 : ∀ w ∈ wsX90, w ∈ lw_tbl := by decide +kernel
theorem inJ6 : ∀ w ∈ wsJ60, w ∈ lw_tbl := by decide +kernel
theorem inJ9 : ∀ w ∈ wsJ90, w ∈ lw_tbl := by decide +kernel
abbrev vwCl : List vw_C := [(RX0, TX0, 3), (RX1, TX1, 3), (RX2, TX2, 3), (RX3, TX3, 6), (RX4, TX4, 3), (RX5, TX5, 4), (RX6, TX6, 4), (RX7, TX7, 7), (RX8, TX8, 10)]
