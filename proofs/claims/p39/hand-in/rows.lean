section
-- ===== PART A: goes FIRST, ahead of the names: the tables' words, and 'selects' of the private methods out of them =====
/-- a private method of a class that the tables say can be made, by its rows of tables_1 -/
def lw_okq (q : MethodName × Nat) : Prop := (q.1.cls ≠ "java/lang/invoke/MethodHandle" ∧ q.1.cls ≠ "java/lang/invoke/VarHandle") ∧ Cond.instantiable q.1.cls q.2 ∈ tables_1 ∧ Cond.privateMethod q.1 ∈ tables_1 ∧ Cond.instanceMethod q.1 ∈ tables_1
theorem lw_p0 : lw_okq (⟨"GripBench", "isStand", "(II)Z"⟩, 10) := ⟨⟨by decide +kernel, by decide +kernel⟩, List.mem_of_getElem? (i := 13) (by decide +kernel), List.mem_of_getElem? (i := 243) (by decide +kernel), List.mem_of_getElem? (i := 244) (by decide +kernel)⟩
theorem lw_p1 : lw_okq (⟨"GripBench$Triples", "add", "(IIII)V"⟩, 7) := ⟨⟨by decide +kernel, by decide +kernel⟩, List.mem_of_getElem? (i := 89) (by decide +kernel), List.mem_of_getElem? (i := 296) (by decide +kernel), List.mem_of_getElem? (i := 297) (by decide +kernel)⟩
theorem lw_p2 : lw_okq (⟨"GripBench", "isHeldBy", "(LGripBench$Hand;)Z"⟩, 10) := ⟨⟨by decide +kernel, by decide +kernel⟩, List.mem_of_getElem? (i := 13) (by decide +kernel), List.mem_of_getElem? (i := 321) (by decide +kernel), List.mem_of_getElem? (i := 322) (by decide +kernel)⟩
theorem lw_p3 : lw_okq (⟨"GripBench$Triples", "cross", "(II)Z"⟩, 7) := ⟨⟨by decide +kernel, by decide +kernel⟩, List.mem_of_getElem? (i := 89) (by decide +kernel), List.mem_of_getElem? (i := 329) (by decide +kernel), List.mem_of_getElem? (i := 330) (by decide +kernel)⟩
theorem lw_p4 : lw_okq (⟨"GripBench$Triples", "signs", "()I"⟩, 7) := ⟨⟨by decide +kernel, by decide +kernel⟩, List.mem_of_getElem? (i := 89) (by decide +kernel), List.mem_of_getElem? (i := 333) (by decide +kernel), List.mem_of_getElem? (i := 334) (by decide +kernel)⟩
theorem lw_p5 : lw_okq (⟨"GripBench$Triples", "turnIfBelow", "(I)V"⟩, 7) := ⟨⟨by decide +kernel, by decide +kernel⟩, List.mem_of_getElem? (i := 89) (by decide +kernel), List.mem_of_getElem? (i := 337) (by decide +kernel), List.mem_of_getElem? (i := 338) (by decide +kernel)⟩
theorem lw_p6 : lw_okq (⟨"GripBench", "isFinger", "(I)Z"⟩, 10) := ⟨⟨by decide +kernel, by decide +kernel⟩, List.mem_of_getElem? (i := 13) (by decide +kernel), List.mem_of_getElem? (i := 353) (by decide +kernel), List.mem_of_getElem? (i := 354) (by decide +kernel)⟩
theorem lw_p7 : lw_okq (⟨"GripBench", "isHeldWithin", "(I)Z"⟩, 10) := ⟨⟨by decide +kernel, by decide +kernel⟩, List.mem_of_getElem? (i := 13) (by decide +kernel), List.mem_of_getElem? (i := 375) (by decide +kernel), List.mem_of_getElem? (i := 376) (by decide +kernel)⟩
theorem lw_p8 : lw_okq (⟨"GripBench", "slide", "(II)Z"⟩, 10) := ⟨⟨by decide +kernel, by decide +kernel⟩, List.mem_of_getElem? (i := 13) (by decide +kernel), List.mem_of_getElem? (i := 379) (by decide +kernel), List.mem_of_getElem? (i := 380) (by decide +kernel)⟩
theorem lw_p9 : lw_okq (⟨"GripBench", "isShape", "(II)Z"⟩, 10) := ⟨⟨by decide +kernel, by decide +kernel⟩, List.mem_of_getElem? (i := 13) (by decide +kernel), List.mem_of_getElem? (i := 519) (by decide +kernel), List.mem_of_getElem? (i := 520) (by decide +kernel)⟩
def lw_privs_1 : List (MethodName × Nat) := [(⟨"GripBench", "isStand", "(II)Z"⟩, 10), (⟨"GripBench$Triples", "add", "(IIII)V"⟩, 7), (⟨"GripBench", "isHeldBy", "(LGripBench$Hand;)Z"⟩, 10), (⟨"GripBench$Triples", "cross", "(II)Z"⟩, 7), (⟨"GripBench$Triples", "signs", "()I"⟩, 7), (⟨"GripBench$Triples", "turnIfBelow", "(I)V"⟩, 7), (⟨"GripBench", "isFinger", "(I)Z"⟩, 10), (⟨"GripBench", "isHeldWithin", "(I)Z"⟩, 10), (⟨"GripBench", "slide", "(II)Z"⟩, 10), (⟨"GripBench", "isShape", "(II)Z"⟩, 10)]
theorem lw_r1 : ∀ q ∈ lw_privs_1, lw_okq q := List.forall_mem_cons.mpr ⟨lw_p0, List.forall_mem_cons.mpr ⟨lw_p1, List.forall_mem_cons.mpr ⟨lw_p2, List.forall_mem_cons.mpr ⟨lw_p3, List.forall_mem_cons.mpr ⟨lw_p4, List.forall_mem_cons.mpr ⟨lw_p5, List.forall_mem_cons.mpr ⟨lw_p6, List.forall_mem_cons.mpr ⟨lw_p7, List.forall_mem_cons.mpr ⟨lw_p8, List.forall_mem_cons.mpr ⟨lw_p9, fun _ h => absurd h List.not_mem_nil⟩⟩⟩⟩⟩⟩⟩⟩⟩⟩
def lw_privs : List (MethodName × Nat) := lw_privs_1
def lw_tbl : List Cond := k2_sels lw_privs ++ tables_1
theorem lw_privs_ok : ∀ q ∈ lw_privs, lw_okq q := lw_r1
/-! ===== BEGIN words of one list among another's, by their places ===== -/
theorem goodIn_r {big : List Cond} (ws : List Cond) (ps : List Nat) (hp : ws = ps.filterMap (fun i => big[i]?)) (h : ws.all goodWord = true) : GoodIn big ws := by
  intro w hw
  have h1 := List.all_eq_true.mp h w hw
  rw [hp] at hw
  obtain ⟨i, -, hi⟩ := List.mem_filterMap.mp hw
  have hm : w ∈ big := by first | exact List.mem_of_getElem? hi | exact List.getElem?_mem hi
  exact ⟨hm, good_of_word h1⟩
theorem goodIn_app {big a b : List Cond} (ha : GoodIn big a) (hb : GoodIn big b) : GoodIn big (a ++ b) := fun w h => (List.mem_append.mp h).elim (ha w) (hb w)
theorem goodIn_ca {big a b : List Cond} {c : Cond} (ha : GoodIn big (c :: a)) (hb : GoodIn big b) : GoodIn big (c :: (a ++ b)) := fun w h => (List.mem_cons.mp h).elim (fun e => ha w (List.mem_cons.mpr (Or.inl e))) (fun h => (List.mem_append.mp h).elim (fun h => ha w (List.mem_cons.mpr (Or.inr h))) (hb w))
theorem goodIn_sub {big ws : List Cond} (hm : ∀ w ∈ ws, w ∈ big) (h : ws.all goodWord = true) : GoodIn big ws := fun w hw => ⟨hm w hw, good_of_word (List.all_eq_true.mp h w hw)⟩
/-! ===== END ===== -/

/-! ===== BEGIN printed: names, fields, word lists, decode rows ===== -/
def RX0 : String := "GripBench$Bin"
def TX0 : u_T := fun k => match k with
  | 0 => ("GripBench$Bin", "above", "[I", true)
  | 1 => ("GripBench$Bin", "inside", "I", false)
  | _ => ("GripBench$Bin", "dropped", "I", false)
def tyX0 : Nat → FieldType := fun k => match k with
  | 0 => .array .int
  | 1 => .int
  | _ => .int
abbrev wsX00 : List Cond := u_ws RX0 TX0 3
theorem nmX0 : ∀ a, a < 3 → ∀ b, b < 3 → a ≠ b → (TX0 a).2.1 ≠ (TX0 b).2.1 := by decide +kernel
theorem tyX0_ok : ∀ k, k < 3 → parseFieldDescriptor (TX0 k).2.2.1 = some (tyX0 k) := by decide +kernel
abbrev cX0_init : ByteArray := prog_2_method_1_code
def yX0_init : MethodName := ⟨RX0, "<init>", "()V"⟩
abbrev cX0_dropped : ByteArray := prog_2_method_2_code
def yX0_dropped : MethodName := ⟨RX0, "dropped", "()I"⟩
abbrev cX0_size : ByteArray := prog_2_method_3_code
def yX0_size : MethodName := ⟨RX0, "size", "()I"⟩
def RX1 : String := "GripBench$Grips"
def TX1 : u_T := fun k => match k with
  | 0 => ("GripBench$Grips", "costs", "[I", true)
  | 1 => ("GripBench$Grips", "ways", "[I", true)
  | _ => ("GripBench$Grips", "size", "I", false)
def tyX1 : Nat → FieldType := fun k => match k with
  | 0 => .array .int
  | 1 => .array .int
  | _ => .int
abbrev wsX10 : List Cond := u_ws RX1 TX1 3
theorem nmX1 : ∀ a, a < 3 → ∀ b, b < 3 → a ≠ b → (TX1 a).2.1 ≠ (TX1 b).2.1 := by decide +kernel
theorem tyX1_ok : ∀ k, k < 3 → parseFieldDescriptor (TX1 k).2.2.1 = some (tyX1 k) := by decide +kernel
abbrev cX1_init : ByteArray := prog_3_method_1_code
def yX1_init : MethodName := ⟨RX1, "<init>", "()V"⟩
abbrev cX1_size : ByteArray := prog_3_method_2_code
def yX1_size : MethodName := ⟨RX1, "size", "()I"⟩
def RX2 : String := "GripBench$Hand"
def TX2 : u_T := fun k => match k with
  | 0 => ("GripBench$Hand", "edges", "[I", true)
  | 1 => ("GripBench$Hand", "eighths", "[I", true)
  | _ => ("GripBench$Hand", "size", "I", false)
def tyX2 : Nat → FieldType := fun k => match k with
  | 0 => .array .int
  | 1 => .array .int
  | _ => .int
abbrev wsX20 : List Cond := u_ws RX2 TX2 3
theorem nmX2 : ∀ a, a < 3 → ∀ b, b < 3 → a ≠ b → (TX2 a).2.1 ≠ (TX2 b).2.1 := by decide +kernel
theorem tyX2_ok : ∀ k, k < 3 → parseFieldDescriptor (TX2 k).2.2.1 = some (tyX2 k) := by decide +kernel
abbrev cX2_init : ByteArray := prog_4_method_1_code
def yX2_init : MethodName := ⟨RX2, "<init>", "()V"⟩
abbrev cX2_size : ByteArray := prog_4_method_2_code
def yX2_size : MethodName := ⟨RX2, "size", "()I"⟩
abbrev cX2_edge : ByteArray := prog_4_method_3_code
def yX2_edge : MethodName := ⟨RX2, "edge", "(I)I"⟩
abbrev cX2_eighth : ByteArray := prog_4_method_4_code
def yX2_eighth : MethodName := ⟨RX2, "eighth", "(I)I"⟩
abbrev cX2_clear : ByteArray := prog_4_method_5_code
def yX2_clear : MethodName := ⟨RX2, "clear", "()V"⟩
abbrev cX2_add : ByteArray := prog_4_method_6_code
def yX2_add : MethodName := ⟨RX2, "add", "(II)V"⟩
abbrev cX2_stand : ByteArray := prog_4_method_7_code
def yX2_stand : MethodName := ⟨RX2, "stand", "(III)V"⟩
abbrev cX2_become : ByteArray := prog_4_method_8_code
def yX2_become : MethodName := ⟨RX2, "become", "(LGripBench$Hand;)V"⟩
def RX3 : String := "GripBench$Polygon"
def TX3 : u_T := fun k => match k with
  | 0 => ("GripBench$Polygon", "xs", "[I", true)
  | 1 => ("GripBench$Polygon", "ys", "[I", true)
  | 2 => ("GripBench$Polygon", "corners", "I", false)
  | 3 => ("GripBench$Polygon", "area", "I", false)
  | 4 => ("GripBench$Polygon", "momentX", "I", false)
  | _ => ("GripBench$Polygon", "momentY", "I", false)
def tyX3 : Nat → FieldType := fun k => match k with
  | 0 => .array .int
  | 1 => .array .int
  | 2 => .int
  | 3 => .int
  | 4 => .int
  | _ => .int
abbrev wsX30 : List Cond := u_ws RX3 TX3 6
theorem nmX3 : ∀ a, a < 6 → ∀ b, b < 6 → a ≠ b → (TX3 a).2.1 ≠ (TX3 b).2.1 := by decide +kernel
theorem tyX3_ok : ∀ k, k < 6 → parseFieldDescriptor (TX3 k).2.2.1 = some (tyX3 k) := by decide +kernel
abbrev cX3_init : ByteArray := prog_5_method_1_code
def yX3_init : MethodName := ⟨RX3, "<init>", "()V"⟩
abbrev cX3_setCorner : ByteArray := prog_5_method_2_code
def yX3_setCorner : MethodName := ⟨RX3, "setCorner", "(III)V"⟩
abbrev cX3_close : ByteArray := prog_5_method_3_code
def yX3_close : MethodName := ⟨RX3, "close", "(I)V"⟩
abbrev cX3_corners : ByteArray := prog_5_method_4_code
def yX3_corners : MethodName := ⟨RX3, "corners", "()I"⟩
abbrev cX3_area : ByteArray := prog_5_method_5_code
def yX3_area : MethodName := ⟨RX3, "area", "()I"⟩
abbrev cX3_x : ByteArray := prog_5_method_8_code
def yX3_x : MethodName := ⟨RX3, "x", "(I)I"⟩
abbrev cX3_y : ByteArray := prog_5_method_9_code
def yX3_y : MethodName := ⟨RX3, "y", "(I)I"⟩
abbrev cX3_next : ByteArray := prog_5_method_10_code
def yX3_next : MethodName := ⟨RX3, "next", "(I)I"⟩
abbrev cX3_dx : ByteArray := prog_5_method_11_code
def yX3_dx : MethodName := ⟨RX3, "dx", "(I)I"⟩
abbrev cX3_dy : ByteArray := prog_5_method_12_code
def yX3_dy : MethodName := ⟨RX3, "dy", "(I)I"⟩
def RX4 : String := "GripBench$Probes"
def TX4 : u_T := fun k => match k with
  | 0 => ("GripBench$Probes", "xs", "[I", true)
  | 1 => ("GripBench$Probes", "ys", "[I", true)
  | _ => ("GripBench$Probes", "size", "I", false)
def tyX4 : Nat → FieldType := fun k => match k with
  | 0 => .array .int
  | 1 => .array .int
  | _ => .int
abbrev wsX40 : List Cond := u_ws RX4 TX4 3
theorem nmX4 : ∀ a, a < 3 → ∀ b, b < 3 → a ≠ b → (TX4 a).2.1 ≠ (TX4 b).2.1 := by decide +kernel
theorem tyX4_ok : ∀ k, k < 3 → parseFieldDescriptor (TX4 k).2.2.1 = some (tyX4 k) := by decide +kernel
abbrev cX4_init : ByteArray := prog_6_method_1_code
def yX4_init : MethodName := ⟨RX4, "<init>", "()V"⟩
abbrev cX4_size : ByteArray := prog_6_method_2_code
def yX4_size : MethodName := ⟨RX4, "size", "()I"⟩
def RX5 : String := "GripBench$Sheets"
def TX5 : u_T := fun k => match k with
  | 0 => ("GripBench$Sheets", "forms", "[I", true)
  | 1 => ("GripBench$Sheets", "lengths", "[I", true)
  | 2 => ("GripBench$Sheets", "items", "[I", true)
  | _ => ("GripBench$Sheets", "latestFinding", "I", false)
def tyX5 : Nat → FieldType := fun k => match k with
  | 0 => .array .int
  | 1 => .array .int
  | 2 => .array .int
  | _ => .int
abbrev wsX50 : List Cond := u_ws RX5 TX5 4
theorem nmX5 : ∀ a, a < 4 → ∀ b, b < 4 → a ≠ b → (TX5 a).2.1 ≠ (TX5 b).2.1 := by decide +kernel
theorem tyX5_ok : ∀ k, k < 4 → parseFieldDescriptor (TX5 k).2.2.1 = some (tyX5 k) := by decide +kernel
abbrev cX5_init : ByteArray := prog_7_method_1_code
def yX5_init : MethodName := ⟨RX5, "<init>", "()V"⟩
abbrev cX5_latestFinding : ByteArray := prog_7_method_2_code
def yX5_latestFinding : MethodName := ⟨RX5, "latestFinding", "()I"⟩
abbrev cX5_find : ByteArray := prog_7_method_3_code
def yX5_find : MethodName := ⟨RX5, "find", "(I)I"⟩
abbrev cX5_form : ByteArray := prog_7_method_4_code
def yX5_form : MethodName := ⟨RX5, "form", "(I)I"⟩
abbrev cX5_length : ByteArray := prog_7_method_5_code
def yX5_length : MethodName := ⟨RX5, "length", "(I)I"⟩
abbrev cX5_isLost : ByteArray := prog_7_method_6_code
def yX5_isLost : MethodName := ⟨RX5, "isLost", "(I)Z"⟩
abbrev cX5_forget : ByteArray := prog_7_method_7_code
def yX5_forget : MethodName := ⟨RX5, "forget", "(I)V"⟩
abbrev cX5_renew : ByteArray := prog_7_method_8_code
def yX5_renew : MethodName := ⟨RX5, "renew", "(III)V"⟩
abbrev cX5_value : ByteArray := prog_7_method_9_code
def yX5_value : MethodName := ⟨RX5, "value", "(II)I"⟩
abbrev cX5_write : ByteArray := prog_7_method_11_code
def yX5_write : MethodName := ⟨RX5, "write", "(III)V"⟩
abbrev cX5_faultAt : ByteArray := prog_7_method_12_code
def yX5_faultAt : MethodName := ⟨RX5, "faultAt", "(III)I"⟩
def RX6 : String := "GripBench$Spots"
def TX6 : u_T := fun k => match k with
  | 0 => ("GripBench$Spots", "edges", "[I", true)
  | 1 => ("GripBench$Spots", "eighths", "[I", true)
  | 2 => ("GripBench$Spots", "prices", "[I", true)
  | _ => ("GripBench$Spots", "size", "I", false)
def tyX6 : Nat → FieldType := fun k => match k with
  | 0 => .array .int
  | 1 => .array .int
  | 2 => .array .int
  | _ => .int
abbrev wsX60 : List Cond := u_ws RX6 TX6 4
theorem nmX6 : ∀ a, a < 4 → ∀ b, b < 4 → a ≠ b → (TX6 a).2.1 ≠ (TX6 b).2.1 := by decide +kernel
theorem tyX6_ok : ∀ k, k < 4 → parseFieldDescriptor (TX6 k).2.2.1 = some (tyX6 k) := by decide +kernel
abbrev cX6_init : ByteArray := prog_8_method_1_code
def yX6_init : MethodName := ⟨RX6, "<init>", "()V"⟩
abbrev cX6_size : ByteArray := prog_8_method_2_code
def yX6_size : MethodName := ⟨RX6, "size", "()I"⟩
abbrev cX6_clear : ByteArray := prog_8_method_3_code
def yX6_clear : MethodName := ⟨RX6, "clear", "()V"⟩
abbrev cX6_add : ByteArray := prog_8_method_4_code
def yX6_add : MethodName := ⟨RX6, "add", "(III)V"⟩
abbrev cX6_price : ByteArray := prog_8_method_5_code
def yX6_price : MethodName := ⟨RX6, "price", "(I)I"⟩
abbrev cX6_isBetter : ByteArray := prog_8_method_6_code
def yX6_isBetter : MethodName := ⟨RX6, "isBetter", "(II)Z"⟩
abbrev cX6_layOut : ByteArray := prog_8_method_7_code
def yX6_layOut : MethodName := ⟨RX6, "layOut", "(ILGripBench$Hand;)V"⟩
def RX7 : String := "GripBench$Triples"
def TX7 : u_T := fun k => match k with
  | 0 => ("GripBench$Triples", "forcesX", "[I", true)
  | 1 => ("GripBench$Triples", "forcesY", "[I", true)
  | 2 => ("GripBench$Triples", "turns", "[I", true)
  | 3 => ("GripBench$Triples", "size", "I", false)
  | 4 => ("GripBench$Triples", "crossX", "J", false)
  | 5 => ("GripBench$Triples", "crossY", "J", false)
  | _ => ("GripBench$Triples", "crossTurn", "J", false)
def tyX7 : Nat → FieldType := fun k => match k with
  | 0 => .array .int
  | 1 => .array .int
  | 2 => .array .int
  | 3 => .int
  | 4 => .long
  | 5 => .long
  | _ => .long
abbrev wsX70 : List Cond := u_ws RX7 TX7 7
theorem nmX7 : ∀ a, a < 7 → ∀ b, b < 7 → a ≠ b → (TX7 a).2.1 ≠ (TX7 b).2.1 := by decide +kernel
theorem tyX7_ok : ∀ k, k < 7 → parseFieldDescriptor (TX7 k).2.2.1 = some (tyX7 k) := by decide +kernel
abbrev cX7_init : ByteArray := prog_9_method_1_code
def yX7_init : MethodName := ⟨RX7, "<init>", "()V"⟩
abbrev cX7_size : ByteArray := prog_9_method_2_code
def yX7_size : MethodName := ⟨RX7, "size", "()I"⟩
abbrev cX7_part : ByteArray := prog_9_method_3_code
def yX7_part : MethodName := ⟨RX7, "part", "(II)I"⟩
abbrev cX7_press : ByteArray := prog_9_method_4_code
def yX7_press : MethodName := ⟨RX7, "press", "(LGripBench$Hand;LGripBench$Polygon;I)V"⟩
abbrev cX7_add : ByteArray := prog_9_method_5_code
def yX7_add : MethodName := ⟨RX7, "add", "(IIII)V"⟩
abbrev cX7_spread : ByteArray := prog_9_method_6_code
def yX7_spread : MethodName := ⟨RX7, "spread", "()I"⟩
abbrev cX7_turnIfBelow : ByteArray := prog_9_method_7_code
def yX7_turnIfBelow : MethodName := ⟨RX7, "turnIfBelow", "(I)V"⟩
abbrev cX7_normal : ByteArray := prog_9_method_8_code
def yX7_normal : MethodName := ⟨RX7, "normal", "(I)J"⟩
abbrev cX7_cross : ByteArray := prog_9_method_9_code
def yX7_cross : MethodName := ⟨RX7, "cross", "(II)Z"⟩
abbrev cX7_signs : ByteArray := prog_9_method_10_code
def yX7_signs : MethodName := ⟨RX7, "signs", "()I"⟩
def RX8 : String := "GripBench"
def TX8 : u_T := fun k => match k with
  | 0 => ("GripBench", "polygon", "LGripBench$Polygon;", true)
  | 1 => ("GripBench", "hand", "LGripBench$Hand;", true)
  | 2 => ("GripBench", "trial", "LGripBench$Hand;", true)
  | 3 => ("GripBench", "triples", "LGripBench$Triples;", true)
  | 4 => ("GripBench", "spots", "LGripBench$Spots;", true)
  | 5 => ("GripBench", "probes", "LGripBench$Probes;", true)
  | 6 => ("GripBench", "grips", "LGripBench$Grips;", true)
  | 7 => ("GripBench", "bin", "LGripBench$Bin;", true)
  | 8 => ("GripBench", "sheets", "LGripBench$Sheets;", true)
  | _ => ("GripBench", "friction", "I", false)
def tyX8 : Nat → FieldType := fun k => match k with
  | 0 => .object "GripBench$Polygon"
  | 1 => .object "GripBench$Hand"
  | 2 => .object "GripBench$Hand"
  | 3 => .object "GripBench$Triples"
  | 4 => .object "GripBench$Spots"
  | 5 => .object "GripBench$Probes"
  | 6 => .object "GripBench$Grips"
  | 7 => .object "GripBench$Bin"
  | 8 => .object "GripBench$Sheets"
  | _ => .int
abbrev wsX80 : List Cond := u_ws RX8 TX8 10
theorem nmX8 : ∀ a, a < 10 → ∀ b, b < 10 → a ≠ b → (TX8 a).2.1 ≠ (TX8 b).2.1 := by decide +kernel
theorem tyX8_ok : ∀ k, k < 10 → parseFieldDescriptor (TX8 k).2.2.1 = some (tyX8 k) := by decide +kernel
abbrev cX8_init : ByteArray := prog_1_method_1_code
def yX8_init : MethodName := ⟨RX8, "<init>", "()V"⟩
abbrev cX8_shape : ByteArray := prog_1_method_2_code
def yX8_shape : MethodName := ⟨RX8, "shape", "(II)I"⟩
abbrev cX8_isShape : ByteArray := prog_1_method_3_code
def yX8_isShape : MethodName := ⟨RX8, "isShape", "(II)Z"⟩
abbrev cX8_finger : ByteArray := prog_1_method_7_code
def yX8_finger : MethodName := ⟨RX8, "finger", "(II)I"⟩
abbrev cX8_friction : ByteArray := prog_1_method_10_code
def yX8_friction : MethodName := ⟨RX8, "friction", "(I)I"⟩
abbrev cX8_push : ByteArray := prog_1_method_11_code
def yX8_push : MethodName := ⟨RX8, "push", "(II)J"⟩
abbrev cX8_holds : ByteArray := prog_1_method_12_code
def yX8_holds : MethodName := ⟨RX8, "holds", "()I"⟩
abbrev cX8_witness : ByteArray := prog_1_method_13_code
def yX8_witness : MethodName := ⟨RX8, "witness", "(I)J"⟩
abbrev cX8_free : ByteArray := prog_1_method_14_code
def yX8_free : MethodName := ⟨RX8, "free", "(I)I"⟩
abbrev cX8_slip : ByteArray := prog_1_method_15_code
def yX8_slip : MethodName := ⟨RX8, "slip", "()I"⟩
abbrev cX8_isHeldWithin : ByteArray := prog_1_method_16_code
def yX8_isHeldWithin : MethodName := ⟨RX8, "isHeldWithin", "(I)Z"⟩
abbrev cX8_slide : ByteArray := prog_1_method_17_code
def yX8_slide : MethodName := ⟨RX8, "slide", "(II)Z"⟩
abbrev cX8_isHeldBy : ByteArray := prog_1_method_18_code
def yX8_isHeldBy : MethodName := ⟨RX8, "isHeldBy", "(LGripBench$Hand;)Z"⟩
abbrev cX8_spot : ByteArray := prog_1_method_19_code
def yX8_spot : MethodName := ⟨RX8, "spot", "(III)I"⟩
abbrev cX8_cheapest : ByteArray := prog_1_method_20_code
def yX8_cheapest : MethodName := ⟨RX8, "cheapest", "()I"⟩
abbrev cX8_take : ByteArray := prog_1_method_21_code
def yX8_take : MethodName := ⟨RX8, "take", "()I"⟩
abbrev cX8_sheet : ByteArray := prog_1_method_36_code
def yX8_sheet : MethodName := ⟨RX8, "sheet", "(III)I"⟩
abbrev cX8_put : ByteArray := prog_1_method_38_code
def yX8_put : MethodName := ⟨RX8, "put", "(IIII)I"⟩
abbrev cX8_count : ByteArray := prog_1_method_41_code
def yX8_count : MethodName := ⟨RX8, "count", "(I)I"⟩
abbrev cX8_refusal : ByteArray := prog_1_method_43_code
def yX8_refusal : MethodName := ⟨RX8, "refusal", "(I)J"⟩
abbrev cX8_isWithin : ByteArray := prog_1_method_44_code
def yX8_isWithin : MethodName := ⟨RX8, "isWithin", "(II)Z"⟩
abbrev cX8_isTriplePart : ByteArray := prog_1_method_47_code
def yX8_isTriplePart : MethodName := ⟨RX8, "isTriplePart", "(I)Z"⟩
abbrev cX8_isSheet : ByteArray := prog_1_method_48_code
def yX8_isSheet : MethodName := ⟨RX8, "isSheet", "(I)Z"⟩
abbrev cX8_isForm : ByteArray := prog_1_method_49_code
def yX8_isForm : MethodName := ⟨RX8, "isForm", "(I)Z"⟩
abbrev cX8_isStand : ByteArray := prog_1_method_50_code
def yX8_isStand : MethodName := ⟨RX8, "isStand", "(II)Z"⟩
abbrev cX8_isFinger : ByteArray := prog_1_method_51_code
def yX8_isFinger : MethodName := ⟨RX8, "isFinger", "(I)Z"⟩
abbrev cX8_item : ByteArray := prog_1_method_54_code
def yX8_item : MethodName := ⟨RX8, "item", "([II)I"⟩
abbrev cX8_setItem : ByteArray := prog_1_method_55_code
def yX8_setItem : MethodName := ⟨RX8, "setItem", "([III)V"⟩
def RX9 : String := "GripBenchModel"
def TX9 : u_T := fun k => match k with
  | _ => ("", "", "", false)
def tyX9 : Nat → FieldType := fun k => match k with
  | _ => .int
abbrev wsX90 : List Cond := u_ws RX9 TX9 0
theorem nmX9 : ∀ a, a < 0 → ∀ b, b < 0 → a ≠ b → (TX9 a).2.1 ≠ (TX9 b).2.1 := by decide +kernel
theorem tyX9_ok : ∀ k, k < 0 → parseFieldDescriptor (TX9 k).2.2.1 = some (tyX9 k) := by decide +kernel
def RJ6 : String := "java/lang/Integer"
def TJ6 : u_T := fun k => match k with
  | _ => ("", "", "", false)
def tyJ6 : Nat → FieldType := fun k => match k with
  | _ => .int
abbrev wsJ60 : List Cond := u_ws RJ6 TJ6 0
theorem nmJ6 : ∀ a, a < 0 → ∀ b, b < 0 → a ≠ b → (TJ6 a).2.1 ≠ (TJ6 b).2.1 := by decide +kernel
theorem tyJ6_ok : ∀ k, k < 0 → parseFieldDescriptor (TJ6 k).2.2.1 = some (tyJ6 k) := by decide +kernel
abbrev cJ6_bitCount_0f7a4 : ByteArray := prog_12_method_49_code
def yJ6_bitCount_0f7a4 : MethodName := ⟨RJ6, "bitCount", "(I)I"⟩
def RJ9 : String := "java/lang/Math"
def TJ9 : u_T := fun k => match k with
  | _ => ("", "", "", false)
def tyJ9 : Nat → FieldType := fun k => match k with
  | _ => .int
abbrev wsJ90 : List Cond := u_ws RJ9 TJ9 0
theorem nmJ9 : ∀ a, a < 0 → ∀ b, b < 0 → a ≠ b → (TJ9 a).2.1 ≠ (TJ9 b).2.1 := by decide +kernel
theorem tyJ9_ok : ∀ k, k < 0 → parseFieldDescriptor (TJ9 k).2.2.1 = some (tyJ9 k) := by decide +kernel
abbrev cJ9_max_7cf53 : ByteArray := prog_13_method_65_code
def yJ9_max_7cf53 : MethodName := ⟨RJ9, "max", "(II)I"⟩
abbrev cJ9_min_7cf53 : ByteArray := prog_13_method_69_code
def yJ9_min_7cf53 : MethodName := ⟨RJ9, "min", "(II)I"⟩
def RL : String := "GripBenchLaw"
abbrev cL_cell : ByteArray := method_2_code
def yL_cell : MethodName := ⟨RL, "cell", "([II)I"⟩
abbrev cL_up : ByteArray := method_3_code
def yL_up : MethodName := ⟨RL, "up", "(II)I"⟩
abbrev cL_shape : ByteArray := method_4_code
def yL_shape : MethodName := ⟨RL, "shape", "(LGripBench;[I[I)I"⟩
abbrev cL_law : ByteArray := code
def yL_law : MethodName := ⟨RL, "law", "([I)Z"⟩
def wsL_law_r1 : List Cond := [Cond.classLink RL 10 RX8, Cond.instantiable RX8 10, Cond.initialized RX8, Cond.arrayClass .int, Cond.constantLong RL 51 (-9223372036854775806), Cond.constantLong RL 60 (-9223372036854775805), Cond.methodLink RL 32 yX8_init, Cond.instanceMethod yX8_init, Cond.code yX8_init cX8_init 1 none, Cond.methodLink RX8 1 objectInit, Cond.instanceMethod objectInit, Cond.code objectInit ⟨#[0xb1]⟩ 1 none, Cond.classLink RX8 7 RX3, Cond.instantiable RX3 6, Cond.initialized RX3, Cond.fieldLink RX8 10 "GripBench" "polygon" "LGripBench$Polygon;", Cond.classLink RX8 16 RX2, Cond.instantiable RX2 3, Cond.initialized RX2, Cond.fieldLink RX8 19 "GripBench" "hand" "LGripBench$Hand;", Cond.fieldLink RX8 23 "GripBench" "trial" "LGripBench$Hand;", Cond.classLink RX8 26 RX7, Cond.instantiable RX7 7, Cond.initialized RX7]
def wsL_law_r2 : List Cond := [Cond.fieldLink RX8 29 "GripBench" "triples" "LGripBench$Triples;", Cond.classLink RX8 33 RX6, Cond.instantiable RX6 4, Cond.initialized RX6, Cond.fieldLink RX8 36 "GripBench" "spots" "LGripBench$Spots;", Cond.classLink RX8 40 RX4, Cond.instantiable RX4 3, Cond.initialized RX4, Cond.fieldLink RX8 43 "GripBench" "probes" "LGripBench$Probes;", Cond.classLink RX8 47 RX1, Cond.instantiable RX1 3, Cond.initialized RX1, Cond.fieldLink RX8 50 "GripBench" "grips" "LGripBench$Grips;", Cond.classLink RX8 54 RX0, Cond.instantiable RX0 3, Cond.initialized RX0, Cond.fieldLink RX8 57 "GripBench" "bin" "LGripBench$Bin;", Cond.classLink RX8 61 RX5, Cond.instantiable RX5 4, Cond.initialized RX5, Cond.fieldLink RX8 64 "GripBench" "sheets" "LGripBench$Sheets;", Cond.fieldLink RX8 68 "GripBench" "friction" "I", Cond.methodLink RX8 9 yX3_init, Cond.instanceMethod yX3_init]
def wsL_law_r3 : List Cond := [Cond.code yX3_init cX3_init 1 none, Cond.methodLink RX3 3 objectInit, Cond.fieldLink RX3 9 "GripBench$Polygon" "xs" "[I", Cond.fieldLink RX3 15 "GripBench$Polygon" "ys" "[I", Cond.methodLink RX3 18 yX3_setCorner, Cond.instanceMethod yX3_setCorner, Cond.selects RX3 yX3_setCorner yX3_setCorner, Cond.code yX3_setCorner cX3_setCorner 4 none, Cond.static yX8_setItem, Cond.code yX8_setItem cX8_setItem 3 none, Cond.methodLink RX3 22 yX3_close, Cond.instanceMethod yX3_close, Cond.selects RX3 yX3_close yX3_close, Cond.code yX3_close cX3_close 5 none, Cond.fieldLink RX3 30 "GripBench$Polygon" "corners" "I", Cond.fieldLink RX3 34 "GripBench$Polygon" "area" "I", Cond.fieldLink RX3 37 "GripBench$Polygon" "momentX" "I", Cond.fieldLink RX3 40 "GripBench$Polygon" "momentY" "I", Cond.methodLink RX3 43 yX3_next, Cond.instanceMethod yX3_next, Cond.selects RX3 yX3_next yX3_next, Cond.code yX3_next cX3_next 2 (some .int), Cond.methodLink RX3 47 yX3_x, Cond.instanceMethod yX3_x]
def wsL_law_r4 : List Cond := [Cond.selects RX3 yX3_x yX3_x, Cond.code yX3_x cX3_x 2 (some .int), Cond.static yX8_item, Cond.code yX8_item cX8_item 2 (some .int), Cond.methodLink RX3 50 yX3_y, Cond.instanceMethod yX3_y, Cond.selects RX3 yX3_y yX3_y, Cond.code yX3_y cX3_y 2 (some .int), Cond.instanceMethod yX2_init, Cond.code yX2_init cX2_init 1 none, Cond.methodLink RX2 3 objectInit, Cond.fieldLink RX2 9 "GripBench$Hand" "edges" "[I", Cond.fieldLink RX2 15 "GripBench$Hand" "eighths" "[I", Cond.instanceMethod yX7_init, Cond.code yX7_init cX7_init 1 none, Cond.methodLink RX7 3 objectInit, Cond.fieldLink RX7 9 "GripBench$Triples" "forcesX" "[I", Cond.fieldLink RX7 15 "GripBench$Triples" "forcesY" "[I", Cond.fieldLink RX7 18 "GripBench$Triples" "turns" "[I", Cond.instanceMethod yX6_init, Cond.code yX6_init cX6_init 1 none, Cond.methodLink RX6 3 objectInit, Cond.fieldLink RX6 9 "GripBench$Spots" "edges" "[I", Cond.fieldLink RX6 15 "GripBench$Spots" "eighths" "[I"]
def wsL_law_r5 : List Cond := [Cond.fieldLink RX6 18 "GripBench$Spots" "prices" "[I", Cond.instanceMethod yX4_init, Cond.code yX4_init cX4_init 1 none, Cond.methodLink RX4 3 objectInit, Cond.fieldLink RX4 9 "GripBench$Probes" "xs" "[I", Cond.fieldLink RX4 15 "GripBench$Probes" "ys" "[I", Cond.instanceMethod yX1_init, Cond.code yX1_init cX1_init 1 none, Cond.methodLink RX1 3 objectInit, Cond.fieldLink RX1 9 "GripBench$Grips" "costs" "[I", Cond.fieldLink RX1 15 "GripBench$Grips" "ways" "[I", Cond.instanceMethod yX0_init, Cond.code yX0_init cX0_init 1 none, Cond.methodLink RX0 3 objectInit, Cond.fieldLink RX0 9 "GripBench$Bin" "above" "[I", Cond.methodLink RX8 63 yX5_init, Cond.instanceMethod yX5_init, Cond.code yX5_init cX5_init 2 none, Cond.methodLink RX5 3 objectInit, Cond.fieldLink RX5 9 "GripBench$Sheets" "forms" "[I", Cond.fieldLink RX5 15 "GripBench$Sheets" "lengths" "[I", Cond.fieldLink RX5 18 "GripBench$Sheets" "items" "[I", Cond.methodLink RX5 21 yX5_forget, Cond.instanceMethod yX5_forget]
def wsL_law_r6 : List Cond := [Cond.selects RX5 yX5_forget yX5_forget, Cond.code yX5_forget cX5_forget 2 none, Cond.methodLink RL 33 yL_shape, Cond.static yL_shape, Cond.initialized RL, Cond.code yL_shape cL_shape 9 (some .int), Cond.methodLink RL 9 yX8_sheet, Cond.instanceMethod yX8_sheet, Cond.selects RX8 yX8_sheet yX8_sheet, Cond.code yX8_sheet cX8_sheet 4 (some .int), Cond.methodLink RX8 72 yX8_isSheet, Cond.static yX8_isSheet, Cond.code yX8_isSheet cX8_isSheet 1 (some .boolean), Cond.methodLink RX8 285 yX8_isForm, Cond.static yX8_isForm, Cond.code yX8_isForm cX8_isForm 1 (some .boolean), Cond.methodLink RX8 79 yX5_find, Cond.instanceMethod yX5_find, Cond.selects RX5 yX5_find yX5_find, Cond.code yX5_find cX5_find 2 (some .int), Cond.fieldLink RX5 25 "GripBench$Sheets" "latestFinding" "I", Cond.methodLink RX8 288 yX5_renew, Cond.instanceMethod yX5_renew, Cond.selects RX5 yX5_renew yX5_renew]
def wsL_law_r7 : List Cond := [Cond.code yX5_renew cX5_renew 5 none, Cond.methodLink RL 15 yL_cell, Cond.static yL_cell, Cond.code yL_cell cL_cell 2 (some .int), Cond.constant RL 7 (763049417), Cond.methodLink RL 21 yL_up, Cond.static yL_up, Cond.code yL_up cL_up 2 (some .int), Cond.constant RL 8 (2147483647), Cond.methodLink RL 25 yX8_put, Cond.instanceMethod yX8_put, Cond.selects RX8 yX8_put yX8_put, Cond.code yX8_put cX8_put 6 (some .int), Cond.methodLink RX8 294 yX5_faultAt, Cond.instanceMethod yX5_faultAt, Cond.selects RX5 yX5_faultAt yX5_faultAt, Cond.code yX5_faultAt cX5_faultAt 4 (some .int), Cond.methodLink RX5 48 yX5_isLost, Cond.instanceMethod yX5_isLost, Cond.selects RX5 yX5_isLost yX5_isLost, Cond.code yX5_isLost cX5_isLost 2 (some .boolean), Cond.methodLink RX5 33 yX5_form, Cond.instanceMethod yX5_form, Cond.selects RX5 yX5_form yX5_form]
def wsL_law_r8 : List Cond := [Cond.code yX5_form cX5_form 2 (some .int), Cond.methodLink RX5 41 yX5_length, Cond.instanceMethod yX5_length, Cond.selects RX5 yX5_length yX5_length, Cond.code yX5_length cX5_length 2 (some .int), Cond.methodLink RX8 298 yX5_write, Cond.instanceMethod yX5_write, Cond.selects RX5 yX5_write yX5_write, Cond.code yX5_write cX5_write 5 none, Cond.methodLink RL 29 yX8_shape, Cond.instanceMethod yX8_shape, Cond.selects RX8 yX8_shape yX8_shape, Cond.code yX8_shape cX8_shape 4 (some .int), Cond.methodLink RX8 76 yX5_isLost, Cond.methodLink RX8 83 yX5_length, Cond.methodLink RX8 86 yX8_isShape, Cond.instanceMethod yX8_isShape, Cond.selects RX8 yX8_isShape yX8_isShape, Cond.code yX8_isShape cX8_isShape 6 (some .boolean), Cond.methodLink RX8 90 yX5_value, Cond.instanceMethod yX5_value, Cond.selects RX5 yX5_value yX5_value, Cond.code yX5_value cX5_value 3 (some .int), Cond.methodLink RX8 110 yX8_isWithin]
def wsL_law_r9 : List Cond := [Cond.static yX8_isWithin, Cond.code yX8_isWithin cX8_isWithin 2 (some .boolean), Cond.methodLink RX8 94 yX3_setCorner, Cond.methodLink RX8 98 yX3_close, Cond.methodLink RX8 102 yX2_clear, Cond.instanceMethod yX2_clear, Cond.selects RX2 yX2_clear yX2_clear, Cond.code yX2_clear cX2_clear 1 none, Cond.fieldLink RX2 18 "GripBench$Hand" "size" "I", Cond.methodLink RX8 105 yX6_clear, Cond.instanceMethod yX6_clear, Cond.selects RX6 yX6_clear yX6_clear, Cond.code yX6_clear cX6_clear 1 none, Cond.fieldLink RX6 21 "GripBench$Spots" "size" "I", Cond.methodLink RX8 106 yX3_area, Cond.instanceMethod yX3_area, Cond.selects RX3 yX3_area yX3_area, Cond.code yX3_area cX3_area 1 (some .int), Cond.methodLink RL 36 yX8_friction, Cond.instanceMethod yX8_friction, Cond.selects RX8 yX8_friction yX8_friction, Cond.code yX8_friction cX8_friction 3 (some .int), Cond.methodLink RL 40 yX8_finger, Cond.instanceMethod yX8_finger]
def wsL_law_r10 : List Cond := [Cond.selects RX8 yX8_finger yX8_finger, Cond.code yX8_finger cX8_finger 3 (some .int), Cond.methodLink RX8 135 yX8_isStand, Cond.instanceMethod yX8_isStand, Cond.selects RX8 yX8_isStand yX8_isStand, Cond.code yX8_isStand cX8_isStand 3 (some .boolean), Cond.methodLink RX8 113 yX3_corners, Cond.instanceMethod yX3_corners, Cond.selects RX3 yX3_corners yX3_corners, Cond.code yX3_corners cX3_corners 1 (some .int), Cond.methodLink RX8 138 yX2_size, Cond.instanceMethod yX2_size, Cond.selects RX2 yX2_size yX2_size, Cond.code yX2_size cX2_size 1 (some .int), Cond.methodLink RX8 141 yX2_add, Cond.instanceMethod yX2_add, Cond.selects RX2 yX2_add yX2_add, Cond.code yX2_add cX2_add 3 none, Cond.methodLink RX2 26 yX2_stand, Cond.instanceMethod yX2_stand, Cond.selects RX2 yX2_stand yX2_stand, Cond.code yX2_stand cX2_stand 4 none, Cond.methodLink RL 43 yX8_holds, Cond.instanceMethod yX8_holds]
def wsL_law_r11 : List Cond := [Cond.selects RX8 yX8_holds yX8_holds, Cond.code yX8_holds cX8_holds 1 (some .int), Cond.methodLink RX8 166 yX8_isHeldBy, Cond.instanceMethod yX8_isHeldBy, Cond.selects RX8 yX8_isHeldBy yX8_isHeldBy, Cond.code yX8_isHeldBy cX8_isHeldBy 2 (some .boolean), Cond.methodLink RX8 151 yX7_press, Cond.instanceMethod yX7_press, Cond.selects RX7 yX7_press yX7_press, Cond.code yX7_press cX7_press 11 none, Cond.fieldLink RX7 21 "GripBench$Triples" "size" "I", Cond.methodLink RX7 29 yX2_size, Cond.methodLink RX7 34 yX2_edge, Cond.instanceMethod yX2_edge, Cond.selects RX2 yX2_edge yX2_edge, Cond.code yX2_edge cX2_edge 2 (some .int), Cond.methodLink RX7 38 yX2_eighth, Cond.instanceMethod yX2_eighth, Cond.selects RX2 yX2_eighth yX2_eighth, Cond.code yX2_eighth cX2_eighth 2 (some .int), Cond.methodLink RX7 41 yX3_dx, Cond.instanceMethod yX3_dx, Cond.selects RX3 yX3_dx yX3_dx, Cond.code yX3_dx cX3_dx 2 (some .int)]
def wsL_law_r12 : List Cond := [Cond.methodLink RX7 46 yX3_dy, Cond.instanceMethod yX3_dy, Cond.selects RX3 yX3_dy yX3_dy, Cond.code yX3_dy cX3_dy 2 (some .int), Cond.methodLink RX7 49 yX3_x, Cond.methodLink RX7 52 yX3_y, Cond.methodLink RX7 55 yX7_add, Cond.instanceMethod yX7_add, Cond.selects RX7 yX7_add yX7_add, Cond.code yX7_add cX7_add 5 none, Cond.methodLink RX8 170 yX7_spread, Cond.instanceMethod yX7_spread, Cond.selects RX7 yX7_spread yX7_spread, Cond.code yX7_spread cX7_spread 5 (some .int), Cond.methodLink RX7 63 yX7_cross, Cond.instanceMethod yX7_cross, Cond.selects RX7 yX7_cross yX7_cross, Cond.code yX7_cross cX7_cross 15 (some .boolean), Cond.fieldLink RX7 74 "GripBench$Triples" "crossX" "J", Cond.fieldLink RX7 78 "GripBench$Triples" "crossY" "J", Cond.fieldLink RX7 81 "GripBench$Triples" "crossTurn" "J", Cond.methodLink RX7 67 yX7_signs, Cond.instanceMethod yX7_signs, Cond.selects RX7 yX7_signs yX7_signs]
def wsL_law_r13 : List Cond := [Cond.code yX7_signs cX7_signs 5 (some .int), Cond.methodLink RX7 70 yX7_turnIfBelow, Cond.instanceMethod yX7_turnIfBelow, Cond.selects RX7 yX7_turnIfBelow yX7_turnIfBelow, Cond.code yX7_turnIfBelow cX7_turnIfBelow 2 none, Cond.methodLink RL 47 yX8_push, Cond.instanceMethod yX8_push, Cond.selects RX8 yX8_push yX8_push, Cond.code yX8_push cX8_push 3 (some .long), Cond.methodLink RX8 155 yX7_size, Cond.instanceMethod yX7_size, Cond.selects RX7 yX7_size yX7_size, Cond.code yX7_size cX7_size 1 (some .int), Cond.methodLink RX8 156 yX8_isTriplePart, Cond.static yX8_isTriplePart, Cond.code yX8_isTriplePart cX8_isTriplePart 1 (some .boolean), Cond.methodLink RX8 159 yX8_refusal, Cond.static yX8_refusal, Cond.code yX8_refusal cX8_refusal 1 (some .long), Cond.constantLong RX8 328 (-9223372036854775808), Cond.methodLink RX8 163 yX7_part, Cond.instanceMethod yX7_part, Cond.selects RX7 yX7_part yX7_part, Cond.code yX7_part cX7_part 3 (some .int)]
def wsL_law_r14 : List Cond := [Cond.methodLink RL 53 yX8_count, Cond.instanceMethod yX8_count, Cond.selects RX8 yX8_count yX8_count, Cond.code yX8_count cX8_count 2 (some .int), Cond.methodLink RX8 200 yX6_size, Cond.instanceMethod yX6_size, Cond.selects RX6 yX6_size yX6_size, Cond.code yX6_size cX6_size 1 (some .int), Cond.methodLink RX8 232 yX4_size, Cond.instanceMethod yX4_size, Cond.selects RX4 yX4_size yX4_size, Cond.code yX4_size cX4_size 1 (some .int), Cond.fieldLink RX4 18 "GripBench$Probes" "size" "I", Cond.methodLink RX8 243 yX1_size, Cond.instanceMethod yX1_size, Cond.selects RX1 yX1_size yX1_size, Cond.code yX1_size cX1_size 1 (some .int), Cond.fieldLink RX1 18 "GripBench$Grips" "size" "I", Cond.methodLink RX8 308 yX5_latestFinding, Cond.instanceMethod yX5_latestFinding, Cond.selects RX5 yX5_latestFinding yX5_latestFinding, Cond.code yX5_latestFinding cX5_latestFinding 1 (some .int), Cond.methodLink RX8 311 yX0_size, Cond.instanceMethod yX0_size]
def wsL_law_r15 : List Cond := [Cond.selects RX0 yX0_size yX0_size, Cond.code yX0_size cX0_size 1 (some .int), Cond.fieldLink RX0 19 "GripBench$Bin" "inside" "I", Cond.methodLink RX0 22 yJ6_bitCount_0f7a4, Cond.static yJ6_bitCount_0f7a4, Cond.initialized RJ6, Cond.code yJ6_bitCount_0f7a4 cJ6_bitCount_0f7a4 1 (some .int), Cond.constant RJ6 265 (1431655765), Cond.constant RJ6 266 (858993459), Cond.constant RJ6 267 (252645135), Cond.methodLink RX8 255 yX0_dropped, Cond.instanceMethod yX0_dropped, Cond.selects RX0 yX0_dropped yX0_dropped, Cond.code yX0_dropped cX0_dropped 1 (some .int), Cond.fieldLink RX0 15 "GripBench$Bin" "dropped" "I", Cond.methodLink RL 56 yX8_witness, Cond.instanceMethod yX8_witness, Cond.selects RX8 yX8_witness yX8_witness, Cond.code yX8_witness cX8_witness 2 (some .long), Cond.methodLink RX8 173 yX7_normal, Cond.instanceMethod yX7_normal, Cond.selects RX7 yX7_normal yX7_normal, Cond.code yX7_normal cX7_normal 2 (some .long), Cond.methodLink RL 62 yX8_free]
def wsL_law_r16 : List Cond := [Cond.instanceMethod yX8_free, Cond.selects RX8 yX8_free yX8_free, Cond.code yX8_free cX8_free 4 (some .int), Cond.methodLink RX8 145 yX8_isFinger, Cond.instanceMethod yX8_isFinger, Cond.selects RX8 yX8_isFinger yX8_isFinger, Cond.code yX8_isFinger cX8_isFinger 2 (some .boolean), Cond.methodLink RX8 176 yX2_become, Cond.instanceMethod yX2_become, Cond.selects RX2 yX2_become yX2_become, Cond.code yX2_become cX2_become 3 none, Cond.methodLink RX2 34 yX2_clear, Cond.methodLink RX2 37 yX2_size, Cond.methodLink RX2 40 yX2_edge, Cond.methodLink RX2 44 yX2_eighth, Cond.methodLink RX2 47 yX2_add, Cond.methodLink RX8 180 yX2_edge, Cond.methodLink RX8 148 yX2_stand, Cond.methodLink RL 65 yX8_spot, Cond.instanceMethod yX8_spot, Cond.selects RX8 yX8_spot yX8_spot, Cond.code yX8_spot cX8_spot 4 (some .int), Cond.methodLink RX8 201 yX6_add, Cond.instanceMethod yX6_add]
def wsL_law_r17 : List Cond := [Cond.selects RX6 yX6_add yX6_add, Cond.code yX6_add cX6_add 4 none, Cond.methodLink RL 68 yX8_cheapest, Cond.instanceMethod yX8_cheapest, Cond.selects RX8 yX8_cheapest yX8_cheapest, Cond.code yX8_cheapest cX8_cheapest 3 (some .int), Cond.methodLink RX8 203 yX6_isBetter, Cond.instanceMethod yX6_isBetter, Cond.selects RX6 yX6_isBetter yX6_isBetter, Cond.code yX6_isBetter cX6_isBetter 4 (some .boolean), Cond.methodLink RX6 33 yX6_price, Cond.instanceMethod yX6_price, Cond.selects RX6 yX6_price yX6_price, Cond.code yX6_price cX6_price 4 (some .int), Cond.methodLink RX6 37 yJ6_bitCount_0f7a4, Cond.methodLink RX8 206 yX6_layOut, Cond.instanceMethod yX6_layOut, Cond.selects RX6 yX6_layOut yX6_layOut, Cond.code yX6_layOut cX6_layOut 4 none, Cond.methodLink RX6 42 yX2_clear, Cond.methodLink RX6 47 yX2_add, Cond.methodLink RL 71 yX8_take, Cond.instanceMethod yX8_take, Cond.selects RX8 yX8_take yX8_take]
def wsL_law_r18 : List Cond := [Cond.code yX8_take cX8_take 2 (some .int), Cond.methodLink RX8 210 yX8_cheapest, Cond.methodLink RX8 213 yX6_price, Cond.methodLink RL 74 yX8_slip, Cond.instanceMethod yX8_slip, Cond.selects RX8 yX8_slip yX8_slip, Cond.code yX8_slip cX8_slip 2 (some .int), Cond.methodLink RX8 183 yX8_isHeldWithin, Cond.instanceMethod yX8_isHeldWithin, Cond.selects RX8 yX8_isHeldWithin yX8_isHeldWithin, Cond.code yX8_isHeldWithin cX8_isHeldWithin 4 (some .boolean), Cond.methodLink RX8 186 yX8_slide, Cond.instanceMethod yX8_slide, Cond.selects RX8 yX8_slide yX8_slide, Cond.code yX8_slide cX8_slide 7 (some .boolean), Cond.methodLink RX8 192 Lib.Math.max.name, Cond.static Lib.Math.max.name, Cond.initialized "java/lang/Math", Cond.code Lib.Math.max.name Lib.Math.max.code 2 (some .int), Cond.methodLink RX8 197 Lib.Math.min.name, Cond.static Lib.Math.min.name, Cond.code Lib.Math.min.name Lib.Math.min.code 2 (some .int), Cond.methodLink RX8 189 yX2_eighth]
def wsL_law : List Cond := (wsL_law_r1 ++ (wsL_law_r2 ++ (wsL_law_r3 ++ (wsL_law_r4 ++ (wsL_law_r5 ++ (wsL_law_r6 ++ (wsL_law_r7 ++ (wsL_law_r8 ++ (wsL_law_r9 ++ (wsL_law_r10 ++ (wsL_law_r11 ++ (wsL_law_r12 ++ (wsL_law_r13 ++ (wsL_law_r14 ++ (wsL_law_r15 ++ (wsL_law_r16 ++ (wsL_law_r17 ++ wsL_law_r18))))))))))))))))) ++ wsX80 ++ wsX30 ++ wsX20 ++ wsX70 ++ wsX60 ++ wsX40 ++ wsX10 ++ wsX00 ++ wsX50 ++ ([] : List Cond)
set_option maxRecDepth 20000 in
theorem wsL_law_r1_in : GoodIn lw_tbl wsL_law_r1 := goodIn_p wsL_law_r1 [26, 29] (by decide +kernel) (by decide +kernel)
set_option maxRecDepth 20000 in
theorem wsL_law_r2_in : GoodIn lw_tbl wsL_law_r2 := goodIn_p wsL_law_r2 [] (by decide +kernel) (by decide +kernel)
set_option maxRecDepth 20000 in
theorem wsL_law_r3_in : GoodIn lw_tbl wsL_law_r3 := goodIn_p wsL_law_r3 [34, 39, 42, 46, 50] (by decide +kernel) (by decide +kernel)
set_option maxRecDepth 20000 in
theorem wsL_law_r4_in : GoodIn lw_tbl wsL_law_r4 := goodIn_p wsL_law_r4 [54, 57, 61, 86, 102, 130] (by decide +kernel) (by decide +kernel)
set_option maxRecDepth 20000 in
theorem wsL_law_r5_in : GoodIn lw_tbl wsL_law_r5 := goodIn_p wsL_law_r5 [149, 165, 181, 197] (by decide +kernel) (by decide +kernel)
set_option maxRecDepth 20000 in
theorem wsL_law_r6_in : GoodIn lw_tbl wsL_law_r6 := goodIn_p wsL_law_r6 [202, 478, 482, 485, 488, 492] (by decide +kernel) (by decide +kernel)
set_option maxRecDepth 20000 in
theorem wsL_law_r7_in : GoodIn lw_tbl wsL_law_r7 := goodIn_p wsL_law_r7 [496, 470, 474, 500, 504, 508] (by decide +kernel) (by decide +kernel)
set_option maxRecDepth 20000 in
theorem wsL_law_r8_in : GoodIn lw_tbl wsL_law_r8 := goodIn_p wsL_law_r8 [512, 517, 521, 525, 531, 535] (by decide +kernel) (by decide +kernel)
set_option maxRecDepth 20000 in
theorem wsL_law_r9_in : GoodIn lw_tbl wsL_law_r9 := goodIn_p wsL_law_r9 [538, 373, 545, 549, 276] (by decide +kernel) (by decide +kernel)
set_option maxRecDepth 20000 in
theorem wsL_law_r10_in : GoodIn lw_tbl wsL_law_r10 := goodIn_p wsL_law_r10 [251, 255, 259, 263, 267, 271] (by decide +kernel) (by decide +kernel)
set_option maxRecDepth 20000 in
theorem wsL_law_r11_in : GoodIn lw_tbl wsL_law_r11 := goodIn_p wsL_law_r11 [329, 333, 284, 289, 294, 298] (by decide +kernel) (by decide +kernel)
set_option maxRecDepth 20000 in
theorem wsL_law_r12_in : GoodIn lw_tbl wsL_law_r12 := goodIn_p wsL_law_r12 [302, 308, 337, 341] (by decide +kernel) (by decide +kernel)
set_option maxRecDepth 20000 in
theorem wsL_law_r13_in : GoodIn lw_tbl wsL_law_r13 := goodIn_p wsL_law_r13 [345, 349, 280, 313, 316, 319, 324] (by decide +kernel) (by decide +kernel)
set_option maxRecDepth 20000 in
theorem wsL_law_r14_in : GoodIn lw_tbl wsL_law_r14 := goodIn_p wsL_law_r14 [446, 406, 450, 454, 458] (by decide +kernel) (by decide +kernel)
set_option maxRecDepth 20000 in
theorem wsL_law_r15_in : GoodIn lw_tbl wsL_law_r15 := goodIn_p wsL_law_r15 [462, 427, 467, 353, 357] (by decide +kernel) (by decide +kernel)
set_option maxRecDepth 20000 in
theorem wsL_law_r16_in : GoodIn lw_tbl wsL_law_r16 := goodIn_p wsL_law_r16 [361, 365, 369, 402] (by decide +kernel) (by decide +kernel)
set_option maxRecDepth 20000 in
theorem wsL_law_r17_in : GoodIn lw_tbl wsL_law_r17 := goodIn_p wsL_law_r17 [410, 415, 419, 423, 434] (by decide +kernel) (by decide +kernel)
set_option maxRecDepth 20000 in
theorem wsL_law_r18_in : GoodIn lw_tbl wsL_law_r18 := goodIn_p wsL_law_r18 [440, 383, 387, 391, 395, 398] (by decide +kernel) (by decide +kernel)
set_option maxRecDepth 20000 in
theorem wf0_in : GoodIn lw_tbl wsX00 := goodIn_p wsX00 [] (by decide +kernel) (by decide +kernel)
set_option maxRecDepth 20000 in
theorem wf1_in : GoodIn lw_tbl wsX10 := goodIn_p wsX10 [] (by decide +kernel) (by decide +kernel)
set_option maxRecDepth 20000 in
theorem wf2_in : GoodIn lw_tbl wsX20 := goodIn_p wsX20 [] (by decide +kernel) (by decide +kernel)
set_option maxRecDepth 20000 in
theorem wf3_in : GoodIn lw_tbl wsX30 := goodIn_p wsX30 [] (by decide +kernel) (by decide +kernel)
set_option maxRecDepth 20000 in
theorem wf4_in : GoodIn lw_tbl wsX40 := goodIn_p wsX40 [] (by decide +kernel) (by decide +kernel)
set_option maxRecDepth 20000 in
theorem wf5_in : GoodIn lw_tbl wsX50 := goodIn_p wsX50 [] (by decide +kernel) (by decide +kernel)
set_option maxRecDepth 20000 in
theorem wf6_in : GoodIn lw_tbl wsX60 := goodIn_p wsX60 [] (by decide +kernel) (by decide +kernel)
set_option maxRecDepth 20000 in
theorem wf7_in : GoodIn lw_tbl wsX70 := goodIn_p wsX70 [] (by decide +kernel) (by decide +kernel)
set_option maxRecDepth 20000 in
theorem wf8_in : GoodIn lw_tbl wsX80 := goodIn_p wsX80 [] (by decide +kernel) (by decide +kernel)
theorem wsL_law_good : GoodIn lw_tbl wsL_law := goodIn_app (goodIn_app (goodIn_app (goodIn_app (goodIn_app (goodIn_app (goodIn_app (goodIn_app (goodIn_app (goodIn_app (goodIn_app wsL_law_r1_in (goodIn_app wsL_law_r2_in (goodIn_app wsL_law_r3_in (goodIn_app wsL_law_r4_in (goodIn_app wsL_law_r5_in (goodIn_app wsL_law_r6_in (goodIn_app wsL_law_r7_in (goodIn_app wsL_law_r8_in (goodIn_app wsL_law_r9_in (goodIn_app wsL_law_r10_in (goodIn_app wsL_law_r11_in (goodIn_app wsL_law_r12_in (goodIn_app wsL_law_r13_in (goodIn_app wsL_law_r14_in (goodIn_app wsL_law_r15_in (goodIn_app wsL_law_r16_in (goodIn_app wsL_law_r17_in wsL_law_r18_in))))))))))))))))) wf8_in) wf3_in) wf2_in) wf7_in) wf6_in) wf4_in) wf1_in) wf0_in) wf5_in) (fun w h => absurd h List.not_mem_nil)
theorem wsL_law_in : ∀ w ∈ wsL_law, w ∈ lw_tbl := fun w h => (wsL_law_good w h).1
theorem inlX0 : ∀ w ∈ wsX00, w ∈ wsL_law := fun _ h => List.mem_append_left _ (List.mem_append_left _ (List.mem_append_right _ h))
theorem inX0 : ∀ w ∈ wsX00, w ∈ lw_tbl := fun w h => wsL_law_in w (inlX0 w h)
theorem inlX1 : ∀ w ∈ wsX10, w ∈ wsL_law := fun _ h => List.mem_append_left _ (List.mem_append_left _ (List.mem_append_left _ (List.mem_append_right _ h)))
theorem inX1 : ∀ w ∈ wsX10, w ∈ lw_tbl := fun w h => wsL_law_in w (inlX1 w h)
theorem inlX2 : ∀ w ∈ wsX20, w ∈ wsL_law := fun _ h => List.mem_append_left _ (List.mem_append_left _ (List.mem_append_left _ (List.mem_append_left _ (List.mem_append_left _ (List.mem_append_left _ (List.mem_append_left _ (List.mem_append_right _ h)))))))
theorem inX2 : ∀ w ∈ wsX20, w ∈ lw_tbl := fun w h => wsL_law_in w (inlX2 w h)
theorem inlX3 : ∀ w ∈ wsX30, w ∈ wsL_law := fun _ h => List.mem_append_left _ (List.mem_append_left _ (List.mem_append_left _ (List.mem_append_left _ (List.mem_append_left _ (List.mem_append_left _ (List.mem_append_left _ (List.mem_append_left _ (List.mem_append_right _ h))))))))
theorem inX3 : ∀ w ∈ wsX30, w ∈ lw_tbl := fun w h => wsL_law_in w (inlX3 w h)
theorem inlX4 : ∀ w ∈ wsX40, w ∈ wsL_law := fun _ h => List.mem_append_left _ (List.mem_append_left _ (List.mem_append_left _ (List.mem_append_left _ (List.mem_append_right _ h))))
theorem inX4 : ∀ w ∈ wsX40, w ∈ lw_tbl := fun w h => wsL_law_in w (inlX4 w h)
theorem inlX5 : ∀ w ∈ wsX50, w ∈ wsL_law := fun _ h => List.mem_append_left _ (List.mem_append_right _ h)
theorem inX5 : ∀ w ∈ wsX50, w ∈ lw_tbl := fun w h => wsL_law_in w (inlX5 w h)
theorem inlX6 : ∀ w ∈ wsX60, w ∈ wsL_law := fun _ h => List.mem_append_left _ (List.mem_append_left _ (List.mem_append_left _ (List.mem_append_left _ (List.mem_append_left _ (List.mem_append_right _ h)))))
theorem inX6 : ∀ w ∈ wsX60, w ∈ lw_tbl := fun w h => wsL_law_in w (inlX6 w h)
theorem inlX7 : ∀ w ∈ wsX70, w ∈ wsL_law := fun _ h => List.mem_append_left _ (List.mem_append_left _ (List.mem_append_left _ (List.mem_append_left _ (List.mem_append_left _ (List.mem_append_left _ (List.mem_append_right _ h))))))
theorem inX7 : ∀ w ∈ wsX70, w ∈ lw_tbl := fun w h => wsL_law_in w (inlX7 w h)
theorem inlX8 : ∀ w ∈ wsX80, w ∈ wsL_law := fun _ h => List.mem_append_left _ (List.mem_append_left _ (List.mem_append_left _ (List.mem_append_left _ (List.mem_append_left _ (List.mem_append_left _ (List.mem_append_left _ (List.mem_append_left _ (List.mem_append_left _ (List.mem_append_right _ h)))))))))
theorem inX8 : ∀ w ∈ wsX80, w ∈ lw_tbl := fun w h => wsL_law_in w (inlX8 w h)
theorem inX9 : ∀ w ∈ wsX90, w ∈ lw_tbl := by decide +kernel
theorem inJ6 : ∀ w ∈ wsJ60, w ∈ lw_tbl := by decide +kernel
theorem inJ9 : ∀ w ∈ wsJ90, w ∈ lw_tbl := by decide +kernel
abbrev vwCl : List vw_C := [(RX0, TX0, 3), (RX1, TX1, 3), (RX2, TX2, 3), (RX3, TX3, 6), (RX4, TX4, 3), (RX5, TX5, 4), (RX6, TX6, 4), (RX7, TX7, 7), (RX8, TX8, 10)]
end
section
/-! methods by number: name, code, locals, answer, class, cells that it makes, arguments, kind (0 static, 1 by an object, 2 a constructor) -/
abbrev zM : List (MethodName × ByteArray × Nat × Option FieldType × Nat × Nat × Nat × Nat) := [
  (yX0_init, cX0_init, 1, none, 0, 1, 0, 2),
  (yX0_dropped, cX0_dropped, 1, (some .int), 0, 0, 0, 1),
  (yX0_size, cX0_size, 1, (some .int), 0, 0, 0, 1),
  (yX1_init, cX1_init, 1, none, 1, 2, 0, 2),
  (yX1_size, cX1_size, 1, (some .int), 1, 0, 0, 1),
  (yX2_init, cX2_init, 1, none, 2, 2, 0, 2),
  (yX2_size, cX2_size, 1, (some .int), 2, 0, 0, 1),
  (yX2_edge, cX2_edge, 2, (some .int), 2, 0, 1, 1),
  (yX2_eighth, cX2_eighth, 2, (some .int), 2, 0, 1, 1),
  (yX2_clear, cX2_clear, 1, none, 2, 0, 0, 1),
  (yX2_add, cX2_add, 3, none, 2, 0, 2, 1),
  (yX2_stand, cX2_stand, 4, none, 2, 0, 3, 1),
  (yX2_become, cX2_become, 3, none, 2, 0, 1, 1),
  (yX3_init, cX3_init, 1, none, 3, 2, 0, 2),
  (yX3_setCorner, cX3_setCorner, 4, none, 3, 0, 3, 1),
  (yX3_close, cX3_close, 5, none, 3, 0, 1, 1),
  (yX3_corners, cX3_corners, 1, (some .int), 3, 0, 0, 1),
  (yX3_area, cX3_area, 1, (some .int), 3, 0, 0, 1),
  (yX3_x, cX3_x, 2, (some .int), 3, 0, 1, 1),
  (yX3_y, cX3_y, 2, (some .int), 3, 0, 1, 1),
  (yX3_next, cX3_next, 2, (some .int), 3, 0, 1, 1),
  (yX3_dx, cX3_dx, 2, (some .int), 3, 0, 1, 1),
  (yX3_dy, cX3_dy, 2, (some .int), 3, 0, 1, 1),
  (yX4_init, cX4_init, 1, none, 4, 2, 0, 2),
  (yX4_size, cX4_size, 1, (some .int), 4, 0, 0, 1),
  (yX5_init, cX5_init, 2, none, 5, 3, 0, 2),
  (yX5_latestFinding, cX5_latestFinding, 1, (some .int), 5, 0, 0, 1),
  (yX5_find, cX5_find, 2, (some .int), 5, 0, 1, 1),
  (yX5_form, cX5_form, 2, (some .int), 5, 0, 1, 1),
  (yX5_length, cX5_length, 2, (some .int), 5, 0, 1, 1),
  (yX5_isLost, cX5_isLost, 2, (some .boolean), 5, 0, 1, 1),
  (yX5_forget, cX5_forget, 2, none, 5, 0, 1, 1),
  (yX5_renew, cX5_renew, 5, none, 5, 0, 3, 1),
  (yX5_value, cX5_value, 3, (some .int), 5, 0, 2, 1),
  (yX5_write, cX5_write, 5, none, 5, 0, 3, 1),
  (yX5_faultAt, cX5_faultAt, 4, (some .int), 5, 0, 3, 1),
  (yX6_init, cX6_init, 1, none, 6, 3, 0, 2),
  (yX6_size, cX6_size, 1, (some .int), 6, 0, 0, 1),
  (yX6_clear, cX6_clear, 1, none, 6, 0, 0, 1),
  (yX6_add, cX6_add, 4, none, 6, 0, 3, 1),
  (yX6_price, cX6_price, 4, (some .int), 6, 0, 1, 1),
  (yX6_isBetter, cX6_isBetter, 4, (some .boolean), 6, 0, 2, 1),
  (yX6_layOut, cX6_layOut, 4, none, 6, 0, 2, 1),
  (yX7_init, cX7_init, 1, none, 7, 3, 0, 2),
  (yX7_size, cX7_size, 1, (some .int), 7, 0, 0, 1),
  (yX7_part, cX7_part, 3, (some .int), 7, 0, 2, 1),
  (yX7_press, cX7_press, 11, none, 7, 0, 3, 1),
  (yX7_add, cX7_add, 5, none, 7, 0, 4, 1),
  (yX7_spread, cX7_spread, 5, (some .int), 7, 0, 0, 1),
  (yX7_turnIfBelow, cX7_turnIfBelow, 2, none, 7, 0, 1, 1),
  (yX7_normal, cX7_normal, 2, (some .long), 7, 0, 1, 1),
  (yX7_cross, cX7_cross, 15, (some .boolean), 7, 0, 2, 1),
  (yX7_signs, cX7_signs, 5, (some .int), 7, 0, 0, 1),
  (yX8_init, cX8_init, 1, none, 8, 29, 0, 2),
  (yX8_shape, cX8_shape, 4, (some .int), 8, 0, 2, 1),
  (yX8_isShape, cX8_isShape, 6, (some .boolean), 8, 0, 2, 1),
  (yX8_finger, cX8_finger, 3, (some .int), 8, 0, 2, 1),
  (yX8_friction, cX8_friction, 3, (some .int), 8, 0, 1, 1),
  (yX8_push, cX8_push, 3, (some .long), 8, 0, 2, 1),
  (yX8_holds, cX8_holds, 1, (some .int), 8, 0, 0, 1),
  (yX8_witness, cX8_witness, 2, (some .long), 8, 0, 1, 1),
  (yX8_free, cX8_free, 4, (some .int), 8, 0, 1, 1),
  (yX8_slip, cX8_slip, 2, (some .int), 8, 0, 0, 1),
  (yX8_isHeldWithin, cX8_isHeldWithin, 4, (some .boolean), 8, 0, 1, 1),
  (yX8_slide, cX8_slide, 7, (some .boolean), 8, 0, 2, 1),
  (yX8_isHeldBy, cX8_isHeldBy, 2, (some .boolean), 8, 0, 1, 1),
  (yX8_spot, cX8_spot, 4, (some .int), 8, 0, 3, 1),
  (yX8_cheapest, cX8_cheapest, 3, (some .int), 8, 0, 0, 1),
  (yX8_take, cX8_take, 2, (some .int), 8, 0, 0, 1),
  (yX8_sheet, cX8_sheet, 4, (some .int), 8, 0, 3, 1),
  (yX8_put, cX8_put, 6, (some .int), 8, 0, 4, 1),
  (yX8_count, cX8_count, 2, (some .int), 8, 0, 1, 1),
  (yX8_refusal, cX8_refusal, 1, (some .long), 8, 0, 1, 0),
  (yX8_isWithin, cX8_isWithin, 2, (some .boolean), 8, 0, 2, 0),
  (yX8_isTriplePart, cX8_isTriplePart, 1, (some .boolean), 8, 0, 1, 0),
  (yX8_isSheet, cX8_isSheet, 1, (some .boolean), 8, 0, 1, 0),
  (yX8_isForm, cX8_isForm, 1, (some .boolean), 8, 0, 1, 0),
  (yX8_isStand, cX8_isStand, 3, (some .boolean), 8, 0, 2, 1),
  (yX8_isFinger, cX8_isFinger, 2, (some .boolean), 8, 0, 1, 1),
  (yX8_item, cX8_item, 2, (some .int), 8, 0, 2, 0),
  (yX8_setItem, cX8_setItem, 3, none, 8, 0, 3, 0),
  (yJ6_bitCount_0f7a4, cJ6_bitCount_0f7a4, 1, (some .int), 10, 0, 1, 0),
  (yL_cell, cL_cell, 2, (some .int), 12, 0, 2, 0),
  (yL_up, cL_up, 2, (some .int), 12, 0, 2, 0),
  (yL_shape, cL_shape, 9, (some .int), 12, 0, 3, 0),
  (Lib.Math.max.name, Lib.Math.max.code, 2, (some .int), 11, 0, 2, 0),
  (Lib.Math.min.name, Lib.Math.min.code, 2, (some .int), 11, 0, 2, 0),
  (yL_law, cL_law, 19, (some .boolean), 12, 0, 1, 1)]
abbrev mX0_init : Nat := 0
abbrev mX0_dropped : Nat := 1
abbrev mX0_size : Nat := 2
abbrev mX1_init : Nat := 3
abbrev mX1_size : Nat := 4
abbrev mX2_init : Nat := 5
abbrev mX2_size : Nat := 6
abbrev mX2_edge : Nat := 7
abbrev mX2_eighth : Nat := 8
abbrev mX2_clear : Nat := 9
abbrev mX2_add : Nat := 10
abbrev mX2_stand : Nat := 11
abbrev mX2_become : Nat := 12
abbrev mX3_init : Nat := 13
abbrev mX3_setCorner : Nat := 14
abbrev mX3_close : Nat := 15
abbrev mX3_corners : Nat := 16
abbrev mX3_area : Nat := 17
abbrev mX3_x : Nat := 18
abbrev mX3_y : Nat := 19
abbrev mX3_next : Nat := 20
abbrev mX3_dx : Nat := 21
abbrev mX3_dy : Nat := 22
abbrev mX4_init : Nat := 23
abbrev mX4_size : Nat := 24
abbrev mX5_init : Nat := 25
abbrev mX5_latestFinding : Nat := 26
abbrev mX5_find : Nat := 27
abbrev mX5_form : Nat := 28
abbrev mX5_length : Nat := 29
abbrev mX5_isLost : Nat := 30
abbrev mX5_forget : Nat := 31
abbrev mX5_renew : Nat := 32
abbrev mX5_value : Nat := 33
abbrev mX5_write : Nat := 34
abbrev mX5_faultAt : Nat := 35
abbrev mX6_init : Nat := 36
abbrev mX6_size : Nat := 37
abbrev mX6_clear : Nat := 38
abbrev mX6_add : Nat := 39
abbrev mX6_price : Nat := 40
abbrev mX6_isBetter : Nat := 41
abbrev mX6_layOut : Nat := 42
abbrev mX7_init : Nat := 43
abbrev mX7_size : Nat := 44
abbrev mX7_part : Nat := 45
abbrev mX7_press : Nat := 46
abbrev mX7_add : Nat := 47
abbrev mX7_spread : Nat := 48
abbrev mX7_turnIfBelow : Nat := 49
abbrev mX7_normal : Nat := 50
abbrev mX7_cross : Nat := 51
abbrev mX7_signs : Nat := 52
abbrev mX8_init : Nat := 53
abbrev mX8_shape : Nat := 54
abbrev mX8_isShape : Nat := 55
abbrev mX8_finger : Nat := 56
abbrev mX8_friction : Nat := 57
abbrev mX8_push : Nat := 58
abbrev mX8_holds : Nat := 59
abbrev mX8_witness : Nat := 60
abbrev mX8_free : Nat := 61
abbrev mX8_slip : Nat := 62
abbrev mX8_isHeldWithin : Nat := 63
abbrev mX8_slide : Nat := 64
abbrev mX8_isHeldBy : Nat := 65
abbrev mX8_spot : Nat := 66
abbrev mX8_cheapest : Nat := 67
abbrev mX8_take : Nat := 68
abbrev mX8_sheet : Nat := 69
abbrev mX8_put : Nat := 70
abbrev mX8_count : Nat := 71
abbrev mX8_refusal : Nat := 72
abbrev mX8_isWithin : Nat := 73
abbrev mX8_isTriplePart : Nat := 74
abbrev mX8_isSheet : Nat := 75
abbrev mX8_isForm : Nat := 76
abbrev mX8_isStand : Nat := 77
abbrev mX8_isFinger : Nat := 78
abbrev mX8_item : Nat := 79
abbrev mX8_setItem : Nat := 80
abbrev mJ6_bitCount_0f7a4 : Nat := 81
abbrev mL_cell : Nat := 82
abbrev mL_up : Nat := 83
abbrev mL_shape : Nat := 84
abbrev mJ9_max_7cf53 : Nat := 85
abbrev mJ9_min_7cf53 : Nat := 86
abbrev mL_law : Nat := 87
def zcX0_init : List (Nat × Instr × Nat) := [(0, .aload_n 0, 1), (1, .invokespecial 3, 3), (4, .aload_n 0, 1), (5, .bipush 12, 2), (7, .newarray .int, 2), (9, .putfield 9, 3), (12, .return_, 1)]
def zcX0_dropped : List (Nat × Instr × Nat) := [(0, .aload_n 0, 1), (1, .getfield 15, 3), (4, .ireturn, 1)]
def zcX0_size : List (Nat × Instr × Nat) := [(0, .aload_n 0, 1), (1, .getfield 19, 3), (4, .invokestatic 22, 3), (7, .ireturn, 1)]
def zcX1_init : List (Nat × Instr × Nat) := [(0, .aload_n 0, 1), (1, .invokespecial 3, 3), (4, .aload_n 0, 1), (5, .bipush 100, 2), (7, .newarray .int, 2), (9, .putfield 9, 3), (12, .aload_n 0, 1), (13, .bipush 10, 2), (15, .newarray .int, 2), (17, .putfield 15, 3), (20, .return_, 1)]
def zcX1_size : List (Nat × Instr × Nat) := [(0, .aload_n 0, 1), (1, .getfield 18, 3), (4, .ireturn, 1)]
def zcX2_init : List (Nat × Instr × Nat) := [(0, .aload_n 0, 1), (1, .invokespecial 3, 3), (4, .aload_n 0, 1), (5, .bipush 8, 2), (7, .newarray .int, 2), (9, .putfield 9, 3), (12, .aload_n 0, 1), (13, .bipush 8, 2), (15, .newarray .int, 2), (17, .putfield 15, 3), (20, .return_, 1)]
def zcX2_size : List (Nat × Instr × Nat) := [(0, .aload_n 0, 1), (1, .getfield 18, 3), (4, .ireturn, 1)]
def zcX2_edge : List (Nat × Instr × Nat) := [(0, .aload_n 0, 1), (1, .getfield 9, 3), (4, .iload_n 1, 1), (5, .invokestatic 22, 3), (8, .ireturn, 1)]
def zcX2_eighth : List (Nat × Instr × Nat) := [(0, .aload_n 0, 1), (1, .getfield 15, 3), (4, .iload_n 1, 1), (5, .invokestatic 22, 3), (8, .ireturn, 1)]
def zcX2_clear : List (Nat × Instr × Nat) := [(0, .aload_n 0, 1), (1, .iconst 0, 1), (2, .putfield 18, 3), (5, .return_, 1)]
def zcX2_add : List (Nat × Instr × Nat) := [(0, .aload_n 0, 1), (1, .aload_n 0, 1), (2, .getfield 18, 3), (5, .iload_n 1, 1), (6, .iload_n 2, 1), (7, .invokevirtual 26, 3), (10, .aload_n 0, 1), (11, .dup, 1), (12, .getfield 18, 3), (15, .iconst 1, 1), (16, .iadd, 1), (17, .putfield 18, 3), (20, .return_, 1)]
def zcX2_stand : List (Nat × Instr × Nat) := [(0, .aload_n 0, 1), (1, .getfield 9, 3), (4, .iload_n 1, 1), (5, .iload_n 2, 1), (6, .invokestatic 30, 3), (9, .aload_n 0, 1), (10, .getfield 15, 3), (13, .iload_n 1, 1), (14, .iload_n 3, 1), (15, .invokestatic 30, 3), (18, .return_, 1)]
def zcX2_become : List (Nat × Instr × Nat) := [(0, .aload_n 0, 1), (1, .invokevirtual 34, 3), (4, .iconst 0, 1), (5, .istore_n 2, 1), (6, .iload_n 2, 1), (7, .aload_n 1, 1), (8, .invokevirtual 37, 3), (11, .if_icmp .ge 23, 3), (14, .aload_n 0, 1), (15, .aload_n 1, 1), (16, .iload_n 2, 1), (17, .invokevirtual 40, 3), (20, .aload_n 1, 1), (21, .iload_n 2, 1), (22, .invokevirtual 44, 3), (25, .invokevirtual 47, 3), (28, .iinc 2 1, 3), (31, .goto (-25), 3), (34, .return_, 1)]
def zcX3_init : List (Nat × Instr × Nat) := [(0, .aload_n 0, 1), (1, .invokespecial 3, 3), (4, .aload_n 0, 1), (5, .bipush 10, 2), (7, .newarray .int, 2), (9, .putfield 9, 3), (12, .aload_n 0, 1), (13, .bipush 10, 2), (15, .newarray .int, 2), (17, .putfield 15, 3), (20, .aload_n 0, 1), (21, .iconst 0, 1), (22, .iconst 0, 1), (23, .iconst 0, 1), (24, .invokevirtual 18, 3), (27, .aload_n 0, 1), (28, .iconst 1, 1), (29, .bipush 10, 2), (31, .iconst 0, 1), (32, .invokevirtual 18, 3), (35, .aload_n 0, 1), (36, .iconst 2, 1), (37, .iconst 0, 1), (38, .bipush 10, 2), (40, .invokevirtual 18, 3), (43, .aload_n 0, 1), (44, .iconst 3, 1), (45, .invokevirtual 22, 3), (48, .return_, 1)]
def zcX3_setCorner : List (Nat × Instr × Nat) := [(0, .aload_n 0, 1), (1, .getfield 9, 3), (4, .iload_n 1, 1), (5, .iload_n 2, 1), (6, .invokestatic 26, 3), (9, .aload_n 0, 1), (10, .getfield 15, 3), (13, .iload_n 1, 1), (14, .iload_n 3, 1), (15, .invokestatic 26, 3), (18, .return_, 1)]
def zcX3_close : List (Nat × Instr × Nat) := [(0, .aload_n 0, 1), (1, .iload_n 1, 1), (2, .putfield 30, 3), (5, .aload_n 0, 1), (6, .iconst 0, 1), (7, .putfield 34, 3), (10, .aload_n 0, 1), (11, .iconst 0, 1), (12, .putfield 37, 3), (15, .aload_n 0, 1), (16, .iconst 0, 1), (17, .putfield 40, 3), (20, .iconst 0, 1), (21, .istore_n 2, 1), (22, .iload_n 2, 1), (23, .iload_n 1, 1), (24, .if_icmp .ge 97, 3), (27, .aload_n 0, 1), (28, .iload_n 2, 1), (29, .invokevirtual 43, 3), (32, .istore_n 3, 1), (33, .aload_n 0, 1), (34, .iload_n 2, 1), (35, .invokevirtual 47, 3), (38, .aload_n 0, 1), (39, .iload_n 3, 1), (40, .invokevirtual 50, 3), (43, .imul, 1), (44, .aload_n 0, 1), (45, .iload_n 2, 1), (46, .invokevirtual 50, 3), (49, .aload_n 0, 1), (50, .iload_n 3, 1), (51, .invokevirtual 47, 3), (54, .imul, 1), (55, .isub, 1), (56, .istore 4, 2), (58, .aload_n 0, 1), (59, .dup, 1), (60, .getfield 34, 3), (63, .iload 4, 2), (65, .iadd, 1), (66, .putfield 34, 3), (69, .aload_n 0, 1), (70, .dup, 1), (71, .getfield 37, 3), (74, .aload_n 0, 1), (75, .iload_n 2, 1), (76, .invokevirtual 47, 3), (79, .aload_n 0, 1), (80, .iload_n 3, 1), (81, .invokevirtual 47, 3), (84, .iadd, 1), (85, .iload 4, 2), (87, .imul, 1), (88, .iadd, 1), (89, .putfield 37, 3), (92, .aload_n 0, 1), (93, .dup, 1), (94, .getfield 40, 3), (97, .aload_n 0, 1), (98, .iload_n 2, 1), (99, .invokevirtual 50, 3), (102, .aload_n 0, 1), (103, .iload_n 3, 1), (104, .invokevirtual 50, 3), (107, .iadd, 1), (108, .iload 4, 2), (110, .imul, 1), (111, .iadd, 1), (112, .putfield 40, 3), (115, .iinc 2 1, 3), (118, .goto (-96), 3), (121, .return_, 1)]
def zcX3_corners : List (Nat × Instr × Nat) := [(0, .aload_n 0, 1), (1, .getfield 30, 3), (4, .ireturn, 1)]
def zcX3_area : List (Nat × Instr × Nat) := [(0, .aload_n 0, 1), (1, .getfield 34, 3), (4, .ireturn, 1)]
def zcX3_x : List (Nat × Instr × Nat) := [(0, .aload_n 0, 1), (1, .getfield 9, 3), (4, .iload_n 1, 1), (5, .invokestatic 53, 3), (8, .ireturn, 1)]
def zcX3_y : List (Nat × Instr × Nat) := [(0, .aload_n 0, 1), (1, .getfield 15, 3), (4, .iload_n 1, 1), (5, .invokestatic 53, 3), (8, .ireturn, 1)]
def zcX3_next : List (Nat × Instr × Nat) := [(0, .iload_n 1, 1), (1, .iconst 1, 1), (2, .iadd, 1), (3, .aload_n 0, 1), (4, .getfield 30, 3), (7, .if_icmp .ge 9, 3), (10, .iload_n 1, 1), (11, .iconst 1, 1), (12, .iadd, 1), (13, .goto 4, 3), (16, .iconst 0, 1), (17, .ireturn, 1)]
def zcX3_dx : List (Nat × Instr × Nat) := [(0, .aload_n 0, 1), (1, .getfield 9, 3), (4, .aload_n 0, 1), (5, .iload_n 1, 1), (6, .invokevirtual 43, 3), (9, .invokestatic 53, 3), (12, .aload_n 0, 1), (13, .getfield 9, 3), (16, .iload_n 1, 1), (17, .invokestatic 53, 3), (20, .isub, 1), (21, .ireturn, 1)]
def zcX3_dy : List (Nat × Instr × Nat) := [(0, .aload_n 0, 1), (1, .getfield 15, 3), (4, .aload_n 0, 1), (5, .iload_n 1, 1), (6, .invokevirtual 43, 3), (9, .invokestatic 53, 3), (12, .aload_n 0, 1), (13, .getfield 15, 3), (16, .iload_n 1, 1), (17, .invokestatic 53, 3), (20, .isub, 1), (21, .ireturn, 1)]
def zcX4_init : List (Nat × Instr × Nat) := [(0, .aload_n 0, 1), (1, .invokespecial 3, 3), (4, .aload_n 0, 1), (5, .bipush 20, 2), (7, .newarray .int, 2), (9, .putfield 9, 3), (12, .aload_n 0, 1), (13, .bipush 20, 2), (15, .newarray .int, 2), (17, .putfield 15, 3), (20, .return_, 1)]
def zcX4_size : List (Nat × Instr × Nat) := [(0, .aload_n 0, 1), (1, .getfield 18, 3), (4, .ireturn, 1)]
def zcX5_init : List (Nat × Instr × Nat) := [(0, .aload_n 0, 1), (1, .invokespecial 3, 3), (4, .aload_n 0, 1), (5, .iconst 4, 1), (6, .newarray .int, 2), (8, .putfield 9, 3), (11, .aload_n 0, 1), (12, .iconst 4, 1), (13, .newarray .int, 2), (15, .putfield 15, 3), (18, .aload_n 0, 1), (19, .sipush 240, 3), (22, .newarray .int, 2), (24, .putfield 18, 3), (27, .iconst 0, 1), (28, .istore_n 1, 1), (29, .iload_n 1, 1), (30, .iconst 4, 1), (31, .if_icmp .ge 14, 3), (34, .aload_n 0, 1), (35, .iload_n 1, 1), (36, .invokevirtual 21, 3), (39, .iinc 1 1, 3), (42, .goto (-13), 3), (45, .return_, 1)]
def zcX5_latestFinding : List (Nat × Instr × Nat) := [(0, .aload_n 0, 1), (1, .getfield 25, 3), (4, .ireturn, 1)]
def zcX5_find : List (Nat × Instr × Nat) := [(0, .aload_n 0, 1), (1, .iload_n 1, 1), (2, .putfield 25, 3), (5, .bipush (-10), 2), (7, .iload_n 1, 1), (8, .isub, 1), (9, .ireturn, 1)]
def zcX5_form : List (Nat × Instr × Nat) := [(0, .aload_n 0, 1), (1, .getfield 9, 3), (4, .iload_n 1, 1), (5, .invokestatic 29, 3), (8, .ireturn, 1)]
def zcX5_length : List (Nat × Instr × Nat) := [(0, .aload_n 0, 1), (1, .getfield 15, 3), (4, .iload_n 1, 1), (5, .invokestatic 29, 3), (8, .ireturn, 1)]
def zcX5_isLost : List (Nat × Instr × Nat) := [(0, .aload_n 0, 1), (1, .iload_n 1, 1), (2, .invokevirtual 33, 3), (5, .iconst (-1), 1), (6, .if_icmp .ne 7, 3), (9, .iconst 1, 1), (10, .goto 4, 3), (13, .iconst 0, 1), (14, .ireturn, 1)]
def zcX5_forget : List (Nat × Instr × Nat) := [(0, .aload_n 0, 1), (1, .getfield 9, 3), (4, .iload_n 1, 1), (5, .iconst (-1), 1), (6, .invokestatic 37, 3), (9, .aload_n 0, 1), (10, .getfield 15, 3), (13, .iload_n 1, 1), (14, .iconst 0, 1), (15, .invokestatic 37, 3), (18, .return_, 1)]
def zcX5_renew : List (Nat × Instr × Nat) := [(0, .aload_n 0, 1), (1, .getfield 9, 3), (4, .iload_n 1, 1), (5, .iload_n 2, 1), (6, .invokestatic 37, 3), (9, .aload_n 0, 1), (10, .getfield 15, 3), (13, .iload_n 1, 1), (14, .iload_n 3, 1), (15, .invokestatic 37, 3), (18, .iconst 0, 1), (19, .istore 4, 2), (21, .iload 4, 2), (23, .bipush 60, 2), (25, .if_icmp .ge 24, 3), (28, .aload_n 0, 1), (29, .getfield 18, 3), (32, .iload_n 1, 1), (33, .bipush 60, 2), (35, .imul, 1), (36, .iload 4, 2), (38, .iadd, 1), (39, .iconst 0, 1), (40, .invokestatic 37, 3), (43, .iinc 4 1, 3), (46, .goto (-25), 3), (49, .return_, 1)]
def zcX5_value : List (Nat × Instr × Nat) := [(0, .aload_n 0, 1), (1, .getfield 18, 3), (4, .iload_n 1, 1), (5, .bipush 60, 2), (7, .imul, 1), (8, .iload_n 2, 1), (9, .iadd, 1), (10, .invokestatic 29, 3), (13, .ireturn, 1)]
def zcX5_write : List (Nat × Instr × Nat) := [(0, .aload_n 0, 1), (1, .iload_n 1, 1), (2, .invokevirtual 33, 3), (5, .ifCond .ne 8, 3), (8, .iload_n 3, 1), (9, .i2b, 1), (10, .goto 18, 3), (13, .aload_n 0, 1), (14, .iload_n 1, 1), (15, .invokevirtual 33, 3), (18, .iconst 1, 1), (19, .if_icmp .ne 8, 3), (22, .iload_n 3, 1), (23, .i2s, 1), (24, .goto 4, 3), (27, .iload_n 3, 1), (28, .istore 4, 2), (30, .aload_n 0, 1), (31, .getfield 18, 3), (34, .iload_n 1, 1), (35, .bipush 60, 2), (37, .imul, 1), (38, .iload_n 2, 1), (39, .iadd, 1), (40, .iload 4, 2), (42, .invokestatic 37, 3), (45, .return_, 1)]
def zcX5_faultAt : List (Nat × Instr × Nat) := [(0, .aload_n 0, 1), (1, .iload_n 1, 1), (2, .invokevirtual 48, 3), (5, .ifCond .eq 5, 3), (8, .iconst 1, 1), (9, .ireturn, 1), (10, .aload_n 0, 1), (11, .iload_n 1, 1), (12, .invokevirtual 33, 3), (15, .iload_n 2, 1), (16, .if_icmp .eq 5, 3), (19, .iconst 3, 1), (20, .ireturn, 1), (21, .iload_n 3, 1), (22, .ifCond .lt 12, 3), (25, .iload_n 3, 1), (26, .aload_n 0, 1), (27, .iload_n 1, 1), (28, .invokevirtual 41, 3), (31, .if_icmp .lt 7, 3), (34, .iconst 2, 1), (35, .goto 4, 3), (38, .iconst 0, 1), (39, .ireturn, 1)]
def zcX6_init : List (Nat × Instr × Nat) := [(0, .aload_n 0, 1), (1, .invokespecial 3, 3), (4, .aload_n 0, 1), (5, .bipush 7, 2), (7, .newarray .int, 2), (9, .putfield 9, 3), (12, .aload_n 0, 1), (13, .bipush 7, 2), (15, .newarray .int, 2), (17, .putfield 15, 3), (20, .aload_n 0, 1), (21, .bipush 7, 2), (23, .newarray .int, 2), (25, .putfield 18, 3), (28, .return_, 1)]
def zcX6_size : List (Nat × Instr × Nat) := [(0, .aload_n 0, 1), (1, .getfield 21, 3), (4, .ireturn, 1)]
def zcX6_clear : List (Nat × Instr × Nat) := [(0, .aload_n 0, 1), (1, .iconst 0, 1), (2, .putfield 21, 3), (5, .return_, 1)]
def zcX6_add : List (Nat × Instr × Nat) := [(0, .aload_n 0, 1), (1, .getfield 9, 3), (4, .aload_n 0, 1), (5, .getfield 21, 3), (8, .iload_n 1, 1), (9, .invokestatic 25, 3), (12, .aload_n 0, 1), (13, .getfield 15, 3), (16, .aload_n 0, 1), (17, .getfield 21, 3), (20, .iload_n 2, 1), (21, .invokestatic 25, 3), (24, .aload_n 0, 1), (25, .getfield 18, 3), (28, .aload_n 0, 1), (29, .getfield 21, 3), (32, .iload_n 3, 1), (33, .invokestatic 25, 3), (36, .aload_n 0, 1), (37, .dup, 1), (38, .getfield 21, 3), (41, .iconst 1, 1), (42, .iadd, 1), (43, .putfield 21, 3), (46, .return_, 1)]
def zcX6_price : List (Nat × Instr × Nat) := [(0, .iconst 0, 1), (1, .istore_n 2, 1), (2, .iconst 0, 1), (3, .istore_n 3, 1), (4, .iload_n 3, 1), (5, .aload_n 0, 1), (6, .getfield 21, 3), (9, .if_icmp .ge 28, 3), (12, .iload_n 1, 1), (13, .iload_n 3, 1), (14, .ishr, 1), (15, .iconst 1, 1), (16, .iand, 1), (17, .ifCond .eq 14, 3), (20, .iload_n 2, 1), (21, .aload_n 0, 1), (22, .getfield 18, 3), (25, .iload_n 3, 1), (26, .invokestatic 29, 3), (29, .iadd, 1), (30, .istore_n 2, 1), (31, .iinc 3 1, 3), (34, .goto (-30), 3), (37, .iload_n 2, 1), (38, .ireturn, 1)]
def zcX6_isBetter : List (Nat × Instr × Nat) := [(0, .aload_n 0, 1), (1, .iload_n 2, 1), (2, .invokevirtual 33, 3), (5, .aload_n 0, 1), (6, .iload_n 1, 1), (7, .invokevirtual 33, 3), (10, .isub, 1), (11, .istore_n 3, 1), (12, .iload_n 3, 1), (13, .ifCond .gt 18, 3), (16, .iload_n 3, 1), (17, .ifCond .ne 18, 3), (20, .iload_n 1, 1), (21, .invokestatic 37, 3), (24, .iload_n 2, 1), (25, .invokestatic 37, 3), (28, .if_icmp .ge 7, 3), (31, .iconst 1, 1), (32, .goto 4, 3), (35, .iconst 0, 1), (36, .ireturn, 1)]
def zcX6_layOut : List (Nat × Instr × Nat) := [(0, .aload_n 2, 1), (1, .invokevirtual 42, 3), (4, .iconst 0, 1), (5, .istore_n 3, 1), (6, .iload_n 3, 1), (7, .aload_n 0, 1), (8, .getfield 21, 3), (11, .if_icmp .ge 37, 3), (14, .iload_n 1, 1), (15, .iload_n 3, 1), (16, .ishr, 1), (17, .iconst 1, 1), (18, .iand, 1), (19, .ifCond .eq 23, 3), (22, .aload_n 2, 1), (23, .aload_n 0, 1), (24, .getfield 9, 3), (27, .iload_n 3, 1), (28, .invokestatic 29, 3), (31, .aload_n 0, 1), (32, .getfield 15, 3), (35, .iload_n 3, 1), (36, .invokestatic 29, 3), (39, .invokevirtual 47, 3), (42, .iinc 3 1, 3), (45, .goto (-39), 3), (48, .return_, 1)]
def zcX7_init : List (Nat × Instr × Nat) := [(0, .aload_n 0, 1), (1, .invokespecial 3, 3), (4, .aload_n 0, 1), (5, .bipush 16, 2), (7, .newarray .int, 2), (9, .putfield 9, 3), (12, .aload_n 0, 1), (13, .bipush 16, 2), (15, .newarray .int, 2), (17, .putfield 15, 3), (20, .aload_n 0, 1), (21, .bipush 16, 2), (23, .newarray .int, 2), (25, .putfield 18, 3), (28, .return_, 1)]
def zcX7_size : List (Nat × Instr × Nat) := [(0, .aload_n 0, 1), (1, .getfield 21, 3), (4, .ireturn, 1)]
def zcX7_part : List (Nat × Instr × Nat) := [(0, .iload_n 2, 1), (1, .ifCond .ne 14, 3), (4, .aload_n 0, 1), (5, .getfield 9, 3), (8, .iload_n 1, 1), (9, .invokestatic 25, 3), (12, .goto 27, 3), (15, .iload_n 2, 1), (16, .iconst 1, 1), (17, .if_icmp .ne 14, 3), (20, .aload_n 0, 1), (21, .getfield 15, 3), (24, .iload_n 1, 1), (25, .invokestatic 25, 3), (28, .goto 11, 3), (31, .aload_n 0, 1), (32, .getfield 18, 3), (35, .iload_n 1, 1), (36, .invokestatic 25, 3), (39, .ireturn, 1)]
def zcX7_press : List (Nat × Instr × Nat) := [(0, .aload_n 0, 1), (1, .iconst 0, 1), (2, .putfield 21, 3), (5, .iconst 0, 1), (6, .istore 4, 2), (8, .iload 4, 2), (10, .aload_n 1, 1), (11, .invokevirtual 29, 3), (14, .if_icmp .ge 135, 3), (17, .aload_n 1, 1), (18, .iload 4, 2), (20, .invokevirtual 34, 3), (23, .istore 5, 2), (25, .aload_n 1, 1), (26, .iload 4, 2), (28, .invokevirtual 38, 3), (31, .istore 6, 2), (33, .aload_n 2, 1), (34, .iload 5, 2), (36, .invokevirtual 41, 3), (39, .istore 7, 2), (41, .aload_n 2, 1), (42, .iload 5, 2), (44, .invokevirtual 46, 3), (47, .istore 8, 2), (49, .bipush 8, 2), (51, .aload_n 2, 1), (52, .iload 5, 2), (54, .invokevirtual 49, 3), (57, .imul, 1), (58, .iload 6, 2), (60, .iload 7, 2), (62, .imul, 1), (63, .iadd, 1), (64, .istore 9, 2), (66, .bipush 8, 2), (68, .aload_n 2, 1), (69, .iload 5, 2), (71, .invokevirtual 52, 3), (74, .imul, 1), (75, .iload 6, 2), (77, .iload 8, 2), (79, .imul, 1), (80, .iadd, 1), (81, .istore 10, 2), (83, .aload_n 0, 1), (84, .iload 9, 2), (86, .iload 10, 2), (88, .bipush (-16), 2), (90, .iload 8, 2), (92, .imul, 1), (93, .iload_n 3, 1), (94, .iload 7, 2), (96, .imul, 1), (97, .iadd, 1), (98, .bipush 16, 2), (100, .iload 7, 2), (102, .imul, 1), (103, .iload_n 3, 1), (104, .iload 8, 2), (106, .imul, 1), (107, .iadd, 1), (108, .invokevirtual 55, 3), (111, .iload_n 3, 1), (112, .ifCond .eq 31, 3), (115, .aload_n 0, 1), (116, .iload 9, 2), (118, .iload 10, 2), (120, .bipush (-16), 2), (122, .iload 8, 2), (124, .imul, 1), (125, .iload_n 3, 1), (126, .iload 7, 2), (128, .imul, 1), (129, .isub, 1), (130, .bipush 16, 2), (132, .iload 7, 2), (134, .imul, 1), (135, .iload_n 3, 1), (136, .iload 8, 2), (138, .imul, 1), (139, .isub, 1), (140, .invokevirtual 55, 3), (143, .iinc 4 1, 3), (146, .goto (-138), 3), (149, .return_, 1)]
def zcX7_add : List (Nat × Instr × Nat) := [(0, .aload_n 0, 1), (1, .getfield 9, 3), (4, .aload_n 0, 1), (5, .getfield 21, 3), (8, .iload_n 3, 1), (9, .invokestatic 59, 3), (12, .aload_n 0, 1), (13, .getfield 15, 3), (16, .aload_n 0, 1), (17, .getfield 21, 3), (20, .iload 4, 2), (22, .invokestatic 59, 3), (25, .aload_n 0, 1), (26, .getfield 18, 3), (29, .aload_n 0, 1), (30, .getfield 21, 3), (33, .iload_n 1, 1), (34, .iload 4, 2), (36, .imul, 1), (37, .iload_n 2, 1), (38, .iload_n 3, 1), (39, .imul, 1), (40, .isub, 1), (41, .invokestatic 59, 3), (44, .aload_n 0, 1), (45, .dup, 1), (46, .getfield 21, 3), (49, .iconst 1, 1), (50, .iadd, 1), (51, .putfield 21, 3), (54, .return_, 1)]
def zcX7_spread : List (Nat × Instr × Nat) := [(0, .iconst 0, 1), (1, .istore_n 1, 1), (2, .iconst 0, 1), (3, .istore_n 2, 1), (4, .iload_n 2, 1), (5, .aload_n 0, 1), (6, .getfield 21, 3), (9, .if_icmp .ge 67, 3), (12, .iload_n 2, 1), (13, .iconst 1, 1), (14, .iadd, 1), (15, .istore_n 3, 1), (16, .iload_n 3, 1), (17, .aload_n 0, 1), (18, .getfield 21, 3), (21, .if_icmp .ge 49, 3), (24, .aload_n 0, 1), (25, .iload_n 2, 1), (26, .iload_n 3, 1), (27, .invokevirtual 63, 3), (30, .ifCond .eq 34, 3), (33, .aload_n 0, 1), (34, .invokevirtual 67, 3), (37, .istore 4, 2), (39, .iload 4, 2), (41, .iconst 3, 1), (42, .if_icmp .eq 20, 3), (45, .aload_n 0, 1), (46, .iload 4, 2), (48, .invokevirtual 70, 3), (51, .iload 4, 2), (53, .ifCond .ne 7, 3), (56, .iconst 0, 1), (57, .goto 4, 3), (60, .iconst 1, 1), (61, .ireturn, 1), (62, .iconst 2, 1), (63, .istore_n 1, 1), (64, .iinc 3 1, 3), (67, .goto (-51), 3), (70, .iinc 2 1, 3), (73, .goto (-69), 3), (76, .iload_n 1, 1), (77, .ireturn, 1)]
def zcX7_turnIfBelow : List (Nat × Instr × Nat) := [(0, .iload_n 1, 1), (1, .iconst 1, 1), (2, .if_icmp .ne 30, 3), (5, .aload_n 0, 1), (6, .aload_n 0, 1), (7, .getfield 74, 3), (10, .lneg, 1), (11, .putfield 74, 3), (14, .aload_n 0, 1), (15, .aload_n 0, 1), (16, .getfield 78, 3), (19, .lneg, 1), (20, .putfield 78, 3), (23, .aload_n 0, 1), (24, .aload_n 0, 1), (25, .getfield 81, 3), (28, .lneg, 1), (29, .putfield 81, 3), (32, .return_, 1)]
def zcX7_normal : List (Nat × Instr × Nat) := [(0, .iload_n 1, 1), (1, .ifCond .ne 10, 3), (4, .aload_n 0, 1), (5, .getfield 74, 3), (8, .goto 19, 3), (11, .iload_n 1, 1), (12, .iconst 1, 1), (13, .if_icmp .ne 10, 3), (16, .aload_n 0, 1), (17, .getfield 78, 3), (20, .goto 7, 3), (23, .aload_n 0, 1), (24, .getfield 81, 3), (27, .lreturn, 1)]
def zcX7_cross : List (Nat × Instr × Nat) := [(0, .aload_n 0, 1), (1, .getfield 9, 3), (4, .iload_n 1, 1), (5, .invokestatic 25, 3), (8, .i2l, 1), (9, .lstore_n 3, 1), (10, .aload_n 0, 1), (11, .getfield 15, 3), (14, .iload_n 1, 1), (15, .invokestatic 25, 3), (18, .i2l, 1), (19, .lstore 5, 2), (21, .aload_n 0, 1), (22, .getfield 18, 3), (25, .iload_n 1, 1), (26, .invokestatic 25, 3), (29, .i2l, 1), (30, .lstore 7, 2), (32, .aload_n 0, 1), (33, .getfield 9, 3), (36, .iload_n 2, 1), (37, .invokestatic 25, 3), (40, .i2l, 1), (41, .lstore 9, 2), (43, .aload_n 0, 1), (44, .getfield 15, 3), (47, .iload_n 2, 1), (48, .invokestatic 25, 3), (51, .i2l, 1), (52, .lstore 11, 2), (54, .aload_n 0, 1), (55, .getfield 18, 3), (58, .iload_n 2, 1), (59, .invokestatic 25, 3), (62, .i2l, 1), (63, .lstore 13, 2), (65, .aload_n 0, 1), (66, .lload 5, 2), (68, .lload 13, 2), (70, .lmul, 1), (71, .lload 7, 2), (73, .lload 11, 2), (75, .lmul, 1), (76, .lsub, 1), (77, .putfield 74, 3), (80, .aload_n 0, 1), (81, .lload 7, 2), (83, .lload 9, 2), (85, .lmul, 1), (86, .lload_n 3, 1), (87, .lload 13, 2), (89, .lmul, 1), (90, .lsub, 1), (91, .putfield 78, 3), (94, .aload_n 0, 1), (95, .lload_n 3, 1), (96, .lload 11, 2), (98, .lmul, 1), (99, .lload 5, 2), (101, .lload 9, 2), (103, .lmul, 1), (104, .lsub, 1), (105, .putfield 81, 3), (108, .aload_n 0, 1), (109, .getfield 74, 3), (112, .lconst 0, 1), (113, .lcmp, 1), (114, .ifCond .ne 21, 3), (117, .aload_n 0, 1), (118, .getfield 78, 3), (121, .lconst 0, 1), (122, .lcmp, 1), (123, .ifCond .ne 12, 3), (126, .aload_n 0, 1), (127, .getfield 81, 3), (130, .lconst 0, 1), (131, .lcmp, 1), (132, .ifCond .eq 7, 3), (135, .iconst 1, 1), (136, .goto 4, 3), (139, .iconst 0, 1), (140, .ireturn, 1)]
def zcX7_signs : List (Nat × Instr × Nat) := [(0, .iconst 0, 1), (1, .istore_n 1, 1), (2, .iconst 0, 1), (3, .istore_n 2, 1), (4, .iload_n 2, 1), (5, .aload_n 0, 1), (6, .getfield 21, 3), (9, .if_icmp .ge 82, 3), (12, .iload_n 1, 1), (13, .iconst 3, 1), (14, .if_icmp .eq 77, 3), (17, .aload_n 0, 1), (18, .getfield 74, 3), (21, .aload_n 0, 1), (22, .getfield 9, 3), (25, .iload_n 2, 1), (26, .invokestatic 25, 3), (29, .i2l, 1), (30, .lmul, 1), (31, .aload_n 0, 1), (32, .getfield 78, 3), (35, .aload_n 0, 1), (36, .getfield 15, 3), (39, .iload_n 2, 1), (40, .invokestatic 25, 3), (43, .i2l, 1), (44, .lmul, 1), (45, .ladd, 1), (46, .aload_n 0, 1), (47, .getfield 81, 3), (50, .aload_n 0, 1), (51, .getfield 18, 3), (54, .iload_n 2, 1), (55, .invokestatic 25, 3), (58, .i2l, 1), (59, .lmul, 1), (60, .ladd, 1), (61, .lstore_n 3, 1), (62, .lload_n 3, 1), (63, .lconst 0, 1), (64, .lcmp, 1), (65, .ifCond .ge 10, 3), (68, .iload_n 1, 1), (69, .iconst 1, 1), (70, .ior, 1), (71, .istore_n 1, 1), (72, .goto 13, 3), (75, .lload_n 3, 1), (76, .lconst 0, 1), (77, .lcmp, 1), (78, .ifCond .le 7, 3), (81, .iload_n 1, 1), (82, .iconst 2, 1), (83, .ior, 1), (84, .istore_n 1, 1), (85, .iinc 2 1, 3), (88, .goto (-84), 3), (91, .iload_n 1, 1), (92, .ireturn, 1)]
def zcX8_init : List (Nat × Instr × Nat) := [(0, .aload_n 0, 1), (1, .invokespecial 1, 3), (4, .aload_n 0, 1), (5, .new 7, 3), (8, .dup, 1), (9, .invokespecial 9, 3), (12, .putfield 10, 3), (15, .aload_n 0, 1), (16, .new 16, 3), (19, .dup, 1), (20, .invokespecial 18, 3), (23, .putfield 19, 3), (26, .aload_n 0, 1), (27, .new 16, 3), (30, .dup, 1), (31, .invokespecial 18, 3), (34, .putfield 23, 3), (37, .aload_n 0, 1), (38, .new 26, 3), (41, .dup, 1), (42, .invokespecial 28, 3), (45, .putfield 29, 3), (48, .aload_n 0, 1), (49, .new 33, 3), (52, .dup, 1), (53, .invokespecial 35, 3), (56, .putfield 36, 3), (59, .aload_n 0, 1), (60, .new 40, 3), (63, .dup, 1), (64, .invokespecial 42, 3), (67, .putfield 43, 3), (70, .aload_n 0, 1), (71, .new 47, 3), (74, .dup, 1), (75, .invokespecial 49, 3), (78, .putfield 50, 3), (81, .aload_n 0, 1), (82, .new 54, 3), (85, .dup, 1), (86, .invokespecial 56, 3), (89, .putfield 57, 3), (92, .aload_n 0, 1), (93, .new 61, 3), (96, .dup, 1), (97, .invokespecial 63, 3), (100, .putfield 64, 3), (103, .aload_n 0, 1), (104, .iconst 0, 1), (105, .putfield 68, 3), (108, .return_, 1)]
def zcX8_shape : List (Nat × Instr × Nat) := [(0, .iload_n 1, 1), (1, .invokestatic 72, 3), (4, .ifCond .eq 14, 3), (7, .iload_n 2, 1), (8, .iconst 3, 1), (9, .if_icmp .lt 9, 3), (12, .iload_n 2, 1), (13, .bipush 10, 2), (15, .if_icmp .le 6, 3), (18, .bipush (-2), 2), (20, .ireturn, 1), (21, .aload_n 0, 1), (22, .getfield 64, 3), (25, .iload_n 1, 1), (26, .invokevirtual 76, 3), (29, .ifCond .eq 12, 3), (32, .aload_n 0, 1), (33, .getfield 64, 3), (36, .iconst 1, 1), (37, .invokevirtual 79, 3), (40, .ireturn, 1), (41, .aload_n 0, 1), (42, .getfield 64, 3), (45, .iload_n 1, 1), (46, .invokevirtual 83, 3), (49, .iconst 2, 1), (50, .iload_n 2, 1), (51, .imul, 1), (52, .if_icmp .ge 12, 3), (55, .aload_n 0, 1), (56, .getfield 64, 3), (59, .iconst 2, 1), (60, .invokevirtual 79, 3), (63, .ireturn, 1), (64, .aload_n 0, 1), (65, .iload_n 1, 1), (66, .iload_n 2, 1), (67, .invokevirtual 86, 3), (70, .ifCond .ne 6, 3), (73, .bipush (-3), 2), (75, .ireturn, 1), (76, .iconst 0, 1), (77, .istore_n 3, 1), (78, .iload_n 3, 1), (79, .iload_n 2, 1), (80, .if_icmp .ge 41, 3), (83, .aload_n 0, 1), (84, .getfield 10, 3), (87, .iload_n 3, 1), (88, .aload_n 0, 1), (89, .getfield 64, 3), (92, .iload_n 1, 1), (93, .iconst 2, 1), (94, .iload_n 3, 1), (95, .imul, 1), (96, .invokevirtual 90, 3), (99, .aload_n 0, 1), (100, .getfield 64, 3), (103, .iload_n 1, 1), (104, .iconst 2, 1), (105, .iload_n 3, 1), (106, .imul, 1), (107, .iconst 1, 1), (108, .iadd, 1), (109, .invokevirtual 90, 3), (112, .invokevirtual 94, 3), (115, .iinc 3 1, 3), (118, .goto (-40), 3), (121, .aload_n 0, 1), (122, .getfield 10, 3), (125, .iload_n 2, 1), (126, .invokevirtual 98, 3), (129, .aload_n 0, 1), (130, .getfield 19, 3), (133, .invokevirtual 102, 3), (136, .aload_n 0, 1), (137, .getfield 36, 3), (140, .invokevirtual 105, 3), (143, .aload_n 0, 1), (144, .getfield 10, 3), (147, .invokevirtual 106, 3), (150, .ireturn, 1)]
def zcX8_isShape : List (Nat × Instr × Nat) := [(0, .iconst 0, 1), (1, .istore_n 3, 1), (2, .iload_n 3, 1), (3, .iconst 2, 1), (4, .iload_n 2, 1), (5, .imul, 1), (6, .if_icmp .ge 28, 3), (9, .aload_n 0, 1), (10, .getfield 64, 3), (13, .iload_n 1, 1), (14, .iload_n 3, 1), (15, .invokevirtual 90, 3), (18, .bipush 30, 2), (20, .invokestatic 110, 3), (23, .ifCond .ne 5, 3), (26, .iconst 0, 1), (27, .ireturn, 1), (28, .iinc 3 1, 3), (31, .goto (-29), 3), (34, .iconst 0, 1), (35, .istore_n 3, 1), (36, .iconst 0, 1), (37, .istore 4, 2), (39, .iload 4, 2), (41, .iload_n 2, 1), (42, .if_icmp .ge 85, 3), (45, .iload 4, 2), (47, .iconst 1, 1), (48, .iadd, 1), (49, .iload_n 2, 1), (50, .if_icmp .ge 10, 3), (53, .iload 4, 2), (55, .iconst 1, 1), (56, .iadd, 1), (57, .goto 4, 3), (60, .iconst 0, 1), (61, .istore 5, 2), (63, .iload_n 3, 1), (64, .aload_n 0, 1), (65, .getfield 64, 3), (68, .iload_n 1, 1), (69, .iconst 2, 1), (70, .iload 4, 2), (72, .imul, 1), (73, .invokevirtual 90, 3), (76, .aload_n 0, 1), (77, .getfield 64, 3), (80, .iload_n 1, 1), (81, .iconst 2, 1), (82, .iload 5, 2), (84, .imul, 1), (85, .iconst 1, 1), (86, .iadd, 1), (87, .invokevirtual 90, 3), (90, .imul, 1), (91, .aload_n 0, 1), (92, .getfield 64, 3), (95, .iload_n 1, 1), (96, .iconst 2, 1), (97, .iload 4, 2), (99, .imul, 1), (100, .iconst 1, 1), (101, .iadd, 1), (102, .invokevirtual 90, 3), (105, .aload_n 0, 1), (106, .getfield 64, 3), (109, .iload_n 1, 1), (110, .iconst 2, 1), (111, .iload 5, 2), (113, .imul, 1), (114, .invokevirtual 90, 3), (117, .imul, 1), (118, .isub, 1), (119, .iadd, 1), (120, .istore_n 3, 1), (121, .iinc 4 1, 3), (124, .goto (-85), 3), (127, .iload_n 3, 1), (128, .ifCond .le 7, 3), (131, .iconst 1, 1), (132, .goto 4, 3), (135, .iconst 0, 1), (136, .ireturn, 1)]
def zcX8_finger : List (Nat × Instr × Nat) := [(0, .aload_n 0, 1), (1, .iload_n 1, 1), (2, .iload_n 2, 1), (3, .invokevirtual 135, 3), (6, .ifCond .ne 6, 3), (9, .bipush (-2), 2), (11, .ireturn, 1), (12, .aload_n 0, 1), (13, .getfield 19, 3), (16, .invokevirtual 138, 3), (19, .bipush 8, 2), (21, .if_icmp .lt 6, 3), (24, .bipush (-4), 2), (26, .ireturn, 1), (27, .aload_n 0, 1), (28, .getfield 19, 3), (31, .iload_n 1, 1), (32, .iload_n 2, 1), (33, .invokevirtual 141, 3), (36, .aload_n 0, 1), (37, .getfield 19, 3), (40, .invokevirtual 138, 3), (43, .iconst 1, 1), (44, .isub, 1), (45, .ireturn, 1)]
def zcX8_friction : List (Nat × Instr × Nat) := [(0, .iload_n 1, 1), (1, .ifCond .lt 9, 3), (4, .iload_n 1, 1), (5, .bipush 16, 2), (7, .if_icmp .le 6, 3), (10, .bipush (-2), 2), (12, .ireturn, 1), (13, .aload_n 0, 1), (14, .getfield 68, 3), (17, .istore_n 2, 1), (18, .aload_n 0, 1), (19, .iload_n 1, 1), (20, .putfield 68, 3), (23, .iload_n 2, 1), (24, .ireturn, 1)]
def zcX8_push : List (Nat × Instr × Nat) := [(0, .aload_n 0, 1), (1, .getfield 29, 3), (4, .aload_n 0, 1), (5, .getfield 19, 3), (8, .aload_n 0, 1), (9, .getfield 10, 3), (12, .aload_n 0, 1), (13, .getfield 68, 3), (16, .invokevirtual 151, 3), (19, .iload_n 1, 1), (20, .ifCond .lt 21, 3), (23, .iload_n 1, 1), (24, .aload_n 0, 1), (25, .getfield 29, 3), (28, .invokevirtual 155, 3), (31, .if_icmp .ge 10, 3), (34, .iload_n 2, 1), (35, .invokestatic 156, 3), (38, .ifCond .ne 9, 3), (41, .bipush (-2), 2), (43, .invokestatic 159, 3), (46, .lreturn, 1), (47, .aload_n 0, 1), (48, .getfield 29, 3), (51, .iload_n 1, 1), (52, .iload_n 2, 1), (53, .invokevirtual 163, 3), (56, .i2l, 1), (57, .lreturn, 1)]
def zcX8_holds : List (Nat × Instr × Nat) := [(0, .aload_n 0, 1), (1, .aload_n 0, 1), (2, .getfield 19, 3), (5, .invokevirtual 166, 3), (8, .ifCond .eq 7, 3), (11, .iconst 1, 1), (12, .goto 4, 3), (15, .iconst 0, 1), (16, .ireturn, 1)]
def zcX8_witness : List (Nat × Instr × Nat) := [(0, .iload_n 1, 1), (1, .invokestatic 156, 3), (4, .ifCond .ne 9, 3), (7, .bipush (-2), 2), (9, .invokestatic 159, 3), (12, .lreturn, 1), (13, .aload_n 0, 1), (14, .getfield 29, 3), (17, .aload_n 0, 1), (18, .getfield 19, 3), (21, .aload_n 0, 1), (22, .getfield 10, 3), (25, .aload_n 0, 1), (26, .getfield 68, 3), (29, .invokevirtual 151, 3), (32, .aload_n 0, 1), (33, .getfield 29, 3), (36, .invokevirtual 170, 3), (39, .iconst 1, 1), (40, .if_icmp .ne 14, 3), (43, .aload_n 0, 1), (44, .getfield 29, 3), (47, .iload_n 1, 1), (48, .invokevirtual 173, 3), (51, .goto 8, 3), (54, .bipush (-3), 2), (56, .invokestatic 159, 3), (59, .lreturn, 1)]
def zcX8_free : List (Nat × Instr × Nat) := [(0, .aload_n 0, 1), (1, .iload_n 1, 1), (2, .invokevirtual 145, 3), (5, .ifCond .ne 6, 3), (8, .bipush (-2), 2), (10, .ireturn, 1), (11, .aload_n 0, 1), (12, .getfield 23, 3), (15, .aload_n 0, 1), (16, .getfield 19, 3), (19, .invokevirtual 176, 3), (22, .iconst 0, 1), (23, .istore_n 2, 1), (24, .iconst 0, 1), (25, .istore_n 3, 1), (26, .iload_n 3, 1), (27, .bipush 8, 2), (29, .if_icmp .gt 43, 3), (32, .aload_n 0, 1), (33, .getfield 23, 3), (36, .iload_n 1, 1), (37, .aload_n 0, 1), (38, .getfield 19, 3), (41, .iload_n 1, 1), (42, .invokevirtual 180, 3), (45, .iload_n 3, 1), (46, .invokevirtual 148, 3), (49, .aload_n 0, 1), (50, .aload_n 0, 1), (51, .getfield 23, 3), (54, .invokevirtual 166, 3), (57, .ifCond .eq 9, 3), (60, .iload_n 2, 1), (61, .iconst 1, 1), (62, .iload_n 3, 1), (63, .ishl, 1), (64, .ior, 1), (65, .istore_n 2, 1), (66, .iinc 3 1, 3), (69, .goto (-43), 3), (72, .iload_n 2, 1), (73, .ireturn, 1)]
def zcX8_slip : List (Nat × Instr × Nat) := [(0, .aload_n 0, 1), (1, .getfield 19, 3), (4, .invokevirtual 138, 3), (7, .iconst 4, 1), (8, .if_icmp .le 6, 3), (11, .bipush (-3), 2), (13, .ireturn, 1), (14, .aload_n 0, 1), (15, .aload_n 0, 1), (16, .getfield 19, 3), (19, .invokevirtual 166, 3), (22, .ifCond .ne 5, 3), (25, .iconst (-1), 1), (26, .ireturn, 1), (27, .bipush 8, 2), (29, .istore_n 1, 1), (30, .iload_n 1, 1), (31, .ifCond .le 19, 3), (34, .aload_n 0, 1), (35, .iload_n 1, 1), (36, .invokevirtual 183, 3), (39, .ifCond .eq 5, 3), (42, .iload_n 1, 1), (43, .ireturn, 1), (44, .iinc 1 (-1), 3), (47, .goto (-17), 3), (50, .iconst 0, 1), (51, .ireturn, 1)]
def zcX8_isHeldWithin : List (Nat × Instr × Nat) := [(0, .iconst 1, 1), (1, .istore_n 2, 1), (2, .iconst 0, 1), (3, .istore_n 3, 1), (4, .iload_n 3, 1), (5, .aload_n 0, 1), (6, .getfield 19, 3), (9, .invokevirtual 138, 3), (12, .if_icmp .ge 18, 3), (15, .iload_n 3, 1), (16, .iconst 4, 1), (17, .if_icmp .ge 13, 3), (20, .iload_n 2, 1), (21, .iconst 3, 1), (22, .imul, 1), (23, .istore_n 2, 1), (24, .iinc 3 1, 3), (27, .goto (-23), 3), (30, .iconst 0, 1), (31, .istore_n 3, 1), (32, .iload_n 3, 1), (33, .iload_n 2, 1), (34, .if_icmp .ge 31, 3), (37, .aload_n 0, 1), (38, .iload_n 3, 1), (39, .iload_n 1, 1), (40, .invokevirtual 186, 3), (43, .ifCond .eq 16, 3), (46, .aload_n 0, 1), (47, .aload_n 0, 1), (48, .getfield 23, 3), (51, .invokevirtual 166, 3), (54, .ifCond .ne 5, 3), (57, .iconst 0, 1), (58, .ireturn, 1), (59, .iinc 3 1, 3), (62, .goto (-30), 3), (65, .iconst 1, 1), (66, .ireturn, 1)]
def zcX8_slide : List (Nat × Instr × Nat) := [(0, .aload_n 0, 1), (1, .getfield 23, 3), (4, .aload_n 0, 1), (5, .getfield 19, 3), (8, .invokevirtual 176, 3), (11, .iload_n 1, 1), (12, .istore_n 3, 1), (13, .iconst 0, 1), (14, .istore 4, 2), (16, .iload 4, 2), (18, .aload_n 0, 1), (19, .getfield 19, 3), (22, .invokevirtual 138, 3), (25, .if_icmp .ge 81, 3), (28, .aload_n 0, 1), (29, .getfield 19, 3), (32, .iload 4, 2), (34, .invokevirtual 189, 3), (37, .istore 5, 2), (39, .bipush 8, 2), (41, .iconst 0, 1), (42, .iload 5, 2), (44, .iload_n 3, 1), (45, .iconst 3, 1), (46, .irem, 1), (47, .iconst 1, 1), (48, .isub, 1), (49, .iload_n 2, 1), (50, .imul, 1), (51, .iadd, 1), (52, .invokestatic 192, 3), (55, .invokestatic 197, 3), (58, .istore 6, 2), (60, .iload_n 3, 1), (61, .iconst 3, 1), (62, .irem, 1), (63, .iconst 1, 1), (64, .if_icmp .eq 12, 3), (67, .iload 6, 2), (69, .iload 5, 2), (71, .if_icmp .ne 5, 3), (74, .iconst 0, 1), (75, .ireturn, 1), (76, .aload_n 0, 1), (77, .getfield 23, 3), (80, .iload 4, 2), (82, .aload_n 0, 1), (83, .getfield 19, 3), (86, .iload 4, 2), (88, .invokevirtual 180, 3), (91, .iload 6, 2), (93, .invokevirtual 148, 3), (96, .iload_n 3, 1), (97, .iconst 3, 1), (98, .idiv, 1), (99, .istore_n 3, 1), (100, .iinc 4 1, 3), (103, .goto (-87), 3), (106, .iconst 1, 1), (107, .ireturn, 1)]
def zcX8_isHeldBy : List (Nat × Instr × Nat) := [(0, .aload_n 0, 1), (1, .getfield 29, 3), (4, .aload_n 1, 1), (5, .aload_n 0, 1), (6, .getfield 10, 3), (9, .aload_n 0, 1), (10, .getfield 68, 3), (13, .invokevirtual 151, 3), (16, .aload_n 0, 1), (17, .getfield 29, 3), (20, .invokevirtual 170, 3), (23, .iconst 2, 1), (24, .if_icmp .ne 7, 3), (27, .iconst 1, 1), (28, .goto 4, 3), (31, .iconst 0, 1), (32, .ireturn, 1)]
def zcX8_spot : List (Nat × Instr × Nat) := [(0, .aload_n 0, 1), (1, .iload_n 1, 1), (2, .iload_n 2, 1), (3, .invokevirtual 135, 3), (6, .ifCond .eq 14, 3), (9, .iload_n 3, 1), (10, .ifCond .lt 10, 3), (13, .iload_n 3, 1), (14, .sipush 1000, 3), (17, .if_icmp .le 6, 3), (20, .bipush (-2), 2), (22, .ireturn, 1), (23, .aload_n 0, 1), (24, .getfield 36, 3), (27, .invokevirtual 200, 3), (30, .bipush 7, 2), (32, .if_icmp .lt 6, 3), (35, .bipush (-4), 2), (37, .ireturn, 1), (38, .aload_n 0, 1), (39, .getfield 36, 3), (42, .iload_n 1, 1), (43, .iload_n 2, 1), (44, .iload_n 3, 1), (45, .invokevirtual 201, 3), (48, .aload_n 0, 1), (49, .getfield 36, 3), (52, .invokevirtual 200, 3), (55, .ireturn, 1)]
def zcX8_cheapest : List (Nat × Instr × Nat) := [(0, .iconst (-1), 1), (1, .istore_n 1, 1), (2, .iconst 1, 1), (3, .istore_n 2, 1), (4, .iload_n 2, 1), (5, .iconst 1, 1), (6, .aload_n 0, 1), (7, .getfield 36, 3), (10, .invokevirtual 200, 3), (13, .ishl, 1), (14, .if_icmp .ge 55, 3), (17, .iload_n 1, 1), (18, .iconst (-1), 1), (19, .if_icmp .eq 15, 3), (22, .aload_n 0, 1), (23, .getfield 36, 3), (26, .iload_n 2, 1), (27, .iload_n 1, 1), (28, .invokevirtual 203, 3), (31, .ifCond .eq 32, 3), (34, .aload_n 0, 1), (35, .getfield 36, 3), (38, .iload_n 2, 1), (39, .aload_n 0, 1), (40, .getfield 23, 3), (43, .invokevirtual 206, 3), (46, .aload_n 0, 1), (47, .aload_n 0, 1), (48, .getfield 23, 3), (51, .invokevirtual 166, 3), (54, .ifCond .eq 7, 3), (57, .iload_n 2, 1), (58, .goto 4, 3), (61, .iload_n 1, 1), (62, .istore_n 1, 1), (63, .iinc 2 1, 3), (66, .goto (-62), 3), (69, .iload_n 1, 1), (70, .ireturn, 1)]
def zcX8_take : List (Nat × Instr × Nat) := [(0, .aload_n 0, 1), (1, .invokevirtual 210, 3), (4, .istore_n 1, 1), (5, .iload_n 1, 1), (6, .iconst (-1), 1), (7, .if_icmp .ne 6, 3), (10, .bipush (-3), 2), (12, .ireturn, 1), (13, .aload_n 0, 1), (14, .getfield 36, 3), (17, .iload_n 1, 1), (18, .aload_n 0, 1), (19, .getfield 19, 3), (22, .invokevirtual 206, 3), (25, .aload_n 0, 1), (26, .getfield 36, 3), (29, .iload_n 1, 1), (30, .invokevirtual 213, 3), (33, .ireturn, 1)]
def zcX8_sheet : List (Nat × Instr × Nat) := [(0, .iload_n 1, 1), (1, .invokestatic 72, 3), (4, .ifCond .eq 16, 3), (7, .iload_n 2, 1), (8, .invokestatic 285, 3), (11, .ifCond .eq 9, 3), (14, .iload_n 3, 1), (15, .bipush 60, 2), (17, .if_icmp .le 6, 3), (20, .bipush (-2), 2), (22, .ireturn, 1), (23, .iload_n 3, 1), (24, .ifCond .ge 12, 3), (27, .aload_n 0, 1), (28, .getfield 64, 3), (31, .iconst 5, 1), (32, .invokevirtual 79, 3), (35, .ireturn, 1), (36, .aload_n 0, 1), (37, .getfield 64, 3), (40, .iload_n 1, 1), (41, .iload_n 2, 1), (42, .iload_n 3, 1), (43, .invokevirtual 288, 3), (46, .iload_n 3, 1), (47, .ireturn, 1)]
def zcX8_put : List (Nat × Instr × Nat) := [(0, .iload_n 1, 1), (1, .invokestatic 72, 3), (4, .ifCond .eq 10, 3), (7, .iload_n 2, 1), (8, .invokestatic 285, 3), (11, .ifCond .ne 6, 3), (14, .bipush (-2), 2), (16, .ireturn, 1), (17, .aload_n 0, 1), (18, .getfield 64, 3), (21, .iload_n 1, 1), (22, .iload_n 2, 1), (23, .iload_n 3, 1), (24, .invokevirtual 294, 3), (27, .istore 5, 2), (29, .iload 5, 2), (31, .ifCond .eq 13, 3), (34, .aload_n 0, 1), (35, .getfield 64, 3), (38, .iload 5, 2), (40, .invokevirtual 79, 3), (43, .ireturn, 1), (44, .aload_n 0, 1), (45, .getfield 64, 3), (48, .iload_n 1, 1), (49, .iload_n 3, 1), (50, .iload 4, 2), (52, .invokevirtual 298, 3), (55, .iconst 1, 1), (56, .ireturn, 1)]
def zcX8_count : List (Nat × Instr × Nat) := [(0, .iload_n 1, 1), (1, .tableswitch 120 0 8 #[51, 59, 67, 72, 80, 88, 96, 104, 112], 51), (52, .aload_n 0, 1), (53, .getfield 10, 3), (56, .invokevirtual 113, 3), (59, .ireturn, 1), (60, .aload_n 0, 1), (61, .getfield 19, 3), (64, .invokevirtual 138, 3), (67, .ireturn, 1), (68, .aload_n 0, 1), (69, .getfield 68, 3), (72, .ireturn, 1), (73, .aload_n 0, 1), (74, .getfield 36, 3), (77, .invokevirtual 200, 3), (80, .ireturn, 1), (81, .aload_n 0, 1), (82, .getfield 43, 3), (85, .invokevirtual 232, 3), (88, .ireturn, 1), (89, .aload_n 0, 1), (90, .getfield 50, 3), (93, .invokevirtual 243, 3), (96, .ireturn, 1), (97, .aload_n 0, 1), (98, .getfield 64, 3), (101, .invokevirtual 308, 3), (104, .ireturn, 1), (105, .aload_n 0, 1), (106, .getfield 57, 3), (109, .invokevirtual 311, 3), (112, .ireturn, 1), (113, .aload_n 0, 1), (114, .getfield 57, 3), (117, .invokevirtual 255, 3), (120, .ireturn, 1), (121, .bipush (-2), 2), (123, .ireturn, 1)]
def zcX8_refusal : List (Nat × Instr × Nat) := [(0, .ldc2_w 328, 3), (3, .iload_n 0, 1), (4, .i2l, 1), (5, .lsub, 1), (6, .lreturn, 1)]
def zcX8_isWithin : List (Nat × Instr × Nat) := [(0, .iload_n 0, 1), (1, .iload_n 1, 1), (2, .ineg, 1), (3, .if_icmp .lt 12, 3), (6, .iload_n 0, 1), (7, .iload_n 1, 1), (8, .if_icmp .gt 7, 3), (11, .iconst 1, 1), (12, .goto 4, 3), (15, .iconst 0, 1), (16, .ireturn, 1)]
def zcX8_isTriplePart : List (Nat × Instr × Nat) := [(0, .iload_n 0, 1), (1, .ifCond .lt 12, 3), (4, .iload_n 0, 1), (5, .iconst 2, 1), (6, .if_icmp .gt 7, 3), (9, .iconst 1, 1), (10, .goto 4, 3), (13, .iconst 0, 1), (14, .ireturn, 1)]
def zcX8_isSheet : List (Nat × Instr × Nat) := [(0, .iload_n 0, 1), (1, .ifCond .lt 12, 3), (4, .iload_n 0, 1), (5, .iconst 4, 1), (6, .if_icmp .ge 7, 3), (9, .iconst 1, 1), (10, .goto 4, 3), (13, .iconst 0, 1), (14, .ireturn, 1)]
def zcX8_isForm : List (Nat × Instr × Nat) := [(0, .iload_n 0, 1), (1, .ifCond .lt 12, 3), (4, .iload_n 0, 1), (5, .iconst 2, 1), (6, .if_icmp .gt 7, 3), (9, .iconst 1, 1), (10, .goto 4, 3), (13, .iconst 0, 1), (14, .ireturn, 1)]
def zcX8_isStand : List (Nat × Instr × Nat) := [(0, .iload_n 1, 1), (1, .ifCond .lt 28, 3), (4, .iload_n 1, 1), (5, .aload_n 0, 1), (6, .getfield 10, 3), (9, .invokevirtual 113, 3), (12, .if_icmp .ge 17, 3), (15, .iload_n 2, 1), (16, .ifCond .lt 13, 3), (19, .iload_n 2, 1), (20, .bipush 8, 2), (22, .if_icmp .gt 7, 3), (25, .iconst 1, 1), (26, .goto 4, 3), (29, .iconst 0, 1), (30, .ireturn, 1)]
def zcX8_isFinger : List (Nat × Instr × Nat) := [(0, .iload_n 1, 1), (1, .ifCond .lt 18, 3), (4, .iload_n 1, 1), (5, .aload_n 0, 1), (6, .getfield 19, 3), (9, .invokevirtual 138, 3), (12, .if_icmp .ge 7, 3), (15, .iconst 1, 1), (16, .goto 4, 3), (19, .iconst 0, 1), (20, .ireturn, 1)]
def zcX8_item : List (Nat × Instr × Nat) := [(0, .aload_n 0, 1), (1, .ifnull 19, 3), (4, .iload_n 1, 1), (5, .ifCond .lt 15, 3), (8, .iload_n 1, 1), (9, .aload_n 0, 1), (10, .arraylength, 1), (11, .if_icmp .ge 9, 3), (14, .aload_n 0, 1), (15, .iload_n 1, 1), (16, .iaload, 1), (17, .goto 4, 3), (20, .iconst 0, 1), (21, .ireturn, 1)]
def zcX8_setItem : List (Nat × Instr × Nat) := [(0, .aload_n 0, 1), (1, .ifnull 17, 3), (4, .iload_n 1, 1), (5, .ifCond .lt 13, 3), (8, .iload_n 1, 1), (9, .aload_n 0, 1), (10, .arraylength, 1), (11, .if_icmp .ge 7, 3), (14, .aload_n 0, 1), (15, .iload_n 1, 1), (16, .iload_n 2, 1), (17, .iastore, 1), (18, .return_, 1)]
def zcJ6_bitCount_0f7a4 : List (Nat × Instr × Nat) := [(0, .iload_n 0, 1), (1, .iload_n 0, 1), (2, .iconst 1, 1), (3, .iushr, 1), (4, .ldc_w 265, 3), (7, .iand, 1), (8, .isub, 1), (9, .istore_n 0, 1), (10, .iload_n 0, 1), (11, .ldc_w 266, 3), (14, .iand, 1), (15, .iload_n 0, 1), (16, .iconst 2, 1), (17, .iushr, 1), (18, .ldc_w 266, 3), (21, .iand, 1), (22, .iadd, 1), (23, .istore_n 0, 1), (24, .iload_n 0, 1), (25, .iload_n 0, 1), (26, .iconst 4, 1), (27, .iushr, 1), (28, .iadd, 1), (29, .ldc_w 267, 3), (32, .iand, 1), (33, .istore_n 0, 1), (34, .iload_n 0, 1), (35, .iload_n 0, 1), (36, .bipush 8, 2), (38, .iushr, 1), (39, .iadd, 1), (40, .istore_n 0, 1), (41, .iload_n 0, 1), (42, .iload_n 0, 1), (43, .bipush 16, 2), (45, .iushr, 1), (46, .iadd, 1), (47, .istore_n 0, 1), (48, .iload_n 0, 1), (49, .bipush 63, 2), (51, .iand, 1), (52, .ireturn, 1)]
def zcL_cell : List (Nat × Instr × Nat) := [(0, .iload_n 1, 1), (1, .aload_n 0, 1), (2, .arraylength, 1), (3, .if_icmp .ge 9, 3), (6, .aload_n 0, 1), (7, .iload_n 1, 1), (8, .iaload, 1), (9, .goto 9, 3), (12, .ldc 7, 2), (14, .iload_n 1, 1), (15, .iconst 3, 1), (16, .iadd, 1), (17, .imul, 1), (18, .ireturn, 1)]
def zcL_up : List (Nat × Instr × Nat) := [(0, .iload_n 0, 1), (1, .ldc 8, 2), (3, .iand, 1), (4, .iload_n 1, 1), (5, .irem, 1), (6, .ireturn, 1)]
def zcL_shape : List (Nat × Instr × Nat) := [(0, .aload_n 0, 1), (1, .iconst 3, 1), (2, .iconst 1, 1), (3, .bipush 20, 2), (5, .invokevirtual 9, 3), (8, .bipush 20, 2), (10, .if_icmp .eq 5, 3), (13, .iconst (-1), 1), (14, .ireturn, 1), (15, .iconst 0, 1), (16, .istore_n 3, 1), (17, .iconst 0, 1), (18, .istore 4, 2), (20, .iload 4, 2), (22, .bipush 8, 2), (24, .if_icmp .ge 194, 3), (27, .aload_n 1, 1), (28, .iload 4, 2), (30, .invokestatic 15, 3), (33, .istore 5, 2), (35, .iconst 2, 1), (36, .iload 5, 2), (38, .iconst 2, 1), (39, .ishr, 1), (40, .bipush 10, 2), (42, .invokestatic 21, 3), (45, .iadd, 1), (46, .istore 6, 2), (48, .iload 4, 2), (50, .ifCond .eq 16, 3), (53, .iload 4, 2), (55, .iconst 1, 1), (56, .if_icmp .eq 10, 3), (59, .iload 4, 2), (61, .bipush 7, 2), (63, .if_icmp .ne 7, 3), (66, .iconst 1, 1), (67, .goto 21, 3), (70, .iload 4, 2), (72, .iconst 2, 1), (73, .if_icmp .eq 10, 3), (76, .iload 4, 2), (78, .bipush 6, 2), (80, .if_icmp .ne 7, 3), (83, .iconst 0, 1), (84, .goto 4, 3), (87, .iconst (-1), 1), (88, .istore 7, 2), (90, .iload 4, 2), (92, .ifCond .le 13, 3), (95, .iload 4, 2), (97, .iconst 4, 1), (98, .if_icmp .ge 7, 3), (101, .iconst 1, 1), (102, .goto 19, 3), (105, .iload 4, 2), (107, .ifCond .eq 9, 3), (110, .iload 4, 2), (112, .iconst 4, 1), (113, .if_icmp .ne 7, 3), (116, .iconst 0, 1), (117, .goto 4, 3), (120, .iconst (-1), 1), (121, .istore 8, 2), (123, .iload 4, 2), (125, .iconst 2, 1), (126, .irem, 1), (127, .ifCond .eq 10, 3), (130, .iload 5, 2), (132, .iconst 3, 1), (133, .iand, 1), (134, .ifCond .le 78, 3), (137, .aload_n 2, 1), (138, .iconst 2, 1), (139, .iload_n 3, 1), (140, .imul, 1), (141, .iload 7, 2), (143, .iload 6, 2), (145, .imul, 1), (146, .iload 5, 2), (148, .bipush 8, 2), (150, .ishr, 1), (151, .iconst 1, 1), (152, .iand, 1), (153, .iadd, 1), (154, .iastore, 1), (155, .aload_n 2, 1), (156, .iconst 2, 1), (157, .iload_n 3, 1), (158, .imul, 1), (159, .iconst 1, 1), (160, .iadd, 1), (161, .iload 8, 2), (163, .iload 6, 2), (165, .imul, 1), (166, .iastore, 1), (167, .aload_n 0, 1), (168, .iconst 3, 1), (169, .iconst 1, 1), (170, .iconst 2, 1), (171, .iload_n 3, 1), (172, .imul, 1), (173, .aload_n 2, 1), (174, .iconst 2, 1), (175, .iload_n 3, 1), (176, .imul, 1), (177, .iaload, 1), (178, .invokevirtual 25, 3), (181, .iconst 1, 1), (182, .if_icmp .ne 25, 3), (185, .aload_n 0, 1), (186, .iconst 3, 1), (187, .iconst 1, 1), (188, .iconst 2, 1), (189, .iload_n 3, 1), (190, .imul, 1), (191, .iconst 1, 1), (192, .iadd, 1), (193, .aload_n 2, 1), (194, .iconst 2, 1), (195, .iload_n 3, 1), (196, .imul, 1), (197, .iconst 1, 1), (198, .iadd, 1), (199, .iaload, 1), (200, .invokevirtual 25, 3), (203, .iconst 1, 1), (204, .if_icmp .eq 5, 3), (207, .iconst (-1), 1), (208, .ireturn, 1), (209, .iinc 3 1, 3), (212, .iinc 4 1, 3), (215, .goto (-195), 3), (218, .iconst 0, 1), (219, .istore 4, 2), (221, .iconst 0, 1), (222, .istore 5, 2), (224, .iload 5, 2), (226, .iload_n 3, 1), (227, .if_icmp .ge 53, 3), (230, .iload 5, 2), (232, .iconst 1, 1), (233, .iadd, 1), (234, .iload_n 3, 1), (235, .irem, 1), (236, .istore 6, 2), (238, .iload 4, 2), (240, .aload_n 2, 1), (241, .iconst 2, 1), (242, .iload 5, 2), (244, .imul, 1), (245, .iaload, 1), (246, .aload_n 2, 1), (247, .iconst 2, 1), (248, .iload 6, 2), (250, .imul, 1), (251, .iconst 1, 1), (252, .iadd, 1), (253, .iaload, 1), (254, .imul, 1), (255, .aload_n 2, 1), (256, .iconst 2, 1), (257, .iload 6, 2), (259, .imul, 1), (260, .iaload, 1), (261, .aload_n 2, 1), (262, .iconst 2, 1), (263, .iload 5, 2), (265, .imul, 1), (266, .iconst 1, 1), (267, .iadd, 1), (268, .iaload, 1), (269, .imul, 1), (270, .isub, 1), (271, .iadd, 1), (272, .istore 4, 2), (274, .iinc 5 1, 3), (277, .goto (-53), 3), (280, .aload_n 0, 1), (281, .iconst 3, 1), (282, .iload_n 3, 1), (283, .invokevirtual 29, 3), (286, .istore 5, 2), (288, .iload 5, 2), (290, .iload 4, 2), (292, .ifCond .le 8, 3), (295, .iload 4, 2), (297, .goto 5, 3), (300, .bipush (-3), 2), (302, .if_icmp .ne 16, 3), (305, .iload 5, 2), (307, .ifCond .ge 7, 3), (310, .iconst 0, 1), (311, .goto 8, 3), (314, .iload_n 3, 1), (315, .goto 4, 3), (318, .iconst (-1), 1), (319, .ireturn, 1)]
def zcJ9_max_7cf53 : List (Nat × Instr × Nat) := [(0, .iload_n 0, 1), (1, .iload_n 1, 1), (2, .if_icmp .lt 7, 3), (5, .iload_n 0, 1), (6, .goto 4, 3), (9, .iload_n 1, 1), (10, .ireturn, 1)]
def zcJ9_min_7cf53 : List (Nat × Instr × Nat) := [(0, .iload_n 0, 1), (1, .iload_n 1, 1), (2, .if_icmp .gt 7, 3), (5, .iload_n 0, 1), (6, .goto 4, 3), (9, .iload_n 1, 1), (10, .ireturn, 1)]
def zcL_law_0 : List (Nat × Instr × Nat) := [(0, .new 10, 3), (3, .dup, 1), (4, .invokespecial 32, 3), (7, .astore_n 1, 1), (8, .bipush 20, 2), (10, .newarray .int, 2), (12, .astore_n 2, 1), (13, .aload_n 1, 1), (14, .aload_n 0, 1), (15, .aload_n 2, 1), (16, .invokestatic 33, 3), (19, .istore_n 3, 1), (20, .iload_n 3, 1), (21, .iconst 1, 1), (22, .if_icmp .ge 13, 3), (25, .iload_n 3, 1), (26, .ifCond .ne 7, 3), (29, .iconst 1, 1), (30, .goto 4, 3), (33, .iconst 0, 1), (34, .ireturn, 1), (35, .iconst 2, 1), (36, .aload_n 0, 1), (37, .bipush 9, 2), (39, .invokestatic 15, 3), (42, .bipush 6, 2), (44, .invokestatic 21, 3), (47, .iadd, 1), (48, .istore 4, 2), (50, .iconst 0, 1), (51, .istore 5, 2), (53, .iconst 0, 1), (54, .istore 6, 2), (56, .iload 6, 2), (58, .iload 4, 2), (60, .if_icmp .ge 386, 3), (63, .aload_n 1, 1), (64, .aload_n 0, 1), (65, .bipush 8, 2), (67, .invokestatic 15, 3), (70, .bipush 17, 2), (72, .invokestatic 21, 3), (75, .invokevirtual 36, 3), (78, .ifCond .lt 41, 3), (81, .aload_n 1, 1), (82, .aload_n 0, 1), (83, .bipush 10, 2), (85, .iload 6, 2), (87, .iadd, 1), (88, .invokestatic 15, 3)]
def zcL_law_1 : List (Nat × Instr × Nat) := [(91, .iload_n 3, 1), (92, .invokestatic 21, 3), (95, .aload_n 0, 1), (96, .bipush 10, 2), (98, .iload 6, 2), (100, .iadd, 1), (101, .invokestatic 15, 3), (104, .iconst 4, 1), (105, .ishr, 1), (106, .bipush 9, 2), (108, .invokestatic 21, 3), (111, .invokevirtual 40, 3), (114, .iload 6, 2), (116, .if_icmp .eq 5, 3), (119, .iconst 0, 1), (120, .ireturn, 1), (121, .aload_n 1, 1), (122, .invokevirtual 43, 3), (125, .istore 7, 2), (127, .iload 7, 2), (129, .iload 5, 2), (131, .if_icmp .ge 5, 3), (134, .iconst 0, 1), (135, .ireturn, 1), (136, .iload 7, 2), (138, .istore 5, 2), (140, .iconst 0, 1), (141, .istore 8, 2), (143, .aload_n 1, 1), (144, .iload 8, 2), (146, .iconst 0, 1), (147, .invokevirtual 47, 3), (150, .ldc2_w 51, 3), (153, .lcmp, 1), (154, .ifCond .eq 16, 3), (157, .iload 8, 2), (159, .bipush 16, 2), (161, .if_icmp .ge 9, 3), (164, .iinc 8 1, 3), (167, .goto (-24), 3), (170, .iload 8, 2), (172, .aload_n 1, 1), (173, .iconst 2, 1), (174, .invokevirtual 53, 3), (177, .ifCond .ne 10, 3), (180, .iload 6, 2), (182, .iconst 1, 1), (183, .iadd, 1), (184, .goto 9, 3), (187, .iconst 2, 1)]
def zcL_law_2 : List (Nat × Instr × Nat) := [(188, .iload 6, 2), (190, .imul, 1), (191, .iconst 2, 1), (192, .iadd, 1), (193, .if_icmp .ne 15, 3), (196, .iload 8, 2), (198, .iconst 4, 1), (199, .if_icmp .ge 11, 3), (202, .iload 7, 2), (204, .iconst 1, 1), (205, .if_icmp .ne 5, 3), (208, .iconst 0, 1), (209, .ireturn, 1), (210, .aload_n 1, 1), (211, .iconst 0, 1), (212, .invokevirtual 56, 3), (215, .lstore 9, 2), (217, .iload 7, 2), (219, .iconst 1, 1), (220, .if_icmp .ne 43, 3), (223, .lload 9, 2), (225, .ldc2_w 60, 3), (228, .lcmp, 1), (229, .ifCond .ne 32, 3), (232, .aload_n 1, 1), (233, .iload 6, 2), (235, .invokevirtual 62, 3), (238, .aload_n 0, 1), (239, .bipush 10, 2), (241, .iload 6, 2), (243, .iadd, 1), (244, .invokestatic 15, 3), (247, .iconst 4, 1), (248, .ishr, 1), (249, .bipush 9, 2), (251, .invokestatic 21, 3), (254, .ishr, 1), (255, .iconst 1, 1), (256, .iand, 1), (257, .iconst 1, 1), (258, .if_icmp .eq 137, 3), (261, .iconst 0, 1), (262, .ireturn, 1), (263, .lload 9, 2), (265, .ldc2_w 60, 3), (268, .lcmp, 1), (269, .ifCond .eq 126, 3), (272, .aload_n 1, 1), (273, .iconst 1, 1), (274, .invokevirtual 56, 3)]
def zcL_law_3 : List (Nat × Instr × Nat) := [(277, .lstore 11, 2), (279, .aload_n 1, 1), (280, .iconst 2, 1), (281, .invokevirtual 56, 3), (284, .lstore 13, 2), (286, .iconst 0, 1), (287, .istore 15, 2), (289, .iconst 0, 1), (290, .istore 16, 2), (292, .iload 16, 2), (294, .iload 8, 2), (296, .if_icmp .ge 71, 3), (299, .lload 9, 2), (301, .aload_n 1, 1), (302, .iload 16, 2), (304, .iconst 0, 1), (305, .invokevirtual 47, 3), (308, .lmul, 1), (309, .lload 11, 2), (311, .aload_n 1, 1), (312, .iload 16, 2), (314, .iconst 1, 1), (315, .invokevirtual 47, 3), (318, .lmul, 1), (319, .ladd, 1), (320, .lload 13, 2), (322, .aload_n 1, 1), (323, .iload 16, 2), (325, .iconst 2, 1), (326, .invokevirtual 47, 3), (329, .lmul, 1), (330, .ladd, 1), (331, .lstore 17, 2), (333, .iload 15, 2), (335, .ifCond .ne 10, 3), (338, .lload 17, 2), (340, .lconst 0, 1), (341, .lcmp, 1), (342, .ifCond .le 7, 3), (345, .iconst 1, 1), (346, .goto 4, 3), (349, .iconst 0, 1), (350, .istore 15, 2), (352, .lload 17, 2), (354, .lconst 0, 1), (355, .lcmp, 1), (356, .ifCond .ge 5, 3), (359, .iconst 0, 1), (360, .ireturn, 1), (361, .iinc 16 1, 3)]
def zcL_law_4 : List (Nat × Instr × Nat) := [(364, .goto (-72), 3), (367, .iload 15, 2), (369, .ifCond .eq 24, 3), (372, .lload 9, 2), (374, .lconst 0, 1), (375, .lcmp, 1), (376, .ifCond .ne 19, 3), (379, .lload 11, 2), (381, .lconst 0, 1), (382, .lcmp, 1), (383, .ifCond .ne 12, 3), (386, .lload 13, 2), (388, .lconst 0, 1), (389, .lcmp, 1), (390, .ifCond .ne 5, 3), (393, .iconst 0, 1), (394, .ireturn, 1), (395, .iconst (-1), 1), (396, .istore 11, 2), (398, .iconst 0, 1), (399, .istore 12, 2), (401, .iload 12, 2), (403, .bipush 17, 2), (405, .if_icmp .ge 35, 3), (408, .aload_n 1, 1), (409, .iload 12, 2), (411, .invokevirtual 36, 3), (414, .ifCond .lt 12, 3), (417, .aload_n 1, 1), (418, .invokevirtual 43, 3), (421, .iload 11, 2), (423, .if_icmp .ge 5, 3), (426, .iconst 0, 1), (427, .ireturn, 1), (428, .aload_n 1, 1), (429, .invokevirtual 43, 3), (432, .istore 11, 2), (434, .iinc 12 4, 3), (437, .goto (-36), 3), (440, .iinc 6 1, 3), (443, .goto (-387), 3), (446, .aload_n 0, 1), (447, .bipush 20, 2), (449, .invokestatic 15, 3), (452, .bipush 7, 2), (454, .invokestatic 21, 3), (457, .istore 6, 2), (459, .iconst 0, 1), (460, .istore 7, 2), (462, .iload 7, 2)]
def zcL_law_5 : List (Nat × Instr × Nat) := [(464, .iload 6, 2), (466, .if_icmp .ge 68, 3), (469, .aload_n 1, 1), (470, .aload_n 0, 1), (471, .bipush 21, 2), (473, .iload 7, 2), (475, .iadd, 1), (476, .invokestatic 15, 3), (479, .iload_n 3, 1), (480, .invokestatic 21, 3), (483, .aload_n 0, 1), (484, .bipush 21, 2), (486, .iload 7, 2), (488, .iadd, 1), (489, .invokestatic 15, 3), (492, .iconst 4, 1), (493, .ishr, 1), (494, .bipush 9, 2), (496, .invokestatic 21, 3), (499, .aload_n 0, 1), (500, .bipush 21, 2), (502, .iload 7, 2), (504, .iadd, 1), (505, .invokestatic 15, 3), (508, .bipush 8, 2), (510, .ishr, 1), (511, .bipush 40, 2), (513, .invokestatic 21, 3), (516, .invokevirtual 65, 3), (519, .iload 7, 2), (521, .iconst 1, 1), (522, .iadd, 1), (523, .if_icmp .eq 5, 3), (526, .iconst 0, 1), (527, .ireturn, 1), (528, .iinc 7 1, 3), (531, .goto (-69), 3), (534, .aload_n 1, 1), (535, .invokevirtual 68, 3), (538, .istore 7, 2), (540, .aload_n 1, 1), (541, .invokevirtual 71, 3), (544, .istore 8, 2), (546, .iload 7, 2), (548, .ifCond .ge 32, 3), (551, .iload 7, 2), (553, .iconst (-1), 1), (554, .if_icmp .ne 24, 3), (557, .iload 8, 2), (559, .bipush (-3), 2)]
def zcL_law_6 : List (Nat × Instr × Nat) := [(561, .if_icmp .ne 17, 3), (564, .aload_n 1, 1), (565, .iconst 1, 1), (566, .invokevirtual 53, 3), (569, .iload 4, 2), (571, .if_icmp .ne 7, 3), (574, .iconst 1, 1), (575, .goto 4, 3), (578, .iconst 0, 1), (579, .ireturn, 1), (580, .iconst 0, 1), (581, .istore 9, 2), (583, .iconst 0, 1), (584, .istore 10, 2), (586, .iload 10, 2), (588, .iload 6, 2), (590, .if_icmp .ge 46, 3), (593, .iload 9, 2), (595, .iload 7, 2), (597, .iload 10, 2), (599, .ishr, 1), (600, .iconst 1, 1), (601, .iand, 1), (602, .iconst 1, 1), (603, .if_icmp .ne 23, 3), (606, .aload_n 0, 1), (607, .bipush 21, 2), (609, .iload 10, 2), (611, .iadd, 1), (612, .invokestatic 15, 3), (615, .bipush 8, 2), (617, .ishr, 1), (618, .bipush 40, 2), (620, .invokestatic 21, 3), (623, .goto 4, 3), (626, .iconst 0, 1), (627, .iadd, 1), (628, .istore 9, 2), (630, .iinc 10 1, 3), (633, .goto (-47), 3), (636, .iload 8, 2), (638, .iload 9, 2), (640, .if_icmp .ne 52, 3), (643, .aload_n 1, 1), (644, .invokevirtual 43, 3), (647, .iconst 1, 1), (648, .if_icmp .ne 44, 3), (651, .aload_n 1, 1), (652, .invokevirtual 68, 3), (655, .iload 7, 2)]
def zcL_law_7 : List (Nat × Instr × Nat) := [(657, .if_icmp .ne 35, 3), (660, .aload_n 1, 1), (661, .iconst 1, 1), (662, .invokevirtual 53, 3), (665, .iconst 4, 1), (666, .if_icmp .le 15, 3), (669, .aload_n 1, 1), (670, .invokevirtual 74, 3), (673, .bipush (-3), 2), (675, .if_icmp .ne 17, 3), (678, .goto 10, 3), (681, .aload_n 1, 1), (682, .invokevirtual 74, 3), (685, .ifCond .lt 7, 3), (688, .iconst 1, 1), (689, .goto 4, 3), (692, .iconst 0, 1), (693, .ireturn, 1)]
def zcL_law : List (Nat × Instr × Nat) := zcL_law_0 ++ (zcL_law_1 ++ (zcL_law_2 ++ (zcL_law_3 ++ (zcL_law_4 ++ (zcL_law_5 ++ (zcL_law_6 ++ (zcL_law_7)))))))
abbrev zC : List (List (Nat × Instr × Nat)) := [zcX0_init, zcX0_dropped, zcX0_size, zcX1_init, zcX1_size, zcX2_init, zcX2_size, zcX2_edge, zcX2_eighth, zcX2_clear, zcX2_add, zcX2_stand, zcX2_become, zcX3_init, zcX3_setCorner, zcX3_close, zcX3_corners, zcX3_area, zcX3_x, zcX3_y, zcX3_next, zcX3_dx, zcX3_dy, zcX4_init, zcX4_size, zcX5_init, zcX5_latestFinding, zcX5_find, zcX5_form, zcX5_length, zcX5_isLost, zcX5_forget, zcX5_renew, zcX5_value, zcX5_write, zcX5_faultAt, zcX6_init, zcX6_size, zcX6_clear, zcX6_add, zcX6_price, zcX6_isBetter, zcX6_layOut, zcX7_init, zcX7_size, zcX7_part, zcX7_press, zcX7_add, zcX7_spread, zcX7_turnIfBelow, zcX7_normal, zcX7_cross, zcX7_signs, zcX8_init, zcX8_shape, zcX8_isShape, zcX8_finger, zcX8_friction, zcX8_push, zcX8_holds, zcX8_witness, zcX8_free, zcX8_slip, zcX8_isHeldWithin, zcX8_slide, zcX8_isHeldBy, zcX8_spot, zcX8_cheapest, zcX8_take, zcX8_sheet, zcX8_put, zcX8_count, zcX8_refusal, zcX8_isWithin, zcX8_isTriplePart, zcX8_isSheet, zcX8_isForm, zcX8_isStand, zcX8_isFinger, zcX8_item, zcX8_setItem, zcJ6_bitCount_0f7a4, zcL_cell, zcL_up, zcL_shape, zcJ9_max_7cf53, zcJ9_min_7cf53, zcL_law]
abbrev zKD : List (Nat × Nat) := [(0, 8), (0, 3), (1, 10), (1, 10), (0, 2), (1, 8), (1, 8), (0, 2), (1, 8), (1, 8), (0, 7), (1, 16), (1, 16), (1, 16), (0, 6), (1, 7), (1, 7), (1, 7), (0, 4), (1, 20), (1, 20), (0, 1), (1, 100), (1, 10), (0, 0), (1, 12), (0, 5), (1, 4), (1, 4), (1, 240), (1, 20)]
abbrev zNFs : List Nat := [3, 3, 3, 6, 3, 4, 4, 7, 10, 1]
abbrev zNm : List String := [RX0, RX1, RX2, RX3, RX4, RX5, RX6, RX7, RX8, RX9, RJ6, RJ9, RL]
abbrev zFTs : List (List (Nat × (Nat × Nat × Nat))) := [[(9, (0, 0, 110)), (15, (0, 2, 350)), (19, (0, 1, 338))],
  [(9, (1, 0, 105)), (15, (1, 1, 106)), (18, (1, 2, 329))],
  [(9, (2, 0, 83)), (15, (2, 1, 84)), (18, (2, 2, 200))],
  [(9, (3, 0, 50)), (15, (3, 1, 51)), (30, (3, 2, 62)), (34, (3, 3, 63)), (37, (3, 4, 64)), (40, (3, 5, 65))],
  [(9, (4, 0, 100)), (15, (4, 1, 101)), (18, (4, 2, 324))],
  [(9, (5, 0, 115)), (15, (5, 1, 116)), (18, (5, 2, 117)), (25, (5, 3, 140))],
  [(9, (6, 0, 94)), (15, (6, 1, 95)), (18, (6, 2, 96)), (21, (6, 3, 205))],
  [(9, (7, 0, 88)), (15, (7, 1, 89)), (18, (7, 2, 90)), (21, (7, 3, 250)), (74, (7, 4, 282)), (78, (7, 5, 283)), (81, (7, 6, 284))],
  [(10, (8, 0, 15)), (19, (8, 1, 19)), (23, (8, 2, 20)), (29, (8, 3, 24)), (36, (8, 4, 28)), (43, (8, 5, 32)), (50, (8, 6, 36)), (57, (8, 7, 40)), (64, (8, 8, 44)), (68, (8, 9, 45))],
  [],
  [],
  [],
  []]
abbrev zCTs : List (List (Nat × (Nat × Nat × Nat))) := [[(3, (0, 3, 109)), (22, (81, 0, 339))],
  [(3, (0, 3, 104))],
  [(3, (0, 3, 82)), (22, (79, 10, 0)), (26, (11, 1, 234)), (30, (80, 10, 1)), (34, (9, 1, 371)), (37, (6, 1, 372)), (40, (7, 1, 373)), (44, (8, 1, 374)), (47, (10, 1, 375))],
  [(3, (0, 3, 49)), (18, (14, 1, 52)), (22, (15, 1, 58)), (26, (80, 10, 2)), (43, (20, 1, 66)), (47, (18, 1, 70)), (50, (19, 1, 76)), (53, (79, 10, 3))],
  [(3, (0, 3, 99))],
  [(3, (0, 3, 114)), (21, (31, 1, 118)), (29, (79, 10, 4)), (33, (28, 1, 165)), (37, (80, 10, 5)), (41, (29, 1, 169)), (48, (30, 1, 161))],
  [(3, (0, 3, 93)), (25, (80, 10, 6)), (29, (79, 10, 7)), (33, (40, 1, 394)), (37, (81, 0, 398)), (42, (9, 1, 403)), (47, (10, 1, 404))],
  [(3, (0, 3, 87)), (25, (79, 10, 8)), (29, (6, 1, 251)), (34, (7, 1, 252)), (38, (8, 1, 256)), (41, (21, 1, 260)), (46, (22, 1, 264)), (49, (18, 1, 268)), (52, (19, 1, 269)), (55, (47, 1, 270)), (59, (80, 10, 9)), (63, (51, 1, 278)), (67, (52, 1, 285)), (70, (49, 1, 289))],
  [(1, (0, 3, 9)), (9, (13, 2, 46)), (18, (5, 12, 10)), (28, (43, 12, 11)), (35, (36, 12, 12)), (42, (23, 12, 13)), (49, (3, 12, 14)), (56, (0, 12, 15)), (63, (25, 2, 111)), (72, (75, 0, 130)), (76, (30, 1, 181)), (79, (27, 1, 136)), (83, (29, 1, 182)), (86, (55, 1, 183)), (90, (33, 1, 187)), (94, (14, 1, 194)), (98, (15, 1, 195)), (102, (9, 1, 196)), (105, (38, 1, 201)), (106, (17, 1, 206)), (110, (73, 0, 191)), (113, (16, 1, 222)), (135, (77, 1, 218)), (138, (6, 1, 226)), (141, (10, 1, 230)), (145, (78, 1, 363)), (148, (11, 1, 377)), (151, (46, 1, 246)), (155, (44, 1, 297)), (156, (74, 0, 301)), (159, (72, 0, 304)), (163, (45, 1, 308)), (166, (65, 1, 242)), (170, (48, 1, 274)), (173, (50, 1, 355)), (176, (12, 1, 367)), (180, (7, 1, 376)), (183, (63, 1, 415)), (186, (64, 1, 419)), (189, (8, 1, 430)), (192, (85, 4, 423)), (197, (86, 5, 427)), (200, (37, 1, 316)), (201, (39, 1, 382)), (203, (41, 1, 390)), (206, (42, 1, 399)), (210, (67, 1, 409)), (213, (40, 1, 410)), (232, (24, 1, 320)), (243, (4, 1, 325)), (255, (1, 1, 346)), (285, (76, 0, 133)), (288, (32, 1, 141)), (294, (35, 1, 157)), (298, (34, 1, 173)), (308, (26, 1, 330)), (311, (2, 1, 334))],
  [],
  [],
  [],
  [(9, (69, 1, 126)), (15, (82, 0, 145)), (21, (83, 0, 149)), (25, (70, 1, 153)), (29, (54, 1, 177)), (32, (53, 2, 6)), (33, (84, 0, 122)), (36, (57, 1, 210)), (40, (56, 1, 214)), (43, (59, 1, 238)), (47, (58, 1, 293)), (53, (71, 1, 312)), (56, (60, 1, 351)), (62, (61, 1, 359)), (65, (66, 1, 378)), (68, (67, 1, 386)), (71, (68, 1, 405)), (74, (62, 1, 411))]]
abbrev zCLs : List (List (Nat × (Nat × Nat))) := [[],
  [],
  [],
  [],
  [],
  [],
  [],
  [],
  [(7, (3, 12)), (16, (2, 16)), (26, (7, 21)), (33, (6, 25)), (40, (4, 29)), (47, (1, 33)), (54, (0, 37)), (61, (5, 41))],
  [],
  [],
  [],
  [(10, (8, 0))]]
abbrev zKIs : List (List (Nat × (Int32 × Nat))) := [[],
  [],
  [],
  [],
  [],
  [],
  [],
  [],
  [],
  [],
  [(265, (1431655765, 343)), (266, (858993459, 344)), (267, (252645135, 345))],
  [],
  [(7, (763049417, 148)), (8, (2147483647, 152))]]
abbrev zKLs : List (List (Nat × (Int64 × Nat))) := [[],
  [],
  [],
  [],
  [],
  [],
  [],
  [],
  [(328, (-9223372036854775808, 307))],
  [],
  [],
  [],
  [(51, (-9223372036854775806, 4)), (60, (-9223372036854775805, 5))]]
abbrev zNS : List (String × Nat × MethodName × String) := [(RX2, 22, yX8_item, RX8), (RX2, 30, yX8_setItem, RX8), (RX3, 26, yX8_setItem, RX8), (RX3, 53, yX8_item, RX8), (RX5, 29, yX8_item, RX8), (RX5, 37, yX8_setItem, RX8), (RX6, 25, yX8_setItem, RX8), (RX6, 29, yX8_item, RX8), (RX7, 25, yX8_item, RX8), (RX7, 59, yX8_setItem, RX8), (RX8, 18, yX2_init, RX8), (RX8, 28, yX7_init, RX8), (RX8, 35, yX6_init, RX8), (RX8, 42, yX4_init, RX8), (RX8, 49, yX1_init, RX8), (RX8, 56, yX0_init, RX8)]
abbrev zMW : List (Nat × Nat × Nat) := [(108, 107, 0), (349, 347, 348), (337, 335, 336), (103, 102, 0), (328, 326, 327), (81, 80, 0), (229, 227, 228), (255, 253, 254), (259, 257, 258), (199, 197, 198), (233, 231, 232), (237, 235, 236), (370, 368, 369), (48, 47, 0), (55, 53, 54), (61, 59, 60), (225, 223, 224), (209, 207, 208), (73, 71, 72), (79, 77, 78), (69, 67, 68), (263, 261, 262), (267, 265, 266), (98, 97, 0), (323, 321, 322), (113, 112, 0), (333, 331, 332), (139, 137, 138), (168, 166, 167), (172, 170, 171), (164, 162, 163), (121, 119, 120), (144, 142, 143), (190, 188, 189), (176, 174, 175), (160, 158, 159), (92, 91, 0), (319, 317, 318), (204, 202, 203), (385, 383, 384), (397, 395, 396), (393, 391, 392), (402, 400, 401), (86, 85, 0), (300, 298, 299), (311, 309, 310), (249, 247, 248), (273, 271, 272), (277, 275, 276), (292, 290, 291), (358, 356, 357), (281, 279, 280), (288, 286, 287), (8, 7, 0), (180, 178, 179), (186, 184, 185), (217, 215, 216), (213, 211, 212), (296, 294, 295), (241, 239, 240), (354, 352, 353), (362, 360, 361), (414, 412, 413), (418, 416, 417), (422, 420, 421), (245, 243, 244), (381, 379, 380), (389, 387, 388), (408, 406, 407), (129, 127, 128), (156, 154, 155), (315, 313, 314), (306, 305, 0), (193, 192, 0), (303, 302, 0), (132, 131, 0), (135, 134, 0), (221, 219, 220), (366, 364, 365), (75, 74, 0), (57, 56, 0), (342, 340, 0), (147, 146, 0), (151, 150, 0), (125, 123, 0), (426, 424, 0), (429, 428, 0), (0, 0, 0)]
abbrev zIW : List Nat := [39, 35, 18, 14, 31, 43, 27, 23, 2, 99999, 341, 425, 124]
abbrev zSW : List Nat := [38, 34, 17, 13, 30, 42, 26, 22, 1, 99999]
end
section
-- tables
def zY (m : Nat) : MethodName := (zM.getD m (yX0_init, cX0_init, 0, none, 0, 0, 0, 0)).1
def zB (m : Nat) : ByteArray := (zM.getD m (yX0_init, cX0_init, 0, none, 0, 0, 0, 0)).2.1
def zML (m : Nat) : Nat := (zM.getD m (yX0_init, cX0_init, 0, none, 0, 0, 0, 0)).2.2.1
def zRT (m : Nat) : Option FieldType := (zM.getD m (yX0_init, cX0_init, 0, none, 0, 0, 0, 0)).2.2.2.1
def zOw (m : Nat) : Nat := (zM.getD m (yX0_init, cX0_init, 0, none, 0, 0, 0, 0)).2.2.2.2.1
def zAl (m : Nat) : Nat := (zM.getD m (yX0_init, cX0_init, 0, none, 0, 0, 0, 0)).2.2.2.2.2.1
def zNa (m : Nat) : Nat := (zM.getD m (yX0_init, cX0_init, 0, none, 0, 0, 0, 0)).2.2.2.2.2.2.1
def zKi (m : Nat) : Nat := (zM.getD m (yX0_init, cX0_init, 0, none, 0, 0, 0, 0)).2.2.2.2.2.2.2
def zcd (m pc : Nat) : Option (Instr × Nat) := (zC.getD m []).lookup pc
def zkd (a : Nat) : Nat × Nat := zKD.getD a (3, 0)
def zNF (ci : Nat) : Nat := zNFs.getD ci 0
def zNo (o : Nat) : String := zNm.getD o ""
def zTT (ci : Nat) : u_T := match ci with
  | 0 => TX0 | 1 => TX1 | 2 => TX2 | 3 => TX3 | 4 => TX4 | 5 => TX5 | 6 => TX6 | 7 => TX7 | 8 => TX8 | _ => TX9
def zTY (ci : Nat) : Nat → FieldType := match ci with
  | 0 => tyX0 | 1 => tyX1 | 2 => tyX2 | 3 => tyX3 | 4 => tyX4 | 5 => tyX5 | 6 => tyX6 | 7 => tyX7 | 8 => tyX8 | _ => tyX9
def zft (o i : Nat) : Option (Nat × Nat × Nat) := (zFTs.getD o []).lookup i
def zct (o i : Nat) : Option (Nat × Nat × Nat) := (zCTs.getD o []).lookup i
def zcl (o i : Nat) : Option (Nat × Nat) := (zCLs.getD o []).lookup i
def zki (o i : Nat) : Option (Int32 × Nat) := (zKIs.getD o []).lookup i
def zkl (o i : Nat) : Option (Int64 × Nat) := (zKLs.getD o []).lookup i
def zsc : Nat := 1000000
def zlen : Instr → Nat
  | .iload _ => 2 | .lload _ => 2 | .aload _ => 2 | .istore _ => 2 | .lstore _ => 2 | .astore _ => 2
  | .bipush _ => 2 | .sipush _ => 3 | .ldc _ => 2 | .ldc_w _ => 3 | .ldc2_w _ => 3 | .newarray _ => 2
  | .getfield _ => 3 | .putfield _ => 3 | .invokespecial _ => 3 | .invokestatic _ => 3 | .invokevirtual _ => 3 | .new _ => 3
  | .ifCond _ _ => 3 | .if_icmp _ _ => 3 | .ifnull _ => 3 | .goto _ => 3 | .iinc _ _ => 3
  | _ => 1
end
section
abbrev zBG : List Jvm.Cond := wsL_law
theorem zBG_good : GoodIn zBG zBG := fun w h => ⟨h, (wsL_law_good w h).2⟩
def zgd (e : Nat × Instr × Nat) : Bool := (match e.2.1 with
  | .tableswitch _ _ _ _ => true
  | i => e.2.2 == zlen i) && (match e.2.1 with
  | .ifCond _ off => decide (0 ≤ (e.1 : Int) + off)
  | .if_icmp _ off => decide (0 ≤ (e.1 : Int) + off)
  | .goto off => decide (0 ≤ (e.1 : Int) + off)
  | .tableswitch d _ _ _ => decide (0 ≤ (e.1 : Int) + d)
  | _ => true)
def zmP (m : Nat) : Bool := decide (zBG[zIW.getD (zOw m) 0]? = some (.initialized (zY m).cls)) && decide (zBG[(zMW.getD m (0, 0, 0)).2.1]? = some (if zKi m = 0 then .static (zY m) else .instanceMethod (zY m))) &&
  (zKi m != 1 || decide (zBG[(zMW.getD m (0, 0, 0)).2.2]? = some (.selects (zY m).cls (zY m) (zY m)))) && ((zY m).cls != "java/lang/invoke/MethodHandle" && (zY m).cls != "java/lang/invoke/VarHandle") && decide ((parseMethodDescriptor (zY m).desc).map (fun d => d.parameters.length) = some (zNa m)) &&
  Jvm.plainName (zY m).cls && decide (zML m ≤ 15) && (zKi m != 2 || ((zY m).name == "<init>" && zRT m == none)) && (zY m).cls == zNo (zOw m) && decide (zKi m < 3)
set_option maxRecDepth 100000 in
theorem zk_m : (List.range 85).all zmP = true := by decide +kernel
def zfP (o : Nat) (e : Nat × Nat × Nat × Nat) : Bool := decide (zBG[e.2.2.2]? = some (.fieldLink (zNo o) e.1 (zTT e.2.1 e.2.2.1).1 (zTT e.2.1 e.2.2.1).2.1 (zTT e.2.1 e.2.2.1).2.2.1)) && decide (e.2.2.1 < zNF e.2.1) && decide (e.2.1 < 9)
set_option maxRecDepth 100000 in
theorem zk_f : (List.range 13).all (fun o => (zFTs.getD o []).all (zfP o)) = true := by decide +kernel
def zcP (o : Nat) (e : Nat × Nat × Nat × Nat) : Bool := match e.2.2.1 with
  | 3 => decide (zBG[e.2.2.2]? = some (.methodLink (zNo o) e.1 objectInit))
  | 4 => decide (zBG[e.2.2.2]? = some (.methodLink (zNo o) e.1 Lib.Math.max.name))
  | 5 => decide (zBG[e.2.2.2]? = some (.methodLink (zNo o) e.1 Lib.Math.min.name))
  | k => (if k < 10 then decide (zBG[e.2.2.2]? = some (.methodLink (zNo o) e.1 (zY e.2.1))) else decide (zNS[e.2.2.2]? = some (zNo o, e.1, zY e.2.1, RX8))) && decide (zKi e.2.1 = k % 10) && decide (e.2.1 < 85)
set_option maxRecDepth 100000 in
theorem zk_c : (List.range 13).all (fun o => (zCTs.getD o []).all (zcP o)) = true := by decide +kernel
def zlP (o : Nat) (e : Nat × Nat × Nat) : Bool := decide (zBG[e.2.2]? = some (.classLink (zNo o) e.1 (zNo e.2.1))) && decide (e.2.1 < 9)
set_option maxRecDepth 100000 in
theorem zk_l : (List.range 13).all (fun o => (zCLs.getD o []).all (zlP o)) = true := by decide +kernel
set_option maxRecDepth 100000 in
theorem zk_i : (List.range 13).all (fun o => (zKIs.getD o []).all (fun e => decide (zBG[e.2.2]? = some (.constant (zNo o) e.1 e.2.1)))) = true := by decide +kernel
set_option maxRecDepth 100000 in
theorem zk_j : (List.range 13).all (fun o => (zKLs.getD o []).all (fun e => decide (zBG[e.2.2]? = some (.constantLong (zNo o) e.1 e.2.1)))) = true := by decide +kernel
set_option maxRecDepth 100000 in
theorem zk_n : (List.range 9).all (fun ci => decide (zBG[zSW.getD ci 0]? = some (.instantiable (zNo ci) (zNF ci))) && decide (zBG[zIW.getD ci 0]? = some (.initialized (zNo ci)))) = true := by decide +kernel
theorem zk_o : Jvm.Cond.instanceMethod objectInit ∈ zBG ∧ Jvm.Cond.code objectInit ⟨#[0xb1]⟩ 1 none ∈ zBG ∧ Jvm.Cond.arrayClass .int ∈ zBG := ⟨List.mem_of_getElem? (i := 10) (by decide +kernel), List.mem_of_getElem? (i := 11) (by decide +kernel), List.mem_of_getElem? (i := 3) (by decide +kernel)⟩
end
section
set_option maxRecDepth 100000 in
theorem zdX0_init : ∀ e ∈ zcX0_init, decode cX0_init e.1 = .ok (e.2.1, e.2.2) ∧ zgd e = true := by decide +kernel
set_option maxRecDepth 100000 in
theorem zwX0_init : zBG[108]? = some (.code yX0_init cX0_init 1 none) := by first | rfl | decide +kernel
set_option maxRecDepth 100000 in
theorem zdX0_dropped : ∀ e ∈ zcX0_dropped, decode cX0_dropped e.1 = .ok (e.2.1, e.2.2) ∧ zgd e = true := by decide +kernel
set_option maxRecDepth 100000 in
theorem zwX0_dropped : zBG[349]? = some (.code yX0_dropped cX0_dropped 1 (some .int)) := by first | rfl | decide +kernel
set_option maxRecDepth 100000 in
theorem zdX0_size : ∀ e ∈ zcX0_size, decode cX0_size e.1 = .ok (e.2.1, e.2.2) ∧ zgd e = true := by decide +kernel
set_option maxRecDepth 100000 in
theorem zwX0_size : zBG[337]? = some (.code yX0_size cX0_size 1 (some .int)) := by first | rfl | decide +kernel
set_option maxRecDepth 100000 in
theorem zdX1_init : ∀ e ∈ zcX1_init, decode cX1_init e.1 = .ok (e.2.1, e.2.2) ∧ zgd e = true := by decide +kernel
set_option maxRecDepth 100000 in
theorem zwX1_init : zBG[103]? = some (.code yX1_init cX1_init 1 none) := by first | rfl | decide +kernel
set_option maxRecDepth 100000 in
theorem zdX1_size : ∀ e ∈ zcX1_size, decode cX1_size e.1 = .ok (e.2.1, e.2.2) ∧ zgd e = true := by decide +kernel
set_option maxRecDepth 100000 in
theorem zwX1_size : zBG[328]? = some (.code yX1_size cX1_size 1 (some .int)) := by first | rfl | decide +kernel
set_option maxRecDepth 100000 in
theorem zdX2_init : ∀ e ∈ zcX2_init, decode cX2_init e.1 = .ok (e.2.1, e.2.2) ∧ zgd e = true := by decide +kernel
set_option maxRecDepth 100000 in
theorem zwX2_init : zBG[81]? = some (.code yX2_init cX2_init 1 none) := by first | rfl | decide +kernel
set_option maxRecDepth 100000 in
theorem zdX2_size : ∀ e ∈ zcX2_size, decode cX2_size e.1 = .ok (e.2.1, e.2.2) ∧ zgd e = true := by decide +kernel
set_option maxRecDepth 100000 in
theorem zwX2_size : zBG[229]? = some (.code yX2_size cX2_size 1 (some .int)) := by first | rfl | decide +kernel
set_option maxRecDepth 100000 in
theorem zdX2_edge : ∀ e ∈ zcX2_edge, decode cX2_edge e.1 = .ok (e.2.1, e.2.2) ∧ zgd e = true := by decide +kernel
set_option maxRecDepth 100000 in
theorem zwX2_edge : zBG[255]? = some (.code yX2_edge cX2_edge 2 (some .int)) := by first | rfl | decide +kernel
set_option maxRecDepth 100000 in
theorem zdX2_eighth : ∀ e ∈ zcX2_eighth, decode cX2_eighth e.1 = .ok (e.2.1, e.2.2) ∧ zgd e = true := by decide +kernel
set_option maxRecDepth 100000 in
theorem zwX2_eighth : zBG[259]? = some (.code yX2_eighth cX2_eighth 2 (some .int)) := by first | rfl | decide +kernel
set_option maxRecDepth 100000 in
theorem zdX2_clear : ∀ e ∈ zcX2_clear, decode cX2_clear e.1 = .ok (e.2.1, e.2.2) ∧ zgd e = true := by decide +kernel
set_option maxRecDepth 100000 in
theorem zwX2_clear : zBG[199]? = some (.code yX2_clear cX2_clear 1 none) := by first | rfl | decide +kernel
set_option maxRecDepth 100000 in
theorem zdX2_add : ∀ e ∈ zcX2_add, decode cX2_add e.1 = .ok (e.2.1, e.2.2) ∧ zgd e = true := by decide +kernel
set_option maxRecDepth 100000 in
theorem zwX2_add : zBG[233]? = some (.code yX2_add cX2_add 3 none) := by first | rfl | decide +kernel
set_option maxRecDepth 100000 in
theorem zdX2_stand : ∀ e ∈ zcX2_stand, decode cX2_stand e.1 = .ok (e.2.1, e.2.2) ∧ zgd e = true := by decide +kernel
set_option maxRecDepth 100000 in
theorem zwX2_stand : zBG[237]? = some (.code yX2_stand cX2_stand 4 none) := by first | rfl | decide +kernel
set_option maxRecDepth 100000 in
theorem zdX2_become : ∀ e ∈ zcX2_become, decode cX2_become e.1 = .ok (e.2.1, e.2.2) ∧ zgd e = true := by decide +kernel
set_option maxRecDepth 100000 in
theorem zwX2_become : zBG[370]? = some (.code yX2_become cX2_become 3 none) := by first | rfl | decide +kernel
set_option maxRecDepth 100000 in
theorem zdX3_init : ∀ e ∈ zcX3_init, decode cX3_init e.1 = .ok (e.2.1, e.2.2) ∧ zgd e = true := by decide +kernel
set_option maxRecDepth 100000 in
theorem zwX3_init : zBG[48]? = some (.code yX3_init cX3_init 1 none) := by first | rfl | decide +kernel
set_option maxRecDepth 100000 in
theorem zdX3_setCorner : ∀ e ∈ zcX3_setCorner, decode cX3_setCorner e.1 = .ok (e.2.1, e.2.2) ∧ zgd e = true := by decide +kernel
set_option maxRecDepth 100000 in
theorem zwX3_setCorner : zBG[55]? = some (.code yX3_setCorner cX3_setCorner 4 none) := by first | rfl | decide +kernel
set_option maxRecDepth 100000 in
theorem zdX3_close : ∀ e ∈ zcX3_close, decode cX3_close e.1 = .ok (e.2.1, e.2.2) ∧ zgd e = true := by decide +kernel
set_option maxRecDepth 100000 in
theorem zwX3_close : zBG[61]? = some (.code yX3_close cX3_close 5 none) := by first | rfl | decide +kernel
set_option maxRecDepth 100000 in
theorem zdX3_corners : ∀ e ∈ zcX3_corners, decode cX3_corners e.1 = .ok (e.2.1, e.2.2) ∧ zgd e = true := by decide +kernel
set_option maxRecDepth 100000 in
theorem zwX3_corners : zBG[225]? = some (.code yX3_corners cX3_corners 1 (some .int)) := by first | rfl | decide +kernel
set_option maxRecDepth 100000 in
theorem zdX3_area : ∀ e ∈ zcX3_area, decode cX3_area e.1 = .ok (e.2.1, e.2.2) ∧ zgd e = true := by decide +kernel
set_option maxRecDepth 100000 in
theorem zwX3_area : zBG[209]? = some (.code yX3_area cX3_area 1 (some .int)) := by first | rfl | decide +kernel
set_option maxRecDepth 100000 in
theorem zdX3_x : ∀ e ∈ zcX3_x, decode cX3_x e.1 = .ok (e.2.1, e.2.2) ∧ zgd e = true := by decide +kernel
set_option maxRecDepth 100000 in
theorem zwX3_x : zBG[73]? = some (.code yX3_x cX3_x 2 (some .int)) := by first | rfl | decide +kernel
set_option maxRecDepth 100000 in
theorem zdX3_y : ∀ e ∈ zcX3_y, decode cX3_y e.1 = .ok (e.2.1, e.2.2) ∧ zgd e = true := by decide +kernel
set_option maxRecDepth 100000 in
theorem zwX3_y : zBG[79]? = some (.code yX3_y cX3_y 2 (some .int)) := by first | rfl | decide +kernel
set_option maxRecDepth 100000 in
theorem zdX3_next : ∀ e ∈ zcX3_next, decode cX3_next e.1 = .ok (e.2.1, e.2.2) ∧ zgd e = true := by decide +kernel
set_option maxRecDepth 100000 in
theorem zwX3_next : zBG[69]? = some (.code yX3_next cX3_next 2 (some .int)) := by first | rfl | decide +kernel
set_option maxRecDepth 100000 in
theorem zdX3_dx : ∀ e ∈ zcX3_dx, decode cX3_dx e.1 = .ok (e.2.1, e.2.2) ∧ zgd e = true := by decide +kernel
set_option maxRecDepth 100000 in
theorem zwX3_dx : zBG[263]? = some (.code yX3_dx cX3_dx 2 (some .int)) := by first | rfl | decide +kernel
set_option maxRecDepth 100000 in
theorem zdX3_dy : ∀ e ∈ zcX3_dy, decode cX3_dy e.1 = .ok (e.2.1, e.2.2) ∧ zgd e = true := by decide +kernel
set_option maxRecDepth 100000 in
theorem zwX3_dy : zBG[267]? = some (.code yX3_dy cX3_dy 2 (some .int)) := by first | rfl | decide +kernel
set_option maxRecDepth 100000 in
theorem zdX4_init : ∀ e ∈ zcX4_init, decode cX4_init e.1 = .ok (e.2.1, e.2.2) ∧ zgd e = true := by decide +kernel
set_option maxRecDepth 100000 in
theorem zwX4_init : zBG[98]? = some (.code yX4_init cX4_init 1 none) := by first | rfl | decide +kernel
set_option maxRecDepth 100000 in
theorem zdX4_size : ∀ e ∈ zcX4_size, decode cX4_size e.1 = .ok (e.2.1, e.2.2) ∧ zgd e = true := by decide +kernel
set_option maxRecDepth 100000 in
theorem zwX4_size : zBG[323]? = some (.code yX4_size cX4_size 1 (some .int)) := by first | rfl | decide +kernel
set_option maxRecDepth 100000 in
theorem zdX5_init : ∀ e ∈ zcX5_init, decode cX5_init e.1 = .ok (e.2.1, e.2.2) ∧ zgd e = true := by decide +kernel
set_option maxRecDepth 100000 in
theorem zwX5_init : zBG[113]? = some (.code yX5_init cX5_init 2 none) := by first | rfl | decide +kernel
set_option maxRecDepth 100000 in
theorem zdX5_latestFinding : ∀ e ∈ zcX5_latestFinding, decode cX5_latestFinding e.1 = .ok (e.2.1, e.2.2) ∧ zgd e = true := by decide +kernel
set_option maxRecDepth 100000 in
theorem zwX5_latestFinding : zBG[333]? = some (.code yX5_latestFinding cX5_latestFinding 1 (some .int)) := by first | rfl | decide +kernel
set_option maxRecDepth 100000 in
theorem zdX5_find : ∀ e ∈ zcX5_find, decode cX5_find e.1 = .ok (e.2.1, e.2.2) ∧ zgd e = true := by decide +kernel
set_option maxRecDepth 100000 in
theorem zwX5_find : zBG[139]? = some (.code yX5_find cX5_find 2 (some .int)) := by first | rfl | decide +kernel
set_option maxRecDepth 100000 in
theorem zdX5_form : ∀ e ∈ zcX5_form, decode cX5_form e.1 = .ok (e.2.1, e.2.2) ∧ zgd e = true := by decide +kernel
set_option maxRecDepth 100000 in
theorem zwX5_form : zBG[168]? = some (.code yX5_form cX5_form 2 (some .int)) := by first | rfl | decide +kernel
set_option maxRecDepth 100000 in
theorem zdX5_length : ∀ e ∈ zcX5_length, decode cX5_length e.1 = .ok (e.2.1, e.2.2) ∧ zgd e = true := by decide +kernel
set_option maxRecDepth 100000 in
theorem zwX5_length : zBG[172]? = some (.code yX5_length cX5_length 2 (some .int)) := by first | rfl | decide +kernel
set_option maxRecDepth 100000 in
theorem zdX5_isLost : ∀ e ∈ zcX5_isLost, decode cX5_isLost e.1 = .ok (e.2.1, e.2.2) ∧ zgd e = true := by decide +kernel
set_option maxRecDepth 100000 in
theorem zwX5_isLost : zBG[164]? = some (.code yX5_isLost cX5_isLost 2 (some .boolean)) := by first | rfl | decide +kernel
set_option maxRecDepth 100000 in
theorem zdX5_forget : ∀ e ∈ zcX5_forget, decode cX5_forget e.1 = .ok (e.2.1, e.2.2) ∧ zgd e = true := by decide +kernel
set_option maxRecDepth 100000 in
theorem zwX5_forget : zBG[121]? = some (.code yX5_forget cX5_forget 2 none) := by first | rfl | decide +kernel
set_option maxRecDepth 100000 in
theorem zdX5_renew : ∀ e ∈ zcX5_renew, decode cX5_renew e.1 = .ok (e.2.1, e.2.2) ∧ zgd e = true := by decide +kernel
set_option maxRecDepth 100000 in
theorem zwX5_renew : zBG[144]? = some (.code yX5_renew cX5_renew 5 none) := by first | rfl | decide +kernel
set_option maxRecDepth 100000 in
theorem zdX5_value : ∀ e ∈ zcX5_value, decode cX5_value e.1 = .ok (e.2.1, e.2.2) ∧ zgd e = true := by decide +kernel
set_option maxRecDepth 100000 in
theorem zwX5_value : zBG[190]? = some (.code yX5_value cX5_value 3 (some .int)) := by first | rfl | decide +kernel
set_option maxRecDepth 100000 in
theorem zdX5_write : ∀ e ∈ zcX5_write, decode cX5_write e.1 = .ok (e.2.1, e.2.2) ∧ zgd e = true := by decide +kernel
set_option maxRecDepth 100000 in
theorem zwX5_write : zBG[176]? = some (.code yX5_write cX5_write 5 none) := by first | rfl | decide +kernel
set_option maxRecDepth 100000 in
theorem zdX5_faultAt : ∀ e ∈ zcX5_faultAt, decode cX5_faultAt e.1 = .ok (e.2.1, e.2.2) ∧ zgd e = true := by decide +kernel
set_option maxRecDepth 100000 in
theorem zwX5_faultAt : zBG[160]? = some (.code yX5_faultAt cX5_faultAt 4 (some .int)) := by first | rfl | decide +kernel
set_option maxRecDepth 100000 in
theorem zdX6_init : ∀ e ∈ zcX6_init, decode cX6_init e.1 = .ok (e.2.1, e.2.2) ∧ zgd e = true := by decide +kernel
set_option maxRecDepth 100000 in
theorem zwX6_init : zBG[92]? = some (.code yX6_init cX6_init 1 none) := by first | rfl | decide +kernel
set_option maxRecDepth 100000 in
theorem zdX6_size : ∀ e ∈ zcX6_size, decode cX6_size e.1 = .ok (e.2.1, e.2.2) ∧ zgd e = true := by decide +kernel
set_option maxRecDepth 100000 in
theorem zwX6_size : zBG[319]? = some (.code yX6_size cX6_size 1 (some .int)) := by first | rfl | decide +kernel
set_option maxRecDepth 100000 in
theorem zdX6_clear : ∀ e ∈ zcX6_clear, decode cX6_clear e.1 = .ok (e.2.1, e.2.2) ∧ zgd e = true := by decide +kernel
set_option maxRecDepth 100000 in
theorem zwX6_clear : zBG[204]? = some (.code yX6_clear cX6_clear 1 none) := by first | rfl | decide +kernel
set_option maxRecDepth 100000 in
theorem zdX6_add : ∀ e ∈ zcX6_add, decode cX6_add e.1 = .ok (e.2.1, e.2.2) ∧ zgd e = true := by decide +kernel
set_option maxRecDepth 100000 in
theorem zwX6_add : zBG[385]? = some (.code yX6_add cX6_add 4 none) := by first | rfl | decide +kernel
set_option maxRecDepth 100000 in
theorem zdX6_price : ∀ e ∈ zcX6_price, decode cX6_price e.1 = .ok (e.2.1, e.2.2) ∧ zgd e = true := by decide +kernel
set_option maxRecDepth 100000 in
theorem zwX6_price : zBG[397]? = some (.code yX6_price cX6_price 4 (some .int)) := by first | rfl | decide +kernel
set_option maxRecDepth 100000 in
theorem zdX6_isBetter : ∀ e ∈ zcX6_isBetter, decode cX6_isBetter e.1 = .ok (e.2.1, e.2.2) ∧ zgd e = true := by decide +kernel
set_option maxRecDepth 100000 in
theorem zwX6_isBetter : zBG[393]? = some (.code yX6_isBetter cX6_isBetter 4 (some .boolean)) := by first | rfl | decide +kernel
set_option maxRecDepth 100000 in
theorem zdX6_layOut : ∀ e ∈ zcX6_layOut, decode cX6_layOut e.1 = .ok (e.2.1, e.2.2) ∧ zgd e = true := by decide +kernel
set_option maxRecDepth 100000 in
theorem zwX6_layOut : zBG[402]? = some (.code yX6_layOut cX6_layOut 4 none) := by first | rfl | decide +kernel
set_option maxRecDepth 100000 in
theorem zdX7_init : ∀ e ∈ zcX7_init, decode cX7_init e.1 = .ok (e.2.1, e.2.2) ∧ zgd e = true := by decide +kernel
set_option maxRecDepth 100000 in
theorem zwX7_init : zBG[86]? = some (.code yX7_init cX7_init 1 none) := by first | rfl | decide +kernel
set_option maxRecDepth 100000 in
theorem zdX7_size : ∀ e ∈ zcX7_size, decode cX7_size e.1 = .ok (e.2.1, e.2.2) ∧ zgd e = true := by decide +kernel
set_option maxRecDepth 100000 in
theorem zwX7_size : zBG[300]? = some (.code yX7_size cX7_size 1 (some .int)) := by first | rfl | decide +kernel
set_option maxRecDepth 100000 in
theorem zdX7_part : ∀ e ∈ zcX7_part, decode cX7_part e.1 = .ok (e.2.1, e.2.2) ∧ zgd e = true := by decide +kernel
set_option maxRecDepth 100000 in
theorem zwX7_part : zBG[311]? = some (.code yX7_part cX7_part 3 (some .int)) := by first | rfl | decide +kernel
set_option maxRecDepth 100000 in
theorem zdX7_press : ∀ e ∈ zcX7_press, decode cX7_press e.1 = .ok (e.2.1, e.2.2) ∧ zgd e = true := by decide +kernel
set_option maxRecDepth 100000 in
theorem zwX7_press : zBG[249]? = some (.code yX7_press cX7_press 11 none) := by first | rfl | decide +kernel
set_option maxRecDepth 100000 in
theorem zdX7_add : ∀ e ∈ zcX7_add, decode cX7_add e.1 = .ok (e.2.1, e.2.2) ∧ zgd e = true := by decide +kernel
set_option maxRecDepth 100000 in
theorem zwX7_add : zBG[273]? = some (.code yX7_add cX7_add 5 none) := by first | rfl | decide +kernel
set_option maxRecDepth 100000 in
theorem zdX7_spread : ∀ e ∈ zcX7_spread, decode cX7_spread e.1 = .ok (e.2.1, e.2.2) ∧ zgd e = true := by decide +kernel
set_option maxRecDepth 100000 in
theorem zwX7_spread : zBG[277]? = some (.code yX7_spread cX7_spread 5 (some .int)) := by first | rfl | decide +kernel
set_option maxRecDepth 100000 in
theorem zdX7_turnIfBelow : ∀ e ∈ zcX7_turnIfBelow, decode cX7_turnIfBelow e.1 = .ok (e.2.1, e.2.2) ∧ zgd e = true := by decide +kernel
set_option maxRecDepth 100000 in
theorem zwX7_turnIfBelow : zBG[292]? = some (.code yX7_turnIfBelow cX7_turnIfBelow 2 none) := by first | rfl | decide +kernel
set_option maxRecDepth 100000 in
theorem zdX7_normal : ∀ e ∈ zcX7_normal, decode cX7_normal e.1 = .ok (e.2.1, e.2.2) ∧ zgd e = true := by decide +kernel
set_option maxRecDepth 100000 in
theorem zwX7_normal : zBG[358]? = some (.code yX7_normal cX7_normal 2 (some .long)) := by first | rfl | decide +kernel
set_option maxRecDepth 100000 in
theorem zdX7_cross : ∀ e ∈ zcX7_cross, decode cX7_cross e.1 = .ok (e.2.1, e.2.2) ∧ zgd e = true := by decide +kernel
set_option maxRecDepth 100000 in
theorem zwX7_cross : zBG[281]? = some (.code yX7_cross cX7_cross 15 (some .boolean)) := by first | rfl | decide +kernel
set_option maxRecDepth 100000 in
theorem zdX7_signs : ∀ e ∈ zcX7_signs, decode cX7_signs e.1 = .ok (e.2.1, e.2.2) ∧ zgd e = true := by decide +kernel
set_option maxRecDepth 100000 in
theorem zwX7_signs : zBG[288]? = some (.code yX7_signs cX7_signs 5 (some .int)) := by first | rfl | decide +kernel
set_option maxRecDepth 100000 in
theorem zdX8_init : ∀ e ∈ zcX8_init, decode cX8_init e.1 = .ok (e.2.1, e.2.2) ∧ zgd e = true := by decide +kernel
set_option maxRecDepth 100000 in
theorem zwX8_init : zBG[8]? = some (.code yX8_init cX8_init 1 none) := by first | rfl | decide +kernel
set_option maxRecDepth 100000 in
theorem zdX8_shape : ∀ e ∈ zcX8_shape, decode cX8_shape e.1 = .ok (e.2.1, e.2.2) ∧ zgd e = true := by decide +kernel
set_option maxRecDepth 100000 in
theorem zwX8_shape : zBG[180]? = some (.code yX8_shape cX8_shape 4 (some .int)) := by first | rfl | decide +kernel
set_option maxRecDepth 100000 in
theorem zdX8_isShape : ∀ e ∈ zcX8_isShape, decode cX8_isShape e.1 = .ok (e.2.1, e.2.2) ∧ zgd e = true := by decide +kernel
set_option maxRecDepth 100000 in
theorem zwX8_isShape : zBG[186]? = some (.code yX8_isShape cX8_isShape 6 (some .boolean)) := by first | rfl | decide +kernel
set_option maxRecDepth 100000 in
theorem zdX8_finger : ∀ e ∈ zcX8_finger, decode cX8_finger e.1 = .ok (e.2.1, e.2.2) ∧ zgd e = true := by decide +kernel
set_option maxRecDepth 100000 in
theorem zwX8_finger : zBG[217]? = some (.code yX8_finger cX8_finger 3 (some .int)) := by first | rfl | decide +kernel
set_option maxRecDepth 100000 in
theorem zdX8_friction : ∀ e ∈ zcX8_friction, decode cX8_friction e.1 = .ok (e.2.1, e.2.2) ∧ zgd e = true := by decide +kernel
set_option maxRecDepth 100000 in
theorem zwX8_friction : zBG[213]? = some (.code yX8_friction cX8_friction 3 (some .int)) := by first | rfl | decide +kernel
set_option maxRecDepth 100000 in
theorem zdX8_push : ∀ e ∈ zcX8_push, decode cX8_push e.1 = .ok (e.2.1, e.2.2) ∧ zgd e = true := by decide +kernel
set_option maxRecDepth 100000 in
theorem zwX8_push : zBG[296]? = some (.code yX8_push cX8_push 3 (some .long)) := by first | rfl | decide +kernel
set_option maxRecDepth 100000 in
theorem zdX8_holds : ∀ e ∈ zcX8_holds, decode cX8_holds e.1 = .ok (e.2.1, e.2.2) ∧ zgd e = true := by decide +kernel
set_option maxRecDepth 100000 in
theorem zwX8_holds : zBG[241]? = some (.code yX8_holds cX8_holds 1 (some .int)) := by first | rfl | decide +kernel
set_option maxRecDepth 100000 in
theorem zdX8_witness : ∀ e ∈ zcX8_witness, decode cX8_witness e.1 = .ok (e.2.1, e.2.2) ∧ zgd e = true := by decide +kernel
set_option maxRecDepth 100000 in
theorem zwX8_witness : zBG[354]? = some (.code yX8_witness cX8_witness 2 (some .long)) := by first | rfl | decide +kernel
set_option maxRecDepth 100000 in
theorem zdX8_free : ∀ e ∈ zcX8_free, decode cX8_free e.1 = .ok (e.2.1, e.2.2) ∧ zgd e = true := by decide +kernel
set_option maxRecDepth 100000 in
theorem zwX8_free : zBG[362]? = some (.code yX8_free cX8_free 4 (some .int)) := by first | rfl | decide +kernel
set_option maxRecDepth 100000 in
theorem zdX8_slip : ∀ e ∈ zcX8_slip, decode cX8_slip e.1 = .ok (e.2.1, e.2.2) ∧ zgd e = true := by decide +kernel
set_option maxRecDepth 100000 in
theorem zwX8_slip : zBG[414]? = some (.code yX8_slip cX8_slip 2 (some .int)) := by first | rfl | decide +kernel
set_option maxRecDepth 100000 in
theorem zdX8_isHeldWithin : ∀ e ∈ zcX8_isHeldWithin, decode cX8_isHeldWithin e.1 = .ok (e.2.1, e.2.2) ∧ zgd e = true := by decide +kernel
set_option maxRecDepth 100000 in
theorem zwX8_isHeldWithin : zBG[418]? = some (.code yX8_isHeldWithin cX8_isHeldWithin 4 (some .boolean)) := by first | rfl | decide +kernel
set_option maxRecDepth 100000 in
theorem zdX8_slide : ∀ e ∈ zcX8_slide, decode cX8_slide e.1 = .ok (e.2.1, e.2.2) ∧ zgd e = true := by decide +kernel
set_option maxRecDepth 100000 in
theorem zwX8_slide : zBG[422]? = some (.code yX8_slide cX8_slide 7 (some .boolean)) := by first | rfl | decide +kernel
set_option maxRecDepth 100000 in
theorem zdX8_isHeldBy : ∀ e ∈ zcX8_isHeldBy, decode cX8_isHeldBy e.1 = .ok (e.2.1, e.2.2) ∧ zgd e = true := by decide +kernel
set_option maxRecDepth 100000 in
theorem zwX8_isHeldBy : zBG[245]? = some (.code yX8_isHeldBy cX8_isHeldBy 2 (some .boolean)) := by first | rfl | decide +kernel
set_option maxRecDepth 100000 in
theorem zdX8_spot : ∀ e ∈ zcX8_spot, decode cX8_spot e.1 = .ok (e.2.1, e.2.2) ∧ zgd e = true := by decide +kernel
set_option maxRecDepth 100000 in
theorem zwX8_spot : zBG[381]? = some (.code yX8_spot cX8_spot 4 (some .int)) := by first | rfl | decide +kernel
set_option maxRecDepth 100000 in
theorem zdX8_cheapest : ∀ e ∈ zcX8_cheapest, decode cX8_cheapest e.1 = .ok (e.2.1, e.2.2) ∧ zgd e = true := by decide +kernel
set_option maxRecDepth 100000 in
theorem zwX8_cheapest : zBG[389]? = some (.code yX8_cheapest cX8_cheapest 3 (some .int)) := by first | rfl | decide +kernel
set_option maxRecDepth 100000 in
theorem zdX8_take : ∀ e ∈ zcX8_take, decode cX8_take e.1 = .ok (e.2.1, e.2.2) ∧ zgd e = true := by decide +kernel
set_option maxRecDepth 100000 in
theorem zwX8_take : zBG[408]? = some (.code yX8_take cX8_take 2 (some .int)) := by first | rfl | decide +kernel
set_option maxRecDepth 100000 in
theorem zdX8_sheet : ∀ e ∈ zcX8_sheet, decode cX8_sheet e.1 = .ok (e.2.1, e.2.2) ∧ zgd e = true := by decide +kernel
set_option maxRecDepth 100000 in
theorem zwX8_sheet : zBG[129]? = some (.code yX8_sheet cX8_sheet 4 (some .int)) := by first | rfl | decide +kernel
set_option maxRecDepth 100000 in
theorem zdX8_put : ∀ e ∈ zcX8_put, decode cX8_put e.1 = .ok (e.2.1, e.2.2) ∧ zgd e = true := by decide +kernel
set_option maxRecDepth 100000 in
theorem zwX8_put : zBG[156]? = some (.code yX8_put cX8_put 6 (some .int)) := by first | rfl | decide +kernel
set_option maxRecDepth 100000 in
theorem zdX8_count : ∀ e ∈ zcX8_count, decode cX8_count e.1 = .ok (e.2.1, e.2.2) ∧ zgd e = true := by decide +kernel
set_option maxRecDepth 100000 in
theorem zwX8_count : zBG[315]? = some (.code yX8_count cX8_count 2 (some .int)) := by first | rfl | decide +kernel
set_option maxRecDepth 100000 in
theorem zdX8_refusal : ∀ e ∈ zcX8_refusal, decode cX8_refusal e.1 = .ok (e.2.1, e.2.2) ∧ zgd e = true := by decide +kernel
set_option maxRecDepth 100000 in
theorem zwX8_refusal : zBG[306]? = some (.code yX8_refusal cX8_refusal 1 (some .long)) := by first | rfl | decide +kernel
set_option maxRecDepth 100000 in
theorem zdX8_isWithin : ∀ e ∈ zcX8_isWithin, decode cX8_isWithin e.1 = .ok (e.2.1, e.2.2) ∧ zgd e = true := by decide +kernel
set_option maxRecDepth 100000 in
theorem zwX8_isWithin : zBG[193]? = some (.code yX8_isWithin cX8_isWithin 2 (some .boolean)) := by first | rfl | decide +kernel
set_option maxRecDepth 100000 in
theorem zdX8_isTriplePart : ∀ e ∈ zcX8_isTriplePart, decode cX8_isTriplePart e.1 = .ok (e.2.1, e.2.2) ∧ zgd e = true := by decide +kernel
set_option maxRecDepth 100000 in
theorem zwX8_isTriplePart : zBG[303]? = some (.code yX8_isTriplePart cX8_isTriplePart 1 (some .boolean)) := by first | rfl | decide +kernel
set_option maxRecDepth 100000 in
theorem zdX8_isSheet : ∀ e ∈ zcX8_isSheet, decode cX8_isSheet e.1 = .ok (e.2.1, e.2.2) ∧ zgd e = true := by decide +kernel
set_option maxRecDepth 100000 in
theorem zwX8_isSheet : zBG[132]? = some (.code yX8_isSheet cX8_isSheet 1 (some .boolean)) := by first | rfl | decide +kernel
set_option maxRecDepth 100000 in
theorem zdX8_isForm : ∀ e ∈ zcX8_isForm, decode cX8_isForm e.1 = .ok (e.2.1, e.2.2) ∧ zgd e = true := by decide +kernel
set_option maxRecDepth 100000 in
theorem zwX8_isForm : zBG[135]? = some (.code yX8_isForm cX8_isForm 1 (some .boolean)) := by first | rfl | decide +kernel
set_option maxRecDepth 100000 in
theorem zdX8_isStand : ∀ e ∈ zcX8_isStand, decode cX8_isStand e.1 = .ok (e.2.1, e.2.2) ∧ zgd e = true := by decide +kernel
set_option maxRecDepth 100000 in
theorem zwX8_isStand : zBG[221]? = some (.code yX8_isStand cX8_isStand 3 (some .boolean)) := by first | rfl | decide +kernel
set_option maxRecDepth 100000 in
theorem zdX8_isFinger : ∀ e ∈ zcX8_isFinger, decode cX8_isFinger e.1 = .ok (e.2.1, e.2.2) ∧ zgd e = true := by decide +kernel
set_option maxRecDepth 100000 in
theorem zwX8_isFinger : zBG[366]? = some (.code yX8_isFinger cX8_isFinger 2 (some .boolean)) := by first | rfl | decide +kernel
set_option maxRecDepth 100000 in
theorem zdX8_item : ∀ e ∈ zcX8_item, decode cX8_item e.1 = .ok (e.2.1, e.2.2) ∧ zgd e = true := by decide +kernel
set_option maxRecDepth 100000 in
theorem zwX8_item : zBG[75]? = some (.code yX8_item cX8_item 2 (some .int)) := by first | rfl | decide +kernel
set_option maxRecDepth 100000 in
theorem zdX8_setItem : ∀ e ∈ zcX8_setItem, decode cX8_setItem e.1 = .ok (e.2.1, e.2.2) ∧ zgd e = true := by decide +kernel
set_option maxRecDepth 100000 in
theorem zwX8_setItem : zBG[57]? = some (.code yX8_setItem cX8_setItem 3 none) := by first | rfl | decide +kernel
set_option maxRecDepth 100000 in
theorem zdJ6_bitCount_0f7a4 : ∀ e ∈ zcJ6_bitCount_0f7a4, decode cJ6_bitCount_0f7a4 e.1 = .ok (e.2.1, e.2.2) ∧ zgd e = true := by decide +kernel
set_option maxRecDepth 100000 in
theorem zwJ6_bitCount_0f7a4 : zBG[342]? = some (.code yJ6_bitCount_0f7a4 cJ6_bitCount_0f7a4 1 (some .int)) := by first | rfl | decide +kernel
set_option maxRecDepth 100000 in
theorem zdL_cell : ∀ e ∈ zcL_cell, decode cL_cell e.1 = .ok (e.2.1, e.2.2) ∧ zgd e = true := by decide +kernel
set_option maxRecDepth 100000 in
theorem zwL_cell : zBG[147]? = some (.code yL_cell cL_cell 2 (some .int)) := by first | rfl | decide +kernel
set_option maxRecDepth 100000 in
theorem zdL_up : ∀ e ∈ zcL_up, decode cL_up e.1 = .ok (e.2.1, e.2.2) ∧ zgd e = true := by decide +kernel
set_option maxRecDepth 100000 in
theorem zwL_up : zBG[151]? = some (.code yL_up cL_up 2 (some .int)) := by first | rfl | decide +kernel
set_option maxRecDepth 100000 in
theorem zdL_shape : ∀ e ∈ zcL_shape, decode cL_shape e.1 = .ok (e.2.1, e.2.2) ∧ zgd e = true := by decide +kernel
set_option maxRecDepth 100000 in
theorem zwL_shape : zBG[125]? = some (.code yL_shape cL_shape 9 (some .int)) := by first | rfl | decide +kernel
set_option maxRecDepth 100000 in
theorem zdJ9_max_7cf53 : ∀ e ∈ zcJ9_max_7cf53, decode Lib.Math.max.code e.1 = .ok (e.2.1, e.2.2) ∧ zgd e = true := by decide +kernel
set_option maxRecDepth 100000 in
theorem zwJ9_max_7cf53 : zBG[426]? = some (.code Lib.Math.max.name Lib.Math.max.code 2 (some .int)) := by first | rfl | decide +kernel
set_option maxRecDepth 100000 in
theorem zdJ9_min_7cf53 : ∀ e ∈ zcJ9_min_7cf53, decode Lib.Math.min.code e.1 = .ok (e.2.1, e.2.2) ∧ zgd e = true := by decide +kernel
set_option maxRecDepth 100000 in
theorem zwJ9_min_7cf53 : zBG[429]? = some (.code Lib.Math.min.name Lib.Math.min.code 2 (some .int)) := by first | rfl | decide +kernel
set_option maxRecDepth 100000 in
theorem zdL_law_0 : ∀ e ∈ zcL_law_0, decode cL_law e.1 = .ok (e.2.1, e.2.2) ∧ zgd e = true := by decide +kernel
set_option maxRecDepth 100000 in
theorem zdL_law_1 : ∀ e ∈ zcL_law_1, decode cL_law e.1 = .ok (e.2.1, e.2.2) ∧ zgd e = true := by decide +kernel
set_option maxRecDepth 100000 in
theorem zdL_law_2 : ∀ e ∈ zcL_law_2, decode cL_law e.1 = .ok (e.2.1, e.2.2) ∧ zgd e = true := by decide +kernel
set_option maxRecDepth 100000 in
theorem zdL_law_3 : ∀ e ∈ zcL_law_3, decode cL_law e.1 = .ok (e.2.1, e.2.2) ∧ zgd e = true := by decide +kernel
set_option maxRecDepth 100000 in
theorem zdL_law_4 : ∀ e ∈ zcL_law_4, decode cL_law e.1 = .ok (e.2.1, e.2.2) ∧ zgd e = true := by decide +kernel
set_option maxRecDepth 100000 in
theorem zdL_law_5 : ∀ e ∈ zcL_law_5, decode cL_law e.1 = .ok (e.2.1, e.2.2) ∧ zgd e = true := by decide +kernel
set_option maxRecDepth 100000 in
theorem zdL_law_6 : ∀ e ∈ zcL_law_6, decode cL_law e.1 = .ok (e.2.1, e.2.2) ∧ zgd e = true := by decide +kernel
set_option maxRecDepth 100000 in
theorem zdL_law_7 : ∀ e ∈ zcL_law_7, decode cL_law e.1 = .ok (e.2.1, e.2.2) ∧ zgd e = true := by decide +kernel
theorem zdL_law : ∀ e ∈ zcL_law, decode cL_law e.1 = .ok (e.2.1, e.2.2) ∧ zgd e = true := (List.forall_mem_append.mpr ⟨zdL_law_0, (List.forall_mem_append.mpr ⟨zdL_law_1, (List.forall_mem_append.mpr ⟨zdL_law_2, (List.forall_mem_append.mpr ⟨zdL_law_3, (List.forall_mem_append.mpr ⟨zdL_law_4, (List.forall_mem_append.mpr ⟨zdL_law_5, (List.forall_mem_append.mpr ⟨zdL_law_6, zdL_law_7⟩)⟩)⟩)⟩)⟩)⟩)⟩)
end
section
theorem zk_d0 : ∀ m ∈ ([0, 1, 2, 3, 4, 5, 6, 7, 8, 9, 10, 11, 12, 13, 14, 15, 16, 17, 18, 19] : List Nat), (∀ e ∈ zC.getD m [], decode (zB m) e.1 = .ok (e.2.1, e.2.2) ∧ zgd e = true) := (List.forall_mem_cons.mpr ⟨zdX0_init, (List.forall_mem_cons.mpr ⟨zdX0_dropped, (List.forall_mem_cons.mpr ⟨zdX0_size, (List.forall_mem_cons.mpr ⟨zdX1_init, (List.forall_mem_cons.mpr ⟨zdX1_size, (List.forall_mem_cons.mpr ⟨zdX2_init, (List.forall_mem_cons.mpr ⟨zdX2_size, (List.forall_mem_cons.mpr ⟨zdX2_edge, (List.forall_mem_cons.mpr ⟨zdX2_eighth, (List.forall_mem_cons.mpr ⟨zdX2_clear, (List.forall_mem_cons.mpr ⟨zdX2_add, (List.forall_mem_cons.mpr ⟨zdX2_stand, (List.forall_mem_cons.mpr ⟨zdX2_become, (List.forall_mem_cons.mpr ⟨zdX3_init, (List.forall_mem_cons.mpr ⟨zdX3_setCorner, (List.forall_mem_cons.mpr ⟨zdX3_close, (List.forall_mem_cons.mpr ⟨zdX3_corners, (List.forall_mem_cons.mpr ⟨zdX3_area, (List.forall_mem_cons.mpr ⟨zdX3_x, (List.forall_mem_cons.mpr ⟨zdX3_y, (fun _ h => absurd h List.not_mem_nil)⟩)⟩)⟩)⟩)⟩)⟩)⟩)⟩)⟩)⟩)⟩)⟩)⟩)⟩)⟩)⟩)⟩)⟩)⟩)⟩)
theorem zk_w0 : ∀ m ∈ ([0, 1, 2, 3, 4, 5, 6, 7, 8, 9, 10, 11, 12, 13, 14, 15, 16, 17, 18, 19] : List Nat), (.code (zY m) (zB m) (zML m) (zRT m) ∈ zBG) := (List.forall_mem_cons.mpr ⟨List.mem_of_getElem? zwX0_init, (List.forall_mem_cons.mpr ⟨List.mem_of_getElem? zwX0_dropped, (List.forall_mem_cons.mpr ⟨List.mem_of_getElem? zwX0_size, (List.forall_mem_cons.mpr ⟨List.mem_of_getElem? zwX1_init, (List.forall_mem_cons.mpr ⟨List.mem_of_getElem? zwX1_size, (List.forall_mem_cons.mpr ⟨List.mem_of_getElem? zwX2_init, (List.forall_mem_cons.mpr ⟨List.mem_of_getElem? zwX2_size, (List.forall_mem_cons.mpr ⟨List.mem_of_getElem? zwX2_edge, (List.forall_mem_cons.mpr ⟨List.mem_of_getElem? zwX2_eighth, (List.forall_mem_cons.mpr ⟨List.mem_of_getElem? zwX2_clear, (List.forall_mem_cons.mpr ⟨List.mem_of_getElem? zwX2_add, (List.forall_mem_cons.mpr ⟨List.mem_of_getElem? zwX2_stand, (List.forall_mem_cons.mpr ⟨List.mem_of_getElem? zwX2_become, (List.forall_mem_cons.mpr ⟨List.mem_of_getElem? zwX3_init, (List.forall_mem_cons.mpr ⟨List.mem_of_getElem? zwX3_setCorner, (List.forall_mem_cons.mpr ⟨List.mem_of_getElem? zwX3_close, (List.forall_mem_cons.mpr ⟨List.mem_of_getElem? zwX3_corners, (List.forall_mem_cons.mpr ⟨List.mem_of_getElem? zwX3_area, (List.forall_mem_cons.mpr ⟨List.mem_of_getElem? zwX3_x, (List.forall_mem_cons.mpr ⟨List.mem_of_getElem? zwX3_y, (fun _ h => absurd h List.not_mem_nil)⟩)⟩)⟩)⟩)⟩)⟩)⟩)⟩)⟩)⟩)⟩)⟩)⟩)⟩)⟩)⟩)⟩)⟩)⟩)⟩)
theorem zk_d1 : ∀ m ∈ ([20, 21, 22, 23, 24, 25, 26, 27, 28, 29, 30, 31, 32, 33, 34, 35, 36, 37, 38, 39] : List Nat), (∀ e ∈ zC.getD m [], decode (zB m) e.1 = .ok (e.2.1, e.2.2) ∧ zgd e = true) := (List.forall_mem_cons.mpr ⟨zdX3_next, (List.forall_mem_cons.mpr ⟨zdX3_dx, (List.forall_mem_cons.mpr ⟨zdX3_dy, (List.forall_mem_cons.mpr ⟨zdX4_init, (List.forall_mem_cons.mpr ⟨zdX4_size, (List.forall_mem_cons.mpr ⟨zdX5_init, (List.forall_mem_cons.mpr ⟨zdX5_latestFinding, (List.forall_mem_cons.mpr ⟨zdX5_find, (List.forall_mem_cons.mpr ⟨zdX5_form, (List.forall_mem_cons.mpr ⟨zdX5_length, (List.forall_mem_cons.mpr ⟨zdX5_isLost, (List.forall_mem_cons.mpr ⟨zdX5_forget, (List.forall_mem_cons.mpr ⟨zdX5_renew, (List.forall_mem_cons.mpr ⟨zdX5_value, (List.forall_mem_cons.mpr ⟨zdX5_write, (List.forall_mem_cons.mpr ⟨zdX5_faultAt, (List.forall_mem_cons.mpr ⟨zdX6_init, (List.forall_mem_cons.mpr ⟨zdX6_size, (List.forall_mem_cons.mpr ⟨zdX6_clear, (List.forall_mem_cons.mpr ⟨zdX6_add, (fun _ h => absurd h List.not_mem_nil)⟩)⟩)⟩)⟩)⟩)⟩)⟩)⟩)⟩)⟩)⟩)⟩)⟩)⟩)⟩)⟩)⟩)⟩)⟩)⟩)
theorem zk_w1 : ∀ m ∈ ([20, 21, 22, 23, 24, 25, 26, 27, 28, 29, 30, 31, 32, 33, 34, 35, 36, 37, 38, 39] : List Nat), (.code (zY m) (zB m) (zML m) (zRT m) ∈ zBG) := (List.forall_mem_cons.mpr ⟨List.mem_of_getElem? zwX3_next, (List.forall_mem_cons.mpr ⟨List.mem_of_getElem? zwX3_dx, (List.forall_mem_cons.mpr ⟨List.mem_of_getElem? zwX3_dy, (List.forall_mem_cons.mpr ⟨List.mem_of_getElem? zwX4_init, (List.forall_mem_cons.mpr ⟨List.mem_of_getElem? zwX4_size, (List.forall_mem_cons.mpr ⟨List.mem_of_getElem? zwX5_init, (List.forall_mem_cons.mpr ⟨List.mem_of_getElem? zwX5_latestFinding, (List.forall_mem_cons.mpr ⟨List.mem_of_getElem? zwX5_find, (List.forall_mem_cons.mpr ⟨List.mem_of_getElem? zwX5_form, (List.forall_mem_cons.mpr ⟨List.mem_of_getElem? zwX5_length, (List.forall_mem_cons.mpr ⟨List.mem_of_getElem? zwX5_isLost, (List.forall_mem_cons.mpr ⟨List.mem_of_getElem? zwX5_forget, (List.forall_mem_cons.mpr ⟨List.mem_of_getElem? zwX5_renew, (List.forall_mem_cons.mpr ⟨List.mem_of_getElem? zwX5_value, (List.forall_mem_cons.mpr ⟨List.mem_of_getElem? zwX5_write, (List.forall_mem_cons.mpr ⟨List.mem_of_getElem? zwX5_faultAt, (List.forall_mem_cons.mpr ⟨List.mem_of_getElem? zwX6_init, (List.forall_mem_cons.mpr ⟨List.mem_of_getElem? zwX6_size, (List.forall_mem_cons.mpr ⟨List.mem_of_getElem? zwX6_clear, (List.forall_mem_cons.mpr ⟨List.mem_of_getElem? zwX6_add, (fun _ h => absurd h List.not_mem_nil)⟩)⟩)⟩)⟩)⟩)⟩)⟩)⟩)⟩)⟩)⟩)⟩)⟩)⟩)⟩)⟩)⟩)⟩)⟩)⟩)
theorem zk_d2 : ∀ m ∈ ([40, 41, 42, 43, 44, 45, 46, 47, 48, 49, 50, 51, 52, 53, 54, 55, 56, 57, 58, 59] : List Nat), (∀ e ∈ zC.getD m [], decode (zB m) e.1 = .ok (e.2.1, e.2.2) ∧ zgd e = true) := (List.forall_mem_cons.mpr ⟨zdX6_price, (List.forall_mem_cons.mpr ⟨zdX6_isBetter, (List.forall_mem_cons.mpr ⟨zdX6_layOut, (List.forall_mem_cons.mpr ⟨zdX7_init, (List.forall_mem_cons.mpr ⟨zdX7_size, (List.forall_mem_cons.mpr ⟨zdX7_part, (List.forall_mem_cons.mpr ⟨zdX7_press, (List.forall_mem_cons.mpr ⟨zdX7_add, (List.forall_mem_cons.mpr ⟨zdX7_spread, (List.forall_mem_cons.mpr ⟨zdX7_turnIfBelow, (List.forall_mem_cons.mpr ⟨zdX7_normal, (List.forall_mem_cons.mpr ⟨zdX7_cross, (List.forall_mem_cons.mpr ⟨zdX7_signs, (List.forall_mem_cons.mpr ⟨zdX8_init, (List.forall_mem_cons.mpr ⟨zdX8_shape, (List.forall_mem_cons.mpr ⟨zdX8_isShape, (List.forall_mem_cons.mpr ⟨zdX8_finger, (List.forall_mem_cons.mpr ⟨zdX8_friction, (List.forall_mem_cons.mpr ⟨zdX8_push, (List.forall_mem_cons.mpr ⟨zdX8_holds, (fun _ h => absurd h List.not_mem_nil)⟩)⟩)⟩)⟩)⟩)⟩)⟩)⟩)⟩)⟩)⟩)⟩)⟩)⟩)⟩)⟩)⟩)⟩)⟩)⟩)
theorem zk_w2 : ∀ m ∈ ([40, 41, 42, 43, 44, 45, 46, 47, 48, 49, 50, 51, 52, 53, 54, 55, 56, 57, 58, 59] : List Nat), (.code (zY m) (zB m) (zML m) (zRT m) ∈ zBG) := (List.forall_mem_cons.mpr ⟨List.mem_of_getElem? zwX6_price, (List.forall_mem_cons.mpr ⟨List.mem_of_getElem? zwX6_isBetter, (List.forall_mem_cons.mpr ⟨List.mem_of_getElem? zwX6_layOut, (List.forall_mem_cons.mpr ⟨List.mem_of_getElem? zwX7_init, (List.forall_mem_cons.mpr ⟨List.mem_of_getElem? zwX7_size, (List.forall_mem_cons.mpr ⟨List.mem_of_getElem? zwX7_part, (List.forall_mem_cons.mpr ⟨List.mem_of_getElem? zwX7_press, (List.forall_mem_cons.mpr ⟨List.mem_of_getElem? zwX7_add, (List.forall_mem_cons.mpr ⟨List.mem_of_getElem? zwX7_spread, (List.forall_mem_cons.mpr ⟨List.mem_of_getElem? zwX7_turnIfBelow, (List.forall_mem_cons.mpr ⟨List.mem_of_getElem? zwX7_normal, (List.forall_mem_cons.mpr ⟨List.mem_of_getElem? zwX7_cross, (List.forall_mem_cons.mpr ⟨List.mem_of_getElem? zwX7_signs, (List.forall_mem_cons.mpr ⟨List.mem_of_getElem? zwX8_init, (List.forall_mem_cons.mpr ⟨List.mem_of_getElem? zwX8_shape, (List.forall_mem_cons.mpr ⟨List.mem_of_getElem? zwX8_isShape, (List.forall_mem_cons.mpr ⟨List.mem_of_getElem? zwX8_finger, (List.forall_mem_cons.mpr ⟨List.mem_of_getElem? zwX8_friction, (List.forall_mem_cons.mpr ⟨List.mem_of_getElem? zwX8_push, (List.forall_mem_cons.mpr ⟨List.mem_of_getElem? zwX8_holds, (fun _ h => absurd h List.not_mem_nil)⟩)⟩)⟩)⟩)⟩)⟩)⟩)⟩)⟩)⟩)⟩)⟩)⟩)⟩)⟩)⟩)⟩)⟩)⟩)⟩)
theorem zk_d3 : ∀ m ∈ ([60, 61, 62, 63, 64, 65, 66, 67, 68, 69, 70, 71, 72, 73, 74, 75, 76, 77, 78, 79] : List Nat), (∀ e ∈ zC.getD m [], decode (zB m) e.1 = .ok (e.2.1, e.2.2) ∧ zgd e = true) := (List.forall_mem_cons.mpr ⟨zdX8_witness, (List.forall_mem_cons.mpr ⟨zdX8_free, (List.forall_mem_cons.mpr ⟨zdX8_slip, (List.forall_mem_cons.mpr ⟨zdX8_isHeldWithin, (List.forall_mem_cons.mpr ⟨zdX8_slide, (List.forall_mem_cons.mpr ⟨zdX8_isHeldBy, (List.forall_mem_cons.mpr ⟨zdX8_spot, (List.forall_mem_cons.mpr ⟨zdX8_cheapest, (List.forall_mem_cons.mpr ⟨zdX8_take, (List.forall_mem_cons.mpr ⟨zdX8_sheet, (List.forall_mem_cons.mpr ⟨zdX8_put, (List.forall_mem_cons.mpr ⟨zdX8_count, (List.forall_mem_cons.mpr ⟨zdX8_refusal, (List.forall_mem_cons.mpr ⟨zdX8_isWithin, (List.forall_mem_cons.mpr ⟨zdX8_isTriplePart, (List.forall_mem_cons.mpr ⟨zdX8_isSheet, (List.forall_mem_cons.mpr ⟨zdX8_isForm, (List.forall_mem_cons.mpr ⟨zdX8_isStand, (List.forall_mem_cons.mpr ⟨zdX8_isFinger, (List.forall_mem_cons.mpr ⟨zdX8_item, (fun _ h => absurd h List.not_mem_nil)⟩)⟩)⟩)⟩)⟩)⟩)⟩)⟩)⟩)⟩)⟩)⟩)⟩)⟩)⟩)⟩)⟩)⟩)⟩)⟩)
theorem zk_w3 : ∀ m ∈ ([60, 61, 62, 63, 64, 65, 66, 67, 68, 69, 70, 71, 72, 73, 74, 75, 76, 77, 78, 79] : List Nat), (.code (zY m) (zB m) (zML m) (zRT m) ∈ zBG) := (List.forall_mem_cons.mpr ⟨List.mem_of_getElem? zwX8_witness, (List.forall_mem_cons.mpr ⟨List.mem_of_getElem? zwX8_free, (List.forall_mem_cons.mpr ⟨List.mem_of_getElem? zwX8_slip, (List.forall_mem_cons.mpr ⟨List.mem_of_getElem? zwX8_isHeldWithin, (List.forall_mem_cons.mpr ⟨List.mem_of_getElem? zwX8_slide, (List.forall_mem_cons.mpr ⟨List.mem_of_getElem? zwX8_isHeldBy, (List.forall_mem_cons.mpr ⟨List.mem_of_getElem? zwX8_spot, (List.forall_mem_cons.mpr ⟨List.mem_of_getElem? zwX8_cheapest, (List.forall_mem_cons.mpr ⟨List.mem_of_getElem? zwX8_take, (List.forall_mem_cons.mpr ⟨List.mem_of_getElem? zwX8_sheet, (List.forall_mem_cons.mpr ⟨List.mem_of_getElem? zwX8_put, (List.forall_mem_cons.mpr ⟨List.mem_of_getElem? zwX8_count, (List.forall_mem_cons.mpr ⟨List.mem_of_getElem? zwX8_refusal, (List.forall_mem_cons.mpr ⟨List.mem_of_getElem? zwX8_isWithin, (List.forall_mem_cons.mpr ⟨List.mem_of_getElem? zwX8_isTriplePart, (List.forall_mem_cons.mpr ⟨List.mem_of_getElem? zwX8_isSheet, (List.forall_mem_cons.mpr ⟨List.mem_of_getElem? zwX8_isForm, (List.forall_mem_cons.mpr ⟨List.mem_of_getElem? zwX8_isStand, (List.forall_mem_cons.mpr ⟨List.mem_of_getElem? zwX8_isFinger, (List.forall_mem_cons.mpr ⟨List.mem_of_getElem? zwX8_item, (fun _ h => absurd h List.not_mem_nil)⟩)⟩)⟩)⟩)⟩)⟩)⟩)⟩)⟩)⟩)⟩)⟩)⟩)⟩)⟩)⟩)⟩)⟩)⟩)⟩)
theorem zk_d4 : ∀ m ∈ ([80, 81, 82, 83, 84, 85, 86, 87] : List Nat), (∀ e ∈ zC.getD m [], decode (zB m) e.1 = .ok (e.2.1, e.2.2) ∧ zgd e = true) := (List.forall_mem_cons.mpr ⟨zdX8_setItem, (List.forall_mem_cons.mpr ⟨zdJ6_bitCount_0f7a4, (List.forall_mem_cons.mpr ⟨zdL_cell, (List.forall_mem_cons.mpr ⟨zdL_up, (List.forall_mem_cons.mpr ⟨zdL_shape, (List.forall_mem_cons.mpr ⟨zdJ9_max_7cf53, (List.forall_mem_cons.mpr ⟨zdJ9_min_7cf53, (List.forall_mem_cons.mpr ⟨zdL_law, (fun _ h => absurd h List.not_mem_nil)⟩)⟩)⟩)⟩)⟩)⟩)⟩)⟩)
theorem zk_w4 : ∀ m ∈ ([80, 81, 82, 83, 84, 85, 86] : List Nat), (.code (zY m) (zB m) (zML m) (zRT m) ∈ zBG) := (List.forall_mem_cons.mpr ⟨List.mem_of_getElem? zwX8_setItem, (List.forall_mem_cons.mpr ⟨List.mem_of_getElem? zwJ6_bitCount_0f7a4, (List.forall_mem_cons.mpr ⟨List.mem_of_getElem? zwL_cell, (List.forall_mem_cons.mpr ⟨List.mem_of_getElem? zwL_up, (List.forall_mem_cons.mpr ⟨List.mem_of_getElem? zwL_shape, (List.forall_mem_cons.mpr ⟨List.mem_of_getElem? zwJ9_max_7cf53, (List.forall_mem_cons.mpr ⟨List.mem_of_getElem? zwJ9_min_7cf53, (fun _ h => absurd h List.not_mem_nil)⟩)⟩)⟩)⟩)⟩)⟩)⟩)
end
section
/-! the small machine: one store of numbered cells; ints, longs, references, how many cells there are -/
abbrev zSt : Type := (Nat → Nat → Int32) × (Nat → Nat → Int64) × (Nat → Nat → Value) × Nat
abbrev zLo : Type := List (Nat × Value)
def zuI (σ : zSt) (a j : Nat) (v : Int32) : zSt := (fun b => if b = a then upd (σ.1 b) j v else σ.1 b, σ.2)
def zuJ (σ : zSt) (a j : Nat) (v : Int64) : zSt := (σ.1, fun b => if b = a then vp_updL (σ.2.1 b) j v else σ.2.1 b, σ.2.2)
def zuR (σ : zSt) (a j : Nat) (v : Value) : zSt := (σ.1, σ.2.1, fun b => if b = a then va_up (σ.2.2.1 b) j v else σ.2.2.1 b, σ.2.2.2)
def zuN (σ : zSt) : zSt := (fun b => if b = σ.2.2.2 then fun _ => 0 else σ.1 b, fun b => if b = σ.2.2.2 then fun _ => 0 else σ.2.1 b, fun b => if b = σ.2.2.2 then fun _ => .null else σ.2.2.1 b, σ.2.2.2 + 1)
-- stack and locals
def zst1 (L : zLo) (i : Nat) (v : Value) : zLo := (i, v) :: L.filter (fun q => !(q.1 == i) && !(q.1 + 1 == i && q.2.category == 2))
def zst2 (L : zLo) (i : Nat) (v : Value) : zLo := (i, v) :: L.filter (fun q => !(q.1 == i) && (!(q.1 == i + 1) && !(q.1 + 1 == i && q.2.category == 2)))
def zlI (o : Option Value) (G : Int32 → Prop) : Prop := match o with
  | some (.int x) => G x
  | _ => False
def zlJ (o : Option Value) (G : Int64 → Prop) : Prop := match o with
  | some (.long x) => G x
  | _ => False
def zlR (o : Option Value) (G : Nat → Prop) : Prop := match o with
  | some (.ref x) => G x
  | _ => False
def zsI (S : List Value) (G : Int32 → List Value → Prop) : Prop := match S with
  | .int x :: r => G x r
  | _ => False
def zsJ (S : List Value) (G : Int64 → List Value → Prop) : Prop := match S with
  | .long x :: r => G x r
  | _ => False
def zsR (S : List Value) (G : Nat → List Value → Prop) : Prop := match S with
  | .ref x :: r => G x r
  | _ => False
def zsII (S : List Value) (G : Int32 → Int32 → List Value → Prop) : Prop := match S with
  | .int y :: .int x :: r => G x y r
  | _ => False
def zsJJ (S : List Value) (G : Int64 → Int64 → List Value → Prop) : Prop := match S with
  | .long y :: .long x :: r => G x y r
  | _ => False
def zsA (S : List Value) (G : Nat → Int32 → List Value → Prop) : Prop := match S with
  | .int i :: .ref a :: r => G a i r
  | _ => False
def zsAI (S : List Value) (G : Nat → Int32 → Int32 → List Value → Prop) : Prop := match S with
  | .int x :: .int i :: .ref a :: r => G a i x r
  | _ => False
def zsAJ (S : List Value) (G : Nat → Int32 → Int64 → List Value → Prop) : Prop := match S with
  | .long x :: .int i :: .ref a :: r => G a i x r
  | _ => False
def zs1 (S : List Value) (G : Value → List Value → Prop) : Prop := match S with
  | v :: r => G v r
  | _ => False
def zs2 (S : List Value) (G : Value → Value → List Value → Prop) : Prop := match S with
  | v :: w :: r => G v w r
  | _ => False
def zsP (S : List Value) (G : Value → Nat → List Value → Prop) : Prop := match S with
  | v :: .ref a :: r => G v a r
  | _ => False
def zc0 (c : Jvm.ClassFile.Cond) (x : Int32) : Prop := match c with
  | .eq => x = 0 | .ne => ¬ x = 0 | .lt => x < 0 | .ge => 0 ≤ x | .gt => 0 < x | .le => x ≤ 0
def zc2 (c : Jvm.ClassFile.Cond) (x y : Int32) : Prop := match c with
  | .eq => x = y | .ne => ¬ x = y | .lt => x < y | .ge => y ≤ x | .gt => y < x | .le => x ≤ y
def ztg (pc : Nat) (off : Int) : Nat := ((pc : Int) + off).toNat
def zgF (σ : zSt) (a k : Nat) (ty : FieldType) (G : Value → Prop) : Prop := match ty with
  | .int => G (.int (σ.1 a k))
  | .boolean => G (.int (σ.1 a k))
  | .long => G (.long (σ.2.1 a k))
  | _ => ∃ b, σ.2.2.1 a k = .ref b ∧ G (.ref b)
def zpF (σ : zSt) (a k : Nat) (ty : FieldType) (v : Value) (G : zSt → Prop) : Prop := match ty, v with
  | .int, .int x => G (zuI σ a k x)
  | .boolean, .int x => (x = 0 ∨ x = 1) ∧ G (zuI σ a k x)
  | .long, .long x => G (zuJ σ a k x)
  | .array _, .ref b => G (zuR σ a k (.ref b))
  | .object _, .ref b => G (zuR σ a k (.ref b))
  | _, _ => False
def zcs (S : List Value) : Nat := (S.map fun v => v.category).sum
/-- who the call goes to, and what is left on the stack -/
def zrc (σ : zSt) (o m k : Nat) (as : List Value) : Prop := match k with
  | 0 => True
  | 1 => match as with
    | .ref b :: _ => b < σ.2.2.2 ∧ zkd b = (0, zOw m)
    | _ => False
  | _ => match as with
    | .ref _ :: _ => True
    | _ => False
def zna (m k : Nat) : Nat := if k = 0 then zNa m else zNa m + 1
def zkt (k : Nat) : Nat := match k with
  | 0 => 0 | 10 => 0 | 4 => 0 | 5 => 0 | 1 => 1 | 2 => 2 | 12 => 2 | 3 => 2 | _ => 9
def zcall (C : Nat → List Value → zSt → (Option Value → zSt → Prop) → Prop) (lim t o i : Nat) (S : List Value) (σ : zSt) (G : List Value → zSt → Prop) : Prop := match zct o i with
  | some (m, k, _) => match Nat.beq (zkt k) t with
    | false => False
    | true => match k with
      | 3 => zsR S (fun _ r => zcs r ≤ 8 ∧ G r σ)
      | 4 => zsII S (fun x y r => (zcs r ≤ 8 ∧ σ.2.2.2 ≤ lim) ∧ G (.int (if x < y then y else x) :: r) σ)
      | 5 => zsII S (fun x y r => (zcs r ≤ 8 ∧ σ.2.2.2 ≤ lim) ∧ G (.int (if y < x then y else x) :: r) σ)
      | _ => (zcs (S.drop (zna m (k % 10))) ≤ 8 ∧ zna m (k % 10) ≤ S.length ∧ zrc σ o m (k % 10) (S.take (zna m (k % 10))).reverse ∧ σ.2.2.2 + zAl m ≤ lim) ∧
        C m (S.take (zna m (k % 10))).reverse σ (fun r σ' => σ'.2.2.2 = σ.2.2.2 + zAl m → G (r.toList ++ S.drop (zna m (k % 10))) σ')
  | none => False
def zret (m : Nat) (v : Value) : Prop := match zRT m, v with
  | some .int, .int _ => True
  | some .boolean, .int x => x = 0 ∨ x = 1
  | some .long, .long _ => True
  | _, _ => False
/-- one step: what must hold before it, so that V holds behind it -/
def zSI (C : Nat → List Value → zSt → (Option Value → zSt → Prop) → Prop) (X : Nat × (Nat → Int32)) (m lim : Nat) (V : Nat → zLo → List Value → zSt → Prop) (K : Option Value → zSt → Prop) (ins : Instr) (pc : Nat) (L : zLo) (S : List Value) (σ : zSt) : Prop := match ins with
  | .aload_n n => zlR (L.lookup (n : Nat)) (fun a => V (pc + 1) L (.ref a :: S) σ)
  | .iload_n n => zlI (L.lookup (n : Nat)) (fun a => V (pc + 1) L (.int a :: S) σ)
  | .lload_n n => zlJ (L.lookup (n : Nat)) (fun a => V (pc + 1) L (.long a :: S) σ)
  | .iload n => zlI (L.lookup n) (fun a => V (pc + 2) L (.int a :: S) σ)
  | .lload n => zlJ (L.lookup n) (fun a => V (pc + 2) L (.long a :: S) σ)
  | .istore_n n => zsI S (fun x r => n < zML m ∧ V (pc + 1) (zst1 L n (.int x)) r σ)
  | .istore n => zsI S (fun x r => n < zML m ∧ V (pc + 2) (zst1 L n (.int x)) r σ)
  | .lstore_n n => zsJ S (fun x r => n + 1 < zML m ∧ V (pc + 1) (zst2 L n (.long x)) r σ)
  | .lstore n => zsJ S (fun x r => n + 1 < zML m ∧ V (pc + 2) (zst2 L n (.long x)) r σ)
  | .astore_n n => zsR S (fun x r => n < zML m ∧ V (pc + 1) (zst1 L n (.ref x)) r σ)
  | .iinc n k => n < zML m ∧ zlI (L.lookup n) (fun a => V (pc + 3) (zst1 L n (.int (a + Int32.ofInt k))) S σ)
  | .iconst k => V (pc + 1) L (.int (Int32.ofInt k) :: S) σ
  | .bipush k => V (pc + 2) L (.int (Int8.ofInt k).toInt32 :: S) σ
  | .sipush k => V (pc + 3) L (.int (Int16.ofInt k).toInt32 :: S) σ
  | .lconst k => V (pc + 1) L (.long (Int64.ofNat (k : Nat)) :: S) σ
  | .ldc i => match zki (zOw m) i with
    | some (v, _) => V (pc + 2) L (.int v :: S) σ
    | none => False
  | .ldc_w i => match zki (zOw m) i with
    | some (v, _) => V (pc + 3) L (.int v :: S) σ
    | none => False
  | .ldc2_w i => match zkl (zOw m) i with
    | some (v, _) => V (pc + 3) L (.long v :: S) σ
    | none => False
  | .iadd => zsII S (fun x y r => V (pc + 1) L (.int (x + y) :: r) σ)
  | .isub => zsII S (fun x y r => V (pc + 1) L (.int (x - y) :: r) σ)
  | .imul => zsII S (fun x y r => V (pc + 1) L (.int (x * y) :: r) σ)
  | .iand => zsII S (fun x y r => V (pc + 1) L (.int (x &&& y) :: r) σ)
  | .ior => zsII S (fun x y r => V (pc + 1) L (.int (x ||| y) :: r) σ)
  | .ixor => zsII S (fun x y r => V (pc + 1) L (.int (x ^^^ y) :: r) σ)
  | .ishl => zsII S (fun x y r => V (pc + 1) L (.int (x <<< (y &&& 31)) :: r) σ)
  | .ishr => zsII S (fun x y r => V (pc + 1) L (.int (x >>> (y &&& 31)) :: r) σ)
  | .iushr => zsII S (fun x y r => V (pc + 1) L (.int ((x.toUInt32 >>> (y.toUInt32 &&& Int32.toUInt32 31)).toInt32) :: r) σ)
  | .idiv => zsII S (fun x y r => (¬ y = 0) ∧ V (pc + 1) L (.int (x / y) :: r) σ)
  | .irem => zsII S (fun x y r => (¬ y = 0) ∧ V (pc + 1) L (.int (x - x / y * y) :: r) σ)
  | .ineg => zsI S (fun x r => V (pc + 1) L (.int (-x) :: r) σ)
  | .i2l => zsI S (fun x r => V (pc + 1) L (.long x.toInt64 :: r) σ)
  | .i2b => zsI S (fun x r => V (pc + 1) L (.int x.toInt8.toInt32 :: r) σ)
  | .i2s => zsI S (fun x r => V (pc + 1) L (.int x.toInt16.toInt32 :: r) σ)
  | .l2i => zsJ S (fun x r => V (pc + 1) L (.int x.toInt32 :: r) σ)
  | .ladd => zsJJ S (fun x y r => V (pc + 1) L (.long (x + y) :: r) σ)
  | .lsub => zsJJ S (fun x y r => V (pc + 1) L (.long (x - y) :: r) σ)
  | .lmul => zsJJ S (fun x y r => V (pc + 1) L (.long (x * y) :: r) σ)
  | .ldiv => zsJJ S (fun x y r => (¬ y = 0) ∧ V (pc + 1) L (.long (x / y) :: r) σ)
  | .lneg => zsJ S (fun x r => V (pc + 1) L (.long (-x) :: r) σ)
  | .lcmp => zsJJ S (fun x y r => V (pc + 1) L (.int (lg_cmp x y) :: r) σ)
  | .dup => zs1 S (fun v r => v.category = 1 ∧ V (pc + 1) L (v :: v :: r) σ)
  | .dup2 => zs2 S (fun v w r => (v.category = 1 ∧ w.category = 1) ∧ V (pc + 1) L (v :: w :: v :: w :: r) σ)
  | .pop => zs1 S (fun v r => v.category = 1 ∧ V (pc + 1) L r σ)
  | .ifCond c off => zsI S (fun x r => (zc0 c x → V (ztg pc off) L r σ) ∧ (¬ zc0 c x → V (pc + 3) L r σ))
  | .if_icmp c off => zsII S (fun x y r => (zc2 c x y → V (ztg pc off) L r σ) ∧ (¬ zc2 c x y → V (pc + 3) L r σ))
  | .ifnull _ => zsR S (fun _ r => V (pc + 3) L r σ)
  | .goto off => V (ztg pc off) L S σ
  | .tableswitch d lo hi offs => zsI S (fun x r => ((x.toInt < lo ∨ hi < x.toInt) → V (ztg pc d) L r σ) ∧ ((¬ x.toInt < lo ∧ ¬ hi < x.toInt) → ∃ off, offs[(x.toInt - lo).toNat]? = some off ∧ 0 ≤ (pc : Int) + off ∧ V (ztg pc off) L r σ))
  | .getfield i => zsR S (fun a r => match zft (zOw m) i with
    | some (ci, k, _) => (a < σ.2.2.2 ∧ zkd a = (0, ci)) ∧ zgF σ a k (zTY ci k) (fun v => V (pc + 3) L (v :: r) σ)
    | none => False)
  | .putfield i => zsP S (fun v a r => match zft (zOw m) i with
    | some (ci, k, _) => (a < σ.2.2.2 ∧ zkd a = (0, ci) ∧ ((zTT ci k).2.2.2 = false ∨ (zKi m = 2 ∧ ci = zOw m))) ∧ zpF σ a k (zTY ci k) v (fun σ' => V (pc + 3) L r σ')
    | none => False)
  | .iaload => zsA S (fun a i r => match Nat.beq a zsc with
    | true => (True ∧ vp_in i X.1) ∧ V (pc + 1) L (.int (X.2 i.toNatClampNeg) :: r) σ
    | false => (a < σ.2.2.2 ∧ (zkd a).1 = 1 ∧ vp_in i (zkd a).2) ∧ V (pc + 1) L (.int (σ.1 a i.toNatClampNeg) :: r) σ)
  | .iastore => zsAI S (fun a i x r => (a < σ.2.2.2 ∧ (zkd a).1 = 1 ∧ vp_in i (zkd a).2) ∧ V (pc + 1) L r (zuI σ a i.toNatClampNeg x))
  | .arraylength => zsR S (fun a r => match Nat.beq a zsc with
    | true => True ∧ V (pc + 1) L (.int (Int32.ofNat X.1) :: r) σ
    | false => (a < σ.2.2.2 ∧ (zkd a).1 = 1) ∧ V (pc + 1) L (.int (Int32.ofNat (zkd a).2) :: r) σ)
  | .newarray t => zsI S (fun n r => (zkd σ.2.2.2 = (1, n.toNatClampNeg) ∧ t = .int ∧ ¬ n < 0 ∧ σ.2.2.2 + 1 ≤ lim) ∧ V (pc + 2) L (.ref σ.2.2.2 :: r) (zuN σ))
  | .new i => match zcl (zOw m) i with
    | some (ci, _) => (zkd σ.2.2.2 = (0, ci) ∧ σ.2.2.2 + 1 ≤ lim) ∧ V (pc + 3) L (.ref σ.2.2.2 :: S) (zuN σ)
    | none => False
  | .invokestatic i => zcall C lim 0 (zOw m) i S σ (fun S' σ' => V (pc + 3) L S' σ')
  | .invokevirtual i => zcall C lim 1 (zOw m) i S σ (fun S' σ' => V (pc + 3) L S' σ')
  | .invokespecial i => zcall C lim 2 (zOw m) i S σ (fun S' σ' => V (pc + 3) L S' σ')
  | .ireturn => S.length = 1 ∧ zsI S (fun x _ => zret m (.int x) ∧ σ.2.2.2 = lim ∧ K (some (.int x)) σ)
  | .lreturn => S.length = 1 ∧ zsJ S (fun x _ => zret m (.long x) ∧ σ.2.2.2 = lim ∧ K (some (.long x)) σ)
  | .return_ => S.length = 0 ∧ zRT m = none ∧ σ.2.2.2 = lim ∧ K none σ
  | _ => False
def zST (C : Nat → List Value → zSt → (Option Value → zSt → Prop) → Prop) (X : Nat × (Nat → Int32)) (m lim : Nat) (V : Nat → zLo → List Value → zSt → Prop) (K : Option Value → zSt → Prop) (pc : Nat) (L : zLo) (S : List Value) (σ : zSt) : Prop := match zcd m pc with
  | some (ins, _) => zSI C X m lim V K ins pc L S σ
  | none => False
/-- what is closed under the steps of a method -/
def zOk (C : Nat → List Value → zSt → (Option Value → zSt → Prop) → Prop) (X : Nat × (Nat → Int32)) (m lim : Nat) (V : Nat → zLo → List Value → zSt → Prop) (K : Option Value → zSt → Prop) : Prop := (∀ pc L S σ, zST C X m lim V K pc L S σ → V pc L S σ) ∧ ∀ (pc : Nat) (L L' : zLo) (S : List Value) (σ : zSt), (∀ q ∈ L', q ∈ L) → V pc L' S σ → V pc L S σ
/-- a call of method m, calls at most d deep: it comes back, and K holds then -/
def zSp (zx : Nat × (Nat → Int32)) : Nat → Nat → List Value → zSt → (Option Value → zSt → Prop) → Prop
  | 0 => fun _ _ _ _ => False
  | d + 1 => fun m as σ K => (m < 85 ∧ (lg_sl as).length ≤ zML m) ∧ ∀ V, zOk (zSp zx d) zx m (σ.2.2.2 + zAl m) V K → V 0 (lv_args 0 as) [] σ
end
section
abbrev zQ : Type := Nat × Nat × ClassId × ClassId
def zad (Z : zQ) (a : Nat) : Nat := if a = zsc then Z.2.1 else Z.1 + a
def zcv (Z : zQ) (v : Value) : Value := match v with
  | .ref a => .ref (zad Z a)
  | w => w
def zcL (Z : zQ) (L : zLo) : zLo := L.map fun q => (q.1, zcv Z q.2)
def zfv (Z : zQ) (σ : zSt) (a : Nat) (ty : FieldType) (j : Nat) : Value := match ty with
  | .int => .int (σ.1 a j)
  | .boolean => .int (σ.1 a j)
  | .long => .long (σ.2.1 a j)
  | _ => zcv Z (σ.2.2.1 a j)
def zfs (Z : zQ) (σ : zSt) (a ci : Nat) : List Value := (List.range (zNF ci)).map fun j => zfv Z σ a (zTY ci j) j
def zce (Z : zQ) (σ : zSt) (a : Nat) : va_E := match zkd a with
  | (0, ci) => .inr (ci, zfs Z σ a ci)
  | (1, n) => .inl (Z.2.2.1, n, .inl (σ.1 a))
  | (_, n) => .inl (Z.2.2.2, n, .inr (.inl (σ.2.1 a)))
def zw (Z : zQ) (σ : zSt) : va_W := (List.range σ.2.2.2).map fun a => (Z.1 + a, zce Z σ a)
theorem zcv_cat (Z : zQ) (v : Value) : (zcv Z v).category = v.category := by cases v <;> rfl
theorem zw_at {Z : zQ} {σ : zSt} {a : Nat} (h : a < σ.2.2.2) : (zw Z σ)[a]? = some (Z.1 + a, zce Z σ a) := by
  simp [zw, h]
theorem zw_get {Z : zQ} {σ : zSt} {k : Nat} {q : Nat × va_E} (h : (zw Z σ)[k]? = some q) : k < σ.2.2.2 ∧ q = (Z.1 + k, zce Z σ k) := by
  by_cases hk : k < σ.2.2.2
  · rw [zw_at hk] at h
    exact ⟨hk, (Option.some.inj h).symm⟩
  · have hn : (zw Z σ)[k]? = none := List.getElem?_eq_none (by simp [zw]; omega)
    rw [hn] at h
    cases h
theorem zw_D (Z : zQ) (σ : zSt) : va_D (fun q => Z.1 ≤ q) (zw Z σ) := by
  refine ⟨fun i j p q hi hj he => ?_, fun k q h => ?_⟩
  · obtain ⟨_, rfl⟩ := zw_get hi
    obtain ⟨_, rfl⟩ := zw_get hj
    exact Nat.add_left_cancel he
  · obtain ⟨_, rfl⟩ := zw_get h
    exact Nat.le_add_right _ _
theorem zw_set {Z : zQ} {σ σ' : zSt} {a : Nat} {E : va_E} (ha : a < σ.2.2.2) (hn : σ'.2.2.2 = σ.2.2.2) (he : zce Z σ' a = E) (ho : ∀ b, b ≠ a → zce Z σ' b = zce Z σ b) : (zw Z σ).set a (Z.1 + a, E) = zw Z σ' := by
  apply List.ext_getElem?
  intro k
  by_cases hk : k < σ.2.2.2
  · rw [zw_at (σ := σ') (by omega)]
    by_cases hka : k = a
    · subst hka
      rw [List.getElem?_set_self (by simp [zw]; exact hk), he]
    · rw [List.getElem?_set_ne (Ne.symm hka), zw_at hk, ho k hka]
  · rw [List.getElem?_eq_none (by simp [zw]; omega), List.getElem?_eq_none (by simp [zw]; omega)]
theorem zfs_set {Z : zQ} {σ σ' : zSt} {a ci j : Nat} {v : Value} (hj : j < zNF ci) (h1 : zfv Z σ' a (zTY ci j) j = v) (h2 : ∀ k, k ≠ j → zfv Z σ' a (zTY ci k) k = zfv Z σ a (zTY ci k) k) : zfs Z σ' a ci = (zfs Z σ a ci).set j v := by
  apply List.ext_getElem?
  intro k
  by_cases hk : k < zNF ci
  · by_cases hkj : k = j
    · subst hkj
      rw [List.getElem?_set_self (by simp [zfs]; exact hk)]
      simp [zfs, hk, h1]
    · rw [List.getElem?_set_ne (Ne.symm hkj)]
      simp [zfs, hk, h2 k hkj]
  · rw [List.getElem?_eq_none (by simp [zfs]; omega), List.getElem?_eq_none (by simp [zfs]; omega)]
theorem zfs_at {Z : zQ} {σ : zSt} {a ci k : Nat} (hk : k < zNF ci) : (zfs Z σ a ci)[k]? = some (zfv Z σ a (zTY ci k) k) := by
  simp [zfs, hk]
theorem zce_uI {Z : zQ} {σ : zSt} {a j : Nat} {v : Int32} {b : Nat} (h : b ≠ a) : zce Z (zuI σ a j v) b = zce Z σ b := by
  have e : (zuI σ a j v).1 b = σ.1 b := by show (if b = a then _ else _) = _; rw [if_neg h]
  unfold zce
  split
  · unfold zfs; congr 2; apply List.map_congr_left; intro k _; unfold zfv; split <;> first | rfl | (rw [e])
  · rw [e]
  · rfl
theorem zce_uJ {Z : zQ} {σ : zSt} {a j : Nat} {v : Int64} {b : Nat} (h : b ≠ a) : zce Z (zuJ σ a j v) b = zce Z σ b := by
  have e : (zuJ σ a j v).2.1 b = σ.2.1 b := by show (if b = a then _ else _) = _; rw [if_neg h]
  unfold zce
  split
  · unfold zfs; congr 2; apply List.map_congr_left; intro k _; unfold zfv; split <;> first | rfl | (rw [e])
  · rfl
  · rw [e]
theorem zce_uR {Z : zQ} {σ : zSt} {a j : Nat} {v : Value} {b : Nat} (h : b ≠ a) : zce Z (zuR σ a j v) b = zce Z σ b := by
  have e : (zuR σ a j v).2.2.1 b = σ.2.2.1 b := by show (if b = a then _ else _) = _; rw [if_neg h]
  unfold zce
  split
  · unfold zfs; congr 2; apply List.map_congr_left; intro k _; unfold zfv; split <;> first | rfl | (rw [e])
  · rfl
  · rfl
theorem zce_uN {Z : zQ} {σ : zSt} {b : Nat} (h : b ≠ σ.2.2.2) : zce Z (zuN σ) b = zce Z σ b := by
  have e1 : (zuN σ).1 b = σ.1 b := by show (if b = _ then _ else _) = _; rw [if_neg h]
  have e2 : (zuN σ).2.1 b = σ.2.1 b := by show (if b = _ then _ else _) = _; rw [if_neg h]
  have e3 : (zuN σ).2.2.1 b = σ.2.2.1 b := by show (if b = _ then _ else _) = _; rw [if_neg h]
  unfold zce
  split
  · unfold zfs; congr 2; apply List.map_congr_left; intro k _; unfold zfv; rw [e1, e2, e3]
  · rw [e1]
  · rw [e2]
theorem zw_push (Z : zQ) (σ : zSt) : zw Z (zuN σ) = zw Z σ ++ [(Z.1 + σ.2.2.2, zce Z (zuN σ) σ.2.2.2)] := by
  show (List.range (σ.2.2.2 + 1)).map _ = _
  rw [List.range_succ, List.map_append]
  congr 1
  apply List.map_congr_left
  intro k hk
  rw [zce_uN (Nat.ne_of_lt (List.mem_range.mp hk))]
-- sizes
def zsl (a : Nat) : Nat := if (zkd a).1 = 0 then zNF (zkd a).2 else (zkd a).2
def zSS : Nat → Nat
  | 0 => 0
  | n + 1 => zSS n + zsl n
theorem zSS_mono {a b : Nat} (h : a ≤ b) : zSS a ≤ zSS b := by
  induction b with
  | zero => rw [Nat.le_zero.mp h]; exact Nat.le_refl _
  | succ n ih =>
    by_cases hn : a = n + 1
    · rw [hn]; exact Nat.le_refl _
    · exact Nat.le_trans (ih (by omega)) (Nat.le_add_right _ _)
-- the tables' facts, one by one
theorem zmem {α β : Type} [BEq α] [LawfulBEq α] {l : List (α × β)} {a : α} {b : β} (h : l.lookup a = some b) : (a, b) ∈ l := by
  induction l with
  | nil => cases h
  | cons q t ih =>
    obtain ⟨x, y⟩ := q
    rw [List.lookup_cons] at h
    split at h
    · rename_i he
      rw [eq_of_beq he]
      cases h
      exact List.mem_cons_self
    · exact List.mem_cons_of_mem _ (ih h)
theorem zall {P : Nat → Bool} {n : Nat} (h : (List.range n).all P = true) {k : Nat} (hk : k < n) : P k = true := List.all_eq_true.mp h k (List.mem_range.mpr hk)
theorem zgetD {α : Type} {l : List (List α)} {o n : Nat} (hl : l.length ≤ n) {x : α} (h : x ∈ l.getD o []) : o < n := by
  by_cases ho : o < l.length
  · omega
  · rw [List.getD_eq_getElem?_getD, List.getElem?_eq_none (by omega)] at h
    cases h
theorem zf_ok {o i ci k w : Nat} (h : zft o i = some (ci, k, w)) : Jvm.Cond.fieldLink (zNo o) i (zTT ci k).1 (zTT ci k).2.1 (zTT ci k).2.2.1 ∈ zBG ∧ k < zNF ci ∧ ci < 9 := by
  have hm := zmem h
  have h1 := List.all_eq_true.mp (zall zk_f (zgetD (Nat.le_of_ble_eq_true rfl) hm)) _ hm
  simp only [zfP, Bool.and_eq_true, decide_eq_true_eq] at h1
  exact ⟨List.mem_of_getElem? h1.1.1, h1.1.2, h1.2⟩
theorem zi_ok {o i w : Nat} {v : Int32} (h : zki o i = some (v, w)) : Jvm.Cond.constant (zNo o) i v ∈ zBG := by
  have hm := zmem h
  have h1 := List.all_eq_true.mp (zall zk_i (zgetD (Nat.le_of_ble_eq_true rfl) hm)) _ hm
  simp only [decide_eq_true_eq] at h1
  exact List.mem_of_getElem? h1
theorem zj_ok {o i w : Nat} {v : Int64} (h : zkl o i = some (v, w)) : Jvm.Cond.constantLong (zNo o) i v ∈ zBG := by
  have hm := zmem h
  have h1 := List.all_eq_true.mp (zall zk_j (zgetD (Nat.le_of_ble_eq_true rfl) hm)) _ hm
  simp only [decide_eq_true_eq] at h1
  exact List.mem_of_getElem? h1
theorem zl_ok {o i ci w : Nat} (h : zcl o i = some (ci, w)) : Jvm.Cond.classLink (zNo o) i (zNo ci) ∈ zBG ∧ ci < 9 := by
  have hm := zmem h
  have h1 := List.all_eq_true.mp (zall zk_l (zgetD (Nat.le_of_ble_eq_true rfl) hm)) _ hm
  simp only [zlP, Bool.and_eq_true, decide_eq_true_eq] at h1
  exact ⟨List.mem_of_getElem? h1.1, h1.2⟩
theorem zn_ok {ci : Nat} (h : ci < 9) : Jvm.Cond.instantiable (zNo ci) (zNF ci) ∈ zBG ∧ Jvm.Cond.initialized (zNo ci) ∈ zBG := by
  have h1 := zall zk_n h
  simp only [Bool.and_eq_true, decide_eq_true_eq] at h1
  exact ⟨List.mem_of_getElem? h1.1, List.mem_of_getElem? h1.2⟩
theorem zc_ok {o i m k w : Nat} (h : zct o i = some (m, k, w)) : zcP o (i, m, k, w) = true := by
  have hm := zmem h
  exact List.all_eq_true.mp (zall zk_c (zgetD (Nat.le_of_ble_eq_true rfl) hm)) _ hm
theorem zcl_at {ci : Nat} (h : ci < 9) : vwCl[ci]? = some (zNo ci, zTT ci, zNF ci) := by
  rcases (show ci = 0 ∨ ci = 1 ∨ ci = 2 ∨ ci = 3 ∨ ci = 4 ∨ ci = 5 ∨ ci = 6 ∨ ci = 7 ∨ ci = 8 by omega) with rfl | rfl | rfl | rfl | rfl | rfl | rfl | rfl | rfl <;> rfl
theorem zin {ci : Nat} (h : ci < 9) : ∀ w ∈ u_ws (zNo ci) (zTT ci) (zNF ci), w ∈ zBG := by
  rcases (show ci = 0 ∨ ci = 1 ∨ ci = 2 ∨ ci = 3 ∨ ci = 4 ∨ ci = 5 ∨ ci = 6 ∨ ci = 7 ∨ ci = 8 by omega) with rfl | rfl | rfl | rfl | rfl | rfl | rfl | rfl | rfl
  · exact inlX0
  · exact inlX1
  · exact inlX2
  · exact inlX3
  · exact inlX4
  · exact inlX5
  · exact inlX6
  · exact inlX7
  · exact inlX8
theorem zty_ok {ci : Nat} (h : ci < 9) : ∀ k, k < zNF ci → parseFieldDescriptor (zTT ci k).2.2.1 = some (zTY ci k) := by
  rcases (show ci = 0 ∨ ci = 1 ∨ ci = 2 ∨ ci = 3 ∨ ci = 4 ∨ ci = 5 ∨ ci = 6 ∨ ci = 7 ∨ ci = 8 by omega) with rfl | rfl | rfl | rfl | rfl | rfl | rfl | rfl | rfl
  · exact tyX0_ok
  · exact tyX1_ok
  · exact tyX2_ok
  · exact tyX3_ok
  · exact tyX4_ok
  · exact tyX5_ok
  · exact tyX6_ok
  · exact tyX7_ok
  · exact tyX8_ok
theorem znm_ok {ci : Nat} (h : ci < 9) : ∀ a, a < zNF ci → ∀ b, b < zNF ci → a ≠ b → (zTT ci a).2.1 ≠ (zTT ci b).2.1 := by
  rcases (show ci = 0 ∨ ci = 1 ∨ ci = 2 ∨ ci = 3 ∨ ci = 4 ∨ ci = 5 ∨ ci = 6 ∨ ci = 7 ∨ ci = 8 by omega) with rfl | rfl | rfl | rfl | rfl | rfl | rfl | rfl | rfl
  · exact nmX0
  · exact nmX1
  · exact nmX2
  · exact nmX3
  · exact nmX4
  · exact nmX5
  · exact nmX6
  · exact nmX7
  · exact nmX8
/-- a field's type is one of those that the machine keeps; a final field is its own declarer's -/
def ztyk (t : FieldType) : Bool := match t with
  | .int => true | .boolean => true | .long => true | .array _ => true | .object _ => true | _ => false
set_option maxRecDepth 100000 in
theorem zk_t : (List.range 9).all (fun ci => (List.range (zNF ci)).all (fun k => ztyk (zTY ci k) && (zTT ci k).1 == zNo ci)) = true := by decide +kernel
theorem zt_ok {ci k : Nat} (h : ci < 9) (hk : k < zNF ci) : ztyk (zTY ci k) = true ∧ (zTT ci k).1 = zNo ci := by
  have h1 := zall (zall zk_t h) hk
  simp only [Bool.and_eq_true, beq_iff_eq] at h1
  exact h1
set_option maxRecDepth 100000 in
theorem zkd_big : ∀ a, a < 31 → (zkd a).1 < 3 := by decide +kernel
theorem zkd_lt {a t n : Nat} (h : zkd a = (t, n)) (ht : t < 3) : a < 31 := by
  by_cases ha : a < 31
  · exact ha
  · have e : zkd a = (3, 0) := by
      unfold zkd
      rw [List.getD_eq_getElem?_getD, List.getElem?_eq_none (by show 31 ≤ a; omega)]
      rfl
    rw [e] at h
    cases h
    omega
end
section
theorem zlI_spec {o : Option Value} {G : Int32 → Prop} (h : zlI o G) : ∃ x, o = some (.int x) ∧ G x := by
  unfold zlI at h; split at h
  · exact ⟨_, rfl, h⟩
  · exact h.elim
theorem zlJ_spec {o : Option Value} {G : Int64 → Prop} (h : zlJ o G) : ∃ x, o = some (.long x) ∧ G x := by
  unfold zlJ at h; split at h
  · exact ⟨_, rfl, h⟩
  · exact h.elim
theorem zlR_spec {o : Option Value} {G : Nat → Prop} (h : zlR o G) : ∃ x, o = some (.ref x) ∧ G x := by
  unfold zlR at h; split at h
  · exact ⟨_, rfl, h⟩
  · exact h.elim
theorem zsI_spec {S : List Value} {G : Int32 → List Value → Prop} (h : zsI S G) : ∃ x r, S = .int x :: r ∧ G x r := by
  unfold zsI at h; split at h
  · exact ⟨_, _, rfl, h⟩
  · exact h.elim
theorem zsJ_spec {S : List Value} {G : Int64 → List Value → Prop} (h : zsJ S G) : ∃ x r, S = .long x :: r ∧ G x r := by
  unfold zsJ at h; split at h
  · exact ⟨_, _, rfl, h⟩
  · exact h.elim
theorem zsR_spec {S : List Value} {G : Nat → List Value → Prop} (h : zsR S G) : ∃ x r, S = .ref x :: r ∧ G x r := by
  unfold zsR at h; split at h
  · exact ⟨_, _, rfl, h⟩
  · exact h.elim
theorem zsII_spec {S : List Value} {G : Int32 → Int32 → List Value → Prop} (h : zsII S G) : ∃ x y r, S = .int y :: .int x :: r ∧ G x y r := by
  unfold zsII at h; split at h
  · exact ⟨_, _, _, rfl, h⟩
  · exact h.elim
theorem zsJJ_spec {S : List Value} {G : Int64 → Int64 → List Value → Prop} (h : zsJJ S G) : ∃ x y r, S = .long y :: .long x :: r ∧ G x y r := by
  unfold zsJJ at h; split at h
  · exact ⟨_, _, _, rfl, h⟩
  · exact h.elim
theorem zsA_spec {S : List Value} {G : Nat → Int32 → List Value → Prop} (h : zsA S G) : ∃ a i r, S = .int i :: .ref a :: r ∧ G a i r := by
  unfold zsA at h; split at h
  · exact ⟨_, _, _, rfl, h⟩
  · exact h.elim
theorem zsAI_spec {S : List Value} {G : Nat → Int32 → Int32 → List Value → Prop} (h : zsAI S G) : ∃ a i x r, S = .int x :: .int i :: .ref a :: r ∧ G a i x r := by
  unfold zsAI at h; split at h
  · exact ⟨_, _, _, _, rfl, h⟩
  · exact h.elim
theorem zsAJ_spec {S : List Value} {G : Nat → Int32 → Int64 → List Value → Prop} (h : zsAJ S G) : ∃ a i x r, S = .long x :: .int i :: .ref a :: r ∧ G a i x r := by
  unfold zsAJ at h; split at h
  · exact ⟨_, _, _, _, rfl, h⟩
  · exact h.elim
theorem zs1_spec {S : List Value} {G : Value → List Value → Prop} (h : zs1 S G) : ∃ v r, S = v :: r ∧ G v r := by
  unfold zs1 at h; split at h
  · exact ⟨_, _, rfl, h⟩
  · exact h.elim
theorem zs2_spec {S : List Value} {G : Value → Value → List Value → Prop} (h : zs2 S G) : ∃ v w r, S = v :: w :: r ∧ G v w r := by
  unfold zs2 at h; split at h
  · exact ⟨_, _, _, rfl, h⟩
  · exact h.elim
theorem zsP_spec {S : List Value} {G : Value → Nat → List Value → Prop} (h : zsP S G) : ∃ v a r, S = v :: .ref a :: r ∧ G v a r := by
  unfold zsP at h; split at h
  · exact ⟨_, _, _, rfl, h⟩
  · exact h.elim
theorem zcL_get {Z : zQ} {L : zLo} {ls : Array Slot} {n i : Nat} {v : Value} (hl : lv_has ls n (zcL Z L)) (h : L.lookup i = some v) : ls[i]? = some (.val (zcv Z v)) :=
  hl.2.2 (i, zcv Z v) (List.mem_map.mpr ⟨(i, v), zmem h, rfl⟩)
theorem zcL_at {Z : zQ} {L : zLo} {i : Nat} {v : Value} (h : L.lookup i = some v) : ∃ k : Nat, (zcL Z L)[k]? = some (i, zcv Z v) := by
  obtain ⟨k, hk⟩ := List.getElem?_of_mem (List.mem_map.mpr ⟨(i, v), zmem h, rfl⟩ : (i, zcv Z v) ∈ zcL Z L)
  exact ⟨k, hk⟩
theorem zcL_1 (Z : zQ) (L : zLo) (i : Nat) (v : Value) : (i, zcv Z v) :: (zcL Z L).filter (fun q => !(q.1 == i) && !(q.1 + 1 == i && q.2.category == 2)) = zcL Z (zst1 L i v) := by
  unfold zcL zst1
  rw [List.map_cons, List.filter_map]
  congr 2
  apply List.filter_congr
  intro q _
  simp only [Function.comp, zcv_cat]
theorem zcL_2 (Z : zQ) (L : zLo) (i : Nat) (v : Value) : (i, zcv Z v) :: (zcL Z L).filter (fun q => !(q.1 == i) && (!(q.1 == i + 1) && !(q.1 + 1 == i && q.2.category == 2))) = zcL Z (zst2 L i v) := by
  unfold zcL zst2
  rw [List.map_cons, List.filter_map]
  congr 2
  apply List.filter_congr
  intro q _
  simp only [Function.comp, zcv_cat]
theorem zcL_args (Z : zQ) (as : List Value) : ∀ i, lv_args i (as.map (zcv Z)) = zcL Z (lv_args i as) := by
  induction as with
  | nil => intro i; rfl
  | cons v t ih =>
    intro i
    show (i, zcv Z v) :: lv_args (if (zcv Z v).category = 2 then i + 2 else i + 1) (t.map (zcv Z)) = (i, zcv Z v) :: zcL Z (lv_args (if v.category = 2 then i + 2 else i + 1) t)
    rw [zcv_cat, ih]
theorem zcs_map (Z : zQ) (S : List Value) : ((S.map (zcv Z)).map fun v => v.category).sum = zcs S := by
  unfold zcs
  rw [List.map_map]
  congr 1
  apply List.map_congr_left
  intro v _
  exact zcv_cat Z v
theorem ztg_ok {pc : Nat} {off : Int} (h : 0 ≤ (pc : Int) + off) : (pc : Int) + off = (ztg pc off : Int) := (Int.toNat_of_nonneg h).symm
theorem zD {b : ByteArray} {pc len : Nat} {ins : Instr} (hd : decode b pc = .ok (ins, len)) (hg : zgd (pc, ins, len) = true) (hn : (match ins with | .tableswitch _ _ _ _ => false | _ => true) = true) : decode b pc = .ok (ins, zlen ins) := by
  have h : len = zlen ins := by
    unfold zgd at hg
    rw [Bool.and_eq_true] at hg
    have h1 := hg.1
    cases ins <;> first | exact eq_of_beq h1 | (simp at hn)
  rw [← h]; exact hd
def zgo (pc : Nat) (ins : Instr) : Bool := match ins with
  | .ifCond _ off => decide (0 ≤ (pc : Int) + off)
  | .if_icmp _ off => decide (0 ≤ (pc : Int) + off)
  | .goto off => decide (0 ≤ (pc : Int) + off)
  | .tableswitch d _ _ _ => decide (0 ≤ (pc : Int) + d)
  | _ => true
theorem zG {pc len : Nat} {ins : Instr} (hg : zgd (pc, ins, len) = true) : zgo pc ins = true := by
  unfold zgd at hg
  rw [Bool.and_eq_true] at hg
  cases ins <;> first | rfl | exact hg.2
/-- the heap holds the cells -/
def zWd (D : va_G) (Z : zQ) (σ : zSt) (H : Heap) : Prop := va_P D vwCl (zw Z σ) H ∧ H.size = Z.1 + σ.2.2.2 ∧ σ.2.2.2 ≤ 31
abbrev ztys (Z : zQ) : List (ClassId × FieldType) := [(Z.2.2.1, .int)]
/-- what the tables say -/
def zKK (D : va_G) (Z : zQ) (U : State) : Prop := va_K D vwCl (ztys Z) U ∧ ∀ q ∈ zNS, va_Nw (.methodLinkNest q.1 q.2.1 q.2.2.1 q.2.2.2) U
theorem zKK_same {D : va_G} {Z : zQ} {u U : State} (h : u.vm = U.vm) (k : zKK D Z u) : zKK D Z U := ⟨va_K.moved (by rw [h]; exact Vm.Alike.refl U.vm) k.1, fun q hq => va_Nw.same rfl h (k.2 q hq)⟩
theorem zKK_warm {D : va_G} {Z : zQ} {s U : State} (h : s.WarmedH U.vm) (k : zKK D Z s) : zKK D Z U := ⟨va_K.moved h.alike k.1, fun q hq => va_Nw.warmM h (k.2 q hq)⟩
section ZR
variable {p : Program} {l : Launch} {e : Env} {R : Room} {s : State} {m : MethodId} {args : Array Value} {below : List Frame} {meth : Method} {c : Code} {H : Heap} {locs : List Loc} {cells slots : Nat} {Q : State → Prop}
variable {pc : Nat} {ls : Array Slot} {rest : List Value} {D : va_G} {Z : zQ} {σ : zSt} {H0 : Heap}
/-- a field is written, final or not; the heap's size stays -/
theorem zput {cc : ByteArray} (hexec : p.tables.exec = Jvm.exec) (hb : c.code = cc) {own : String} {index ci a k : Nat} (hci : ci < 9) (hts : ∀ w ∈ zBG, w.before args s = true) (hown : s.vm.findClass own = some m.cls) (hK : va_K D vwCl (ztys Z) s) (hP : va_P D vwCl (zw Z σ) H) (hS0 : va_S (fun q => Z.1 ≤ q) H0 H locs) (ha : a < σ.2.2.2) (hz : zkd a = (0, ci)) (hk : k < zNF ci)
    (hlink : Jvm.Cond.fieldLink own index (zTT ci k).1 (zTT ci k).2.1 (zTT ci k).2.2.1 ∈ zBG) (hfin : (zTT ci k).2.2.2 = false ∨ (meth.name = "<init>" ∧ zNo ci = own)) {v : Value} (hn : narrow (zTY ci k) v = v) (hfit : fits (zTY ci k) v = true) (hdg : decode cc pc = .ok (.putfield index, 3))
    (kk : ∀ (H1 : Heap) (locs1 : List Loc), va_P D vwCl ((zw Z σ).set a (Z.1 + a, .inr (ci, (zfs Z σ a ci).set k v))) H1 → H1.size = H.size → va_S (fun q => Z.1 ≤ q) H0 H1 locs1 → W p l e R s m args below meth c H1 locs1 cells slots Q (F0 m (pc + 3) ls rest)) : W p l e R s m args below meth c H locs cells slots Q (F0 m pc ls (v :: .ref (Z.1 + a) :: rest)) := by
  have he : (zw Z σ)[a]? = some (Z.1 + a, .inr (ci, zfs Z σ a ci)) := by rw [zw_at ha]; simp only [zce, hz]
  have hc := zcl_at hci
  have hap := va_apart (own := own) hts (zin hci) (zTY ci) (zty_ok hci) (znm_ok hci) hK hc
  obtain ⟨r, h1, cell, q1, q2, q3, q4⟩ := hP a _ he
  have hr : r = (zNo ci, zTT ci, zNF ci) := Option.some.inj (h1.symm.trans hc)
  subst hr
  obtain ⟨hS, hfc, kC, hkC, hkind⟩ := hK.1 ci _ hc
  obtain ⟨cf, kf, fi, f, hi, hsl⟩ := hS k hk
  have hlay := hts _ (zin hci _ (u_in_lay hk))
  have hst := (u_facts hfc hkC (u_lays hts (zin hci) hk) hi).1
  have hl : k < (zfs Z σ a ci).length := by simp [zfs]; exact hk
  have hlk := hts _ hlink
  have fin : ∀ H' : Heap, H'[Z.1 + a]? = some (cell.setSlot f.slot v) → H'.size = H.size → (∀ q, q ≠ Z.1 + a → H'[q]? = H[q]?) → W p l e R s m args below meth c H' (locs ++ [⟨Z.1 + a, f.slot⟩]) cells slots Q (F0 m (pc + 3) ls rest) := by
    intro H' e1 e2 e3
    rw [hsl] at e1 ⊢
    exact kk H' _ (hP.set (zw_D Z σ) he ⟨_, hc, t_OB.to (V := updV (vp_V (zfs Z σ a ci)) k v) ⟨_, e1, q2, q3, t_set q4 hap hk v⟩ (fun j _ => vp_updV_set hl v j)⟩ e3) e2 (hS0.put e2 e3 (Nat.le_add_right _ _))
  rcases hfin with hfin | ⟨hin2, hdecl⟩
  · unfold u_lay at hlay
    rw [if_neg (by rw [hfin]; decide)] at hlay
    have h6 := u_store hfc hkC hkind hlay hi (zty_ok hci k hk) hn hfit
    exact W.putK hexec hb (f := f) ⟨hown, hlk, ⟨_, _, _, hi⟩, hst⟩ (by rw [q2]; exact h6) q1 q3 (by rw [hsl]; exact k2_hasslot (q4 k hk)) rfl rfl hdg fin
  · by_cases hb2 : (zTT ci k).2.2.2 = true
    · unfold u_lay at hlay
      rw [if_pos hb2] at hlay
      have hcf : m.cls = cf := by
        obtain ⟨_, _, c', _, _, _, -, -, hf', -, -, -, hown2, -⟩ := Cond.laysFinal_spec hlay
        have e1 : c' = cf := by have := hi.symm.trans hf'; simp at this; exact this.1.symm
        rw [(zt_ok hci hk).2, hdecl] at hown2
        rw [← e1]; exact Option.some.inj (hown.symm.trans hown2)
      have h6 := u_fits hfc hkC hkind (Or.inr hlay) hi (zty_ok hci k hk) hn hfit
      exact W.putFinK hexec hb hown hlk hi hst hcf hin2 (by rw [q2]; exact h6) q1 q3 (by rw [hsl]; exact k2_hasslot (q4 k hk)) rfl rfl hdg fin
    · unfold u_lay at hlay
      rw [if_neg hb2] at hlay
      have h6 := u_store hfc hkC hkind hlay hi (zty_ok hci k hk) hn hfit
      exact W.putK hexec hb (f := f) ⟨hown, hlk, ⟨_, _, _, hi⟩, hst⟩ (by rw [q2]; exact h6) q1 q3 (by rw [hsl]; exact k2_hasslot (q4 k hk)) rfl rfl hdg fin
theorem ziast {cc : ByteArray} (hexec : p.tables.exec = Jvm.exec) (hb : c.code = cc) (hK : va_K D vwCl (ztys Z) s) (hP : va_P D vwCl (zw Z σ) H) (hS0 : va_S (fun q => Z.1 ≤ q) H0 H locs) {a n : Nat} (ha : a < σ.2.2.2) (hz : zkd a = (1, n)) {i x : Int32} (hin : vp_in i n) (hdg : decode cc pc = .ok (.iastore, 1))
    (kk : ∀ (H1 : Heap) (locs1 : List Loc), va_P D vwCl ((zw Z σ).set a (Z.1 + a, .inl (Z.2.2.1, n, .inl (upd (σ.1 a) i.toNatClampNeg x)))) H1 → H1.size = H.size → va_S (fun q => Z.1 ≤ q) H0 H1 locs1 → W p l e R s m args below meth c H1 locs1 cells slots Q (F0 m (pc + 1) ls rest)) : W p l e R s m args below meth c H locs cells slots Q (F0 m pc ls (.int x :: .int i :: .ref (Z.1 + a) :: rest)) := by
  have he : (zw Z σ)[a]? = some (Z.1 + a, .inl (Z.2.2.1, n, .inl (σ.1 a))) := by rw [zw_at ha]; simp only [zce, hz]
  refine W.iast hexec hb (hP a _ he) ((hK.2 0 _ rfl).1 n (fun j => .int (σ.1 a j))) (fun q => by cases q) (by show ¬ (i < 0 ∨ (arrV _ _ _).slots.size ≤ _); rw [arrV_size]; exact hin) rfl rfl hdg fun H1 e z oq => ?_
  refine kk H1 _ (hP.set (zw_D Z σ) he ?_ oq) z (hS0.put z oq (Nat.le_add_right _ _))
  show H1[Z.1 + a]? = some (vp_cell _ _)
  rw [e, vp_cell_i, vp_cell_i, arrV_store]
  congr 2
  funext q
  by_cases hq : q = i.toNatClampNeg
  · subst hq; simp [updV, upd]
  · simp [updV, upd, hq]
end ZR
end
section
theorem zkd_240 : ∀ a, a < 31 → (zkd a).2 ≤ 240 := by decide +kernel
theorem zuN_1 (σ : zSt) : (zuN σ).1 σ.2.2.2 = fun _ => 0 := by show (if _ = _ then _ else _) = _; rw [if_pos rfl]
theorem zuN_2 (σ : zSt) : (zuN σ).2.1 σ.2.2.2 = fun _ => 0 := by show (if _ = _ then _ else _) = _; rw [if_pos rfl]
theorem zuN_3 (σ : zSt) : (zuN σ).2.2.1 σ.2.2.2 = fun _ => .null := by show (if _ = _ then _ else _) = _; rw [if_pos rfl]
section ZA
variable {p : Program} {l : Launch} {e : Env} {R : Room} {s : State} {m : MethodId} {args : Array Value} {below : List Frame} {meth : Method} {c : Code} {H : Heap} {locs : List Loc} {cells slots : Nat} {Q : State → Prop}
variable {pc : Nat} {ls : Array Slot} {rest : List Value} {D : va_G} {Z : zQ} {σ : zSt} {H0 : Heap}
theorem zsing {α : Type} {x y : α} {k : Nat} (h : [x][k]? = some y) : y = x := by
  match k, h with
  | 0, h => exact (Option.some.inj h).symm
  | k + 1, h => simp at h
theorem znew {cc : ByteArray} (hexec : p.tables.exec = Jvm.exec) (hb : c.code = cc) {own : String} {index ci : Nat} (hci : ci < 9) (hts : ∀ w ∈ zBG, w.before args s = true) (hown : s.vm.findClass own = some m.cls) (hK : va_K D vwCl (ztys Z) s) (hW : zWd D Z σ H) (hS : va_S (fun q => Z.1 ≤ q) H0 H locs)
    (hcl : Jvm.Cond.classLink own index (zNo ci) ∈ zBG) (hz : zkd σ.2.2.2 = (0, ci)) (hcells : cells + 1 ≤ R.cells) (hslots : slots + zNF ci ≤ R.slots) (hdg : decode cc pc = .ok (.new index, 3))
    (kk : ∀ H1 : Heap, zWd D Z (zuN σ) H1 → va_S (fun q => Z.1 ≤ q) H0 H1 locs → W p l e R s m args below meth c H1 locs (cells + 1) (slots + zNF ci) Q (F0 m (pc + 3) ls (.ref (Z.1 + σ.2.2.2) :: rest))) : W p l e R s m args below meth c H locs cells slots Q (F0 m pc ls rest) := by
  obtain ⟨hP, hz1, hz2⟩ := hW
  have hc := zcl_at hci
  have hKn := hK.1 ci _ hc
  refine W.newcK hexec hb hown (hts _ hcl) (hts _ (zn_ok hci).1) (hts _ (zn_ok hci).2) rfl hdg hcells hslots hKn.2.1 hz1 fun H1 kC hkC e1 z1 o1 => ?_
  have hk : ∀ (k : Nat) (x : Nat × va_E), (zw Z σ)[k]? = some x → H1[x.1]? = H[x.1]? := fun k x hx => o1 x.1 (by rw [← hz1]; exact (hP k x hx).lt)
  have hlt := zkd_lt hz (by omega)
  refine kk H1 ⟨?_, z1, hlt⟩ ⟨Nat.le_trans hS.1 (by omega), fun x h1 h2 => (o1 x (by rw [← hz1]; exact Nat.lt_of_lt_of_le h1 hS.1)).trans (hS.2.1 x h1 h2), hS.2.2⟩
  rw [zw_push]
  refine (hP.kept hk).app (fun k x hx => ?_)
  rw [zsing hx]
  have he : zce Z (zuN σ) σ.2.2.2 = .inr (ci, zfs Z (zuN σ) σ.2.2.2 ci) := by simp only [zce, hz]
  rw [he]
  refine ⟨_, hc, (u_born (zTY ci) hts (zin hci) hKn hkC e1 (zty_ok hci)).to (fun j hj => ?_)⟩
  show defaultValue (zTY ci j) = (zfs Z (zuN σ) σ.2.2.2 ci).getD j .null
  rw [List.getD_eq_getElem?_getD, zfs_at hj]
  show defaultValue (zTY ci j) = zfv Z (zuN σ) σ.2.2.2 (zTY ci j) j
  have ht := (zt_ok hci hj).1
  unfold zfv
  rw [zuN_1, zuN_2, zuN_3]
  generalize zTY ci j = t at ht ⊢
  cases t <;> first | rfl | (simp [ztyk] at ht)
theorem znewI {cc : ByteArray} (hexec : p.tables.exec = Jvm.exec) (hb : c.code = cc) (hts : ∀ w ∈ zBG, w.before args s = true) (hK : va_K D vwCl (ztys Z) s) (hW : zWd D Z σ H) (hS : va_S (fun q => Z.1 ≤ q) H0 H locs) {n : Int32} {N : Nat} (hz : zkd σ.2.2.2 = (1, N)) (hn : ¬ n < 0) (hN : n.toNatClampNeg = N) (hcells : cells + 1 ≤ R.cells) (hslots : slots + N ≤ R.slots) (hdg : decode cc pc = .ok (.newarray .int, 2))
    (kk : ∀ H1 : Heap, zWd D Z (zuN σ) H1 → va_S (fun q => Z.1 ≤ q) H0 H1 locs → W p l e R s m args below meth c H1 locs (cells + 1) (slots + N) Q (F0 m (pc + 2) ls (.ref (Z.1 + σ.2.2.2) :: rest))) : W p l e R s m args below meth c H locs cells slots Q (F0 m pc ls (.int n :: rest)) := by
  obtain ⟨hP, hz1, hz2⟩ := hW
  have hlt := zkd_lt hz (by omega)
  have h240 : N ≤ 240 := by have h := zkd_240 _ hlt; rw [hz] at h; exact h
  refine va_newaK (atype := .int) hexec hb (hts _ zk_o.2.2) rfl hdg rfl hn hN (by show N * 4 ≤ 536870912; omega) hcells hslots hz1 fun H1 cA e1 z1 o1 hAr hNm => ?_
  have hcA : cA = Z.2.2.1 := Option.some.inj (hNm.symm.trans (hK.2 0 _ rfl).2)
  subst hcA
  have hk : ∀ (k : Nat) (x : Nat × va_E), (zw Z σ)[k]? = some x → H1[x.1]? = H[x.1]? := fun k x hx => o1 x.1 (by rw [← hz1]; exact (hP k x hx).lt)
  refine kk H1 ⟨?_, z1, hlt⟩ ⟨Nat.le_trans hS.1 (by omega), fun x h1 h2 => (o1 x (by rw [← hz1]; exact Nat.lt_of_lt_of_le h1 hS.1)).trans (hS.2.1 x h1 h2), hS.2.2⟩
  rw [zw_push]
  refine (hP.kept hk).app (fun k x hx => ?_)
  rw [zsing hx]
  have he : zce Z (zuN σ) σ.2.2.2 = .inl (Z.2.2.1, N, .inl (fun _ => 0)) := by simp only [zce, hz, zuN_1]
  rw [he]
  exact e1
end ZA
end
section
theorem zk_0 (m : Nat) (h : m < 88) : ∀ e ∈ zC.getD m [], decode (zB m) e.1 = .ok (e.2.1, e.2.2) ∧ zgd e = true := by
  have t : ∀ (a : Nat), a ≤ m → m < a + 20 → m ∈ List.range' a 20 := fun a h1 h2 => List.mem_range'_1.mpr ⟨h1, h2⟩
  rcases (show m < 0 + 20 ∨ (20 ≤ m ∧ m < 20 + 20) ∨ (40 ≤ m ∧ m < 40 + 20) ∨ (60 ≤ m ∧ m < 60 + 20) ∨ (80 ≤ m ∧ m < 80 + 8) by omega) with q | q | q | q | q
  · exact zk_d0 m (t 0 (Nat.zero_le _) q)
  · exact zk_d1 m (t 20 q.1 q.2)
  · exact zk_d2 m (t 40 q.1 q.2)
  · exact zk_d3 m (t 60 q.1 q.2)
  · exact zk_d4 m (List.mem_range'_1.mpr q : m ∈ List.range' 80 8)
theorem zcode_ok {m : Nat} (h : m < 85) : .code (zY m) (zB m) (zML m) (zRT m) ∈ zBG := by
  have t : ∀ (a : Nat), a ≤ m → m < a + 20 → m ∈ List.range' a 20 := fun a h1 h2 => List.mem_range'_1.mpr ⟨h1, h2⟩
  rcases (show m < 0 + 20 ∨ (20 ≤ m ∧ m < 20 + 20) ∨ (40 ≤ m ∧ m < 40 + 20) ∨ (60 ≤ m ∧ m < 60 + 20) ∨ (80 ≤ m ∧ m < 80 + 7) by omega) with q | q | q | q | q
  · exact zk_w0 m (t 0 (Nat.zero_le _) q)
  · exact zk_w1 m (t 20 q.1 q.2)
  · exact zk_w2 m (t 40 q.1 q.2)
  · exact zk_w3 m (t 60 q.1 q.2)
  · exact zk_w4 m (List.mem_range'_1.mpr q : m ∈ List.range' 80 7)
theorem zdec_ok {mm pc len : Nat} {ins : Instr} (hm : mm < 88) (h : zcd mm pc = some (ins, len)) : decode (zB mm) pc = .ok (ins, len) ∧ zgd (pc, ins, len) = true := by
  have h1 : (pc, (ins, len)) ∈ zC.getD mm [] := zmem (show (zC.getD mm []).lookup pc = some (ins, len) from h)
  have h2 := zk_0 mm hm (pc, ins, len) h1
  exact h2
theorem zm_ok {m : Nat} (h : m < 85) : (.initialized (zY m).cls ∈ zBG ∧ (if zKi m = 0 then Jvm.Cond.static (zY m) else .instanceMethod (zY m)) ∈ zBG ∧ (zKi m = 1 → .selects (zY m).cls (zY m) (zY m) ∈ zBG)) ∧
    ((zY m).cls ≠ "java/lang/invoke/MethodHandle" ∧ (zY m).cls ≠ "java/lang/invoke/VarHandle") ∧ (parseMethodDescriptor (zY m).desc).map (fun d => d.parameters.length) = some (zNa m) ∧ Jvm.plainName (zY m).cls = true ∧ zML m ≤ 15 ∧ (zKi m = 2 → (zY m).name = "<init>" ∧ zRT m = none) ∧ (zY m).cls = zNo (zOw m) := by
  have h1 := zall zk_m h
  simp only [zmP, Bool.and_eq_true, decide_eq_true_eq, Bool.or_eq_true, bne_iff_ne, beq_iff_eq, ne_eq] at h1
  obtain ⟨⟨⟨⟨⟨⟨⟨⟨⟨h1, h2⟩, h3⟩, h4⟩, h5⟩, h6⟩, h7⟩, h8⟩, h9⟩, h10⟩ := h1
  refine ⟨⟨List.mem_of_getElem? h1, List.mem_of_getElem? h2, fun q => ?_⟩, h4, h5, h6, h7, fun q => ?_, h9⟩
  · rcases h3 with h3 | h3
    · exact absurd q h3
    · exact List.mem_of_getElem? h3
  · rcases h8 with h8 | h8
    · exact absurd q h8
    · exact h8
theorem zkd_ci : ∀ a, a < 31 → (zkd a).1 = 0 → (zkd a).2 < 9 := by decide +kernel
abbrev zrm (d mm n : Nat) : Room := { frames := d, cells := zAl mm, slots := zSS (n + zAl mm) - zSS n, locals := 34 * d }
def zws (mm : Nat) : List Jvm.Cond := .code (zY mm) (zB mm) (zML mm) (zRT mm) :: zBG
def zQc (D : va_G) (Z : zQ) (mm : Nat) (K : Option Value → zSt → Prop) (σ : zSt) : Array Value → State → Outcome → State → Prop := fun _ st oc t =>
  (∃ (r : Option Value) (σ' : zSt), oc = .returned (r.map (zcv Z)) ∧ K r σ' ∧ σ'.2.2.2 = σ.2.2.2 + zAl mm ∧ zWd D Z σ' t.heap) ∧ va_F (fun q => Z.1 ≤ q) st t
def zSx (Z : zQ) (X : Nat × (Nat → Int32)) (U : State) (H : Heap) : Prop := va_X Z.2.1 X.1 X.2 U H ∧ Z.2.1 < Z.1 ∧ Z.2.1 < H.size
def zPc (D : va_G) (Z : zQ) (X : Nat × (Nat → Int32)) (as : List Value) (σ : zSt) : Array Value → State → Prop := va_Pc (as.map (zcv Z)) (fun U => zWd D Z σ U.heap ∧ zKK D Z U ∧ zSx Z X U U.heap)
/-- what a call of a method keeps to, over the machine itself -/
def zMt (X : Nat × (Nat → Int32)) (d mm : Nat) (as : List Value) (σ : zSt) (K : Option Value → zSt → Prop) : Prop := mm < 85 ∧ ∀ (l : Launch) (D : va_G) (Z : zQ), Met l (zY mm) (zws mm) (zrm d mm σ.2.2.2) (zPc D Z X as σ) (zQc D Z mm K σ) (zAl mm) (zSS (σ.2.2.2 + zAl mm) - zSS σ.2.2.2) (fun q => Z.1 ≤ q)
theorem zws_good {mm : Nat} (h : mm < 85) : GoodIn zBG (zws mm) := fun w hw => by
  rcases List.mem_cons.mp hw with rfl | hw
  · exact zBG_good _ (zcode_ok h)
  · exact zBG_good w hw
theorem zPc_blind (D : va_G) (Z : zQ) (X : Nat × (Nat → Int32)) (as : List Value) (σ : zSt) : FrameBlind (zPc D Z X as σ) := fun a U g mk h => ⟨h.1, h.2.1, zKK_same (u := U) (U := U.calling g mk a) rfl h.2.2.1, h.2.2.2.1.moved (Vm.Alike.refl U.vm), h.2.2.2.2⟩
theorem zPc_of {D : va_G} {Z : zQ} {X : Nat × (Nat → Int32)} {as : List Value} {σ : zSt} {s : State} {H : Heap} (hK : zKK D Z s) (hW : zWd D Z σ H) (hX : zSx Z X s H) {v : List Value} (hv : v = as.map (zcv Z)) : ∀ U : State, U.heap = H → s.WarmedH U.vm → zPc D Z X as σ v.toArray U := fun U hU hWm => ⟨by rw [hv], by rw [hU]; exact hW, zKK_warm hWm hK, by rw [hU]; exact ⟨hX.1.moved hWm.alike, hX.2⟩⟩
theorem zSx_to {Z : zQ} {X : Nat × (Nat → Int32)} {s : State} {H : Heap} {locs : List Loc} (h : va_X Z.2.1 X.1 X.2 s s.heap ∧ Z.2.1 < Z.1 ∧ Z.2.1 < s.heap.size) (hS : va_S (fun q => Z.1 ≤ q) s.heap H locs) : zSx Z X s H := ⟨h.1.kept (hS.2.1 _ h.2.2 (Nat.not_le.mpr h.2.1)), h.2.1, Nat.lt_of_lt_of_le h.2.2 hS.1⟩
def zFx (D : va_G) (Z : zQ) (X : Nat × (Nat → Int32)) (mm d n0 lim : Nat) (p : Program) (R : Room) (s : State) (m : MethodId) (args : Array Value) (meth : Method) (c : Code) : Prop :=
  (p.tables.exec = Jvm.exec ∧ c.code = zB mm ∧ c.maxLocals = zML mm ∧ s.vm.findClass (zNo (zOw mm)) = some m.cls) ∧ (∀ w ∈ zBG, w.before args s = true) ∧ zKK D Z s ∧ (d + 1 ≤ R.frames ∧ 34 * (d + 1) ≤ R.locals) ∧ (zKi mm = 2 → meth.name = "<init>") ∧ (True → va_X Z.2.1 X.1 X.2 s s.heap ∧ Z.2.1 < Z.1 ∧ Z.2.1 < s.heap.size) ∧ (lim ≤ R.cells + n0 ∧ zSS lim ≤ R.slots + zSS n0) ∧ mm < 88
def zV (D : va_G) (Z : zQ) (mm n0 : Nat) (p : Program) (l : Launch) (e : Env) (R : Room) (s : State) (m : MethodId) (args : Array Value) (below : List Frame) (meth : Method) (c : Code) (Q : State → Prop) (pc : Nat) (L : zLo) (S : List Value) (σ : zSt) : Prop :=
  ∀ (H : Heap) (locs : List Loc) (ls : Array Slot) (cells slots : Nat), lv_has ls (zML mm) (zcL Z L) → zWd D Z σ H → va_S (fun q => Z.1 ≤ q) s.heap H locs → cells + n0 = σ.2.2.2 → slots + zSS n0 = zSS σ.2.2.2 → W p l e R s m args below meth c H locs cells slots Q (F0 m pc ls (S.map (zcv Z)))
section ZC
variable {p : Program} {l : Launch} {e : Env} {R : Room} {s : State} {m : MethodId} {args : Array Value} {below : List Frame} {meth : Method} {c : Code} {H : Heap} {locs : List Loc} {cells slots : Nat} {Q : State → Prop}
variable {pc : Nat} {ls : Array Slot} {rest st0 : List Value} {D : va_G} {Z : zQ} {σ : zSt} {a : Array Value} {mc ms : Nat}
theorem zfin {mm : Nat} {K : Option Value → zSt → Prop} (hr : va_Run p l e R s m args below meth c H locs cells slots mc ms (F0 m pc ls st0) rest (zQc D Z mm K σ a) (fun q => Z.1 ≤ q)) (hS : va_S (fun q => Z.1 ≤ q) s.heap H locs)
    (kk : ∀ (r : Option Value) (σ' : zSt) (H1 : Heap) (locs1 : List Loc), K r σ' → σ'.2.2.2 = σ.2.2.2 + zAl mm → zWd D Z σ' H1 → va_S (fun q => Z.1 ≤ q) s.heap H1 locs1 → W p l e R s m args below meth c H1 locs1 (cells + mc) (slots + ms) Q (F0 m (pc + 3) ls ((r.map (zcv Z)).toList ++ rest))) : W p l e R s m args below meth c H locs cells slots Q (F0 m pc ls st0) := by
  intro T hT X
  obtain ⟨v, st₀, t, T', L, h0, X', hL, e1, e2, ⟨⟨r, σ', hv, hK, hn, hW⟩, hz, hk⟩, st⟩ := hr T hT X
  cases hv
  rw [h0] at hz hk
  obtain ⟨t2, a1, b1⟩ := kk r σ' T'.heap (locs ++ L) hK hn (by rw [e1]; exact hW) ⟨Nat.le_trans hS.1 (by rw [e1]; exact hz), fun q h1 h2 => by rw [e1, hk q (Nat.lt_of_lt_of_le h1 hS.1) h2]; exact hS.2.1 q h1 h2, fun q hq => by
      rcases List.mem_append.mp hq with h | h
      · exact hS.2.2 q h
      · exact hL q h⟩ T' rfl X'
  exact ⟨t2, st t2 a1, b1⟩
theorem zstk {S : List Value} {n : Nat} : S.map (zcv Z) = ((S.take n).reverse.map (zcv Z)).reverse ++ (S.drop n).map (zcv Z) := by
  rw [← List.map_reverse, List.reverse_reverse, ← List.map_append, List.take_append_drop]
theorem zgo_on {mm n0 mk : Nat} {K : Option Value → zSt → Prop} {L : zLo} {Sr : List Value} (hS : va_S (fun q => Z.1 ≤ q) s.heap H locs) (hl : lv_has ls (zML mm) (zcL Z L)) (hc : cells + n0 = σ.2.2.2) (hs : slots + zSS n0 = zSS σ.2.2.2)
    (hr : va_Run p l e R s m args below meth c H locs cells slots (zAl mk) (zSS (σ.2.2.2 + zAl mk) - zSS σ.2.2.2) (F0 m pc ls st0) (Sr.map (zcv Z)) (zQc D Z mk K σ a) (fun q => Z.1 ≤ q))
    (kk : ∀ (r : Option Value) (σ' : zSt), K r σ' → σ'.2.2.2 = σ.2.2.2 + zAl mk → zV D Z mm n0 p l e R s m args below meth c Q (pc + 3) L (r.toList ++ Sr) σ') : W p l e R s m args below meth c H locs cells slots Q (F0 m pc ls st0) := by
  refine zfin hr hS (fun r σ' H1 locs1 hK hn hW hS1 => ?_)
  have h := kk r σ' hK hn H1 locs1 ls (cells + zAl mk) (slots + (zSS (σ.2.2.2 + zAl mk) - zSS σ.2.2.2)) hl hW hS1 (by omega) (by have := zSS_mono (Nat.le_add_right σ.2.2.2 (zAl mk)); rw [hn]; omega)
  rw [List.map_append] at h
  cases r <;> exact h
end ZC
end
section
theorem zk_math : (.static Lib.Math.max.name ∈ zBG ∧ .initialized "java/lang/Math" ∈ zBG ∧ .code Lib.Math.max.name Lib.Math.max.code 2 (some .int) ∈ zBG) ∧ .static Lib.Math.min.name ∈ zBG ∧ .code Lib.Math.min.name Lib.Math.min.code 2 (some .int) ∈ zBG :=
  ⟨⟨List.mem_of_getElem? (i := 424) (by decide +kernel), List.mem_of_getElem? (i := 425) (by decide +kernel), List.mem_of_getElem? (i := 426) (by decide +kernel)⟩, List.mem_of_getElem? (i := 428) (by decide +kernel), List.mem_of_getElem? (i := 429) (by decide +kernel)⟩
theorem zkt_spec {k t : Nat} (h : Nat.beq (zkt k) t = true) (ht : t < 3) (h3 : k ≠ 3) (h4 : k ≠ 4) (h5 : k ≠ 5) : (t = 0 ∧ (k = 0 ∨ k = 10)) ∨ (t = 1 ∧ k = 1) ∨ (t = 2 ∧ (k = 2 ∨ k = 12)) := by
  have h1 := Nat.eq_of_beq_eq_true h
  unfold zkt at h1
  split at h1 <;> omega
theorem zad_lt {Z : zQ} {a : Nat} (h : a < 31) : zad Z a = Z.1 + a := by
  unfold zad
  rw [if_neg (by unfold zsc; omega)]
section ZS
variable {p : Program} {l : Launch} {e : Env} {R : Room} {s : State} {m : MethodId} {args : Array Value} {below : List Frame} {meth : Method} {c : Code} {Q : State → Prop}
variable {D : va_G} {Z : zQ} {X : Nat × (Nat → Int32)} {mm d n0 lim : Nat} {C : Nat → List Value → zSt → (Option Value → zSt → Prop) → Prop} {K : Option Value → zSt → Prop}
theorem zcall_sound (F : zFx D Z X mm d n0 lim p R s m args meth c) (hC : ∀ mk as σ K, C mk as σ K → zMt X d mk as σ K) {t i pc : Nat} {S : List Value} {σ : zSt} {L : zLo} {ins : Instr} (ht : (t = 0 ∧ ins = .invokestatic i) ∨ (t = 1 ∧ ins = .invokevirtual i) ∨ (t = 2 ∧ ins = .invokespecial i)) (hd : decode (zB mm) pc = .ok (ins, 3))
    (h : zcall C lim t (zOw mm) i S σ (fun S' σ' => zV D Z mm n0 p l e R s m args below meth c Q (pc + 3) L S' σ')) : zV D Z mm n0 p l e R s m args below meth c Q pc L S σ := by
  obtain ⟨⟨hx, hb, hml, hown⟩, hts, hKK, ⟨hfr, hlo⟩, hini, hscr, ⟨hlc, hls⟩, hmm⟩ := F
  have ht3 : t < 3 := by rcases ht with ⟨h, _⟩ | ⟨h, _⟩ | ⟨h, _⟩ <;> omega
  unfold zcall at h
  split at h
  · rename_i mk k w hct
    split at h
    · exact h.elim
    · rename_i hkt
      have hP := zc_ok hct
      split at h
      · -- the empty constructor
        have e2 : 2 = t := Nat.eq_of_beq_eq_true hkt
        subst e2
        obtain ⟨a, r, rfl, hcs, hk⟩ := zsR_spec h
        have hi : ins = .invokespecial i := by rcases ht with ⟨h, _⟩ | ⟨h, _⟩ | ⟨_, h⟩ <;> first | exact h | omega
        subst hi
        intro H locs ls cells slots hl hW hS hc hs
        have hlk := hts _ (List.mem_of_getElem? (of_decide_eq_true (show decide (zBG[w]? = some (.methodLink (zNo (zOw mm)) i objectInit)) = true from hP)))
        exact W.objInit hx hb hown hlk (hts _ zk_o.1) (hts _ zk_o.2.1) rfl (by rw [hml]; exact hl.1) (a := zad Z a) (rest := r.map (zcv Z)) rfl hd (by omega) (by show 2 * 0 + _ + 12 ≤ _; rw [zcs_map]; omega) (hk H locs ls cells slots hl hW hS hc hs)
      · have e2 : 0 = t := Nat.eq_of_beq_eq_true hkt
        subst e2
        obtain ⟨x, y, r, rfl, ⟨hcs, hlm⟩, hk⟩ := zsII_spec h
        have hi : ins = .invokestatic i := by rcases ht with ⟨_, h⟩ | ⟨h, _⟩ | ⟨h, _⟩ <;> first | exact h | omega
        subst hi
        intro H locs ls cells slots hl hW hS hc hs
        have hlk := hts _ (List.mem_of_getElem? (of_decide_eq_true (show decide (zBG[w]? = some (.methodLink (zNo (zOw mm)) i Lib.Math.max.name)) = true from hP)))
        exact va_mmax hx hb (by rw [hml]; exact hl.1.symm) hown hlk (hts _ zk_math.1.1) (hts _ zk_math.1.2.1) (hts _ zk_math.1.2.2) (by omega) (by rw [zcs_map]; omega) (by omega) (by have := zSS_mono hlm; omega) hd (hk H locs ls cells slots hl hW hS hc hs)
      · have e2 : 0 = t := Nat.eq_of_beq_eq_true hkt
        subst e2
        obtain ⟨x, y, r, rfl, ⟨hcs, hlm⟩, hk⟩ := zsII_spec h
        have hi : ins = .invokestatic i := by rcases ht with ⟨_, h⟩ | ⟨h, _⟩ | ⟨h, _⟩ <;> first | exact h | omega
        subst hi
        intro H locs ls cells slots hl hW hS hc hs
        have hlk := hts _ (List.mem_of_getElem? (of_decide_eq_true (show decide (zBG[w]? = some (.methodLink (zNo (zOw mm)) i Lib.Math.min.name)) = true from hP)))
        exact va_mmin hx hb (by rw [hml]; exact hl.1.symm) hown hlk (hts _ zk_math.2.1) (hts _ zk_math.1.2.1) (hts _ zk_math.2.2) (by omega) (by rw [zcs_map]; omega) (by omega) (by have := zSS_mono hlm; omega) hd (hk H locs ls cells slots hl hW hS hc hs)
      · rename_i n3 n4 n5
        obtain ⟨⟨h1, h2, h3, h4⟩, h5⟩ := h
        obtain ⟨hmk, hMet⟩ := hC _ _ _ _ h5
        have hMet := hMet l D Z
        obtain ⟨⟨fi, fs, fse⟩, fcl, fds, fpl, fml, fin, fow⟩ := zm_ok hmk
        have hP2 : ((if k < 10 then decide (zBG[w]? = some (.methodLink (zNo (zOw mm)) i (zY mk))) else decide (zNS[w]? = some (zNo (zOw mm), i, zY mk, RX8))) && decide (zKi mk = k % 10) && decide (mk < 85)) = true := by
          unfold zcP at hP
          split at hP
          · rename_i q; exact absurd q n3
          · rename_i q; exact absurd q n4
          · rename_i q; exact absurd q n5
          · exact hP
        rw [Bool.and_eq_true, Bool.and_eq_true] at hP2
        obtain ⟨⟨hP3, hP4⟩, -⟩ := hP2
        have hKi := of_decide_eq_true hP4
        have hG := zws_good hmk
        have hR : (zrm d mk σ.2.2.2).frames + 1 ≤ R.frames ∧ 8 + (zML mk + 11) + (zrm d mk σ.2.2.2).locals ≤ R.locals := ⟨hfr, by show 8 + (zML mk + 11) + 34 * d ≤ R.locals; omega⟩
        have hd3 : (zY mk).cls ≠ "java/lang/invoke/MethodHandle" ∧ (zY mk).cls ≠ "java/lang/invoke/VarHandle" ∧ (parseMethodDescriptor (zY mk).desc).map (fun d => d.parameters.length) = some (zNa mk) := ⟨fcl.1, fcl.2, fds⟩
        have hn : (S.take (zna mk (k % 10))).length = zna mk (k % 10) := by rw [List.length_take]; omega
        intro H locs ls cells slots hl hW hS hc hs
        have hsz : cells + zAl mk ≤ R.cells ∧ slots + (zSS (σ.2.2.2 + zAl mk) - zSS σ.2.2.2) ≤ R.slots := ⟨by omega, by have := zSS_mono h4; have := zSS_mono (Nat.le_add_right σ.2.2.2 (zAl mk)); omega⟩
        have hfix : CallFix p m c (zB mm) (zML mm) s args zBG (zNo (zOw mm)) := ⟨hx, hb, hml, hown, hts⟩
        have hrm : 2 * (F0 m pc ls (S.map (zcv Z))).monitorRoom + (((S.drop (zna mk (k % 10))).map (zcv Z)).map fun v => v.category).sum ≤ 8 := lv_room (by rw [zcs_map]; exact h1)
        rcases zkt_spec hkt ht3 n3 n4 n5 with ⟨rfl, rfl | rfl⟩ | ⟨rfl, rfl⟩ | ⟨rfl, rfl | rfl⟩
        · have hi : ins = .invokestatic i := by rcases ht with ⟨_, h⟩ | ⟨h, _⟩ | ⟨h, _⟩ <;> first | exact h | omega
          subst hi
          have hlk := List.mem_of_getElem? (of_decide_eq_true hP3)
          rw [if_pos hKi] at fs
          have hT : GoodIn zBG (va_wsS (zNo (zOw mm)) i (zY mk) (zws mk)) := fun w hw => by
            rcases List.mem_append.mp hw with q | q
            · simp only [List.mem_cons, List.not_mem_nil, or_false] at q
              rcases q with rfl | rfl | rfl
              · exact zBG_good _ hlk
              · exact zBG_good _ fs
              · exact zBG_good _ fi
            · exact hG w q
          exact zgo_on hS hl hc hs (va_runS (As := (S.take (zNa mk)).reverse.map (zcv Z)) (rest := (S.drop (zNa mk)).map (zcv Z)) hfix hMet (va_cwS (zNa mk) hts hT rfl rfl rfl hd3 hR) ⟨zPc_blind D Z _ _ σ, zPc_of hKK hW (zSx_to (hscr trivial) hS) rfl⟩ rfl (by rw [List.length_map, List.length_reverse]; exact hn) hl.1 zstk hrm hd hsz) (fun r σ' hk hn => hk hn)
        · have hi : ins = .invokestatic i := by rcases ht with ⟨_, h⟩ | ⟨h, _⟩ | ⟨h, _⟩ <;> first | exact h | omega
          subst hi
          have hlk := hKK.2 _ (List.mem_of_getElem? (of_decide_eq_true hP3))
          rw [if_pos hKi] at fs
          exact zgo_on hS hl hc hs (va_runSN (As := (S.take (zNa mk)).reverse.map (zcv Z)) (rest := (S.drop (zNa mk)).map (zcv Z)) hfix hMet ⟨va_cnB (zNa mk) hts hG rfl rfl rfl hlk (hts _ fi) hd3 hR, hts _ fs, trivial⟩ ⟨zPc_blind D Z _ _ σ, zPc_of hKK hW (zSx_to (hscr trivial) hS) rfl⟩ rfl (by rw [List.length_map, List.length_reverse]; exact hn) hl.1 zstk hrm hd hsz) (fun r σ' hk hn => hk hn)
        · have hi : ins = .invokevirtual i := by rcases ht with ⟨h, _⟩ | ⟨_, h⟩ | ⟨h, _⟩ <;> first | exact h | omega
          subst hi
          have hlk := List.mem_of_getElem? (of_decide_eq_true hP3)
          rw [if_neg (by rw [hKi]; decide)] at fs
          have fse := fse hKi
          generalize hes : (S.take (zna mk (1 % 10))).reverse = as at h3 h5 hMet
          match as, h3 with
          | .ref b :: u, h3 =>
            obtain ⟨hbn, hbk⟩ := h3
            have hb52 : b < 31 := zkd_lt hbk (by omega)
            have hci : zOw mk < 9 := by have := zkd_ci b hb52 (by rw [hbk]); rw [hbk] at this; exact this
            have hlen : (u.map (zcv Z)).length = zNa mk := by
              have h9 := congrArg List.length hes
              rw [List.length_reverse, hn] at h9
              rw [List.length_map]
              have : zna mk (1 % 10) = zNa mk + 1 := rfl
              rw [this, List.length_cons] at h9
              omega
            have hstk : S.map (zcv Z) = (u.map (zcv Z)).reverse ++ .ref (Z.1 + b) :: (S.drop (zna mk (1 % 10))).map (zcv Z) := by
              rw [zstk (n := zna mk (1 % 10)), hes, List.map_cons, List.reverse_cons, List.append_assoc]
              show _ ++ (Value.ref (zad Z b) :: _) = _
              rw [zad_lt hb52]
              rfl
            have hT : GoodIn zBG (wsV (zNo (zOw mm)) i (zY mk).cls (zY mk) (zws mk)) := fun w hw => by
              rcases List.mem_append.mp hw with q | q
              · simp only [List.mem_cons, List.not_mem_nil, or_false] at q
                rcases q with rfl | rfl | rfl | rfl
                · exact zBG_good _ hlk
                · exact zBG_good _ fs
                · exact zBG_good _ fse
                · exact zBG_good _ fi
              · exact hG w q
            have he : (zw Z σ)[b]? = some (Z.1 + b, .inr (zOw mk, zfs Z σ b (zOw mk))) := by rw [zw_at hbn]; simp only [zce, hbk]
            have hrc := va_recv hKK.1 hW.1 (zcl_at hci) he
            exact zgo_on hS hl hc hs (va_runV (b := Z.1 + b) (As := u.map (zcv Z)) (rest := (S.drop (zna mk (1 % 10))).map (zcv Z)) hfix hMet (cwV (C := (zY mk).cls) (zNa mk) hts hT rfl rfl rfl ⟨rfl, fcl.1, fcl.2, fds⟩ hR) ⟨zPc_blind D Z _ _ σ, by rw [fow]; exact hrc, zPc_of hKK hW (zSx_to (hscr trivial) hS) (by rw [List.map_cons]; show _ = Value.ref (zad Z b) :: _; rw [zad_lt hb52])⟩ rfl hlen hl.1 hstk hrm hd hsz) (fun r σ' hk hn => hk hn)
        · have hi : ins = .invokespecial i := by rcases ht with ⟨h, _⟩ | ⟨h, _⟩ | ⟨_, h⟩ <;> first | exact h | omega
          subst hi
          have hlk := hts _ (List.mem_of_getElem? (of_decide_eq_true hP3))
          rw [if_neg (by rw [hKi]; decide)] at fs
          obtain ⟨fnm, frt⟩ := fin hKi
          generalize hes : (S.take (zna mk (2 % 10))).reverse = as at h3 h5 hMet
          match as, h3 with
          | .ref b :: u, h3 =>
            have hlen : (u.map (zcv Z)).length = zNa mk := by
              have h9 := congrArg List.length hes
              rw [List.length_reverse, hn] at h9
              rw [List.length_map]
              have : zna mk (2 % 10) = zNa mk + 1 := rfl
              rw [this, List.length_cons] at h9
              omega
            have hstk : S.map (zcv Z) = (u.map (zcv Z)).reverse ++ .ref (zad Z b) :: (S.drop (zna mk (2 % 10))).map (zcv Z) := by
              rw [zstk (n := zna mk (2 % 10)), hes, List.map_cons, List.reverse_cons, List.append_assoc]
              rfl
            exact zgo_on hS hl hc hs (va_runI (b := zad Z b) (As := u.map (zcv Z)) (rest := (S.drop (zna mk (2 % 10))).map (zcv Z)) hfix hMet (cwI (bytes := zB mk) (maxL := zML mk) (zNa mk) hts hG (by unfold zws; rw [frt]) rfl rfl (hts _ fi) hlk (hts _ fs) fnm hd3 hR) ⟨zPc_blind D Z _ _ σ, zPc_of hKK hW (zSx_to (hscr trivial) hS) rfl⟩ rfl hlen hl.1 hstk hrm hd hsz) (fun r σ' hk hn => hk hn)
        · have hi : ins = .invokespecial i := by rcases ht with ⟨h, _⟩ | ⟨h, _⟩ | ⟨_, h⟩ <;> first | exact h | omega
          subst hi
          have hlk := hKK.2 _ (List.mem_of_getElem? (of_decide_eq_true hP3))
          rw [if_neg (by rw [hKi]; decide)] at fs
          obtain ⟨fnm, frt⟩ := fin hKi
          generalize hes : (S.take (zna mk (12 % 10))).reverse = as at h3 h5 hMet
          match as, h3 with
          | .ref b :: u, h3 =>
            have hlen : (u.map (zcv Z)).length = zNa mk := by
              have h9 := congrArg List.length hes
              rw [List.length_reverse, hn] at h9
              rw [List.length_map]
              have : zna mk (12 % 10) = zNa mk + 1 := rfl
              rw [this, List.length_cons] at h9
              omega
            have hstk : S.map (zcv Z) = (u.map (zcv Z)).reverse ++ .ref (zad Z b) :: (S.drop (zna mk (12 % 10))).map (zcv Z) := by
              rw [zstk (n := zna mk (12 % 10)), hes, List.map_cons, List.reverse_cons, List.append_assoc]
              rfl
            exact zgo_on hS hl hc hs (va_runIN (b := zad Z b) (As := u.map (zcv Z)) (rest := (S.drop (zna mk (12 % 10))).map (zcv Z)) hfix hMet ⟨va_cnB (bytes := zB mk) (maxL := zML mk) (ret := none) (zNa mk) hts hG (by unfold zws; rw [frt]) rfl rfl hlk (hts _ fi) hd3 hR, fnm, hts _ fs⟩ ⟨zPc_blind D Z _ _ σ, zPc_of hKK hW (zSx_to (hscr trivial) hS) rfl⟩ rfl hlen hl.1 hstk hrm hd hsz) (fun r σ' hk hn => hk hn)
  · exact h.elim
end ZS
end
section
section ZT
variable {p : Program} {l : Launch} {e : Env} {R : Room} {s : State} {m : MethodId} {args : Array Value} {below : List Frame} {meth : Method} {c : Code} {Q : State → Prop}
variable {D : va_G} {Z : zQ} {X : Nat × (Nat → Int32)} {mm d n0 lim : Nat} {C : Nat → List Value → zSt → (Option Value → zSt → Prop) → Prop} {K : Option Value → zSt → Prop}
theorem zobj {σ : zSt} {a ci : Nat} (ha : a < σ.2.2.2) (hz : zkd a = (0, ci)) : (zw Z σ)[a]? = some (Z.1 + a, .inr (ci, zfs Z σ a ci)) := by rw [zw_at ha]; simp only [zce, hz]
theorem zpair {a t : Nat} (h : (zkd a).1 = t) : zkd a = (t, (zkd a).2) := by rw [← h]
set_option maxHeartbeats 4000000 in
theorem zstep (F : zFx D Z X mm d n0 lim p R s m args meth c) (hC : ∀ mk as σ K, C mk as σ K → zMt X d mk as σ K)
    (hri : ∀ (x : Int32) (σ : zSt) (pc : Nat) (H : Heap) (locs : List Loc) (ls : Array Slot) (cells slots : Nat), zret mm (.int x) → σ.2.2.2 = lim → K (some (.int x)) σ → decode (zB mm) pc = .ok (.ireturn, 1) → zWd D Z σ H → va_S (fun q => Z.1 ≤ q) s.heap H locs → cells + n0 = σ.2.2.2 → slots + zSS n0 = zSS σ.2.2.2 → W p l e R s m args below meth c H locs cells slots Q (F0 m pc ls [.int x]))
    (hrl : ∀ (x : Int64) (σ : zSt) (pc : Nat) (H : Heap) (locs : List Loc) (ls : Array Slot) (cells slots : Nat), zret mm (.long x) → σ.2.2.2 = lim → K (some (.long x)) σ → decode (zB mm) pc = .ok (.lreturn, 1) → zWd D Z σ H → va_S (fun q => Z.1 ≤ q) s.heap H locs → cells + n0 = σ.2.2.2 → slots + zSS n0 = zSS σ.2.2.2 → W p l e R s m args below meth c H locs cells slots Q (F0 m pc ls [.long x]))
    (hrv : ∀ (σ : zSt) (pc : Nat) (H : Heap) (locs : List Loc) (ls : Array Slot) (cells slots : Nat), zRT mm = none → σ.2.2.2 = lim → K none σ → decode (zB mm) pc = .ok (.return_, 1) → zWd D Z σ H → va_S (fun q => Z.1 ≤ q) s.heap H locs → cells + n0 = σ.2.2.2 → slots + zSS n0 = zSS σ.2.2.2 → W p l e R s m args below meth c H locs cells slots Q (F0 m pc ls []))
    {ins : Instr} {len pc : Nat} {L : zLo} {S : List Value} {σ : zSt} (hcd : zcd mm pc = some (ins, len)) (h : zSI C X mm lim (zV D Z mm n0 p l e R s m args below meth c Q) K ins pc L S σ) : zV D Z mm n0 p l e R s m args below meth c Q pc L S σ := by
  have F0' := F
  obtain ⟨⟨hx, hb, hml, hown⟩, hts, hKK, ⟨hfr, hlo⟩, hini, hscr, ⟨hlc, hls⟩, hmm⟩ := F
  obtain ⟨hd0, hg⟩ := zdec_ok hmm hcd
  have hz := zG hg
  cases ins with
  | aload_n n =>
    obtain ⟨a, h1, k⟩ := zlR_spec h
    intro H locs ls cells slots hl hW hS hc hs
    exact lv_aload_n hx hb (zD hd0 hg rfl) rfl (zcL_get hl h1) (k H locs ls cells slots hl hW hS hc hs)
  | iload_n n =>
    obtain ⟨a, h1, k⟩ := zlI_spec h
    intro H locs ls cells slots hl hW hS hc hs
    exact lv_iload_n hx hb (zD hd0 hg rfl) rfl (zcL_get hl h1) (k H locs ls cells slots hl hW hS hc hs)
  | lload_n n =>
    obtain ⟨a, h1, k⟩ := zlJ_spec h
    intro H locs ls cells slots hl hW hS hc hs
    exact lv_lload_n hx hb (zD hd0 hg rfl) rfl (zcL_get hl h1) (k H locs ls cells slots hl hW hS hc hs)
  | iload n =>
    obtain ⟨a, h1, k⟩ := zlI_spec h
    intro H locs ls cells slots hl hW hS hc hs
    exact lv_iload hx hb (zD hd0 hg rfl) (zcL_get hl h1) (k H locs ls cells slots hl hW hS hc hs)
  | lload n =>
    obtain ⟨a, h1, k⟩ := zlJ_spec h
    intro H locs ls cells slots hl hW hS hc hs
    exact lv_lload hx hb (zD hd0 hg rfl) (zcL_get hl h1) (k H locs ls cells slots hl hW hS hc hs)
  | istore_n n =>
    obtain ⟨x, r, rfl, hn, k⟩ := zsI_spec h
    intro H locs ls cells slots hl hW hS hc hs
    exact lv_istore_n hx hb (zD hd0 hg rfl) rfl hl hn (zcL_1 Z L n (.int x)) (fun ls' hl' => k H locs ls' cells slots hl' hW hS hc hs)
  | istore n =>
    obtain ⟨x, r, rfl, hn, k⟩ := zsI_spec h
    intro H locs ls cells slots hl hW hS hc hs
    exact lv_istore hx hb (zD hd0 hg rfl) hl hn (zcL_1 Z L n (.int x)) (fun ls' hl' => k H locs ls' cells slots hl' hW hS hc hs)
  | lstore_n n =>
    obtain ⟨x, r, rfl, hn, k⟩ := zsJ_spec h
    intro H locs ls cells slots hl hW hS hc hs
    exact lv_lstore_n hx hb (zD hd0 hg rfl) rfl hl hn (zcL_2 Z L n (.long x)) (fun ls' hl' => k H locs ls' cells slots hl' hW hS hc hs)
  | lstore n =>
    obtain ⟨x, r, rfl, hn, k⟩ := zsJ_spec h
    intro H locs ls cells slots hl hW hS hc hs
    exact lv_lstore hx hb (zD hd0 hg rfl) hl hn (zcL_2 Z L n (.long x)) (fun ls' hl' => k H locs ls' cells slots hl' hW hS hc hs)
  | astore_n n =>
    obtain ⟨x, r, rfl, hn, k⟩ := zsR_spec h
    intro H locs ls cells slots hl hW hS hc hs
    exact lv_astore_n hx hb (zD hd0 hg rfl) rfl hl hn (zcL_1 Z L n (.ref x)) (fun ls' hl' => k H locs ls' cells slots hl' hW hS hc hs)
  | iinc n q =>
    obtain ⟨hn, h⟩ := h
    obtain ⟨a, h1, k⟩ := zlI_spec h
    intro H locs ls cells slots hl hW hS hc hs
    obtain ⟨j, hj⟩ := zcL_at (Z := Z) h1
    exact lv_iinc hx hb (zD hd0 hg rfl) hl hj rfl hn (zcL_1 Z L n (.int (a + Int32.ofInt q))) (fun ls' hl' => k H locs ls' cells slots hl' hW hS hc hs)
  | iconst n =>
    intro H locs ls cells slots hl hW hS hc hs
    exact lv_iconst hx hb (zD hd0 hg rfl) rfl (h H locs ls cells slots hl hW hS hc hs)
  | bipush n =>
    intro H locs ls cells slots hl hW hS hc hs
    exact lv_bipush hx hb (zD hd0 hg rfl) rfl (h H locs ls cells slots hl hW hS hc hs)
  | sipush n =>
    intro H locs ls cells slots hl hW hS hc hs
    exact lv_sipush hx hb (zD hd0 hg rfl) rfl (h H locs ls cells slots hl hW hS hc hs)
  | lconst n =>
    intro H locs ls cells slots hl hW hS hc hs
    exact lv_lconst hx hb (zD hd0 hg rfl) rfl (h H locs ls cells slots hl hW hS hc hs)
  | ldc i =>
    intro H locs ls cells slots hl hW hS hc hs
    unfold zSI at h
    dsimp only at h
    split at h
    · rename_i v w hv
      exact lv_ldc hx hb hown (hts _ (zi_ok hv)) (zD hd0 hg rfl) (h H locs ls cells slots hl hW hS hc hs)
    · exact h.elim
  | ldc_w i =>
    intro H locs ls cells slots hl hW hS hc hs
    unfold zSI at h
    dsimp only at h
    split at h
    · rename_i v w hv
      exact lv_ldcw hx hb hown (hts _ (zi_ok hv)) (zD hd0 hg rfl) (h H locs ls cells slots hl hW hS hc hs)
    · exact h.elim
  | ldc2_w i =>
    intro H locs ls cells slots hl hW hS hc hs
    unfold zSI at h
    dsimp only at h
    split at h
    · rename_i v w hv
      exact lv_ldc2 hx hb hown (hts _ (zj_ok hv)) (zD hd0 hg rfl) (h H locs ls cells slots hl hW hS hc hs)
    · exact h.elim
  | iadd =>
    obtain ⟨x, y, r, rfl, k⟩ := zsII_spec h
    intro H locs ls cells slots hl hW hS hc hs
    exact lv_iadd hx hb (zD hd0 hg rfl) (k H locs ls cells slots hl hW hS hc hs)
  | isub =>
    obtain ⟨x, y, r, rfl, k⟩ := zsII_spec h
    intro H locs ls cells slots hl hW hS hc hs
    exact lv_isub hx hb (zD hd0 hg rfl) (k H locs ls cells slots hl hW hS hc hs)
  | imul =>
    obtain ⟨x, y, r, rfl, k⟩ := zsII_spec h
    intro H locs ls cells slots hl hW hS hc hs
    exact lv_imul hx hb (zD hd0 hg rfl) (k H locs ls cells slots hl hW hS hc hs)
  | iand =>
    obtain ⟨x, y, r, rfl, k⟩ := zsII_spec h
    intro H locs ls cells slots hl hW hS hc hs
    exact lv_iand hx hb (zD hd0 hg rfl) (k H locs ls cells slots hl hW hS hc hs)
  | ior =>
    obtain ⟨x, y, r, rfl, k⟩ := zsII_spec h
    intro H locs ls cells slots hl hW hS hc hs
    exact lv_ior hx hb (zD hd0 hg rfl) (k H locs ls cells slots hl hW hS hc hs)
  | ixor =>
    obtain ⟨x, y, r, rfl, k⟩ := zsII_spec h
    intro H locs ls cells slots hl hW hS hc hs
    exact lv_ixor hx hb (zD hd0 hg rfl) (k H locs ls cells slots hl hW hS hc hs)
  | ishl =>
    obtain ⟨x, y, r, rfl, k⟩ := zsII_spec h
    intro H locs ls cells slots hl hW hS hc hs
    exact lv_ishl hx hb (zD hd0 hg rfl) (k H locs ls cells slots hl hW hS hc hs)
  | ishr =>
    obtain ⟨x, y, r, rfl, k⟩ := zsII_spec h
    intro H locs ls cells slots hl hW hS hc hs
    exact lv_ishr hx hb (zD hd0 hg rfl) (k H locs ls cells slots hl hW hS hc hs)
  | iushr =>
    obtain ⟨x, y, r, rfl, k⟩ := zsII_spec h
    intro H locs ls cells slots hl hW hS hc hs
    exact lv_iushr hx hb (zD hd0 hg rfl) rfl (k H locs ls cells slots hl hW hS hc hs)
  | idiv =>
    obtain ⟨x, y, r, rfl, hy, k⟩ := zsII_spec h
    intro H locs ls cells slots hl hW hS hc hs
    exact lv_idiv hx hb (zD hd0 hg rfl) hy (k H locs ls cells slots hl hW hS hc hs)
  | irem =>
    obtain ⟨x, y, r, rfl, hy, k⟩ := zsII_spec h
    intro H locs ls cells slots hl hW hS hc hs
    exact lv_irem hx hb (zD hd0 hg rfl) hy (k H locs ls cells slots hl hW hS hc hs)
  | ineg =>
    obtain ⟨x, r, rfl, k⟩ := zsI_spec h
    intro H locs ls cells slots hl hW hS hc hs
    exact lv_ineg hx hb (zD hd0 hg rfl) (k H locs ls cells slots hl hW hS hc hs)
  | i2l =>
    obtain ⟨x, r, rfl, k⟩ := zsI_spec h
    intro H locs ls cells slots hl hW hS hc hs
    exact lv_i2l hx hb (zD hd0 hg rfl) rfl (k H locs ls cells slots hl hW hS hc hs)
  | i2b =>
    obtain ⟨x, r, rfl, k⟩ := zsI_spec h
    intro H locs ls cells slots hl hW hS hc hs
    exact lv_i2b hx hb (zD hd0 hg rfl) rfl (k H locs ls cells slots hl hW hS hc hs)
  | i2s =>
    obtain ⟨x, r, rfl, k⟩ := zsI_spec h
    intro H locs ls cells slots hl hW hS hc hs
    exact lv_i2s hx hb (zD hd0 hg rfl) rfl (k H locs ls cells slots hl hW hS hc hs)
  | l2i =>
    obtain ⟨x, r, rfl, k⟩ := zsJ_spec h
    intro H locs ls cells slots hl hW hS hc hs
    exact lv_l2i hx hb (zD hd0 hg rfl) rfl (k H locs ls cells slots hl hW hS hc hs)
  | ladd =>
    obtain ⟨x, y, r, rfl, k⟩ := zsJJ_spec h
    intro H locs ls cells slots hl hW hS hc hs
    exact lv_ladd hx hb (zD hd0 hg rfl) (k H locs ls cells slots hl hW hS hc hs)
  | lsub =>
    obtain ⟨x, y, r, rfl, k⟩ := zsJJ_spec h
    intro H locs ls cells slots hl hW hS hc hs
    exact lv_lsub hx hb (zD hd0 hg rfl) (k H locs ls cells slots hl hW hS hc hs)
  | lmul =>
    obtain ⟨x, y, r, rfl, k⟩ := zsJJ_spec h
    intro H locs ls cells slots hl hW hS hc hs
    exact lv_lmul hx hb (zD hd0 hg rfl) (k H locs ls cells slots hl hW hS hc hs)
  | ldiv =>
    obtain ⟨x, y, r, rfl, hy, k⟩ := zsJJ_spec h
    intro H locs ls cells slots hl hW hS hc hs
    exact lv_ldiv hx hb (zD hd0 hg rfl) hy (k H locs ls cells slots hl hW hS hc hs)
  | lneg =>
    obtain ⟨x, r, rfl, k⟩ := zsJ_spec h
    intro H locs ls cells slots hl hW hS hc hs
    exact lv_lneg hx hb (zD hd0 hg rfl) (k H locs ls cells slots hl hW hS hc hs)
  | lcmp =>
    obtain ⟨x, y, r, rfl, k⟩ := zsJJ_spec h
    intro H locs ls cells slots hl hW hS hc hs
    exact W.lcmp hx hb (zD hd0 hg rfl) (k H locs ls cells slots hl hW hS hc hs)
  | dup =>
    obtain ⟨v, r, rfl, hv, k⟩ := zs1_spec h
    intro H locs ls cells slots hl hW hS hc hs
    exact lv_dup hx hb (zD hd0 hg rfl) (by rw [zcv_cat]; exact hv) (k H locs ls cells slots hl hW hS hc hs)
  | dup2 =>
    obtain ⟨v, w, r, rfl, ⟨hv, hw⟩, k⟩ := zs2_spec h
    intro H locs ls cells slots hl hW hS hc hs
    exact lv_dup2_11 hx hb (zD hd0 hg rfl) (by rw [zcv_cat]; exact hv) (by rw [zcv_cat]; exact hw) (k H locs ls cells slots hl hW hS hc hs)
  | pop =>
    obtain ⟨v, r, rfl, hv, k⟩ := zs1_spec h
    intro H locs ls cells slots hl hW hS hc hs
    exact lv_pop hx hb (zD hd0 hg rfl) (by rw [zcv_cat]; exact hv) (k H locs ls cells slots hl hW hS hc hs)
  | ifCond cn off =>
    obtain ⟨x, r, rfl, k1, k2⟩ := zsI_spec h
    intro H locs ls cells slots hl hW hS hc hs
    have ht := ztg_ok (of_decide_eq_true hz)
    cases cn
    · exact lv_if_eq hx hb (zD hd0 hg rfl) ht (fun q => k1 q H locs ls cells slots hl hW hS hc hs) (fun q => k2 q H locs ls cells slots hl hW hS hc hs)
    · exact lv_if_ne hx hb (zD hd0 hg rfl) ht (fun q => k1 q H locs ls cells slots hl hW hS hc hs) (fun q => k2 (fun z => z q) H locs ls cells slots hl hW hS hc hs)
    · exact lv_if_lt hx hb (zD hd0 hg rfl) ht (fun q => k1 q H locs ls cells slots hl hW hS hc hs) (fun q => k2 q H locs ls cells slots hl hW hS hc hs)
    · exact lv_if_ge hx hb (zD hd0 hg rfl) ht (fun q => k1 q H locs ls cells slots hl hW hS hc hs) (fun q => k2 q H locs ls cells slots hl hW hS hc hs)
    · exact lv_if_gt hx hb (zD hd0 hg rfl) ht (fun q => k1 q H locs ls cells slots hl hW hS hc hs) (fun q => k2 q H locs ls cells slots hl hW hS hc hs)
    · exact lv_if_le hx hb (zD hd0 hg rfl) ht (fun q => k1 q H locs ls cells slots hl hW hS hc hs) (fun q => k2 q H locs ls cells slots hl hW hS hc hs)
  | if_icmp cn off =>
    obtain ⟨x, y, r, rfl, k1, k2⟩ := zsII_spec h
    intro H locs ls cells slots hl hW hS hc hs
    have ht := ztg_ok (of_decide_eq_true hz)
    cases cn
    · exact lv_icmp_eq hx hb (zD hd0 hg rfl) ht (fun q => k1 q H locs ls cells slots hl hW hS hc hs) (fun q => k2 q H locs ls cells slots hl hW hS hc hs)
    · exact lv_icmp_ne hx hb (zD hd0 hg rfl) ht (fun q => k1 q H locs ls cells slots hl hW hS hc hs) (fun q => k2 (fun z => z q) H locs ls cells slots hl hW hS hc hs)
    · exact lv_icmp_lt hx hb (zD hd0 hg rfl) ht (fun q => k1 q H locs ls cells slots hl hW hS hc hs) (fun q => k2 q H locs ls cells slots hl hW hS hc hs)
    · exact lv_icmp_ge hx hb (zD hd0 hg rfl) ht (fun q => k1 q H locs ls cells slots hl hW hS hc hs) (fun q => k2 q H locs ls cells slots hl hW hS hc hs)
    · exact lv_icmp_gt hx hb (zD hd0 hg rfl) ht (fun q => k1 q H locs ls cells slots hl hW hS hc hs) (fun q => k2 q H locs ls cells slots hl hW hS hc hs)
    · exact lv_icmp_le hx hb (zD hd0 hg rfl) ht (fun q => k1 q H locs ls cells slots hl hW hS hc hs) (fun q => k2 q H locs ls cells slots hl hW hS hc hs)
  | ifnull off =>
    obtain ⟨a, r, rfl, k⟩ := zsR_spec h
    intro H locs ls cells slots hl hW hS hc hs
    exact lv_ifnull hx hb (zD hd0 hg rfl) (k H locs ls cells slots hl hW hS hc hs)
  | goto off =>
    intro H locs ls cells slots hl hW hS hc hs
    exact lv_goto hx hb (zD hd0 hg rfl) (ztg_ok (of_decide_eq_true hz)) (h H locs ls cells slots hl hW hS hc hs)
  | tableswitch df lo hi offs =>
    obtain ⟨x, r, rfl, k1, k2⟩ := zsI_spec h
    intro H locs ls cells slots hl hW hS hc hs
    by_cases q : x.toInt < lo ∨ hi < x.toInt
    · exact lv_tableOut hx hb hd0 q (ztg_ok (of_decide_eq_true hz)) (k1 q H locs ls cells slots hl hW hS hc hs)
    · have q1 : ¬ x.toInt < lo := fun z => q (Or.inl z)
      have q2 : ¬ hi < x.toInt := fun z => q (Or.inr z)
      obtain ⟨off, h1, h2, k⟩ := k2 ⟨q1, q2⟩
      exact lv_tableIn hx hb hd0 q1 q2 h1 (ztg_ok h2) (k H locs ls cells slots hl hW hS hc hs)
  | getfield i =>
    obtain ⟨a, r, rfl, h2⟩ := zsR_spec h
    clear h
    have h := h2
    clear h2
    intro H locs ls cells slots hl hW hS hc hs
    split at h
    · rename_i ci k w hft
      obtain ⟨⟨ha, hk⟩, h⟩ := h
      obtain ⟨f1, f2, f3⟩ := zf_ok hft
      have ha52 := zkd_lt hk (by omega)
      show W p l e R s m args below meth c H locs cells slots Q (F0 m pc ls (.ref (zad Z a) :: r.map (zcv Z)))
      rw [zad_lt ha52]
      refine va_get hx hb hts (zin f3) hown hKK.1 hW.1 a (zobj ha hk) (zcl_at f3) k f2 (hts _ f1) (fun _ h => h) (zfs_at f2) (zD hd0 hg rfl) ?_
      have ht := (zt_ok f3 f2).1
      unfold zgF at h
      unfold zfv
      generalize zTY ci k = ty at ht h ⊢
      cases ty with
      | int => exact h H locs ls cells slots hl hW hS hc hs
      | boolean => exact h H locs ls cells slots hl hW hS hc hs
      | long => exact h H locs ls cells slots hl hW hS hc hs
      | array t =>
        obtain ⟨b, hb1, h⟩ := h
        have h2 := h H locs ls cells slots hl hW hS hc hs
        show W p l e R s m args below meth c H locs cells slots Q (F0 m (pc + 3) ls (zcv Z (σ.2.2.1 a k) :: r.map (zcv Z)))
        rw [hb1]
        exact h2
      | object t =>
        obtain ⟨b, hb1, h⟩ := h
        have h2 := h H locs ls cells slots hl hW hS hc hs
        show W p l e R s m args below meth c H locs cells slots Q (F0 m (pc + 3) ls (zcv Z (σ.2.2.1 a k) :: r.map (zcv Z)))
        rw [hb1]
        exact h2
      | _ => cases ht
    · exact h.elim
  | putfield i =>
    obtain ⟨v, a, r, rfl, h2⟩ := zsP_spec h
    clear h
    have h := h2
    clear h2
    intro H locs ls cells slots hl hW hS hc hs
    split at h
    · rename_i ci k w hft
      obtain ⟨⟨ha, hk, hfin⟩, h⟩ := h
      obtain ⟨f1, f2, f3⟩ := zf_ok hft
      have ha52 := zkd_lt hk (by omega)
      have hfin2 : (zTT ci k).2.2.2 = false ∨ (meth.name = "<init>" ∧ zNo ci = zNo (zOw mm)) := by
        rcases hfin with q | ⟨q1, q2⟩
        · exact Or.inl q
        · exact Or.inr ⟨hini q1, by rw [q2]⟩
      have ht := (zt_ok f3 f2).1
      show W p l e R s m args below meth c H locs cells slots Q (F0 m pc ls (zcv Z v :: .ref (zad Z a) :: r.map (zcv Z)))
      rw [zad_lt ha52]
      have key : ∀ (σ' : zSt), narrow (zTY ci k) (zcv Z v) = zcv Z v → fits (zTY ci k) (zcv Z v) = true → σ'.2.2.2 = σ.2.2.2 → zfv Z σ' a (zTY ci k) k = zcv Z v → (∀ j, j ≠ k → zfv Z σ' a (zTY ci j) j = zfv Z σ a (zTY ci j) j) → (∀ b, b ≠ a → zce Z σ' b = zce Z σ b) → zV D Z mm n0 p l e R s m args below meth c Q (pc + 3) L r σ' → W p l e R s m args below meth c H locs cells slots Q (F0 m pc ls (zcv Z v :: .ref (Z.1 + a) :: r.map (zcv Z))) := by
        intro σ' hn hf hn' g1 g2 g3 k9
        refine zput hx hb f3 hts hown hKK.1 hW.1 hS ha hk f2 f1 hfin2 hn hf (zD hd0 hg rfl) (fun H1 locs1 hP1 hz1 hS1 => ?_)
        have he : zce Z σ' a = .inr (ci, (zfs Z σ a ci).set k (zcv Z v)) := by
          rw [← zfs_set f2 g1 g2]; simp only [zce, hk]
        rw [zw_set ha hn' he g3] at hP1
        exact k9 H1 locs1 ls cells slots hl ⟨hP1, by rw [hz1, hn']; exact hW.2.1, by rw [hn']; exact hW.2.2⟩ hS1 (by rw [hn']; exact hc) (by rw [hn']; exact hs)
      unfold zpF at h
      have hI : ∀ x : Int32, zfv Z (zuI σ a k x) a .int k = .int x := fun x => by
        show Value.int ((if a = a then upd (σ.1 a) k x else σ.1 a) k) = _
        rw [if_pos rfl]; unfold upd; rw [if_pos rfl]
      have hIo : ∀ (x : Int32) (j : Nat), j ≠ k → ∀ t, zfv Z (zuI σ a k x) a t j = zfv Z σ a t j := fun x j hj t => by
        have e1 : (zuI σ a k x).1 a j = σ.1 a j := by
          show (if a = a then upd (σ.1 a) k x else σ.1 a) j = _
          rw [if_pos rfl]; unfold upd; rw [if_neg hj]
        unfold zfv
        cases t <;> first | rfl | (dsimp only; rw [e1])
      have hJ : ∀ x : Int64, zfv Z (zuJ σ a k x) a .long k = .long x := fun x => by
        show Value.long ((if a = a then vp_updL (σ.2.1 a) k x else σ.2.1 a) k) = _
        rw [if_pos rfl]; unfold vp_updL; rw [if_pos rfl]
      have hJo : ∀ (x : Int64) (j : Nat), j ≠ k → ∀ t, zfv Z (zuJ σ a k x) a t j = zfv Z σ a t j := fun x j hj t => by
        have e1 : (zuJ σ a k x).2.1 a j = σ.2.1 a j := by
          show (if a = a then vp_updL (σ.2.1 a) k x else σ.2.1 a) j = _
          rw [if_pos rfl]; unfold vp_updL; rw [if_neg hj]
        unfold zfv
        cases t <;> first | rfl | (dsimp only; rw [e1])
      have hRo : ∀ (x : Value) (j : Nat), j ≠ k → ∀ t, zfv Z (zuR σ a k x) a t j = zfv Z σ a t j := fun x j hj t => by
        have e1 : (zuR σ a k x).2.2.1 a j = σ.2.2.1 a j := by
          show (if a = a then va_up (σ.2.2.1 a) k x else σ.2.2.1 a) j = _
          rw [if_pos rfl]; unfold va_up; rw [if_neg hj]
        unfold zfv
        cases t <;> first | rfl | (dsimp only; rw [e1])
      have hR : ∀ x : Value, (zuR σ a k x).2.2.1 a k = x := fun x => by
        show (if a = a then va_up (σ.2.2.1 a) k x else σ.2.2.1 a) k = _
        rw [if_pos rfl]; unfold va_up; rw [if_pos rfl]
      generalize htt : zTY ci k = ty at ht h key
      split at h
      · rename_i x
        exact key (zuI σ a k x) rfl rfl rfl (hI x) (fun j hj => hIo x j hj _) (fun b hb => zce_uI hb) h
      · rename_i x
        obtain ⟨h01, h⟩ := h
        exact key (zuI σ a k x) (by rcases h01 with rfl | rfl <;> rfl) (by rcases h01 with rfl | rfl <;> rfl) rfl (hI x) (fun j hj => hIo x j hj _) (fun b hb => zce_uI hb) h
      · rename_i x
        exact key (zuJ σ a k x) rfl rfl rfl (hJ x) (fun j hj => hJo x j hj _) (fun b hb => zce_uJ hb) h
      · rename_i t b
        exact key (zuR σ a k (.ref b)) rfl rfl rfl (by show zcv Z _ = _; rw [hR]) (fun j hj => hRo _ j hj _) (fun b hb => zce_uR hb) h
      · rename_i t b
        exact key (zuR σ a k (.ref b)) rfl rfl rfl (by show zcv Z _ = _; rw [hR]) (fun j hj => hRo _ j hj _) (fun b hb => zce_uR hb) h
      · exact h.elim
    · exact h.elim
  | iaload =>
    obtain ⟨a, i, r, rfl, h2⟩ := zsA_spec h
    clear h
    have h := h2
    clear h2
    intro H locs ls cells slots hl hW hS hc hs
    split at h
    · rename_i hq
      obtain ⟨⟨hlaw, hin⟩, k⟩ := h
      obtain ⟨hX, hb1, hb2⟩ := hscr hlaw
      have ha : a = zsc := Nat.eq_of_beq_eq_true hq
      have e1 : zad Z a = Z.2.1 := by unfold zad; rw [if_pos ha]
      show W p l e R s m args below meth c H locs cells slots Q (F0 m pc ls (.int i :: .ref (zad Z a) :: r.map (zcv Z)))
      rw [e1]
      exact va_sld hx hb hX hb2 (Nat.not_le.mpr hb1) hS hin (zD hd0 hg rfl) (k H locs ls cells slots hl hW hS hc hs)
    · obtain ⟨⟨ha, hk, hin⟩, k⟩ := h
      obtain ⟨n, hk2⟩ : ∃ n, zkd a = (1, n) := ⟨_, zpair hk⟩
      rw [hk2] at hin
      have ha52 := zkd_lt hk2 (by omega)
      show W p l e R s m args below meth c H locs cells slots Q (F0 m pc ls (.int i :: .ref (zad Z a) :: r.map (zcv Z)))
      rw [zad_lt ha52]
      have he : (zw Z σ)[a]? = some (Z.1 + a, .inl (Z.2.2.1, n, .inl (σ.1 a))) := by rw [zw_at ha]; simp only [zce, hk2]
      exact va_iald hx hb hKK.1 hW.1 a 0 he rfl hin (zD hd0 hg rfl) (k H locs ls cells slots hl hW hS hc hs)
  | iastore =>
    obtain ⟨a, i, x, r, rfl, ⟨ha, hk, hin⟩, k⟩ := zsAI_spec h
    intro H locs ls cells slots hl hW hS hc hs
    obtain ⟨n, hk2⟩ : ∃ n, zkd a = (1, n) := ⟨_, zpair hk⟩
    rw [hk2] at hin
    have ha52 := zkd_lt hk2 (by omega)
    show W p l e R s m args below meth c H locs cells slots Q (F0 m pc ls (.int x :: .int i :: .ref (zad Z a) :: r.map (zcv Z)))
    rw [zad_lt ha52]
    refine ziast hx hb hKK.1 hW.1 hS ha hk2 hin (zD hd0 hg rfl) (fun H1 locs1 hP1 hz1 hS1 => ?_)
    have he : zce Z (zuI σ a i.toNatClampNeg x) a = .inl (Z.2.2.1, n, .inl (upd (σ.1 a) i.toNatClampNeg x)) := by
      have e1 : (zuI σ a i.toNatClampNeg x).1 a = upd (σ.1 a) i.toNatClampNeg x := by show (if a = a then _ else _) = _; rw [if_pos rfl]
      simp only [zce, hk2, e1]
    rw [zw_set (σ' := zuI σ a i.toNatClampNeg x) ha rfl he (fun b hb => zce_uI hb)] at hP1
    exact k H1 locs1 ls cells slots hl ⟨hP1, hz1.trans hW.2.1, hW.2.2⟩ hS1 hc hs
  | arraylength =>
    obtain ⟨a, r, rfl, h2⟩ := zsR_spec h
    clear h
    have h := h2
    clear h2
    intro H locs ls cells slots hl hW hS hc hs
    split at h
    · rename_i hq
      obtain ⟨hlaw, k⟩ := h
      obtain ⟨hX, hb1, hb2⟩ := hscr hlaw
      have ha : a = zsc := Nat.eq_of_beq_eq_true hq
      have e1 : zad Z a = Z.2.1 := by unfold zad; rw [if_pos ha]
      show W p l e R s m args below meth c H locs cells slots Q (F0 m pc ls (.ref (zad Z a) :: r.map (zcv Z)))
      rw [e1]
      exact va_slen hx hb hX hb2 (Nat.not_le.mpr hb1) hS (zD hd0 hg rfl) (k H locs ls cells slots hl hW hS hc hs)
    · obtain ⟨⟨ha, hk⟩, k⟩ := h
      obtain ⟨n, hk2⟩ : ∃ n, zkd a = (1, n) := ⟨_, zpair hk⟩
      rw [hk2] at k
      have ha52 := zkd_lt hk2 (by omega)
      show W p l e R s m args below meth c H locs cells slots Q (F0 m pc ls (.ref (zad Z a) :: r.map (zcv Z)))
      rw [zad_lt ha52]
      have he : (zw Z σ)[a]? = some (Z.1 + a, .inl (Z.2.2.1, n, .inl (σ.1 a))) := by rw [zw_at ha]; simp only [zce, hk2]
      exact va_alen hx hb hKK.1 hW.1 a 0 he rfl rfl (zD hd0 hg rfl) (k H locs ls cells slots hl hW hS hc hs)
  | newarray t =>
    obtain ⟨n, r, rfl, ⟨hk, ht, hn, hlim⟩, k⟩ := zsI_spec h
    intro H locs ls cells slots hl hW hS hc hs
    have hSS : zSS (σ.2.2.2 + 1) = zSS σ.2.2.2 + zsl σ.2.2.2 := rfl
    have hm := zSS_mono hlim
    subst ht
    skip
    · have hsl : zsl σ.2.2.2 = n.toNatClampNeg := by unfold zsl; rw [hk]; rfl
      refine znewI hx hb hts hKK.1 hW hS hk hn rfl (by omega) (by omega) (zD hd0 hg rfl) (fun H1 hW1 hS1 => ?_)
      have h52 := zkd_lt hk (by decide)
      have h9 := k H1 locs ls (cells + 1) (slots + n.toNatClampNeg) hl hW1 hS1 (by show _ = σ.2.2.2 + 1; omega) (by show _ = zSS (σ.2.2.2 + 1); omega)
      have e9 : (Value.ref σ.2.2.2 :: r).map (zcv Z) = Value.ref (Z.1 + σ.2.2.2) :: r.map (zcv Z) := by rw [List.map_cons]; show Value.ref (zad Z _) :: _ = _; rw [zad_lt h52]
      rw [e9] at h9
      exact h9
  | new i =>
    intro H locs ls cells slots hl hW hS hc hs
    unfold zSI at h
    dsimp only at h
    split at h
    · rename_i ci w hcl
      obtain ⟨⟨hk, hlim⟩, k⟩ := h
      obtain ⟨f1, f2⟩ := zl_ok hcl
      have hSS : zSS (σ.2.2.2 + 1) = zSS σ.2.2.2 + zsl σ.2.2.2 := rfl
      have hm := zSS_mono hlim
      have hsl : zsl σ.2.2.2 = zNF ci := by unfold zsl; rw [hk]; rfl
      refine znew hx hb f2 hts hown hKK.1 hW hS f1 hk (by omega) (by omega) (zD hd0 hg rfl) (fun H1 hW1 hS1 => ?_)
      have h52 := zkd_lt hk (by decide)
      have h9 := k H1 locs ls (cells + 1) (slots + zNF ci) hl hW1 hS1 (by show _ = σ.2.2.2 + 1; omega) (by show _ = zSS (σ.2.2.2 + 1); omega)
      have e9 : (Value.ref σ.2.2.2 :: S).map (zcv Z) = Value.ref (Z.1 + σ.2.2.2) :: S.map (zcv Z) := by rw [List.map_cons]; show Value.ref (zad Z _) :: _ = _; rw [zad_lt h52]
      rw [e9] at h9
      exact h9
    · exact h.elim
  | invokestatic i => exact zcall_sound F0' hC (t := 0) (Or.inl ⟨rfl, rfl⟩) (zD hd0 hg rfl) h
  | invokevirtual i => exact zcall_sound F0' hC (t := 1) (Or.inr (Or.inl ⟨rfl, rfl⟩)) (zD hd0 hg rfl) h
  | invokespecial i => exact zcall_sound F0' hC (t := 2) (Or.inr (Or.inr ⟨rfl, rfl⟩)) (zD hd0 hg rfl) h
  | ireturn =>
    obtain ⟨h1, h⟩ := h
    obtain ⟨x, r, rfl, hr, hn, k⟩ := zsI_spec h
    have hr0 : r = [] := List.eq_nil_of_length_eq_zero (by simpa using h1)
    subst hr0
    intro H locs ls cells slots hl hW hS hc hs
    exact hri x σ pc H locs ls cells slots hr hn k (zD hd0 hg rfl) hW hS hc hs
  | lreturn =>
    obtain ⟨h1, h⟩ := h
    obtain ⟨x, r, rfl, hr, hn, k⟩ := zsJ_spec h
    have hr0 : r = [] := List.eq_nil_of_length_eq_zero (by simpa using h1)
    subst hr0
    intro H locs ls cells slots hl hW hS hc hs
    exact hrl x σ pc H locs ls cells slots hr hn k (zD hd0 hg rfl) hW hS hc hs
  | return_ =>
    obtain ⟨h1, hr, hn, k⟩ := h
    have hr0 : S = [] := List.eq_nil_of_length_eq_zero h1
    subst hr0
    intro H locs ls cells slots hl hW hS hc hs
    exact hrv σ pc H locs ls cells slots hr hn k (zD hd0 hg rfl) hW hS hc hs
  | _ => exact False.elim h
end ZT
end
section
theorem lg_sl_cv (Z : zQ) (as : List Value) : (lg_sl (as.map (zcv Z))).length = (lg_sl as).length := by
  induction as with
  | nil => rfl
  | cons v t ih =>
    have e : ∀ (w : Value) (u : List Value), (lg_sl (w :: u)).length = (if w.category = 2 then 2 else 1) + (lg_sl u).length := by
      intro w u
      rcases lv_cat w with h | h <;> simp [lg_sl, h] <;> omega
    rw [List.map_cons, e, e, ih, zcv_cat]
theorem zV_weak {D : va_G} {Z : zQ} {mm n0 : Nat} {p : Program} {l : Launch} {e : Env} {R : Room} {s : State} {m : MethodId} {args : Array Value} {below : List Frame} {meth : Method} {c : Code} {Q : State → Prop} {pc : Nat} {L L' : zLo} {S : List Value} {σ : zSt} (hq : ∀ q ∈ L', q ∈ L) (h : zV D Z mm n0 p l e R s m args below meth c Q pc L' S σ) : zV D Z mm n0 p l e R s m args below meth c Q pc L S σ := fun H locs ls cells slots hl hW hS hc hs => h H locs ls cells slots ⟨hl.1, hl.2.1, fun q h1 => by
  obtain ⟨x, hx, rfl⟩ := List.mem_map.mp h1
  exact hl.2.2 _ (List.mem_map.mpr ⟨x, hq x hx, rfl⟩)⟩ hW hS hc hs
theorem zmet (zx : Nat × (Nat → Int32)) : ∀ (d mm : Nat) (as : List Value) (σ : zSt) (K : Option Value → zSt → Prop), zSp zx d mm as σ K → zMt zx d mm as σ K := by
  intro d
  induction d with
  | zero => intro mm as σ K h; exact h.elim
  | succ d ih =>
    intro mm as σ K h
    obtain ⟨⟨hm, hlen⟩, hV⟩ := h
    refine ⟨hm, fun l D Z => ?_⟩
    obtain ⟨-, -, -, fpl, -, fin, fow⟩ := zm_ok hm
    refine Met.ofW (cc := zB mm) (maxL := zML mm) (ret := zRT mm) fpl rfl ?_
    intro p e s m args below meth c s₁ B hml hv
    obtain ⟨rfl, hW, hK, hXX⟩ := hv
    have hlocks := B.notSynchronized
    have hts := atoms_spec (ws := zws mm) B.pre
    have hmono := zSS_mono (Nat.le_add_right σ.2.2.2 (zAl mm))
    have F : zFx D Z zx mm d σ.2.2.2 (σ.2.2.2 + zAl mm) p (headSpec (zws mm) (zrm (d + 1) mm σ.2.2.2)).room s m (as.map (zcv Z)).toArray meth c :=
      ⟨⟨B.exec, B.bytes, hml, by rw [← fow]; exact findClass_of_methodNamed B.named⟩, fun w hw => hts w (List.mem_cons_of_mem _ hw), hK, ⟨Nat.le_refl _, Nat.le_refl _⟩, fun q => by rw [(name_of_methodNamed B.named B.method).1]; exact (fin q).1, fun _ => hXX, ⟨by show _ ≤ zAl mm + _; omega, by show _ ≤ (zSS (σ.2.2.2 + zAl mm) - zSS σ.2.2.2) + _; omega⟩, by omega⟩
    have h1 := hV (zV D Z mm σ.2.2.2 p l e (headSpec (zws mm) (zrm (d + 1) mm σ.2.2.2)).room s m (as.map (zcv Z)).toArray below meth c (MQ below (zQc D Z mm K σ) (as.map (zcv Z)).toArray s (zAl mm) (zSS (σ.2.2.2 + zAl mm) - zSS σ.2.2.2) (fun q => Z.1 ≤ q))) ⟨(fun pc L S σ' hst => by
      unfold zST at hst
      split at hst
      · rename_i ins len hcd
        refine zstep F ih ?_ ?_ ?_ hcd hst
        · intro x τ pc H locs ls cells slots hr hn k hd hW' hS hc hs
          have e1 : cells = zAl mm := by omega
          have e2 : slots = zSS (σ.2.2.2 + zAl mm) - zSS σ.2.2.2 := by rw [← hn]; omega
          subst e1
          subst e2
          have hq : ∀ t : State, t.heap = H → s.WarmedH t.vm → zQc D Z mm K σ (as.map (zcv Z)).toArray s (.returned (some (.int x))) t := fun t ht _ => ⟨⟨some (.int x), τ, rfl, k, hn, by rw [ht]; exact hW'⟩, hS.F ht⟩
          unfold zret at hr
          split at hr
          · rename_i hrt _
            exact W.iret B.exec B.bytes (B.returns.trans hrt) hq hS.2.2 hd
          · rename_i hrt hx
            cases hx
            exact W.zret B.exec B.bytes (B.returns.trans hrt) (by rcases hr with rfl | rfl <;> rfl) hq hS.2.2 hd
          · rename_i hx
            cases hx
          · exact hr.elim
        · intro x τ pc H locs ls cells slots hr hn k hd hW' hS hc hs
          have e1 : cells = zAl mm := by omega
          have e2 : slots = zSS (σ.2.2.2 + zAl mm) - zSS σ.2.2.2 := by rw [← hn]; omega
          subst e1
          subst e2
          have hq : ∀ t : State, t.heap = H → s.WarmedH t.vm → zQc D Z mm K σ (as.map (zcv Z)).toArray s (.returned (some (.long x))) t := fun t ht _ => ⟨⟨some (.long x), τ, rfl, k, hn, by rw [ht]; exact hW'⟩, hS.F ht⟩
          unfold zret at hr
          split at hr
          · rename_i hx
            cases hx
          · rename_i hx
            cases hx
          · rename_i hrt _
            exact W.lret B.exec B.bytes (B.returns.trans hrt) hq hS.2.2 hd
          · exact hr.elim
        · intro τ pc H locs ls cells slots hr hn k hd hW' hS hc hs
          have e1 : cells = zAl mm := by omega
          have e2 : slots = zSS (σ.2.2.2 + zAl mm) - zSS σ.2.2.2 := by rw [← hn]; omega
          subst e1
          subst e2
          have hq : ∀ t : State, t.heap = H → s.WarmedH t.vm → zQc D Z mm K σ (as.map (zcv Z)).toArray s (.returned none) t := fun t ht _ => ⟨⟨none, τ, rfl, k, hn, by rw [ht]; exact hW'⟩, hS.F ht⟩
          exact W.vret B.exec B.bytes (B.returns.trans hr) hq hS.2.2 hd
      · exact hst.elim), fun _ _ _ _ _ hq hv => zV_weak hq hv⟩
    rw [lg_entry_eq]
    exact h1 s.heap [] _ 0 0 (by rw [← zcL_args]; exact lv_entry _ (by rw [lg_sl_cv]; exact hlen)) hW va_S.rf (by omega) (by omega)
end
section
def z0 : zSt := (fun _ _ => 0, fun _ _ => 0, fun _ _ => .null, 0)
/-- the law over the small machine -/
def zLaw (X : Nat × (Nat → Int32)) : Prop := ∀ V, zOk (zSp X 7) X mL_law 31 V (fun r _ => r = some (.int 1)) → V 0 [(0, .ref zsc)] [] z0
theorem zNS_in : ∀ q ∈ zNS, Jvm.Cond.methodLinkNest q.1 q.2.1 q.2.2.1 q.2.2.2 ∈ lw_tbl := by decide +kernel
theorem zSS_31 : zSS 31 = 597 := by decide +kernel
end
section
/-! the small machine once more, where the cells that a method knows are there and hold the references that they always hold -/
def zRs : List ((Nat × Nat) × Nat) := [((0, 0), 1), ((0, 1), 4), ((0, 2), 7), ((0, 3), 10), ((0, 4), 14), ((0, 5), 18), ((0, 6), 21), ((0, 7), 24), ((0, 8), 26), ((1, 0), 2), ((1, 1), 3), ((4, 0), 5), ((4, 1), 6), ((7, 0), 8), ((7, 1), 9), ((10, 0), 11), ((10, 1), 12), ((10, 2), 13), ((14, 0), 15), ((14, 1), 16), ((14, 2), 17), ((18, 0), 19), ((18, 1), 20), ((21, 0), 22), ((21, 1), 23), ((24, 0), 25), ((26, 0), 27), ((26, 1), 28), ((26, 2), 29)]
def zRr (a k : Nat) : Option Nat := match (zRs.find? fun q => Nat.beq q.1.1 a && Nat.beq q.1.2 k) with
  | some q => some q.2
  | none => none
/-- the cells of Kn are there, with their references -/
def zQI (Kn : Nat → Bool) (q : (Nat → Nat → Value) × Nat) : Prop := ∀ a, Kn a = true → a < q.2 ∧ ∀ k b, zRr a k = some b → q.1 a k = .ref b
theorem zQI_sub {Kn Kn' : Nat → Bool} {q : (Nat → Nat → Value) × Nat} (h : zQI Kn q) (hs : ∀ a, a < 31 → Kn' a = true → Kn a = true) (hb : ∀ a, Kn' a = true → a < 31) : zQI Kn' q := fun a ha => h a (hs a (hb a ha) ha)
def zgT (σ : zSt) (a k : Nat) (ty : FieldType) (G : Value → Prop) : Prop := match ty with
  | .int => G (.int (σ.1 a k))
  | .boolean => G (.int (σ.1 a k))
  | .long => G (.long (σ.2.1 a k))
  | _ => match zRr a k with
    | some b => G (.ref b)
    | none => False
def zpT (σ : zSt) (a k : Nat) (ty : FieldType) (v : Value) (G : zSt → Prop) : Prop := match ty, v with
  | .int, .int x => G (zuI σ a k x)
  | .boolean, .int x => (x = 0 ∨ x = 1) ∧ G (zuI σ a k x)
  | .long, .long x => G (zuJ σ a k x)
  | _, _ => False
def zcT (C : Nat → List Value → zSt → (Option Value → zSt → Prop) → Prop) (Kn : Nat → Bool) (t o i : Nat) (S : List Value) (σ : zSt) (G G0 : List Value → zSt → Prop) : Prop := match zct o i with
  | some (m, k, _) => match Nat.beq (zkt k) t with
    | false => False
    | true => match k with
      | 3 => False
      | 4 => zsII S (fun x y r => match Nat.ble (zcs r) 8 with
        | true => G (.int (if x < y then y else x) :: r) σ
        | false => False)
      | 5 => zsII S (fun x y r => match Nat.ble (zcs r) 8 with
        | true => G (.int (if y < x then y else x) :: r) σ
        | false => False)
      | _ => match Nat.ble (zcs (S.drop (zna m (k % 10)))) 8 && Nat.ble (zna m (k % 10)) S.length && Nat.beq (zAl m) 0 && (match k % 10 with
          | 0 => true
          | 1 => match (S.take (zna m (k % 10))).reverse with
            | .ref b :: _ => Kn b && (Nat.beq (zkd b).1 0 && Nat.beq (zkd b).2 (zOw m))
            | _ => false
          | _ => false) with
        | true => C m (S.take (zna m (k % 10))).reverse σ (fun r σ' => σ'.2.2.2 = σ.2.2.2 + zAl m → G0 (r.toList ++ S.drop (zna m (k % 10))) σ')
        | false => False
  | none => False
def zrT (m : Nat) (v : Value) (G : Prop) : Prop := match zRT m, v with
  | some .int, .int _ => G
  | some .boolean, .int x => (x = 0 ∨ x = 1) ∧ G
  | some .long, .long _ => G
  | _, _ => False
def zTI (C : Nat → List Value → zSt → (Option Value → zSt → Prop) → Prop) (X : Nat × (Nat → Int32)) (m : Nat) (Kn : Nat → Bool) (V V0 : Nat → zLo → List Value → zSt → Prop) (K : Option Value → zSt → Prop) (ins : Instr) (pc : Nat) (L : zLo) (S : List Value) (σ : zSt) : Prop := match ins with
  | .getfield i => zsR S (fun a r => match zft (zOw m) i with
    | some (ci, k, _) => match Kn a && (Nat.beq (zkd a).1 0 && Nat.beq (zkd a).2 ci) with
      | true => zgT σ a k (zTY ci k) (fun v => V (pc + 3) L (v :: r) σ)
      | false => False
    | none => False)
  | .putfield i => zsP S (fun v a r => match zft (zOw m) i with
    | some (ci, k, _) => match Kn a && (Nat.beq (zkd a).1 0 && Nat.beq (zkd a).2 ci) && !(zTT ci k).2.2.2 with
      | true => zpT σ a k (zTY ci k) v (fun σ' => V (pc + 3) L r σ')
      | false => False
    | none => False)
  | .iaload => zsA S (fun a i r => match Nat.beq a zsc with
    | true => vp_in i X.1 ∧ V (pc + 1) L (.int (X.2 i.toNatClampNeg) :: r) σ
    | false => match Kn a && Nat.beq (zkd a).1 1 with
      | true => vp_in i (zkd a).2 ∧ V (pc + 1) L (.int (σ.1 a i.toNatClampNeg) :: r) σ
      | false => False)
  | .iastore => zsAI S (fun a i x r => match Kn a && Nat.beq (zkd a).1 1 with
      | true => vp_in i (zkd a).2 ∧ V (pc + 1) L r (zuI σ a i.toNatClampNeg x)
      | false => False)
  | .arraylength => zsR S (fun a r => match Nat.beq a zsc with
    | true => V (pc + 1) L (.int (Int32.ofNat X.1) :: r) σ
    | false => match Kn a && Nat.beq (zkd a).1 1 with
      | true => V (pc + 1) L (.int (Int32.ofNat (zkd a).2) :: r) σ
      | false => False)
  | .newarray _ => False
  | .new _ => False
  | .istore_n n => match Nat.blt n (zML m) with
    | true => zsI S (fun x r => V (pc + 1) (zst1 L n (.int x)) r σ)
    | false => False
  | .istore n => match Nat.blt n (zML m) with
    | true => zsI S (fun x r => V (pc + 2) (zst1 L n (.int x)) r σ)
    | false => False
  | .lstore_n n => match Nat.blt (n + 1) (zML m) with
    | true => zsJ S (fun x r => V (pc + 1) (zst2 L n (.long x)) r σ)
    | false => False
  | .lstore n => match Nat.blt (n + 1) (zML m) with
    | true => zsJ S (fun x r => V (pc + 2) (zst2 L n (.long x)) r σ)
    | false => False
  | .iinc n k => match Nat.blt n (zML m) with
    | true => zlI (L.lookup n) (fun a => V (pc + 3) (zst1 L n (.int (a + Int32.ofInt k))) S σ)
    | false => False
  | .dup => zs1 S (fun v r => match Nat.beq v.category 1 with
    | true => V (pc + 1) L (v :: v :: r) σ
    | false => False)
  | .dup2 => zs2 S (fun v w r => match Nat.beq v.category 1 && Nat.beq w.category 1 with
    | true => V (pc + 1) L (v :: w :: v :: w :: r) σ
    | false => False)
  | .pop => zs1 S (fun v r => match Nat.beq v.category 1 with
    | true => V (pc + 1) L r σ
    | false => False)
  | .invokestatic i => zcT C Kn 0 (zOw m) i S σ (fun S' σ' => V (pc + 3) L S' σ') (fun S' σ' => V0 (pc + 3) L S' σ')
  | .invokevirtual i => zcT C Kn 1 (zOw m) i S σ (fun S' σ' => V (pc + 3) L S' σ') (fun S' σ' => V0 (pc + 3) L S' σ')
  | .invokespecial _ => False
  | .ireturn => match S with
    | [.int x] => zrT m (.int x) (K (some (.int x)) σ)
    | _ => False
  | .lreturn => match S with
    | [.long x] => zrT m (.long x) (K (some (.long x)) σ)
    | _ => False
  | .return_ => match S, zRT m with
    | [], none => K none σ
    | _, _ => False
  | i => zSI C X m 0 V K i pc L S σ
def zTT' (C : Nat → List Value → zSt → (Option Value → zSt → Prop) → Prop) (X : Nat × (Nat → Int32)) (m : Nat) (Kn : Nat → Bool) (V V0 : Nat → zLo → List Value → zSt → Prop) (K : Option Value → zSt → Prop) (pc : Nat) (L : zLo) (S : List Value) (σ : zSt) : Prop := match zcd m pc with
  | some (ins, _) => zTI C X m Kn V V0 K ins pc L S σ
  | none => False
/-- k steps -/
def zev (C : Nat → List Value → zSt → (Option Value → zSt → Prop) → Prop) (X : Nat × (Nat → Int32)) (m : Nat) (Kn : Nat → Bool) (V0 : Nat → zLo → List Value → zSt → Prop) (K : Option Value → zSt → Prop) : Nat → Nat → zLo → List Value → zSt → Prop
  | 0 => V0
  | k + 1 => zTT' C X m Kn (zev C X m Kn V0 K k) V0 K
end
section
section ZF
variable {C : Nat → List Value → zSt → (Option Value → zSt → Prop) → Prop} {X : Nat × (Nat → Int32)} {m lim : Nat} {Kn : Nat → Bool} {V V0 : Nat → zLo → List Value → zSt → Prop} {K : Option Value → zSt → Prop}
theorem zRr_spec {o : Option Nat} {G : Value → Prop} (h : match o with
    | some b => G (.ref b)
    | none => False) : ∃ b, o = some b ∧ G (.ref b) := by
  split at h
  · exact ⟨_, rfl, h⟩
  · exact h.elim
theorem zkd_of {a t n : Nat} (h : (Nat.beq (zkd a).1 t && Nat.beq (zkd a).2 n) = true) : zkd a = (t, n) := by
  rw [Bool.and_eq_true] at h
  rw [← Nat.eq_of_beq_eq_true h.1, ← Nat.eq_of_beq_eq_true h.2]
theorem zcT_ok {t o i : Nat} {S : List Value} {σ : zSt} {G G' G0 : List Value → zSt → Prop} (hI : zQI Kn σ.2.2) (hn : σ.2.2.2 = lim) (hk : ∀ S', G S' σ → G0 S' σ) (h : zcT C Kn t o i S σ G G0) : zcall C lim t o i S σ G0 := by
  unfold zcT at h
  unfold zcall
  split at h
  · rename_i mk k w hct
    rw [hct]
    dsimp only
    split at h
    · exact h.elim
    · rename_i hkt
      rw [hkt]
      dsimp only
      split at h
      · exact h.elim
      · obtain ⟨x, y, r, rfl, h2⟩ := zsII_spec h
        clear h
        have h := h2
        clear h2
        split at h
        · rename_i hc
          exact ⟨⟨Nat.le_of_ble_eq_true hc, Nat.le_of_eq hn⟩, hk _ h⟩
        · exact h.elim
      · obtain ⟨x, y, r, rfl, h2⟩ := zsII_spec h
        clear h
        have h := h2
        clear h2
        split at h
        · rename_i hc
          exact ⟨⟨Nat.le_of_ble_eq_true hc, Nat.le_of_eq hn⟩, hk _ h⟩
        · exact h.elim
      · rename_i n3 n4 n5
        split at h
        · rename_i hc
          rw [Bool.and_eq_true, Bool.and_eq_true, Bool.and_eq_true] at hc
          obtain ⟨⟨⟨c1, c2⟩, c3⟩, c4⟩ := hc
          have h9 : (zcs (S.drop (zna mk (k % 10))) ≤ 8 ∧ zna mk (k % 10) ≤ S.length ∧ zrc σ o mk (k % 10) (S.take (zna mk (k % 10))).reverse ∧ σ.2.2.2 + zAl mk ≤ lim) := by
            refine ⟨Nat.le_of_ble_eq_true c1, Nat.le_of_ble_eq_true c2, ?_, by rw [Nat.eq_of_beq_eq_true c3]; omega⟩
            generalize hes : (S.take (zna mk (k % 10))).reverse = as at c4 ⊢
            unfold zrc
            split at c4
            · rename_i e
              rw [e]
              trivial
            · rename_i e
              rw [e]
              split at c4
              · rename_i b u
                rw [Bool.and_eq_true] at c4
                exact ⟨(hI b c4.1).1, zkd_of c4.2⟩
              · cases c4
            · cases c4
          split
          · exact absurd rfl n3
          · exact absurd rfl n4
          · exact absurd rfl n5
          · exact ⟨h9, h⟩
        · exact h.elim
  · exact h.elim
set_option maxHeartbeats 4000000 in
theorem zTI_ok (hk : ∀ pc L S σ', zQI Kn σ'.2.2 → σ'.2.2.2 = lim → V pc L S σ' → V0 pc L S σ') {ins : Instr} {pc : Nat} {L : zLo} {S : List Value} {σ : zSt} (hI : zQI Kn σ.2.2) (hn : σ.2.2.2 = lim) (h : zTI C X m Kn V V0 K ins pc L S σ) : zSI C X m lim V0 K ins pc L S σ := by
  cases ins with
  | aload_n n =>
    obtain ⟨a, h1, k⟩ := zlR_spec h
    show zlR _ _
    rw [h1]
    exact hk _ _ _ _ hI hn k
  | iload_n n =>
    obtain ⟨a, h1, k⟩ := zlI_spec h
    show zlI _ _
    rw [h1]
    exact hk _ _ _ _ hI hn k
  | lload_n n =>
    obtain ⟨a, h1, k⟩ := zlJ_spec h
    show zlJ _ _
    rw [h1]
    exact hk _ _ _ _ hI hn k
  | iload n =>
    obtain ⟨a, h1, k⟩ := zlI_spec h
    show zlI _ _
    rw [h1]
    exact hk _ _ _ _ hI hn k
  | lload n =>
    obtain ⟨a, h1, k⟩ := zlJ_spec h
    show zlJ _ _
    rw [h1]
    exact hk _ _ _ _ hI hn k
  | istore_n n =>
    unfold zTI at h
    dsimp only at h
    split at h
    · rename_i hb
      obtain ⟨x, r, rfl, k⟩ := zsI_spec h
      exact ⟨Nat.le_of_ble_eq_true hb, hk _ _ _ _ hI hn k⟩
    · exact h.elim
  | istore n =>
    unfold zTI at h
    dsimp only at h
    split at h
    · rename_i hb
      obtain ⟨x, r, rfl, k⟩ := zsI_spec h
      exact ⟨Nat.le_of_ble_eq_true hb, hk _ _ _ _ hI hn k⟩
    · exact h.elim
  | lstore_n n =>
    unfold zTI at h
    dsimp only at h
    split at h
    · rename_i hb
      obtain ⟨x, r, rfl, k⟩ := zsJ_spec h
      exact ⟨Nat.le_of_ble_eq_true hb, hk _ _ _ _ hI hn k⟩
    · exact h.elim
  | lstore n =>
    unfold zTI at h
    dsimp only at h
    split at h
    · rename_i hb
      obtain ⟨x, r, rfl, k⟩ := zsJ_spec h
      exact ⟨Nat.le_of_ble_eq_true hb, hk _ _ _ _ hI hn k⟩
    · exact h.elim
  | astore_n n =>
    obtain ⟨x, r, rfl, h1, k⟩ := zsR_spec h
    exact ⟨h1, hk _ _ _ _ hI hn k⟩
  | iinc n q =>
    unfold zTI at h
    dsimp only at h
    split at h
    · rename_i hb
      obtain ⟨x, h1, k⟩ := zlI_spec h
      refine ⟨Nat.le_of_ble_eq_true hb, ?_⟩
      show zlI _ _
      rw [h1]
      exact hk _ _ _ _ hI hn k
    · exact h.elim
  | iconst n =>
    exact hk _ _ _ _ hI hn h
  | bipush n =>
    exact hk _ _ _ _ hI hn h
  | sipush n =>
    exact hk _ _ _ _ hI hn h
  | lconst n =>
    exact hk _ _ _ _ hI hn h
  | goto n =>
    exact hk _ _ _ _ hI hn h
  | ldc n =>
    unfold zTI zSI at h
    unfold zSI
    dsimp only at h ⊢
    split at h
    · exact hk _ _ _ _ hI hn h
    · exact h.elim
  | ldc_w n =>
    unfold zTI zSI at h
    unfold zSI
    dsimp only at h ⊢
    split at h
    · exact hk _ _ _ _ hI hn h
    · exact h.elim
  | ldc2_w n =>
    unfold zTI zSI at h
    unfold zSI
    dsimp only at h ⊢
    split at h
    · exact hk _ _ _ _ hI hn h
    · exact h.elim
  | iadd =>
    obtain ⟨x, y, r, rfl, k⟩ := zsII_spec h
    exact hk _ _ _ _ hI hn k
  | isub =>
    obtain ⟨x, y, r, rfl, k⟩ := zsII_spec h
    exact hk _ _ _ _ hI hn k
  | imul =>
    obtain ⟨x, y, r, rfl, k⟩ := zsII_spec h
    exact hk _ _ _ _ hI hn k
  | iand =>
    obtain ⟨x, y, r, rfl, k⟩ := zsII_spec h
    exact hk _ _ _ _ hI hn k
  | ior =>
    obtain ⟨x, y, r, rfl, k⟩ := zsII_spec h
    exact hk _ _ _ _ hI hn k
  | ixor =>
    obtain ⟨x, y, r, rfl, k⟩ := zsII_spec h
    exact hk _ _ _ _ hI hn k
  | ishl =>
    obtain ⟨x, y, r, rfl, k⟩ := zsII_spec h
    exact hk _ _ _ _ hI hn k
  | ishr =>
    obtain ⟨x, y, r, rfl, k⟩ := zsII_spec h
    exact hk _ _ _ _ hI hn k
  | iushr =>
    obtain ⟨x, y, r, rfl, k⟩ := zsII_spec h
    exact hk _ _ _ _ hI hn k
  | idiv =>
    obtain ⟨x, y, r, rfl, h1, k⟩ := zsII_spec h
    exact ⟨h1, hk _ _ _ _ hI hn k⟩
  | irem =>
    obtain ⟨x, y, r, rfl, h1, k⟩ := zsII_spec h
    exact ⟨h1, hk _ _ _ _ hI hn k⟩
  | ineg =>
    obtain ⟨x, r, rfl, k⟩ := zsI_spec h
    exact hk _ _ _ _ hI hn k
  | i2l =>
    obtain ⟨x, r, rfl, k⟩ := zsI_spec h
    exact hk _ _ _ _ hI hn k
  | i2b =>
    obtain ⟨x, r, rfl, k⟩ := zsI_spec h
    exact hk _ _ _ _ hI hn k
  | i2s =>
    obtain ⟨x, r, rfl, k⟩ := zsI_spec h
    exact hk _ _ _ _ hI hn k
  | l2i =>
    obtain ⟨x, r, rfl, k⟩ := zsJ_spec h
    exact hk _ _ _ _ hI hn k
  | lneg =>
    obtain ⟨x, r, rfl, k⟩ := zsJ_spec h
    exact hk _ _ _ _ hI hn k
  | ladd =>
    obtain ⟨x, y, r, rfl, k⟩ := zsJJ_spec h
    exact hk _ _ _ _ hI hn k
  | lsub =>
    obtain ⟨x, y, r, rfl, k⟩ := zsJJ_spec h
    exact hk _ _ _ _ hI hn k
  | lmul =>
    obtain ⟨x, y, r, rfl, k⟩ := zsJJ_spec h
    exact hk _ _ _ _ hI hn k
  | lcmp =>
    obtain ⟨x, y, r, rfl, k⟩ := zsJJ_spec h
    exact hk _ _ _ _ hI hn k
  | ldiv =>
    obtain ⟨x, y, r, rfl, h1, k⟩ := zsJJ_spec h
    exact ⟨h1, hk _ _ _ _ hI hn k⟩
  | dup =>
    obtain ⟨v, r, rfl, h2⟩ := zs1_spec h
    clear h
    have h := h2
    clear h2
    split at h
    · rename_i hb
      exact ⟨Nat.eq_of_beq_eq_true hb, hk _ _ _ _ hI hn h⟩
    · exact h.elim
  | pop =>
    obtain ⟨v, r, rfl, h2⟩ := zs1_spec h
    clear h
    have h := h2
    clear h2
    split at h
    · rename_i hb
      exact ⟨Nat.eq_of_beq_eq_true hb, hk _ _ _ _ hI hn h⟩
    · exact h.elim
  | dup2 =>
    obtain ⟨v, w, r, rfl, h2⟩ := zs2_spec h
    clear h
    have h := h2
    clear h2
    split at h
    · rename_i hb
      rw [Bool.and_eq_true] at hb
      exact ⟨⟨Nat.eq_of_beq_eq_true hb.1, Nat.eq_of_beq_eq_true hb.2⟩, hk _ _ _ _ hI hn h⟩
    · exact h.elim
  | ifCond c off =>
    obtain ⟨x, r, rfl, k1, k2⟩ := zsI_spec h
    exact ⟨fun q => hk _ _ _ _ hI hn (k1 q), fun q => hk _ _ _ _ hI hn (k2 q)⟩
  | if_icmp c off =>
    obtain ⟨x, y, r, rfl, k1, k2⟩ := zsII_spec h
    exact ⟨fun q => hk _ _ _ _ hI hn (k1 q), fun q => hk _ _ _ _ hI hn (k2 q)⟩
  | ifnull off =>
    obtain ⟨x, r, rfl, k⟩ := zsR_spec h
    exact hk _ _ _ _ hI hn k
  | tableswitch d lo hi offs =>
    obtain ⟨x, r, rfl, k1, k2⟩ := zsI_spec h
    refine ⟨fun q => hk _ _ _ _ hI hn (k1 q), fun q => ?_⟩
    obtain ⟨off, q1, q2, q3⟩ := k2 q
    exact ⟨off, q1, q2, hk _ _ _ _ hI hn q3⟩
  | getfield i =>
    obtain ⟨a, r, rfl, h2⟩ := zsR_spec h
    clear h
    have h := h2
    clear h2
    show (match zft (zOw m) i with | some (ci, k, _) => (a < σ.2.2.2 ∧ zkd a = (0, ci)) ∧ zgF σ a k (zTY ci k) (fun v => V0 (pc + 3) L (v :: r) σ) | none => False)
    split at h
    · rename_i ci k w hft
      rw [hft]
      dsimp only
      split at h
      · rename_i hb
        rw [Bool.and_eq_true] at hb
        refine ⟨⟨(hI a hb.1).1, zkd_of hb.2⟩, ?_⟩
        unfold zgT at h
        unfold zgF
        generalize zTY ci k = ty at h ⊢
        cases ty <;> dsimp only at h ⊢ <;> first | exact hk _ _ _ _ hI hn h | (obtain ⟨b, hr, h⟩ := zRr_spec (o := zRr a k) (G := fun v => V (pc + 3) L (v :: r) σ) h; exact ⟨b, (hI a hb.1).2 k b hr, hk _ _ _ _ hI hn h⟩)
      · exact h.elim
    · exact h.elim
  | putfield i =>
    obtain ⟨v, a, r, rfl, h2⟩ := zsP_spec h
    clear h
    have h := h2
    clear h2
    show (match zft (zOw m) i with | some (ci, k, _) => (a < σ.2.2.2 ∧ zkd a = (0, ci) ∧ ((zTT ci k).2.2.2 = false ∨ (zKi m = 2 ∧ ci = zOw m))) ∧ zpF σ a k (zTY ci k) v (fun σ' => V0 (pc + 3) L r σ') | none => False)
    split at h
    · rename_i ci k w hft
      rw [hft]
      dsimp only
      split at h
      · rename_i hb
        rw [Bool.and_eq_true, Bool.and_eq_true] at hb
        refine ⟨⟨(hI a hb.1.1).1, zkd_of hb.1.2, Or.inl (by simpa using hb.2)⟩, ?_⟩
        unfold zpT at h
        unfold zpF
        generalize zTY ci k = ty at h ⊢
        split at h
        · exact hk _ _ _ (zuI σ a k _) hI hn h
        · exact ⟨h.1, hk _ _ _ (zuI σ a k _) hI hn h.2⟩
        · exact hk _ _ _ (zuJ σ a k _) hI hn h
        · exact h.elim
      · exact h.elim
    · exact h.elim
  | iaload =>
    obtain ⟨a, i, r, rfl, h2⟩ := zsA_spec h
    clear h
    have h := h2
    clear h2
    show (match Nat.beq a zsc with | true => (True ∧ vp_in i X.1) ∧ V0 (pc + 1) L (.int (X.2 i.toNatClampNeg) :: r) σ | false => (a < σ.2.2.2 ∧ (zkd a).1 = 1 ∧ vp_in i (zkd a).2) ∧ V0 (pc + 1) L (.int (σ.1 a i.toNatClampNeg) :: r) σ)
    split at h
    · rename_i hq
      rw [hq]
      exact ⟨⟨trivial, h.1⟩, hk _ _ _ _ hI hn h.2⟩
    · rename_i hq
      rw [hq]
      dsimp only
      split at h
      · rename_i hb
        rw [Bool.and_eq_true] at hb
        exact ⟨⟨(hI a hb.1).1, Nat.eq_of_beq_eq_true hb.2, h.1⟩, hk _ _ _ _ hI hn h.2⟩
      · exact h.elim
  | arraylength =>
    obtain ⟨a, r, rfl, h2⟩ := zsR_spec h
    clear h
    have h := h2
    clear h2
    show (match Nat.beq a zsc with | true => True ∧ V0 (pc + 1) L (.int (Int32.ofNat X.1) :: r) σ | false => (a < σ.2.2.2 ∧ (zkd a).1 = 1) ∧ V0 (pc + 1) L (.int (Int32.ofNat (zkd a).2) :: r) σ)
    split at h
    · rename_i hq
      rw [hq]
      exact ⟨trivial, hk _ _ _ _ hI hn h⟩
    · rename_i hq
      rw [hq]
      dsimp only
      split at h
      · rename_i hb
        rw [Bool.and_eq_true] at hb
        exact ⟨⟨(hI a hb.1).1, Nat.eq_of_beq_eq_true hb.2⟩, hk _ _ _ _ hI hn h⟩
      · exact h.elim
  | iastore =>
    obtain ⟨a, i, x, r, rfl, h2⟩ := zsAI_spec h
    clear h
    have h := h2
    clear h2
    split at h
    · rename_i hb
      rw [Bool.and_eq_true] at hb
      exact ⟨⟨(hI a hb.1).1, Nat.eq_of_beq_eq_true hb.2, h.1⟩, hk _ _ _ (zuI σ a i.toNatClampNeg x) hI hn h.2⟩
    · exact h.elim
  | invokestatic i =>
    exact zcT_ok (G' := fun _ _ => True) hI hn (fun S' k => hk _ _ _ _ hI hn k) h
  | invokevirtual i =>
    exact zcT_ok (G' := fun _ _ => True) hI hn (fun S' k => hk _ _ _ _ hI hn k) h
  | ireturn =>
    unfold zTI at h
    dsimp only at h
    split at h
    · rename_i x
      refine ⟨rfl, ?_⟩
      show zret m (.int x) ∧ σ.2.2.2 = lim ∧ K (some (.int x)) σ
      unfold zrT at h
      unfold zret
      generalize zRT m = rt at h ⊢
      split at h
      · exact ⟨trivial, hn, h⟩
      · rename_i q
        cases q
        exact ⟨h.1, hn, h.2⟩
      · rename_i q; cases q
      · exact h.elim
    · exact h.elim
  | lreturn =>
    unfold zTI at h
    dsimp only at h
    split at h
    · rename_i x
      refine ⟨rfl, ?_⟩
      show zret m (.long x) ∧ σ.2.2.2 = lim ∧ K (some (.long x)) σ
      unfold zrT at h
      unfold zret
      generalize zRT m = rt at h ⊢
      split at h
      · rename_i q; cases q
      · rename_i q; cases q
      · exact ⟨trivial, hn, h⟩
      · exact h.elim
    · exact h.elim
  | return_ =>
    unfold zTI at h
    dsimp only at h
    split at h
    · rename_i q
      exact ⟨rfl, q, hn, h⟩
    · exact h.elim
  | _ => exact False.elim h
theorem zrun (hV : zOk C X m lim V0 K) : ∀ (k pc : Nat) (L : zLo) (S : List Value) (σ : zSt), zQI Kn σ.2.2 → σ.2.2.2 = lim → zev C X m Kn V0 K k pc L S σ → V0 pc L S σ := by
  intro k
  induction k with
  | zero => intro pc L S σ _ _ h; exact h
  | succ k ih =>
    intro pc L S σ hI hn h
    refine hV.1 pc L S σ ?_
    unfold zST
    have h : zTT' C X m Kn (zev C X m Kn V0 K k) V0 K pc L S σ := h
    unfold zTT' at h
    split at h
    · rename_i ins w hcd
      rw [hcd]
      exact zTI_ok (fun pc L S σ' h1 h2 h3 => ih pc L S σ' h1 h2 h3) hI hn h
    · exact h.elim
theorem zq (hV : zOk C X m lim V0 K) {σ : zSt} (hI : zQI Kn σ.2.2) (hn : σ.2.2.2 = lim) (k : Nat) {pc : Nat} {L : zLo} {S : List Value} (h : zev C X m Kn V0 K k pc L S σ) : V0 pc L S σ := zrun hV k pc L S σ hI hn h
theorem zwk (hV : zOk C X m lim V0 K) (ks : List Nat) {pc : Nat} {L L' : zLo} {S : List Value} {σ : zSt} (h : ks.filterMap (fun k => L[k]?) = L') (k : V0 pc L' S σ) : V0 pc L S σ := hV.2 pc L L' S σ (fun q hq => by
  rw [← h] at hq
  obtain ⟨j, -, hj⟩ := List.mem_filterMap.mp hq
  exact List.mem_of_getElem? hj) k
end ZF
end
section
theorem zlt (a b : Int32) : a < b ↔ a.toInt < b.toInt := Int32.lt_iff_toInt_lt
theorem zle (a b : Int32) : a ≤ b ↔ a.toInt ≤ b.toInt := Int32.le_iff_toInt_le
theorem zeq (a b : Int32) : a = b ↔ a.toInt = b.toInt := Int32.toInt_inj.symm
theorem zlt64 (a b : Int64) : a < b ↔ a.toInt < b.toInt := Int64.lt_iff_toInt_lt
theorem zle64 (a b : Int64) : a ≤ b ↔ a.toInt ≤ b.toInt := Int64.le_iff_toInt_le
theorem zeq64 (a b : Int64) : a = b ↔ a.toInt = b.toInt := Int64.toInt_inj.symm
theorem zadd {x y : Int32} (h : -2147483648 ≤ x.toInt + y.toInt ∧ x.toInt + y.toInt ≤ 2147483647) : (x + y).toInt = x.toInt + y.toInt := by
  rw [Int32.toInt_add]; exact Int.bmod_eq_of_le (by omega) (by omega)
theorem zsub {x y : Int32} (h : -2147483648 ≤ x.toInt - y.toInt ∧ x.toInt - y.toInt ≤ 2147483647) : (x - y).toInt = x.toInt - y.toInt := by
  rw [Int32.toInt_sub]; exact Int.bmod_eq_of_le (by omega) (by omega)
theorem zmul {x y : Int32} (h : -2147483648 ≤ x.toInt * y.toInt ∧ x.toInt * y.toInt ≤ 2147483647) : (x * y).toInt = x.toInt * y.toInt := by
  rw [Int32.toInt_mul]; exact Int.bmod_eq_of_le (by omega) (by omega)
theorem zadd64 {x y : Int64} (h : -9223372036854775808 ≤ x.toInt + y.toInt ∧ x.toInt + y.toInt ≤ 9223372036854775807) : (x + y).toInt = x.toInt + y.toInt := by
  rw [Int64.toInt_add]; exact Int.bmod_eq_of_le (by omega) (by omega)
theorem zsub64 {x y : Int64} (h : -9223372036854775808 ≤ x.toInt - y.toInt ∧ x.toInt - y.toInt ≤ 9223372036854775807) : (x - y).toInt = x.toInt - y.toInt := by
  rw [Int64.toInt_sub]; exact Int.bmod_eq_of_le (by omega) (by omega)
theorem zmul64 {x y : Int64} (h : -9223372036854775808 ≤ x.toInt * y.toInt ∧ x.toInt * y.toInt ≤ 9223372036854775807) : (x * y).toInt = x.toInt * y.toInt := by
  rw [Int64.toInt_mul]; exact Int.bmod_eq_of_le (by omega) (by omega)
theorem zL (x : Int32) : x.toInt64.toInt = x.toInt := Int32.toInt_toInt64 x
theorem zR32 (x : Int32) : -2147483648 ≤ x.toInt ∧ x.toInt ≤ 2147483647 := ⟨Int32.le_toInt x, by have := Int32.toInt_lt x; omega⟩
theorem zR64 (x : Int64) : -9223372036854775808 ≤ x.toInt ∧ x.toInt ≤ 9223372036854775807 := ⟨Int64.le_toInt x, by have := Int64.toInt_lt x; omega⟩
/-- a number that is told by an int from 0 on -/
theorem zNat {x : Int32} (h : 0 ≤ x.toInt) : ∃ k : Nat, x = nI k ∧ (k : Int) = x.toInt ∧ k < 2 ^ 31 := by
  have h2 := (zR32 x).2
  refine ⟨x.toInt.toNat, ?_, Int.toNat_of_nonneg h, by omega⟩
  rw [zeq, nI_toInt (by omega), Int.toNat_of_nonneg h]
theorem zT_lits : (0 : Int32).toInt = 0 ∧ (1 : Int32).toInt = 1 ∧ (2 : Int32).toInt = 2 ∧ (3 : Int32).toInt = 3 ∧ (8 : Int32).toInt = 8 ∧ (16 : Int32).toInt = 16 := by decide
theorem zcmp_lt {x y : Int64} : lg_cmp x y < 0 ↔ x < y := by
  rw [zlt64]; unfold lg_cmp
  split
  · rename_i h; rw [gt_iff_lt, zlt64] at h; constructor
    · intro q; exact absurd q (by decide)
    · intro q; omega
  · rename_i h; split
    · rename_i h2; rw [h2]; constructor
      · intro q; exact absurd q (by decide)
      · intro q; omega
    · rename_i h2; rw [gt_iff_lt, zlt64] at h; rw [zeq64] at h2; constructor
      · intro _; omega
      · intro _; decide
theorem zcmp_gt {x y : Int64} : 0 < lg_cmp x y ↔ y < x := by
  rw [zlt64]; unfold lg_cmp
  split
  · rename_i h; rw [gt_iff_lt, zlt64] at h; constructor
    · intro _; exact h
    · intro _; decide
  · rename_i h; rw [gt_iff_lt, zlt64] at h; split
    · rename_i h2; rw [h2]; constructor
      · intro q; exact absurd q (by decide)
      · intro q; omega
    · constructor
      · intro q; exact absurd q (by decide)
      · intro q; omega
theorem zcmp_eq {x y : Int64} : lg_cmp x y = 0 ↔ x = y := by
  unfold lg_cmp
  split
  · rename_i h; rw [gt_iff_lt, zlt64] at h; constructor
    · intro q; exact absurd q (by decide)
    · intro q; rw [q] at h; omega
  · split
    · rename_i h2; exact ⟨fun _ => h2, fun _ => rfl⟩
    · rename_i h2; constructor
      · intro q; exact absurd q (by decide)
      · intro q; exact absurd q h2
theorem zcmp_ge {x y : Int64} : 0 ≤ lg_cmp x y ↔ y ≤ x := by
  have h := @zcmp_lt x y
  rw [zlt64] at h; rw [zle64]
  rw [zle]; rw [zlt] at h
  have := zT_lits.1
  omega
theorem zcmp_le {x y : Int64} : lg_cmp x y ≤ 0 ↔ x ≤ y := by
  have h := @zcmp_gt x y
  rw [zlt64] at h; rw [zle64]
  rw [zle]; rw [zlt] at h
  have := zT_lits.1
  omega
theorem ztest1 {e : Int32} (h : ¬ e < 0) (h2 : ¬ 8 < e) : 0 ≤ e.toInt ∧ e.toInt ≤ 8 := by
  simp only [zlt, zle, zeq] at h h2
  simp at h h2
  omega
theorem ztest2 {e : Int32} (h : ¬ e < -30) (h2 : ¬ 100000 < e) : -30 ≤ e.toInt ∧ e.toInt ≤ 100000 := by
  simp only [zlt, zle, zeq] at h h2
  simp at h h2
  omega
end
section
def zb (o : Bool) : Int32 := match o with
  | true => 1
  | false => 0
def zNx (n i : Nat) : Nat := if i + 1 < n then i + 1 else 0
theorem zNx_lt {n i : Nat} (h : i < n) : zNx n i < n := by unfold zNx; split <;> omega
def zTu (n : Nat) (X Y : Nat → Int32) (i : Nat) : Int32 := X i * Y (zNx n i) - Y i * X (zNx n i)
def zAr (n : Nat) (X Y : Nat → Int32) : Nat → Int32
  | 0 => 0
  | i + 1 => zAr n X Y i + zTu n X Y i
def zMx (n : Nat) (X Y : Nat → Int32) : Nat → Int32
  | 0 => 0
  | i + 1 => zMx n X Y i + (X i + X (zNx n i)) * zTu n X Y i
def zMy (n : Nat) (X Y : Nat → Int32) : Nat → Int32
  | 0 => 0
  | i + 1 => zMy n X Y i + (Y i + Y (zNx n i)) * zTu n X Y i
def zfx (X : Nat → Int32) (px : Int32) (i : Nat) : Int32 := 8 * X i - px
def zTn (X Y : Nat → Int32) (px py : Int32) (i j : Nat) : Int32 := zfx X px i * zfx Y py j - zfx Y py i * zfx X px j
def zCr (fy ty t : Int32) : Bool := decide ((0 < ty ∧ fy ≤ 0 ∧ 0 < t) ∨ (ty ≤ 0 ∧ 0 < fy ∧ t < 0))
def zOn (fx fy tx ty t : Int32) : Bool := decide (t = 0 ∧ fx * tx ≤ 0 ∧ fy * ty ≤ 0)
def zSd (n : Nat) (X Y : Nat → Int32) (px py : Int32) : Nat → Nat → Bool → Int32
  | 0, _, o => zb o
  | k + 1, i, o => match zOn (zfx X px i) (zfx Y py i) (zfx X px (zNx n i)) (zfx Y py (zNx n i)) (zTn X Y px py i (zNx n i)) with
    | true => 2
    | false => zSd n X Y px py k (i + 1) (match zCr (zfx Y py i) (zfx Y py (zNx n i)) (zTn X Y px py i (zNx n i)) with
      | true => !o
      | false => o)
/-- a place in eighths: 0 out, 1 in, 2 on the rim -/
def zSide (n : Nat) (X Y : Nat → Int32) (px py : Int32) : Int32 := zSd n X Y px py n 0 false
/-- which ints may have changed -/
def zOnly (f : Nat → Nat → Bool) (σ τ : zSt) : Prop := (∀ a j, f a j = false → τ.1 a j = σ.1 a j) ∧ (∀ a j, f a j = false → τ.2.1 a j = σ.2.1 a j) ∧ τ.2.2 = σ.2.2
theorem zOnly.rf {f : Nat → Nat → Bool} {σ : zSt} : zOnly f σ σ := ⟨fun _ _ _ => rfl, fun _ _ _ => rfl, rfl⟩
theorem zOnly.tr {f : Nat → Nat → Bool} {σ τ υ : zSt} (h : zOnly f σ τ) (h2 : zOnly f τ υ) : zOnly f σ υ := ⟨fun a j q => (h2.1 a j q).trans (h.1 a j q), fun a j q => (h2.2.1 a j q).trans (h.2.1 a j q), h2.2.2.trans h.2.2⟩
theorem zOnly.wk {f g : Nat → Nat → Bool} {σ τ : zSt} (h : zOnly f σ τ) (hg : ∀ a j, g a j = false → f a j = false) : zOnly g σ τ := ⟨fun a j q => h.1 a j (hg a j q), fun a j q => h.2.1 a j (hg a j q), h.2.2⟩
theorem zuI_get (σ : zSt) (a j : Nat) (v : Int32) (b k : Nat) : (zuI σ a j v).1 b k = if b = a ∧ k = j then v else σ.1 b k := by
  show (if b = a then upd (σ.1 b) j v else σ.1 b) k = _
  by_cases h : b = a
  · rw [if_pos h]; unfold upd
    by_cases h2 : k = j
    · rw [if_pos h2, if_pos ⟨h, h2⟩]
    · rw [if_neg h2, if_neg (fun q => h2 q.2)]
  · rw [if_neg h, if_neg (fun q => h q.1)]
theorem zuJ_get (σ : zSt) (a j : Nat) (v : Int64) (b k : Nat) : (zuJ σ a j v).2.1 b k = if b = a ∧ k = j then v else σ.2.1 b k := by
  show (if b = a then vp_updL (σ.2.1 b) j v else σ.2.1 b) k = _
  by_cases h : b = a
  · rw [if_pos h]; unfold vp_updL
    by_cases h2 : k = j
    · rw [if_pos h2, if_pos ⟨h, h2⟩]
    · rw [if_neg h2, if_neg (fun q => h2 q.2)]
  · rw [if_neg h, if_neg (fun q => h q.1)]
theorem zOnly.uI {f : Nat → Nat → Bool} {σ τ : zSt} (h : zOnly f σ τ) {a j : Nat} {v : Int32} (ha : f a j = true) : zOnly f σ (zuI τ a j v) := ⟨fun b k q => by
  rw [zuI_get, if_neg (by rintro ⟨rfl, rfl⟩; rw [ha] at q; cases q)]; exact h.1 b k q, h.2.1, h.2.2⟩
theorem zOnly.uJ {f : Nat → Nat → Bool} {σ τ : zSt} (h : zOnly f σ τ) {a j : Nat} {v : Int64} (ha : f a j = true) : zOnly f σ (zuJ τ a j v) := ⟨h.1, fun b k q => by
  rw [zuJ_get, if_neg (by rintro ⟨rfl, rfl⟩; rw [ha] at q; cases q)]; exact h.2.1 b k q, h.2.2⟩
theorem zSt_ext {σ τ : zSt} (h1 : ∀ a j, σ.1 a j = τ.1 a j) (h2 : ∀ a j, σ.2.1 a j = τ.2.1 a j) (h3 : σ.2.2 = τ.2.2) : σ = τ :=
  Prod.ext (funext fun a => funext fun j => h1 a j) (Prod.ext (funext fun a => funext fun j => h2 a j) h3)
theorem zQI_eq {Kn : Nat → Bool} {q q' : (Nat → Nat → Value) × Nat} (h : zQI Kn q) (e : q' = q) : zQI Kn q' := by rw [e]; exact h
end
section
variable {zx : Nat × (Nat → Int32)}
def kA (a : Nat) : Nat → Bool := fun b => Nat.beq b a
def kR (lo hi : Nat) : Nat → Bool := fun b => Nat.ble lo b && Nat.blt b hi
theorem zA_of {Kn : Nat → Bool} {q : (Nat → Nat → Value) × Nat} {a : Nat} (h : zQI Kn q) (ha : Kn a = true) : zQI (kA a) q := fun b hb => by
  rw [Nat.eq_of_beq_eq_true hb]; exact h a ha
theorem zR_of {lo hi lo' hi' : Nat} {q : (Nat → Nat → Value) × Nat} (h : zQI (kR lo hi) q) (h1 : Nat.ble lo lo' = true) (h2 : Nat.ble hi' hi = true) : zQI (kR lo' hi') q := fun b hb => by
  refine h b ?_
  unfold kR at hb ⊢
  rw [Bool.and_eq_true] at hb ⊢
  exact ⟨Nat.ble_eq.mpr (Nat.le_trans (Nat.le_of_ble_eq_true h1) (Nat.le_of_ble_eq_true hb.1)), Nat.ble_eq.mpr (Nat.le_trans (Nat.le_of_ble_eq_true hb.2) (Nat.le_of_ble_eq_true h2))⟩
theorem zix {i : Int32} {k n : Nat} (e : i = nI k) (hk : k < n) (hn : n < 2 ^ 31) : vp_in i n := by rw [e]; exact vp_in_nI hk hn
theorem zcl_k {i : Int32} {k : Nat} (e : i = nI k) (hk : k < 2 ^ 31) : i.toNatClampNeg = k := by rw [e]; exact nI_clamp hk
set_option maxRecDepth 4000 in
theorem item_2 {d : Nat} {σ : zSt} {i : Int32} {k : Nat} {K : Option Value → zSt → Prop} (hI : zQI (kA 2) σ.2.2) (e : i = nI k) (hk : k < 10) (hK : K (some (.int (σ.1 2 k))) σ) : zSp zx (d + 1) mX8_item [.ref 2, .int i] σ K := by
  refine ⟨⟨by decide, Nat.le_of_ble_eq_true rfl⟩, fun V hV => ?_⟩
  subst e
  refine zq (σ := σ) hV hI rfl 4 ?_
  show ((nI k) < 0 → V 20 [(0, .ref 2), (1, .int (nI k))] [] σ) ∧ (¬ (nI k) < 0 → V 8 [(0, .ref 2), (1, .int (nI k))] [] σ)
  refine ⟨fun hc => absurd hc (nI_pos (by omega)), fun _ => ?_⟩
  refine zq (σ := σ) hV hI rfl 4 ?_
  show (10 ≤ (nI k) → V 20 [(0, .ref 2), (1, .int (nI k))] [] σ) ∧ (¬ 10 ≤ (nI k) → V 14 [(0, .ref 2), (1, .int (nI k))] [] σ)
  refine ⟨fun hc => absurd hc (show ¬ nI 10 ≤ nI k from nI_ge hk (by decide)), fun _ => ?_⟩
  refine zq (σ := σ) hV hI rfl 3 ?_
  show vp_in (nI k) 10 ∧ V 17 [(0, .ref 2), (1, .int (nI k))] [.int (σ.1 2 (Int32.toNatClampNeg (nI k)))] σ
  refine ⟨vp_in_nI hk (by decide), ?_⟩
  refine zq (σ := σ) hV hI rfl 2 ?_
  show K (some (.int (σ.1 2 (Int32.toNatClampNeg (nI k))))) σ
  rw [nI_clamp (by omega)]
  exact hK
set_option maxRecDepth 4000 in
theorem setItem_2 {d : Nat} {σ : zSt} {i v : Int32} {k : Nat} {K : Option Value → zSt → Prop} (hI : zQI (kA 2) σ.2.2) (e : i = nI k) (hk : k < 10) (hK : K none (zuI σ 2 k v)) : zSp zx (d + 1) mX8_setItem [.ref 2, .int i, .int v] σ K := by
  refine ⟨⟨by decide, Nat.le_of_ble_eq_true rfl⟩, fun V hV => ?_⟩
  subst e
  refine zq (σ := σ) hV hI rfl 4 ?_
  show ((nI k) < 0 → V 18 [(0, .ref 2), (1, .int (nI k)), (2, .int v)] [] σ) ∧ (¬ (nI k) < 0 → V 8 [(0, .ref 2), (1, .int (nI k)), (2, .int v)] [] σ)
  refine ⟨fun hc => absurd hc (nI_pos (by omega)), fun _ => ?_⟩
  refine zq (σ := σ) hV hI rfl 4 ?_
  show (10 ≤ (nI k) → V 18 [(0, .ref 2), (1, .int (nI k)), (2, .int v)] [] σ) ∧ (¬ 10 ≤ (nI k) → V 14 [(0, .ref 2), (1, .int (nI k)), (2, .int v)] [] σ)
  refine ⟨fun hc => absurd hc (show ¬ nI 10 ≤ nI k from nI_ge hk (by decide)), fun _ => ?_⟩
  refine zq (σ := σ) hV hI rfl 4 ?_
  show vp_in (nI k) 10 ∧ V 18 [(0, .ref 2), (1, .int (nI k)), (2, .int v)] [] (zuI σ 2 (Int32.toNatClampNeg (nI k)) v)
  refine ⟨vp_in_nI hk (by decide), ?_⟩
  refine zq (σ := (zuI σ 2 (Int32.toNatClampNeg (nI k)) v)) hV hI rfl 1 ?_
  show K none (zuI σ 2 (Int32.toNatClampNeg (nI k)) v)
  rw [nI_clamp (by omega)]
  exact hK
set_option maxRecDepth 4000 in
theorem item_3 {d : Nat} {σ : zSt} {i : Int32} {k : Nat} {K : Option Value → zSt → Prop} (hI : zQI (kA 3) σ.2.2) (e : i = nI k) (hk : k < 10) (hK : K (some (.int (σ.1 3 k))) σ) : zSp zx (d + 1) mX8_item [.ref 3, .int i] σ K := by
  refine ⟨⟨by decide, Nat.le_of_ble_eq_true rfl⟩, fun V hV => ?_⟩
  subst e
  refine zq (σ := σ) hV hI rfl 4 ?_
  show ((nI k) < 0 → V 20 [(0, .ref 3), (1, .int (nI k))] [] σ) ∧ (¬ (nI k) < 0 → V 8 [(0, .ref 3), (1, .int (nI k))] [] σ)
  refine ⟨fun hc => absurd hc (nI_pos (by omega)), fun _ => ?_⟩
  refine zq (σ := σ) hV hI rfl 4 ?_
  show (10 ≤ (nI k) → V 20 [(0, .ref 3), (1, .int (nI k))] [] σ) ∧ (¬ 10 ≤ (nI k) → V 14 [(0, .ref 3), (1, .int (nI k))] [] σ)
  refine ⟨fun hc => absurd hc (show ¬ nI 10 ≤ nI k from nI_ge hk (by decide)), fun _ => ?_⟩
  refine zq (σ := σ) hV hI rfl 3 ?_
  show vp_in (nI k) 10 ∧ V 17 [(0, .ref 3), (1, .int (nI k))] [.int (σ.1 3 (Int32.toNatClampNeg (nI k)))] σ
  refine ⟨vp_in_nI hk (by decide), ?_⟩
  refine zq (σ := σ) hV hI rfl 2 ?_
  show K (some (.int (σ.1 3 (Int32.toNatClampNeg (nI k))))) σ
  rw [nI_clamp (by omega)]
  exact hK
set_option maxRecDepth 4000 in
theorem setItem_3 {d : Nat} {σ : zSt} {i v : Int32} {k : Nat} {K : Option Value → zSt → Prop} (hI : zQI (kA 3) σ.2.2) (e : i = nI k) (hk : k < 10) (hK : K none (zuI σ 3 k v)) : zSp zx (d + 1) mX8_setItem [.ref 3, .int i, .int v] σ K := by
  refine ⟨⟨by decide, Nat.le_of_ble_eq_true rfl⟩, fun V hV => ?_⟩
  subst e
  refine zq (σ := σ) hV hI rfl 4 ?_
  show ((nI k) < 0 → V 18 [(0, .ref 3), (1, .int (nI k)), (2, .int v)] [] σ) ∧ (¬ (nI k) < 0 → V 8 [(0, .ref 3), (1, .int (nI k)), (2, .int v)] [] σ)
  refine ⟨fun hc => absurd hc (nI_pos (by omega)), fun _ => ?_⟩
  refine zq (σ := σ) hV hI rfl 4 ?_
  show (10 ≤ (nI k) → V 18 [(0, .ref 3), (1, .int (nI k)), (2, .int v)] [] σ) ∧ (¬ 10 ≤ (nI k) → V 14 [(0, .ref 3), (1, .int (nI k)), (2, .int v)] [] σ)
  refine ⟨fun hc => absurd hc (show ¬ nI 10 ≤ nI k from nI_ge hk (by decide)), fun _ => ?_⟩
  refine zq (σ := σ) hV hI rfl 4 ?_
  show vp_in (nI k) 10 ∧ V 18 [(0, .ref 3), (1, .int (nI k)), (2, .int v)] [] (zuI σ 3 (Int32.toNatClampNeg (nI k)) v)
  refine ⟨vp_in_nI hk (by decide), ?_⟩
  refine zq (σ := (zuI σ 3 (Int32.toNatClampNeg (nI k)) v)) hV hI rfl 1 ?_
  show K none (zuI σ 3 (Int32.toNatClampNeg (nI k)) v)
  rw [nI_clamp (by omega)]
  exact hK
set_option maxRecDepth 4000 in
theorem item_5 {d : Nat} {σ : zSt} {i : Int32} {k : Nat} {K : Option Value → zSt → Prop} (hI : zQI (kA 5) σ.2.2) (e : i = nI k) (hk : k < 8) (hK : K (some (.int (σ.1 5 k))) σ) : zSp zx (d + 1) mX8_item [.ref 5, .int i] σ K := by
  refine ⟨⟨by decide, Nat.le_of_ble_eq_true rfl⟩, fun V hV => ?_⟩
  subst e
  refine zq (σ := σ) hV hI rfl 4 ?_
  show ((nI k) < 0 → V 20 [(0, .ref 5), (1, .int (nI k))] [] σ) ∧ (¬ (nI k) < 0 → V 8 [(0, .ref 5), (1, .int (nI k))] [] σ)
  refine ⟨fun hc => absurd hc (nI_pos (by omega)), fun _ => ?_⟩
  refine zq (σ := σ) hV hI rfl 4 ?_
  show (8 ≤ (nI k) → V 20 [(0, .ref 5), (1, .int (nI k))] [] σ) ∧ (¬ 8 ≤ (nI k) → V 14 [(0, .ref 5), (1, .int (nI k))] [] σ)
  refine ⟨fun hc => absurd hc (show ¬ nI 8 ≤ nI k from nI_ge hk (by decide)), fun _ => ?_⟩
  refine zq (σ := σ) hV hI rfl 3 ?_
  show vp_in (nI k) 8 ∧ V 17 [(0, .ref 5), (1, .int (nI k))] [.int (σ.1 5 (Int32.toNatClampNeg (nI k)))] σ
  refine ⟨vp_in_nI hk (by decide), ?_⟩
  refine zq (σ := σ) hV hI rfl 2 ?_
  show K (some (.int (σ.1 5 (Int32.toNatClampNeg (nI k))))) σ
  rw [nI_clamp (by omega)]
  exact hK
set_option maxRecDepth 4000 in
theorem setItem_5 {d : Nat} {σ : zSt} {i v : Int32} {k : Nat} {K : Option Value → zSt → Prop} (hI : zQI (kA 5) σ.2.2) (e : i = nI k) (hk : k < 8) (hK : K none (zuI σ 5 k v)) : zSp zx (d + 1) mX8_setItem [.ref 5, .int i, .int v] σ K := by
  refine ⟨⟨by decide, Nat.le_of_ble_eq_true rfl⟩, fun V hV => ?_⟩
  subst e
  refine zq (σ := σ) hV hI rfl 4 ?_
  show ((nI k) < 0 → V 18 [(0, .ref 5), (1, .int (nI k)), (2, .int v)] [] σ) ∧ (¬ (nI k) < 0 → V 8 [(0, .ref 5), (1, .int (nI k)), (2, .int v)] [] σ)
  refine ⟨fun hc => absurd hc (nI_pos (by omega)), fun _ => ?_⟩
  refine zq (σ := σ) hV hI rfl 4 ?_
  show (8 ≤ (nI k) → V 18 [(0, .ref 5), (1, .int (nI k)), (2, .int v)] [] σ) ∧ (¬ 8 ≤ (nI k) → V 14 [(0, .ref 5), (1, .int (nI k)), (2, .int v)] [] σ)
  refine ⟨fun hc => absurd hc (show ¬ nI 8 ≤ nI k from nI_ge hk (by decide)), fun _ => ?_⟩
  refine zq (σ := σ) hV hI rfl 4 ?_
  show vp_in (nI k) 8 ∧ V 18 [(0, .ref 5), (1, .int (nI k)), (2, .int v)] [] (zuI σ 5 (Int32.toNatClampNeg (nI k)) v)
  refine ⟨vp_in_nI hk (by decide), ?_⟩
  refine zq (σ := (zuI σ 5 (Int32.toNatClampNeg (nI k)) v)) hV hI rfl 1 ?_
  show K none (zuI σ 5 (Int32.toNatClampNeg (nI k)) v)
  rw [nI_clamp (by omega)]
  exact hK
set_option maxRecDepth 4000 in
theorem item_6 {d : Nat} {σ : zSt} {i : Int32} {k : Nat} {K : Option Value → zSt → Prop} (hI : zQI (kA 6) σ.2.2) (e : i = nI k) (hk : k < 8) (hK : K (some (.int (σ.1 6 k))) σ) : zSp zx (d + 1) mX8_item [.ref 6, .int i] σ K := by
  refine ⟨⟨by decide, Nat.le_of_ble_eq_true rfl⟩, fun V hV => ?_⟩
  subst e
  refine zq (σ := σ) hV hI rfl 4 ?_
  show ((nI k) < 0 → V 20 [(0, .ref 6), (1, .int (nI k))] [] σ) ∧ (¬ (nI k) < 0 → V 8 [(0, .ref 6), (1, .int (nI k))] [] σ)
  refine ⟨fun hc => absurd hc (nI_pos (by omega)), fun _ => ?_⟩
  refine zq (σ := σ) hV hI rfl 4 ?_
  show (8 ≤ (nI k) → V 20 [(0, .ref 6), (1, .int (nI k))] [] σ) ∧ (¬ 8 ≤ (nI k) → V 14 [(0, .ref 6), (1, .int (nI k))] [] σ)
  refine ⟨fun hc => absurd hc (show ¬ nI 8 ≤ nI k from nI_ge hk (by decide)), fun _ => ?_⟩
  refine zq (σ := σ) hV hI rfl 3 ?_
  show vp_in (nI k) 8 ∧ V 17 [(0, .ref 6), (1, .int (nI k))] [.int (σ.1 6 (Int32.toNatClampNeg (nI k)))] σ
  refine ⟨vp_in_nI hk (by decide), ?_⟩
  refine zq (σ := σ) hV hI rfl 2 ?_
  show K (some (.int (σ.1 6 (Int32.toNatClampNeg (nI k))))) σ
  rw [nI_clamp (by omega)]
  exact hK
set_option maxRecDepth 4000 in
theorem setItem_6 {d : Nat} {σ : zSt} {i v : Int32} {k : Nat} {K : Option Value → zSt → Prop} (hI : zQI (kA 6) σ.2.2) (e : i = nI k) (hk : k < 8) (hK : K none (zuI σ 6 k v)) : zSp zx (d + 1) mX8_setItem [.ref 6, .int i, .int v] σ K := by
  refine ⟨⟨by decide, Nat.le_of_ble_eq_true rfl⟩, fun V hV => ?_⟩
  subst e
  refine zq (σ := σ) hV hI rfl 4 ?_
  show ((nI k) < 0 → V 18 [(0, .ref 6), (1, .int (nI k)), (2, .int v)] [] σ) ∧ (¬ (nI k) < 0 → V 8 [(0, .ref 6), (1, .int (nI k)), (2, .int v)] [] σ)
  refine ⟨fun hc => absurd hc (nI_pos (by omega)), fun _ => ?_⟩
  refine zq (σ := σ) hV hI rfl 4 ?_
  show (8 ≤ (nI k) → V 18 [(0, .ref 6), (1, .int (nI k)), (2, .int v)] [] σ) ∧ (¬ 8 ≤ (nI k) → V 14 [(0, .ref 6), (1, .int (nI k)), (2, .int v)] [] σ)
  refine ⟨fun hc => absurd hc (show ¬ nI 8 ≤ nI k from nI_ge hk (by decide)), fun _ => ?_⟩
  refine zq (σ := σ) hV hI rfl 4 ?_
  show vp_in (nI k) 8 ∧ V 18 [(0, .ref 6), (1, .int (nI k)), (2, .int v)] [] (zuI σ 6 (Int32.toNatClampNeg (nI k)) v)
  refine ⟨vp_in_nI hk (by decide), ?_⟩
  refine zq (σ := (zuI σ 6 (Int32.toNatClampNeg (nI k)) v)) hV hI rfl 1 ?_
  show K none (zuI σ 6 (Int32.toNatClampNeg (nI k)) v)
  rw [nI_clamp (by omega)]
  exact hK
set_option maxRecDepth 4000 in
theorem item_8 {d : Nat} {σ : zSt} {i : Int32} {k : Nat} {K : Option Value → zSt → Prop} (hI : zQI (kA 8) σ.2.2) (e : i = nI k) (hk : k < 8) (hK : K (some (.int (σ.1 8 k))) σ) : zSp zx (d + 1) mX8_item [.ref 8, .int i] σ K := by
  refine ⟨⟨by decide, Nat.le_of_ble_eq_true rfl⟩, fun V hV => ?_⟩
  subst e
  refine zq (σ := σ) hV hI rfl 4 ?_
  show ((nI k) < 0 → V 20 [(0, .ref 8), (1, .int (nI k))] [] σ) ∧ (¬ (nI k) < 0 → V 8 [(0, .ref 8), (1, .int (nI k))] [] σ)
  refine ⟨fun hc => absurd hc (nI_pos (by omega)), fun _ => ?_⟩
  refine zq (σ := σ) hV hI rfl 4 ?_
  show (8 ≤ (nI k) → V 20 [(0, .ref 8), (1, .int (nI k))] [] σ) ∧ (¬ 8 ≤ (nI k) → V 14 [(0, .ref 8), (1, .int (nI k))] [] σ)
  refine ⟨fun hc => absurd hc (show ¬ nI 8 ≤ nI k from nI_ge hk (by decide)), fun _ => ?_⟩
  refine zq (σ := σ) hV hI rfl 3 ?_
  show vp_in (nI k) 8 ∧ V 17 [(0, .ref 8), (1, .int (nI k))] [.int (σ.1 8 (Int32.toNatClampNeg (nI k)))] σ
  refine ⟨vp_in_nI hk (by decide), ?_⟩
  refine zq (σ := σ) hV hI rfl 2 ?_
  show K (some (.int (σ.1 8 (Int32.toNatClampNeg (nI k))))) σ
  rw [nI_clamp (by omega)]
  exact hK
set_option maxRecDepth 4000 in
theorem setItem_8 {d : Nat} {σ : zSt} {i v : Int32} {k : Nat} {K : Option Value → zSt → Prop} (hI : zQI (kA 8) σ.2.2) (e : i = nI k) (hk : k < 8) (hK : K none (zuI σ 8 k v)) : zSp zx (d + 1) mX8_setItem [.ref 8, .int i, .int v] σ K := by
  refine ⟨⟨by decide, Nat.le_of_ble_eq_true rfl⟩, fun V hV => ?_⟩
  subst e
  refine zq (σ := σ) hV hI rfl 4 ?_
  show ((nI k) < 0 → V 18 [(0, .ref 8), (1, .int (nI k)), (2, .int v)] [] σ) ∧ (¬ (nI k) < 0 → V 8 [(0, .ref 8), (1, .int (nI k)), (2, .int v)] [] σ)
  refine ⟨fun hc => absurd hc (nI_pos (by omega)), fun _ => ?_⟩
  refine zq (σ := σ) hV hI rfl 4 ?_
  show (8 ≤ (nI k) → V 18 [(0, .ref 8), (1, .int (nI k)), (2, .int v)] [] σ) ∧ (¬ 8 ≤ (nI k) → V 14 [(0, .ref 8), (1, .int (nI k)), (2, .int v)] [] σ)
  refine ⟨fun hc => absurd hc (show ¬ nI 8 ≤ nI k from nI_ge hk (by decide)), fun _ => ?_⟩
  refine zq (σ := σ) hV hI rfl 4 ?_
  show vp_in (nI k) 8 ∧ V 18 [(0, .ref 8), (1, .int (nI k)), (2, .int v)] [] (zuI σ 8 (Int32.toNatClampNeg (nI k)) v)
  refine ⟨vp_in_nI hk (by decide), ?_⟩
  refine zq (σ := (zuI σ 8 (Int32.toNatClampNeg (nI k)) v)) hV hI rfl 1 ?_
  show K none (zuI σ 8 (Int32.toNatClampNeg (nI k)) v)
  rw [nI_clamp (by omega)]
  exact hK
set_option maxRecDepth 4000 in
theorem item_9 {d : Nat} {σ : zSt} {i : Int32} {k : Nat} {K : Option Value → zSt → Prop} (hI : zQI (kA 9) σ.2.2) (e : i = nI k) (hk : k < 8) (hK : K (some (.int (σ.1 9 k))) σ) : zSp zx (d + 1) mX8_item [.ref 9, .int i] σ K := by
  refine ⟨⟨by decide, Nat.le_of_ble_eq_true rfl⟩, fun V hV => ?_⟩
  subst e
  refine zq (σ := σ) hV hI rfl 4 ?_
  show ((nI k) < 0 → V 20 [(0, .ref 9), (1, .int (nI k))] [] σ) ∧ (¬ (nI k) < 0 → V 8 [(0, .ref 9), (1, .int (nI k))] [] σ)
  refine ⟨fun hc => absurd hc (nI_pos (by omega)), fun _ => ?_⟩
  refine zq (σ := σ) hV hI rfl 4 ?_
  show (8 ≤ (nI k) → V 20 [(0, .ref 9), (1, .int (nI k))] [] σ) ∧ (¬ 8 ≤ (nI k) → V 14 [(0, .ref 9), (1, .int (nI k))] [] σ)
  refine ⟨fun hc => absurd hc (show ¬ nI 8 ≤ nI k from nI_ge hk (by decide)), fun _ => ?_⟩
  refine zq (σ := σ) hV hI rfl 3 ?_
  show vp_in (nI k) 8 ∧ V 17 [(0, .ref 9), (1, .int (nI k))] [.int (σ.1 9 (Int32.toNatClampNeg (nI k)))] σ
  refine ⟨vp_in_nI hk (by decide), ?_⟩
  refine zq (σ := σ) hV hI rfl 2 ?_
  show K (some (.int (σ.1 9 (Int32.toNatClampNeg (nI k))))) σ
  rw [nI_clamp (by omega)]
  exact hK
set_option maxRecDepth 4000 in
theorem setItem_9 {d : Nat} {σ : zSt} {i v : Int32} {k : Nat} {K : Option Value → zSt → Prop} (hI : zQI (kA 9) σ.2.2) (e : i = nI k) (hk : k < 8) (hK : K none (zuI σ 9 k v)) : zSp zx (d + 1) mX8_setItem [.ref 9, .int i, .int v] σ K := by
  refine ⟨⟨by decide, Nat.le_of_ble_eq_true rfl⟩, fun V hV => ?_⟩
  subst e
  refine zq (σ := σ) hV hI rfl 4 ?_
  show ((nI k) < 0 → V 18 [(0, .ref 9), (1, .int (nI k)), (2, .int v)] [] σ) ∧ (¬ (nI k) < 0 → V 8 [(0, .ref 9), (1, .int (nI k)), (2, .int v)] [] σ)
  refine ⟨fun hc => absurd hc (nI_pos (by omega)), fun _ => ?_⟩
  refine zq (σ := σ) hV hI rfl 4 ?_
  show (8 ≤ (nI k) → V 18 [(0, .ref 9), (1, .int (nI k)), (2, .int v)] [] σ) ∧ (¬ 8 ≤ (nI k) → V 14 [(0, .ref 9), (1, .int (nI k)), (2, .int v)] [] σ)
  refine ⟨fun hc => absurd hc (show ¬ nI 8 ≤ nI k from nI_ge hk (by decide)), fun _ => ?_⟩
  refine zq (σ := σ) hV hI rfl 4 ?_
  show vp_in (nI k) 8 ∧ V 18 [(0, .ref 9), (1, .int (nI k)), (2, .int v)] [] (zuI σ 9 (Int32.toNatClampNeg (nI k)) v)
  refine ⟨vp_in_nI hk (by decide), ?_⟩
  refine zq (σ := (zuI σ 9 (Int32.toNatClampNeg (nI k)) v)) hV hI rfl 1 ?_
  show K none (zuI σ 9 (Int32.toNatClampNeg (nI k)) v)
  rw [nI_clamp (by omega)]
  exact hK
set_option maxRecDepth 4000 in
theorem item_11 {d : Nat} {σ : zSt} {i : Int32} {k : Nat} {K : Option Value → zSt → Prop} (hI : zQI (kA 11) σ.2.2) (e : i = nI k) (hk : k < 16) (hK : K (some (.int (σ.1 11 k))) σ) : zSp zx (d + 1) mX8_item [.ref 11, .int i] σ K := by
  refine ⟨⟨by decide, Nat.le_of_ble_eq_true rfl⟩, fun V hV => ?_⟩
  subst e
  refine zq (σ := σ) hV hI rfl 4 ?_
  show ((nI k) < 0 → V 20 [(0, .ref 11), (1, .int (nI k))] [] σ) ∧ (¬ (nI k) < 0 → V 8 [(0, .ref 11), (1, .int (nI k))] [] σ)
  refine ⟨fun hc => absurd hc (nI_pos (by omega)), fun _ => ?_⟩
  refine zq (σ := σ) hV hI rfl 4 ?_
  show (16 ≤ (nI k) → V 20 [(0, .ref 11), (1, .int (nI k))] [] σ) ∧ (¬ 16 ≤ (nI k) → V 14 [(0, .ref 11), (1, .int (nI k))] [] σ)
  refine ⟨fun hc => absurd hc (show ¬ nI 16 ≤ nI k from nI_ge hk (by decide)), fun _ => ?_⟩
  refine zq (σ := σ) hV hI rfl 3 ?_
  show vp_in (nI k) 16 ∧ V 17 [(0, .ref 11), (1, .int (nI k))] [.int (σ.1 11 (Int32.toNatClampNeg (nI k)))] σ
  refine ⟨vp_in_nI hk (by decide), ?_⟩
  refine zq (σ := σ) hV hI rfl 2 ?_
  show K (some (.int (σ.1 11 (Int32.toNatClampNeg (nI k))))) σ
  rw [nI_clamp (by omega)]
  exact hK
set_option maxRecDepth 4000 in
theorem setItem_11 {d : Nat} {σ : zSt} {i v : Int32} {k : Nat} {K : Option Value → zSt → Prop} (hI : zQI (kA 11) σ.2.2) (e : i = nI k) (hk : k < 16) (hK : K none (zuI σ 11 k v)) : zSp zx (d + 1) mX8_setItem [.ref 11, .int i, .int v] σ K := by
  refine ⟨⟨by decide, Nat.le_of_ble_eq_true rfl⟩, fun V hV => ?_⟩
  subst e
  refine zq (σ := σ) hV hI rfl 4 ?_
  show ((nI k) < 0 → V 18 [(0, .ref 11), (1, .int (nI k)), (2, .int v)] [] σ) ∧ (¬ (nI k) < 0 → V 8 [(0, .ref 11), (1, .int (nI k)), (2, .int v)] [] σ)
  refine ⟨fun hc => absurd hc (nI_pos (by omega)), fun _ => ?_⟩
  refine zq (σ := σ) hV hI rfl 4 ?_
  show (16 ≤ (nI k) → V 18 [(0, .ref 11), (1, .int (nI k)), (2, .int v)] [] σ) ∧ (¬ 16 ≤ (nI k) → V 14 [(0, .ref 11), (1, .int (nI k)), (2, .int v)] [] σ)
  refine ⟨fun hc => absurd hc (show ¬ nI 16 ≤ nI k from nI_ge hk (by decide)), fun _ => ?_⟩
  refine zq (σ := σ) hV hI rfl 4 ?_
  show vp_in (nI k) 16 ∧ V 18 [(0, .ref 11), (1, .int (nI k)), (2, .int v)] [] (zuI σ 11 (Int32.toNatClampNeg (nI k)) v)
  refine ⟨vp_in_nI hk (by decide), ?_⟩
  refine zq (σ := (zuI σ 11 (Int32.toNatClampNeg (nI k)) v)) hV hI rfl 1 ?_
  show K none (zuI σ 11 (Int32.toNatClampNeg (nI k)) v)
  rw [nI_clamp (by omega)]
  exact hK
set_option maxRecDepth 4000 in
theorem item_12 {d : Nat} {σ : zSt} {i : Int32} {k : Nat} {K : Option Value → zSt → Prop} (hI : zQI (kA 12) σ.2.2) (e : i = nI k) (hk : k < 16) (hK : K (some (.int (σ.1 12 k))) σ) : zSp zx (d + 1) mX8_item [.ref 12, .int i] σ K := by
  refine ⟨⟨by decide, Nat.le_of_ble_eq_true rfl⟩, fun V hV => ?_⟩
  subst e
  refine zq (σ := σ) hV hI rfl 4 ?_
  show ((nI k) < 0 → V 20 [(0, .ref 12), (1, .int (nI k))] [] σ) ∧ (¬ (nI k) < 0 → V 8 [(0, .ref 12), (1, .int (nI k))] [] σ)
  refine ⟨fun hc => absurd hc (nI_pos (by omega)), fun _ => ?_⟩
  refine zq (σ := σ) hV hI rfl 4 ?_
  show (16 ≤ (nI k) → V 20 [(0, .ref 12), (1, .int (nI k))] [] σ) ∧ (¬ 16 ≤ (nI k) → V 14 [(0, .ref 12), (1, .int (nI k))] [] σ)
  refine ⟨fun hc => absurd hc (show ¬ nI 16 ≤ nI k from nI_ge hk (by decide)), fun _ => ?_⟩
  refine zq (σ := σ) hV hI rfl 3 ?_
  show vp_in (nI k) 16 ∧ V 17 [(0, .ref 12), (1, .int (nI k))] [.int (σ.1 12 (Int32.toNatClampNeg (nI k)))] σ
  refine ⟨vp_in_nI hk (by decide), ?_⟩
  refine zq (σ := σ) hV hI rfl 2 ?_
  show K (some (.int (σ.1 12 (Int32.toNatClampNeg (nI k))))) σ
  rw [nI_clamp (by omega)]
  exact hK
set_option maxRecDepth 4000 in
theorem setItem_12 {d : Nat} {σ : zSt} {i v : Int32} {k : Nat} {K : Option Value → zSt → Prop} (hI : zQI (kA 12) σ.2.2) (e : i = nI k) (hk : k < 16) (hK : K none (zuI σ 12 k v)) : zSp zx (d + 1) mX8_setItem [.ref 12, .int i, .int v] σ K := by
  refine ⟨⟨by decide, Nat.le_of_ble_eq_true rfl⟩, fun V hV => ?_⟩
  subst e
  refine zq (σ := σ) hV hI rfl 4 ?_
  show ((nI k) < 0 → V 18 [(0, .ref 12), (1, .int (nI k)), (2, .int v)] [] σ) ∧ (¬ (nI k) < 0 → V 8 [(0, .ref 12), (1, .int (nI k)), (2, .int v)] [] σ)
  refine ⟨fun hc => absurd hc (nI_pos (by omega)), fun _ => ?_⟩
  refine zq (σ := σ) hV hI rfl 4 ?_
  show (16 ≤ (nI k) → V 18 [(0, .ref 12), (1, .int (nI k)), (2, .int v)] [] σ) ∧ (¬ 16 ≤ (nI k) → V 14 [(0, .ref 12), (1, .int (nI k)), (2, .int v)] [] σ)
  refine ⟨fun hc => absurd hc (show ¬ nI 16 ≤ nI k from nI_ge hk (by decide)), fun _ => ?_⟩
  refine zq (σ := σ) hV hI rfl 4 ?_
  show vp_in (nI k) 16 ∧ V 18 [(0, .ref 12), (1, .int (nI k)), (2, .int v)] [] (zuI σ 12 (Int32.toNatClampNeg (nI k)) v)
  refine ⟨vp_in_nI hk (by decide), ?_⟩
  refine zq (σ := (zuI σ 12 (Int32.toNatClampNeg (nI k)) v)) hV hI rfl 1 ?_
  show K none (zuI σ 12 (Int32.toNatClampNeg (nI k)) v)
  rw [nI_clamp (by omega)]
  exact hK
set_option maxRecDepth 4000 in
theorem item_13 {d : Nat} {σ : zSt} {i : Int32} {k : Nat} {K : Option Value → zSt → Prop} (hI : zQI (kA 13) σ.2.2) (e : i = nI k) (hk : k < 16) (hK : K (some (.int (σ.1 13 k))) σ) : zSp zx (d + 1) mX8_item [.ref 13, .int i] σ K := by
  refine ⟨⟨by decide, Nat.le_of_ble_eq_true rfl⟩, fun V hV => ?_⟩
  subst e
  refine zq (σ := σ) hV hI rfl 4 ?_
  show ((nI k) < 0 → V 20 [(0, .ref 13), (1, .int (nI k))] [] σ) ∧ (¬ (nI k) < 0 → V 8 [(0, .ref 13), (1, .int (nI k))] [] σ)
  refine ⟨fun hc => absurd hc (nI_pos (by omega)), fun _ => ?_⟩
  refine zq (σ := σ) hV hI rfl 4 ?_
  show (16 ≤ (nI k) → V 20 [(0, .ref 13), (1, .int (nI k))] [] σ) ∧ (¬ 16 ≤ (nI k) → V 14 [(0, .ref 13), (1, .int (nI k))] [] σ)
  refine ⟨fun hc => absurd hc (show ¬ nI 16 ≤ nI k from nI_ge hk (by decide)), fun _ => ?_⟩
  refine zq (σ := σ) hV hI rfl 3 ?_
  show vp_in (nI k) 16 ∧ V 17 [(0, .ref 13), (1, .int (nI k))] [.int (σ.1 13 (Int32.toNatClampNeg (nI k)))] σ
  refine ⟨vp_in_nI hk (by decide), ?_⟩
  refine zq (σ := σ) hV hI rfl 2 ?_
  show K (some (.int (σ.1 13 (Int32.toNatClampNeg (nI k))))) σ
  rw [nI_clamp (by omega)]
  exact hK
set_option maxRecDepth 4000 in
theorem setItem_13 {d : Nat} {σ : zSt} {i v : Int32} {k : Nat} {K : Option Value → zSt → Prop} (hI : zQI (kA 13) σ.2.2) (e : i = nI k) (hk : k < 16) (hK : K none (zuI σ 13 k v)) : zSp zx (d + 1) mX8_setItem [.ref 13, .int i, .int v] σ K := by
  refine ⟨⟨by decide, Nat.le_of_ble_eq_true rfl⟩, fun V hV => ?_⟩
  subst e
  refine zq (σ := σ) hV hI rfl 4 ?_
  show ((nI k) < 0 → V 18 [(0, .ref 13), (1, .int (nI k)), (2, .int v)] [] σ) ∧ (¬ (nI k) < 0 → V 8 [(0, .ref 13), (1, .int (nI k)), (2, .int v)] [] σ)
  refine ⟨fun hc => absurd hc (nI_pos (by omega)), fun _ => ?_⟩
  refine zq (σ := σ) hV hI rfl 4 ?_
  show (16 ≤ (nI k) → V 18 [(0, .ref 13), (1, .int (nI k)), (2, .int v)] [] σ) ∧ (¬ 16 ≤ (nI k) → V 14 [(0, .ref 13), (1, .int (nI k)), (2, .int v)] [] σ)
  refine ⟨fun hc => absurd hc (show ¬ nI 16 ≤ nI k from nI_ge hk (by decide)), fun _ => ?_⟩
  refine zq (σ := σ) hV hI rfl 4 ?_
  show vp_in (nI k) 16 ∧ V 18 [(0, .ref 13), (1, .int (nI k)), (2, .int v)] [] (zuI σ 13 (Int32.toNatClampNeg (nI k)) v)
  refine ⟨vp_in_nI hk (by decide), ?_⟩
  refine zq (σ := (zuI σ 13 (Int32.toNatClampNeg (nI k)) v)) hV hI rfl 1 ?_
  show K none (zuI σ 13 (Int32.toNatClampNeg (nI k)) v)
  rw [nI_clamp (by omega)]
  exact hK
set_option maxRecDepth 4000 in
theorem item_15 {d : Nat} {σ : zSt} {i : Int32} {k : Nat} {K : Option Value → zSt → Prop} (hI : zQI (kA 15) σ.2.2) (e : i = nI k) (hk : k < 7) (hK : K (some (.int (σ.1 15 k))) σ) : zSp zx (d + 1) mX8_item [.ref 15, .int i] σ K := by
  refine ⟨⟨by decide, Nat.le_of_ble_eq_true rfl⟩, fun V hV => ?_⟩
  subst e
  refine zq (σ := σ) hV hI rfl 4 ?_
  show ((nI k) < 0 → V 20 [(0, .ref 15), (1, .int (nI k))] [] σ) ∧ (¬ (nI k) < 0 → V 8 [(0, .ref 15), (1, .int (nI k))] [] σ)
  refine ⟨fun hc => absurd hc (nI_pos (by omega)), fun _ => ?_⟩
  refine zq (σ := σ) hV hI rfl 4 ?_
  show (7 ≤ (nI k) → V 20 [(0, .ref 15), (1, .int (nI k))] [] σ) ∧ (¬ 7 ≤ (nI k) → V 14 [(0, .ref 15), (1, .int (nI k))] [] σ)
  refine ⟨fun hc => absurd hc (show ¬ nI 7 ≤ nI k from nI_ge hk (by decide)), fun _ => ?_⟩
  refine zq (σ := σ) hV hI rfl 3 ?_
  show vp_in (nI k) 7 ∧ V 17 [(0, .ref 15), (1, .int (nI k))] [.int (σ.1 15 (Int32.toNatClampNeg (nI k)))] σ
  refine ⟨vp_in_nI hk (by decide), ?_⟩
  refine zq (σ := σ) hV hI rfl 2 ?_
  show K (some (.int (σ.1 15 (Int32.toNatClampNeg (nI k))))) σ
  rw [nI_clamp (by omega)]
  exact hK
set_option maxRecDepth 4000 in
theorem setItem_15 {d : Nat} {σ : zSt} {i v : Int32} {k : Nat} {K : Option Value → zSt → Prop} (hI : zQI (kA 15) σ.2.2) (e : i = nI k) (hk : k < 7) (hK : K none (zuI σ 15 k v)) : zSp zx (d + 1) mX8_setItem [.ref 15, .int i, .int v] σ K := by
  refine ⟨⟨by decide, Nat.le_of_ble_eq_true rfl⟩, fun V hV => ?_⟩
  subst e
  refine zq (σ := σ) hV hI rfl 4 ?_
  show ((nI k) < 0 → V 18 [(0, .ref 15), (1, .int (nI k)), (2, .int v)] [] σ) ∧ (¬ (nI k) < 0 → V 8 [(0, .ref 15), (1, .int (nI k)), (2, .int v)] [] σ)
  refine ⟨fun hc => absurd hc (nI_pos (by omega)), fun _ => ?_⟩
  refine zq (σ := σ) hV hI rfl 4 ?_
  show (7 ≤ (nI k) → V 18 [(0, .ref 15), (1, .int (nI k)), (2, .int v)] [] σ) ∧ (¬ 7 ≤ (nI k) → V 14 [(0, .ref 15), (1, .int (nI k)), (2, .int v)] [] σ)
  refine ⟨fun hc => absurd hc (show ¬ nI 7 ≤ nI k from nI_ge hk (by decide)), fun _ => ?_⟩
  refine zq (σ := σ) hV hI rfl 4 ?_
  show vp_in (nI k) 7 ∧ V 18 [(0, .ref 15), (1, .int (nI k)), (2, .int v)] [] (zuI σ 15 (Int32.toNatClampNeg (nI k)) v)
  refine ⟨vp_in_nI hk (by decide), ?_⟩
  refine zq (σ := (zuI σ 15 (Int32.toNatClampNeg (nI k)) v)) hV hI rfl 1 ?_
  show K none (zuI σ 15 (Int32.toNatClampNeg (nI k)) v)
  rw [nI_clamp (by omega)]
  exact hK
set_option maxRecDepth 4000 in
theorem item_16 {d : Nat} {σ : zSt} {i : Int32} {k : Nat} {K : Option Value → zSt → Prop} (hI : zQI (kA 16) σ.2.2) (e : i = nI k) (hk : k < 7) (hK : K (some (.int (σ.1 16 k))) σ) : zSp zx (d + 1) mX8_item [.ref 16, .int i] σ K := by
  refine ⟨⟨by decide, Nat.le_of_ble_eq_true rfl⟩, fun V hV => ?_⟩
  subst e
  refine zq (σ := σ) hV hI rfl 4 ?_
  show ((nI k) < 0 → V 20 [(0, .ref 16), (1, .int (nI k))] [] σ) ∧ (¬ (nI k) < 0 → V 8 [(0, .ref 16), (1, .int (nI k))] [] σ)
  refine ⟨fun hc => absurd hc (nI_pos (by omega)), fun _ => ?_⟩
  refine zq (σ := σ) hV hI rfl 4 ?_
  show (7 ≤ (nI k) → V 20 [(0, .ref 16), (1, .int (nI k))] [] σ) ∧ (¬ 7 ≤ (nI k) → V 14 [(0, .ref 16), (1, .int (nI k))] [] σ)
  refine ⟨fun hc => absurd hc (show ¬ nI 7 ≤ nI k from nI_ge hk (by decide)), fun _ => ?_⟩
  refine zq (σ := σ) hV hI rfl 3 ?_
  show vp_in (nI k) 7 ∧ V 17 [(0, .ref 16), (1, .int (nI k))] [.int (σ.1 16 (Int32.toNatClampNeg (nI k)))] σ
  refine ⟨vp_in_nI hk (by decide), ?_⟩
  refine zq (σ := σ) hV hI rfl 2 ?_
  show K (some (.int (σ.1 16 (Int32.toNatClampNeg (nI k))))) σ
  rw [nI_clamp (by omega)]
  exact hK
set_option maxRecDepth 4000 in
theorem setItem_16 {d : Nat} {σ : zSt} {i v : Int32} {k : Nat} {K : Option Value → zSt → Prop} (hI : zQI (kA 16) σ.2.2) (e : i = nI k) (hk : k < 7) (hK : K none (zuI σ 16 k v)) : zSp zx (d + 1) mX8_setItem [.ref 16, .int i, .int v] σ K := by
  refine ⟨⟨by decide, Nat.le_of_ble_eq_true rfl⟩, fun V hV => ?_⟩
  subst e
  refine zq (σ := σ) hV hI rfl 4 ?_
  show ((nI k) < 0 → V 18 [(0, .ref 16), (1, .int (nI k)), (2, .int v)] [] σ) ∧ (¬ (nI k) < 0 → V 8 [(0, .ref 16), (1, .int (nI k)), (2, .int v)] [] σ)
  refine ⟨fun hc => absurd hc (nI_pos (by omega)), fun _ => ?_⟩
  refine zq (σ := σ) hV hI rfl 4 ?_
  show (7 ≤ (nI k) → V 18 [(0, .ref 16), (1, .int (nI k)), (2, .int v)] [] σ) ∧ (¬ 7 ≤ (nI k) → V 14 [(0, .ref 16), (1, .int (nI k)), (2, .int v)] [] σ)
  refine ⟨fun hc => absurd hc (show ¬ nI 7 ≤ nI k from nI_ge hk (by decide)), fun _ => ?_⟩
  refine zq (σ := σ) hV hI rfl 4 ?_
  show vp_in (nI k) 7 ∧ V 18 [(0, .ref 16), (1, .int (nI k)), (2, .int v)] [] (zuI σ 16 (Int32.toNatClampNeg (nI k)) v)
  refine ⟨vp_in_nI hk (by decide), ?_⟩
  refine zq (σ := (zuI σ 16 (Int32.toNatClampNeg (nI k)) v)) hV hI rfl 1 ?_
  show K none (zuI σ 16 (Int32.toNatClampNeg (nI k)) v)
  rw [nI_clamp (by omega)]
  exact hK
set_option maxRecDepth 4000 in
theorem item_17 {d : Nat} {σ : zSt} {i : Int32} {k : Nat} {K : Option Value → zSt → Prop} (hI : zQI (kA 17) σ.2.2) (e : i = nI k) (hk : k < 7) (hK : K (some (.int (σ.1 17 k))) σ) : zSp zx (d + 1) mX8_item [.ref 17, .int i] σ K := by
  refine ⟨⟨by decide, Nat.le_of_ble_eq_true rfl⟩, fun V hV => ?_⟩
  subst e
  refine zq (σ := σ) hV hI rfl 4 ?_
  show ((nI k) < 0 → V 20 [(0, .ref 17), (1, .int (nI k))] [] σ) ∧ (¬ (nI k) < 0 → V 8 [(0, .ref 17), (1, .int (nI k))] [] σ)
  refine ⟨fun hc => absurd hc (nI_pos (by omega)), fun _ => ?_⟩
  refine zq (σ := σ) hV hI rfl 4 ?_
  show (7 ≤ (nI k) → V 20 [(0, .ref 17), (1, .int (nI k))] [] σ) ∧ (¬ 7 ≤ (nI k) → V 14 [(0, .ref 17), (1, .int (nI k))] [] σ)
  refine ⟨fun hc => absurd hc (show ¬ nI 7 ≤ nI k from nI_ge hk (by decide)), fun _ => ?_⟩
  refine zq (σ := σ) hV hI rfl 3 ?_
  show vp_in (nI k) 7 ∧ V 17 [(0, .ref 17), (1, .int (nI k))] [.int (σ.1 17 (Int32.toNatClampNeg (nI k)))] σ
  refine ⟨vp_in_nI hk (by decide), ?_⟩
  refine zq (σ := σ) hV hI rfl 2 ?_
  show K (some (.int (σ.1 17 (Int32.toNatClampNeg (nI k))))) σ
  rw [nI_clamp (by omega)]
  exact hK
set_option maxRecDepth 4000 in
theorem setItem_17 {d : Nat} {σ : zSt} {i v : Int32} {k : Nat} {K : Option Value → zSt → Prop} (hI : zQI (kA 17) σ.2.2) (e : i = nI k) (hk : k < 7) (hK : K none (zuI σ 17 k v)) : zSp zx (d + 1) mX8_setItem [.ref 17, .int i, .int v] σ K := by
  refine ⟨⟨by decide, Nat.le_of_ble_eq_true rfl⟩, fun V hV => ?_⟩
  subst e
  refine zq (σ := σ) hV hI rfl 4 ?_
  show ((nI k) < 0 → V 18 [(0, .ref 17), (1, .int (nI k)), (2, .int v)] [] σ) ∧ (¬ (nI k) < 0 → V 8 [(0, .ref 17), (1, .int (nI k)), (2, .int v)] [] σ)
  refine ⟨fun hc => absurd hc (nI_pos (by omega)), fun _ => ?_⟩
  refine zq (σ := σ) hV hI rfl 4 ?_
  show (7 ≤ (nI k) → V 18 [(0, .ref 17), (1, .int (nI k)), (2, .int v)] [] σ) ∧ (¬ 7 ≤ (nI k) → V 14 [(0, .ref 17), (1, .int (nI k)), (2, .int v)] [] σ)
  refine ⟨fun hc => absurd hc (show ¬ nI 7 ≤ nI k from nI_ge hk (by decide)), fun _ => ?_⟩
  refine zq (σ := σ) hV hI rfl 4 ?_
  show vp_in (nI k) 7 ∧ V 18 [(0, .ref 17), (1, .int (nI k)), (2, .int v)] [] (zuI σ 17 (Int32.toNatClampNeg (nI k)) v)
  refine ⟨vp_in_nI hk (by decide), ?_⟩
  refine zq (σ := (zuI σ 17 (Int32.toNatClampNeg (nI k)) v)) hV hI rfl 1 ?_
  show K none (zuI σ 17 (Int32.toNatClampNeg (nI k)) v)
  rw [nI_clamp (by omega)]
  exact hK
set_option maxRecDepth 4000 in
theorem item_27 {d : Nat} {σ : zSt} {i : Int32} {k : Nat} {K : Option Value → zSt → Prop} (hI : zQI (kA 27) σ.2.2) (e : i = nI k) (hk : k < 4) (hK : K (some (.int (σ.1 27 k))) σ) : zSp zx (d + 1) mX8_item [.ref 27, .int i] σ K := by
  refine ⟨⟨by decide, Nat.le_of_ble_eq_true rfl⟩, fun V hV => ?_⟩
  subst e
  refine zq (σ := σ) hV hI rfl 4 ?_
  show ((nI k) < 0 → V 20 [(0, .ref 27), (1, .int (nI k))] [] σ) ∧ (¬ (nI k) < 0 → V 8 [(0, .ref 27), (1, .int (nI k))] [] σ)
  refine ⟨fun hc => absurd hc (nI_pos (by omega)), fun _ => ?_⟩
  refine zq (σ := σ) hV hI rfl 4 ?_
  show (4 ≤ (nI k) → V 20 [(0, .ref 27), (1, .int (nI k))] [] σ) ∧ (¬ 4 ≤ (nI k) → V 14 [(0, .ref 27), (1, .int (nI k))] [] σ)
  refine ⟨fun hc => absurd hc (show ¬ nI 4 ≤ nI k from nI_ge hk (by decide)), fun _ => ?_⟩
  refine zq (σ := σ) hV hI rfl 3 ?_
  show vp_in (nI k) 4 ∧ V 17 [(0, .ref 27), (1, .int (nI k))] [.int (σ.1 27 (Int32.toNatClampNeg (nI k)))] σ
  refine ⟨vp_in_nI hk (by decide), ?_⟩
  refine zq (σ := σ) hV hI rfl 2 ?_
  show K (some (.int (σ.1 27 (Int32.toNatClampNeg (nI k))))) σ
  rw [nI_clamp (by omega)]
  exact hK
set_option maxRecDepth 4000 in
theorem setItem_27 {d : Nat} {σ : zSt} {i v : Int32} {k : Nat} {K : Option Value → zSt → Prop} (hI : zQI (kA 27) σ.2.2) (e : i = nI k) (hk : k < 4) (hK : K none (zuI σ 27 k v)) : zSp zx (d + 1) mX8_setItem [.ref 27, .int i, .int v] σ K := by
  refine ⟨⟨by decide, Nat.le_of_ble_eq_true rfl⟩, fun V hV => ?_⟩
  subst e
  refine zq (σ := σ) hV hI rfl 4 ?_
  show ((nI k) < 0 → V 18 [(0, .ref 27), (1, .int (nI k)), (2, .int v)] [] σ) ∧ (¬ (nI k) < 0 → V 8 [(0, .ref 27), (1, .int (nI k)), (2, .int v)] [] σ)
  refine ⟨fun hc => absurd hc (nI_pos (by omega)), fun _ => ?_⟩
  refine zq (σ := σ) hV hI rfl 4 ?_
  show (4 ≤ (nI k) → V 18 [(0, .ref 27), (1, .int (nI k)), (2, .int v)] [] σ) ∧ (¬ 4 ≤ (nI k) → V 14 [(0, .ref 27), (1, .int (nI k)), (2, .int v)] [] σ)
  refine ⟨fun hc => absurd hc (show ¬ nI 4 ≤ nI k from nI_ge hk (by decide)), fun _ => ?_⟩
  refine zq (σ := σ) hV hI rfl 4 ?_
  show vp_in (nI k) 4 ∧ V 18 [(0, .ref 27), (1, .int (nI k)), (2, .int v)] [] (zuI σ 27 (Int32.toNatClampNeg (nI k)) v)
  refine ⟨vp_in_nI hk (by decide), ?_⟩
  refine zq (σ := (zuI σ 27 (Int32.toNatClampNeg (nI k)) v)) hV hI rfl 1 ?_
  show K none (zuI σ 27 (Int32.toNatClampNeg (nI k)) v)
  rw [nI_clamp (by omega)]
  exact hK
set_option maxRecDepth 4000 in
theorem item_28 {d : Nat} {σ : zSt} {i : Int32} {k : Nat} {K : Option Value → zSt → Prop} (hI : zQI (kA 28) σ.2.2) (e : i = nI k) (hk : k < 4) (hK : K (some (.int (σ.1 28 k))) σ) : zSp zx (d + 1) mX8_item [.ref 28, .int i] σ K := by
  refine ⟨⟨by decide, Nat.le_of_ble_eq_true rfl⟩, fun V hV => ?_⟩
  subst e
  refine zq (σ := σ) hV hI rfl 4 ?_
  show ((nI k) < 0 → V 20 [(0, .ref 28), (1, .int (nI k))] [] σ) ∧ (¬ (nI k) < 0 → V 8 [(0, .ref 28), (1, .int (nI k))] [] σ)
  refine ⟨fun hc => absurd hc (nI_pos (by omega)), fun _ => ?_⟩
  refine zq (σ := σ) hV hI rfl 4 ?_
  show (4 ≤ (nI k) → V 20 [(0, .ref 28), (1, .int (nI k))] [] σ) ∧ (¬ 4 ≤ (nI k) → V 14 [(0, .ref 28), (1, .int (nI k))] [] σ)
  refine ⟨fun hc => absurd hc (show ¬ nI 4 ≤ nI k from nI_ge hk (by decide)), fun _ => ?_⟩
  refine zq (σ := σ) hV hI rfl 3 ?_
  show vp_in (nI k) 4 ∧ V 17 [(0, .ref 28), (1, .int (nI k))] [.int (σ.1 28 (Int32.toNatClampNeg (nI k)))] σ
  refine ⟨vp_in_nI hk (by decide), ?_⟩
  refine zq (σ := σ) hV hI rfl 2 ?_
  show K (some (.int (σ.1 28 (Int32.toNatClampNeg (nI k))))) σ
  rw [nI_clamp (by omega)]
  exact hK
set_option maxRecDepth 4000 in
theorem setItem_28 {d : Nat} {σ : zSt} {i v : Int32} {k : Nat} {K : Option Value → zSt → Prop} (hI : zQI (kA 28) σ.2.2) (e : i = nI k) (hk : k < 4) (hK : K none (zuI σ 28 k v)) : zSp zx (d + 1) mX8_setItem [.ref 28, .int i, .int v] σ K := by
  refine ⟨⟨by decide, Nat.le_of_ble_eq_true rfl⟩, fun V hV => ?_⟩
  subst e
  refine zq (σ := σ) hV hI rfl 4 ?_
  show ((nI k) < 0 → V 18 [(0, .ref 28), (1, .int (nI k)), (2, .int v)] [] σ) ∧ (¬ (nI k) < 0 → V 8 [(0, .ref 28), (1, .int (nI k)), (2, .int v)] [] σ)
  refine ⟨fun hc => absurd hc (nI_pos (by omega)), fun _ => ?_⟩
  refine zq (σ := σ) hV hI rfl 4 ?_
  show (4 ≤ (nI k) → V 18 [(0, .ref 28), (1, .int (nI k)), (2, .int v)] [] σ) ∧ (¬ 4 ≤ (nI k) → V 14 [(0, .ref 28), (1, .int (nI k)), (2, .int v)] [] σ)
  refine ⟨fun hc => absurd hc (show ¬ nI 4 ≤ nI k from nI_ge hk (by decide)), fun _ => ?_⟩
  refine zq (σ := σ) hV hI rfl 4 ?_
  show vp_in (nI k) 4 ∧ V 18 [(0, .ref 28), (1, .int (nI k)), (2, .int v)] [] (zuI σ 28 (Int32.toNatClampNeg (nI k)) v)
  refine ⟨vp_in_nI hk (by decide), ?_⟩
  refine zq (σ := (zuI σ 28 (Int32.toNatClampNeg (nI k)) v)) hV hI rfl 1 ?_
  show K none (zuI σ 28 (Int32.toNatClampNeg (nI k)) v)
  rw [nI_clamp (by omega)]
  exact hK
set_option maxRecDepth 4000 in
theorem item_29 {d : Nat} {σ : zSt} {i : Int32} {k : Nat} {K : Option Value → zSt → Prop} (hI : zQI (kA 29) σ.2.2) (e : i = nI k) (hk : k < 240) (hK : K (some (.int (σ.1 29 k))) σ) : zSp zx (d + 1) mX8_item [.ref 29, .int i] σ K := by
  refine ⟨⟨by decide, Nat.le_of_ble_eq_true rfl⟩, fun V hV => ?_⟩
  subst e
  refine zq (σ := σ) hV hI rfl 4 ?_
  show ((nI k) < 0 → V 20 [(0, .ref 29), (1, .int (nI k))] [] σ) ∧ (¬ (nI k) < 0 → V 8 [(0, .ref 29), (1, .int (nI k))] [] σ)
  refine ⟨fun hc => absurd hc (nI_pos (by omega)), fun _ => ?_⟩
  refine zq (σ := σ) hV hI rfl 4 ?_
  show (240 ≤ (nI k) → V 20 [(0, .ref 29), (1, .int (nI k))] [] σ) ∧ (¬ 240 ≤ (nI k) → V 14 [(0, .ref 29), (1, .int (nI k))] [] σ)
  refine ⟨fun hc => absurd hc (show ¬ nI 240 ≤ nI k from nI_ge hk (by decide)), fun _ => ?_⟩
  refine zq (σ := σ) hV hI rfl 3 ?_
  show vp_in (nI k) 240 ∧ V 17 [(0, .ref 29), (1, .int (nI k))] [.int (σ.1 29 (Int32.toNatClampNeg (nI k)))] σ
  refine ⟨vp_in_nI hk (by decide), ?_⟩
  refine zq (σ := σ) hV hI rfl 2 ?_
  show K (some (.int (σ.1 29 (Int32.toNatClampNeg (nI k))))) σ
  rw [nI_clamp (by omega)]
  exact hK
set_option maxRecDepth 4000 in
theorem setItem_29 {d : Nat} {σ : zSt} {i v : Int32} {k : Nat} {K : Option Value → zSt → Prop} (hI : zQI (kA 29) σ.2.2) (e : i = nI k) (hk : k < 240) (hK : K none (zuI σ 29 k v)) : zSp zx (d + 1) mX8_setItem [.ref 29, .int i, .int v] σ K := by
  refine ⟨⟨by decide, Nat.le_of_ble_eq_true rfl⟩, fun V hV => ?_⟩
  subst e
  refine zq (σ := σ) hV hI rfl 4 ?_
  show ((nI k) < 0 → V 18 [(0, .ref 29), (1, .int (nI k)), (2, .int v)] [] σ) ∧ (¬ (nI k) < 0 → V 8 [(0, .ref 29), (1, .int (nI k)), (2, .int v)] [] σ)
  refine ⟨fun hc => absurd hc (nI_pos (by omega)), fun _ => ?_⟩
  refine zq (σ := σ) hV hI rfl 4 ?_
  show (240 ≤ (nI k) → V 18 [(0, .ref 29), (1, .int (nI k)), (2, .int v)] [] σ) ∧ (¬ 240 ≤ (nI k) → V 14 [(0, .ref 29), (1, .int (nI k)), (2, .int v)] [] σ)
  refine ⟨fun hc => absurd hc (show ¬ nI 240 ≤ nI k from nI_ge hk (by decide)), fun _ => ?_⟩
  refine zq (σ := σ) hV hI rfl 4 ?_
  show vp_in (nI k) 240 ∧ V 18 [(0, .ref 29), (1, .int (nI k)), (2, .int v)] [] (zuI σ 29 (Int32.toNatClampNeg (nI k)) v)
  refine ⟨vp_in_nI hk (by decide), ?_⟩
  refine zq (σ := (zuI σ 29 (Int32.toNatClampNeg (nI k)) v)) hV hI rfl 1 ?_
  show K none (zuI σ 29 (Int32.toNatClampNeg (nI k)) v)
  rw [nI_clamp (by omega)]
  exact hK
end
section
variable {zx : Nat × (Nat → Int32)}
set_option maxRecDepth 8000 in
set_option maxHeartbeats 4000000 in
theorem x_ok {d : Nat} {σ : zSt} {K : Option Value → zSt → Prop} {i : Int32} {k : Nat} (hI : zQI (kR 1 4) σ.2.2) (e : i = nI k) (hk : k < 10) (hK : K (some (.int (σ.1 2 k))) σ) : zSp zx (d + 2) mX3_x [.ref 1, .int i] σ K := by
  refine ⟨⟨by decide, Nat.le_of_ble_eq_true rfl⟩, fun V hV => ?_⟩
  subst e
  refine zq (σ := σ) hV hI rfl 4 ?_
  show zSp _ _ 79 [.ref 2, .int (nI k)] σ (fun r σ' => σ'.2.2.2 = σ.2.2.2 + zAl 79 → V 8 [(0, .ref 1), (1, .int (nI k))] (r.toList ++ []) σ')
  refine item_2 (zA_of hI rfl) rfl (by omega) (fun _ => ?_)
  refine zq (σ := σ) hV hI rfl 1 ?_
  show K (some (.int (σ.1 2 k))) σ
  exact hK
set_option maxRecDepth 8000 in
set_option maxHeartbeats 4000000 in
theorem y_ok {d : Nat} {σ : zSt} {K : Option Value → zSt → Prop} {i : Int32} {k : Nat} (hI : zQI (kR 1 4) σ.2.2) (e : i = nI k) (hk : k < 10) (hK : K (some (.int (σ.1 3 k))) σ) : zSp zx (d + 2) mX3_y [.ref 1, .int i] σ K := by
  refine ⟨⟨by decide, Nat.le_of_ble_eq_true rfl⟩, fun V hV => ?_⟩
  subst e
  refine zq (σ := σ) hV hI rfl 4 ?_
  show zSp _ _ 79 [.ref 3, .int (nI k)] σ (fun r σ' => σ'.2.2.2 = σ.2.2.2 + zAl 79 → V 8 [(0, .ref 1), (1, .int (nI k))] (r.toList ++ []) σ')
  refine item_3 (zA_of hI rfl) rfl (by omega) (fun _ => ?_)
  refine zq (σ := σ) hV hI rfl 1 ?_
  show K (some (.int (σ.1 3 k))) σ
  exact hK
set_option maxRecDepth 8000 in
set_option maxHeartbeats 4000000 in
theorem corners_ok {d : Nat} {σ : zSt} {K : Option Value → zSt → Prop} (hI : zQI (kR 1 4) σ.2.2) (hK : K (some (.int (σ.1 1 2))) σ) : zSp zx (d + 1) mX3_corners [.ref 1] σ K := by
  refine ⟨⟨by decide, Nat.le_of_ble_eq_true rfl⟩, fun V hV => ?_⟩
  refine zq (σ := σ) hV hI rfl 3 ?_
  show K (some (.int (σ.1 1 2))) σ
  exact hK
set_option maxRecDepth 8000 in
set_option maxHeartbeats 4000000 in
theorem area_ok {d : Nat} {σ : zSt} {K : Option Value → zSt → Prop} (hI : zQI (kR 1 4) σ.2.2) (hK : K (some (.int (σ.1 1 3))) σ) : zSp zx (d + 1) mX3_area [.ref 1] σ K := by
  refine ⟨⟨by decide, Nat.le_of_ble_eq_true rfl⟩, fun V hV => ?_⟩
  refine zq (σ := σ) hV hI rfl 3 ?_
  show K (some (.int (σ.1 1 3))) σ
  exact hK
set_option maxRecDepth 8000 in
set_option maxHeartbeats 4000000 in
theorem next_ok {d : Nat} {σ : zSt} {K : Option Value → zSt → Prop} {i : Int32} {n k : Nat} (hI : zQI (kR 1 4) σ.2.2) (hn : σ.1 1 2 = nI n) (hn10 : n ≤ 10) (e : i = nI k) (hk : k < n) (hK : K (some (.int (nI (zNx n k)))) σ) : zSp zx (d + 1) mX3_next [.ref 1, .int i] σ K := by
  refine ⟨⟨by decide, Nat.le_of_ble_eq_true rfl⟩, fun V hV => ?_⟩
  subst e
  refine zq (σ := σ) hV hI rfl 6 ?_
  show ((σ.1 1 2) ≤ ((nI k) + 1) → V 16 [(0, .ref 1), (1, .int (nI k))] [] σ) ∧ (¬ (σ.1 1 2) ≤ ((nI k) + 1) → V 10 [(0, .ref 1), (1, .int (nI k))] [] σ)
  refine ⟨fun h_7 => ?_, fun h_7 => ?_⟩
  · skip
    refine zq (σ := σ) hV hI rfl 2 ?_
    show K (some (.int 0)) σ
    rw [hn, nI_1, nI_leI (by omega) (by omega)] at h_7
    have e : zNx n k = 0 := by unfold zNx; rw [if_neg (by omega)]
    rw [e] at hK
    exact hK
  · skip
    refine zq (σ := σ) hV hI rfl 5 ?_
    show K (some (.int ((nI k) + 1))) σ
    rw [hn, nI_1, nI_leI (by omega) (by omega)] at h_7
    have e : zNx n k = k + 1 := by unfold zNx; rw [if_pos (by omega)]
    rw [e] at hK
    rw [nI_1]
    exact hK
set_option maxRecDepth 8000 in
set_option maxHeartbeats 4000000 in
theorem dx_ok {d : Nat} {σ : zSt} {K : Option Value → zSt → Prop} {i : Int32} {n k : Nat} (hI : zQI (kR 1 4) σ.2.2) (hn : σ.1 1 2 = nI n) (hn10 : n ≤ 10) (e : i = nI k) (hk : k < n) (hK : K (some (.int (σ.1 2 (zNx n k) - σ.1 2 k))) σ) : zSp zx (d + 2) mX3_dx [.ref 1, .int i] σ K := by
  refine ⟨⟨by decide, Nat.le_of_ble_eq_true rfl⟩, fun V hV => ?_⟩
  subst e
  have hj := zNx_lt hk
  refine zq (σ := σ) hV hI rfl 5 ?_
  show zSp _ _ 20 [.ref 1, .int (nI k)] σ (fun r σ' => σ'.2.2.2 = σ.2.2.2 + zAl 20 → V 9 [(0, .ref 1), (1, .int (nI k))] (r.toList ++ [.ref 2]) σ')
  refine next_ok (zR_of hI rfl rfl) hn (by omega) rfl (by omega) (fun _ => ?_)
  refine zq (σ := σ) hV hI rfl 1 ?_
  show zSp _ _ 79 [.ref 2, .int (nI (zNx n k))] σ (fun r σ' => σ'.2.2.2 = σ.2.2.2 + zAl 79 → V 12 [(0, .ref 1), (1, .int (nI k))] (r.toList ++ []) σ')
  refine item_2 (zA_of hI rfl) rfl (by omega) (fun _ => ?_)
  refine zq (σ := σ) hV hI rfl 4 ?_
  show zSp _ _ 79 [.ref 2, .int (nI k)] σ (fun r σ' => σ'.2.2.2 = σ.2.2.2 + zAl 79 → V 20 [(0, .ref 1), (1, .int (nI k))] (r.toList ++ [.int (σ.1 2 (zNx n k))]) σ')
  refine item_2 (zA_of hI rfl) rfl (by omega) (fun _ => ?_)
  refine zq (σ := σ) hV hI rfl 2 ?_
  show K (some (.int ((σ.1 2 (zNx n k)) - (σ.1 2 k)))) σ
  exact hK
set_option maxRecDepth 8000 in
set_option maxHeartbeats 4000000 in
theorem dy_ok {d : Nat} {σ : zSt} {K : Option Value → zSt → Prop} {i : Int32} {n k : Nat} (hI : zQI (kR 1 4) σ.2.2) (hn : σ.1 1 2 = nI n) (hn10 : n ≤ 10) (e : i = nI k) (hk : k < n) (hK : K (some (.int (σ.1 3 (zNx n k) - σ.1 3 k))) σ) : zSp zx (d + 2) mX3_dy [.ref 1, .int i] σ K := by
  refine ⟨⟨by decide, Nat.le_of_ble_eq_true rfl⟩, fun V hV => ?_⟩
  subst e
  have hj := zNx_lt hk
  refine zq (σ := σ) hV hI rfl 5 ?_
  show zSp _ _ 20 [.ref 1, .int (nI k)] σ (fun r σ' => σ'.2.2.2 = σ.2.2.2 + zAl 20 → V 9 [(0, .ref 1), (1, .int (nI k))] (r.toList ++ [.ref 3]) σ')
  refine next_ok (zR_of hI rfl rfl) hn (by omega) rfl (by omega) (fun _ => ?_)
  refine zq (σ := σ) hV hI rfl 1 ?_
  show zSp _ _ 79 [.ref 3, .int (nI (zNx n k))] σ (fun r σ' => σ'.2.2.2 = σ.2.2.2 + zAl 79 → V 12 [(0, .ref 1), (1, .int (nI k))] (r.toList ++ []) σ')
  refine item_3 (zA_of hI rfl) rfl (by omega) (fun _ => ?_)
  refine zq (σ := σ) hV hI rfl 4 ?_
  show zSp _ _ 79 [.ref 3, .int (nI k)] σ (fun r σ' => σ'.2.2.2 = σ.2.2.2 + zAl 79 → V 20 [(0, .ref 1), (1, .int (nI k))] (r.toList ++ [.int (σ.1 3 (zNx n k))]) σ')
  refine item_3 (zA_of hI rfl) rfl (by omega) (fun _ => ?_)
  refine zq (σ := σ) hV hI rfl 2 ?_
  show K (some (.int ((σ.1 3 (zNx n k)) - (σ.1 3 k)))) σ
  exact hK
set_option maxRecDepth 8000 in
set_option maxHeartbeats 4000000 in
theorem setCorner_ok {d : Nat} {σ : zSt} {K : Option Value → zSt → Prop} {i x y : Int32} {k : Nat} (hI : zQI (kR 1 4) σ.2.2) (e : i = nI k) (hk : k < 10) (hK : K none (zuI (zuI σ 2 k x) 3 k y)) : zSp zx (d + 2) mX3_setCorner [.ref 1, .int i, .int x, .int y] σ K := by
  refine ⟨⟨by decide, Nat.le_of_ble_eq_true rfl⟩, fun V hV => ?_⟩
  subst e
  refine zq (σ := σ) hV hI rfl 5 ?_
  show zSp _ _ 80 [.ref 2, .int (nI k), .int x] σ (fun r σ' => σ'.2.2.2 = σ.2.2.2 + zAl 80 → V 9 [(0, .ref 1), (1, .int (nI k)), (2, .int x), (3, .int y)] (r.toList ++ []) σ')
  refine setItem_2 (zA_of hI rfl) rfl (by omega) (fun _ => ?_)
  refine zq (σ := (zuI σ 2 k x)) hV hI rfl 5 ?_
  show zSp _ _ 80 [.ref 3, .int (nI k), .int y] (zuI σ 2 k x) (fun r σ' => σ'.2.2.2 = (zuI σ 2 k x).2.2.2 + zAl 80 → V 18 [(0, .ref 1), (1, .int (nI k)), (2, .int x), (3, .int y)] (r.toList ++ []) σ')
  refine setItem_3 (zA_of hI rfl) rfl (by omega) (fun _ => ?_)
  refine zq (σ := (zuI (zuI σ 2 k x) 3 k y)) hV hI rfl 1 ?_
  show K none (zuI (zuI σ 2 k x) 3 k y)
  exact hK
end
section
variable {zx : Nat × (Nat → Int32)}
def zfPo (a j : Nat) : Bool := Nat.beq a 1 && Nat.ble 2 j
set_option maxRecDepth 8000 in
set_option maxHeartbeats 4000000 in
theorem close_ok {d : Nat} {σ : zSt} {K : Option Value → zSt → Prop} {n : Nat} (hI : zQI (kR 1 4) σ.2.2) (h10 : n ≤ 10) (hK : ∀ τ, zOnly zfPo σ τ → τ.1 1 2 = nI n → τ.1 1 3 = zAr n (σ.1 2) (σ.1 3) n → τ.1 1 4 = zMx n (σ.1 2) (σ.1 3) n → τ.1 1 5 = zMy n (σ.1 2) (σ.1 3) n → K none τ) : zSp zx (d + 3) mX3_close [.ref 1, .int (nI n)] σ K := by
  refine ⟨⟨by decide, Nat.le_of_ble_eq_true rfl⟩, fun V hV => ?_⟩
  refine zq (σ := σ) hV hI rfl 14 ?_
  show V 22 [(2, .int 0), (0, .ref 1), (1, .int (nI n))] [] (zuI (zuI (zuI (zuI σ 1 2 (nI n)) 1 3 0) 1 4 0) 1 5 0)
  refine zwk hV [1, 2, 0] rfl ?_
  have H : ∀ (m i : Nat) (τ : zSt), i + m = n → zOnly zfPo σ τ → τ.1 1 2 = nI n → τ.1 1 3 = zAr n (σ.1 2) (σ.1 3) i → τ.1 1 4 = zMx n (σ.1 2) (σ.1 3) i → τ.1 1 5 = zMy n (σ.1 2) (σ.1 3) i → V 22 [(0, .ref 1), (1, .int (nI n)), (2, .int (nI i))] [] τ := by
    intro m
    induction m with
    | zero =>
      intro i τ hin ht hn h3 h4 h5
      have hIt := zQI_eq hI ht.2.2
      have hnt : τ.2.2.2 = σ.2.2.2 := congrArg Prod.snd ht.2.2
      refine zq (σ := τ) hV hIt hnt 3 ?_
      show ((nI n) ≤ (nI i) → V 121 [(0, .ref 1), (1, .int (nI n)), (2, .int (nI i))] [] τ) ∧ (¬ (nI n) ≤ (nI i) → V 27 [(0, .ref 1), (1, .int (nI n)), (2, .int (nI i))] [] τ)
      refine ⟨fun _ => ?_, fun hc => absurd (show nI n ≤ nI i by rw [show i = n by omega]; exact Int32.le_refl _) hc⟩
      refine zq (σ := τ) hV hIt hnt 1 ?_
      show K none τ
      obtain rfl : i = n := by omega
      exact hK τ ht hn h3 h4 h5
    | succ m ih =>
      intro i τ hin ht hn h3 h4 h5
      have hIt := zQI_eq hI ht.2.2
      have hnt : τ.2.2.2 = σ.2.2.2 := congrArg Prod.snd ht.2.2
      have hin2 : i < n := by omega
      have hj := zNx_lt hin2
      have hX : τ.1 2 = σ.1 2 := funext fun j => ht.1 2 j rfl
      have hY : τ.1 3 = σ.1 3 := funext fun j => ht.1 3 j rfl
      refine zq (σ := τ) hV hIt hnt 3 ?_
      show ((nI n) ≤ (nI i) → V 121 [(0, .ref 1), (1, .int (nI n)), (2, .int (nI i))] [] τ) ∧ (¬ (nI n) ≤ (nI i) → V 27 [(0, .ref 1), (1, .int (nI n)), (2, .int (nI i))] [] τ)
      refine ⟨fun hc => absurd hc (show ¬ nI n ≤ nI i from nI_ge hin2 (by omega)), fun _ => ?_⟩
      refine zq (σ := τ) hV hIt hnt 3 ?_
      show zSp _ _ 20 [.ref 1, .int (nI i)] τ (fun r σ' => σ'.2.2.2 = τ.2.2.2 + zAl 20 → V 32 [(0, .ref 1), (1, .int (nI n)), (2, .int (nI i))] (r.toList ++ []) σ')
      refine next_ok (zR_of hIt rfl rfl) hn (by omega) rfl (by omega) (fun _ => ?_)
      refine zq (σ := τ) hV hIt hnt 4 ?_
      show zSp _ _ 18 [.ref 1, .int (nI i)] τ (fun r σ' => σ'.2.2.2 = τ.2.2.2 + zAl 18 → V 38 [(3, .int (nI (zNx n i))), (0, .ref 1), (1, .int (nI n)), (2, .int (nI i))] (r.toList ++ []) σ')
      refine x_ok (zR_of hIt rfl rfl) rfl (by omega) (fun _ => ?_)
      refine zq (σ := τ) hV hIt hnt 3 ?_
      show zSp _ _ 19 [.ref 1, .int (nI (zNx n i))] τ (fun r σ' => σ'.2.2.2 = τ.2.2.2 + zAl 19 → V 43 [(3, .int (nI (zNx n i))), (0, .ref 1), (1, .int (nI n)), (2, .int (nI i))] (r.toList ++ [.int (τ.1 2 i)]) σ')
      refine y_ok (zR_of hIt rfl rfl) rfl (by omega) (fun _ => ?_)
      refine zq (σ := τ) hV hIt hnt 4 ?_
      show zSp _ _ 19 [.ref 1, .int (nI i)] τ (fun r σ' => σ'.2.2.2 = τ.2.2.2 + zAl 19 → V 49 [(3, .int (nI (zNx n i))), (0, .ref 1), (1, .int (nI n)), (2, .int (nI i))] (r.toList ++ [.int ((τ.1 2 i) * (τ.1 3 (zNx n i)))]) σ')
      refine y_ok (zR_of hIt rfl rfl) rfl (by omega) (fun _ => ?_)
      refine zq (σ := τ) hV hIt hnt 3 ?_
      show zSp _ _ 18 [.ref 1, .int (nI (zNx n i))] τ (fun r σ' => σ'.2.2.2 = τ.2.2.2 + zAl 18 → V 54 [(3, .int (nI (zNx n i))), (0, .ref 1), (1, .int (nI n)), (2, .int (nI i))] (r.toList ++ [.int (τ.1 3 i), .int ((τ.1 2 i) * (τ.1 3 (zNx n i)))]) σ')
      refine x_ok (zR_of hIt rfl rfl) rfl (by omega) (fun _ => ?_)
      refine zq (σ := τ) hV hIt hnt 15 ?_
      show zSp _ _ 18 [.ref 1, .int (nI i)] (zuI τ 1 3 ((τ.1 1 3) + (((τ.1 2 i) * (τ.1 3 (zNx n i))) - ((τ.1 3 i) * (τ.1 2 (zNx n i)))))) (fun r σ' => σ'.2.2.2 = (zuI τ 1 3 ((τ.1 1 3) + (((τ.1 2 i) * (τ.1 3 (zNx n i))) - ((τ.1 3 i) * (τ.1 2 (zNx n i)))))).2.2.2 + zAl 18 → V 79 [(4, .int (((τ.1 2 i) * (τ.1 3 (zNx n i))) - ((τ.1 3 i) * (τ.1 2 (zNx n i))))), (3, .int (nI (zNx n i))), (0, .ref 1), (1, .int (nI n)), (2, .int (nI i))] (r.toList ++ [.int (τ.1 1 4), .ref 1]) σ')
      refine x_ok (zR_of hIt rfl rfl) rfl (by omega) (fun _ => ?_)
      refine zq (σ := (zuI τ 1 3 ((τ.1 1 3) + (((τ.1 2 i) * (τ.1 3 (zNx n i))) - ((τ.1 3 i) * (τ.1 2 (zNx n i))))))) hV hIt hnt 3 ?_
      show zSp _ _ 18 [.ref 1, .int (nI (zNx n i))] (zuI τ 1 3 ((τ.1 1 3) + (((τ.1 2 i) * (τ.1 3 (zNx n i))) - ((τ.1 3 i) * (τ.1 2 (zNx n i)))))) (fun r σ' => σ'.2.2.2 = (zuI τ 1 3 ((τ.1 1 3) + (((τ.1 2 i) * (τ.1 3 (zNx n i))) - ((τ.1 3 i) * (τ.1 2 (zNx n i)))))).2.2.2 + zAl 18 → V 84 [(4, .int (((τ.1 2 i) * (τ.1 3 (zNx n i))) - ((τ.1 3 i) * (τ.1 2 (zNx n i))))), (3, .int (nI (zNx n i))), (0, .ref 1), (1, .int (nI n)), (2, .int (nI i))] (r.toList ++ [.int (τ.1 2 i), .int (τ.1 1 4), .ref 1]) σ')
      refine x_ok (zR_of hIt rfl rfl) rfl (by omega) (fun _ => ?_)
      refine zq (σ := (zuI τ 1 3 ((τ.1 1 3) + (((τ.1 2 i) * (τ.1 3 (zNx n i))) - ((τ.1 3 i) * (τ.1 2 (zNx n i))))))) hV hIt hnt 11 ?_
      show zSp _ _ 19 [.ref 1, .int (nI i)] (zuI (zuI τ 1 3 ((τ.1 1 3) + (((τ.1 2 i) * (τ.1 3 (zNx n i))) - ((τ.1 3 i) * (τ.1 2 (zNx n i)))))) 1 4 ((τ.1 1 4) + (((τ.1 2 i) + (τ.1 2 (zNx n i))) * (((τ.1 2 i) * (τ.1 3 (zNx n i))) - ((τ.1 3 i) * (τ.1 2 (zNx n i))))))) (fun r σ' => σ'.2.2.2 = (zuI (zuI τ 1 3 ((τ.1 1 3) + (((τ.1 2 i) * (τ.1 3 (zNx n i))) - ((τ.1 3 i) * (τ.1 2 (zNx n i)))))) 1 4 ((τ.1 1 4) + (((τ.1 2 i) + (τ.1 2 (zNx n i))) * (((τ.1 2 i) * (τ.1 3 (zNx n i))) - ((τ.1 3 i) * (τ.1 2 (zNx n i))))))).2.2.2 + zAl 19 → V 102 [(4, .int (((τ.1 2 i) * (τ.1 3 (zNx n i))) - ((τ.1 3 i) * (τ.1 2 (zNx n i))))), (3, .int (nI (zNx n i))), (0, .ref 1), (1, .int (nI n)), (2, .int (nI i))] (r.toList ++ [.int (τ.1 1 5), .ref 1]) σ')
      refine y_ok (zR_of hIt rfl rfl) rfl (by omega) (fun _ => ?_)
      refine zq (σ := (zuI (zuI τ 1 3 ((τ.1 1 3) + (((τ.1 2 i) * (τ.1 3 (zNx n i))) - ((τ.1 3 i) * (τ.1 2 (zNx n i)))))) 1 4 ((τ.1 1 4) + (((τ.1 2 i) + (τ.1 2 (zNx n i))) * (((τ.1 2 i) * (τ.1 3 (zNx n i))) - ((τ.1 3 i) * (τ.1 2 (zNx n i)))))))) hV hIt hnt 3 ?_
      show zSp _ _ 19 [.ref 1, .int (nI (zNx n i))] (zuI (zuI τ 1 3 ((τ.1 1 3) + (((τ.1 2 i) * (τ.1 3 (zNx n i))) - ((τ.1 3 i) * (τ.1 2 (zNx n i)))))) 1 4 ((τ.1 1 4) + (((τ.1 2 i) + (τ.1 2 (zNx n i))) * (((τ.1 2 i) * (τ.1 3 (zNx n i))) - ((τ.1 3 i) * (τ.1 2 (zNx n i))))))) (fun r σ' => σ'.2.2.2 = (zuI (zuI τ 1 3 ((τ.1 1 3) + (((τ.1 2 i) * (τ.1 3 (zNx n i))) - ((τ.1 3 i) * (τ.1 2 (zNx n i)))))) 1 4 ((τ.1 1 4) + (((τ.1 2 i) + (τ.1 2 (zNx n i))) * (((τ.1 2 i) * (τ.1 3 (zNx n i))) - ((τ.1 3 i) * (τ.1 2 (zNx n i))))))).2.2.2 + zAl 19 → V 107 [(4, .int (((τ.1 2 i) * (τ.1 3 (zNx n i))) - ((τ.1 3 i) * (τ.1 2 (zNx n i))))), (3, .int (nI (zNx n i))), (0, .ref 1), (1, .int (nI n)), (2, .int (nI i))] (r.toList ++ [.int (τ.1 3 i), .int (τ.1 1 5), .ref 1]) σ')
      refine y_ok (zR_of hIt rfl rfl) rfl (by omega) (fun _ => ?_)
      refine zq (σ := (zuI (zuI τ 1 3 ((τ.1 1 3) + (((τ.1 2 i) * (τ.1 3 (zNx n i))) - ((τ.1 3 i) * (τ.1 2 (zNx n i)))))) 1 4 ((τ.1 1 4) + (((τ.1 2 i) + (τ.1 2 (zNx n i))) * (((τ.1 2 i) * (τ.1 3 (zNx n i))) - ((τ.1 3 i) * (τ.1 2 (zNx n i)))))))) hV hIt hnt 7 ?_
      show V 22 [(2, .int ((nI i) + 1)), (4, .int (((τ.1 2 i) * (τ.1 3 (zNx n i))) - ((τ.1 3 i) * (τ.1 2 (zNx n i))))), (3, .int (nI (zNx n i))), (0, .ref 1), (1, .int (nI n))] [] (zuI (zuI (zuI τ 1 3 ((τ.1 1 3) + (((τ.1 2 i) * (τ.1 3 (zNx n i))) - ((τ.1 3 i) * (τ.1 2 (zNx n i)))))) 1 4 ((τ.1 1 4) + (((τ.1 2 i) + (τ.1 2 (zNx n i))) * (((τ.1 2 i) * (τ.1 3 (zNx n i))) - ((τ.1 3 i) * (τ.1 2 (zNx n i))))))) 1 5 ((τ.1 1 5) + (((τ.1 3 i) + (τ.1 3 (zNx n i))) * (((τ.1 2 i) * (τ.1 3 (zNx n i))) - ((τ.1 3 i) * (τ.1 2 (zNx n i)))))))
      refine zwk hV [3, 4, 0] rfl ?_
      rw [nI_1]
      refine ih (i + 1) _ (by omega) (((ht.uI rfl).uI rfl).uI rfl) hn ?_ ?_ ?_
      · rw [zAr, ← h3]; simp only [zTu, ← hX, ← hY]; rfl
      · rw [zMx, ← h4]; simp only [zTu, ← hX, ← hY]; rfl
      · rw [zMy, ← h5]; simp only [zTu, ← hX, ← hY]; rfl
  refine H n 0 _ (by omega) ?_ rfl rfl rfl rfl
  exact (((zOnly.rf.uI rfl).uI rfl).uI rfl).uI rfl
set_option maxRecDepth 8000 in
set_option maxHeartbeats 4000000 in
theorem hsize_4 {d : Nat} {σ : zSt} {K : Option Value → zSt → Prop} (hI : zQI (kR 4 7) σ.2.2) (hK : K (some (.int (σ.1 4 2))) σ) : zSp zx (d + 1) mX2_size [.ref 4] σ K := by
  refine ⟨⟨by decide, Nat.le_of_ble_eq_true rfl⟩, fun V hV => ?_⟩
  refine zq (σ := σ) hV hI rfl 3 ?_
  show K (some (.int (σ.1 4 2))) σ
  exact hK
set_option maxRecDepth 8000 in
set_option maxHeartbeats 4000000 in
theorem hedge_4 {d : Nat} {σ : zSt} {K : Option Value → zSt → Prop} {i : Int32} {k : Nat} (hI : zQI (kR 4 7) σ.2.2) (e : i = nI k) (hk : k < 8) (hK : K (some (.int (σ.1 5 k))) σ) : zSp zx (d + 2) mX2_edge [.ref 4, .int i] σ K := by
  refine ⟨⟨by decide, Nat.le_of_ble_eq_true rfl⟩, fun V hV => ?_⟩
  subst e
  refine zq (σ := σ) hV hI rfl 4 ?_
  show zSp _ _ 79 [.ref 5, .int (nI k)] σ (fun r σ' => σ'.2.2.2 = σ.2.2.2 + zAl 79 → V 8 [(0, .ref 4), (1, .int (nI k))] (r.toList ++ []) σ')
  refine item_5 (zA_of hI rfl) rfl (by omega) (fun _ => ?_)
  refine zq (σ := σ) hV hI rfl 1 ?_
  show K (some (.int (σ.1 5 k))) σ
  exact hK
set_option maxRecDepth 8000 in
set_option maxHeartbeats 4000000 in
theorem heighth_4 {d : Nat} {σ : zSt} {K : Option Value → zSt → Prop} {i : Int32} {k : Nat} (hI : zQI (kR 4 7) σ.2.2) (e : i = nI k) (hk : k < 8) (hK : K (some (.int (σ.1 6 k))) σ) : zSp zx (d + 2) mX2_eighth [.ref 4, .int i] σ K := by
  refine ⟨⟨by decide, Nat.le_of_ble_eq_true rfl⟩, fun V hV => ?_⟩
  subst e
  refine zq (σ := σ) hV hI rfl 4 ?_
  show zSp _ _ 79 [.ref 6, .int (nI k)] σ (fun r σ' => σ'.2.2.2 = σ.2.2.2 + zAl 79 → V 8 [(0, .ref 4), (1, .int (nI k))] (r.toList ++ []) σ')
  refine item_6 (zA_of hI rfl) rfl (by omega) (fun _ => ?_)
  refine zq (σ := σ) hV hI rfl 1 ?_
  show K (some (.int (σ.1 6 k))) σ
  exact hK
set_option maxRecDepth 8000 in
set_option maxHeartbeats 4000000 in
theorem hclear_4 {d : Nat} {σ : zSt} {K : Option Value → zSt → Prop} (hI : zQI (kR 4 7) σ.2.2) (hK : K none (zuI σ 4 2 0)) : zSp zx (d + 1) mX2_clear [.ref 4] σ K := by
  refine ⟨⟨by decide, Nat.le_of_ble_eq_true rfl⟩, fun V hV => ?_⟩
  refine zq (σ := σ) hV hI rfl 4 ?_
  show K none (zuI σ 4 2 0)
  exact hK
set_option maxRecDepth 8000 in
set_option maxHeartbeats 4000000 in
theorem hstand_4 {d : Nat} {σ : zSt} {K : Option Value → zSt → Prop} {i ed s : Int32} {k : Nat} (hI : zQI (kR 4 7) σ.2.2) (e : i = nI k) (hk : k < 8) (hK : K none (zuI (zuI σ 5 k ed) 6 k s)) : zSp zx (d + 2) mX2_stand [.ref 4, .int i, .int ed, .int s] σ K := by
  refine ⟨⟨by decide, Nat.le_of_ble_eq_true rfl⟩, fun V hV => ?_⟩
  subst e
  refine zq (σ := σ) hV hI rfl 5 ?_
  show zSp _ _ 80 [.ref 5, .int (nI k), .int ed] σ (fun r σ' => σ'.2.2.2 = σ.2.2.2 + zAl 80 → V 9 [(0, .ref 4), (1, .int (nI k)), (2, .int ed), (3, .int s)] (r.toList ++ []) σ')
  refine setItem_5 (zA_of hI rfl) rfl (by omega) (fun _ => ?_)
  refine zq (σ := (zuI σ 5 k ed)) hV hI rfl 5 ?_
  show zSp _ _ 80 [.ref 6, .int (nI k), .int s] (zuI σ 5 k ed) (fun r σ' => σ'.2.2.2 = (zuI σ 5 k ed).2.2.2 + zAl 80 → V 18 [(0, .ref 4), (1, .int (nI k)), (2, .int ed), (3, .int s)] (r.toList ++ []) σ')
  refine setItem_6 (zA_of hI rfl) rfl (by omega) (fun _ => ?_)
  refine zq (σ := (zuI (zuI σ 5 k ed) 6 k s)) hV hI rfl 1 ?_
  show K none (zuI (zuI σ 5 k ed) 6 k s)
  exact hK
set_option maxRecDepth 8000 in
set_option maxHeartbeats 4000000 in
theorem hadd_4 {d : Nat} {σ : zSt} {K : Option Value → zSt → Prop} {ed s : Int32} {m : Nat} (hI : zQI (kR 4 7) σ.2.2) (hs : σ.1 4 2 = nI m) (hm : m < 8) (hK : K none (zuI (zuI (zuI σ 5 m ed) 6 m s) 4 2 (nI (m + 1)))) : zSp zx (d + 3) mX2_add [.ref 4, .int ed, .int s] σ K := by
  refine ⟨⟨by decide, Nat.le_of_ble_eq_true rfl⟩, fun V hV => ?_⟩
  refine zq (σ := σ) hV hI rfl 6 ?_
  show zSp _ _ 11 [.ref 4, .int (σ.1 4 2), .int ed, .int s] σ (fun r σ' => σ'.2.2.2 = σ.2.2.2 + zAl 11 → V 10 [(0, .ref 4), (1, .int ed), (2, .int s)] (r.toList ++ []) σ')
  refine hstand_4 (zR_of hI rfl rfl) hs (by omega) (fun _ => ?_)
  refine zq (σ := (zuI (zuI σ 5 m ed) 6 m s)) hV hI rfl 7 ?_
  show K none (zuI (zuI (zuI σ 5 m ed) 6 m s) 4 2 ((σ.1 4 2) + 1))
  rw [show (σ.1 4 2) + 1 = nI (m + 1) by rw [hs, nI_1]]
  exact hK
set_option maxRecDepth 8000 in
set_option maxHeartbeats 4000000 in
theorem hsize_7 {d : Nat} {σ : zSt} {K : Option Value → zSt → Prop} (hI : zQI (kR 7 10) σ.2.2) (hK : K (some (.int (σ.1 7 2))) σ) : zSp zx (d + 1) mX2_size [.ref 7] σ K := by
  refine ⟨⟨by decide, Nat.le_of_ble_eq_true rfl⟩, fun V hV => ?_⟩
  refine zq (σ := σ) hV hI rfl 3 ?_
  show K (some (.int (σ.1 7 2))) σ
  exact hK
set_option maxRecDepth 8000 in
set_option maxHeartbeats 4000000 in
theorem hedge_7 {d : Nat} {σ : zSt} {K : Option Value → zSt → Prop} {i : Int32} {k : Nat} (hI : zQI (kR 7 10) σ.2.2) (e : i = nI k) (hk : k < 8) (hK : K (some (.int (σ.1 8 k))) σ) : zSp zx (d + 2) mX2_edge [.ref 7, .int i] σ K := by
  refine ⟨⟨by decide, Nat.le_of_ble_eq_true rfl⟩, fun V hV => ?_⟩
  subst e
  refine zq (σ := σ) hV hI rfl 4 ?_
  show zSp _ _ 79 [.ref 8, .int (nI k)] σ (fun r σ' => σ'.2.2.2 = σ.2.2.2 + zAl 79 → V 8 [(0, .ref 7), (1, .int (nI k))] (r.toList ++ []) σ')
  refine item_8 (zA_of hI rfl) rfl (by omega) (fun _ => ?_)
  refine zq (σ := σ) hV hI rfl 1 ?_
  show K (some (.int (σ.1 8 k))) σ
  exact hK
set_option maxRecDepth 8000 in
set_option maxHeartbeats 4000000 in
theorem heighth_7 {d : Nat} {σ : zSt} {K : Option Value → zSt → Prop} {i : Int32} {k : Nat} (hI : zQI (kR 7 10) σ.2.2) (e : i = nI k) (hk : k < 8) (hK : K (some (.int (σ.1 9 k))) σ) : zSp zx (d + 2) mX2_eighth [.ref 7, .int i] σ K := by
  refine ⟨⟨by decide, Nat.le_of_ble_eq_true rfl⟩, fun V hV => ?_⟩
  subst e
  refine zq (σ := σ) hV hI rfl 4 ?_
  show zSp _ _ 79 [.ref 9, .int (nI k)] σ (fun r σ' => σ'.2.2.2 = σ.2.2.2 + zAl 79 → V 8 [(0, .ref 7), (1, .int (nI k))] (r.toList ++ []) σ')
  refine item_9 (zA_of hI rfl) rfl (by omega) (fun _ => ?_)
  refine zq (σ := σ) hV hI rfl 1 ?_
  show K (some (.int (σ.1 9 k))) σ
  exact hK
set_option maxRecDepth 8000 in
set_option maxHeartbeats 4000000 in
theorem hclear_7 {d : Nat} {σ : zSt} {K : Option Value → zSt → Prop} (hI : zQI (kR 7 10) σ.2.2) (hK : K none (zuI σ 7 2 0)) : zSp zx (d + 1) mX2_clear [.ref 7] σ K := by
  refine ⟨⟨by decide, Nat.le_of_ble_eq_true rfl⟩, fun V hV => ?_⟩
  refine zq (σ := σ) hV hI rfl 4 ?_
  show K none (zuI σ 7 2 0)
  exact hK
set_option maxRecDepth 8000 in
set_option maxHeartbeats 4000000 in
theorem hstand_7 {d : Nat} {σ : zSt} {K : Option Value → zSt → Prop} {i ed s : Int32} {k : Nat} (hI : zQI (kR 7 10) σ.2.2) (e : i = nI k) (hk : k < 8) (hK : K none (zuI (zuI σ 8 k ed) 9 k s)) : zSp zx (d + 2) mX2_stand [.ref 7, .int i, .int ed, .int s] σ K := by
  refine ⟨⟨by decide, Nat.le_of_ble_eq_true rfl⟩, fun V hV => ?_⟩
  subst e
  refine zq (σ := σ) hV hI rfl 5 ?_
  show zSp _ _ 80 [.ref 8, .int (nI k), .int ed] σ (fun r σ' => σ'.2.2.2 = σ.2.2.2 + zAl 80 → V 9 [(0, .ref 7), (1, .int (nI k)), (2, .int ed), (3, .int s)] (r.toList ++ []) σ')
  refine setItem_8 (zA_of hI rfl) rfl (by omega) (fun _ => ?_)
  refine zq (σ := (zuI σ 8 k ed)) hV hI rfl 5 ?_
  show zSp _ _ 80 [.ref 9, .int (nI k), .int s] (zuI σ 8 k ed) (fun r σ' => σ'.2.2.2 = (zuI σ 8 k ed).2.2.2 + zAl 80 → V 18 [(0, .ref 7), (1, .int (nI k)), (2, .int ed), (3, .int s)] (r.toList ++ []) σ')
  refine setItem_9 (zA_of hI rfl) rfl (by omega) (fun _ => ?_)
  refine zq (σ := (zuI (zuI σ 8 k ed) 9 k s)) hV hI rfl 1 ?_
  show K none (zuI (zuI σ 8 k ed) 9 k s)
  exact hK
set_option maxRecDepth 8000 in
set_option maxHeartbeats 4000000 in
theorem hadd_7 {d : Nat} {σ : zSt} {K : Option Value → zSt → Prop} {ed s : Int32} {m : Nat} (hI : zQI (kR 7 10) σ.2.2) (hs : σ.1 7 2 = nI m) (hm : m < 8) (hK : K none (zuI (zuI (zuI σ 8 m ed) 9 m s) 7 2 (nI (m + 1)))) : zSp zx (d + 3) mX2_add [.ref 7, .int ed, .int s] σ K := by
  refine ⟨⟨by decide, Nat.le_of_ble_eq_true rfl⟩, fun V hV => ?_⟩
  refine zq (σ := σ) hV hI rfl 6 ?_
  show zSp _ _ 11 [.ref 7, .int (σ.1 7 2), .int ed, .int s] σ (fun r σ' => σ'.2.2.2 = σ.2.2.2 + zAl 11 → V 10 [(0, .ref 7), (1, .int ed), (2, .int s)] (r.toList ++ []) σ')
  refine hstand_7 (zR_of hI rfl rfl) hs (by omega) (fun _ => ?_)
  refine zq (σ := (zuI (zuI σ 8 m ed) 9 m s)) hV hI rfl 7 ?_
  show K none (zuI (zuI (zuI σ 8 m ed) 9 m s) 7 2 ((σ.1 7 2) + 1))
  rw [show (σ.1 7 2) + 1 = nI (m + 1) by rw [hs, nI_1]]
  exact hK
def zf7 (a _ : Nat) : Bool := Nat.ble 7 a && Nat.ble a 9
set_option maxRecDepth 8000 in
set_option maxHeartbeats 4000000 in
theorem become_ok {d : Nat} {σ : zSt} {K : Option Value → zSt → Prop} {n : Nat} (hI : zQI (kR 4 10) σ.2.2) (hs : σ.1 4 2 = nI n) (h8 : n ≤ 8) (hK : ∀ τ, zOnly zf7 σ τ → τ.1 7 2 = nI n → (∀ j, j < n → τ.1 8 j = σ.1 5 j ∧ τ.1 9 j = σ.1 6 j) → K none τ) : zSp zx (d + 4) mX2_become [.ref 7, .ref 4] σ K := by
  refine ⟨⟨by decide, Nat.le_of_ble_eq_true rfl⟩, fun V hV => ?_⟩
  refine zq (σ := σ) hV hI rfl 2 ?_
  show zSp _ _ 9 [.ref 7] σ (fun r σ' => σ'.2.2.2 = σ.2.2.2 + zAl 9 → V 4 [(0, .ref 7), (1, .ref 4)] (r.toList ++ []) σ')
  refine hclear_7 (zR_of hI rfl rfl) (fun _ => ?_)
  refine zq (σ := (zuI σ 7 2 0)) hV hI rfl 2 ?_
  show V 6 [(2, .int 0), (0, .ref 7), (1, .ref 4)] [] (zuI σ 7 2 0)
  refine zwk hV [1, 2, 0] rfl ?_
  have H : ∀ (m i : Nat) (τ : zSt), i + m = n → zOnly zf7 σ τ → τ.1 7 2 = nI i → (∀ j, j < i → τ.1 8 j = σ.1 5 j ∧ τ.1 9 j = σ.1 6 j) → V 6 [(0, .ref 7), (1, .ref 4), (2, .int (nI i))] [] τ := by
    intro m
    induction m with
    | zero =>
      intro i τ hin ht h7 hj
      have hIt := zQI_eq hI ht.2.2
      have hnt : τ.2.2.2 = σ.2.2.2 := congrArg Prod.snd ht.2.2
      have h4 : τ.1 4 2 = nI n := (ht.1 4 2 rfl).trans hs
      refine zq (σ := τ) hV hIt hnt 3 ?_
      show zSp _ _ 6 [.ref 4] τ (fun r σ' => σ'.2.2.2 = τ.2.2.2 + zAl 6 → V 11 [(0, .ref 7), (1, .ref 4), (2, .int (nI i))] (r.toList ++ [.int (nI i)]) σ')
      refine hsize_4 (zR_of hIt rfl rfl) (fun _ => ?_)
      refine zq (σ := τ) hV hIt hnt 1 ?_
      show ((τ.1 4 2) ≤ (nI i) → V 34 [(0, .ref 7), (1, .ref 4), (2, .int (nI i))] [] τ) ∧ (¬ (τ.1 4 2) ≤ (nI i) → V 14 [(0, .ref 7), (1, .ref 4), (2, .int (nI i))] [] τ)
      refine ⟨fun _ => ?_, fun hc => absurd (show τ.1 4 2 ≤ nI i by rw [h4, show i = n by omega]; exact Int32.le_refl _) hc⟩
      refine zq (σ := τ) hV hIt hnt 1 ?_
      show K none τ
      obtain rfl : i = n := by omega
      exact hK τ ht h7 hj
    | succ m ih =>
      intro i τ hin ht h7 hj
      have hIt := zQI_eq hI ht.2.2
      have hnt : τ.2.2.2 = σ.2.2.2 := congrArg Prod.snd ht.2.2
      have h4 : τ.1 4 2 = nI n := (ht.1 4 2 rfl).trans hs
      refine zq (σ := τ) hV hIt hnt 3 ?_
      show zSp _ _ 6 [.ref 4] τ (fun r σ' => σ'.2.2.2 = τ.2.2.2 + zAl 6 → V 11 [(0, .ref 7), (1, .ref 4), (2, .int (nI i))] (r.toList ++ [.int (nI i)]) σ')
      refine hsize_4 (zR_of hIt rfl rfl) (fun _ => ?_)
      refine zq (σ := τ) hV hIt hnt 1 ?_
      show ((τ.1 4 2) ≤ (nI i) → V 34 [(0, .ref 7), (1, .ref 4), (2, .int (nI i))] [] τ) ∧ (¬ (τ.1 4 2) ≤ (nI i) → V 14 [(0, .ref 7), (1, .ref 4), (2, .int (nI i))] [] τ)
      refine ⟨fun hc => absurd hc (show ¬ τ.1 4 2 ≤ nI i by rw [h4]; exact nI_ge (by omega) (by omega)), fun _ => ?_⟩
      refine zq (σ := τ) hV hIt hnt 4 ?_
      show zSp _ _ 7 [.ref 4, .int (nI i)] τ (fun r σ' => σ'.2.2.2 = τ.2.2.2 + zAl 7 → V 20 [(0, .ref 7), (1, .ref 4), (2, .int (nI i))] (r.toList ++ [.ref 7]) σ')
      refine hedge_4 (zR_of hIt rfl rfl) rfl (by omega) (fun _ => ?_)
      refine zq (σ := τ) hV hIt hnt 3 ?_
      show zSp _ _ 8 [.ref 4, .int (nI i)] τ (fun r σ' => σ'.2.2.2 = τ.2.2.2 + zAl 8 → V 25 [(0, .ref 7), (1, .ref 4), (2, .int (nI i))] (r.toList ++ [.int (τ.1 5 i), .ref 7]) σ')
      refine heighth_4 (zR_of hIt rfl rfl) rfl (by omega) (fun _ => ?_)
      refine zq (σ := τ) hV hIt hnt 1 ?_
      show zSp _ _ 10 [.ref 7, .int (τ.1 5 i), .int (τ.1 6 i)] τ (fun r σ' => σ'.2.2.2 = τ.2.2.2 + zAl 10 → V 28 [(0, .ref 7), (1, .ref 4), (2, .int (nI i))] (r.toList ++ []) σ')
      refine hadd_7 (zR_of hIt rfl rfl) (m := i) h7 (by omega) (fun _ => ?_)
      refine zq (σ := (zuI (zuI (zuI τ 8 i (τ.1 5 i)) 9 i (τ.1 6 i)) 7 2 (nI (i + 1)))) hV hIt hnt 2 ?_
      show V 6 [(2, .int ((nI i) + 1)), (0, .ref 7), (1, .ref 4)] [] (zuI (zuI (zuI τ 8 i (τ.1 5 i)) 9 i (τ.1 6 i)) 7 2 (nI (i + 1)))
      refine zwk hV [1, 2, 0] rfl ?_
      rw [nI_1]
      refine ih (i + 1) _ (by omega) (((ht.uI rfl).uI rfl).uI rfl) rfl (fun j q => ?_)
      have e5 := ht.1 5 i rfl
      have e6 := ht.1 6 i rfl
      simp only [zuI_get]
      by_cases hji : j = i
      · subst hji; simp [e5, e6]
      · have := hj j (by omega); simp [hji, this]
  refine H n 0 _ (by omega) (zOnly.rf.uI rfl) rfl (fun j q => absurd q (Nat.not_lt_zero j))
set_option maxRecDepth 8000 in
set_option maxHeartbeats 4000000 in
theorem tsize_ok {d : Nat} {σ : zSt} {K : Option Value → zSt → Prop} (hI : zQI (kR 10 14) σ.2.2) (hK : K (some (.int (σ.1 10 3))) σ) : zSp zx (d + 1) mX7_size [.ref 10] σ K := by
  refine ⟨⟨by decide, Nat.le_of_ble_eq_true rfl⟩, fun V hV => ?_⟩
  refine zq (σ := σ) hV hI rfl 3 ?_
  show K (some (.int (σ.1 10 3))) σ
  exact hK
set_option maxRecDepth 8000 in
set_option maxHeartbeats 4000000 in
theorem tadd_ok {d : Nat} {σ : zSt} {K : Option Value → zSt → Prop} {x y pp q : Int32} {m : Nat} (hI : zQI (kR 10 14) σ.2.2) (hs : σ.1 10 3 = nI m) (hm : m < 16) (hK : K none (zuI (zuI (zuI (zuI σ 11 m pp) 12 m q) 13 m (x * q - y * pp)) 10 3 (nI (m + 1)))) : zSp zx (d + 2) mX7_add [.ref 10, .int x, .int y, .int pp, .int q] σ K := by
  refine ⟨⟨by decide, Nat.le_of_ble_eq_true rfl⟩, fun V hV => ?_⟩
  refine zq (σ := σ) hV hI rfl 6 ?_
  show zSp _ _ 80 [.ref 11, .int (σ.1 10 3), .int pp] σ (fun r σ' => σ'.2.2.2 = σ.2.2.2 + zAl 80 → V 12 [(0, .ref 10), (1, .int x), (2, .int y), (3, .int pp), (4, .int q)] (r.toList ++ []) σ')
  refine setItem_11 (zA_of hI rfl) hs (by omega) (fun _ => ?_)
  refine zq (σ := (zuI σ 11 m pp)) hV hI rfl 6 ?_
  show zSp _ _ 80 [.ref 12, .int (σ.1 10 3), .int q] (zuI σ 11 m pp) (fun r σ' => σ'.2.2.2 = (zuI σ 11 m pp).2.2.2 + zAl 80 → V 25 [(0, .ref 10), (1, .int x), (2, .int y), (3, .int pp), (4, .int q)] (r.toList ++ []) σ')
  refine setItem_12 (zA_of hI rfl) hs (by omega) (fun _ => ?_)
  refine zq (σ := (zuI (zuI σ 11 m pp) 12 m q)) hV hI rfl 12 ?_
  show zSp _ _ 80 [.ref 13, .int (σ.1 10 3), .int ((x * q) - (y * pp))] (zuI (zuI σ 11 m pp) 12 m q) (fun r σ' => σ'.2.2.2 = (zuI (zuI σ 11 m pp) 12 m q).2.2.2 + zAl 80 → V 44 [(0, .ref 10), (1, .int x), (2, .int y), (3, .int pp), (4, .int q)] (r.toList ++ []) σ')
  refine setItem_13 (zA_of hI rfl) hs (by omega) (fun _ => ?_)
  refine zq (σ := (zuI (zuI (zuI σ 11 m pp) 12 m q) 13 m ((x * q) - (y * pp)))) hV hI rfl 7 ?_
  show K none (zuI (zuI (zuI (zuI σ 11 m pp) 12 m q) 13 m ((x * q) - (y * pp))) 10 3 ((σ.1 10 3) + 1))
  rw [show (σ.1 10 3) + 1 = nI (m + 1) by rw [hs, nI_1]]
  exact hK
set_option maxRecDepth 8000 in
set_option maxHeartbeats 4000000 in
theorem tpart_ok {d : Nat} {σ : zSt} {K : Option Value → zSt → Prop} {t w : Int32} {k : Nat} (hI : zQI (kR 10 14) σ.2.2) (e : t = nI k) (hk : k < 16) (hK : K (some (.int (if w = 0 then σ.1 11 k else if w = 1 then σ.1 12 k else σ.1 13 k))) σ) : zSp zx (d + 2) mX7_part [.ref 10, .int t, .int w] σ K := by
  refine ⟨⟨by decide, Nat.le_of_ble_eq_true rfl⟩, fun V hV => ?_⟩
  subst e
  refine zq (σ := σ) hV hI rfl 2 ?_
  show (¬ w = 0 → V 15 [(0, .ref 10), (1, .int (nI k)), (2, .int w)] [] σ) ∧ (¬ (¬ w = 0) → V 4 [(0, .ref 10), (1, .int (nI k)), (2, .int w)] [] σ)
  refine ⟨fun h_1 => ?_, fun h_1 => ?_⟩
  · skip
    refine zq (σ := σ) hV hI rfl 3 ?_
    show (¬ w = 1 → V 31 [(0, .ref 10), (1, .int (nI k)), (2, .int w)] [] σ) ∧ (¬ (¬ w = 1) → V 20 [(0, .ref 10), (1, .int (nI k)), (2, .int w)] [] σ)
    refine ⟨fun h_17 => ?_, fun h_17 => ?_⟩
    · skip
      refine zq (σ := σ) hV hI rfl 4 ?_
      show zSp _ _ 79 [.ref 13, .int (nI k)] σ (fun r σ' => σ'.2.2.2 = σ.2.2.2 + zAl 79 → V 39 [(0, .ref 10), (1, .int (nI k)), (2, .int w)] (r.toList ++ []) σ')
      refine item_13 (zA_of hI rfl) rfl (by omega) (fun _ => ?_)
      refine zq (σ := σ) hV hI rfl 1 ?_
      show K (some (.int (σ.1 13 k))) σ
      first | (rw [if_pos h_1] at hK; exact hK) | (rw [if_neg h_1, if_pos h_17] at hK; exact hK) | (rw [if_neg h_1, if_neg h_17] at hK; exact hK)
    · skip
      have h_17 := Classical.not_not.mp h_17
      refine zq (σ := σ) hV hI rfl 4 ?_
      show zSp _ _ 79 [.ref 12, .int (nI k)] σ (fun r σ' => σ'.2.2.2 = σ.2.2.2 + zAl 79 → V 28 [(0, .ref 10), (1, .int (nI k)), (2, .int w)] (r.toList ++ []) σ')
      refine item_12 (zA_of hI rfl) rfl (by omega) (fun _ => ?_)
      refine zq (σ := σ) hV hI rfl 2 ?_
      show K (some (.int (σ.1 12 k))) σ
      first | (rw [if_pos h_1] at hK; exact hK) | (rw [if_neg h_1, if_pos h_17] at hK; exact hK) | (rw [if_neg h_1, if_neg h_17] at hK; exact hK)
  · skip
    have h_1 := Classical.not_not.mp h_1
    refine zq (σ := σ) hV hI rfl 4 ?_
    show zSp _ _ 79 [.ref 11, .int (nI k)] σ (fun r σ' => σ'.2.2.2 = σ.2.2.2 + zAl 79 → V 12 [(0, .ref 10), (1, .int (nI k)), (2, .int w)] (r.toList ++ []) σ')
    refine item_11 (zA_of hI rfl) rfl (by omega) (fun _ => ?_)
    refine zq (σ := σ) hV hI rfl 2 ?_
    show K (some (.int (σ.1 11 k))) σ
    first | (rw [if_pos h_1] at hK; exact hK) | (rw [if_neg h_1, if_pos h_17] at hK; exact hK) | (rw [if_neg h_1, if_neg h_17] at hK; exact hK)
set_option maxRecDepth 8000 in
set_option maxHeartbeats 4000000 in
theorem tnormal_ok {d : Nat} {σ : zSt} {K : Option Value → zSt → Prop} {w : Int32} (hI : zQI (kR 10 14) σ.2.2) (hK : K (some (.long (if w = 0 then σ.2.1 10 4 else if w = 1 then σ.2.1 10 5 else σ.2.1 10 6))) σ) : zSp zx (d + 1) mX7_normal [.ref 10, .int w] σ K := by
  refine ⟨⟨by decide, Nat.le_of_ble_eq_true rfl⟩, fun V hV => ?_⟩
  refine zq (σ := σ) hV hI rfl 2 ?_
  show (¬ w = 0 → V 11 [(0, .ref 10), (1, .int w)] [] σ) ∧ (¬ (¬ w = 0) → V 4 [(0, .ref 10), (1, .int w)] [] σ)
  refine ⟨fun h_1 => ?_, fun h_1 => ?_⟩
  · skip
    refine zq (σ := σ) hV hI rfl 3 ?_
    show (¬ w = 1 → V 23 [(0, .ref 10), (1, .int w)] [] σ) ∧ (¬ (¬ w = 1) → V 16 [(0, .ref 10), (1, .int w)] [] σ)
    refine ⟨fun h_13 => ?_, fun h_13 => ?_⟩
    · skip
      refine zq (σ := σ) hV hI rfl 3 ?_
      show K (some (.long (σ.2.1 10 6))) σ
      first | (rw [if_pos h_1] at hK; exact hK) | (rw [if_neg h_1, if_pos h_13] at hK; exact hK) | (rw [if_neg h_1, if_neg h_13] at hK; exact hK)
    · skip
      have h_13 := Classical.not_not.mp h_13
      refine zq (σ := σ) hV hI rfl 4 ?_
      show K (some (.long (σ.2.1 10 5))) σ
      first | (rw [if_pos h_1] at hK; exact hK) | (rw [if_neg h_1, if_pos h_13] at hK; exact hK) | (rw [if_neg h_1, if_neg h_13] at hK; exact hK)
  · skip
    have h_1 := Classical.not_not.mp h_1
    refine zq (σ := σ) hV hI rfl 4 ?_
    show K (some (.long (σ.2.1 10 4))) σ
    first | (rw [if_pos h_1] at hK; exact hK) | (rw [if_neg h_1, if_pos h_13] at hK; exact hK) | (rw [if_neg h_1, if_neg h_13] at hK; exact hK)
def zX1 (A B C : Nat → Int64) (u v : Nat) : Int64 := B u * C v - C u * B v
def zX2 (A B C : Nat → Int64) (u v : Nat) : Int64 := C u * A v - A u * C v
def zX3 (A B C : Nat → Int64) (u v : Nat) : Int64 := A u * B v - B u * A v
def zNz (A B C : Nat → Int64) (u v : Nat) : Prop := zX1 A B C u v ≠ 0 ∨ zX2 A B C u v ≠ 0 ∨ zX3 A B C u v ≠ 0
abbrev zl (f : Nat → Int32) : Nat → Int64 := fun t => Int32.toInt64 (f t)
abbrev zA11 (σ : zSt) : Nat → Int64 := zl (σ.1 11)
abbrev zA12 (σ : zSt) : Nat → Int64 := zl (σ.1 12)
abbrev zA13 (σ : zSt) : Nat → Int64 := zl (σ.1 13)
def zCx (σ : zSt) (u v : Nat) : zSt := zuJ (zuJ (zuJ σ 10 4 (zX1 (zA11 σ) (zA12 σ) (zA13 σ) u v)) 10 5 (zX2 (zA11 σ) (zA12 σ) (zA13 σ) u v)) 10 6 (zX3 (zA11 σ) (zA12 σ) (zA13 σ) u v)
set_option maxRecDepth 8000 in
set_option maxHeartbeats 4000000 in
theorem cross_ok {d : Nat} {σ : zSt} {K : Option Value → zSt → Prop} {a b : Int32} {u v : Nat} (hI : zQI (kR 10 14) σ.2.2) (ea : a = nI u) (hu : u < 16) (eb : b = nI v) (hv : v < 16) (h1 : zNz (zA11 σ) (zA12 σ) (zA13 σ) u v → K (some (.int 1)) (zCx σ u v)) (h0 : ¬ zNz (zA11 σ) (zA12 σ) (zA13 σ) u v → K (some (.int 0)) (zCx σ u v)) : zSp zx (d + 2) mX7_cross [.ref 10, .int a, .int b] σ K := by
  refine ⟨⟨by decide, Nat.le_of_ble_eq_true rfl⟩, fun V hV => ?_⟩
  subst ea
  subst eb
  refine zq (σ := σ) hV hI rfl 4 ?_
  show zSp _ _ 79 [.ref 11, .int (nI u)] σ (fun r σ' => σ'.2.2.2 = σ.2.2.2 + zAl 79 → V 8 [(0, .ref 10), (1, .int (nI u)), (2, .int (nI v))] (r.toList ++ []) σ')
  refine item_11 (zA_of hI rfl) rfl (by omega) (fun _ => ?_)
  refine zq (σ := σ) hV hI rfl 6 ?_
  show zSp _ _ 79 [.ref 12, .int (nI u)] σ (fun r σ' => σ'.2.2.2 = σ.2.2.2 + zAl 79 → V 18 [(3, .long (Int32.toInt64 (σ.1 11 u))), (0, .ref 10), (1, .int (nI u)), (2, .int (nI v))] (r.toList ++ []) σ')
  refine item_12 (zA_of hI rfl) rfl (by omega) (fun _ => ?_)
  refine zq (σ := σ) hV hI rfl 6 ?_
  show zSp _ _ 79 [.ref 13, .int (nI u)] σ (fun r σ' => σ'.2.2.2 = σ.2.2.2 + zAl 79 → V 29 [(5, .long (Int32.toInt64 (σ.1 12 u))), (3, .long (Int32.toInt64 (σ.1 11 u))), (0, .ref 10), (1, .int (nI u)), (2, .int (nI v))] (r.toList ++ []) σ')
  refine item_13 (zA_of hI rfl) rfl (by omega) (fun _ => ?_)
  refine zq (σ := σ) hV hI rfl 6 ?_
  show zSp _ _ 79 [.ref 11, .int (nI v)] σ (fun r σ' => σ'.2.2.2 = σ.2.2.2 + zAl 79 → V 40 [(7, .long (Int32.toInt64 (σ.1 13 u))), (5, .long (Int32.toInt64 (σ.1 12 u))), (3, .long (Int32.toInt64 (σ.1 11 u))), (0, .ref 10), (1, .int (nI u)), (2, .int (nI v))] (r.toList ++ []) σ')
  refine item_11 (zA_of hI rfl) rfl (by omega) (fun _ => ?_)
  refine zq (σ := σ) hV hI rfl 6 ?_
  show zSp _ _ 79 [.ref 12, .int (nI v)] σ (fun r σ' => σ'.2.2.2 = σ.2.2.2 + zAl 79 → V 51 [(9, .long (Int32.toInt64 (σ.1 11 v))), (7, .long (Int32.toInt64 (σ.1 13 u))), (5, .long (Int32.toInt64 (σ.1 12 u))), (3, .long (Int32.toInt64 (σ.1 11 u))), (0, .ref 10), (1, .int (nI u)), (2, .int (nI v))] (r.toList ++ []) σ')
  refine item_12 (zA_of hI rfl) rfl (by omega) (fun _ => ?_)
  refine zq (σ := σ) hV hI rfl 6 ?_
  show zSp _ _ 79 [.ref 13, .int (nI v)] σ (fun r σ' => σ'.2.2.2 = σ.2.2.2 + zAl 79 → V 62 [(11, .long (Int32.toInt64 (σ.1 12 v))), (9, .long (Int32.toInt64 (σ.1 11 v))), (7, .long (Int32.toInt64 (σ.1 13 u))), (5, .long (Int32.toInt64 (σ.1 12 u))), (3, .long (Int32.toInt64 (σ.1 11 u))), (0, .ref 10), (1, .int (nI u)), (2, .int (nI v))] (r.toList ++ []) σ')
  refine item_13 (zA_of hI rfl) rfl (by omega) (fun _ => ?_)
  refine zq (σ := σ) hV hI rfl 34 ?_
  show (¬ (lg_cmp (((Int32.toInt64 (σ.1 12 u)) * (Int32.toInt64 (σ.1 13 v))) - ((Int32.toInt64 (σ.1 13 u)) * (Int32.toInt64 (σ.1 12 v)))) 0) = 0 → V 135 [(13, .long (Int32.toInt64 (σ.1 13 v))), (11, .long (Int32.toInt64 (σ.1 12 v))), (9, .long (Int32.toInt64 (σ.1 11 v))), (7, .long (Int32.toInt64 (σ.1 13 u))), (5, .long (Int32.toInt64 (σ.1 12 u))), (3, .long (Int32.toInt64 (σ.1 11 u))), (0, .ref 10), (1, .int (nI u)), (2, .int (nI v))] [] (zuJ (zuJ (zuJ σ 10 4 (((Int32.toInt64 (σ.1 12 u)) * (Int32.toInt64 (σ.1 13 v))) - ((Int32.toInt64 (σ.1 13 u)) * (Int32.toInt64 (σ.1 12 v))))) 10 5 (((Int32.toInt64 (σ.1 13 u)) * (Int32.toInt64 (σ.1 11 v))) - ((Int32.toInt64 (σ.1 11 u)) * (Int32.toInt64 (σ.1 13 v))))) 10 6 (((Int32.toInt64 (σ.1 11 u)) * (Int32.toInt64 (σ.1 12 v))) - ((Int32.toInt64 (σ.1 12 u)) * (Int32.toInt64 (σ.1 11 v)))))) ∧ (¬ (¬ (lg_cmp (((Int32.toInt64 (σ.1 12 u)) * (Int32.toInt64 (σ.1 13 v))) - ((Int32.toInt64 (σ.1 13 u)) * (Int32.toInt64 (σ.1 12 v)))) 0) = 0) → V 117 [(13, .long (Int32.toInt64 (σ.1 13 v))), (11, .long (Int32.toInt64 (σ.1 12 v))), (9, .long (Int32.toInt64 (σ.1 11 v))), (7, .long (Int32.toInt64 (σ.1 13 u))), (5, .long (Int32.toInt64 (σ.1 12 u))), (3, .long (Int32.toInt64 (σ.1 11 u))), (0, .ref 10), (1, .int (nI u)), (2, .int (nI v))] [] (zuJ (zuJ (zuJ σ 10 4 (((Int32.toInt64 (σ.1 12 u)) * (Int32.toInt64 (σ.1 13 v))) - ((Int32.toInt64 (σ.1 13 u)) * (Int32.toInt64 (σ.1 12 v))))) 10 5 (((Int32.toInt64 (σ.1 13 u)) * (Int32.toInt64 (σ.1 11 v))) - ((Int32.toInt64 (σ.1 11 u)) * (Int32.toInt64 (σ.1 13 v))))) 10 6 (((Int32.toInt64 (σ.1 11 u)) * (Int32.toInt64 (σ.1 12 v))) - ((Int32.toInt64 (σ.1 12 u)) * (Int32.toInt64 (σ.1 11 v))))))
  refine ⟨fun h_114 => ?_, fun h_114 => ?_⟩
  · skip
    refine zq (σ := (zuJ (zuJ (zuJ σ 10 4 (((Int32.toInt64 (σ.1 12 u)) * (Int32.toInt64 (σ.1 13 v))) - ((Int32.toInt64 (σ.1 13 u)) * (Int32.toInt64 (σ.1 12 v))))) 10 5 (((Int32.toInt64 (σ.1 13 u)) * (Int32.toInt64 (σ.1 11 v))) - ((Int32.toInt64 (σ.1 11 u)) * (Int32.toInt64 (σ.1 13 v))))) 10 6 (((Int32.toInt64 (σ.1 11 u)) * (Int32.toInt64 (σ.1 12 v))) - ((Int32.toInt64 (σ.1 12 u)) * (Int32.toInt64 (σ.1 11 v)))))) hV hI rfl 3 ?_
    show ((1 : Int32) = 0 ∨ (1 : Int32) = 1) ∧ K (some (.int 1)) (zuJ (zuJ (zuJ σ 10 4 (((Int32.toInt64 (σ.1 12 u)) * (Int32.toInt64 (σ.1 13 v))) - ((Int32.toInt64 (σ.1 13 u)) * (Int32.toInt64 (σ.1 12 v))))) 10 5 (((Int32.toInt64 (σ.1 13 u)) * (Int32.toInt64 (σ.1 11 v))) - ((Int32.toInt64 (σ.1 11 u)) * (Int32.toInt64 (σ.1 13 v))))) 10 6 (((Int32.toInt64 (σ.1 11 u)) * (Int32.toInt64 (σ.1 12 v))) - ((Int32.toInt64 (σ.1 12 u)) * (Int32.toInt64 (σ.1 11 v)))))
    refine ⟨by decide, ?_⟩
    first | exact h1 (Or.inl (fun q => h_114 (zcmp_eq.mpr q))) | exact h1 (Or.inr (Or.inl (fun q => h_123 (zcmp_eq.mpr q)))) | exact h1 (Or.inr (Or.inr (fun q => h_132 (zcmp_eq.mpr q))))
  · skip
    have h_114 := Classical.not_not.mp h_114
    refine zq (σ := (zuJ (zuJ (zuJ σ 10 4 (((Int32.toInt64 (σ.1 12 u)) * (Int32.toInt64 (σ.1 13 v))) - ((Int32.toInt64 (σ.1 13 u)) * (Int32.toInt64 (σ.1 12 v))))) 10 5 (((Int32.toInt64 (σ.1 13 u)) * (Int32.toInt64 (σ.1 11 v))) - ((Int32.toInt64 (σ.1 11 u)) * (Int32.toInt64 (σ.1 13 v))))) 10 6 (((Int32.toInt64 (σ.1 11 u)) * (Int32.toInt64 (σ.1 12 v))) - ((Int32.toInt64 (σ.1 12 u)) * (Int32.toInt64 (σ.1 11 v)))))) hV hI rfl 5 ?_
    show (¬ (lg_cmp (((Int32.toInt64 (σ.1 13 u)) * (Int32.toInt64 (σ.1 11 v))) - ((Int32.toInt64 (σ.1 11 u)) * (Int32.toInt64 (σ.1 13 v)))) 0) = 0 → V 135 [(13, .long (Int32.toInt64 (σ.1 13 v))), (11, .long (Int32.toInt64 (σ.1 12 v))), (9, .long (Int32.toInt64 (σ.1 11 v))), (7, .long (Int32.toInt64 (σ.1 13 u))), (5, .long (Int32.toInt64 (σ.1 12 u))), (3, .long (Int32.toInt64 (σ.1 11 u))), (0, .ref 10), (1, .int (nI u)), (2, .int (nI v))] [] (zuJ (zuJ (zuJ σ 10 4 (((Int32.toInt64 (σ.1 12 u)) * (Int32.toInt64 (σ.1 13 v))) - ((Int32.toInt64 (σ.1 13 u)) * (Int32.toInt64 (σ.1 12 v))))) 10 5 (((Int32.toInt64 (σ.1 13 u)) * (Int32.toInt64 (σ.1 11 v))) - ((Int32.toInt64 (σ.1 11 u)) * (Int32.toInt64 (σ.1 13 v))))) 10 6 (((Int32.toInt64 (σ.1 11 u)) * (Int32.toInt64 (σ.1 12 v))) - ((Int32.toInt64 (σ.1 12 u)) * (Int32.toInt64 (σ.1 11 v)))))) ∧ (¬ (¬ (lg_cmp (((Int32.toInt64 (σ.1 13 u)) * (Int32.toInt64 (σ.1 11 v))) - ((Int32.toInt64 (σ.1 11 u)) * (Int32.toInt64 (σ.1 13 v)))) 0) = 0) → V 126 [(13, .long (Int32.toInt64 (σ.1 13 v))), (11, .long (Int32.toInt64 (σ.1 12 v))), (9, .long (Int32.toInt64 (σ.1 11 v))), (7, .long (Int32.toInt64 (σ.1 13 u))), (5, .long (Int32.toInt64 (σ.1 12 u))), (3, .long (Int32.toInt64 (σ.1 11 u))), (0, .ref 10), (1, .int (nI u)), (2, .int (nI v))] [] (zuJ (zuJ (zuJ σ 10 4 (((Int32.toInt64 (σ.1 12 u)) * (Int32.toInt64 (σ.1 13 v))) - ((Int32.toInt64 (σ.1 13 u)) * (Int32.toInt64 (σ.1 12 v))))) 10 5 (((Int32.toInt64 (σ.1 13 u)) * (Int32.toInt64 (σ.1 11 v))) - ((Int32.toInt64 (σ.1 11 u)) * (Int32.toInt64 (σ.1 13 v))))) 10 6 (((Int32.toInt64 (σ.1 11 u)) * (Int32.toInt64 (σ.1 12 v))) - ((Int32.toInt64 (σ.1 12 u)) * (Int32.toInt64 (σ.1 11 v))))))
    refine ⟨fun h_123 => ?_, fun h_123 => ?_⟩
    · skip
      refine zq (σ := (zuJ (zuJ (zuJ σ 10 4 (((Int32.toInt64 (σ.1 12 u)) * (Int32.toInt64 (σ.1 13 v))) - ((Int32.toInt64 (σ.1 13 u)) * (Int32.toInt64 (σ.1 12 v))))) 10 5 (((Int32.toInt64 (σ.1 13 u)) * (Int32.toInt64 (σ.1 11 v))) - ((Int32.toInt64 (σ.1 11 u)) * (Int32.toInt64 (σ.1 13 v))))) 10 6 (((Int32.toInt64 (σ.1 11 u)) * (Int32.toInt64 (σ.1 12 v))) - ((Int32.toInt64 (σ.1 12 u)) * (Int32.toInt64 (σ.1 11 v)))))) hV hI rfl 3 ?_
      show ((1 : Int32) = 0 ∨ (1 : Int32) = 1) ∧ K (some (.int 1)) (zuJ (zuJ (zuJ σ 10 4 (((Int32.toInt64 (σ.1 12 u)) * (Int32.toInt64 (σ.1 13 v))) - ((Int32.toInt64 (σ.1 13 u)) * (Int32.toInt64 (σ.1 12 v))))) 10 5 (((Int32.toInt64 (σ.1 13 u)) * (Int32.toInt64 (σ.1 11 v))) - ((Int32.toInt64 (σ.1 11 u)) * (Int32.toInt64 (σ.1 13 v))))) 10 6 (((Int32.toInt64 (σ.1 11 u)) * (Int32.toInt64 (σ.1 12 v))) - ((Int32.toInt64 (σ.1 12 u)) * (Int32.toInt64 (σ.1 11 v)))))
      refine ⟨by decide, ?_⟩
      first | exact h1 (Or.inl (fun q => h_114 (zcmp_eq.mpr q))) | exact h1 (Or.inr (Or.inl (fun q => h_123 (zcmp_eq.mpr q)))) | exact h1 (Or.inr (Or.inr (fun q => h_132 (zcmp_eq.mpr q))))
    · skip
      have h_123 := Classical.not_not.mp h_123
      refine zq (σ := (zuJ (zuJ (zuJ σ 10 4 (((Int32.toInt64 (σ.1 12 u)) * (Int32.toInt64 (σ.1 13 v))) - ((Int32.toInt64 (σ.1 13 u)) * (Int32.toInt64 (σ.1 12 v))))) 10 5 (((Int32.toInt64 (σ.1 13 u)) * (Int32.toInt64 (σ.1 11 v))) - ((Int32.toInt64 (σ.1 11 u)) * (Int32.toInt64 (σ.1 13 v))))) 10 6 (((Int32.toInt64 (σ.1 11 u)) * (Int32.toInt64 (σ.1 12 v))) - ((Int32.toInt64 (σ.1 12 u)) * (Int32.toInt64 (σ.1 11 v)))))) hV hI rfl 5 ?_
      show ((lg_cmp (((Int32.toInt64 (σ.1 11 u)) * (Int32.toInt64 (σ.1 12 v))) - ((Int32.toInt64 (σ.1 12 u)) * (Int32.toInt64 (σ.1 11 v)))) 0) = 0 → V 139 [(13, .long (Int32.toInt64 (σ.1 13 v))), (11, .long (Int32.toInt64 (σ.1 12 v))), (9, .long (Int32.toInt64 (σ.1 11 v))), (7, .long (Int32.toInt64 (σ.1 13 u))), (5, .long (Int32.toInt64 (σ.1 12 u))), (3, .long (Int32.toInt64 (σ.1 11 u))), (0, .ref 10), (1, .int (nI u)), (2, .int (nI v))] [] (zuJ (zuJ (zuJ σ 10 4 (((Int32.toInt64 (σ.1 12 u)) * (Int32.toInt64 (σ.1 13 v))) - ((Int32.toInt64 (σ.1 13 u)) * (Int32.toInt64 (σ.1 12 v))))) 10 5 (((Int32.toInt64 (σ.1 13 u)) * (Int32.toInt64 (σ.1 11 v))) - ((Int32.toInt64 (σ.1 11 u)) * (Int32.toInt64 (σ.1 13 v))))) 10 6 (((Int32.toInt64 (σ.1 11 u)) * (Int32.toInt64 (σ.1 12 v))) - ((Int32.toInt64 (σ.1 12 u)) * (Int32.toInt64 (σ.1 11 v)))))) ∧ (¬ (lg_cmp (((Int32.toInt64 (σ.1 11 u)) * (Int32.toInt64 (σ.1 12 v))) - ((Int32.toInt64 (σ.1 12 u)) * (Int32.toInt64 (σ.1 11 v)))) 0) = 0 → V 135 [(13, .long (Int32.toInt64 (σ.1 13 v))), (11, .long (Int32.toInt64 (σ.1 12 v))), (9, .long (Int32.toInt64 (σ.1 11 v))), (7, .long (Int32.toInt64 (σ.1 13 u))), (5, .long (Int32.toInt64 (σ.1 12 u))), (3, .long (Int32.toInt64 (σ.1 11 u))), (0, .ref 10), (1, .int (nI u)), (2, .int (nI v))] [] (zuJ (zuJ (zuJ σ 10 4 (((Int32.toInt64 (σ.1 12 u)) * (Int32.toInt64 (σ.1 13 v))) - ((Int32.toInt64 (σ.1 13 u)) * (Int32.toInt64 (σ.1 12 v))))) 10 5 (((Int32.toInt64 (σ.1 13 u)) * (Int32.toInt64 (σ.1 11 v))) - ((Int32.toInt64 (σ.1 11 u)) * (Int32.toInt64 (σ.1 13 v))))) 10 6 (((Int32.toInt64 (σ.1 11 u)) * (Int32.toInt64 (σ.1 12 v))) - ((Int32.toInt64 (σ.1 12 u)) * (Int32.toInt64 (σ.1 11 v))))))
      refine ⟨fun h_132 => ?_, fun h_132 => ?_⟩
      · skip
        refine zq (σ := (zuJ (zuJ (zuJ σ 10 4 (((Int32.toInt64 (σ.1 12 u)) * (Int32.toInt64 (σ.1 13 v))) - ((Int32.toInt64 (σ.1 13 u)) * (Int32.toInt64 (σ.1 12 v))))) 10 5 (((Int32.toInt64 (σ.1 13 u)) * (Int32.toInt64 (σ.1 11 v))) - ((Int32.toInt64 (σ.1 11 u)) * (Int32.toInt64 (σ.1 13 v))))) 10 6 (((Int32.toInt64 (σ.1 11 u)) * (Int32.toInt64 (σ.1 12 v))) - ((Int32.toInt64 (σ.1 12 u)) * (Int32.toInt64 (σ.1 11 v)))))) hV hI rfl 2 ?_
        show ((0 : Int32) = 0 ∨ (0 : Int32) = 1) ∧ K (some (.int 0)) (zuJ (zuJ (zuJ σ 10 4 (((Int32.toInt64 (σ.1 12 u)) * (Int32.toInt64 (σ.1 13 v))) - ((Int32.toInt64 (σ.1 13 u)) * (Int32.toInt64 (σ.1 12 v))))) 10 5 (((Int32.toInt64 (σ.1 13 u)) * (Int32.toInt64 (σ.1 11 v))) - ((Int32.toInt64 (σ.1 11 u)) * (Int32.toInt64 (σ.1 13 v))))) 10 6 (((Int32.toInt64 (σ.1 11 u)) * (Int32.toInt64 (σ.1 12 v))) - ((Int32.toInt64 (σ.1 12 u)) * (Int32.toInt64 (σ.1 11 v)))))
        refine ⟨by decide, ?_⟩
        exact h0 (fun q => q.elim (fun q => q (zcmp_eq.mp h_114)) (fun q => q.elim (fun q => q (zcmp_eq.mp h_123)) (fun q => q (zcmp_eq.mp h_132))))
      · skip
        refine zq (σ := (zuJ (zuJ (zuJ σ 10 4 (((Int32.toInt64 (σ.1 12 u)) * (Int32.toInt64 (σ.1 13 v))) - ((Int32.toInt64 (σ.1 13 u)) * (Int32.toInt64 (σ.1 12 v))))) 10 5 (((Int32.toInt64 (σ.1 13 u)) * (Int32.toInt64 (σ.1 11 v))) - ((Int32.toInt64 (σ.1 11 u)) * (Int32.toInt64 (σ.1 13 v))))) 10 6 (((Int32.toInt64 (σ.1 11 u)) * (Int32.toInt64 (σ.1 12 v))) - ((Int32.toInt64 (σ.1 12 u)) * (Int32.toInt64 (σ.1 11 v)))))) hV hI rfl 3 ?_
        show ((1 : Int32) = 0 ∨ (1 : Int32) = 1) ∧ K (some (.int 1)) (zuJ (zuJ (zuJ σ 10 4 (((Int32.toInt64 (σ.1 12 u)) * (Int32.toInt64 (σ.1 13 v))) - ((Int32.toInt64 (σ.1 13 u)) * (Int32.toInt64 (σ.1 12 v))))) 10 5 (((Int32.toInt64 (σ.1 13 u)) * (Int32.toInt64 (σ.1 11 v))) - ((Int32.toInt64 (σ.1 11 u)) * (Int32.toInt64 (σ.1 13 v))))) 10 6 (((Int32.toInt64 (σ.1 11 u)) * (Int32.toInt64 (σ.1 12 v))) - ((Int32.toInt64 (σ.1 12 u)) * (Int32.toInt64 (σ.1 11 v)))))
        refine ⟨by decide, ?_⟩
        first | exact h1 (Or.inl (fun q => h_114 (zcmp_eq.mpr q))) | exact h1 (Or.inr (Or.inl (fun q => h_123 (zcmp_eq.mpr q)))) | exact h1 (Or.inr (Or.inr (fun q => h_132 (zcmp_eq.mpr q))))
set_option maxRecDepth 8000 in
set_option maxHeartbeats 4000000 in
theorem turn_1 {d : Nat} {σ : zSt} {K : Option Value → zSt → Prop} (hI : zQI (kR 10 14) σ.2.2) (hK : K none (zuJ (zuJ (zuJ σ 10 4 (-σ.2.1 10 4)) 10 5 (-σ.2.1 10 5)) 10 6 (-σ.2.1 10 6))) : zSp zx (d + 1) mX7_turnIfBelow [.ref 10, .int 1] σ K := by
  refine ⟨⟨by decide, Nat.le_of_ble_eq_true rfl⟩, fun V hV => ?_⟩
  refine zq (σ := σ) hV hI rfl 3 ?_
  show (¬ (1 : Int32) = 1 → V 32 [(0, .ref 10), (1, .int 1)] [] σ) ∧ (¬ (¬ (1 : Int32) = 1) → V 5 [(0, .ref 10), (1, .int 1)] [] σ)
  refine ⟨fun hc => absurd hc (by decide), fun _ => ?_⟩
  refine zq (σ := σ) hV hI rfl 16 ?_
  show K none (zuJ (zuJ (zuJ σ 10 4 (-(σ.2.1 10 4))) 10 5 (-(σ.2.1 10 5))) 10 6 (-(σ.2.1 10 6)))
  exact hK
set_option maxRecDepth 8000 in
set_option maxHeartbeats 4000000 in
theorem turn_0 {d : Nat} {σ : zSt} {K : Option Value → zSt → Prop} (hI : zQI (kR 10 14) σ.2.2) (hK : K none σ) : zSp zx (d + 1) mX7_turnIfBelow [.ref 10, .int 0] σ K := by
  refine ⟨⟨by decide, Nat.le_of_ble_eq_true rfl⟩, fun V hV => ?_⟩
  refine zq (σ := σ) hV hI rfl 3 ?_
  show (¬ (0 : Int32) = 1 → V 32 [(0, .ref 10), (1, .int 0)] [] σ) ∧ (¬ (¬ (0 : Int32) = 1) → V 5 [(0, .ref 10), (1, .int 0)] [] σ)
  refine ⟨fun _ => ?_, fun hc => absurd (by decide) hc⟩
  refine zq (σ := σ) hV hI rfl 1 ?_
  show K none σ
  exact hK
set_option maxRecDepth 8000 in
set_option maxHeartbeats 4000000 in
theorem turn_2 {d : Nat} {σ : zSt} {K : Option Value → zSt → Prop} (hI : zQI (kR 10 14) σ.2.2) (hK : K none σ) : zSp zx (d + 1) mX7_turnIfBelow [.ref 10, .int 2] σ K := by
  refine ⟨⟨by decide, Nat.le_of_ble_eq_true rfl⟩, fun V hV => ?_⟩
  refine zq (σ := σ) hV hI rfl 3 ?_
  show (¬ (2 : Int32) = 1 → V 32 [(0, .ref 10), (1, .int 2)] [] σ) ∧ (¬ (¬ (2 : Int32) = 1) → V 5 [(0, .ref 10), (1, .int 2)] [] σ)
  refine ⟨fun _ => ?_, fun hc => absurd (by decide) hc⟩
  refine zq (σ := σ) hV hI rfl 1 ?_
  show K none σ
  exact hK
end
section
variable {zx : Nat × (Nat → Int32)}
def zDX (n : Nat) (X : Nat → Int32) (e : Nat) : Int32 := X (zNx n e) - X e
def zPX (n : Nat) (X : Nat → Int32) (e : Nat) (s : Int32) : Int32 := 8 * X e + s * zDX n X e
def zTi (f : Int32) (t : Nat) : Nat := if f = 0 then t else t / 2
def zEd (E : Nat → Int32) (i : Nat) : Nat := (E i).toNatClampNeg
def zT1 (n : Nat) (X Y : Nat → Int32) (f : Int32) (E : Nat → Int32) (t : Nat) : Int32 := if f = 0 ∨ t % 2 = 0 then (-16) * zDX n Y (zEd E (zTi f t)) + f * zDX n X (zEd E (zTi f t)) else (-16) * zDX n Y (zEd E (zTi f t)) - f * zDX n X (zEd E (zTi f t))
def zT2 (n : Nat) (X Y : Nat → Int32) (f : Int32) (E : Nat → Int32) (t : Nat) : Int32 := if f = 0 ∨ t % 2 = 0 then 16 * zDX n X (zEd E (zTi f t)) + f * zDX n Y (zEd E (zTi f t)) else 16 * zDX n X (zEd E (zTi f t)) - f * zDX n Y (zEd E (zTi f t))
def zT3 (n : Nat) (X Y : Nat → Int32) (f : Int32) (E S : Nat → Int32) (t : Nat) : Int32 := zPX n X (zEd E (zTi f t)) (S (zTi f t)) * zT2 n X Y f E t - zPX n Y (zEd E (zTi f t)) (S (zTi f t)) * zT1 n X Y f E t
/-- how many triples the first i fingers have -/
def zMl (f : Int32) (i : Nat) : Nat := if f = 0 then i else 2 * i
theorem zMl_0 {f : Int32} (h : f = 0) (i : Nat) : zMl f i = i := if_pos h
theorem zMl_1 {f : Int32} (h : ¬ f = 0) (i : Nat) : zMl f i = 2 * i := if_neg h
theorem zMl_le {f : Int32} {i : Nat} (h : i ≤ 8) : zMl f i ≤ 16 := by unfold zMl; split <;> omega
def zfT (a j : Nat) : Bool := (Nat.beq a 10 && Nat.beq j 3) || (Nat.ble 11 a && Nat.ble a 13)
def zTok (n : Nat) (X Y : Nat → Int32) (f : Int32) (E S : Nat → Int32) (m : Nat) (τ : zSt) : Prop := ∀ t, t < m → τ.1 11 t = zT1 n X Y f E t ∧ τ.1 12 t = zT2 n X Y f E t ∧ τ.1 13 t = zT3 n X Y f E S t
theorem zT_0 {n : Nat} {X Y : Nat → Int32} {f : Int32} {E S : Nat → Int32} {i e : Nat} (hf : f = 0) (hZ : zEd E i = e) :
    zT1 n X Y f E i = (-16) * (Y (zNx n e) - Y e) + f * (X (zNx n e) - X e) ∧ zT2 n X Y f E i = 16 * (X (zNx n e) - X e) + f * (Y (zNx n e) - Y e) ∧
    zT3 n X Y f E S i = (8 * X e + S i * (X (zNx n e) - X e)) * (16 * (X (zNx n e) - X e) + f * (Y (zNx n e) - Y e)) - (8 * Y e + S i * (Y (zNx n e) - Y e)) * ((-16) * (Y (zNx n e) - Y e) + f * (X (zNx n e) - X e)) := by
  have h1 : zTi f i = i := if_pos hf
  have h2 : (f = 0 ∨ i % 2 = 0) := Or.inl hf
  simp only [zT3, zT1, zT2, zPX, zDX, h1, hZ, if_pos h2, and_self]
theorem zT_1 {n : Nat} {X Y : Nat → Int32} {f : Int32} {E S : Nat → Int32} {i e : Nat} (hf : ¬ f = 0) (hZ : zEd E i = e) :
    (zT1 n X Y f E (2 * i) = (-16) * (Y (zNx n e) - Y e) + f * (X (zNx n e) - X e) ∧ zT2 n X Y f E (2 * i) = 16 * (X (zNx n e) - X e) + f * (Y (zNx n e) - Y e) ∧
    zT3 n X Y f E S (2 * i) = (8 * X e + S i * (X (zNx n e) - X e)) * (16 * (X (zNx n e) - X e) + f * (Y (zNx n e) - Y e)) - (8 * Y e + S i * (Y (zNx n e) - Y e)) * ((-16) * (Y (zNx n e) - Y e) + f * (X (zNx n e) - X e))) ∧
    zT1 n X Y f E (2 * i + 1) = (-16) * (Y (zNx n e) - Y e) - f * (X (zNx n e) - X e) ∧ zT2 n X Y f E (2 * i + 1) = 16 * (X (zNx n e) - X e) - f * (Y (zNx n e) - Y e) ∧
    zT3 n X Y f E S (2 * i + 1) = (8 * X e + S i * (X (zNx n e) - X e)) * (16 * (X (zNx n e) - X e) - f * (Y (zNx n e) - Y e)) - (8 * Y e + S i * (Y (zNx n e) - Y e)) * ((-16) * (Y (zNx n e) - Y e) - f * (X (zNx n e) - X e)) := by
  have h1 : zTi f (2 * i) = i := by unfold zTi; rw [if_neg hf]; omega
  have h1' : zTi f (2 * i + 1) = i := by unfold zTi; rw [if_neg hf]; omega
  have h2 : (f = 0 ∨ (2 * i) % 2 = 0) := Or.inr (by omega)
  have h2' : ¬ (f = 0 ∨ (2 * i + 1) % 2 = 0) := by rintro (h | h); exact hf h; omega
  simp only [zT3, zT1, zT2, zPX, zDX, h1, h1', hZ, if_pos h2, if_neg h2', and_self]
set_option maxRecDepth 8000 in
set_option maxHeartbeats 4000000 in
theorem press_4 {d : Nat} {σ : zSt} {K : Option Value → zSt → Prop} {f : Int32} {n m : Nat} (hI : zQI (kR 1 14) σ.2.2) (hn : σ.1 1 2 = nI n) (hn10 : n ≤ 10) (hs : σ.1 4 2 = nI m) (hm : m ≤ 8) (hE : ∀ i, i < m → ∃ e, σ.1 5 i = nI e ∧ e < n) (hK : ∀ τ, zOnly zfT σ τ → τ.1 10 3 = nI (zMl f m) → zTok n (σ.1 2) (σ.1 3) f (σ.1 5) (σ.1 6) (zMl f m) τ → K none τ) : zSp zx (d + 3) mX7_press [.ref 10, .ref 4, .ref 1, .int f] σ K := by
  refine ⟨⟨by decide, Nat.le_of_ble_eq_true rfl⟩, fun V hV => ?_⟩
  refine zq (σ := σ) hV hI rfl 5 ?_
  show V 8 [(4, .int 0), (0, .ref 10), (1, .ref 4), (2, .ref 1), (3, .int f)] [] (zuI σ 10 3 0)
  refine zwk hV [1, 2, 3, 4, 0] rfl ?_
  have H : ∀ (r i : Nat) (τ : zSt), i + r = m → zOnly zfT σ τ → τ.1 10 3 = nI (zMl f i) → zTok n (σ.1 2) (σ.1 3) f (σ.1 5) (σ.1 6) (zMl f i) τ → V 8 [(0, .ref 10), (1, .ref 4), (2, .ref 1), (3, .int f), (4, .int (nI i))] [] τ := by
    intro r
    induction r with
    | zero =>
      intro i τ hin ht h10 hj
      have hIt := zQI_eq hI ht.2.2
      have hnt : τ.2.2.2 = σ.2.2.2 := congrArg Prod.snd ht.2.2
      have hst : τ.1 4 2 = nI m := (ht.1 4 2 rfl).trans hs
      refine zq (σ := τ) hV hIt hnt 3 ?_
      show zSp _ _ 6 [.ref 4] τ (fun r σ' => σ'.2.2.2 = τ.2.2.2 + zAl 6 → V 14 [(0, .ref 10), (1, .ref 4), (2, .ref 1), (3, .int f), (4, .int (nI i))] (r.toList ++ [.int (nI i)]) σ')
      refine hsize_4 (zR_of hIt rfl rfl) (fun _ => ?_)
      refine zq (σ := τ) hV hIt hnt 1 ?_
      show ((τ.1 4 2) ≤ (nI i) → V 149 [(0, .ref 10), (1, .ref 4), (2, .ref 1), (3, .int f), (4, .int (nI i))] [] τ) ∧ (¬ (τ.1 4 2) ≤ (nI i) → V 17 [(0, .ref 10), (1, .ref 4), (2, .ref 1), (3, .int f), (4, .int (nI i))] [] τ)
      refine ⟨fun _ => ?_, fun hc => absurd (show τ.1 4 2 ≤ nI i by rw [hst, show i = m by omega]; exact Int32.le_refl _) hc⟩
      refine zq (σ := τ) hV hIt hnt 1 ?_
      show K none τ
      obtain rfl : i = m := by omega
      exact hK τ ht h10 hj
    | succ r ih =>
      intro i τ hin ht h10 hj
      have hIt := zQI_eq hI ht.2.2
      have hnt : τ.2.2.2 = σ.2.2.2 := congrArg Prod.snd ht.2.2
      have hst : τ.1 4 2 = nI m := (ht.1 4 2 rfl).trans hs
      have hmi : i < m := by omega
      have hml := @zMl_le f (i + 1) (by omega)
      obtain ⟨e, he0, hen⟩ := hE i hmi
      have he : τ.1 5 i = nI e := (ht.1 5 i rfl).trans he0
      have hZ : zEd (σ.1 5) i = e := by unfold zEd; rw [he0]; exact nI_clamp (by omega)
      have hX : τ.1 2 = σ.1 2 := funext fun j => ht.1 2 j rfl
      have hY : τ.1 3 = σ.1 3 := funext fun j => ht.1 3 j rfl
      have hSt : τ.1 6 i = σ.1 6 i := ht.1 6 i rfl
      replace hn : τ.1 1 2 = nI n := (ht.1 1 2 rfl).trans hn
      have hze := zNx_lt hen
      have hm1 : zMl f i < 16 ∧ (¬ f = 0 → zMl f i + 1 < 16) := by unfold zMl at hml ⊢; split <;> rename_i q <;> simp only [q, if_true, if_false] at hml <;> omega
      refine zq (σ := τ) hV hIt hnt 3 ?_
      show zSp _ _ 6 [.ref 4] τ (fun r σ' => σ'.2.2.2 = τ.2.2.2 + zAl 6 → V 14 [(0, .ref 10), (1, .ref 4), (2, .ref 1), (3, .int f), (4, .int (nI i))] (r.toList ++ [.int (nI i)]) σ')
      refine hsize_4 (zR_of hIt rfl rfl) (fun _ => ?_)
      refine zq (σ := τ) hV hIt hnt 1 ?_
      show ((τ.1 4 2) ≤ (nI i) → V 149 [(0, .ref 10), (1, .ref 4), (2, .ref 1), (3, .int f), (4, .int (nI i))] [] τ) ∧ (¬ (τ.1 4 2) ≤ (nI i) → V 17 [(0, .ref 10), (1, .ref 4), (2, .ref 1), (3, .int f), (4, .int (nI i))] [] τ)
      refine ⟨fun hc => absurd hc (show ¬ τ.1 4 2 ≤ nI i by rw [hst]; exact nI_ge hmi (by omega)), fun _ => ?_⟩
      refine zq (σ := τ) hV hIt hnt 3 ?_
      show zSp _ _ 7 [.ref 4, .int (nI i)] τ (fun r σ' => σ'.2.2.2 = τ.2.2.2 + zAl 7 → V 23 [(0, .ref 10), (1, .ref 4), (2, .ref 1), (3, .int f), (4, .int (nI i))] (r.toList ++ []) σ')
      refine hedge_4 (zR_of hIt rfl rfl) rfl (by omega) (fun _ => ?_)
      refine zq (σ := τ) hV hIt hnt 4 ?_
      show zSp _ _ 8 [.ref 4, .int (nI i)] τ (fun r σ' => σ'.2.2.2 = τ.2.2.2 + zAl 8 → V 31 [(5, .int (τ.1 5 i)), (0, .ref 10), (1, .ref 4), (2, .ref 1), (3, .int f), (4, .int (nI i))] (r.toList ++ []) σ')
      refine heighth_4 (zR_of hIt rfl rfl) rfl (by omega) (fun _ => ?_)
      refine zq (σ := τ) hV hIt hnt 4 ?_
      show zSp _ _ 21 [.ref 1, .int (τ.1 5 i)] τ (fun r σ' => σ'.2.2.2 = τ.2.2.2 + zAl 21 → V 39 [(6, .int (τ.1 6 i)), (5, .int (τ.1 5 i)), (0, .ref 10), (1, .ref 4), (2, .ref 1), (3, .int f), (4, .int (nI i))] (r.toList ++ []) σ')
      refine dx_ok (zR_of hIt rfl rfl) hn (by omega) he (by omega) (fun _ => ?_)
      refine zq (σ := τ) hV hIt hnt 4 ?_
      show zSp _ _ 22 [.ref 1, .int (τ.1 5 i)] τ (fun r σ' => σ'.2.2.2 = τ.2.2.2 + zAl 22 → V 47 [(7, .int ((τ.1 2 (zNx n e)) - (τ.1 2 e))), (6, .int (τ.1 6 i)), (5, .int (τ.1 5 i)), (0, .ref 10), (1, .ref 4), (2, .ref 1), (3, .int f), (4, .int (nI i))] (r.toList ++ []) σ')
      refine dy_ok (zR_of hIt rfl rfl) hn (by omega) he (by omega) (fun _ => ?_)
      refine zq (σ := τ) hV hIt hnt 5 ?_
      show zSp _ _ 18 [.ref 1, .int (τ.1 5 i)] τ (fun r σ' => σ'.2.2.2 = τ.2.2.2 + zAl 18 → V 57 [(8, .int ((τ.1 3 (zNx n e)) - (τ.1 3 e))), (7, .int ((τ.1 2 (zNx n e)) - (τ.1 2 e))), (6, .int (τ.1 6 i)), (5, .int (τ.1 5 i)), (0, .ref 10), (1, .ref 4), (2, .ref 1), (3, .int f), (4, .int (nI i))] (r.toList ++ [.int 8]) σ')
      refine x_ok (zR_of hIt rfl rfl) he (by omega) (fun _ => ?_)
      refine zq (σ := τ) hV hIt hnt 10 ?_
      show zSp _ _ 19 [.ref 1, .int (τ.1 5 i)] τ (fun r σ' => σ'.2.2.2 = τ.2.2.2 + zAl 19 → V 74 [(9, .int ((8 * (τ.1 2 e)) + ((τ.1 6 i) * ((τ.1 2 (zNx n e)) - (τ.1 2 e))))), (8, .int ((τ.1 3 (zNx n e)) - (τ.1 3 e))), (7, .int ((τ.1 2 (zNx n e)) - (τ.1 2 e))), (6, .int (τ.1 6 i)), (5, .int (τ.1 5 i)), (0, .ref 10), (1, .ref 4), (2, .ref 1), (3, .int f), (4, .int (nI i))] (r.toList ++ [.int 8]) σ')
      refine y_ok (zR_of hIt rfl rfl) he (by omega) (fun _ => ?_)
      refine zq (σ := τ) hV hIt hnt 24 ?_
      show zSp _ _ 47 [.ref 10, .int ((8 * (τ.1 2 e)) + ((τ.1 6 i) * ((τ.1 2 (zNx n e)) - (τ.1 2 e)))), .int ((8 * (τ.1 3 e)) + ((τ.1 6 i) * ((τ.1 3 (zNx n e)) - (τ.1 3 e)))), .int (((-16) * ((τ.1 3 (zNx n e)) - (τ.1 3 e))) + (f * ((τ.1 2 (zNx n e)) - (τ.1 2 e)))), .int ((16 * ((τ.1 2 (zNx n e)) - (τ.1 2 e))) + (f * ((τ.1 3 (zNx n e)) - (τ.1 3 e))))] τ (fun r σ' => σ'.2.2.2 = τ.2.2.2 + zAl 47 → V 111 [(10, .int ((8 * (τ.1 3 e)) + ((τ.1 6 i) * ((τ.1 3 (zNx n e)) - (τ.1 3 e))))), (9, .int ((8 * (τ.1 2 e)) + ((τ.1 6 i) * ((τ.1 2 (zNx n e)) - (τ.1 2 e))))), (8, .int ((τ.1 3 (zNx n e)) - (τ.1 3 e))), (7, .int ((τ.1 2 (zNx n e)) - (τ.1 2 e))), (6, .int (τ.1 6 i)), (5, .int (τ.1 5 i)), (0, .ref 10), (1, .ref 4), (2, .ref 1), (3, .int f), (4, .int (nI i))] (r.toList ++ []) σ')
      refine tadd_ok (zR_of hIt rfl rfl) (m := (zMl f i)) h10 hm1.1 (fun _ => ?_)
      refine zq (σ := (zuI (zuI (zuI (zuI τ 11 (zMl f i) (((-16) * ((τ.1 3 (zNx n e)) - (τ.1 3 e))) + (f * ((τ.1 2 (zNx n e)) - (τ.1 2 e))))) 12 (zMl f i) ((16 * ((τ.1 2 (zNx n e)) - (τ.1 2 e))) + (f * ((τ.1 3 (zNx n e)) - (τ.1 3 e))))) 13 (zMl f i) (((8 * (τ.1 2 e)) + ((τ.1 6 i) * ((τ.1 2 (zNx n e)) - (τ.1 2 e)))) * ((16 * ((τ.1 2 (zNx n e)) - (τ.1 2 e))) + (f * ((τ.1 3 (zNx n e)) - (τ.1 3 e)))) - ((8 * (τ.1 3 e)) + ((τ.1 6 i) * ((τ.1 3 (zNx n e)) - (τ.1 3 e)))) * (((-16) * ((τ.1 3 (zNx n e)) - (τ.1 3 e))) + (f * ((τ.1 2 (zNx n e)) - (τ.1 2 e)))))) 10 3 (nI ((zMl f i) + 1)))) hV hIt hnt 2 ?_
      show (f = 0 → V 143 [(10, .int ((8 * (τ.1 3 e)) + ((τ.1 6 i) * ((τ.1 3 (zNx n e)) - (τ.1 3 e))))), (9, .int ((8 * (τ.1 2 e)) + ((τ.1 6 i) * ((τ.1 2 (zNx n e)) - (τ.1 2 e))))), (8, .int ((τ.1 3 (zNx n e)) - (τ.1 3 e))), (7, .int ((τ.1 2 (zNx n e)) - (τ.1 2 e))), (6, .int (τ.1 6 i)), (5, .int (τ.1 5 i)), (0, .ref 10), (1, .ref 4), (2, .ref 1), (3, .int f), (4, .int (nI i))] [] (zuI (zuI (zuI (zuI τ 11 (zMl f i) (((-16) * ((τ.1 3 (zNx n e)) - (τ.1 3 e))) + (f * ((τ.1 2 (zNx n e)) - (τ.1 2 e))))) 12 (zMl f i) ((16 * ((τ.1 2 (zNx n e)) - (τ.1 2 e))) + (f * ((τ.1 3 (zNx n e)) - (τ.1 3 e))))) 13 (zMl f i) (((8 * (τ.1 2 e)) + ((τ.1 6 i) * ((τ.1 2 (zNx n e)) - (τ.1 2 e)))) * ((16 * ((τ.1 2 (zNx n e)) - (τ.1 2 e))) + (f * ((τ.1 3 (zNx n e)) - (τ.1 3 e)))) - ((8 * (τ.1 3 e)) + ((τ.1 6 i) * ((τ.1 3 (zNx n e)) - (τ.1 3 e)))) * (((-16) * ((τ.1 3 (zNx n e)) - (τ.1 3 e))) + (f * ((τ.1 2 (zNx n e)) - (τ.1 2 e)))))) 10 3 (nI ((zMl f i) + 1)))) ∧ (¬ f = 0 → V 115 [(10, .int ((8 * (τ.1 3 e)) + ((τ.1 6 i) * ((τ.1 3 (zNx n e)) - (τ.1 3 e))))), (9, .int ((8 * (τ.1 2 e)) + ((τ.1 6 i) * ((τ.1 2 (zNx n e)) - (τ.1 2 e))))), (8, .int ((τ.1 3 (zNx n e)) - (τ.1 3 e))), (7, .int ((τ.1 2 (zNx n e)) - (τ.1 2 e))), (6, .int (τ.1 6 i)), (5, .int (τ.1 5 i)), (0, .ref 10), (1, .ref 4), (2, .ref 1), (3, .int f), (4, .int (nI i))] [] (zuI (zuI (zuI (zuI τ 11 (zMl f i) (((-16) * ((τ.1 3 (zNx n e)) - (τ.1 3 e))) + (f * ((τ.1 2 (zNx n e)) - (τ.1 2 e))))) 12 (zMl f i) ((16 * ((τ.1 2 (zNx n e)) - (τ.1 2 e))) + (f * ((τ.1 3 (zNx n e)) - (τ.1 3 e))))) 13 (zMl f i) (((8 * (τ.1 2 e)) + ((τ.1 6 i) * ((τ.1 2 (zNx n e)) - (τ.1 2 e)))) * ((16 * ((τ.1 2 (zNx n e)) - (τ.1 2 e))) + (f * ((τ.1 3 (zNx n e)) - (τ.1 3 e)))) - ((8 * (τ.1 3 e)) + ((τ.1 6 i) * ((τ.1 3 (zNx n e)) - (τ.1 3 e)))) * (((-16) * ((τ.1 3 (zNx n e)) - (τ.1 3 e))) + (f * ((τ.1 2 (zNx n e)) - (τ.1 2 e)))))) 10 3 (nI ((zMl f i) + 1))))
      refine ⟨fun h_112 => ?_, fun h_112 => ?_⟩
      · skip
        refine zq (σ := (zuI (zuI (zuI (zuI τ 11 (zMl f i) (((-16) * ((τ.1 3 (zNx n e)) - (τ.1 3 e))) + (f * ((τ.1 2 (zNx n e)) - (τ.1 2 e))))) 12 (zMl f i) ((16 * ((τ.1 2 (zNx n e)) - (τ.1 2 e))) + (f * ((τ.1 3 (zNx n e)) - (τ.1 3 e))))) 13 (zMl f i) (((8 * (τ.1 2 e)) + ((τ.1 6 i) * ((τ.1 2 (zNx n e)) - (τ.1 2 e)))) * ((16 * ((τ.1 2 (zNx n e)) - (τ.1 2 e))) + (f * ((τ.1 3 (zNx n e)) - (τ.1 3 e)))) - ((8 * (τ.1 3 e)) + ((τ.1 6 i) * ((τ.1 3 (zNx n e)) - (τ.1 3 e)))) * (((-16) * ((τ.1 3 (zNx n e)) - (τ.1 3 e))) + (f * ((τ.1 2 (zNx n e)) - (τ.1 2 e)))))) 10 3 (nI ((zMl f i) + 1)))) hV hIt hnt 2 ?_
        show V 8 [(4, .int ((nI i) + 1)), (10, .int ((8 * (τ.1 3 e)) + ((τ.1 6 i) * ((τ.1 3 (zNx n e)) - (τ.1 3 e))))), (9, .int ((8 * (τ.1 2 e)) + ((τ.1 6 i) * ((τ.1 2 (zNx n e)) - (τ.1 2 e))))), (8, .int ((τ.1 3 (zNx n e)) - (τ.1 3 e))), (7, .int ((τ.1 2 (zNx n e)) - (τ.1 2 e))), (6, .int (τ.1 6 i)), (5, .int (τ.1 5 i)), (0, .ref 10), (1, .ref 4), (2, .ref 1), (3, .int f)] [] (zuI (zuI (zuI (zuI τ 11 (zMl f i) (((-16) * ((τ.1 3 (zNx n e)) - (τ.1 3 e))) + (f * ((τ.1 2 (zNx n e)) - (τ.1 2 e))))) 12 (zMl f i) ((16 * ((τ.1 2 (zNx n e)) - (τ.1 2 e))) + (f * ((τ.1 3 (zNx n e)) - (τ.1 3 e))))) 13 (zMl f i) (((8 * (τ.1 2 e)) + ((τ.1 6 i) * ((τ.1 2 (zNx n e)) - (τ.1 2 e)))) * ((16 * ((τ.1 2 (zNx n e)) - (τ.1 2 e))) + (f * ((τ.1 3 (zNx n e)) - (τ.1 3 e)))) - ((8 * (τ.1 3 e)) + ((τ.1 6 i) * ((τ.1 3 (zNx n e)) - (τ.1 3 e)))) * (((-16) * ((τ.1 3 (zNx n e)) - (τ.1 3 e))) + (f * ((τ.1 2 (zNx n e)) - (τ.1 2 e)))))) 10 3 (nI ((zMl f i) + 1)))
        refine zwk hV [7, 8, 9, 10, 0] rfl ?_
        rw [nI_1]
        refine ih (i + 1) _ (by omega) ((((ht.uI rfl).uI rfl).uI rfl).uI rfl) ?_ (fun t q => ?_)
        · show nI (zMl f i + 1) = _
          rw [zMl_0 h_112, zMl_0 h_112]
        · rw [zMl_0 h_112] at q
          have hs3 := @zT_0 n (σ.1 2) (σ.1 3) f (σ.1 5) (σ.1 6) i e h_112 hZ
          simp only [zuI_get, zMl_0 h_112, hX, hY, hSt]
          by_cases hti : t = i
          · subst hti; simp [hs3.1, hs3.2.1, hs3.2.2]
          · have := hj t (by rw [zMl_0 h_112]; omega); simp [hti, this.1, this.2.1, this.2.2]
      · skip
        refine zq (σ := (zuI (zuI (zuI (zuI τ 11 (zMl f i) (((-16) * ((τ.1 3 (zNx n e)) - (τ.1 3 e))) + (f * ((τ.1 2 (zNx n e)) - (τ.1 2 e))))) 12 (zMl f i) ((16 * ((τ.1 2 (zNx n e)) - (τ.1 2 e))) + (f * ((τ.1 3 (zNx n e)) - (τ.1 3 e))))) 13 (zMl f i) (((8 * (τ.1 2 e)) + ((τ.1 6 i) * ((τ.1 2 (zNx n e)) - (τ.1 2 e)))) * ((16 * ((τ.1 2 (zNx n e)) - (τ.1 2 e))) + (f * ((τ.1 3 (zNx n e)) - (τ.1 3 e)))) - ((8 * (τ.1 3 e)) + ((τ.1 6 i) * ((τ.1 3 (zNx n e)) - (τ.1 3 e)))) * (((-16) * ((τ.1 3 (zNx n e)) - (τ.1 3 e))) + (f * ((τ.1 2 (zNx n e)) - (τ.1 2 e)))))) 10 3 (nI ((zMl f i) + 1)))) hV hIt hnt 18 ?_
        show zSp _ _ 47 [.ref 10, .int ((8 * (τ.1 2 e)) + ((τ.1 6 i) * ((τ.1 2 (zNx n e)) - (τ.1 2 e)))), .int ((8 * (τ.1 3 e)) + ((τ.1 6 i) * ((τ.1 3 (zNx n e)) - (τ.1 3 e)))), .int (((-16) * ((τ.1 3 (zNx n e)) - (τ.1 3 e))) - (f * ((τ.1 2 (zNx n e)) - (τ.1 2 e)))), .int ((16 * ((τ.1 2 (zNx n e)) - (τ.1 2 e))) - (f * ((τ.1 3 (zNx n e)) - (τ.1 3 e))))] (zuI (zuI (zuI (zuI τ 11 (zMl f i) (((-16) * ((τ.1 3 (zNx n e)) - (τ.1 3 e))) + (f * ((τ.1 2 (zNx n e)) - (τ.1 2 e))))) 12 (zMl f i) ((16 * ((τ.1 2 (zNx n e)) - (τ.1 2 e))) + (f * ((τ.1 3 (zNx n e)) - (τ.1 3 e))))) 13 (zMl f i) (((8 * (τ.1 2 e)) + ((τ.1 6 i) * ((τ.1 2 (zNx n e)) - (τ.1 2 e)))) * ((16 * ((τ.1 2 (zNx n e)) - (τ.1 2 e))) + (f * ((τ.1 3 (zNx n e)) - (τ.1 3 e)))) - ((8 * (τ.1 3 e)) + ((τ.1 6 i) * ((τ.1 3 (zNx n e)) - (τ.1 3 e)))) * (((-16) * ((τ.1 3 (zNx n e)) - (τ.1 3 e))) + (f * ((τ.1 2 (zNx n e)) - (τ.1 2 e)))))) 10 3 (nI ((zMl f i) + 1))) (fun r σ' => σ'.2.2.2 = (zuI (zuI (zuI (zuI τ 11 (zMl f i) (((-16) * ((τ.1 3 (zNx n e)) - (τ.1 3 e))) + (f * ((τ.1 2 (zNx n e)) - (τ.1 2 e))))) 12 (zMl f i) ((16 * ((τ.1 2 (zNx n e)) - (τ.1 2 e))) + (f * ((τ.1 3 (zNx n e)) - (τ.1 3 e))))) 13 (zMl f i) (((8 * (τ.1 2 e)) + ((τ.1 6 i) * ((τ.1 2 (zNx n e)) - (τ.1 2 e)))) * ((16 * ((τ.1 2 (zNx n e)) - (τ.1 2 e))) + (f * ((τ.1 3 (zNx n e)) - (τ.1 3 e)))) - ((8 * (τ.1 3 e)) + ((τ.1 6 i) * ((τ.1 3 (zNx n e)) - (τ.1 3 e)))) * (((-16) * ((τ.1 3 (zNx n e)) - (τ.1 3 e))) + (f * ((τ.1 2 (zNx n e)) - (τ.1 2 e)))))) 10 3 (nI ((zMl f i) + 1))).2.2.2 + zAl 47 → V 143 [(10, .int ((8 * (τ.1 3 e)) + ((τ.1 6 i) * ((τ.1 3 (zNx n e)) - (τ.1 3 e))))), (9, .int ((8 * (τ.1 2 e)) + ((τ.1 6 i) * ((τ.1 2 (zNx n e)) - (τ.1 2 e))))), (8, .int ((τ.1 3 (zNx n e)) - (τ.1 3 e))), (7, .int ((τ.1 2 (zNx n e)) - (τ.1 2 e))), (6, .int (τ.1 6 i)), (5, .int (τ.1 5 i)), (0, .ref 10), (1, .ref 4), (2, .ref 1), (3, .int f), (4, .int (nI i))] (r.toList ++ []) σ')
        refine tadd_ok (zR_of hIt rfl rfl) (m := (zMl f i + 1)) rfl (hm1.2 h_112) (fun _ => ?_)
        refine zq (σ := (zuI (zuI (zuI (zuI (zuI (zuI (zuI (zuI τ 11 (zMl f i) (((-16) * ((τ.1 3 (zNx n e)) - (τ.1 3 e))) + (f * ((τ.1 2 (zNx n e)) - (τ.1 2 e))))) 12 (zMl f i) ((16 * ((τ.1 2 (zNx n e)) - (τ.1 2 e))) + (f * ((τ.1 3 (zNx n e)) - (τ.1 3 e))))) 13 (zMl f i) (((8 * (τ.1 2 e)) + ((τ.1 6 i) * ((τ.1 2 (zNx n e)) - (τ.1 2 e)))) * ((16 * ((τ.1 2 (zNx n e)) - (τ.1 2 e))) + (f * ((τ.1 3 (zNx n e)) - (τ.1 3 e)))) - ((8 * (τ.1 3 e)) + ((τ.1 6 i) * ((τ.1 3 (zNx n e)) - (τ.1 3 e)))) * (((-16) * ((τ.1 3 (zNx n e)) - (τ.1 3 e))) + (f * ((τ.1 2 (zNx n e)) - (τ.1 2 e)))))) 10 3 (nI ((zMl f i) + 1))) 11 (zMl f i + 1) (((-16) * ((τ.1 3 (zNx n e)) - (τ.1 3 e))) - (f * ((τ.1 2 (zNx n e)) - (τ.1 2 e))))) 12 (zMl f i + 1) ((16 * ((τ.1 2 (zNx n e)) - (τ.1 2 e))) - (f * ((τ.1 3 (zNx n e)) - (τ.1 3 e))))) 13 (zMl f i + 1) (((8 * (τ.1 2 e)) + ((τ.1 6 i) * ((τ.1 2 (zNx n e)) - (τ.1 2 e)))) * ((16 * ((τ.1 2 (zNx n e)) - (τ.1 2 e))) - (f * ((τ.1 3 (zNx n e)) - (τ.1 3 e)))) - ((8 * (τ.1 3 e)) + ((τ.1 6 i) * ((τ.1 3 (zNx n e)) - (τ.1 3 e)))) * (((-16) * ((τ.1 3 (zNx n e)) - (τ.1 3 e))) - (f * ((τ.1 2 (zNx n e)) - (τ.1 2 e)))))) 10 3 (nI ((zMl f i + 1) + 1)))) hV hIt hnt 2 ?_
        show V 8 [(4, .int ((nI i) + 1)), (10, .int ((8 * (τ.1 3 e)) + ((τ.1 6 i) * ((τ.1 3 (zNx n e)) - (τ.1 3 e))))), (9, .int ((8 * (τ.1 2 e)) + ((τ.1 6 i) * ((τ.1 2 (zNx n e)) - (τ.1 2 e))))), (8, .int ((τ.1 3 (zNx n e)) - (τ.1 3 e))), (7, .int ((τ.1 2 (zNx n e)) - (τ.1 2 e))), (6, .int (τ.1 6 i)), (5, .int (τ.1 5 i)), (0, .ref 10), (1, .ref 4), (2, .ref 1), (3, .int f)] [] (zuI (zuI (zuI (zuI (zuI (zuI (zuI (zuI τ 11 (zMl f i) (((-16) * ((τ.1 3 (zNx n e)) - (τ.1 3 e))) + (f * ((τ.1 2 (zNx n e)) - (τ.1 2 e))))) 12 (zMl f i) ((16 * ((τ.1 2 (zNx n e)) - (τ.1 2 e))) + (f * ((τ.1 3 (zNx n e)) - (τ.1 3 e))))) 13 (zMl f i) (((8 * (τ.1 2 e)) + ((τ.1 6 i) * ((τ.1 2 (zNx n e)) - (τ.1 2 e)))) * ((16 * ((τ.1 2 (zNx n e)) - (τ.1 2 e))) + (f * ((τ.1 3 (zNx n e)) - (τ.1 3 e)))) - ((8 * (τ.1 3 e)) + ((τ.1 6 i) * ((τ.1 3 (zNx n e)) - (τ.1 3 e)))) * (((-16) * ((τ.1 3 (zNx n e)) - (τ.1 3 e))) + (f * ((τ.1 2 (zNx n e)) - (τ.1 2 e)))))) 10 3 (nI ((zMl f i) + 1))) 11 (zMl f i + 1) (((-16) * ((τ.1 3 (zNx n e)) - (τ.1 3 e))) - (f * ((τ.1 2 (zNx n e)) - (τ.1 2 e))))) 12 (zMl f i + 1) ((16 * ((τ.1 2 (zNx n e)) - (τ.1 2 e))) - (f * ((τ.1 3 (zNx n e)) - (τ.1 3 e))))) 13 (zMl f i + 1) (((8 * (τ.1 2 e)) + ((τ.1 6 i) * ((τ.1 2 (zNx n e)) - (τ.1 2 e)))) * ((16 * ((τ.1 2 (zNx n e)) - (τ.1 2 e))) - (f * ((τ.1 3 (zNx n e)) - (τ.1 3 e)))) - ((8 * (τ.1 3 e)) + ((τ.1 6 i) * ((τ.1 3 (zNx n e)) - (τ.1 3 e)))) * (((-16) * ((τ.1 3 (zNx n e)) - (τ.1 3 e))) - (f * ((τ.1 2 (zNx n e)) - (τ.1 2 e)))))) 10 3 (nI ((zMl f i + 1) + 1)))
        refine zwk hV [7, 8, 9, 10, 0] rfl ?_
        rw [nI_1]
        refine ih (i + 1) _ (by omega) ((((((((ht.uI rfl).uI rfl).uI rfl).uI rfl).uI rfl).uI rfl).uI rfl).uI rfl) ?_ (fun t q => ?_)
        · show nI (zMl f i + 1 + 1) = _
          rw [zMl_1 h_112, zMl_1 h_112]; rfl
        · rw [zMl_1 h_112] at q
          have hs3 := @zT_1 n (σ.1 2) (σ.1 3) f (σ.1 5) (σ.1 6) i e h_112 hZ
          simp only [zuI_get, zMl_1 h_112, hX, hY, hSt]
          by_cases hti : t = 2 * i
          · subst hti; simp [hs3.1.1, hs3.1.2.1, hs3.1.2.2]
          · by_cases hti2 : t = 2 * i + 1
            · subst hti2; simp [hs3.2.1, hs3.2.2.1, hs3.2.2.2]
            · have := hj t (by rw [zMl_1 h_112]; omega); simp [hti, hti2, this.1, this.2.1, this.2.2]
  refine H m 0 _ (by omega) (zOnly.rf.uI rfl) ?_ (fun t q => absurd q (by unfold zMl; split <;> omega))
  show nI 0 = _
  unfold zMl; split <;> rfl
set_option maxRecDepth 8000 in
set_option maxHeartbeats 4000000 in
theorem press_7 {d : Nat} {σ : zSt} {K : Option Value → zSt → Prop} {f : Int32} {n m : Nat} (hI : zQI (kR 1 14) σ.2.2) (hn : σ.1 1 2 = nI n) (hn10 : n ≤ 10) (hs : σ.1 7 2 = nI m) (hm : m ≤ 8) (hE : ∀ i, i < m → ∃ e, σ.1 8 i = nI e ∧ e < n) (hK : ∀ τ, zOnly zfT σ τ → τ.1 10 3 = nI (zMl f m) → zTok n (σ.1 2) (σ.1 3) f (σ.1 8) (σ.1 9) (zMl f m) τ → K none τ) : zSp zx (d + 3) mX7_press [.ref 10, .ref 7, .ref 1, .int f] σ K := by
  refine ⟨⟨by decide, Nat.le_of_ble_eq_true rfl⟩, fun V hV => ?_⟩
  refine zq (σ := σ) hV hI rfl 5 ?_
  show V 8 [(4, .int 0), (0, .ref 10), (1, .ref 7), (2, .ref 1), (3, .int f)] [] (zuI σ 10 3 0)
  refine zwk hV [1, 2, 3, 4, 0] rfl ?_
  have H : ∀ (r i : Nat) (τ : zSt), i + r = m → zOnly zfT σ τ → τ.1 10 3 = nI (zMl f i) → zTok n (σ.1 2) (σ.1 3) f (σ.1 8) (σ.1 9) (zMl f i) τ → V 8 [(0, .ref 10), (1, .ref 7), (2, .ref 1), (3, .int f), (4, .int (nI i))] [] τ := by
    intro r
    induction r with
    | zero =>
      intro i τ hin ht h10 hj
      have hIt := zQI_eq hI ht.2.2
      have hnt : τ.2.2.2 = σ.2.2.2 := congrArg Prod.snd ht.2.2
      have hst : τ.1 7 2 = nI m := (ht.1 7 2 rfl).trans hs
      refine zq (σ := τ) hV hIt hnt 3 ?_
      show zSp _ _ 6 [.ref 7] τ (fun r σ' => σ'.2.2.2 = τ.2.2.2 + zAl 6 → V 14 [(0, .ref 10), (1, .ref 7), (2, .ref 1), (3, .int f), (4, .int (nI i))] (r.toList ++ [.int (nI i)]) σ')
      refine hsize_7 (zR_of hIt rfl rfl) (fun _ => ?_)
      refine zq (σ := τ) hV hIt hnt 1 ?_
      show ((τ.1 7 2) ≤ (nI i) → V 149 [(0, .ref 10), (1, .ref 7), (2, .ref 1), (3, .int f), (4, .int (nI i))] [] τ) ∧ (¬ (τ.1 7 2) ≤ (nI i) → V 17 [(0, .ref 10), (1, .ref 7), (2, .ref 1), (3, .int f), (4, .int (nI i))] [] τ)
      refine ⟨fun _ => ?_, fun hc => absurd (show τ.1 7 2 ≤ nI i by rw [hst, show i = m by omega]; exact Int32.le_refl _) hc⟩
      refine zq (σ := τ) hV hIt hnt 1 ?_
      show K none τ
      obtain rfl : i = m := by omega
      exact hK τ ht h10 hj
    | succ r ih =>
      intro i τ hin ht h10 hj
      have hIt := zQI_eq hI ht.2.2
      have hnt : τ.2.2.2 = σ.2.2.2 := congrArg Prod.snd ht.2.2
      have hst : τ.1 7 2 = nI m := (ht.1 7 2 rfl).trans hs
      have hmi : i < m := by omega
      have hml := @zMl_le f (i + 1) (by omega)
      obtain ⟨e, he0, hen⟩ := hE i hmi
      have he : τ.1 8 i = nI e := (ht.1 8 i rfl).trans he0
      have hZ : zEd (σ.1 8) i = e := by unfold zEd; rw [he0]; exact nI_clamp (by omega)
      have hX : τ.1 2 = σ.1 2 := funext fun j => ht.1 2 j rfl
      have hY : τ.1 3 = σ.1 3 := funext fun j => ht.1 3 j rfl
      have hSt : τ.1 9 i = σ.1 9 i := ht.1 9 i rfl
      replace hn : τ.1 1 2 = nI n := (ht.1 1 2 rfl).trans hn
      have hze := zNx_lt hen
      have hm1 : zMl f i < 16 ∧ (¬ f = 0 → zMl f i + 1 < 16) := by unfold zMl at hml ⊢; split <;> rename_i q <;> simp only [q, if_true, if_false] at hml <;> omega
      refine zq (σ := τ) hV hIt hnt 3 ?_
      show zSp _ _ 6 [.ref 7] τ (fun r σ' => σ'.2.2.2 = τ.2.2.2 + zAl 6 → V 14 [(0, .ref 10), (1, .ref 7), (2, .ref 1), (3, .int f), (4, .int (nI i))] (r.toList ++ [.int (nI i)]) σ')
      refine hsize_7 (zR_of hIt rfl rfl) (fun _ => ?_)
      refine zq (σ := τ) hV hIt hnt 1 ?_
      show ((τ.1 7 2) ≤ (nI i) → V 149 [(0, .ref 10), (1, .ref 7), (2, .ref 1), (3, .int f), (4, .int (nI i))] [] τ) ∧ (¬ (τ.1 7 2) ≤ (nI i) → V 17 [(0, .ref 10), (1, .ref 7), (2, .ref 1), (3, .int f), (4, .int (nI i))] [] τ)
      refine ⟨fun hc => absurd hc (show ¬ τ.1 7 2 ≤ nI i by rw [hst]; exact nI_ge hmi (by omega)), fun _ => ?_⟩
      refine zq (σ := τ) hV hIt hnt 3 ?_
      show zSp _ _ 7 [.ref 7, .int (nI i)] τ (fun r σ' => σ'.2.2.2 = τ.2.2.2 + zAl 7 → V 23 [(0, .ref 10), (1, .ref 7), (2, .ref 1), (3, .int f), (4, .int (nI i))] (r.toList ++ []) σ')
      refine hedge_7 (zR_of hIt rfl rfl) rfl (by omega) (fun _ => ?_)
      refine zq (σ := τ) hV hIt hnt 4 ?_
      show zSp _ _ 8 [.ref 7, .int (nI i)] τ (fun r σ' => σ'.2.2.2 = τ.2.2.2 + zAl 8 → V 31 [(5, .int (τ.1 8 i)), (0, .ref 10), (1, .ref 7), (2, .ref 1), (3, .int f), (4, .int (nI i))] (r.toList ++ []) σ')
      refine heighth_7 (zR_of hIt rfl rfl) rfl (by omega) (fun _ => ?_)
      refine zq (σ := τ) hV hIt hnt 4 ?_
      show zSp _ _ 21 [.ref 1, .int (τ.1 8 i)] τ (fun r σ' => σ'.2.2.2 = τ.2.2.2 + zAl 21 → V 39 [(6, .int (τ.1 9 i)), (5, .int (τ.1 8 i)), (0, .ref 10), (1, .ref 7), (2, .ref 1), (3, .int f), (4, .int (nI i))] (r.toList ++ []) σ')
      refine dx_ok (zR_of hIt rfl rfl) hn (by omega) he (by omega) (fun _ => ?_)
      refine zq (σ := τ) hV hIt hnt 4 ?_
      show zSp _ _ 22 [.ref 1, .int (τ.1 8 i)] τ (fun r σ' => σ'.2.2.2 = τ.2.2.2 + zAl 22 → V 47 [(7, .int ((τ.1 2 (zNx n e)) - (τ.1 2 e))), (6, .int (τ.1 9 i)), (5, .int (τ.1 8 i)), (0, .ref 10), (1, .ref 7), (2, .ref 1), (3, .int f), (4, .int (nI i))] (r.toList ++ []) σ')
      refine dy_ok (zR_of hIt rfl rfl) hn (by omega) he (by omega) (fun _ => ?_)
      refine zq (σ := τ) hV hIt hnt 5 ?_
      show zSp _ _ 18 [.ref 1, .int (τ.1 8 i)] τ (fun r σ' => σ'.2.2.2 = τ.2.2.2 + zAl 18 → V 57 [(8, .int ((τ.1 3 (zNx n e)) - (τ.1 3 e))), (7, .int ((τ.1 2 (zNx n e)) - (τ.1 2 e))), (6, .int (τ.1 9 i)), (5, .int (τ.1 8 i)), (0, .ref 10), (1, .ref 7), (2, .ref 1), (3, .int f), (4, .int (nI i))] (r.toList ++ [.int 8]) σ')
      refine x_ok (zR_of hIt rfl rfl) he (by omega) (fun _ => ?_)
      refine zq (σ := τ) hV hIt hnt 10 ?_
      show zSp _ _ 19 [.ref 1, .int (τ.1 8 i)] τ (fun r σ' => σ'.2.2.2 = τ.2.2.2 + zAl 19 → V 74 [(9, .int ((8 * (τ.1 2 e)) + ((τ.1 9 i) * ((τ.1 2 (zNx n e)) - (τ.1 2 e))))), (8, .int ((τ.1 3 (zNx n e)) - (τ.1 3 e))), (7, .int ((τ.1 2 (zNx n e)) - (τ.1 2 e))), (6, .int (τ.1 9 i)), (5, .int (τ.1 8 i)), (0, .ref 10), (1, .ref 7), (2, .ref 1), (3, .int f), (4, .int (nI i))] (r.toList ++ [.int 8]) σ')
      refine y_ok (zR_of hIt rfl rfl) he (by omega) (fun _ => ?_)
      refine zq (σ := τ) hV hIt hnt 24 ?_
      show zSp _ _ 47 [.ref 10, .int ((8 * (τ.1 2 e)) + ((τ.1 9 i) * ((τ.1 2 (zNx n e)) - (τ.1 2 e)))), .int ((8 * (τ.1 3 e)) + ((τ.1 9 i) * ((τ.1 3 (zNx n e)) - (τ.1 3 e)))), .int (((-16) * ((τ.1 3 (zNx n e)) - (τ.1 3 e))) + (f * ((τ.1 2 (zNx n e)) - (τ.1 2 e)))), .int ((16 * ((τ.1 2 (zNx n e)) - (τ.1 2 e))) + (f * ((τ.1 3 (zNx n e)) - (τ.1 3 e))))] τ (fun r σ' => σ'.2.2.2 = τ.2.2.2 + zAl 47 → V 111 [(10, .int ((8 * (τ.1 3 e)) + ((τ.1 9 i) * ((τ.1 3 (zNx n e)) - (τ.1 3 e))))), (9, .int ((8 * (τ.1 2 e)) + ((τ.1 9 i) * ((τ.1 2 (zNx n e)) - (τ.1 2 e))))), (8, .int ((τ.1 3 (zNx n e)) - (τ.1 3 e))), (7, .int ((τ.1 2 (zNx n e)) - (τ.1 2 e))), (6, .int (τ.1 9 i)), (5, .int (τ.1 8 i)), (0, .ref 10), (1, .ref 7), (2, .ref 1), (3, .int f), (4, .int (nI i))] (r.toList ++ []) σ')
      refine tadd_ok (zR_of hIt rfl rfl) (m := (zMl f i)) h10 hm1.1 (fun _ => ?_)
      refine zq (σ := (zuI (zuI (zuI (zuI τ 11 (zMl f i) (((-16) * ((τ.1 3 (zNx n e)) - (τ.1 3 e))) + (f * ((τ.1 2 (zNx n e)) - (τ.1 2 e))))) 12 (zMl f i) ((16 * ((τ.1 2 (zNx n e)) - (τ.1 2 e))) + (f * ((τ.1 3 (zNx n e)) - (τ.1 3 e))))) 13 (zMl f i) (((8 * (τ.1 2 e)) + ((τ.1 9 i) * ((τ.1 2 (zNx n e)) - (τ.1 2 e)))) * ((16 * ((τ.1 2 (zNx n e)) - (τ.1 2 e))) + (f * ((τ.1 3 (zNx n e)) - (τ.1 3 e)))) - ((8 * (τ.1 3 e)) + ((τ.1 9 i) * ((τ.1 3 (zNx n e)) - (τ.1 3 e)))) * (((-16) * ((τ.1 3 (zNx n e)) - (τ.1 3 e))) + (f * ((τ.1 2 (zNx n e)) - (τ.1 2 e)))))) 10 3 (nI ((zMl f i) + 1)))) hV hIt hnt 2 ?_
      show (f = 0 → V 143 [(10, .int ((8 * (τ.1 3 e)) + ((τ.1 9 i) * ((τ.1 3 (zNx n e)) - (τ.1 3 e))))), (9, .int ((8 * (τ.1 2 e)) + ((τ.1 9 i) * ((τ.1 2 (zNx n e)) - (τ.1 2 e))))), (8, .int ((τ.1 3 (zNx n e)) - (τ.1 3 e))), (7, .int ((τ.1 2 (zNx n e)) - (τ.1 2 e))), (6, .int (τ.1 9 i)), (5, .int (τ.1 8 i)), (0, .ref 10), (1, .ref 7), (2, .ref 1), (3, .int f), (4, .int (nI i))] [] (zuI (zuI (zuI (zuI τ 11 (zMl f i) (((-16) * ((τ.1 3 (zNx n e)) - (τ.1 3 e))) + (f * ((τ.1 2 (zNx n e)) - (τ.1 2 e))))) 12 (zMl f i) ((16 * ((τ.1 2 (zNx n e)) - (τ.1 2 e))) + (f * ((τ.1 3 (zNx n e)) - (τ.1 3 e))))) 13 (zMl f i) (((8 * (τ.1 2 e)) + ((τ.1 9 i) * ((τ.1 2 (zNx n e)) - (τ.1 2 e)))) * ((16 * ((τ.1 2 (zNx n e)) - (τ.1 2 e))) + (f * ((τ.1 3 (zNx n e)) - (τ.1 3 e)))) - ((8 * (τ.1 3 e)) + ((τ.1 9 i) * ((τ.1 3 (zNx n e)) - (τ.1 3 e)))) * (((-16) * ((τ.1 3 (zNx n e)) - (τ.1 3 e))) + (f * ((τ.1 2 (zNx n e)) - (τ.1 2 e)))))) 10 3 (nI ((zMl f i) + 1)))) ∧ (¬ f = 0 → V 115 [(10, .int ((8 * (τ.1 3 e)) + ((τ.1 9 i) * ((τ.1 3 (zNx n e)) - (τ.1 3 e))))), (9, .int ((8 * (τ.1 2 e)) + ((τ.1 9 i) * ((τ.1 2 (zNx n e)) - (τ.1 2 e))))), (8, .int ((τ.1 3 (zNx n e)) - (τ.1 3 e))), (7, .int ((τ.1 2 (zNx n e)) - (τ.1 2 e))), (6, .int (τ.1 9 i)), (5, .int (τ.1 8 i)), (0, .ref 10), (1, .ref 7), (2, .ref 1), (3, .int f), (4, .int (nI i))] [] (zuI (zuI (zuI (zuI τ 11 (zMl f i) (((-16) * ((τ.1 3 (zNx n e)) - (τ.1 3 e))) + (f * ((τ.1 2 (zNx n e)) - (τ.1 2 e))))) 12 (zMl f i) ((16 * ((τ.1 2 (zNx n e)) - (τ.1 2 e))) + (f * ((τ.1 3 (zNx n e)) - (τ.1 3 e))))) 13 (zMl f i) (((8 * (τ.1 2 e)) + ((τ.1 9 i) * ((τ.1 2 (zNx n e)) - (τ.1 2 e)))) * ((16 * ((τ.1 2 (zNx n e)) - (τ.1 2 e))) + (f * ((τ.1 3 (zNx n e)) - (τ.1 3 e)))) - ((8 * (τ.1 3 e)) + ((τ.1 9 i) * ((τ.1 3 (zNx n e)) - (τ.1 3 e)))) * (((-16) * ((τ.1 3 (zNx n e)) - (τ.1 3 e))) + (f * ((τ.1 2 (zNx n e)) - (τ.1 2 e)))))) 10 3 (nI ((zMl f i) + 1))))
      refine ⟨fun h_112 => ?_, fun h_112 => ?_⟩
      · skip
        refine zq (σ := (zuI (zuI (zuI (zuI τ 11 (zMl f i) (((-16) * ((τ.1 3 (zNx n e)) - (τ.1 3 e))) + (f * ((τ.1 2 (zNx n e)) - (τ.1 2 e))))) 12 (zMl f i) ((16 * ((τ.1 2 (zNx n e)) - (τ.1 2 e))) + (f * ((τ.1 3 (zNx n e)) - (τ.1 3 e))))) 13 (zMl f i) (((8 * (τ.1 2 e)) + ((τ.1 9 i) * ((τ.1 2 (zNx n e)) - (τ.1 2 e)))) * ((16 * ((τ.1 2 (zNx n e)) - (τ.1 2 e))) + (f * ((τ.1 3 (zNx n e)) - (τ.1 3 e)))) - ((8 * (τ.1 3 e)) + ((τ.1 9 i) * ((τ.1 3 (zNx n e)) - (τ.1 3 e)))) * (((-16) * ((τ.1 3 (zNx n e)) - (τ.1 3 e))) + (f * ((τ.1 2 (zNx n e)) - (τ.1 2 e)))))) 10 3 (nI ((zMl f i) + 1)))) hV hIt hnt 2 ?_
        show V 8 [(4, .int ((nI i) + 1)), (10, .int ((8 * (τ.1 3 e)) + ((τ.1 9 i) * ((τ.1 3 (zNx n e)) - (τ.1 3 e))))), (9, .int ((8 * (τ.1 2 e)) + ((τ.1 9 i) * ((τ.1 2 (zNx n e)) - (τ.1 2 e))))), (8, .int ((τ.1 3 (zNx n e)) - (τ.1 3 e))), (7, .int ((τ.1 2 (zNx n e)) - (τ.1 2 e))), (6, .int (τ.1 9 i)), (5, .int (τ.1 8 i)), (0, .ref 10), (1, .ref 7), (2, .ref 1), (3, .int f)] [] (zuI (zuI (zuI (zuI τ 11 (zMl f i) (((-16) * ((τ.1 3 (zNx n e)) - (τ.1 3 e))) + (f * ((τ.1 2 (zNx n e)) - (τ.1 2 e))))) 12 (zMl f i) ((16 * ((τ.1 2 (zNx n e)) - (τ.1 2 e))) + (f * ((τ.1 3 (zNx n e)) - (τ.1 3 e))))) 13 (zMl f i) (((8 * (τ.1 2 e)) + ((τ.1 9 i) * ((τ.1 2 (zNx n e)) - (τ.1 2 e)))) * ((16 * ((τ.1 2 (zNx n e)) - (τ.1 2 e))) + (f * ((τ.1 3 (zNx n e)) - (τ.1 3 e)))) - ((8 * (τ.1 3 e)) + ((τ.1 9 i) * ((τ.1 3 (zNx n e)) - (τ.1 3 e)))) * (((-16) * ((τ.1 3 (zNx n e)) - (τ.1 3 e))) + (f * ((τ.1 2 (zNx n e)) - (τ.1 2 e)))))) 10 3 (nI ((zMl f i) + 1)))
        refine zwk hV [7, 8, 9, 10, 0] rfl ?_
        rw [nI_1]
        refine ih (i + 1) _ (by omega) ((((ht.uI rfl).uI rfl).uI rfl).uI rfl) ?_ (fun t q => ?_)
        · show nI (zMl f i + 1) = _
          rw [zMl_0 h_112, zMl_0 h_112]
        · rw [zMl_0 h_112] at q
          have hs3 := @zT_0 n (σ.1 2) (σ.1 3) f (σ.1 8) (σ.1 9) i e h_112 hZ
          simp only [zuI_get, zMl_0 h_112, hX, hY, hSt]
          by_cases hti : t = i
          · subst hti; simp [hs3.1, hs3.2.1, hs3.2.2]
          · have := hj t (by rw [zMl_0 h_112]; omega); simp [hti, this.1, this.2.1, this.2.2]
      · skip
        refine zq (σ := (zuI (zuI (zuI (zuI τ 11 (zMl f i) (((-16) * ((τ.1 3 (zNx n e)) - (τ.1 3 e))) + (f * ((τ.1 2 (zNx n e)) - (τ.1 2 e))))) 12 (zMl f i) ((16 * ((τ.1 2 (zNx n e)) - (τ.1 2 e))) + (f * ((τ.1 3 (zNx n e)) - (τ.1 3 e))))) 13 (zMl f i) (((8 * (τ.1 2 e)) + ((τ.1 9 i) * ((τ.1 2 (zNx n e)) - (τ.1 2 e)))) * ((16 * ((τ.1 2 (zNx n e)) - (τ.1 2 e))) + (f * ((τ.1 3 (zNx n e)) - (τ.1 3 e)))) - ((8 * (τ.1 3 e)) + ((τ.1 9 i) * ((τ.1 3 (zNx n e)) - (τ.1 3 e)))) * (((-16) * ((τ.1 3 (zNx n e)) - (τ.1 3 e))) + (f * ((τ.1 2 (zNx n e)) - (τ.1 2 e)))))) 10 3 (nI ((zMl f i) + 1)))) hV hIt hnt 18 ?_
        show zSp _ _ 47 [.ref 10, .int ((8 * (τ.1 2 e)) + ((τ.1 9 i) * ((τ.1 2 (zNx n e)) - (τ.1 2 e)))), .int ((8 * (τ.1 3 e)) + ((τ.1 9 i) * ((τ.1 3 (zNx n e)) - (τ.1 3 e)))), .int (((-16) * ((τ.1 3 (zNx n e)) - (τ.1 3 e))) - (f * ((τ.1 2 (zNx n e)) - (τ.1 2 e)))), .int ((16 * ((τ.1 2 (zNx n e)) - (τ.1 2 e))) - (f * ((τ.1 3 (zNx n e)) - (τ.1 3 e))))] (zuI (zuI (zuI (zuI τ 11 (zMl f i) (((-16) * ((τ.1 3 (zNx n e)) - (τ.1 3 e))) + (f * ((τ.1 2 (zNx n e)) - (τ.1 2 e))))) 12 (zMl f i) ((16 * ((τ.1 2 (zNx n e)) - (τ.1 2 e))) + (f * ((τ.1 3 (zNx n e)) - (τ.1 3 e))))) 13 (zMl f i) (((8 * (τ.1 2 e)) + ((τ.1 9 i) * ((τ.1 2 (zNx n e)) - (τ.1 2 e)))) * ((16 * ((τ.1 2 (zNx n e)) - (τ.1 2 e))) + (f * ((τ.1 3 (zNx n e)) - (τ.1 3 e)))) - ((8 * (τ.1 3 e)) + ((τ.1 9 i) * ((τ.1 3 (zNx n e)) - (τ.1 3 e)))) * (((-16) * ((τ.1 3 (zNx n e)) - (τ.1 3 e))) + (f * ((τ.1 2 (zNx n e)) - (τ.1 2 e)))))) 10 3 (nI ((zMl f i) + 1))) (fun r σ' => σ'.2.2.2 = (zuI (zuI (zuI (zuI τ 11 (zMl f i) (((-16) * ((τ.1 3 (zNx n e)) - (τ.1 3 e))) + (f * ((τ.1 2 (zNx n e)) - (τ.1 2 e))))) 12 (zMl f i) ((16 * ((τ.1 2 (zNx n e)) - (τ.1 2 e))) + (f * ((τ.1 3 (zNx n e)) - (τ.1 3 e))))) 13 (zMl f i) (((8 * (τ.1 2 e)) + ((τ.1 9 i) * ((τ.1 2 (zNx n e)) - (τ.1 2 e)))) * ((16 * ((τ.1 2 (zNx n e)) - (τ.1 2 e))) + (f * ((τ.1 3 (zNx n e)) - (τ.1 3 e)))) - ((8 * (τ.1 3 e)) + ((τ.1 9 i) * ((τ.1 3 (zNx n e)) - (τ.1 3 e)))) * (((-16) * ((τ.1 3 (zNx n e)) - (τ.1 3 e))) + (f * ((τ.1 2 (zNx n e)) - (τ.1 2 e)))))) 10 3 (nI ((zMl f i) + 1))).2.2.2 + zAl 47 → V 143 [(10, .int ((8 * (τ.1 3 e)) + ((τ.1 9 i) * ((τ.1 3 (zNx n e)) - (τ.1 3 e))))), (9, .int ((8 * (τ.1 2 e)) + ((τ.1 9 i) * ((τ.1 2 (zNx n e)) - (τ.1 2 e))))), (8, .int ((τ.1 3 (zNx n e)) - (τ.1 3 e))), (7, .int ((τ.1 2 (zNx n e)) - (τ.1 2 e))), (6, .int (τ.1 9 i)), (5, .int (τ.1 8 i)), (0, .ref 10), (1, .ref 7), (2, .ref 1), (3, .int f), (4, .int (nI i))] (r.toList ++ []) σ')
        refine tadd_ok (zR_of hIt rfl rfl) (m := (zMl f i + 1)) rfl (hm1.2 h_112) (fun _ => ?_)
        refine zq (σ := (zuI (zuI (zuI (zuI (zuI (zuI (zuI (zuI τ 11 (zMl f i) (((-16) * ((τ.1 3 (zNx n e)) - (τ.1 3 e))) + (f * ((τ.1 2 (zNx n e)) - (τ.1 2 e))))) 12 (zMl f i) ((16 * ((τ.1 2 (zNx n e)) - (τ.1 2 e))) + (f * ((τ.1 3 (zNx n e)) - (τ.1 3 e))))) 13 (zMl f i) (((8 * (τ.1 2 e)) + ((τ.1 9 i) * ((τ.1 2 (zNx n e)) - (τ.1 2 e)))) * ((16 * ((τ.1 2 (zNx n e)) - (τ.1 2 e))) + (f * ((τ.1 3 (zNx n e)) - (τ.1 3 e)))) - ((8 * (τ.1 3 e)) + ((τ.1 9 i) * ((τ.1 3 (zNx n e)) - (τ.1 3 e)))) * (((-16) * ((τ.1 3 (zNx n e)) - (τ.1 3 e))) + (f * ((τ.1 2 (zNx n e)) - (τ.1 2 e)))))) 10 3 (nI ((zMl f i) + 1))) 11 (zMl f i + 1) (((-16) * ((τ.1 3 (zNx n e)) - (τ.1 3 e))) - (f * ((τ.1 2 (zNx n e)) - (τ.1 2 e))))) 12 (zMl f i + 1) ((16 * ((τ.1 2 (zNx n e)) - (τ.1 2 e))) - (f * ((τ.1 3 (zNx n e)) - (τ.1 3 e))))) 13 (zMl f i + 1) (((8 * (τ.1 2 e)) + ((τ.1 9 i) * ((τ.1 2 (zNx n e)) - (τ.1 2 e)))) * ((16 * ((τ.1 2 (zNx n e)) - (τ.1 2 e))) - (f * ((τ.1 3 (zNx n e)) - (τ.1 3 e)))) - ((8 * (τ.1 3 e)) + ((τ.1 9 i) * ((τ.1 3 (zNx n e)) - (τ.1 3 e)))) * (((-16) * ((τ.1 3 (zNx n e)) - (τ.1 3 e))) - (f * ((τ.1 2 (zNx n e)) - (τ.1 2 e)))))) 10 3 (nI ((zMl f i + 1) + 1)))) hV hIt hnt 2 ?_
        show V 8 [(4, .int ((nI i) + 1)), (10, .int ((8 * (τ.1 3 e)) + ((τ.1 9 i) * ((τ.1 3 (zNx n e)) - (τ.1 3 e))))), (9, .int ((8 * (τ.1 2 e)) + ((τ.1 9 i) * ((τ.1 2 (zNx n e)) - (τ.1 2 e))))), (8, .int ((τ.1 3 (zNx n e)) - (τ.1 3 e))), (7, .int ((τ.1 2 (zNx n e)) - (τ.1 2 e))), (6, .int (τ.1 9 i)), (5, .int (τ.1 8 i)), (0, .ref 10), (1, .ref 7), (2, .ref 1), (3, .int f)] [] (zuI (zuI (zuI (zuI (zuI (zuI (zuI (zuI τ 11 (zMl f i) (((-16) * ((τ.1 3 (zNx n e)) - (τ.1 3 e))) + (f * ((τ.1 2 (zNx n e)) - (τ.1 2 e))))) 12 (zMl f i) ((16 * ((τ.1 2 (zNx n e)) - (τ.1 2 e))) + (f * ((τ.1 3 (zNx n e)) - (τ.1 3 e))))) 13 (zMl f i) (((8 * (τ.1 2 e)) + ((τ.1 9 i) * ((τ.1 2 (zNx n e)) - (τ.1 2 e)))) * ((16 * ((τ.1 2 (zNx n e)) - (τ.1 2 e))) + (f * ((τ.1 3 (zNx n e)) - (τ.1 3 e)))) - ((8 * (τ.1 3 e)) + ((τ.1 9 i) * ((τ.1 3 (zNx n e)) - (τ.1 3 e)))) * (((-16) * ((τ.1 3 (zNx n e)) - (τ.1 3 e))) + (f * ((τ.1 2 (zNx n e)) - (τ.1 2 e)))))) 10 3 (nI ((zMl f i) + 1))) 11 (zMl f i + 1) (((-16) * ((τ.1 3 (zNx n e)) - (τ.1 3 e))) - (f * ((τ.1 2 (zNx n e)) - (τ.1 2 e))))) 12 (zMl f i + 1) ((16 * ((τ.1 2 (zNx n e)) - (τ.1 2 e))) - (f * ((τ.1 3 (zNx n e)) - (τ.1 3 e))))) 13 (zMl f i + 1) (((8 * (τ.1 2 e)) + ((τ.1 9 i) * ((τ.1 2 (zNx n e)) - (τ.1 2 e)))) * ((16 * ((τ.1 2 (zNx n e)) - (τ.1 2 e))) - (f * ((τ.1 3 (zNx n e)) - (τ.1 3 e)))) - ((8 * (τ.1 3 e)) + ((τ.1 9 i) * ((τ.1 3 (zNx n e)) - (τ.1 3 e)))) * (((-16) * ((τ.1 3 (zNx n e)) - (τ.1 3 e))) - (f * ((τ.1 2 (zNx n e)) - (τ.1 2 e)))))) 10 3 (nI ((zMl f i + 1) + 1)))
        refine zwk hV [7, 8, 9, 10, 0] rfl ?_
        rw [nI_1]
        refine ih (i + 1) _ (by omega) ((((((((ht.uI rfl).uI rfl).uI rfl).uI rfl).uI rfl).uI rfl).uI rfl).uI rfl) ?_ (fun t q => ?_)
        · show nI (zMl f i + 1 + 1) = _
          rw [zMl_1 h_112, zMl_1 h_112]; rfl
        · rw [zMl_1 h_112] at q
          have hs3 := @zT_1 n (σ.1 2) (σ.1 3) f (σ.1 8) (σ.1 9) i e h_112 hZ
          simp only [zuI_get, zMl_1 h_112, hX, hY, hSt]
          by_cases hti : t = 2 * i
          · subst hti; simp [hs3.1.1, hs3.1.2.1, hs3.1.2.2]
          · by_cases hti2 : t = 2 * i + 1
            · subst hti2; simp [hs3.2.1, hs3.2.2.1, hs3.2.2.2]
            · have := hj t (by rw [zMl_1 h_112]; omega); simp [hti, hti2, this.1, this.2.1, this.2.2]
  refine H m 0 _ (by omega) (zOnly.rf.uI rfl) ?_ (fun t q => absurd q (by unfold zMl; split <;> omega))
  show nI 0 = _
  unfold zMl; split <;> rfl
def zPr (A B C : Nat → Int64) (c1 c2 c3 : Int64) (t : Nat) : Int64 := c1 * A t + c2 * B t + c3 * C t
def zBl (A B C : Nat → Int64) (c1 c2 c3 : Int64) : Nat → Bool
  | 0 => false
  | t + 1 => zBl A B C c1 c2 c3 t || decide (zPr A B C c1 c2 c3 t < 0)
def zAb (A B C : Nat → Int64) (c1 c2 c3 : Int64) : Nat → Bool
  | 0 => false
  | t + 1 => zAb A B C c1 c2 c3 t || decide (0 < zPr A B C c1 c2 c3 t)
theorem zBl_mono {A B C : Nat → Int64} {c1 c2 c3 : Int64} {t m : Nat} (h : zBl A B C c1 c2 c3 t = true) (hm : t ≤ m) : zBl A B C c1 c2 c3 m = true := by
  induction m with
  | zero => rw [← Nat.le_zero.mp hm]; exact h
  | succ m ih =>
    by_cases q : t = m + 1
    · rw [← q]; exact h
    · rw [zBl, ih (by omega)]; rfl
theorem zAb_mono {A B C : Nat → Int64} {c1 c2 c3 : Int64} {t m : Nat} (h : zAb A B C c1 c2 c3 t = true) (hm : t ≤ m) : zAb A B C c1 c2 c3 m = true := by
  induction m with
  | zero => rw [← Nat.le_zero.mp hm]; exact h
  | succ m ih =>
    by_cases q : t = m + 1
    · rw [← q]; exact h
    · rw [zAb, ih (by omega)]; rfl
def zsg (b a : Bool) : Int32 := match b, a with
  | false, false => 0
  | true, false => 1
  | false, true => 2
  | true, true => 3
end
section
variable {zx : Nat × (Nat → Int32)}
set_option maxRecDepth 8000 in
set_option maxHeartbeats 4000000 in
theorem signs_ok {d : Nat} {σ : zSt} {K : Option Value → zSt → Prop} {m : Nat} (hI : zQI (kR 10 14) σ.2.2) (hs : σ.1 10 3 = nI m) (hm : m ≤ 16) (hK : K (some (.int (zsg (zBl (zA11 σ) (zA12 σ) (zA13 σ) (σ.2.1 10 4) (σ.2.1 10 5) (σ.2.1 10 6) m) (zAb (zA11 σ) (zA12 σ) (zA13 σ) (σ.2.1 10 4) (σ.2.1 10 5) (σ.2.1 10 6) m)))) σ) : zSp zx (d + 2) mX7_signs [.ref 10] σ K := by
  refine ⟨⟨by decide, Nat.le_of_ble_eq_true rfl⟩, fun V hV => ?_⟩
  refine zq (σ := σ) hV hI rfl 4 ?_
  show V 4 [(2, .int 0), (1, .int 0), (0, .ref 10)] [] σ
  refine zwk hV [2, 1, 0] rfl ?_
  have H : ∀ (r t : Nat) (x : Int32), t + r = m → x = zsg (zBl (zA11 σ) (zA12 σ) (zA13 σ) (σ.2.1 10 4) (σ.2.1 10 5) (σ.2.1 10 6) t) (zAb (zA11 σ) (zA12 σ) (zA13 σ) (σ.2.1 10 4) (σ.2.1 10 5) (σ.2.1 10 6) t) → V 4 [(0, .ref 10), (1, .int x), (2, .int (nI t))] [] σ := by
    intro r
    induction r with
    | zero =>
      intro t x htm hx
      obtain rfl : t = m := by omega
      refine zq (σ := σ) hV hI rfl 4 ?_
      show ((σ.1 10 3) ≤ (nI t) → V 91 [(0, .ref 10), (1, .int x), (2, .int (nI t))] [] σ) ∧ (¬ (σ.1 10 3) ≤ (nI t) → V 12 [(0, .ref 10), (1, .int x), (2, .int (nI t))] [] σ)
      refine ⟨fun _ => ?_, fun hc => absurd (show σ.1 10 3 ≤ nI t by rw [hs]; exact Int32.le_refl _) hc⟩
      refine zq (σ := σ) hV hI rfl 2 ?_
      show K (some (.int x)) σ
      subst hx
      exact hK
    | succ r ih =>
      intro t x htm hx
      cases hb : zBl (zA11 σ) (zA12 σ) (zA13 σ) (σ.2.1 10 4) (σ.2.1 10 5) (σ.2.1 10 6) t <;> cases ha : zAb (zA11 σ) (zA12 σ) (zA13 σ) (σ.2.1 10 4) (σ.2.1 10 5) (σ.2.1 10 6) t
      · skip
        rw [hb, ha] at hx
        replace hx : x = 0 := hx
        subst hx
        refine zq (σ := σ) hV hI rfl 4 ?_
        show ((σ.1 10 3) ≤ (nI t) → V 91 [(0, .ref 10), (1, .int 0), (2, .int (nI t))] [] σ) ∧ (¬ (σ.1 10 3) ≤ (nI t) → V 12 [(0, .ref 10), (1, .int 0), (2, .int (nI t))] [] σ)
        refine ⟨fun hc => absurd hc (show ¬ σ.1 10 3 ≤ nI t by rw [hs]; exact nI_ge (by omega) (by omega)), fun _ => ?_⟩
        refine zq (σ := σ) hV hI rfl 3 ?_
        show ((0 : Int32) = 3 → V 91 [(0, .ref 10), (1, .int 0), (2, .int (nI t))] [] σ) ∧ (¬ (0 : Int32) = 3 → V 17 [(0, .ref 10), (1, .int 0), (2, .int (nI t))] [] σ)
        refine ⟨fun hc => absurd hc (by decide), fun _ => ?_⟩
        refine zq (σ := σ) hV hI rfl 6 ?_
        show zSp _ _ 79 [.ref 11, .int (nI t)] σ (fun r σ' => σ'.2.2.2 = σ.2.2.2 + zAl 79 → V 29 [(0, .ref 10), (1, .int 0), (2, .int (nI t))] (r.toList ++ [.long (σ.2.1 10 4)]) σ')
        refine item_11 (zA_of hI rfl) rfl (by omega) (fun _ => ?_)
        refine zq (σ := σ) hV hI rfl 8 ?_
        show zSp _ _ 79 [.ref 12, .int (nI t)] σ (fun r σ' => σ'.2.2.2 = σ.2.2.2 + zAl 79 → V 43 [(0, .ref 10), (1, .int 0), (2, .int (nI t))] (r.toList ++ [.long (σ.2.1 10 5), .long ((σ.2.1 10 4) * (Int32.toInt64 (σ.1 11 t)))]) σ')
        refine item_12 (zA_of hI rfl) rfl (by omega) (fun _ => ?_)
        refine zq (σ := σ) hV hI rfl 9 ?_
        show zSp _ _ 79 [.ref 13, .int (nI t)] σ (fun r σ' => σ'.2.2.2 = σ.2.2.2 + zAl 79 → V 58 [(0, .ref 10), (1, .int 0), (2, .int (nI t))] (r.toList ++ [.long (σ.2.1 10 6), .long (((σ.2.1 10 4) * (Int32.toInt64 (σ.1 11 t))) + ((σ.2.1 10 5) * (Int32.toInt64 (σ.1 12 t))))]) σ')
        refine item_13 (zA_of hI rfl) rfl (by omega) (fun _ => ?_)
        refine zq (σ := σ) hV hI rfl 8 ?_
        show (0 ≤ (lg_cmp ((((σ.2.1 10 4) * (Int32.toInt64 (σ.1 11 t))) + ((σ.2.1 10 5) * (Int32.toInt64 (σ.1 12 t)))) + ((σ.2.1 10 6) * (Int32.toInt64 (σ.1 13 t)))) 0) → V 75 [(3, .long ((((σ.2.1 10 4) * (Int32.toInt64 (σ.1 11 t))) + ((σ.2.1 10 5) * (Int32.toInt64 (σ.1 12 t)))) + ((σ.2.1 10 6) * (Int32.toInt64 (σ.1 13 t))))), (0, .ref 10), (1, .int 0), (2, .int (nI t))] [] σ) ∧ (¬ 0 ≤ (lg_cmp ((((σ.2.1 10 4) * (Int32.toInt64 (σ.1 11 t))) + ((σ.2.1 10 5) * (Int32.toInt64 (σ.1 12 t)))) + ((σ.2.1 10 6) * (Int32.toInt64 (σ.1 13 t)))) 0) → V 68 [(3, .long ((((σ.2.1 10 4) * (Int32.toInt64 (σ.1 11 t))) + ((σ.2.1 10 5) * (Int32.toInt64 (σ.1 12 t)))) + ((σ.2.1 10 6) * (Int32.toInt64 (σ.1 13 t))))), (0, .ref 10), (1, .int 0), (2, .int (nI t))] [] σ)
        refine ⟨fun h_65 => ?_, fun h_65 => ?_⟩
        · skip
          refine zq (σ := σ) hV hI rfl 4 ?_
          show ((lg_cmp ((((σ.2.1 10 4) * (Int32.toInt64 (σ.1 11 t))) + ((σ.2.1 10 5) * (Int32.toInt64 (σ.1 12 t)))) + ((σ.2.1 10 6) * (Int32.toInt64 (σ.1 13 t)))) 0) ≤ 0 → V 85 [(3, .long ((((σ.2.1 10 4) * (Int32.toInt64 (σ.1 11 t))) + ((σ.2.1 10 5) * (Int32.toInt64 (σ.1 12 t)))) + ((σ.2.1 10 6) * (Int32.toInt64 (σ.1 13 t))))), (0, .ref 10), (1, .int 0), (2, .int (nI t))] [] σ) ∧ (¬ (lg_cmp ((((σ.2.1 10 4) * (Int32.toInt64 (σ.1 11 t))) + ((σ.2.1 10 5) * (Int32.toInt64 (σ.1 12 t)))) + ((σ.2.1 10 6) * (Int32.toInt64 (σ.1 13 t)))) 0) ≤ 0 → V 81 [(3, .long ((((σ.2.1 10 4) * (Int32.toInt64 (σ.1 11 t))) + ((σ.2.1 10 5) * (Int32.toInt64 (σ.1 12 t)))) + ((σ.2.1 10 6) * (Int32.toInt64 (σ.1 13 t))))), (0, .ref 10), (1, .int 0), (2, .int (nI t))] [] σ)
          refine ⟨fun h_78 => ?_, fun h_78 => ?_⟩
          · skip
            refine zq (σ := σ) hV hI rfl 2 ?_
            show V 4 [(2, .int ((nI t) + 1)), (3, .long ((((σ.2.1 10 4) * (Int32.toInt64 (σ.1 11 t))) + ((σ.2.1 10 5) * (Int32.toInt64 (σ.1 12 t)))) + ((σ.2.1 10 6) * (Int32.toInt64 (σ.1 13 t))))), (0, .ref 10), (1, .int 0)] [] σ
            refine zwk hV [2, 3, 0] rfl ?_
            rw [nI_1]
            refine ih (t + 1) _ (by omega) ?_
            have hp : 0 ≤ zPr (zA11 σ) (zA12 σ) (zA13 σ) (σ.2.1 10 4) (σ.2.1 10 5) (σ.2.1 10 6) t ∧ zPr (zA11 σ) (zA12 σ) (zA13 σ) (σ.2.1 10 4) (σ.2.1 10 5) (σ.2.1 10 6) t ≤ 0 := ⟨zcmp_ge.mp h_65, zcmp_le.mp h_78⟩
            have d1 : decide (zPr (zA11 σ) (zA12 σ) (zA13 σ) (σ.2.1 10 4) (σ.2.1 10 5) (σ.2.1 10 6) t < 0) = false := by refine decide_eq_false ?_; simp only [zlt64, zle64] at hp ⊢; omega
            have d2 : decide (0 < zPr (zA11 σ) (zA12 σ) (zA13 σ) (σ.2.1 10 4) (σ.2.1 10 5) (σ.2.1 10 6) t) = false := by refine decide_eq_false ?_; simp only [zlt64, zle64] at hp ⊢; omega
            rw [zBl, zAb, hb, ha, d1, d2]
            decide
          · skip
            refine zq (σ := σ) hV hI rfl 6 ?_
            show V 4 [(2, .int ((nI t) + 1)), (1, .int (0 ||| 2)), (3, .long ((((σ.2.1 10 4) * (Int32.toInt64 (σ.1 11 t))) + ((σ.2.1 10 5) * (Int32.toInt64 (σ.1 12 t)))) + ((σ.2.1 10 6) * (Int32.toInt64 (σ.1 13 t))))), (0, .ref 10)] [] σ
            refine zwk hV [3, 1, 0] rfl ?_
            rw [nI_1]
            refine ih (t + 1) _ (by omega) ?_
            have hp : 0 < zPr (zA11 σ) (zA12 σ) (zA13 σ) (σ.2.1 10 4) (σ.2.1 10 5) (σ.2.1 10 6) t := Int64.not_le.mp (fun q => h_78 (zcmp_le.mpr q))
            have d1 : decide (zPr (zA11 σ) (zA12 σ) (zA13 σ) (σ.2.1 10 4) (σ.2.1 10 5) (σ.2.1 10 6) t < 0) = false := by refine decide_eq_false ?_; simp only [zlt64, zle64] at hp ⊢; omega
            have d2 : decide (0 < zPr (zA11 σ) (zA12 σ) (zA13 σ) (σ.2.1 10 4) (σ.2.1 10 5) (σ.2.1 10 6) t) = true := by refine decide_eq_true ?_; simp only [zlt64, zle64] at hp ⊢; omega
            rw [zBl, zAb, hb, ha, d1, d2]
            decide
        · skip
          refine zq (σ := σ) hV hI rfl 7 ?_
          show V 4 [(2, .int ((nI t) + 1)), (1, .int (0 ||| 1)), (3, .long ((((σ.2.1 10 4) * (Int32.toInt64 (σ.1 11 t))) + ((σ.2.1 10 5) * (Int32.toInt64 (σ.1 12 t)))) + ((σ.2.1 10 6) * (Int32.toInt64 (σ.1 13 t))))), (0, .ref 10)] [] σ
          refine zwk hV [3, 1, 0] rfl ?_
          rw [nI_1]
          refine ih (t + 1) _ (by omega) ?_
          have hp : zPr (zA11 σ) (zA12 σ) (zA13 σ) (σ.2.1 10 4) (σ.2.1 10 5) (σ.2.1 10 6) t < 0 := Int64.not_le.mp (fun q => h_65 (zcmp_ge.mpr q))
          have d1 : decide (zPr (zA11 σ) (zA12 σ) (zA13 σ) (σ.2.1 10 4) (σ.2.1 10 5) (σ.2.1 10 6) t < 0) = true := by refine decide_eq_true ?_; simp only [zlt64, zle64] at hp ⊢; omega
          have d2 : decide (0 < zPr (zA11 σ) (zA12 σ) (zA13 σ) (σ.2.1 10 4) (σ.2.1 10 5) (σ.2.1 10 6) t) = false := by refine decide_eq_false ?_; simp only [zlt64, zle64] at hp ⊢; omega
          rw [zBl, zAb, hb, ha, d1, d2]
          decide
      · skip
        rw [hb, ha] at hx
        replace hx : x = 2 := hx
        subst hx
        refine zq (σ := σ) hV hI rfl 4 ?_
        show ((σ.1 10 3) ≤ (nI t) → V 91 [(0, .ref 10), (1, .int 2), (2, .int (nI t))] [] σ) ∧ (¬ (σ.1 10 3) ≤ (nI t) → V 12 [(0, .ref 10), (1, .int 2), (2, .int (nI t))] [] σ)
        refine ⟨fun hc => absurd hc (show ¬ σ.1 10 3 ≤ nI t by rw [hs]; exact nI_ge (by omega) (by omega)), fun _ => ?_⟩
        refine zq (σ := σ) hV hI rfl 3 ?_
        show ((2 : Int32) = 3 → V 91 [(0, .ref 10), (1, .int 2), (2, .int (nI t))] [] σ) ∧ (¬ (2 : Int32) = 3 → V 17 [(0, .ref 10), (1, .int 2), (2, .int (nI t))] [] σ)
        refine ⟨fun hc => absurd hc (by decide), fun _ => ?_⟩
        refine zq (σ := σ) hV hI rfl 6 ?_
        show zSp _ _ 79 [.ref 11, .int (nI t)] σ (fun r σ' => σ'.2.2.2 = σ.2.2.2 + zAl 79 → V 29 [(0, .ref 10), (1, .int 2), (2, .int (nI t))] (r.toList ++ [.long (σ.2.1 10 4)]) σ')
        refine item_11 (zA_of hI rfl) rfl (by omega) (fun _ => ?_)
        refine zq (σ := σ) hV hI rfl 8 ?_
        show zSp _ _ 79 [.ref 12, .int (nI t)] σ (fun r σ' => σ'.2.2.2 = σ.2.2.2 + zAl 79 → V 43 [(0, .ref 10), (1, .int 2), (2, .int (nI t))] (r.toList ++ [.long (σ.2.1 10 5), .long ((σ.2.1 10 4) * (Int32.toInt64 (σ.1 11 t)))]) σ')
        refine item_12 (zA_of hI rfl) rfl (by omega) (fun _ => ?_)
        refine zq (σ := σ) hV hI rfl 9 ?_
        show zSp _ _ 79 [.ref 13, .int (nI t)] σ (fun r σ' => σ'.2.2.2 = σ.2.2.2 + zAl 79 → V 58 [(0, .ref 10), (1, .int 2), (2, .int (nI t))] (r.toList ++ [.long (σ.2.1 10 6), .long (((σ.2.1 10 4) * (Int32.toInt64 (σ.1 11 t))) + ((σ.2.1 10 5) * (Int32.toInt64 (σ.1 12 t))))]) σ')
        refine item_13 (zA_of hI rfl) rfl (by omega) (fun _ => ?_)
        refine zq (σ := σ) hV hI rfl 8 ?_
        show (0 ≤ (lg_cmp ((((σ.2.1 10 4) * (Int32.toInt64 (σ.1 11 t))) + ((σ.2.1 10 5) * (Int32.toInt64 (σ.1 12 t)))) + ((σ.2.1 10 6) * (Int32.toInt64 (σ.1 13 t)))) 0) → V 75 [(3, .long ((((σ.2.1 10 4) * (Int32.toInt64 (σ.1 11 t))) + ((σ.2.1 10 5) * (Int32.toInt64 (σ.1 12 t)))) + ((σ.2.1 10 6) * (Int32.toInt64 (σ.1 13 t))))), (0, .ref 10), (1, .int 2), (2, .int (nI t))] [] σ) ∧ (¬ 0 ≤ (lg_cmp ((((σ.2.1 10 4) * (Int32.toInt64 (σ.1 11 t))) + ((σ.2.1 10 5) * (Int32.toInt64 (σ.1 12 t)))) + ((σ.2.1 10 6) * (Int32.toInt64 (σ.1 13 t)))) 0) → V 68 [(3, .long ((((σ.2.1 10 4) * (Int32.toInt64 (σ.1 11 t))) + ((σ.2.1 10 5) * (Int32.toInt64 (σ.1 12 t)))) + ((σ.2.1 10 6) * (Int32.toInt64 (σ.1 13 t))))), (0, .ref 10), (1, .int 2), (2, .int (nI t))] [] σ)
        refine ⟨fun h_65 => ?_, fun h_65 => ?_⟩
        · skip
          refine zq (σ := σ) hV hI rfl 4 ?_
          show ((lg_cmp ((((σ.2.1 10 4) * (Int32.toInt64 (σ.1 11 t))) + ((σ.2.1 10 5) * (Int32.toInt64 (σ.1 12 t)))) + ((σ.2.1 10 6) * (Int32.toInt64 (σ.1 13 t)))) 0) ≤ 0 → V 85 [(3, .long ((((σ.2.1 10 4) * (Int32.toInt64 (σ.1 11 t))) + ((σ.2.1 10 5) * (Int32.toInt64 (σ.1 12 t)))) + ((σ.2.1 10 6) * (Int32.toInt64 (σ.1 13 t))))), (0, .ref 10), (1, .int 2), (2, .int (nI t))] [] σ) ∧ (¬ (lg_cmp ((((σ.2.1 10 4) * (Int32.toInt64 (σ.1 11 t))) + ((σ.2.1 10 5) * (Int32.toInt64 (σ.1 12 t)))) + ((σ.2.1 10 6) * (Int32.toInt64 (σ.1 13 t)))) 0) ≤ 0 → V 81 [(3, .long ((((σ.2.1 10 4) * (Int32.toInt64 (σ.1 11 t))) + ((σ.2.1 10 5) * (Int32.toInt64 (σ.1 12 t)))) + ((σ.2.1 10 6) * (Int32.toInt64 (σ.1 13 t))))), (0, .ref 10), (1, .int 2), (2, .int (nI t))] [] σ)
          refine ⟨fun h_78 => ?_, fun h_78 => ?_⟩
          · skip
            refine zq (σ := σ) hV hI rfl 2 ?_
            show V 4 [(2, .int ((nI t) + 1)), (3, .long ((((σ.2.1 10 4) * (Int32.toInt64 (σ.1 11 t))) + ((σ.2.1 10 5) * (Int32.toInt64 (σ.1 12 t)))) + ((σ.2.1 10 6) * (Int32.toInt64 (σ.1 13 t))))), (0, .ref 10), (1, .int 2)] [] σ
            refine zwk hV [2, 3, 0] rfl ?_
            rw [nI_1]
            refine ih (t + 1) _ (by omega) ?_
            have hp : 0 ≤ zPr (zA11 σ) (zA12 σ) (zA13 σ) (σ.2.1 10 4) (σ.2.1 10 5) (σ.2.1 10 6) t ∧ zPr (zA11 σ) (zA12 σ) (zA13 σ) (σ.2.1 10 4) (σ.2.1 10 5) (σ.2.1 10 6) t ≤ 0 := ⟨zcmp_ge.mp h_65, zcmp_le.mp h_78⟩
            have d1 : decide (zPr (zA11 σ) (zA12 σ) (zA13 σ) (σ.2.1 10 4) (σ.2.1 10 5) (σ.2.1 10 6) t < 0) = false := by refine decide_eq_false ?_; simp only [zlt64, zle64] at hp ⊢; omega
            have d2 : decide (0 < zPr (zA11 σ) (zA12 σ) (zA13 σ) (σ.2.1 10 4) (σ.2.1 10 5) (σ.2.1 10 6) t) = false := by refine decide_eq_false ?_; simp only [zlt64, zle64] at hp ⊢; omega
            rw [zBl, zAb, hb, ha, d1, d2]
            decide
          · skip
            refine zq (σ := σ) hV hI rfl 6 ?_
            show V 4 [(2, .int ((nI t) + 1)), (1, .int (2 ||| 2)), (3, .long ((((σ.2.1 10 4) * (Int32.toInt64 (σ.1 11 t))) + ((σ.2.1 10 5) * (Int32.toInt64 (σ.1 12 t)))) + ((σ.2.1 10 6) * (Int32.toInt64 (σ.1 13 t))))), (0, .ref 10)] [] σ
            refine zwk hV [3, 1, 0] rfl ?_
            rw [nI_1]
            refine ih (t + 1) _ (by omega) ?_
            have hp : 0 < zPr (zA11 σ) (zA12 σ) (zA13 σ) (σ.2.1 10 4) (σ.2.1 10 5) (σ.2.1 10 6) t := Int64.not_le.mp (fun q => h_78 (zcmp_le.mpr q))
            have d1 : decide (zPr (zA11 σ) (zA12 σ) (zA13 σ) (σ.2.1 10 4) (σ.2.1 10 5) (σ.2.1 10 6) t < 0) = false := by refine decide_eq_false ?_; simp only [zlt64, zle64] at hp ⊢; omega
            have d2 : decide (0 < zPr (zA11 σ) (zA12 σ) (zA13 σ) (σ.2.1 10 4) (σ.2.1 10 5) (σ.2.1 10 6) t) = true := by refine decide_eq_true ?_; simp only [zlt64, zle64] at hp ⊢; omega
            rw [zBl, zAb, hb, ha, d1, d2]
            decide
        · skip
          refine zq (σ := σ) hV hI rfl 7 ?_
          show V 4 [(2, .int ((nI t) + 1)), (1, .int (2 ||| 1)), (3, .long ((((σ.2.1 10 4) * (Int32.toInt64 (σ.1 11 t))) + ((σ.2.1 10 5) * (Int32.toInt64 (σ.1 12 t)))) + ((σ.2.1 10 6) * (Int32.toInt64 (σ.1 13 t))))), (0, .ref 10)] [] σ
          refine zwk hV [3, 1, 0] rfl ?_
          rw [nI_1]
          refine ih (t + 1) _ (by omega) ?_
          have hp : zPr (zA11 σ) (zA12 σ) (zA13 σ) (σ.2.1 10 4) (σ.2.1 10 5) (σ.2.1 10 6) t < 0 := Int64.not_le.mp (fun q => h_65 (zcmp_ge.mpr q))
          have d1 : decide (zPr (zA11 σ) (zA12 σ) (zA13 σ) (σ.2.1 10 4) (σ.2.1 10 5) (σ.2.1 10 6) t < 0) = true := by refine decide_eq_true ?_; simp only [zlt64, zle64] at hp ⊢; omega
          have d2 : decide (0 < zPr (zA11 σ) (zA12 σ) (zA13 σ) (σ.2.1 10 4) (σ.2.1 10 5) (σ.2.1 10 6) t) = false := by refine decide_eq_false ?_; simp only [zlt64, zle64] at hp ⊢; omega
          rw [zBl, zAb, hb, ha, d1, d2]
          decide
      · skip
        rw [hb, ha] at hx
        replace hx : x = 1 := hx
        subst hx
        refine zq (σ := σ) hV hI rfl 4 ?_
        show ((σ.1 10 3) ≤ (nI t) → V 91 [(0, .ref 10), (1, .int 1), (2, .int (nI t))] [] σ) ∧ (¬ (σ.1 10 3) ≤ (nI t) → V 12 [(0, .ref 10), (1, .int 1), (2, .int (nI t))] [] σ)
        refine ⟨fun hc => absurd hc (show ¬ σ.1 10 3 ≤ nI t by rw [hs]; exact nI_ge (by omega) (by omega)), fun _ => ?_⟩
        refine zq (σ := σ) hV hI rfl 3 ?_
        show ((1 : Int32) = 3 → V 91 [(0, .ref 10), (1, .int 1), (2, .int (nI t))] [] σ) ∧ (¬ (1 : Int32) = 3 → V 17 [(0, .ref 10), (1, .int 1), (2, .int (nI t))] [] σ)
        refine ⟨fun hc => absurd hc (by decide), fun _ => ?_⟩
        refine zq (σ := σ) hV hI rfl 6 ?_
        show zSp _ _ 79 [.ref 11, .int (nI t)] σ (fun r σ' => σ'.2.2.2 = σ.2.2.2 + zAl 79 → V 29 [(0, .ref 10), (1, .int 1), (2, .int (nI t))] (r.toList ++ [.long (σ.2.1 10 4)]) σ')
        refine item_11 (zA_of hI rfl) rfl (by omega) (fun _ => ?_)
        refine zq (σ := σ) hV hI rfl 8 ?_
        show zSp _ _ 79 [.ref 12, .int (nI t)] σ (fun r σ' => σ'.2.2.2 = σ.2.2.2 + zAl 79 → V 43 [(0, .ref 10), (1, .int 1), (2, .int (nI t))] (r.toList ++ [.long (σ.2.1 10 5), .long ((σ.2.1 10 4) * (Int32.toInt64 (σ.1 11 t)))]) σ')
        refine item_12 (zA_of hI rfl) rfl (by omega) (fun _ => ?_)
        refine zq (σ := σ) hV hI rfl 9 ?_
        show zSp _ _ 79 [.ref 13, .int (nI t)] σ (fun r σ' => σ'.2.2.2 = σ.2.2.2 + zAl 79 → V 58 [(0, .ref 10), (1, .int 1), (2, .int (nI t))] (r.toList ++ [.long (σ.2.1 10 6), .long (((σ.2.1 10 4) * (Int32.toInt64 (σ.1 11 t))) + ((σ.2.1 10 5) * (Int32.toInt64 (σ.1 12 t))))]) σ')
        refine item_13 (zA_of hI rfl) rfl (by omega) (fun _ => ?_)
        refine zq (σ := σ) hV hI rfl 8 ?_
        show (0 ≤ (lg_cmp ((((σ.2.1 10 4) * (Int32.toInt64 (σ.1 11 t))) + ((σ.2.1 10 5) * (Int32.toInt64 (σ.1 12 t)))) + ((σ.2.1 10 6) * (Int32.toInt64 (σ.1 13 t)))) 0) → V 75 [(3, .long ((((σ.2.1 10 4) * (Int32.toInt64 (σ.1 11 t))) + ((σ.2.1 10 5) * (Int32.toInt64 (σ.1 12 t)))) + ((σ.2.1 10 6) * (Int32.toInt64 (σ.1 13 t))))), (0, .ref 10), (1, .int 1), (2, .int (nI t))] [] σ) ∧ (¬ 0 ≤ (lg_cmp ((((σ.2.1 10 4) * (Int32.toInt64 (σ.1 11 t))) + ((σ.2.1 10 5) * (Int32.toInt64 (σ.1 12 t)))) + ((σ.2.1 10 6) * (Int32.toInt64 (σ.1 13 t)))) 0) → V 68 [(3, .long ((((σ.2.1 10 4) * (Int32.toInt64 (σ.1 11 t))) + ((σ.2.1 10 5) * (Int32.toInt64 (σ.1 12 t)))) + ((σ.2.1 10 6) * (Int32.toInt64 (σ.1 13 t))))), (0, .ref 10), (1, .int 1), (2, .int (nI t))] [] σ)
        refine ⟨fun h_65 => ?_, fun h_65 => ?_⟩
        · skip
          refine zq (σ := σ) hV hI rfl 4 ?_
          show ((lg_cmp ((((σ.2.1 10 4) * (Int32.toInt64 (σ.1 11 t))) + ((σ.2.1 10 5) * (Int32.toInt64 (σ.1 12 t)))) + ((σ.2.1 10 6) * (Int32.toInt64 (σ.1 13 t)))) 0) ≤ 0 → V 85 [(3, .long ((((σ.2.1 10 4) * (Int32.toInt64 (σ.1 11 t))) + ((σ.2.1 10 5) * (Int32.toInt64 (σ.1 12 t)))) + ((σ.2.1 10 6) * (Int32.toInt64 (σ.1 13 t))))), (0, .ref 10), (1, .int 1), (2, .int (nI t))] [] σ) ∧ (¬ (lg_cmp ((((σ.2.1 10 4) * (Int32.toInt64 (σ.1 11 t))) + ((σ.2.1 10 5) * (Int32.toInt64 (σ.1 12 t)))) + ((σ.2.1 10 6) * (Int32.toInt64 (σ.1 13 t)))) 0) ≤ 0 → V 81 [(3, .long ((((σ.2.1 10 4) * (Int32.toInt64 (σ.1 11 t))) + ((σ.2.1 10 5) * (Int32.toInt64 (σ.1 12 t)))) + ((σ.2.1 10 6) * (Int32.toInt64 (σ.1 13 t))))), (0, .ref 10), (1, .int 1), (2, .int (nI t))] [] σ)
          refine ⟨fun h_78 => ?_, fun h_78 => ?_⟩
          · skip
            refine zq (σ := σ) hV hI rfl 2 ?_
            show V 4 [(2, .int ((nI t) + 1)), (3, .long ((((σ.2.1 10 4) * (Int32.toInt64 (σ.1 11 t))) + ((σ.2.1 10 5) * (Int32.toInt64 (σ.1 12 t)))) + ((σ.2.1 10 6) * (Int32.toInt64 (σ.1 13 t))))), (0, .ref 10), (1, .int 1)] [] σ
            refine zwk hV [2, 3, 0] rfl ?_
            rw [nI_1]
            refine ih (t + 1) _ (by omega) ?_
            have hp : 0 ≤ zPr (zA11 σ) (zA12 σ) (zA13 σ) (σ.2.1 10 4) (σ.2.1 10 5) (σ.2.1 10 6) t ∧ zPr (zA11 σ) (zA12 σ) (zA13 σ) (σ.2.1 10 4) (σ.2.1 10 5) (σ.2.1 10 6) t ≤ 0 := ⟨zcmp_ge.mp h_65, zcmp_le.mp h_78⟩
            have d1 : decide (zPr (zA11 σ) (zA12 σ) (zA13 σ) (σ.2.1 10 4) (σ.2.1 10 5) (σ.2.1 10 6) t < 0) = false := by refine decide_eq_false ?_; simp only [zlt64, zle64] at hp ⊢; omega
            have d2 : decide (0 < zPr (zA11 σ) (zA12 σ) (zA13 σ) (σ.2.1 10 4) (σ.2.1 10 5) (σ.2.1 10 6) t) = false := by refine decide_eq_false ?_; simp only [zlt64, zle64] at hp ⊢; omega
            rw [zBl, zAb, hb, ha, d1, d2]
            decide
          · skip
            refine zq (σ := σ) hV hI rfl 6 ?_
            show V 4 [(2, .int ((nI t) + 1)), (1, .int (1 ||| 2)), (3, .long ((((σ.2.1 10 4) * (Int32.toInt64 (σ.1 11 t))) + ((σ.2.1 10 5) * (Int32.toInt64 (σ.1 12 t)))) + ((σ.2.1 10 6) * (Int32.toInt64 (σ.1 13 t))))), (0, .ref 10)] [] σ
            refine zwk hV [3, 1, 0] rfl ?_
            rw [nI_1]
            refine ih (t + 1) _ (by omega) ?_
            have hp : 0 < zPr (zA11 σ) (zA12 σ) (zA13 σ) (σ.2.1 10 4) (σ.2.1 10 5) (σ.2.1 10 6) t := Int64.not_le.mp (fun q => h_78 (zcmp_le.mpr q))
            have d1 : decide (zPr (zA11 σ) (zA12 σ) (zA13 σ) (σ.2.1 10 4) (σ.2.1 10 5) (σ.2.1 10 6) t < 0) = false := by refine decide_eq_false ?_; simp only [zlt64, zle64] at hp ⊢; omega
            have d2 : decide (0 < zPr (zA11 σ) (zA12 σ) (zA13 σ) (σ.2.1 10 4) (σ.2.1 10 5) (σ.2.1 10 6) t) = true := by refine decide_eq_true ?_; simp only [zlt64, zle64] at hp ⊢; omega
            rw [zBl, zAb, hb, ha, d1, d2]
            decide
        · skip
          refine zq (σ := σ) hV hI rfl 7 ?_
          show V 4 [(2, .int ((nI t) + 1)), (1, .int (1 ||| 1)), (3, .long ((((σ.2.1 10 4) * (Int32.toInt64 (σ.1 11 t))) + ((σ.2.1 10 5) * (Int32.toInt64 (σ.1 12 t)))) + ((σ.2.1 10 6) * (Int32.toInt64 (σ.1 13 t))))), (0, .ref 10)] [] σ
          refine zwk hV [3, 1, 0] rfl ?_
          rw [nI_1]
          refine ih (t + 1) _ (by omega) ?_
          have hp : zPr (zA11 σ) (zA12 σ) (zA13 σ) (σ.2.1 10 4) (σ.2.1 10 5) (σ.2.1 10 6) t < 0 := Int64.not_le.mp (fun q => h_65 (zcmp_ge.mpr q))
          have d1 : decide (zPr (zA11 σ) (zA12 σ) (zA13 σ) (σ.2.1 10 4) (σ.2.1 10 5) (σ.2.1 10 6) t < 0) = true := by refine decide_eq_true ?_; simp only [zlt64, zle64] at hp ⊢; omega
          have d2 : decide (0 < zPr (zA11 σ) (zA12 σ) (zA13 σ) (σ.2.1 10 4) (σ.2.1 10 5) (σ.2.1 10 6) t) = false := by refine decide_eq_false ?_; simp only [zlt64, zle64] at hp ⊢; omega
          rw [zBl, zAb, hb, ha, d1, d2]
          decide
      · skip
        rw [hb, ha] at hx
        replace hx : x = 3 := hx
        subst hx
        refine zq (σ := σ) hV hI rfl 4 ?_
        show ((σ.1 10 3) ≤ (nI t) → V 91 [(0, .ref 10), (1, .int 3), (2, .int (nI t))] [] σ) ∧ (¬ (σ.1 10 3) ≤ (nI t) → V 12 [(0, .ref 10), (1, .int 3), (2, .int (nI t))] [] σ)
        refine ⟨fun hc => absurd hc (show ¬ σ.1 10 3 ≤ nI t by rw [hs]; exact nI_ge (by omega) (by omega)), fun _ => ?_⟩
        refine zq (σ := σ) hV hI rfl 3 ?_
        show ((3 : Int32) = 3 → V 91 [(0, .ref 10), (1, .int 3), (2, .int (nI t))] [] σ) ∧ (¬ (3 : Int32) = 3 → V 17 [(0, .ref 10), (1, .int 3), (2, .int (nI t))] [] σ)
        refine ⟨fun _ => ?_, fun hc => absurd (by decide) hc⟩
        refine zq (σ := σ) hV hI rfl 2 ?_
        show K (some (.int 3)) σ
        rw [zBl_mono hb (m := m) (by omega), zAb_mono ha (m := m) (by omega)] at hK
        exact hK
  exact H m 0 0 (by omega) rfl
def zBe (A B C : Nat → Int64) (m u v : Nat) : Bool := zBl A B C (zX1 A B C u v) (zX2 A B C u v) (zX3 A B C u v) m
def zAe (A B C : Nat → Int64) (m u v : Nat) : Bool := zAb A B C (zX1 A B C u v) (zX2 A B C u v) (zX3 A B C u v) m
/-- a pair that has a cross product has triples on both its sides -/
def zGd (A B C : Nat → Int64) (m u v : Nat) : Prop := zNz A B C u v → zBe A B C m u v = true ∧ zAe A B C m u v = true
def zBf (u' v' u v : Nat) : Prop := u' < u ∨ (u' = u ∧ v' < v)
def zHold (A B C : Nat → Int64) (m : Nat) : Prop := (∃ u v, u < v ∧ v < m ∧ zNz A B C u v) ∧ ∀ u v, u < v → v < m → zGd A B C m u v
/-- the first pair whose cross product has not both sides -/
def zFst (A B C : Nat → Int64) (m u v : Nat) : Prop := (u < v ∧ v < m ∧ zNz A B C u v ∧ ¬ (zBe A B C m u v = true ∧ zAe A B C m u v = true)) ∧ ∀ u' v', u' < v' → v' < m → zBf u' v' u v → zGd A B C m u' v'
def zfJ (a j : Nat) : Bool := Nat.beq a 10 && Nat.ble 4 j
def zIv (A B C : Nat → Int64) (m u v : Nat) (x : Int32) : Prop := (∀ u' v', u' < v' → v' < m → zBf u' v' u v → zGd A B C m u' v') ∧
  ((x = 2 ∧ ∃ u' v', u' < v' ∧ v' < m ∧ zNz A B C u' v') ∨ (x = 0 ∧ ∀ u' v', u' < v' → v' < m → zBf u' v' u v → ¬ zNz A B C u' v'))
theorem zIv_next {A B C : Nat → Int64} {m u v : Nat} {x : Int32} (h : zIv A B C m u v x) (hn : ¬ zNz A B C u v) : zIv A B C m u (v + 1) x := by
  refine ⟨fun u' v' h1 h2 h3 => ?_, h.2.imp id (fun q => ⟨q.1, fun u' v' h1 h2 h3 => ?_⟩)⟩
  · by_cases e : u' = u ∧ v' = v
    · rw [e.1, e.2]; exact fun q => absurd q hn
    · exact h.1 u' v' h1 h2 (by unfold zBf at h3 ⊢; omega)
  · by_cases e : u' = u ∧ v' = v
    · rw [e.1, e.2]; exact hn
    · exact q.2 u' v' h1 h2 (by unfold zBf at h3 ⊢; omega)
theorem zIv_both {A B C : Nat → Int64} {m u v : Nat} {x : Int32} (h : zIv A B C m u v x) (hu : u < v) (hv : v < m) (hn : zNz A B C u v) (hb : zBe A B C m u v = true) (ha : zAe A B C m u v = true) : zIv A B C m u (v + 1) 2 := by
  refine ⟨fun u' v' h1 h2 h3 => ?_, Or.inl ⟨rfl, u, v, hu, hv, hn⟩⟩
  by_cases e : u' = u ∧ v' = v
  · rw [e.1, e.2]; exact fun _ => ⟨hb, ha⟩
  · exact h.1 u' v' h1 h2 (by unfold zBf at h3 ⊢; omega)
theorem zIv_row {A B C : Nat → Int64} {m u v : Nat} {x : Int32} (h : zIv A B C m u v x) (hv : m ≤ v) : zIv A B C m (u + 1) (u + 1 + 1) x := by
  refine ⟨fun u' v' h1 h2 h3 => h.1 u' v' h1 h2 (by unfold zBf at h3 ⊢; omega), h.2.imp id (fun q => ⟨q.1, fun u' v' h1 h2 h3 => q.2 u' v' h1 h2 (by unfold zBf at h3 ⊢; omega)⟩)⟩
theorem zIv_end {A B C : Nat → Int64} {m u v : Nat} {x : Int32} (h : zIv A B C m u v x) (hu : m ≤ u) : (x = 2 ∧ zHold A B C m) ∨ (x = 0 ∧ ∀ u' v', u' < v' → v' < m → ¬ zNz A B C u' v') := by
  have h1 : ∀ u' v', u' < v' → v' < m → zGd A B C m u' v' := fun u' v' q1 q2 => h.1 u' v' q1 q2 (Or.inl (by omega))
  rcases h.2 with ⟨q, q2⟩ | ⟨q, q2⟩
  · exact Or.inl ⟨q, q2, h1⟩
  · exact Or.inr ⟨q, fun u' v' q3 q4 => q2 u' v' q3 q4 (Or.inl (by omega))⟩
theorem zBf_0 (A B C : Nat → Int64) (m : Nat) : zIv A B C m 0 (0 + 1) 0 := ⟨fun u' v' h1 _ h3 => by unfold zBf at h3; omega, Or.inr ⟨rfl, fun u' v' h1 _ h3 => by unfold zBf at h3; omega⟩⟩
def zsn (b : Bool) (x : Int64) : Int64 := match b with
  | true => -x
  | false => x
set_option maxRecDepth 8000 in
set_option maxHeartbeats 4000000 in
theorem spread_ok {d : Nat} {σ : zSt} {K : Option Value → zSt → Prop} {m : Nat} (hI : zQI (kR 10 14) σ.2.2) (hs : σ.1 10 3 = nI m) (hm : m ≤ 16) (hW : ∀ τ, zOnly zfJ σ τ → zHold (zA11 σ) (zA12 σ) (zA13 σ) m → K (some (.int 2)) τ) (hF : ∀ τ, zOnly zfJ σ τ → (∀ u v, u < v → v < m → ¬ zNz (zA11 σ) (zA12 σ) (zA13 σ) u v) → K (some (.int 0)) τ)
    (hH : ∀ τ u v, zOnly zfJ σ τ → zFst (zA11 σ) (zA12 σ) (zA13 σ) m u v → τ.2.1 10 4 = zsn (zBe (zA11 σ) (zA12 σ) (zA13 σ) m u v) (zX1 (zA11 σ) (zA12 σ) (zA13 σ) u v) → τ.2.1 10 5 = zsn (zBe (zA11 σ) (zA12 σ) (zA13 σ) m u v) (zX2 (zA11 σ) (zA12 σ) (zA13 σ) u v) → τ.2.1 10 6 = zsn (zBe (zA11 σ) (zA12 σ) (zA13 σ) m u v) (zX3 (zA11 σ) (zA12 σ) (zA13 σ) u v) → K (some (.int (zb (zBe (zA11 σ) (zA12 σ) (zA13 σ) m u v || zAe (zA11 σ) (zA12 σ) (zA13 σ) m u v)))) τ) : zSp zx (d + 3) mX7_spread [.ref 10] σ K := by
  refine ⟨⟨by decide, Nat.le_of_ble_eq_true rfl⟩, fun V hV => ?_⟩
  refine zq (σ := σ) hV hI rfl 4 ?_
  show V 4 [(2, .int 0), (1, .int 0), (0, .ref 10)] [] σ
  refine zwk hV [2, 1, 0] rfl ?_
  have H : ∀ (r u : Nat) (x : Int32) (τ : zSt), u + r = m → zOnly zfJ σ τ → zIv (zA11 σ) (zA12 σ) (zA13 σ) m u (u + 1) x → V 4 [(0, .ref 10), (1, .int x), (2, .int (nI u))] [] τ := by
    intro r
    induction r with
    | zero =>
      intro u x τ hum ht hx
      have hIt := zQI_eq hI ht.2.2
      have hnt : τ.2.2.2 = σ.2.2.2 := congrArg Prod.snd ht.2.2
      have hst : τ.1 10 3 = nI m := (ht.1 10 3 rfl).trans hs
      have e1 : zA11 τ = zA11 σ := funext fun j => congrArg Int32.toInt64 (ht.1 11 j rfl)
      have e2 : zA12 τ = zA12 σ := funext fun j => congrArg Int32.toInt64 (ht.1 12 j rfl)
      have e3 : zA13 τ = zA13 σ := funext fun j => congrArg Int32.toInt64 (ht.1 13 j rfl)
      refine zq (σ := τ) hV hIt hnt 4 ?_
      show ((τ.1 10 3) ≤ (nI u) → V 76 [(0, .ref 10), (1, .int x), (2, .int (nI u))] [] τ) ∧ (¬ (τ.1 10 3) ≤ (nI u) → V 12 [(0, .ref 10), (1, .int x), (2, .int (nI u))] [] τ)
      refine ⟨fun _ => ?_, fun hc => absurd (show τ.1 10 3 ≤ nI u by rw [hst, show u = m by omega]; exact Int32.le_refl _) hc⟩
      refine zq (σ := τ) hV hIt hnt 2 ?_
      show K (some (.int x)) τ
      rcases zIv_end hx (by omega) with ⟨rfl, q⟩ | ⟨rfl, q⟩
      · exact hW τ ht q
      · exact hF τ ht q
    | succ r ih =>
      intro u x τ hum ht hx
      have hIt := zQI_eq hI ht.2.2
      have hnt : τ.2.2.2 = σ.2.2.2 := congrArg Prod.snd ht.2.2
      have hst : τ.1 10 3 = nI m := (ht.1 10 3 rfl).trans hs
      have e1 : zA11 τ = zA11 σ := funext fun j => congrArg Int32.toInt64 (ht.1 11 j rfl)
      have e2 : zA12 τ = zA12 σ := funext fun j => congrArg Int32.toInt64 (ht.1 12 j rfl)
      have e3 : zA13 τ = zA13 σ := funext fun j => congrArg Int32.toInt64 (ht.1 13 j rfl)
      refine zq (σ := τ) hV hIt hnt 4 ?_
      show ((τ.1 10 3) ≤ (nI u) → V 76 [(0, .ref 10), (1, .int x), (2, .int (nI u))] [] τ) ∧ (¬ (τ.1 10 3) ≤ (nI u) → V 12 [(0, .ref 10), (1, .int x), (2, .int (nI u))] [] τ)
      refine ⟨fun hc => absurd hc (show ¬ τ.1 10 3 ≤ nI u by rw [hst]; exact nI_ge (by omega) (by omega)), fun _ => ?_⟩
      refine zq (σ := τ) hV hIt hnt 4 ?_
      show V 16 [(3, .int ((nI u) + 1)), (0, .ref 10), (1, .int x), (2, .int (nI u))] [] τ
      refine zwk hV [1, 2, 3, 0] rfl ?_
      rw [nI_1]
      clear hIt hnt hst e1 e2 e3
      revert x τ
      have H2 : ∀ (k v : Nat) (x : Int32) (τ : zSt), v + k = m → u < v → zOnly zfJ σ τ → zIv (zA11 σ) (zA12 σ) (zA13 σ) m u v x → V 16 [(0, .ref 10), (1, .int x), (2, .int (nI u)), (3, .int (nI v))] [] τ := by
        intro k
        induction k with
        | zero =>
          intro v x τ hvm huv ht hx
          have hIt := zQI_eq hI ht.2.2
          have hnt : τ.2.2.2 = σ.2.2.2 := congrArg Prod.snd ht.2.2
          have hst : τ.1 10 3 = nI m := (ht.1 10 3 rfl).trans hs
          have e1 : zA11 τ = zA11 σ := funext fun j => congrArg Int32.toInt64 (ht.1 11 j rfl)
          have e2 : zA12 τ = zA12 σ := funext fun j => congrArg Int32.toInt64 (ht.1 12 j rfl)
          have e3 : zA13 τ = zA13 σ := funext fun j => congrArg Int32.toInt64 (ht.1 13 j rfl)
          refine zq (σ := τ) hV hIt hnt 4 ?_
          show ((τ.1 10 3) ≤ (nI v) → V 70 [(0, .ref 10), (1, .int x), (2, .int (nI u)), (3, .int (nI v))] [] τ) ∧ (¬ (τ.1 10 3) ≤ (nI v) → V 24 [(0, .ref 10), (1, .int x), (2, .int (nI u)), (3, .int (nI v))] [] τ)
          refine ⟨fun _ => ?_, fun hc => absurd (show τ.1 10 3 ≤ nI v by rw [hst, show v = m by omega]; exact Int32.le_refl _) hc⟩
          refine zq (σ := τ) hV hIt hnt 2 ?_
          show V 4 [(2, .int ((nI u) + 1)), (0, .ref 10), (1, .int x), (3, .int (nI v))] [] τ
          refine zwk hV [1, 2, 0] rfl ?_
          rw [nI_1]
          exact ih (u + 1) _ _ (by omega) ht (zIv_row hx (by omega))
        | succ k ih2 =>
          intro v x τ hvm huv ht hx
          have hIt := zQI_eq hI ht.2.2
          have hnt : τ.2.2.2 = σ.2.2.2 := congrArg Prod.snd ht.2.2
          have hst : τ.1 10 3 = nI m := (ht.1 10 3 rfl).trans hs
          have e1 : zA11 τ = zA11 σ := funext fun j => congrArg Int32.toInt64 (ht.1 11 j rfl)
          have e2 : zA12 τ = zA12 σ := funext fun j => congrArg Int32.toInt64 (ht.1 12 j rfl)
          have e3 : zA13 τ = zA13 σ := funext fun j => congrArg Int32.toInt64 (ht.1 13 j rfl)
          refine zq (σ := τ) hV hIt hnt 4 ?_
          show ((τ.1 10 3) ≤ (nI v) → V 70 [(0, .ref 10), (1, .int x), (2, .int (nI u)), (3, .int (nI v))] [] τ) ∧ (¬ (τ.1 10 3) ≤ (nI v) → V 24 [(0, .ref 10), (1, .int x), (2, .int (nI u)), (3, .int (nI v))] [] τ)
          refine ⟨fun hc => absurd hc (show ¬ τ.1 10 3 ≤ nI v by rw [hst]; exact nI_ge (by omega) (by omega)), fun _ => ?_⟩
          refine zq (σ := τ) hV hIt hnt 4 ?_
          show zSp _ _ 51 [.ref 10, .int (nI u), .int (nI v)] τ (fun r σ' => σ'.2.2.2 = τ.2.2.2 + zAl 51 → V 30 [(0, .ref 10), (1, .int x), (2, .int (nI u)), (3, .int (nI v))] (r.toList ++ []) σ')
          refine cross_ok (zR_of hIt rfl rfl) (u := u) rfl (by omega) (v := v) rfl (by omega) (fun hz _ => ?_) (fun hz _ => ?_)
          · skip
            rw [e1, e2, e3] at hz
            have htc : zOnly zfJ σ (zCx τ u v) := ((ht.uJ rfl).uJ rfl).uJ rfl
            refine zq (σ := (zCx τ u v)) hV hIt hnt 1 ?_
            show ((1 : Int32) = 0 → V 64 [(0, .ref 10), (1, .int x), (2, .int (nI u)), (3, .int (nI v))] [] (zCx τ u v)) ∧ (¬ (1 : Int32) = 0 → V 33 [(0, .ref 10), (1, .int x), (2, .int (nI u)), (3, .int (nI v))] [] (zCx τ u v))
            refine ⟨fun hc => absurd hc (by decide), fun _ => ?_⟩
            refine zq (σ := (zCx τ u v)) hV hIt hnt 2 ?_
            show zSp _ _ 52 [.ref 10] (zCx τ u v) (fun r σ' => σ'.2.2.2 = (zCx τ u v).2.2.2 + zAl 52 → V 37 [(0, .ref 10), (1, .int x), (2, .int (nI u)), (3, .int (nI v))] (r.toList ++ []) σ')
            refine signs_ok (zR_of hIt rfl rfl) (m := m) hst (by omega) (fun _ => ?_)
            have eb : ∀ f, zBl (zA11 (zCx τ u v)) (zA12 (zCx τ u v)) (zA13 (zCx τ u v)) ((zCx τ u v).2.1 10 4) ((zCx τ u v).2.1 10 5) ((zCx τ u v).2.1 10 6) f = zBl (zA11 σ) (zA12 σ) (zA13 σ) (zX1 (zA11 σ) (zA12 σ) (zA13 σ) u v) (zX2 (zA11 σ) (zA12 σ) (zA13 σ) u v) (zX3 (zA11 σ) (zA12 σ) (zA13 σ) u v) f := fun f => by rw [← e1, ← e2, ← e3]; rfl
            have ea : ∀ f, zAb (zA11 (zCx τ u v)) (zA12 (zCx τ u v)) (zA13 (zCx τ u v)) ((zCx τ u v).2.1 10 4) ((zCx τ u v).2.1 10 5) ((zCx τ u v).2.1 10 6) f = zAb (zA11 σ) (zA12 σ) (zA13 σ) (zX1 (zA11 σ) (zA12 σ) (zA13 σ) u v) (zX2 (zA11 σ) (zA12 σ) (zA13 σ) u v) (zX3 (zA11 σ) (zA12 σ) (zA13 σ) u v) f := fun f => by rw [← e1, ← e2, ← e3]; rfl
            rw [eb, ea]
            have j4 : (zCx τ u v).2.1 10 4 = zX1 (zA11 σ) (zA12 σ) (zA13 σ) u v := by rw [← e1, ← e2, ← e3]; rfl
            have j5 : (zCx τ u v).2.1 10 5 = zX2 (zA11 σ) (zA12 σ) (zA13 σ) u v := by rw [← e1, ← e2, ← e3]; rfl
            have j6 : (zCx τ u v).2.1 10 6 = zX3 (zA11 σ) (zA12 σ) (zA13 σ) u v := by rw [← e1, ← e2, ← e3]; rfl
            cases hb : zBe (zA11 σ) (zA12 σ) (zA13 σ) m u v <;> cases ha : zAe (zA11 σ) (zA12 σ) (zA13 σ) m u v
            · skip
              unfold zBe at hb
              unfold zAe at ha
              rw [hb, ha]
              refine zq (σ := (zCx τ u v)) hV hIt hnt 4 ?_
              show ((0 : Int32) = 3 → V 62 [(4, .int 0), (0, .ref 10), (1, .int x), (2, .int (nI u)), (3, .int (nI v))] [] (zCx τ u v)) ∧ (¬ (0 : Int32) = 3 → V 45 [(4, .int 0), (0, .ref 10), (1, .int x), (2, .int (nI u)), (3, .int (nI v))] [] (zCx τ u v))
              refine ⟨fun hc => absurd hc (by decide), fun _ => ?_⟩
              refine zq (σ := (zCx τ u v)) hV hIt hnt 3 ?_
              show zSp _ _ 49 [.ref 10, .int 0] (zCx τ u v) (fun r σ' => σ'.2.2.2 = (zCx τ u v).2.2.2 + zAl 49 → V 51 [(4, .int 0), (0, .ref 10), (1, .int x), (2, .int (nI u)), (3, .int (nI v))] (r.toList ++ []) σ')
              refine turn_0 (zR_of hIt rfl rfl) (fun _ => ?_)
              refine zq (σ := (zCx τ u v)) hV hIt hnt 2 ?_
              show (¬ (0 : Int32) = 0 → V 60 [(4, .int 0), (0, .ref 10), (1, .int x), (2, .int (nI u)), (3, .int (nI v))] [] (zCx τ u v)) ∧ (¬ (¬ (0 : Int32) = 0) → V 56 [(4, .int 0), (0, .ref 10), (1, .int x), (2, .int (nI u)), (3, .int (nI v))] [] (zCx τ u v))
              refine ⟨fun hc => absurd hc (by decide), fun _ => ?_⟩
              refine zq (σ := (zCx τ u v)) hV hIt hnt 3 ?_
              show K (some (.int 0)) (zCx τ u v)
              have hfst : zFst (zA11 σ) (zA12 σ) (zA13 σ) m u v := ⟨⟨huv, by omega, hz, fun q => by unfold zBe zAe at q; rw [hb, ha] at q; simp at q⟩, hx.1⟩
              have hbe : zBe (zA11 σ) (zA12 σ) (zA13 σ) m u v = false := hb
              have hae : zAe (zA11 σ) (zA12 σ) (zA13 σ) m u v = false := ha
              have hk := hH (zCx τ u v) u v htc hfst (by rw [hbe]; exact j4) (by rw [hbe]; exact j5) (by rw [hbe]; exact j6)
              rw [hbe, hae] at hk
              exact hk
            · skip
              unfold zBe at hb
              unfold zAe at ha
              rw [hb, ha]
              refine zq (σ := (zCx τ u v)) hV hIt hnt 4 ?_
              show ((2 : Int32) = 3 → V 62 [(4, .int 2), (0, .ref 10), (1, .int x), (2, .int (nI u)), (3, .int (nI v))] [] (zCx τ u v)) ∧ (¬ (2 : Int32) = 3 → V 45 [(4, .int 2), (0, .ref 10), (1, .int x), (2, .int (nI u)), (3, .int (nI v))] [] (zCx τ u v))
              refine ⟨fun hc => absurd hc (by decide), fun _ => ?_⟩
              refine zq (σ := (zCx τ u v)) hV hIt hnt 3 ?_
              show zSp _ _ 49 [.ref 10, .int 2] (zCx τ u v) (fun r σ' => σ'.2.2.2 = (zCx τ u v).2.2.2 + zAl 49 → V 51 [(4, .int 2), (0, .ref 10), (1, .int x), (2, .int (nI u)), (3, .int (nI v))] (r.toList ++ []) σ')
              refine turn_2 (zR_of hIt rfl rfl) (fun _ => ?_)
              refine zq (σ := (zCx τ u v)) hV hIt hnt 2 ?_
              show (¬ (2 : Int32) = 0 → V 60 [(4, .int 2), (0, .ref 10), (1, .int x), (2, .int (nI u)), (3, .int (nI v))] [] (zCx τ u v)) ∧ (¬ (¬ (2 : Int32) = 0) → V 56 [(4, .int 2), (0, .ref 10), (1, .int x), (2, .int (nI u)), (3, .int (nI v))] [] (zCx τ u v))
              refine ⟨fun _ => ?_, fun hc => absurd (by decide) hc⟩
              refine zq (σ := (zCx τ u v)) hV hIt hnt 2 ?_
              show K (some (.int 1)) (zCx τ u v)
              have hfst : zFst (zA11 σ) (zA12 σ) (zA13 σ) m u v := ⟨⟨huv, by omega, hz, fun q => by unfold zBe zAe at q; rw [hb, ha] at q; simp at q⟩, hx.1⟩
              have hbe : zBe (zA11 σ) (zA12 σ) (zA13 σ) m u v = false := hb
              have hae : zAe (zA11 σ) (zA12 σ) (zA13 σ) m u v = true := ha
              have hk := hH (zCx τ u v) u v htc hfst (by rw [hbe]; exact j4) (by rw [hbe]; exact j5) (by rw [hbe]; exact j6)
              rw [hbe, hae] at hk
              exact hk
            · skip
              unfold zBe at hb
              unfold zAe at ha
              rw [hb, ha]
              refine zq (σ := (zCx τ u v)) hV hIt hnt 4 ?_
              show ((1 : Int32) = 3 → V 62 [(4, .int 1), (0, .ref 10), (1, .int x), (2, .int (nI u)), (3, .int (nI v))] [] (zCx τ u v)) ∧ (¬ (1 : Int32) = 3 → V 45 [(4, .int 1), (0, .ref 10), (1, .int x), (2, .int (nI u)), (3, .int (nI v))] [] (zCx τ u v))
              refine ⟨fun hc => absurd hc (by decide), fun _ => ?_⟩
              refine zq (σ := (zCx τ u v)) hV hIt hnt 3 ?_
              show zSp _ _ 49 [.ref 10, .int 1] (zCx τ u v) (fun r σ' => σ'.2.2.2 = (zCx τ u v).2.2.2 + zAl 49 → V 51 [(4, .int 1), (0, .ref 10), (1, .int x), (2, .int (nI u)), (3, .int (nI v))] (r.toList ++ []) σ')
              refine turn_1 (zR_of hIt rfl rfl) (fun _ => ?_)
              refine zq (σ := (zuJ (zuJ (zuJ (zCx τ u v) 10 4 (-(zCx τ u v).2.1 10 4)) 10 5 (-(zCx τ u v).2.1 10 5)) 10 6 (-(zCx τ u v).2.1 10 6))) hV hIt hnt 2 ?_
              show (¬ (1 : Int32) = 0 → V 60 [(4, .int 1), (0, .ref 10), (1, .int x), (2, .int (nI u)), (3, .int (nI v))] [] (zuJ (zuJ (zuJ (zCx τ u v) 10 4 (-(zCx τ u v).2.1 10 4)) 10 5 (-(zCx τ u v).2.1 10 5)) 10 6 (-(zCx τ u v).2.1 10 6))) ∧ (¬ (¬ (1 : Int32) = 0) → V 56 [(4, .int 1), (0, .ref 10), (1, .int x), (2, .int (nI u)), (3, .int (nI v))] [] (zuJ (zuJ (zuJ (zCx τ u v) 10 4 (-(zCx τ u v).2.1 10 4)) 10 5 (-(zCx τ u v).2.1 10 5)) 10 6 (-(zCx τ u v).2.1 10 6)))
              refine ⟨fun _ => ?_, fun hc => absurd (by decide) hc⟩
              refine zq (σ := (zuJ (zuJ (zuJ (zCx τ u v) 10 4 (-(zCx τ u v).2.1 10 4)) 10 5 (-(zCx τ u v).2.1 10 5)) 10 6 (-(zCx τ u v).2.1 10 6))) hV hIt hnt 2 ?_
              show K (some (.int 1)) (zuJ (zuJ (zuJ (zCx τ u v) 10 4 (-(zCx τ u v).2.1 10 4)) 10 5 (-(zCx τ u v).2.1 10 5)) 10 6 (-(zCx τ u v).2.1 10 6))
              have hfst : zFst (zA11 σ) (zA12 σ) (zA13 σ) m u v := ⟨⟨huv, by omega, hz, fun q => by unfold zBe zAe at q; rw [hb, ha] at q; simp at q⟩, hx.1⟩
              have hbe : zBe (zA11 σ) (zA12 σ) (zA13 σ) m u v = true := hb
              have hae : zAe (zA11 σ) (zA12 σ) (zA13 σ) m u v = false := ha
              have hk := hH (zuJ (zuJ (zuJ (zCx τ u v) 10 4 (-(zCx τ u v).2.1 10 4)) 10 5 (-(zCx τ u v).2.1 10 5)) 10 6 (-(zCx τ u v).2.1 10 6)) u v (((htc.uJ rfl).uJ rfl).uJ rfl) hfst (by rw [hbe]; exact congrArg (fun z => -z) j4) (by rw [hbe]; exact congrArg (fun z => -z) j5) (by rw [hbe]; exact congrArg (fun z => -z) j6)
              rw [hbe, hae] at hk
              exact hk
            · skip
              unfold zBe at hb
              unfold zAe at ha
              rw [hb, ha]
              refine zq (σ := (zCx τ u v)) hV hIt hnt 4 ?_
              show ((3 : Int32) = 3 → V 62 [(4, .int 3), (0, .ref 10), (1, .int x), (2, .int (nI u)), (3, .int (nI v))] [] (zCx τ u v)) ∧ (¬ (3 : Int32) = 3 → V 45 [(4, .int 3), (0, .ref 10), (1, .int x), (2, .int (nI u)), (3, .int (nI v))] [] (zCx τ u v))
              refine ⟨fun _ => ?_, fun hc => absurd (by decide) hc⟩
              refine zq (σ := (zCx τ u v)) hV hIt hnt 4 ?_
              show V 16 [(3, .int ((nI v) + 1)), (1, .int 2), (4, .int 3), (0, .ref 10), (2, .int (nI u))] [] (zCx τ u v)
              refine zwk hV [3, 1, 4, 0] rfl ?_
              rw [nI_1]
              exact ih2 (v + 1) _ _ (by omega) (by omega) htc (zIv_both hx huv (by omega) hz hb ha)
          · skip
            rw [e1, e2, e3] at hz
            have htc : zOnly zfJ σ (zCx τ u v) := ((ht.uJ rfl).uJ rfl).uJ rfl
            refine zq (σ := (zCx τ u v)) hV hIt hnt 1 ?_
            show ((0 : Int32) = 0 → V 64 [(0, .ref 10), (1, .int x), (2, .int (nI u)), (3, .int (nI v))] [] (zCx τ u v)) ∧ (¬ (0 : Int32) = 0 → V 33 [(0, .ref 10), (1, .int x), (2, .int (nI u)), (3, .int (nI v))] [] (zCx τ u v))
            refine ⟨fun _ => ?_, fun hc => absurd (by decide) hc⟩
            refine zq (σ := (zCx τ u v)) hV hIt hnt 2 ?_
            show V 16 [(3, .int ((nI v) + 1)), (0, .ref 10), (1, .int x), (2, .int (nI u))] [] (zCx τ u v)
            refine zwk hV [1, 2, 3, 0] rfl ?_
            rw [nI_1]
            exact ih2 (v + 1) _ _ (by omega) (by omega) htc (zIv_next hx hz)
      intro x τ ht hx _
      exact H2 (m - (u + 1)) (u + 1) x τ (by omega) (by omega) ht hx
  exact H m 0 0 σ (by omega) zOnly.rf (zBf_0 _ _ _ m)
end
section
variable {zx : Nat × (Nat → Int32)}
theorem zNz_congr {A B C A' B' C' : Nat → Int64} {m : Nat} (h : ∀ t, t < m → A t = A' t ∧ B t = B' t ∧ C t = C' t) {u v : Nat} (hu : u < m) (hv : v < m) : zX1 A B C u v = zX1 A' B' C' u v ∧ zX2 A B C u v = zX2 A' B' C' u v ∧ zX3 A B C u v = zX3 A' B' C' u v := by
  obtain ⟨a1, a2, a3⟩ := h u hu
  obtain ⟨b1, b2, b3⟩ := h v hv
  simp only [zX1, zX2, zX3, a1, a2, a3, b1, b2, b3, and_self]
theorem zBl_congr {A B C A' B' C' : Nat → Int64} {m : Nat} (h : ∀ t, t < m → A t = A' t ∧ B t = B' t ∧ C t = C' t) (c1 c2 c3 : Int64) : ∀ t, t ≤ m → zBl A B C c1 c2 c3 t = zBl A' B' C' c1 c2 c3 t ∧ zAb A B C c1 c2 c3 t = zAb A' B' C' c1 c2 c3 t := by
  intro t
  induction t with
  | zero => intro _; exact ⟨rfl, rfl⟩
  | succ t ih =>
    intro ht
    obtain ⟨i1, i2⟩ := ih (by omega)
    obtain ⟨a1, a2, a3⟩ := h t (by omega)
    have e : zPr A B C c1 c2 c3 t = zPr A' B' C' c1 c2 c3 t := by unfold zPr; rw [a1, a2, a3]
    simp only [zBl, zAb, i1, i2, e, and_self]
theorem zBe_congr {A B C A' B' C' : Nat → Int64} {m : Nat} (h : ∀ t, t < m → A t = A' t ∧ B t = B' t ∧ C t = C' t) {u v : Nat} (hu : u < m) (hv : v < m) : zBe A B C m u v = zBe A' B' C' m u v ∧ zAe A B C m u v = zAe A' B' C' m u v := by
  obtain ⟨e1, e2, e3⟩ := zNz_congr h hu hv
  unfold zBe zAe
  rw [e1, e2, e3]
  exact ⟨(zBl_congr h _ _ _ m (Nat.le_refl _)).1, (zBl_congr h _ _ _ m (Nat.le_refl _)).2⟩
theorem zGd_congr {A B C A' B' C' : Nat → Int64} {m : Nat} (h : ∀ t, t < m → A t = A' t ∧ B t = B' t ∧ C t = C' t) {u v : Nat} (hu : u < m) (hv : v < m) : (zNz A B C u v ↔ zNz A' B' C' u v) ∧ (zGd A B C m u v ↔ zGd A' B' C' m u v) := by
  obtain ⟨e1, e2, e3⟩ := zNz_congr h hu hv
  obtain ⟨f1, f2⟩ := zBe_congr h hu hv
  unfold zGd zNz
  rw [e1, e2, e3, f1, f2]
  exact ⟨Iff.rfl, Iff.rfl⟩
theorem zHold_congr {A B C A' B' C' : Nat → Int64} {m : Nat} (h : ∀ t, t < m → A t = A' t ∧ B t = B' t ∧ C t = C' t) : zHold A B C m ↔ zHold A' B' C' m := by
  unfold zHold
  constructor
  · rintro ⟨⟨u, v, h1, h2, h3⟩, h4⟩
    exact ⟨⟨u, v, h1, h2, (zGd_congr h (by omega) h2).1.mp h3⟩, fun u v q1 q2 => (zGd_congr h (by omega) q2).2.mp (h4 u v q1 q2)⟩
  · rintro ⟨⟨u, v, h1, h2, h3⟩, h4⟩
    exact ⟨⟨u, v, h1, h2, (zGd_congr h (by omega) h2).1.mpr h3⟩, fun u v q1 q2 => (zGd_congr h (by omega) q2).2.mpr (h4 u v q1 q2)⟩
theorem zFst_congr {A B C A' B' C' : Nat → Int64} {m : Nat} (h : ∀ t, t < m → A t = A' t ∧ B t = B' t ∧ C t = C' t) {u v : Nat} : zFst A B C m u v ↔ zFst A' B' C' m u v := by
  unfold zFst
  constructor
  · rintro ⟨⟨h1, h2, h3, h4⟩, h5⟩
    obtain ⟨f1, f2⟩ := zBe_congr h (u := u) (v := v) (by omega) h2
    exact ⟨⟨h1, h2, (zGd_congr h (by omega) h2).1.mp h3, by rw [← f1, ← f2]; exact h4⟩, fun u' v' q1 q2 q3 => (zGd_congr h (by omega) q2).2.mp (h5 u' v' q1 q2 q3)⟩
  · rintro ⟨⟨h1, h2, h3, h4⟩, h5⟩
    obtain ⟨f1, f2⟩ := zBe_congr h (u := u) (v := v) (by omega) h2
    exact ⟨⟨h1, h2, (zGd_congr h (by omega) h2).1.mpr h3, by rw [f1, f2]; exact h4⟩, fun u' v' q1 q2 q3 => (zGd_congr h (by omega) q2).2.mpr (h5 u' v' q1 q2 q3)⟩
theorem zFst_one {A B C : Nat → Int64} {m u v u' v' : Nat} (h : zFst A B C m u v) (h' : zFst A B C m u' v') : u = u' ∧ v = v' := by
  have k1 : ¬ zBf u v u' v' := fun q => h.1.2.2.2 (h'.2 u v h.1.1 h.1.2.1 q h.1.2.2.1)
  have k2 : ¬ zBf u' v' u v := fun q => h'.1.2.2.2 (h.2 u' v' h'.1.1 h'.1.2.1 q h'.1.2.2.1)
  unfold zBf at k1 k2
  omega
theorem zHold_nF {A B C : Nat → Int64} {m u v : Nat} (h : zHold A B C m) (h' : zFst A B C m u v) : False := h'.1.2.2.2 (h.2 u v h'.1.1 h'.1.2.1 h'.1.2.2.1)
/-- whether fingers hold that stand so -/
def zHo (n : Nat) (X Y : Nat → Int32) (f : Int32) (E S : Nat → Int32) (m : Nat) : Prop := zHold (zl (zT1 n X Y f E)) (zl (zT2 n X Y f E)) (zl (zT3 n X Y f E S)) (zMl f m)
theorem zTok_l {n : Nat} {X Y : Nat → Int32} {f : Int32} {E S : Nat → Int32} {M : Nat} {τ : zSt} (h : zTok n X Y f E S M τ) : ∀ t, t < M → zA11 τ t = zl (zT1 n X Y f E) t ∧ zA12 τ t = zl (zT2 n X Y f E) t ∧ zA13 τ t = zl (zT3 n X Y f E S) t := fun t ht => by
  obtain ⟨h1, h2, h3⟩ := h t ht
  exact ⟨congrArg Int32.toInt64 h1, congrArg Int32.toInt64 h2, congrArg Int32.toInt64 h3⟩
def zfW (a j : Nat) : Bool := (Nat.beq a 10 && Nat.ble 3 j) || (Nat.ble 11 a && Nat.ble a 13)
theorem zfT_W (a j : Nat) (h : zfW a j = false) : zfT a j = false := by
  unfold zfW at h; unfold zfT
  rw [Bool.or_eq_false_iff] at h ⊢
  refine ⟨?_, h.2⟩
  rw [Bool.and_eq_false_iff] at h ⊢
  rcases h.1 with h | h
  · exact Or.inl h
  · refine Or.inr ?_
    by_cases q : j = 3
    · subst q; exact absurd h (by decide)
    · rw [← Bool.not_eq_true]; exact fun e => q (Nat.eq_of_beq_eq_true e)
theorem zfJ_W (a j : Nat) (h : zfW a j = false) : zfJ a j = false := by
  unfold zfW at h; unfold zfJ
  rw [Bool.or_eq_false_iff] at h
  rw [Bool.and_eq_false_iff] at h ⊢
  rcases h.1 with h | h
  · exact Or.inl h
  · refine Or.inr ?_
    rw [← Bool.not_eq_true] at h ⊢
    exact fun e => h (Nat.ble_eq.mpr (Nat.le_trans (by decide) (Nat.le_of_ble_eq_true e)))
theorem zQI_0 {q : (Nat → Nat → Value) × Nat} : zQI (fun _ => false) q := fun a h => Bool.noConfusion h
def zBt (lo hi : Int) (v : Int32) : Prop := lo ≤ v.toInt ∧ v.toInt ≤ hi
theorem zneg_nI {q : Nat} (h : q < 2 ^ 30) : (-(nI q)).toInt = -(q : Int) := by
  rw [Int32.toInt_neg, nI_toInt (by omega)]
  exact Int.bmod_eq_of_le (by omega) (by omega)
set_option maxRecDepth 8000 in
set_option maxHeartbeats 4000000 in
theorem isWithin_ok {d : Nat} {σ : zSt} {K : Option Value → zSt → Prop} {v q : Int32} {k : Nat} (e : q = nI k) (hk : k < 2 ^ 30) (h1 : zBt (-(k : Int)) k v → K (some (.int 1)) σ) (h0 : ¬ zBt (-(k : Int)) k v → K (some (.int 0)) σ) : zSp zx (d + 1) mX8_isWithin [.int v, .int q] σ K := by
  refine ⟨⟨by decide, Nat.le_of_ble_eq_true rfl⟩, fun V hV => ?_⟩
  subst e
  refine zq (σ := σ) hV zQI_0 rfl 4 ?_
  show (v < (-(nI k)) → V 15 [(0, .int v), (1, .int (nI k))] [] σ) ∧ (¬ v < (-(nI k)) → V 6 [(0, .int v), (1, .int (nI k))] [] σ)
  refine ⟨fun h_3 => ?_, fun h_3 => ?_⟩
  · skip
    refine zq (σ := σ) hV zQI_0 rfl 2 ?_
    show ((0 : Int32) = 0 ∨ (0 : Int32) = 1) ∧ K (some (.int 0)) σ
    refine ⟨by decide, ?_⟩
    refine h0 (by
      simp only [zlt, zneg_nI hk, nI_toInt (show k < 2 ^ 31 by omega)] at h_3
      unfold zBt
      omega)
  · skip
    refine zq (σ := σ) hV zQI_0 rfl 3 ?_
    show ((nI k) < v → V 15 [(0, .int v), (1, .int (nI k))] [] σ) ∧ (¬ (nI k) < v → V 11 [(0, .int v), (1, .int (nI k))] [] σ)
    refine ⟨fun h_8 => ?_, fun h_8 => ?_⟩
    · skip
      refine zq (σ := σ) hV zQI_0 rfl 2 ?_
      show ((0 : Int32) = 0 ∨ (0 : Int32) = 1) ∧ K (some (.int 0)) σ
      refine ⟨by decide, ?_⟩
      refine h0 (by
        simp only [zlt, zneg_nI hk, nI_toInt (show k < 2 ^ 31 by omega)] at h_3 h_8
        unfold zBt
        omega)
    · skip
      refine zq (σ := σ) hV zQI_0 rfl 3 ?_
      show ((1 : Int32) = 0 ∨ (1 : Int32) = 1) ∧ K (some (.int 1)) σ
      refine ⟨by decide, ?_⟩
      refine h1 (by
        simp only [zlt, zneg_nI hk, nI_toInt (show k < 2 ^ 31 by omega)] at h_3 h_8
        unfold zBt
        omega)
set_option maxRecDepth 8000 in
set_option maxHeartbeats 4000000 in
theorem isTriplePart_ok {d : Nat} {σ : zSt} {K : Option Value → zSt → Prop} {v : Int32} (h1 : zBt 0 2 v → K (some (.int 1)) σ) (h0 : ¬ (zBt 0 2 v) → K (some (.int 0)) σ) : zSp zx (d + 1) mX8_isTriplePart [.int v] σ K := by
  refine ⟨⟨by decide, Nat.le_of_ble_eq_true rfl⟩, fun V hV => ?_⟩
  refine zq (σ := σ) hV zQI_0 rfl 2 ?_
  show (v < 0 → V 13 [(0, .int v)] [] σ) ∧ (¬ v < 0 → V 4 [(0, .int v)] [] σ)
  refine ⟨fun h_1 => ?_, fun h_1 => ?_⟩
  · skip
    refine zq (σ := σ) hV zQI_0 rfl 2 ?_
    show ((0 : Int32) = 0 ∨ (0 : Int32) = 1) ∧ K (some (.int 0)) σ
    refine ⟨by decide, ?_⟩
    refine h0 (by
      simp only [zlt, zle] at h_1
      unfold zBt
      simp at h_1 ⊢
      omega)
  · skip
    refine zq (σ := σ) hV zQI_0 rfl 3 ?_
    show (2 < v → V 13 [(0, .int v)] [] σ) ∧ (¬ 2 < v → V 9 [(0, .int v)] [] σ)
    refine ⟨fun h_6 => ?_, fun h_6 => ?_⟩
    · skip
      refine zq (σ := σ) hV zQI_0 rfl 2 ?_
      show ((0 : Int32) = 0 ∨ (0 : Int32) = 1) ∧ K (some (.int 0)) σ
      refine ⟨by decide, ?_⟩
      refine h0 (by
        simp only [zlt, zle] at h_1 h_6
        unfold zBt
        simp at h_1 h_6 ⊢
        omega)
    · skip
      refine zq (σ := σ) hV zQI_0 rfl 3 ?_
      show ((1 : Int32) = 0 ∨ (1 : Int32) = 1) ∧ K (some (.int 1)) σ
      refine ⟨by decide, ?_⟩
      refine h1 (by
        simp only [zlt, zle] at h_1 h_6
        unfold zBt
        simp at h_1 h_6 ⊢
        omega)
set_option maxRecDepth 8000 in
set_option maxHeartbeats 4000000 in
theorem isSheet_ok {d : Nat} {σ : zSt} {K : Option Value → zSt → Prop} {v : Int32} (h1 : zBt 0 3 v → K (some (.int 1)) σ) (h0 : ¬ (zBt 0 3 v) → K (some (.int 0)) σ) : zSp zx (d + 1) mX8_isSheet [.int v] σ K := by
  refine ⟨⟨by decide, Nat.le_of_ble_eq_true rfl⟩, fun V hV => ?_⟩
  refine zq (σ := σ) hV zQI_0 rfl 2 ?_
  show (v < 0 → V 13 [(0, .int v)] [] σ) ∧ (¬ v < 0 → V 4 [(0, .int v)] [] σ)
  refine ⟨fun h_1 => ?_, fun h_1 => ?_⟩
  · skip
    refine zq (σ := σ) hV zQI_0 rfl 2 ?_
    show ((0 : Int32) = 0 ∨ (0 : Int32) = 1) ∧ K (some (.int 0)) σ
    refine ⟨by decide, ?_⟩
    refine h0 (by
      simp only [zlt, zle] at h_1
      unfold zBt
      simp at h_1 ⊢
      omega)
  · skip
    refine zq (σ := σ) hV zQI_0 rfl 3 ?_
    show (4 ≤ v → V 13 [(0, .int v)] [] σ) ∧ (¬ 4 ≤ v → V 9 [(0, .int v)] [] σ)
    refine ⟨fun h_6 => ?_, fun h_6 => ?_⟩
    · skip
      refine zq (σ := σ) hV zQI_0 rfl 2 ?_
      show ((0 : Int32) = 0 ∨ (0 : Int32) = 1) ∧ K (some (.int 0)) σ
      refine ⟨by decide, ?_⟩
      refine h0 (by
        simp only [zlt, zle] at h_1 h_6
        unfold zBt
        simp at h_1 h_6 ⊢
        omega)
    · skip
      refine zq (σ := σ) hV zQI_0 rfl 3 ?_
      show ((1 : Int32) = 0 ∨ (1 : Int32) = 1) ∧ K (some (.int 1)) σ
      refine ⟨by decide, ?_⟩
      refine h1 (by
        simp only [zlt, zle] at h_1 h_6
        unfold zBt
        simp at h_1 h_6 ⊢
        omega)
set_option maxRecDepth 8000 in
set_option maxHeartbeats 4000000 in
theorem isForm_ok {d : Nat} {σ : zSt} {K : Option Value → zSt → Prop} {v : Int32} (h1 : zBt 0 2 v → K (some (.int 1)) σ) (h0 : ¬ (zBt 0 2 v) → K (some (.int 0)) σ) : zSp zx (d + 1) mX8_isForm [.int v] σ K := by
  refine ⟨⟨by decide, Nat.le_of_ble_eq_true rfl⟩, fun V hV => ?_⟩
  refine zq (σ := σ) hV zQI_0 rfl 2 ?_
  show (v < 0 → V 13 [(0, .int v)] [] σ) ∧ (¬ v < 0 → V 4 [(0, .int v)] [] σ)
  refine ⟨fun h_1 => ?_, fun h_1 => ?_⟩
  · skip
    refine zq (σ := σ) hV zQI_0 rfl 2 ?_
    show ((0 : Int32) = 0 ∨ (0 : Int32) = 1) ∧ K (some (.int 0)) σ
    refine ⟨by decide, ?_⟩
    refine h0 (by
      simp only [zlt, zle] at h_1
      unfold zBt
      simp at h_1 ⊢
      omega)
  · skip
    refine zq (σ := σ) hV zQI_0 rfl 3 ?_
    show (2 < v → V 13 [(0, .int v)] [] σ) ∧ (¬ 2 < v → V 9 [(0, .int v)] [] σ)
    refine ⟨fun h_6 => ?_, fun h_6 => ?_⟩
    · skip
      refine zq (σ := σ) hV zQI_0 rfl 2 ?_
      show ((0 : Int32) = 0 ∨ (0 : Int32) = 1) ∧ K (some (.int 0)) σ
      refine ⟨by decide, ?_⟩
      refine h0 (by
        simp only [zlt, zle] at h_1 h_6
        unfold zBt
        simp at h_1 h_6 ⊢
        omega)
    · skip
      refine zq (σ := σ) hV zQI_0 rfl 3 ?_
      show ((1 : Int32) = 0 ∨ (1 : Int32) = 1) ∧ K (some (.int 1)) σ
      refine ⟨by decide, ?_⟩
      refine h1 (by
        simp only [zlt, zle] at h_1 h_6
        unfold zBt
        simp at h_1 h_6 ⊢
        omega)
end
section
variable {zx : Nat × (Nat → Int32)}
set_option maxRecDepth 8000 in
set_option maxHeartbeats 4000000 in
theorem isStand_ok {d : Nat} {σ : zSt} {K : Option Value → zSt → Prop} {e k : Int32} {n : Nat} (hI : zQI (kR 0 30) σ.2.2) (hn : σ.1 1 2 = nI n) (hn10 : n ≤ 10) (h1 : (zBt 0 (n - 1) e ∧ zBt 0 8 k) → K (some (.int 1)) σ) (h0 : ¬ (zBt 0 (n - 1) e ∧ zBt 0 8 k) → K (some (.int 0)) σ) : zSp zx (d + 2) mX8_isStand [.ref 0, .int e, .int k] σ K := by
  refine ⟨⟨by decide, Nat.le_of_ble_eq_true rfl⟩, fun V hV => ?_⟩
  have hni := nI_toInt (show n < 2 ^ 31 by omega)
  refine zq (σ := σ) hV hI rfl 2 ?_
  show (e < 0 → V 29 [(0, .ref 0), (1, .int e), (2, .int k)] [] σ) ∧ (¬ e < 0 → V 4 [(0, .ref 0), (1, .int e), (2, .int k)] [] σ)
  refine ⟨fun h_1 => ?_, fun h_1 => ?_⟩
  · skip
    refine zq (σ := σ) hV hI rfl 2 ?_
    show ((0 : Int32) = 0 ∨ (0 : Int32) = 1) ∧ K (some (.int 0)) σ
    refine ⟨by decide, ?_⟩
    refine h0 (by
      simp only [zlt, zle, hn, hni] at h_1
      unfold zBt
      simp at h_1 ⊢
      omega)
  · skip
    refine zq (σ := σ) hV hI rfl 4 ?_
    show zSp _ _ 16 [.ref 1] σ (fun r σ' => σ'.2.2.2 = σ.2.2.2 + zAl 16 → V 12 [(0, .ref 0), (1, .int e), (2, .int k)] (r.toList ++ [.int e]) σ')
    refine corners_ok (zR_of hI rfl rfl) (fun _ => ?_)
    refine zq (σ := σ) hV hI rfl 1 ?_
    show ((σ.1 1 2) ≤ e → V 29 [(0, .ref 0), (1, .int e), (2, .int k)] [] σ) ∧ (¬ (σ.1 1 2) ≤ e → V 15 [(0, .ref 0), (1, .int e), (2, .int k)] [] σ)
    refine ⟨fun h_12 => ?_, fun h_12 => ?_⟩
    · skip
      refine zq (σ := σ) hV hI rfl 2 ?_
      show ((0 : Int32) = 0 ∨ (0 : Int32) = 1) ∧ K (some (.int 0)) σ
      refine ⟨by decide, ?_⟩
      refine h0 (by
        simp only [zlt, zle, hn, hni] at h_1 h_12
        unfold zBt
        simp at h_1 h_12 ⊢
        omega)
    · skip
      refine zq (σ := σ) hV hI rfl 2 ?_
      show (k < 0 → V 29 [(0, .ref 0), (1, .int e), (2, .int k)] [] σ) ∧ (¬ k < 0 → V 19 [(0, .ref 0), (1, .int e), (2, .int k)] [] σ)
      refine ⟨fun h_16 => ?_, fun h_16 => ?_⟩
      · skip
        refine zq (σ := σ) hV hI rfl 2 ?_
        show ((0 : Int32) = 0 ∨ (0 : Int32) = 1) ∧ K (some (.int 0)) σ
        refine ⟨by decide, ?_⟩
        refine h0 (by
          simp only [zlt, zle, hn, hni] at h_1 h_12 h_16
          unfold zBt
          simp at h_1 h_12 h_16 ⊢
          omega)
      · skip
        refine zq (σ := σ) hV hI rfl 3 ?_
        show (8 < k → V 29 [(0, .ref 0), (1, .int e), (2, .int k)] [] σ) ∧ (¬ 8 < k → V 25 [(0, .ref 0), (1, .int e), (2, .int k)] [] σ)
        refine ⟨fun h_22 => ?_, fun h_22 => ?_⟩
        · skip
          refine zq (σ := σ) hV hI rfl 2 ?_
          show ((0 : Int32) = 0 ∨ (0 : Int32) = 1) ∧ K (some (.int 0)) σ
          refine ⟨by decide, ?_⟩
          refine h0 (by
            simp only [zlt, zle, hn, hni] at h_1 h_12 h_16 h_22
            unfold zBt
            simp at h_1 h_12 h_16 h_22 ⊢
            omega)
        · skip
          refine zq (σ := σ) hV hI rfl 3 ?_
          show ((1 : Int32) = 0 ∨ (1 : Int32) = 1) ∧ K (some (.int 1)) σ
          refine ⟨by decide, ?_⟩
          refine h1 (by
            simp only [zlt, zle, hn, hni] at h_1 h_12 h_16 h_22
            unfold zBt
            simp at h_1 h_12 h_16 h_22 ⊢
            omega)
set_option maxRecDepth 8000 in
set_option maxHeartbeats 4000000 in
theorem gsize_ok {d : Nat} {σ : zSt} {K : Option Value → zSt → Prop} (hI : zQI (kR 21 24) σ.2.2) (hK : K (some (.int (σ.1 21 2))) σ) : zSp zx (d + 1) mX1_size [.ref 21] σ K := by
  refine ⟨⟨by decide, Nat.le_of_ble_eq_true rfl⟩, fun V hV => ?_⟩
  refine zq (σ := σ) hV hI rfl 3 ?_
  show K (some (.int (σ.1 21 2))) σ
  exact hK
set_option maxRecDepth 8000 in
set_option maxHeartbeats 4000000 in
theorem bdropped_ok {d : Nat} {σ : zSt} {K : Option Value → zSt → Prop} (hI : zQI (kR 24 26) σ.2.2) (hK : K (some (.int (σ.1 24 2))) σ) : zSp zx (d + 1) mX0_dropped [.ref 24] σ K := by
  refine ⟨⟨by decide, Nat.le_of_ble_eq_true rfl⟩, fun V hV => ?_⟩
  refine zq (σ := σ) hV hI rfl 3 ?_
  show K (some (.int (σ.1 24 2))) σ
  exact hK
set_option maxRecDepth 8000 in
set_option maxHeartbeats 4000000 in
theorem isFinger_ok {d : Nat} {σ : zSt} {K : Option Value → zSt → Prop} {v : Int32} {m : Nat} (hI : zQI (kR 0 30) σ.2.2) (hs : σ.1 4 2 = nI m) (hm : m ≤ 16) (h1 : zBt 0 (m - 1) v → K (some (.int 1)) σ) (h0 : ¬ zBt 0 (m - 1) v → K (some (.int 0)) σ) : zSp zx (d + 2) mX8_isFinger [.ref 0, .int v] σ K := by
  refine ⟨⟨by decide, Nat.le_of_ble_eq_true rfl⟩, fun V hV => ?_⟩
  have hni := nI_toInt (show m < 2 ^ 31 by omega)
  refine zq (σ := σ) hV hI rfl 2 ?_
  show (v < 0 → V 19 [(0, .ref 0), (1, .int v)] [] σ) ∧ (¬ v < 0 → V 4 [(0, .ref 0), (1, .int v)] [] σ)
  refine ⟨fun h_1 => ?_, fun h_1 => ?_⟩
  · skip
    refine zq (σ := σ) hV hI rfl 2 ?_
    show ((0 : Int32) = 0 ∨ (0 : Int32) = 1) ∧ K (some (.int 0)) σ
    refine ⟨by decide, ?_⟩
    refine h0 (by
      simp only [zlt, zle, hs, hni] at h_1
      unfold zBt
      simp at h_1 ⊢
      omega)
  · skip
    refine zq (σ := σ) hV hI rfl 4 ?_
    show zSp _ _ 6 [.ref 4] σ (fun r σ' => σ'.2.2.2 = σ.2.2.2 + zAl 6 → V 12 [(0, .ref 0), (1, .int v)] (r.toList ++ [.int v]) σ')
    refine hsize_4 (zR_of hI rfl rfl) (fun _ => ?_)
    refine zq (σ := σ) hV hI rfl 1 ?_
    show ((σ.1 4 2) ≤ v → V 19 [(0, .ref 0), (1, .int v)] [] σ) ∧ (¬ (σ.1 4 2) ≤ v → V 15 [(0, .ref 0), (1, .int v)] [] σ)
    refine ⟨fun h_12 => ?_, fun h_12 => ?_⟩
    · skip
      refine zq (σ := σ) hV hI rfl 2 ?_
      show ((0 : Int32) = 0 ∨ (0 : Int32) = 1) ∧ K (some (.int 0)) σ
      refine ⟨by decide, ?_⟩
      refine h0 (by
        simp only [zlt, zle, hs, hni] at h_1 h_12
        unfold zBt
        simp at h_1 h_12 ⊢
        omega)
    · skip
      refine zq (σ := σ) hV hI rfl 3 ?_
      show ((1 : Int32) = 0 ∨ (1 : Int32) = 1) ∧ K (some (.int 1)) σ
      refine ⟨by decide, ?_⟩
      refine h1 (by
        simp only [zlt, zle, hs, hni] at h_1 h_12
        unfold zBt
        simp at h_1 h_12 ⊢
        omega)
set_option maxRecDepth 8000 in
set_option maxHeartbeats 4000000 in
theorem isHeldBy_4 {d : Nat} {σ : zSt} {K : Option Value → zSt → Prop} {n m : Nat} (hI : zQI (kR 0 30) σ.2.2) (hn : σ.1 1 2 = nI n) (hn10 : n ≤ 10) (hs : σ.1 4 2 = nI m) (hm : m ≤ 8) (hE : ∀ i, i < m → ∃ e, σ.1 5 i = nI e ∧ e < n) (h1 : ∀ τ, zOnly zfW σ τ → zHo n (σ.1 2) (σ.1 3) (σ.1 0 9) (σ.1 5) (σ.1 6) m → K (some (.int 1)) τ) (h0 : ∀ τ, zOnly zfW σ τ → ¬ zHo n (σ.1 2) (σ.1 3) (σ.1 0 9) (σ.1 5) (σ.1 6) m → K (some (.int 0)) τ) : zSp zx (d + 4) mX8_isHeldBy [.ref 0, .ref 4] σ K := by
  refine ⟨⟨by decide, Nat.le_of_ble_eq_true rfl⟩, fun V hV => ?_⟩
  refine zq (σ := σ) hV hI rfl 8 ?_
  show zSp _ _ 46 [.ref 10, .ref 4, .ref 1, .int (σ.1 0 9)] σ (fun r σ' => σ'.2.2.2 = σ.2.2.2 + zAl 46 → V 16 [(0, .ref 0), (1, .ref 4)] (r.toList ++ []) σ')
  refine press_4 (zR_of hI rfl rfl) hn hn10 hs hm hE (fun τ ht h10 hT _ => ?_)
  have hIt := zQI_eq hI ht.2.2
  have hnt : τ.2.2.2 = σ.2.2.2 := congrArg Prod.snd ht.2.2
  refine zq (σ := τ) hV hIt hnt 3 ?_
  show zSp _ _ 48 [.ref 10] τ (fun r σ' => σ'.2.2.2 = τ.2.2.2 + zAl 48 → V 23 [(0, .ref 0), (1, .ref 4)] (r.toList ++ []) σ')
  refine spread_ok (zR_of hIt rfl rfl) (m := zMl (σ.1 0 9) m) h10 (zMl_le hm) (fun υ hu hq _ => ?_) (fun υ hu hq _ => ?_) (fun υ u v hu hq j4 j5 j6 _ => ?_)
  · skip
    have hto : zOnly zfW σ υ := (ht.wk zfT_W).tr (hu.wk zfJ_W)
    have hIu := zQI_eq hI hto.2.2
    have hnu : υ.2.2.2 = σ.2.2.2 := congrArg Prod.snd hto.2.2
    refine zq (σ := υ) hV hIu hnu 2 ?_
    show (¬ (2 : Int32) = 2 → V 31 [(0, .ref 0), (1, .ref 4)] [] υ) ∧ (¬ (¬ (2 : Int32) = 2) → V 27 [(0, .ref 0), (1, .ref 4)] [] υ)
    refine ⟨fun hc => absurd hc (by decide), fun _ => ?_⟩
    refine zq (σ := υ) hV hIu hnu 3 ?_
    show ((1 : Int32) = 0 ∨ (1 : Int32) = 1) ∧ K (some (.int 1)) υ
    refine ⟨by decide, ?_⟩
    exact h1 υ hto ((zHold_congr (zTok_l hT)).mp hq)
  · skip
    have hto : zOnly zfW σ υ := (ht.wk zfT_W).tr (hu.wk zfJ_W)
    have hIu := zQI_eq hI hto.2.2
    have hnu : υ.2.2.2 = σ.2.2.2 := congrArg Prod.snd hto.2.2
    refine zq (σ := υ) hV hIu hnu 2 ?_
    show (¬ (0 : Int32) = 2 → V 31 [(0, .ref 0), (1, .ref 4)] [] υ) ∧ (¬ (¬ (0 : Int32) = 2) → V 27 [(0, .ref 0), (1, .ref 4)] [] υ)
    refine ⟨fun _ => ?_, fun hc => absurd (by decide) hc⟩
    refine zq (σ := υ) hV hIu hnu 2 ?_
    show ((0 : Int32) = 0 ∨ (0 : Int32) = 1) ∧ K (some (.int 0)) υ
    refine ⟨by decide, ?_⟩
    exact h0 υ hto (fun q => by
      obtain ⟨⟨u, v, a, b, c⟩, _⟩ := (zHold_congr (zTok_l hT)).mpr q
      exact hq u v a b c)
  · skip
    have hto : zOnly zfW σ υ := (ht.wk zfT_W).tr (hu.wk zfJ_W)
    have hIu := zQI_eq hI hto.2.2
    have hnu : υ.2.2.2 = σ.2.2.2 := congrArg Prod.snd hto.2.2
    cases hbo : (zBe (zA11 τ) (zA12 τ) (zA13 τ) (zMl (σ.1 0 9) m) u v || zAe (zA11 τ) (zA12 τ) (zA13 τ) (zMl (σ.1 0 9) m) u v)
    · skip
      refine zq (σ := υ) hV hIu hnu 2 ?_
      show (¬ (0 : Int32) = 2 → V 31 [(0, .ref 0), (1, .ref 4)] [] υ) ∧ (¬ (¬ (0 : Int32) = 2) → V 27 [(0, .ref 0), (1, .ref 4)] [] υ)
      refine ⟨fun _ => ?_, fun hc => absurd (by decide) hc⟩
      refine zq (σ := υ) hV hIu hnu 2 ?_
      show ((0 : Int32) = 0 ∨ (0 : Int32) = 1) ∧ K (some (.int 0)) υ
      refine ⟨by decide, ?_⟩
      exact h0 υ hto (fun q => zHold_nF ((zHold_congr (zTok_l hT)).mpr q) hq)
    · skip
      refine zq (σ := υ) hV hIu hnu 2 ?_
      show (¬ (1 : Int32) = 2 → V 31 [(0, .ref 0), (1, .ref 4)] [] υ) ∧ (¬ (¬ (1 : Int32) = 2) → V 27 [(0, .ref 0), (1, .ref 4)] [] υ)
      refine ⟨fun _ => ?_, fun hc => absurd (by decide) hc⟩
      refine zq (σ := υ) hV hIu hnu 2 ?_
      show ((0 : Int32) = 0 ∨ (0 : Int32) = 1) ∧ K (some (.int 0)) υ
      refine ⟨by decide, ?_⟩
      exact h0 υ hto (fun q => zHold_nF ((zHold_congr (zTok_l hT)).mpr q) hq)
set_option maxRecDepth 8000 in
set_option maxHeartbeats 4000000 in
theorem isHeldBy_7 {d : Nat} {σ : zSt} {K : Option Value → zSt → Prop} {n m : Nat} (hI : zQI (kR 0 30) σ.2.2) (hn : σ.1 1 2 = nI n) (hn10 : n ≤ 10) (hs : σ.1 7 2 = nI m) (hm : m ≤ 8) (hE : ∀ i, i < m → ∃ e, σ.1 8 i = nI e ∧ e < n) (h1 : ∀ τ, zOnly zfW σ τ → zHo n (σ.1 2) (σ.1 3) (σ.1 0 9) (σ.1 8) (σ.1 9) m → K (some (.int 1)) τ) (h0 : ∀ τ, zOnly zfW σ τ → ¬ zHo n (σ.1 2) (σ.1 3) (σ.1 0 9) (σ.1 8) (σ.1 9) m → K (some (.int 0)) τ) : zSp zx (d + 4) mX8_isHeldBy [.ref 0, .ref 7] σ K := by
  refine ⟨⟨by decide, Nat.le_of_ble_eq_true rfl⟩, fun V hV => ?_⟩
  refine zq (σ := σ) hV hI rfl 8 ?_
  show zSp _ _ 46 [.ref 10, .ref 7, .ref 1, .int (σ.1 0 9)] σ (fun r σ' => σ'.2.2.2 = σ.2.2.2 + zAl 46 → V 16 [(0, .ref 0), (1, .ref 7)] (r.toList ++ []) σ')
  refine press_7 (zR_of hI rfl rfl) hn hn10 hs hm hE (fun τ ht h10 hT _ => ?_)
  have hIt := zQI_eq hI ht.2.2
  have hnt : τ.2.2.2 = σ.2.2.2 := congrArg Prod.snd ht.2.2
  refine zq (σ := τ) hV hIt hnt 3 ?_
  show zSp _ _ 48 [.ref 10] τ (fun r σ' => σ'.2.2.2 = τ.2.2.2 + zAl 48 → V 23 [(0, .ref 0), (1, .ref 7)] (r.toList ++ []) σ')
  refine spread_ok (zR_of hIt rfl rfl) (m := zMl (σ.1 0 9) m) h10 (zMl_le hm) (fun υ hu hq _ => ?_) (fun υ hu hq _ => ?_) (fun υ u v hu hq j4 j5 j6 _ => ?_)
  · skip
    have hto : zOnly zfW σ υ := (ht.wk zfT_W).tr (hu.wk zfJ_W)
    have hIu := zQI_eq hI hto.2.2
    have hnu : υ.2.2.2 = σ.2.2.2 := congrArg Prod.snd hto.2.2
    refine zq (σ := υ) hV hIu hnu 2 ?_
    show (¬ (2 : Int32) = 2 → V 31 [(0, .ref 0), (1, .ref 7)] [] υ) ∧ (¬ (¬ (2 : Int32) = 2) → V 27 [(0, .ref 0), (1, .ref 7)] [] υ)
    refine ⟨fun hc => absurd hc (by decide), fun _ => ?_⟩
    refine zq (σ := υ) hV hIu hnu 3 ?_
    show ((1 : Int32) = 0 ∨ (1 : Int32) = 1) ∧ K (some (.int 1)) υ
    refine ⟨by decide, ?_⟩
    exact h1 υ hto ((zHold_congr (zTok_l hT)).mp hq)
  · skip
    have hto : zOnly zfW σ υ := (ht.wk zfT_W).tr (hu.wk zfJ_W)
    have hIu := zQI_eq hI hto.2.2
    have hnu : υ.2.2.2 = σ.2.2.2 := congrArg Prod.snd hto.2.2
    refine zq (σ := υ) hV hIu hnu 2 ?_
    show (¬ (0 : Int32) = 2 → V 31 [(0, .ref 0), (1, .ref 7)] [] υ) ∧ (¬ (¬ (0 : Int32) = 2) → V 27 [(0, .ref 0), (1, .ref 7)] [] υ)
    refine ⟨fun _ => ?_, fun hc => absurd (by decide) hc⟩
    refine zq (σ := υ) hV hIu hnu 2 ?_
    show ((0 : Int32) = 0 ∨ (0 : Int32) = 1) ∧ K (some (.int 0)) υ
    refine ⟨by decide, ?_⟩
    exact h0 υ hto (fun q => by
      obtain ⟨⟨u, v, a, b, c⟩, _⟩ := (zHold_congr (zTok_l hT)).mpr q
      exact hq u v a b c)
  · skip
    have hto : zOnly zfW σ υ := (ht.wk zfT_W).tr (hu.wk zfJ_W)
    have hIu := zQI_eq hI hto.2.2
    have hnu : υ.2.2.2 = σ.2.2.2 := congrArg Prod.snd hto.2.2
    cases hbo : (zBe (zA11 τ) (zA12 τ) (zA13 τ) (zMl (σ.1 0 9) m) u v || zAe (zA11 τ) (zA12 τ) (zA13 τ) (zMl (σ.1 0 9) m) u v)
    · skip
      refine zq (σ := υ) hV hIu hnu 2 ?_
      show (¬ (0 : Int32) = 2 → V 31 [(0, .ref 0), (1, .ref 7)] [] υ) ∧ (¬ (¬ (0 : Int32) = 2) → V 27 [(0, .ref 0), (1, .ref 7)] [] υ)
      refine ⟨fun _ => ?_, fun hc => absurd (by decide) hc⟩
      refine zq (σ := υ) hV hIu hnu 2 ?_
      show ((0 : Int32) = 0 ∨ (0 : Int32) = 1) ∧ K (some (.int 0)) υ
      refine ⟨by decide, ?_⟩
      exact h0 υ hto (fun q => zHold_nF ((zHold_congr (zTok_l hT)).mpr q) hq)
    · skip
      refine zq (σ := υ) hV hIu hnu 2 ?_
      show (¬ (1 : Int32) = 2 → V 31 [(0, .ref 0), (1, .ref 7)] [] υ) ∧ (¬ (¬ (1 : Int32) = 2) → V 27 [(0, .ref 0), (1, .ref 7)] [] υ)
      refine ⟨fun _ => ?_, fun hc => absurd (by decide) hc⟩
      refine zq (σ := υ) hV hIu hnu 2 ?_
      show ((0 : Int32) = 0 ∨ (0 : Int32) = 1) ∧ K (some (.int 0)) υ
      refine ⟨by decide, ?_⟩
      exact h0 υ hto (fun q => zHold_nF ((zHold_congr (zTok_l hT)).mpr q) hq)
set_option maxRecDepth 8000 in
set_option maxHeartbeats 4000000 in
theorem holds_C {d : Nat} {σ : zSt} {K : Option Value → zSt → Prop} {n m : Nat} (hI : zQI (kR 0 30) σ.2.2) (hn : σ.1 1 2 = nI n) (hn10 : n ≤ 10) (hs : σ.1 4 2 = nI m) (hm : m ≤ 8) (hE : ∀ i, i < m → ∃ e, σ.1 5 i = nI e ∧ e < n) (h1 : ∀ τ, zOnly zfW σ τ → zHo n (σ.1 2) (σ.1 3) (σ.1 0 9) (σ.1 5) (σ.1 6) m → K (some (.int 1)) τ) (h0 : ∀ τ, zOnly zfW σ τ → ¬ zHo n (σ.1 2) (σ.1 3) (σ.1 0 9) (σ.1 5) (σ.1 6) m → K (some (.int 0)) τ) : zSp zx (d + 5) mX8_holds [.ref 0] σ K := by
  refine ⟨⟨by decide, Nat.le_of_ble_eq_true rfl⟩, fun V hV => ?_⟩
  refine zq (σ := σ) hV hI rfl 4 ?_
  show zSp _ _ 65 [.ref 0, .ref 4] σ (fun r σ' => σ'.2.2.2 = σ.2.2.2 + zAl 65 → V 8 [(0, .ref 0)] (r.toList ++ []) σ')
  refine isHeldBy_4 (zR_of hI rfl rfl) hn hn10 hs hm hE (fun υ hu hq _ => ?_) (fun υ hu hq _ => ?_)
  · skip
    have hIu := zQI_eq hI hu.2.2
    have hnu : υ.2.2.2 = σ.2.2.2 := (congrArg Prod.snd hu.2.2).trans rfl
    refine zq (σ := υ) hV hIu hnu 1 ?_
    show ((1 : Int32) = 0 → V 15 [(0, .ref 0)] [] υ) ∧ (¬ (1 : Int32) = 0 → V 11 [(0, .ref 0)] [] υ)
    refine ⟨fun hc => absurd hc (by decide), fun _ => ?_⟩
    refine zq (σ := υ) hV hIu hnu 3 ?_
    show K (some (.int 1)) υ
    exact h1 υ hu hq
  · skip
    have hIu := zQI_eq hI hu.2.2
    have hnu : υ.2.2.2 = σ.2.2.2 := (congrArg Prod.snd hu.2.2).trans rfl
    refine zq (σ := υ) hV hIu hnu 1 ?_
    show ((0 : Int32) = 0 → V 15 [(0, .ref 0)] [] υ) ∧ (¬ (0 : Int32) = 0 → V 11 [(0, .ref 0)] [] υ)
    refine ⟨fun _ => ?_, fun hc => absurd (by decide) hc⟩
    refine zq (σ := υ) hV hIu hnu 2 ?_
    show K (some (.int 0)) υ
    exact h0 υ hu hq
def zRf (c : Int32) : Int64 := -9223372036854775808 - Int32.toInt64 c
set_option maxRecDepth 8000 in
set_option maxHeartbeats 4000000 in
theorem refusal_ok {d : Nat} {σ : zSt} {K : Option Value → zSt → Prop} {c : Int32} (hK : K (some (.long (zRf c))) σ) : zSp zx (d + 1) mX8_refusal [.int c] σ K := by
  refine ⟨⟨by decide, Nat.le_of_ble_eq_true rfl⟩, fun V hV => ?_⟩
  refine zq (σ := σ) hV zQI_0 rfl 5 ?_
  show K (some (.long ((-9223372036854775808) - (Int32.toInt64 c)))) σ
  exact hK
set_option maxRecDepth 8000 in
set_option maxHeartbeats 4000000 in
theorem push_C {d : Nat} {σ : zSt} {K : Option Value → zSt → Prop} {t w : Int32} {n m : Nat} (hI : zQI (kR 0 30) σ.2.2) (hn : σ.1 1 2 = nI n) (hn10 : n ≤ 10) (hs : σ.1 4 2 = nI m) (hm : m ≤ 8) (hE : ∀ i, i < m → ∃ e, σ.1 5 i = nI e ∧ e < n) (hBad : ∀ τ, zOnly zfW σ τ → ¬ (zBt 0 (zMl (σ.1 0 9) m - 1) t ∧ zBt 0 2 w) → K (some (.long (zRf (-2)))) τ) (hOk : ∀ τ k, zOnly zfW σ τ → t = nI k → k < zMl (σ.1 0 9) m → zBt 0 2 w → K (some (.long (Int32.toInt64 (if w = 0 then zT1 n (σ.1 2) (σ.1 3) (σ.1 0 9) (σ.1 5) k else if w = 1 then zT2 n (σ.1 2) (σ.1 3) (σ.1 0 9) (σ.1 5) k else zT3 n (σ.1 2) (σ.1 3) (σ.1 0 9) (σ.1 5) (σ.1 6) k)))) τ) : zSp zx (d + 4) mX8_push [.ref 0, .int t, .int w] σ K := by
  refine ⟨⟨by decide, Nat.le_of_ble_eq_true rfl⟩, fun V hV => ?_⟩
  refine zq (σ := σ) hV hI rfl 9 ?_
  show zSp _ _ 46 [.ref 10, .ref 4, .ref 1, .int (σ.1 0 9)] σ (fun r σ' => σ'.2.2.2 = σ.2.2.2 + zAl 46 → V 19 [(0, .ref 0), (1, .int t), (2, .int w)] (r.toList ++ []) σ')
  refine press_4 (zR_of hI rfl rfl) hn hn10 hs hm hE (fun τ ht h10 hT _ => ?_)
  have hIt := zQI_eq hI ht.2.2
  have hnt : τ.2.2.2 = σ.2.2.2 := congrArg Prod.snd ht.2.2
  refine zq (σ := τ) hV hIt hnt 2 ?_
  show (t < 0 → V 41 [(0, .ref 0), (1, .int t), (2, .int w)] [] τ) ∧ (¬ t < 0 → V 23 [(0, .ref 0), (1, .int t), (2, .int w)] [] τ)
  refine ⟨fun h_20 => ?_, fun h_20 => ?_⟩
  · skip
    refine zq (σ := τ) hV hIt hnt 2 ?_
    show zSp _ _ 72 [.int (-2)] τ (fun r σ' => σ'.2.2.2 = τ.2.2.2 + zAl 72 → V 46 [(0, .ref 0), (1, .int t), (2, .int w)] (r.toList ++ []) σ')
    refine refusal_ok  (fun _ => ?_)
    refine zq (σ := τ) hV hIt hnt 1 ?_
    show K (some (.long (zRf (-2)))) τ
    have hto := ht.wk zfT_W
    refine hBad τ hto (fun q => ?_)
    obtain ⟨⟨q1, q2⟩, q3⟩ := q
    have hml := @zMl_le (σ.1 0 9) m hm
    simp only [zlt, zle, h10, nI_toInt (show zMl (σ.1 0 9) m < 2 ^ 31 by omega)] at h_20
    simp at h_20
    omega
  · skip
    refine zq (σ := τ) hV hIt hnt 4 ?_
    show zSp _ _ 44 [.ref 10] τ (fun r σ' => σ'.2.2.2 = τ.2.2.2 + zAl 44 → V 31 [(0, .ref 0), (1, .int t), (2, .int w)] (r.toList ++ [.int t]) σ')
    refine tsize_ok (zR_of hIt rfl rfl) (fun _ => ?_)
    refine zq (σ := τ) hV hIt hnt 1 ?_
    show ((τ.1 10 3) ≤ t → V 41 [(0, .ref 0), (1, .int t), (2, .int w)] [] τ) ∧ (¬ (τ.1 10 3) ≤ t → V 34 [(0, .ref 0), (1, .int t), (2, .int w)] [] τ)
    refine ⟨fun h_31 => ?_, fun h_31 => ?_⟩
    · skip
      refine zq (σ := τ) hV hIt hnt 2 ?_
      show zSp _ _ 72 [.int (-2)] τ (fun r σ' => σ'.2.2.2 = τ.2.2.2 + zAl 72 → V 46 [(0, .ref 0), (1, .int t), (2, .int w)] (r.toList ++ []) σ')
      refine refusal_ok  (fun _ => ?_)
      refine zq (σ := τ) hV hIt hnt 1 ?_
      show K (some (.long (zRf (-2)))) τ
      have hto := ht.wk zfT_W
      refine hBad τ hto (fun q => ?_)
      obtain ⟨⟨q1, q2⟩, q3⟩ := q
      have hml := @zMl_le (σ.1 0 9) m hm
      simp only [zlt, zle, h10, nI_toInt (show zMl (σ.1 0 9) m < 2 ^ 31 by omega)] at h_20 h_31
      simp at h_20 h_31
      omega
    · skip
      refine zq (σ := τ) hV hIt hnt 2 ?_
      show zSp _ _ 74 [.int w] τ (fun r σ' => σ'.2.2.2 = τ.2.2.2 + zAl 74 → V 38 [(0, .ref 0), (1, .int t), (2, .int w)] (r.toList ++ []) σ')
      refine isTriplePart_ok (fun hb1 _ => ?_) (fun hb1 _ => ?_)
      · skip
        refine zq (σ := τ) hV hIt hnt 1 ?_
        show (¬ (1 : Int32) = 0 → V 47 [(0, .ref 0), (1, .int t), (2, .int w)] [] τ) ∧ (¬ (¬ (1 : Int32) = 0) → V 41 [(0, .ref 0), (1, .int t), (2, .int w)] [] τ)
        refine ⟨fun _ => ?_, fun hc => absurd (by decide) hc⟩
        refine zq (σ := τ) hV hIt hnt 5 ?_
        show zSp _ _ 45 [.ref 10, .int t, .int w] τ (fun r σ' => σ'.2.2.2 = τ.2.2.2 + zAl 45 → V 56 [(0, .ref 0), (1, .int t), (2, .int w)] (r.toList ++ []) σ')
        obtain ⟨k, hk, hk2, _⟩ := zNat (x := t) (by simp only [zlt] at h_20; simp at h_20; omega)
        have hkm : k < zMl (σ.1 0 9) m := by rw [h10, hk, nI_leI (by have := @zMl_le (σ.1 0 9) m hm; omega) (by omega)] at h_31; omega
        have hml := @zMl_le (σ.1 0 9) m hm
        refine tpart_ok (zR_of hIt rfl rfl) hk (by omega) (fun _ => ?_)
        rw [(hT k hkm).1, (hT k hkm).2.1, (hT k hkm).2.2]
        refine zq (σ := τ) hV hIt hnt 2 ?_
        show K (some (.long (Int32.toInt64 (if w = 0 then zT1 n (σ.1 2) (σ.1 3) (σ.1 0 9) (σ.1 5) k else if w = 1 then zT2 n (σ.1 2) (σ.1 3) (σ.1 0 9) (σ.1 5) k else zT3 n (σ.1 2) (σ.1 3) (σ.1 0 9) (σ.1 5) (σ.1 6) k)))) τ
        have hto := ht.wk zfT_W
        exact hOk τ k hto hk hkm hb1
      · skip
        refine zq (σ := τ) hV hIt hnt 1 ?_
        show (¬ (0 : Int32) = 0 → V 47 [(0, .ref 0), (1, .int t), (2, .int w)] [] τ) ∧ (¬ (¬ (0 : Int32) = 0) → V 41 [(0, .ref 0), (1, .int t), (2, .int w)] [] τ)
        refine ⟨fun hc => absurd hc (by decide), fun _ => ?_⟩
        refine zq (σ := τ) hV hIt hnt 2 ?_
        show zSp _ _ 72 [.int (-2)] τ (fun r σ' => σ'.2.2.2 = τ.2.2.2 + zAl 72 → V 46 [(0, .ref 0), (1, .int t), (2, .int w)] (r.toList ++ []) σ')
        refine refusal_ok  (fun _ => ?_)
        refine zq (σ := τ) hV hIt hnt 1 ?_
        show K (some (.long (zRf (-2)))) τ
        have hto := ht.wk zfT_W
        refine hBad τ hto (fun q => ?_)
        obtain ⟨⟨q1, q2⟩, q3⟩ := q
        exact hb1 q3
set_option maxRecDepth 8000 in
set_option maxHeartbeats 4000000 in
theorem witness_C {d : Nat} {σ : zSt} {K : Option Value → zSt → Prop} {w : Int32} {n m : Nat} (hI : zQI (kR 0 30) σ.2.2) (hn : σ.1 1 2 = nI n) (hn10 : n ≤ 10) (hs : σ.1 4 2 = nI m) (hm : m ≤ 8) (hE : ∀ i, i < m → ∃ e, σ.1 5 i = nI e ∧ e < n) (hBad : ¬ zBt 0 2 w → K (some (.long (zRf (-2)))) σ)
    (hVal : ∀ τ u v, zOnly zfW σ τ → zBt 0 2 w → zFst (zl (zT1 n (σ.1 2) (σ.1 3) (σ.1 0 9) (σ.1 5))) (zl (zT2 n (σ.1 2) (σ.1 3) (σ.1 0 9) (σ.1 5))) (zl (zT3 n (σ.1 2) (σ.1 3) (σ.1 0 9) (σ.1 5) (σ.1 6))) (zMl (σ.1 0 9) m) u v → (zBe (zl (zT1 n (σ.1 2) (σ.1 3) (σ.1 0 9) (σ.1 5))) (zl (zT2 n (σ.1 2) (σ.1 3) (σ.1 0 9) (σ.1 5))) (zl (zT3 n (σ.1 2) (σ.1 3) (σ.1 0 9) (σ.1 5) (σ.1 6))) (zMl (σ.1 0 9) m) u v || zAe (zl (zT1 n (σ.1 2) (σ.1 3) (σ.1 0 9) (σ.1 5))) (zl (zT2 n (σ.1 2) (σ.1 3) (σ.1 0 9) (σ.1 5))) (zl (zT3 n (σ.1 2) (σ.1 3) (σ.1 0 9) (σ.1 5) (σ.1 6))) (zMl (σ.1 0 9) m) u v) = true → K (some (.long (if w = 0 then zsn (zBe (zl (zT1 n (σ.1 2) (σ.1 3) (σ.1 0 9) (σ.1 5))) (zl (zT2 n (σ.1 2) (σ.1 3) (σ.1 0 9) (σ.1 5))) (zl (zT3 n (σ.1 2) (σ.1 3) (σ.1 0 9) (σ.1 5) (σ.1 6))) (zMl (σ.1 0 9) m) u v) (zX1 (zl (zT1 n (σ.1 2) (σ.1 3) (σ.1 0 9) (σ.1 5))) (zl (zT2 n (σ.1 2) (σ.1 3) (σ.1 0 9) (σ.1 5))) (zl (zT3 n (σ.1 2) (σ.1 3) (σ.1 0 9) (σ.1 5) (σ.1 6))) u v) else if w = 1 then zsn (zBe (zl (zT1 n (σ.1 2) (σ.1 3) (σ.1 0 9) (σ.1 5))) (zl (zT2 n (σ.1 2) (σ.1 3) (σ.1 0 9) (σ.1 5))) (zl (zT3 n (σ.1 2) (σ.1 3) (σ.1 0 9) (σ.1 5) (σ.1 6))) (zMl (σ.1 0 9) m) u v) (zX2 (zl (zT1 n (σ.1 2) (σ.1 3) (σ.1 0 9) (σ.1 5))) (zl (zT2 n (σ.1 2) (σ.1 3) (σ.1 0 9) (σ.1 5))) (zl (zT3 n (σ.1 2) (σ.1 3) (σ.1 0 9) (σ.1 5) (σ.1 6))) u v) else zsn (zBe (zl (zT1 n (σ.1 2) (σ.1 3) (σ.1 0 9) (σ.1 5))) (zl (zT2 n (σ.1 2) (σ.1 3) (σ.1 0 9) (σ.1 5))) (zl (zT3 n (σ.1 2) (σ.1 3) (σ.1 0 9) (σ.1 5) (σ.1 6))) (zMl (σ.1 0 9) m) u v) (zX3 (zl (zT1 n (σ.1 2) (σ.1 3) (σ.1 0 9) (σ.1 5))) (zl (zT2 n (σ.1 2) (σ.1 3) (σ.1 0 9) (σ.1 5))) (zl (zT3 n (σ.1 2) (σ.1 3) (σ.1 0 9) (σ.1 5) (σ.1 6))) u v)))) τ)
    (hNo : ∀ τ, zOnly zfW σ τ → zBt 0 2 w → (∀ u v, zFst (zl (zT1 n (σ.1 2) (σ.1 3) (σ.1 0 9) (σ.1 5))) (zl (zT2 n (σ.1 2) (σ.1 3) (σ.1 0 9) (σ.1 5))) (zl (zT3 n (σ.1 2) (σ.1 3) (σ.1 0 9) (σ.1 5) (σ.1 6))) (zMl (σ.1 0 9) m) u v → (zBe (zl (zT1 n (σ.1 2) (σ.1 3) (σ.1 0 9) (σ.1 5))) (zl (zT2 n (σ.1 2) (σ.1 3) (σ.1 0 9) (σ.1 5))) (zl (zT3 n (σ.1 2) (σ.1 3) (σ.1 0 9) (σ.1 5) (σ.1 6))) (zMl (σ.1 0 9) m) u v || zAe (zl (zT1 n (σ.1 2) (σ.1 3) (σ.1 0 9) (σ.1 5))) (zl (zT2 n (σ.1 2) (σ.1 3) (σ.1 0 9) (σ.1 5))) (zl (zT3 n (σ.1 2) (σ.1 3) (σ.1 0 9) (σ.1 5) (σ.1 6))) (zMl (σ.1 0 9) m) u v) = false) → K (some (.long (zRf (-3)))) τ) : zSp zx (d + 4) mX8_witness [.ref 0, .int w] σ K := by
  refine ⟨⟨by decide, Nat.le_of_ble_eq_true rfl⟩, fun V hV => ?_⟩
  refine zq (σ := σ) hV hI rfl 2 ?_
  show zSp _ _ 74 [.int w] σ (fun r σ' => σ'.2.2.2 = σ.2.2.2 + zAl 74 → V 4 [(0, .ref 0), (1, .int w)] (r.toList ++ []) σ')
  refine isTriplePart_ok (fun hb1 _ => ?_) (fun hb1 _ => ?_)
  · skip
    refine zq (σ := σ) hV hI rfl 1 ?_
    show (¬ (1 : Int32) = 0 → V 13 [(0, .ref 0), (1, .int w)] [] σ) ∧ (¬ (¬ (1 : Int32) = 0) → V 7 [(0, .ref 0), (1, .int w)] [] σ)
    refine ⟨fun _ => ?_, fun hc => absurd (by decide) hc⟩
    refine zq (σ := σ) hV hI rfl 9 ?_
    show zSp _ _ 46 [.ref 10, .ref 4, .ref 1, .int (σ.1 0 9)] σ (fun r σ' => σ'.2.2.2 = σ.2.2.2 + zAl 46 → V 32 [(0, .ref 0), (1, .int w)] (r.toList ++ []) σ')
    refine press_4 (zR_of hI rfl rfl) hn hn10 hs hm hE (fun τ ht h10 hT _ => ?_)
    have hIt := zQI_eq hI ht.2.2
    have hnt : τ.2.2.2 = σ.2.2.2 := congrArg Prod.snd ht.2.2
    refine zq (σ := τ) hV hIt hnt 3 ?_
    show zSp _ _ 48 [.ref 10] τ (fun r σ' => σ'.2.2.2 = τ.2.2.2 + zAl 48 → V 39 [(0, .ref 0), (1, .int w)] (r.toList ++ []) σ')
    refine spread_ok (zR_of hIt rfl rfl) (m := zMl (σ.1 0 9) m) h10 (zMl_le hm) (fun υ hu hq _ => ?_) (fun υ hu hq _ => ?_) (fun υ u v hu hq j4 j5 j6 _ => ?_)
    · skip
      have hto : zOnly zfW σ υ := (ht.wk zfT_W).tr (hu.wk zfJ_W)
      have hIu := zQI_eq hI hto.2.2
      have hnu : υ.2.2.2 = σ.2.2.2 := congrArg Prod.snd hto.2.2
      refine zq (σ := υ) hV hIu hnu 2 ?_
      show (¬ (2 : Int32) = 1 → V 54 [(0, .ref 0), (1, .int w)] [] υ) ∧ (¬ (¬ (2 : Int32) = 1) → V 43 [(0, .ref 0), (1, .int w)] [] υ)
      refine ⟨fun _ => ?_, fun hc => absurd (by decide) hc⟩
      refine zq (σ := υ) hV hIu hnu 2 ?_
      show zSp _ _ 72 [.int (-3)] υ (fun r σ' => σ'.2.2.2 = υ.2.2.2 + zAl 72 → V 59 [(0, .ref 0), (1, .int w)] (r.toList ++ []) σ')
      refine refusal_ok  (fun _ => ?_)
      refine zq (σ := υ) hV hIu hnu 1 ?_
      show K (some (.long (zRf (-3)))) υ
      refine hNo υ hto hb1 (fun u1 v1 q => ?_)
      have q2 := (zFst_congr (zTok_l hT)).mpr q
      exact (zHold_nF hq q2).elim
    · skip
      have hto : zOnly zfW σ υ := (ht.wk zfT_W).tr (hu.wk zfJ_W)
      have hIu := zQI_eq hI hto.2.2
      have hnu : υ.2.2.2 = σ.2.2.2 := congrArg Prod.snd hto.2.2
      refine zq (σ := υ) hV hIu hnu 2 ?_
      show (¬ (0 : Int32) = 1 → V 54 [(0, .ref 0), (1, .int w)] [] υ) ∧ (¬ (¬ (0 : Int32) = 1) → V 43 [(0, .ref 0), (1, .int w)] [] υ)
      refine ⟨fun _ => ?_, fun hc => absurd (by decide) hc⟩
      refine zq (σ := υ) hV hIu hnu 2 ?_
      show zSp _ _ 72 [.int (-3)] υ (fun r σ' => σ'.2.2.2 = υ.2.2.2 + zAl 72 → V 59 [(0, .ref 0), (1, .int w)] (r.toList ++ []) σ')
      refine refusal_ok  (fun _ => ?_)
      refine zq (σ := υ) hV hIu hnu 1 ?_
      show K (some (.long (zRf (-3)))) υ
      refine hNo υ hto hb1 (fun u1 v1 q => ?_)
      have q2 := (zFst_congr (zTok_l hT)).mpr q
      exact absurd q2.1.2.2.1 (hq u1 v1 q2.1.1 q2.1.2.1)
    · skip
      have hto : zOnly zfW σ υ := (ht.wk zfT_W).tr (hu.wk zfJ_W)
      have hIu := zQI_eq hI hto.2.2
      have hnu : υ.2.2.2 = σ.2.2.2 := congrArg Prod.snd hto.2.2
      cases hbo : (zBe (zA11 τ) (zA12 τ) (zA13 τ) (zMl (σ.1 0 9) m) u v || zAe (zA11 τ) (zA12 τ) (zA13 τ) (zMl (σ.1 0 9) m) u v)
      · skip
        refine zq (σ := υ) hV hIu hnu 2 ?_
        show (¬ (0 : Int32) = 1 → V 54 [(0, .ref 0), (1, .int w)] [] υ) ∧ (¬ (¬ (0 : Int32) = 1) → V 43 [(0, .ref 0), (1, .int w)] [] υ)
        refine ⟨fun _ => ?_, fun hc => absurd (by decide) hc⟩
        refine zq (σ := υ) hV hIu hnu 2 ?_
        show zSp _ _ 72 [.int (-3)] υ (fun r σ' => σ'.2.2.2 = υ.2.2.2 + zAl 72 → V 59 [(0, .ref 0), (1, .int w)] (r.toList ++ []) σ')
        refine refusal_ok  (fun _ => ?_)
        refine zq (σ := υ) hV hIu hnu 1 ?_
        show K (some (.long (zRf (-3)))) υ
        refine hNo υ hto hb1 (fun u1 v1 q => ?_)
        have q2 := (zFst_congr (zTok_l hT)).mpr q
        obtain ⟨rfl, rfl⟩ := zFst_one hq q2
        obtain ⟨f1, f2⟩ := zBe_congr (zTok_l hT) (u := u) (v := v) (by have := hq.1.1; have := hq.1.2.1; omega) hq.1.2.1
        rw [f1, f2] at hbo
        exact hbo
      · skip
        refine zq (σ := υ) hV hIu hnu 2 ?_
        show (¬ (1 : Int32) = 1 → V 54 [(0, .ref 0), (1, .int w)] [] υ) ∧ (¬ (¬ (1 : Int32) = 1) → V 43 [(0, .ref 0), (1, .int w)] [] υ)
        refine ⟨fun hc => absurd hc (by decide), fun _ => ?_⟩
        refine zq (σ := υ) hV hIu hnu 4 ?_
        show zSp _ _ 50 [.ref 10, .int w] υ (fun r σ' => σ'.2.2.2 = υ.2.2.2 + zAl 50 → V 51 [(0, .ref 0), (1, .int w)] (r.toList ++ []) σ')
        refine tnormal_ok (zR_of hIu rfl rfl) (fun _ => ?_)
        refine zq (σ := υ) hV hIu hnu 2 ?_
        show K (some (.long (if w = 0 then υ.2.1 10 4 else if w = 1 then υ.2.1 10 5 else υ.2.1 10 6))) υ
        have hq2 := (zFst_congr (zTok_l hT)).mp hq
        obtain ⟨f1, f2⟩ := zBe_congr (zTok_l hT) (u := u) (v := v) (by have := hq.1.1; have := hq.1.2.1; omega) hq.1.2.1
        obtain ⟨x1, x2, x3⟩ := zNz_congr (zTok_l hT) (u := u) (v := v) (by have := hq.1.1; have := hq.1.2.1; omega) hq.1.2.1
        rw [f1, f2] at hbo
        rw [f1] at j4 j5 j6
        rw [x1] at j4
        rw [x2] at j5
        rw [x3] at j6
        rw [j4, j5, j6]
        exact hVal υ u v hto hb1 hq2 hbo
  · skip
    refine zq (σ := σ) hV hI rfl 1 ?_
    show (¬ (0 : Int32) = 0 → V 13 [(0, .ref 0), (1, .int w)] [] σ) ∧ (¬ (¬ (0 : Int32) = 0) → V 7 [(0, .ref 0), (1, .int w)] [] σ)
    refine ⟨fun hc => absurd hc (by decide), fun _ => ?_⟩
    refine zq (σ := σ) hV hI rfl 2 ?_
    show zSp _ _ 72 [.int (-2)] σ (fun r σ' => σ'.2.2.2 = σ.2.2.2 + zAl 72 → V 12 [(0, .ref 0), (1, .int w)] (r.toList ++ []) σ')
    refine refusal_ok  (fun _ => ?_)
    refine zq (σ := σ) hV hI rfl 1 ?_
    show K (some (.long (zRf (-2)))) σ
    exact hBad hb1
end
section
variable {zx : Nat × (Nat → Int32)}
set_option maxRecDepth 8000 in
set_option maxHeartbeats 4000000 in
theorem finger_C {d : Nat} {σ : zSt} {K : Option Value → zSt → Prop} {e k : Int32} {n m : Nat} (hI : zQI (kR 0 30) σ.2.2) (hn : σ.1 1 2 = nI n) (hn10 : n ≤ 10) (hs : σ.1 4 2 = nI m) (hm : m ≤ 8) (hBad : ¬ (zBt 0 (n - 1) e ∧ zBt 0 8 k) → K (some (.int (-2))) σ) (hFull : (zBt 0 (n - 1) e ∧ zBt 0 8 k) → m = 8 → K (some (.int (-4))) σ) (hOk : (zBt 0 (n - 1) e ∧ zBt 0 8 k) → m < 8 → K (some (.int (nI m))) (zuI (zuI (zuI σ 5 m e) 6 m k) 4 2 (nI (m + 1)))) : zSp zx (d + 4) mX8_finger [.ref 0, .int e, .int k] σ K := by
  refine ⟨⟨by decide, Nat.le_of_ble_eq_true rfl⟩, fun V hV => ?_⟩
  have hmi := nI_toInt (show m < 2 ^ 31 by omega)
  refine zq (σ := σ) hV hI rfl 4 ?_
  show zSp _ _ 77 [.ref 0, .int e, .int k] σ (fun r σ' => σ'.2.2.2 = σ.2.2.2 + zAl 77 → V 6 [(0, .ref 0), (1, .int e), (2, .int k)] (r.toList ++ []) σ')
  refine isStand_ok (zR_of hI rfl rfl) hn (by omega) (fun hb1 _ => ?_) (fun hb1 _ => ?_)
  · skip
    refine zq (σ := σ) hV hI rfl 1 ?_
    show (¬ (1 : Int32) = 0 → V 12 [(0, .ref 0), (1, .int e), (2, .int k)] [] σ) ∧ (¬ (¬ (1 : Int32) = 0) → V 9 [(0, .ref 0), (1, .int e), (2, .int k)] [] σ)
    refine ⟨fun _ => ?_, fun hc => absurd (by decide) hc⟩
    refine zq (σ := σ) hV hI rfl 3 ?_
    show zSp _ _ 6 [.ref 4] σ (fun r σ' => σ'.2.2.2 = σ.2.2.2 + zAl 6 → V 19 [(0, .ref 0), (1, .int e), (2, .int k)] (r.toList ++ []) σ')
    refine hsize_4 (zR_of hI rfl rfl) (fun _ => ?_)
    refine zq (σ := σ) hV hI rfl 2 ?_
    show ((σ.1 4 2) < 8 → V 27 [(0, .ref 0), (1, .int e), (2, .int k)] [] σ) ∧ (¬ (σ.1 4 2) < 8 → V 24 [(0, .ref 0), (1, .int e), (2, .int k)] [] σ)
    refine ⟨fun h_21 => ?_, fun h_21 => ?_⟩
    · skip
      have h8 : m < 8 := by
        simp only [zlt, hs, hmi] at h_21
        simp at h_21
        omega
      refine zq (σ := σ) hV hI rfl 5 ?_
      show zSp _ _ 10 [.ref 4, .int e, .int k] σ (fun r σ' => σ'.2.2.2 = σ.2.2.2 + zAl 10 → V 36 [(0, .ref 0), (1, .int e), (2, .int k)] (r.toList ++ []) σ')
      refine hadd_4 (zR_of hI rfl rfl) (m := m) hs (by omega) (fun _ => ?_)
      refine zq (σ := (zuI (zuI (zuI σ 5 m e) 6 m k) 4 2 (nI (m + 1)))) hV hI rfl 3 ?_
      show zSp _ _ 6 [.ref 4] (zuI (zuI (zuI σ 5 m e) 6 m k) 4 2 (nI (m + 1))) (fun r σ' => σ'.2.2.2 = (zuI (zuI (zuI σ 5 m e) 6 m k) 4 2 (nI (m + 1))).2.2.2 + zAl 6 → V 43 [(0, .ref 0), (1, .int e), (2, .int k)] (r.toList ++ []) σ')
      refine hsize_4 (zR_of hI rfl rfl) (fun _ => ?_)
      refine zq (σ := (zuI (zuI (zuI σ 5 m e) 6 m k) 4 2 (nI (m + 1)))) hV hI rfl 3 ?_
      show K (some (.int ((nI (m + 1)) - 1))) (zuI (zuI (zuI σ 5 m e) 6 m k) 4 2 (nI (m + 1)))
      rw [nI_pred]
      exact hOk hb1 h8
    · skip
      refine zq (σ := σ) hV hI rfl 2 ?_
      show K (some (.int (-4))) σ
      refine hFull hb1 ?_
      simp only [zlt, hs, hmi] at h_21
      simp at h_21
      omega
  · skip
    refine zq (σ := σ) hV hI rfl 1 ?_
    show (¬ (0 : Int32) = 0 → V 12 [(0, .ref 0), (1, .int e), (2, .int k)] [] σ) ∧ (¬ (¬ (0 : Int32) = 0) → V 9 [(0, .ref 0), (1, .int e), (2, .int k)] [] σ)
    refine ⟨fun hc => absurd hc (by decide), fun _ => ?_⟩
    refine zq (σ := σ) hV hI rfl 2 ?_
    show K (some (.int (-2))) σ
    exact hBad hb1
set_option maxRecDepth 8000 in
set_option maxHeartbeats 4000000 in
theorem friction_C {d : Nat} {σ : zSt} {K : Option Value → zSt → Prop} {f : Int32} (hI : zQI (kR 0 30) σ.2.2) (hBad : ¬ zBt 0 16 f → K (some (.int (-2))) σ) (hOk : zBt 0 16 f → K (some (.int (σ.1 0 9))) (zuI σ 0 9 f)) : zSp zx (d + 1) mX8_friction [.ref 0, .int f] σ K := by
  refine ⟨⟨by decide, Nat.le_of_ble_eq_true rfl⟩, fun V hV => ?_⟩
  refine zq (σ := σ) hV hI rfl 2 ?_
  show (f < 0 → V 10 [(0, .ref 0), (1, .int f)] [] σ) ∧ (¬ f < 0 → V 4 [(0, .ref 0), (1, .int f)] [] σ)
  refine ⟨fun h_1 => ?_, fun h_1 => ?_⟩
  · skip
    refine zq (σ := σ) hV hI rfl 2 ?_
    show K (some (.int (-2))) σ
    exact hBad (by
      simp only [zlt, zle] at h_1
      unfold zBt
      simp at h_1 ⊢
      omega)
  · skip
    refine zq (σ := σ) hV hI rfl 3 ?_
    show (f ≤ 16 → V 13 [(0, .ref 0), (1, .int f)] [] σ) ∧ (¬ f ≤ 16 → V 10 [(0, .ref 0), (1, .int f)] [] σ)
    refine ⟨fun h_7 => ?_, fun h_7 => ?_⟩
    · skip
      refine zq (σ := σ) hV hI rfl 8 ?_
      show K (some (.int (σ.1 0 9))) (zuI σ 0 9 f)
      exact hOk (by
        simp only [zlt, zle] at h_1 h_7
        unfold zBt
        simp at h_1 h_7 ⊢
        omega)
    · skip
      refine zq (σ := σ) hV hI rfl 2 ?_
      show K (some (.int (-2))) σ
      exact hBad (by
        simp only [zlt, zle] at h_1 h_7
        unfold zBt
        simp at h_1 h_7 ⊢
        omega)
set_option maxRecDepth 8000 in
set_option maxHeartbeats 4000000 in
theorem psize_ok {d : Nat} {σ : zSt} {K : Option Value → zSt → Prop} (hI : zQI (kR 18 21) σ.2.2) (hK : K (some (.int (σ.1 18 2))) σ) : zSp zx (d + 1) mX4_size [.ref 18] σ K := by
  refine ⟨⟨by decide, Nat.le_of_ble_eq_true rfl⟩, fun V hV => ?_⟩
  refine zq (σ := σ) hV hI rfl 3 ?_
  show K (some (.int (σ.1 18 2))) σ
  exact hK
set_option maxRecDepth 8000 in
set_option maxHeartbeats 4000000 in
theorem sadd_ok {d : Nat} {σ : zSt} {K : Option Value → zSt → Prop} {e k c : Int32} {m : Nat} (hI : zQI (kR 14 18) σ.2.2) (hs : σ.1 14 3 = nI m) (hm : m < 7) (hK : K none (zuI (zuI (zuI (zuI σ 15 m e) 16 m k) 17 m c) 14 3 (nI (m + 1)))) : zSp zx (d + 2) mX6_add [.ref 14, .int e, .int k, .int c] σ K := by
  refine ⟨⟨by decide, Nat.le_of_ble_eq_true rfl⟩, fun V hV => ?_⟩
  refine zq (σ := σ) hV hI rfl 6 ?_
  show zSp _ _ 80 [.ref 15, .int (σ.1 14 3), .int e] σ (fun r σ' => σ'.2.2.2 = σ.2.2.2 + zAl 80 → V 12 [(0, .ref 14), (1, .int e), (2, .int k), (3, .int c)] (r.toList ++ []) σ')
  refine setItem_15 (zA_of hI rfl) hs (by omega) (fun _ => ?_)
  refine zq (σ := (zuI σ 15 m e)) hV hI rfl 6 ?_
  show zSp _ _ 80 [.ref 16, .int (σ.1 14 3), .int k] (zuI σ 15 m e) (fun r σ' => σ'.2.2.2 = (zuI σ 15 m e).2.2.2 + zAl 80 → V 24 [(0, .ref 14), (1, .int e), (2, .int k), (3, .int c)] (r.toList ++ []) σ')
  refine setItem_16 (zA_of hI rfl) hs (by omega) (fun _ => ?_)
  refine zq (σ := (zuI (zuI σ 15 m e) 16 m k)) hV hI rfl 6 ?_
  show zSp _ _ 80 [.ref 17, .int (σ.1 14 3), .int c] (zuI (zuI σ 15 m e) 16 m k) (fun r σ' => σ'.2.2.2 = (zuI (zuI σ 15 m e) 16 m k).2.2.2 + zAl 80 → V 36 [(0, .ref 14), (1, .int e), (2, .int k), (3, .int c)] (r.toList ++ []) σ')
  refine setItem_17 (zA_of hI rfl) hs (by omega) (fun _ => ?_)
  refine zq (σ := (zuI (zuI (zuI σ 15 m e) 16 m k) 17 m c)) hV hI rfl 7 ?_
  show K none (zuI (zuI (zuI (zuI σ 15 m e) 16 m k) 17 m c) 14 3 ((σ.1 14 3) + 1))
  rw [show (σ.1 14 3) + 1 = nI (m + 1) by rw [hs, nI_1]]
  exact hK
set_option maxRecDepth 8000 in
set_option maxHeartbeats 4000000 in
theorem ssize_ok {d : Nat} {σ : zSt} {K : Option Value → zSt → Prop} (hI : zQI (kR 14 18) σ.2.2) (hK : K (some (.int (σ.1 14 3))) σ) : zSp zx (d + 1) mX6_size [.ref 14] σ K := by
  refine ⟨⟨by decide, Nat.le_of_ble_eq_true rfl⟩, fun V hV => ?_⟩
  refine zq (σ := σ) hV hI rfl 3 ?_
  show K (some (.int (σ.1 14 3))) σ
  exact hK
set_option maxRecDepth 8000 in
set_option maxHeartbeats 4000000 in
theorem sclear_ok {d : Nat} {σ : zSt} {K : Option Value → zSt → Prop} (hI : zQI (kR 14 18) σ.2.2) (hK : K none (zuI σ 14 3 0)) : zSp zx (d + 1) mX6_clear [.ref 14] σ K := by
  refine ⟨⟨by decide, Nat.le_of_ble_eq_true rfl⟩, fun V hV => ?_⟩
  refine zq (σ := σ) hV hI rfl 4 ?_
  show K none (zuI σ 14 3 0)
  exact hK
set_option maxRecDepth 8000 in
set_option maxHeartbeats 4000000 in
theorem spot_C {d : Nat} {σ : zSt} {K : Option Value → zSt → Prop} {e k c : Int32} {n m : Nat} (hI : zQI (kR 0 30) σ.2.2) (hn : σ.1 1 2 = nI n) (hn10 : n ≤ 10) (hs : σ.1 14 3 = nI m) (hm : m ≤ 7) (hBad : ¬ ((zBt 0 (n - 1) e ∧ zBt 0 8 k) ∧ zBt 0 1000 c) → K (some (.int (-2))) σ) (hFull : ((zBt 0 (n - 1) e ∧ zBt 0 8 k) ∧ zBt 0 1000 c) → m = 7 → K (some (.int (-4))) σ) (hOk : ((zBt 0 (n - 1) e ∧ zBt 0 8 k) ∧ zBt 0 1000 c) → m < 7 → K (some (.int (nI (m + 1)))) (zuI (zuI (zuI (zuI σ 15 m e) 16 m k) 17 m c) 14 3 (nI (m + 1)))) : zSp zx (d + 3) mX8_spot [.ref 0, .int e, .int k, .int c] σ K := by
  refine ⟨⟨by decide, Nat.le_of_ble_eq_true rfl⟩, fun V hV => ?_⟩
  have hmi := nI_toInt (show m < 2 ^ 31 by omega)
  refine zq (σ := σ) hV hI rfl 4 ?_
  show zSp _ _ 77 [.ref 0, .int e, .int k] σ (fun r σ' => σ'.2.2.2 = σ.2.2.2 + zAl 77 → V 6 [(0, .ref 0), (1, .int e), (2, .int k), (3, .int c)] (r.toList ++ []) σ')
  refine isStand_ok (zR_of hI rfl rfl) hn (by omega) (fun hb1 _ => ?_) (fun hb1 _ => ?_)
  · skip
    refine zq (σ := σ) hV hI rfl 1 ?_
    show ((1 : Int32) = 0 → V 20 [(0, .ref 0), (1, .int e), (2, .int k), (3, .int c)] [] σ) ∧ (¬ (1 : Int32) = 0 → V 9 [(0, .ref 0), (1, .int e), (2, .int k), (3, .int c)] [] σ)
    refine ⟨fun hc => absurd hc (by decide), fun _ => ?_⟩
    refine zq (σ := σ) hV hI rfl 2 ?_
    show (c < 0 → V 20 [(0, .ref 0), (1, .int e), (2, .int k), (3, .int c)] [] σ) ∧ (¬ c < 0 → V 13 [(0, .ref 0), (1, .int e), (2, .int k), (3, .int c)] [] σ)
    refine ⟨fun h_10 => ?_, fun h_10 => ?_⟩
    · skip
      refine zq (σ := σ) hV hI rfl 2 ?_
      show K (some (.int (-2))) σ
      refine hBad (fun q => ?_)
      have q4 := q.2
      unfold zBt at q4
      simp only [zlt, zle] at h_10
      simp at h_10
      omega
    · skip
      refine zq (σ := σ) hV hI rfl 3 ?_
      show (c ≤ 1000 → V 23 [(0, .ref 0), (1, .int e), (2, .int k), (3, .int c)] [] σ) ∧ (¬ c ≤ 1000 → V 20 [(0, .ref 0), (1, .int e), (2, .int k), (3, .int c)] [] σ)
      refine ⟨fun h_17 => ?_, fun h_17 => ?_⟩
      · skip
        refine zq (σ := σ) hV hI rfl 3 ?_
        show zSp _ _ 37 [.ref 14] σ (fun r σ' => σ'.2.2.2 = σ.2.2.2 + zAl 37 → V 30 [(0, .ref 0), (1, .int e), (2, .int k), (3, .int c)] (r.toList ++ []) σ')
        refine ssize_ok (zR_of hI rfl rfl) (fun _ => ?_)
        refine zq (σ := σ) hV hI rfl 2 ?_
        show ((σ.1 14 3) < 7 → V 38 [(0, .ref 0), (1, .int e), (2, .int k), (3, .int c)] [] σ) ∧ (¬ (σ.1 14 3) < 7 → V 35 [(0, .ref 0), (1, .int e), (2, .int k), (3, .int c)] [] σ)
        refine ⟨fun h_32 => ?_, fun h_32 => ?_⟩
        · skip
          have hcap : m < 7 := by
            simp only [zlt, hs, hmi] at h_32
            simp at h_32
            omega
          refine zq (σ := σ) hV hI rfl 6 ?_
          show zSp _ _ 39 [.ref 14, .int e, .int k, .int c] σ (fun r σ' => σ'.2.2.2 = σ.2.2.2 + zAl 39 → V 48 [(0, .ref 0), (1, .int e), (2, .int k), (3, .int c)] (r.toList ++ []) σ')
          refine sadd_ok (zR_of hI rfl rfl) (m := m) hs (by omega) (fun _ => ?_)
          refine zq (σ := (zuI (zuI (zuI (zuI σ 15 m e) 16 m k) 17 m c) 14 3 (nI (m + 1)))) hV hI rfl 3 ?_
          show zSp _ _ 37 [.ref 14] (zuI (zuI (zuI (zuI σ 15 m e) 16 m k) 17 m c) 14 3 (nI (m + 1))) (fun r σ' => σ'.2.2.2 = (zuI (zuI (zuI (zuI σ 15 m e) 16 m k) 17 m c) 14 3 (nI (m + 1))).2.2.2 + zAl 37 → V 55 [(0, .ref 0), (1, .int e), (2, .int k), (3, .int c)] (r.toList ++ []) σ')
          refine ssize_ok (zR_of hI rfl rfl) (fun _ => ?_)
          refine zq (σ := (zuI (zuI (zuI (zuI σ 15 m e) 16 m k) 17 m c) 14 3 (nI (m + 1)))) hV hI rfl 1 ?_
          show K (some (.int (nI (m + 1)))) (zuI (zuI (zuI (zuI σ 15 m e) 16 m k) 17 m c) 14 3 (nI (m + 1)))
          have hv : ((zBt 0 (n - 1) e ∧ zBt 0 8 k) ∧ zBt 0 1000 c) := ⟨hb1, by
            unfold zBt
            simp only [zlt, zle] at h_10 h_17
            simp at h_10 h_17 ⊢
            omega⟩
          exact hOk hv hcap
        · skip
          refine zq (σ := σ) hV hI rfl 2 ?_
          show K (some (.int (-4))) σ
          have hv : ((zBt 0 (n - 1) e ∧ zBt 0 8 k) ∧ zBt 0 1000 c) := ⟨hb1, by
            unfold zBt
            simp only [zlt, zle] at h_10 h_17
            simp at h_10 h_17 ⊢
            omega⟩
          refine hFull hv ?_
          simp only [zlt, hs, hmi] at h_32
          simp at h_32
          omega
      · skip
        refine zq (σ := σ) hV hI rfl 2 ?_
        show K (some (.int (-2))) σ
        refine hBad (fun q => ?_)
        have q4 := q.2
        unfold zBt at q4
        simp only [zlt, zle] at h_10 h_17
        simp at h_10 h_17
        omega
  · skip
    refine zq (σ := σ) hV hI rfl 1 ?_
    show ((0 : Int32) = 0 → V 20 [(0, .ref 0), (1, .int e), (2, .int k), (3, .int c)] [] σ) ∧ (¬ (0 : Int32) = 0 → V 9 [(0, .ref 0), (1, .int e), (2, .int k), (3, .int c)] [] σ)
    refine ⟨fun _ => ?_, fun hc => absurd (by decide) hc⟩
    refine zq (σ := σ) hV hI rfl 2 ?_
    show K (some (.int (-2))) σ
    exact hBad (fun q => hb1 q.1)
end
section
variable {zx : Nat × (Nat → Int32)}
def zKp (f v : Int32) : Int32 := if f = 0 then v.toInt8.toInt32 else if f = 1 then v.toInt16.toInt32 else v
theorem zix60 {k j : Nat} : nI k * 60 + nI j = nI (k * 60 + j) := by rw [show (60 : Int32) = nI 60 from rfl, pk_mul, nI_add]
set_option maxRecDepth 8000 in
set_option maxHeartbeats 4000000 in
theorem latest_ok {d : Nat} {σ : zSt} {K : Option Value → zSt → Prop} (hI : zQI (kR 26 30) σ.2.2) (hK : K (some (.int (σ.1 26 3))) σ) : zSp zx (d + 1) mX5_latestFinding [.ref 26] σ K := by
  refine ⟨⟨by decide, Nat.le_of_ble_eq_true rfl⟩, fun V hV => ?_⟩
  refine zq (σ := σ) hV hI rfl 3 ?_
  show K (some (.int (σ.1 26 3))) σ
  exact hK
set_option maxRecDepth 8000 in
set_option maxHeartbeats 4000000 in
theorem find_ok {d : Nat} {σ : zSt} {K : Option Value → zSt → Prop} {c : Int32} (hI : zQI (kR 26 30) σ.2.2) (hK : K (some (.int (-10 - c))) (zuI σ 26 3 c)) : zSp zx (d + 1) mX5_find [.ref 26, .int c] σ K := by
  refine ⟨⟨by decide, Nat.le_of_ble_eq_true rfl⟩, fun V hV => ?_⟩
  refine zq (σ := σ) hV hI rfl 7 ?_
  show K (some (.int ((-10) - c))) (zuI σ 26 3 c)
  exact hK
set_option maxRecDepth 8000 in
set_option maxHeartbeats 4000000 in
theorem sform_ok {d : Nat} {σ : zSt} {K : Option Value → zSt → Prop} {s : Int32} {k : Nat} (hI : zQI (kR 26 30) σ.2.2) (e : s = nI k) (hk : k < 4) (hK : K (some (.int (σ.1 27 k))) σ) : zSp zx (d + 2) mX5_form [.ref 26, .int s] σ K := by
  refine ⟨⟨by decide, Nat.le_of_ble_eq_true rfl⟩, fun V hV => ?_⟩
  subst e
  refine zq (σ := σ) hV hI rfl 4 ?_
  show zSp _ _ 79 [.ref 27, .int (nI k)] σ (fun r σ' => σ'.2.2.2 = σ.2.2.2 + zAl 79 → V 8 [(0, .ref 26), (1, .int (nI k))] (r.toList ++ []) σ')
  refine item_27 (zA_of hI rfl) rfl (by omega) (fun _ => ?_)
  refine zq (σ := σ) hV hI rfl 1 ?_
  show K (some (.int (σ.1 27 k))) σ
  exact hK
set_option maxRecDepth 8000 in
set_option maxHeartbeats 4000000 in
theorem slength_ok {d : Nat} {σ : zSt} {K : Option Value → zSt → Prop} {s : Int32} {k : Nat} (hI : zQI (kR 26 30) σ.2.2) (e : s = nI k) (hk : k < 4) (hK : K (some (.int (σ.1 28 k))) σ) : zSp zx (d + 2) mX5_length [.ref 26, .int s] σ K := by
  refine ⟨⟨by decide, Nat.le_of_ble_eq_true rfl⟩, fun V hV => ?_⟩
  subst e
  refine zq (σ := σ) hV hI rfl 4 ?_
  show zSp _ _ 79 [.ref 28, .int (nI k)] σ (fun r σ' => σ'.2.2.2 = σ.2.2.2 + zAl 79 → V 8 [(0, .ref 26), (1, .int (nI k))] (r.toList ++ []) σ')
  refine item_28 (zA_of hI rfl) rfl (by omega) (fun _ => ?_)
  refine zq (σ := σ) hV hI rfl 1 ?_
  show K (some (.int (σ.1 28 k))) σ
  exact hK
set_option maxRecDepth 8000 in
set_option maxHeartbeats 4000000 in
theorem isLost_ok {d : Nat} {σ : zSt} {K : Option Value → zSt → Prop} {s : Int32} {k : Nat} (hI : zQI (kR 26 30) σ.2.2) (e : s = nI k) (hk : k < 4) (h1 : σ.1 27 k = -1 → K (some (.int 1)) σ) (h0 : ¬ σ.1 27 k = -1 → K (some (.int 0)) σ) : zSp zx (d + 3) mX5_isLost [.ref 26, .int s] σ K := by
  refine ⟨⟨by decide, Nat.le_of_ble_eq_true rfl⟩, fun V hV => ?_⟩
  subst e
  refine zq (σ := σ) hV hI rfl 3 ?_
  show zSp _ _ 28 [.ref 26, .int (nI k)] σ (fun r σ' => σ'.2.2.2 = σ.2.2.2 + zAl 28 → V 5 [(0, .ref 26), (1, .int (nI k))] (r.toList ++ []) σ')
  refine sform_ok (zR_of hI rfl rfl) rfl (by omega) (fun _ => ?_)
  refine zq (σ := σ) hV hI rfl 2 ?_
  show (¬ (σ.1 27 k) = (-1) → V 13 [(0, .ref 26), (1, .int (nI k))] [] σ) ∧ (¬ (¬ (σ.1 27 k) = (-1)) → V 9 [(0, .ref 26), (1, .int (nI k))] [] σ)
  refine ⟨fun h_6 => ?_, fun h_6 => ?_⟩
  · skip
    refine zq (σ := σ) hV hI rfl 2 ?_
    show ((0 : Int32) = 0 ∨ (0 : Int32) = 1) ∧ K (some (.int 0)) σ
    refine ⟨by decide, ?_⟩
    exact h0 h_6
  · skip
    have h_6 := Classical.not_not.mp h_6
    refine zq (σ := σ) hV hI rfl 3 ?_
    show ((1 : Int32) = 0 ∨ (1 : Int32) = 1) ∧ K (some (.int 1)) σ
    refine ⟨by decide, ?_⟩
    exact h1 h_6
set_option maxRecDepth 8000 in
set_option maxHeartbeats 4000000 in
theorem forget_ok {d : Nat} {σ : zSt} {K : Option Value → zSt → Prop} {s : Int32} {k : Nat} (hI : zQI (kR 26 30) σ.2.2) (e : s = nI k) (hk : k < 4) (hK : K none (zuI (zuI σ 27 k (-1)) 28 k 0)) : zSp zx (d + 2) mX5_forget [.ref 26, .int s] σ K := by
  refine ⟨⟨by decide, Nat.le_of_ble_eq_true rfl⟩, fun V hV => ?_⟩
  subst e
  refine zq (σ := σ) hV hI rfl 5 ?_
  show zSp _ _ 80 [.ref 27, .int (nI k), .int (-1)] σ (fun r σ' => σ'.2.2.2 = σ.2.2.2 + zAl 80 → V 9 [(0, .ref 26), (1, .int (nI k))] (r.toList ++ []) σ')
  refine setItem_27 (zA_of hI rfl) rfl (by omega) (fun _ => ?_)
  refine zq (σ := (zuI σ 27 k (-1))) hV hI rfl 5 ?_
  show zSp _ _ 80 [.ref 28, .int (nI k), .int 0] (zuI σ 27 k (-1)) (fun r σ' => σ'.2.2.2 = (zuI σ 27 k (-1)).2.2.2 + zAl 80 → V 18 [(0, .ref 26), (1, .int (nI k))] (r.toList ++ []) σ')
  refine setItem_28 (zA_of hI rfl) rfl (by omega) (fun _ => ?_)
  refine zq (σ := (zuI (zuI σ 27 k (-1)) 28 k 0)) hV hI rfl 1 ?_
  show K none (zuI (zuI σ 27 k (-1)) 28 k 0)
  exact hK
set_option maxRecDepth 8000 in
set_option maxHeartbeats 4000000 in
theorem svalue_ok {d : Nat} {σ : zSt} {K : Option Value → zSt → Prop} {s i : Int32} {k j : Nat} (hI : zQI (kR 26 30) σ.2.2) (e : s = nI k) (hk : k < 4) (ei : i = nI j) (hj : j < 60) (hK : K (some (.int (σ.1 29 (k * 60 + j)))) σ) : zSp zx (d + 2) mX5_value [.ref 26, .int s, .int i] σ K := by
  refine ⟨⟨by decide, Nat.le_of_ble_eq_true rfl⟩, fun V hV => ?_⟩
  subst e
  subst ei
  refine zq (σ := σ) hV hI rfl 8 ?_
  show zSp _ _ 79 [.ref 29, .int (((nI k) * 60) + (nI j))] σ (fun r σ' => σ'.2.2.2 = σ.2.2.2 + zAl 79 → V 13 [(0, .ref 26), (1, .int (nI k)), (2, .int (nI j))] (r.toList ++ []) σ')
  refine item_29 (zA_of hI rfl) zix60 (by omega) (fun _ => ?_)
  refine zq (σ := σ) hV hI rfl 1 ?_
  show K (some (.int (σ.1 29 (k * 60 + j)))) σ
  exact hK
set_option maxRecDepth 8000 in
set_option maxHeartbeats 4000000 in
theorem write_ok {d : Nat} {σ : zSt} {K : Option Value → zSt → Prop} {s i v : Int32} {k j : Nat} (hI : zQI (kR 26 30) σ.2.2) (e : s = nI k) (hk : k < 4) (ei : i = nI j) (hj : j < 60) (hK : K none (zuI σ 29 (k * 60 + j) (zKp (σ.1 27 k) v))) : zSp zx (d + 3) mX5_write [.ref 26, .int s, .int i, .int v] σ K := by
  refine ⟨⟨by decide, Nat.le_of_ble_eq_true rfl⟩, fun V hV => ?_⟩
  subst e
  subst ei
  refine zq (σ := σ) hV hI rfl 3 ?_
  show zSp _ _ 28 [.ref 26, .int (nI k)] σ (fun r σ' => σ'.2.2.2 = σ.2.2.2 + zAl 28 → V 5 [(0, .ref 26), (1, .int (nI k)), (2, .int (nI j)), (3, .int v)] (r.toList ++ []) σ')
  refine sform_ok (zR_of hI rfl rfl) rfl (by omega) (fun _ => ?_)
  refine zq (σ := σ) hV hI rfl 1 ?_
  show (¬ (σ.1 27 k) = 0 → V 13 [(0, .ref 26), (1, .int (nI k)), (2, .int (nI j)), (3, .int v)] [] σ) ∧ (¬ (¬ (σ.1 27 k) = 0) → V 8 [(0, .ref 26), (1, .int (nI k)), (2, .int (nI j)), (3, .int v)] [] σ)
  refine ⟨fun h_5 => ?_, fun h_5 => ?_⟩
  · skip
    refine zq (σ := σ) hV hI rfl 3 ?_
    show zSp _ _ 28 [.ref 26, .int (nI k)] σ (fun r σ' => σ'.2.2.2 = σ.2.2.2 + zAl 28 → V 18 [(0, .ref 26), (1, .int (nI k)), (2, .int (nI j)), (3, .int v)] (r.toList ++ []) σ')
    refine sform_ok (zR_of hI rfl rfl) rfl (by omega) (fun _ => ?_)
    refine zq (σ := σ) hV hI rfl 2 ?_
    show (¬ (σ.1 27 k) = 1 → V 27 [(0, .ref 26), (1, .int (nI k)), (2, .int (nI j)), (3, .int v)] [] σ) ∧ (¬ (¬ (σ.1 27 k) = 1) → V 22 [(0, .ref 26), (1, .int (nI k)), (2, .int (nI j)), (3, .int v)] [] σ)
    refine ⟨fun h_19 => ?_, fun h_19 => ?_⟩
    · skip
      refine zq (σ := σ) hV hI rfl 11 ?_
      show zSp _ _ 80 [.ref 29, .int (((nI k) * 60) + (nI j)), .int v] σ (fun r σ' => σ'.2.2.2 = σ.2.2.2 + zAl 80 → V 45 [(4, .int v), (0, .ref 26), (1, .int (nI k)), (2, .int (nI j)), (3, .int v)] (r.toList ++ []) σ')
      refine setItem_29 (zA_of hI rfl) zix60 (by omega) (fun _ => ?_)
      refine zq (σ := (zuI σ 29 (k * 60 + j) v)) hV hI rfl 1 ?_
      show K none (zuI σ 29 (k * 60 + j) v)
      unfold zKp at hK
      first | (rw [if_pos h_5] at hK; exact hK) | (rw [if_neg h_5, if_pos h_19] at hK; exact hK) | (rw [if_neg h_5, if_neg h_19] at hK; exact hK)
    · skip
      have h_19 := Classical.not_not.mp h_19
      refine zq (σ := σ) hV hI rfl 13 ?_
      show zSp _ _ 80 [.ref 29, .int (((nI k) * 60) + (nI j)), .int ((Int32.toInt16 v).toInt32)] σ (fun r σ' => σ'.2.2.2 = σ.2.2.2 + zAl 80 → V 45 [(4, .int ((Int32.toInt16 v).toInt32)), (0, .ref 26), (1, .int (nI k)), (2, .int (nI j)), (3, .int v)] (r.toList ++ []) σ')
      refine setItem_29 (zA_of hI rfl) zix60 (by omega) (fun _ => ?_)
      refine zq (σ := (zuI σ 29 (k * 60 + j) ((Int32.toInt16 v).toInt32))) hV hI rfl 1 ?_
      show K none (zuI σ 29 (k * 60 + j) ((Int32.toInt16 v).toInt32))
      unfold zKp at hK
      first | (rw [if_pos h_5] at hK; exact hK) | (rw [if_neg h_5, if_pos h_19] at hK; exact hK) | (rw [if_neg h_5, if_neg h_19] at hK; exact hK)
  · skip
    have h_5 := Classical.not_not.mp h_5
    refine zq (σ := σ) hV hI rfl 13 ?_
    show zSp _ _ 80 [.ref 29, .int (((nI k) * 60) + (nI j)), .int ((Int32.toInt8 v).toInt32)] σ (fun r σ' => σ'.2.2.2 = σ.2.2.2 + zAl 80 → V 45 [(4, .int ((Int32.toInt8 v).toInt32)), (0, .ref 26), (1, .int (nI k)), (2, .int (nI j)), (3, .int v)] (r.toList ++ []) σ')
    refine setItem_29 (zA_of hI rfl) zix60 (by omega) (fun _ => ?_)
    refine zq (σ := (zuI σ 29 (k * 60 + j) ((Int32.toInt8 v).toInt32))) hV hI rfl 1 ?_
    show K none (zuI σ 29 (k * 60 + j) ((Int32.toInt8 v).toInt32))
    unfold zKp at hK
    first | (rw [if_pos h_5] at hK; exact hK) | (rw [if_neg h_5, if_pos h_19] at hK; exact hK) | (rw [if_neg h_5, if_neg h_19] at hK; exact hK)
set_option maxRecDepth 8000 in
set_option maxHeartbeats 4000000 in
theorem faultAt_ok {d : Nat} {σ : zSt} {K : Option Value → zSt → Prop} {s f i : Int32} {k l : Nat} (hI : zQI (kR 26 30) σ.2.2) (e : s = nI k) (hk : k < 4) (hl : σ.1 28 k = nI l) (hl60 : l ≤ 60) (c1 : σ.1 27 k = -1 → K (some (.int 1)) σ) (c3 : ¬ σ.1 27 k = -1 → ¬ σ.1 27 k = f → K (some (.int 3)) σ) (c2 : ¬ σ.1 27 k = -1 → σ.1 27 k = f → ¬ zBt 0 (l - 1) i → K (some (.int 2)) σ) (c0 : ¬ σ.1 27 k = -1 → σ.1 27 k = f → zBt 0 (l - 1) i → K (some (.int 0)) σ) : zSp zx (d + 4) mX5_faultAt [.ref 26, .int s, .int f, .int i] σ K := by
  refine ⟨⟨by decide, Nat.le_of_ble_eq_true rfl⟩, fun V hV => ?_⟩
  subst e
  have hli := nI_toInt (show l < 2 ^ 31 by omega)
  refine zq (σ := σ) hV hI rfl 3 ?_
  show zSp _ _ 30 [.ref 26, .int (nI k)] σ (fun r σ' => σ'.2.2.2 = σ.2.2.2 + zAl 30 → V 5 [(0, .ref 26), (1, .int (nI k)), (2, .int f), (3, .int i)] (r.toList ++ []) σ')
  refine isLost_ok (zR_of hI rfl rfl) rfl (by omega) (fun hb1 _ => ?_) (fun hb1 _ => ?_)
  · skip
    refine zq (σ := σ) hV hI rfl 1 ?_
    show ((1 : Int32) = 0 → V 10 [(0, .ref 26), (1, .int (nI k)), (2, .int f), (3, .int i)] [] σ) ∧ (¬ (1 : Int32) = 0 → V 8 [(0, .ref 26), (1, .int (nI k)), (2, .int f), (3, .int i)] [] σ)
    refine ⟨fun hc => absurd hc (by decide), fun _ => ?_⟩
    refine zq (σ := σ) hV hI rfl 2 ?_
    show K (some (.int 1)) σ
    exact c1 hb1
  · skip
    refine zq (σ := σ) hV hI rfl 1 ?_
    show ((0 : Int32) = 0 → V 10 [(0, .ref 26), (1, .int (nI k)), (2, .int f), (3, .int i)] [] σ) ∧ (¬ (0 : Int32) = 0 → V 8 [(0, .ref 26), (1, .int (nI k)), (2, .int f), (3, .int i)] [] σ)
    refine ⟨fun _ => ?_, fun hc => absurd (by decide) hc⟩
    refine zq (σ := σ) hV hI rfl 3 ?_
    show zSp _ _ 28 [.ref 26, .int (nI k)] σ (fun r σ' => σ'.2.2.2 = σ.2.2.2 + zAl 28 → V 15 [(0, .ref 26), (1, .int (nI k)), (2, .int f), (3, .int i)] (r.toList ++ []) σ')
    refine sform_ok (zR_of hI rfl rfl) rfl (by omega) (fun _ => ?_)
    refine zq (σ := σ) hV hI rfl 2 ?_
    show ((σ.1 27 k) = f → V 21 [(0, .ref 26), (1, .int (nI k)), (2, .int f), (3, .int i)] [] σ) ∧ (¬ (σ.1 27 k) = f → V 19 [(0, .ref 26), (1, .int (nI k)), (2, .int f), (3, .int i)] [] σ)
    refine ⟨fun h_16 => ?_, fun h_16 => ?_⟩
    · skip
      refine zq (σ := σ) hV hI rfl 2 ?_
      show (i < 0 → V 34 [(0, .ref 26), (1, .int (nI k)), (2, .int f), (3, .int i)] [] σ) ∧ (¬ i < 0 → V 25 [(0, .ref 26), (1, .int (nI k)), (2, .int f), (3, .int i)] [] σ)
      refine ⟨fun h_22 => ?_, fun h_22 => ?_⟩
      · skip
        refine zq (σ := σ) hV hI rfl 3 ?_
        show K (some (.int 2)) σ
        refine c2 hb1 h_16 (by
          simp only [zlt, hl, hli] at h_22
          unfold zBt
          simp at h_22 ⊢
          omega)
      · skip
        refine zq (σ := σ) hV hI rfl 4 ?_
        show zSp _ _ 29 [.ref 26, .int (nI k)] σ (fun r σ' => σ'.2.2.2 = σ.2.2.2 + zAl 29 → V 31 [(0, .ref 26), (1, .int (nI k)), (2, .int f), (3, .int i)] (r.toList ++ [.int i]) σ')
        refine slength_ok (zR_of hI rfl rfl) rfl (by omega) (fun _ => ?_)
        refine zq (σ := σ) hV hI rfl 1 ?_
        show (i < (σ.1 28 k) → V 38 [(0, .ref 26), (1, .int (nI k)), (2, .int f), (3, .int i)] [] σ) ∧ (¬ i < (σ.1 28 k) → V 34 [(0, .ref 26), (1, .int (nI k)), (2, .int f), (3, .int i)] [] σ)
        refine ⟨fun h_31 => ?_, fun h_31 => ?_⟩
        · skip
          refine zq (σ := σ) hV hI rfl 2 ?_
          show K (some (.int 0)) σ
          refine c0 hb1 h_16 (by
            simp only [zlt, hl, hli] at h_22 h_31
            unfold zBt
            simp at h_22 h_31 ⊢
            omega)
        · skip
          refine zq (σ := σ) hV hI rfl 3 ?_
          show K (some (.int 2)) σ
          refine c2 hb1 h_16 (by
            simp only [zlt, hl, hli] at h_22 h_31
            unfold zBt
            simp at h_22 h_31 ⊢
            omega)
    · skip
      refine zq (σ := σ) hV hI rfl 2 ?_
      show K (some (.int 3)) σ
      exact c3 hb1 h_16
def zfRn (k : Nat) (a j : Nat) : Bool := (Nat.beq a 27 && Nat.beq j k) || (Nat.beq a 28 && Nat.beq j k) || (Nat.beq a 29 && (Nat.ble (k * 60) j && Nat.blt j (k * 60 + 60)))
set_option maxRecDepth 8000 in
set_option maxHeartbeats 4000000 in
theorem renew_ok {d : Nat} {σ : zSt} {K : Option Value → zSt → Prop} {s f c : Int32} {k : Nat} (hI : zQI (kR 26 30) σ.2.2) (e : s = nI k) (hk : k < 4) (hK : ∀ τ, zOnly (zfRn k) σ τ → τ.1 27 k = f → τ.1 28 k = c → (∀ j, j < 60 → τ.1 29 (k * 60 + j) = 0) → K none τ) : zSp zx (d + 2) mX5_renew [.ref 26, .int s, .int f, .int c] σ K := by
  refine ⟨⟨by decide, Nat.le_of_ble_eq_true rfl⟩, fun V hV => ?_⟩
  subst e
  refine zq (σ := σ) hV hI rfl 5 ?_
  show zSp _ _ 80 [.ref 27, .int (nI k), .int f] σ (fun r σ' => σ'.2.2.2 = σ.2.2.2 + zAl 80 → V 9 [(0, .ref 26), (1, .int (nI k)), (2, .int f), (3, .int c)] (r.toList ++ []) σ')
  refine setItem_27 (zA_of hI rfl) rfl (by omega) (fun _ => ?_)
  refine zq (σ := (zuI σ 27 k f)) hV hI rfl 5 ?_
  show zSp _ _ 80 [.ref 28, .int (nI k), .int c] (zuI σ 27 k f) (fun r σ' => σ'.2.2.2 = (zuI σ 27 k f).2.2.2 + zAl 80 → V 18 [(0, .ref 26), (1, .int (nI k)), (2, .int f), (3, .int c)] (r.toList ++ []) σ')
  refine setItem_28 (zA_of hI rfl) rfl (by omega) (fun _ => ?_)
  refine zq (σ := (zuI (zuI σ 27 k f) 28 k c)) hV hI rfl 2 ?_
  show V 21 [(4, .int 0), (0, .ref 26), (1, .int (nI k)), (2, .int f), (3, .int c)] [] (zuI (zuI σ 27 k f) 28 k c)
  refine zwk hV [1, 2, 3, 4, 0] rfl ?_
  have H : ∀ (r i : Nat) (τ : zSt), i + r = 60 → zOnly (zfRn k) σ τ → τ.1 27 k = f → τ.1 28 k = c → (∀ j, j < i → τ.1 29 (k * 60 + j) = 0) → V 21 [(0, .ref 26), (1, .int (nI k)), (2, .int f), (3, .int c), (4, .int (nI i))] [] τ := by
    intro r
    induction r with
    | zero =>
      intro i τ hir ht h7 h8 h9
      have hIt := zQI_eq hI ht.2.2
      have hnt : τ.2.2.2 = σ.2.2.2 := congrArg Prod.snd ht.2.2
      refine zq (σ := τ) hV hIt hnt 3 ?_
      show (60 ≤ (nI i) → V 49 [(0, .ref 26), (1, .int (nI k)), (2, .int f), (3, .int c), (4, .int (nI i))] [] τ) ∧ (¬ 60 ≤ (nI i) → V 28 [(0, .ref 26), (1, .int (nI k)), (2, .int f), (3, .int c), (4, .int (nI i))] [] τ)
      refine ⟨fun _ => ?_, fun hc => absurd (show (60 : Int32) ≤ nI i by rw [show i = 60 by omega]; decide) hc⟩
      refine zq (σ := τ) hV hIt hnt 1 ?_
      show K none τ
      obtain rfl : i = 60 := by omega
      exact hK τ ht h7 h8 h9
    | succ r ih =>
      intro i τ hir ht h7 h8 h9
      have hIt := zQI_eq hI ht.2.2
      have hnt : τ.2.2.2 = σ.2.2.2 := congrArg Prod.snd ht.2.2
      refine zq (σ := τ) hV hIt hnt 3 ?_
      show (60 ≤ (nI i) → V 49 [(0, .ref 26), (1, .int (nI k)), (2, .int f), (3, .int c), (4, .int (nI i))] [] τ) ∧ (¬ 60 ≤ (nI i) → V 28 [(0, .ref 26), (1, .int (nI k)), (2, .int f), (3, .int c), (4, .int (nI i))] [] τ)
      refine ⟨fun hc => absurd hc (show ¬ nI 60 ≤ nI i from nI_ge (by omega) (by decide)), fun _ => ?_⟩
      refine zq (σ := τ) hV hIt hnt 9 ?_
      show zSp _ _ 80 [.ref 29, .int (((nI k) * 60) + (nI i)), .int 0] τ (fun r σ' => σ'.2.2.2 = τ.2.2.2 + zAl 80 → V 43 [(0, .ref 26), (1, .int (nI k)), (2, .int f), (3, .int c), (4, .int (nI i))] (r.toList ++ []) σ')
      refine setItem_29 (zA_of hIt rfl) zix60 (by omega) (fun _ => ?_)
      refine zq (σ := (zuI τ 29 (k * 60 + i) 0)) hV hIt hnt 2 ?_
      show V 21 [(4, .int ((nI i) + 1)), (0, .ref 26), (1, .int (nI k)), (2, .int f), (3, .int c)] [] (zuI τ 29 (k * 60 + i) 0)
      refine zwk hV [1, 2, 3, 4, 0] rfl ?_
      rw [nI_1]
      refine ih (i + 1) _ (by omega) (ht.uI (by simp [zfRn]; omega)) ?_ ?_ (fun j q => ?_)
      · simp [zuI_get, h7]
      · simp [zuI_get, h8]
      · rw [zuI_get]
        by_cases hji : j = i
        · subst hji; simp
        · rw [if_neg (by omega)]; exact h9 j (by omega)
  refine H 60 0 _ rfl ?_ ?_ ?_ (fun j q => absurd q (Nat.not_lt_zero j))
  · exact (zOnly.rf.uI (by simp [zfRn])).uI (by simp [zfRn])
  · simp [zuI_get]
  · simp [zuI_get]
set_option maxRecDepth 8000 in
set_option maxHeartbeats 4000000 in
theorem sheet_C {d : Nat} {σ : zSt} {K : Option Value → zSt → Prop} {s f c : Int32} (hI : zQI (kR 0 30) σ.2.2) (hBad : ¬ (zBt 0 3 s ∧ zBt 0 2 f ∧ c.toInt ≤ 60) → K (some (.int (-2))) σ) (hSz : (zBt 0 3 s ∧ zBt 0 2 f ∧ c.toInt ≤ 60) → ¬ 0 ≤ c.toInt → K (some (.int (-10 - 5))) (zuI σ 26 3 5)) (hOk : ∀ τ k, (zBt 0 3 s ∧ zBt 0 2 f ∧ c.toInt ≤ 60) → 0 ≤ c.toInt → s = nI k → k < 4 → zOnly (zfRn k) σ τ → τ.1 27 k = f → τ.1 28 k = c → (∀ j, j < 60 → τ.1 29 (k * 60 + j) = 0) → K (some (.int c)) τ) : zSp zx (d + 3) mX8_sheet [.ref 0, .int s, .int f, .int c] σ K := by
  refine ⟨⟨by decide, Nat.le_of_ble_eq_true rfl⟩, fun V hV => ?_⟩
  refine zq (σ := σ) hV hI rfl 2 ?_
  show zSp _ _ 75 [.int s] σ (fun r σ' => σ'.2.2.2 = σ.2.2.2 + zAl 75 → V 4 [(0, .ref 0), (1, .int s), (2, .int f), (3, .int c)] (r.toList ++ []) σ')
  refine isSheet_ok (fun hb1 _ => ?_) (fun hb1 _ => ?_)
  · skip
    refine zq (σ := σ) hV hI rfl 1 ?_
    show ((1 : Int32) = 0 → V 20 [(0, .ref 0), (1, .int s), (2, .int f), (3, .int c)] [] σ) ∧ (¬ (1 : Int32) = 0 → V 7 [(0, .ref 0), (1, .int s), (2, .int f), (3, .int c)] [] σ)
    refine ⟨fun hc => absurd hc (by decide), fun _ => ?_⟩
    refine zq (σ := σ) hV hI rfl 2 ?_
    show zSp _ _ 76 [.int f] σ (fun r σ' => σ'.2.2.2 = σ.2.2.2 + zAl 76 → V 11 [(0, .ref 0), (1, .int s), (2, .int f), (3, .int c)] (r.toList ++ []) σ')
    refine isForm_ok (fun hb2 _ => ?_) (fun hb2 _ => ?_)
    · skip
      refine zq (σ := σ) hV hI rfl 1 ?_
      show ((1 : Int32) = 0 → V 20 [(0, .ref 0), (1, .int s), (2, .int f), (3, .int c)] [] σ) ∧ (¬ (1 : Int32) = 0 → V 14 [(0, .ref 0), (1, .int s), (2, .int f), (3, .int c)] [] σ)
      refine ⟨fun hc => absurd hc (by decide), fun _ => ?_⟩
      refine zq (σ := σ) hV hI rfl 3 ?_
      show (c ≤ 60 → V 23 [(0, .ref 0), (1, .int s), (2, .int f), (3, .int c)] [] σ) ∧ (¬ c ≤ 60 → V 20 [(0, .ref 0), (1, .int s), (2, .int f), (3, .int c)] [] σ)
      refine ⟨fun h_17 => ?_, fun h_17 => ?_⟩
      · skip
        refine zq (σ := σ) hV hI rfl 2 ?_
        show (0 ≤ c → V 36 [(0, .ref 0), (1, .int s), (2, .int f), (3, .int c)] [] σ) ∧ (¬ 0 ≤ c → V 27 [(0, .ref 0), (1, .int s), (2, .int f), (3, .int c)] [] σ)
        refine ⟨fun h_24 => ?_, fun h_24 => ?_⟩
        · skip
          refine zq (σ := σ) hV hI rfl 6 ?_
          show zSp _ _ 32 [.ref 26, .int s, .int f, .int c] σ (fun r σ' => σ'.2.2.2 = σ.2.2.2 + zAl 32 → V 46 [(0, .ref 0), (1, .int s), (2, .int f), (3, .int c)] (r.toList ++ []) σ')
          obtain ⟨k, hk, hk2, _⟩ := zNat (x := s) (by unfold zBt at hb1; omega)
          have hk4 : k < 4 := by unfold zBt at hb1; omega
          refine renew_ok (zR_of hI rfl rfl) hk (by omega) (fun τ ht h7 h8 h9 _ => ?_)
          have hIt := zQI_eq hI ht.2.2
          have hnt : τ.2.2.2 = σ.2.2.2 := congrArg Prod.snd ht.2.2
          refine zq (σ := τ) hV hIt hnt 2 ?_
          show K (some (.int c)) τ
          have hv : (zBt 0 3 s ∧ zBt 0 2 f ∧ c.toInt ≤ 60) := ⟨hb1, hb2, by simp only [zle] at h_17; simp at h_17; omega⟩
          have h24 : 0 ≤ c.toInt ↔ (0 : Int32) ≤ c := by rw [zle]; exact Iff.rfl
          exact hOk τ k hv (h24.mpr h_24) hk hk4 ht h7 h8 h9
        · skip
          refine zq (σ := σ) hV hI rfl 4 ?_
          show zSp _ _ 27 [.ref 26, .int 5] σ (fun r σ' => σ'.2.2.2 = σ.2.2.2 + zAl 27 → V 35 [(0, .ref 0), (1, .int s), (2, .int f), (3, .int c)] (r.toList ++ []) σ')
          refine find_ok (zR_of hI rfl rfl) (fun _ => ?_)
          refine zq (σ := (zuI σ 26 3 5)) hV hI rfl 1 ?_
          show K (some (.int ((-10) - 5))) (zuI σ 26 3 5)
          have hv : (zBt 0 3 s ∧ zBt 0 2 f ∧ c.toInt ≤ 60) := ⟨hb1, hb2, by simp only [zle] at h_17; simp at h_17; omega⟩
          have h24 : 0 ≤ c.toInt ↔ (0 : Int32) ≤ c := by rw [zle]; exact Iff.rfl
          exact hSz hv (fun q => h_24 (h24.mp q))
      · skip
        refine zq (σ := σ) hV hI rfl 2 ?_
        show K (some (.int (-2))) σ
        refine hBad (fun q => ?_)
        have q3 := q.2.2
        simp only [zle] at h_17
        simp at h_17
        omega
    · skip
      refine zq (σ := σ) hV hI rfl 1 ?_
      show ((0 : Int32) = 0 → V 20 [(0, .ref 0), (1, .int s), (2, .int f), (3, .int c)] [] σ) ∧ (¬ (0 : Int32) = 0 → V 14 [(0, .ref 0), (1, .int s), (2, .int f), (3, .int c)] [] σ)
      refine ⟨fun _ => ?_, fun hc => absurd (by decide) hc⟩
      refine zq (σ := σ) hV hI rfl 2 ?_
      show K (some (.int (-2))) σ
      exact hBad (fun q => hb2 q.2.1)
  · skip
    refine zq (σ := σ) hV hI rfl 1 ?_
    show ((0 : Int32) = 0 → V 20 [(0, .ref 0), (1, .int s), (2, .int f), (3, .int c)] [] σ) ∧ (¬ (0 : Int32) = 0 → V 7 [(0, .ref 0), (1, .int s), (2, .int f), (3, .int c)] [] σ)
    refine ⟨fun _ => ?_, fun hc => absurd (by decide) hc⟩
    refine zq (σ := σ) hV hI rfl 2 ?_
    show K (some (.int (-2))) σ
    exact hBad (fun q => hb1 q.1)
set_option maxRecDepth 8000 in
set_option maxHeartbeats 4000000 in
theorem put_C {d : Nat} {σ : zSt} {K : Option Value → zSt → Prop} {s f i v : Int32} (hI : zQI (kR 0 30) σ.2.2) (hL : ∀ k, k < 4 → ∃ l, σ.1 28 k = nI l ∧ l ≤ 60) (hBad : ¬ (zBt 0 3 s ∧ zBt 0 2 f) → K (some (.int (-2))) σ) (hNull : ∀ k, (zBt 0 3 s ∧ zBt 0 2 f) → s = nI k → k < 4 → σ.1 27 k = -1 → K (some (.int (-10 - 1))) (zuI σ 26 3 1)) (hCast : ∀ k, (zBt 0 3 s ∧ zBt 0 2 f) → s = nI k → k < 4 → ¬ σ.1 27 k = -1 → ¬ σ.1 27 k = f → K (some (.int (-10 - 3))) (zuI σ 26 3 3))
    (hIndex : ∀ k l, (zBt 0 3 s ∧ zBt 0 2 f) → s = nI k → k < 4 → ¬ σ.1 27 k = -1 → σ.1 27 k = f → σ.1 28 k = nI l → ¬ zBt 0 (l - 1) i → K (some (.int (-10 - 2))) (zuI σ 26 3 2)) (hOk : ∀ k l j, (zBt 0 3 s ∧ zBt 0 2 f) → s = nI k → k < 4 → ¬ σ.1 27 k = -1 → σ.1 27 k = f → σ.1 28 k = nI l → l ≤ 60 → i = nI j → j < l → K (some (.int 1)) (zuI σ 29 (k * 60 + j) (zKp (σ.1 27 k) v))) : zSp zx (d + 5) mX8_put [.ref 0, .int s, .int f, .int i, .int v] σ K := by
  refine ⟨⟨by decide, Nat.le_of_ble_eq_true rfl⟩, fun V hV => ?_⟩
  refine zq (σ := σ) hV hI rfl 2 ?_
  show zSp _ _ 75 [.int s] σ (fun r σ' => σ'.2.2.2 = σ.2.2.2 + zAl 75 → V 4 [(0, .ref 0), (1, .int s), (2, .int f), (3, .int i), (4, .int v)] (r.toList ++ []) σ')
  refine isSheet_ok (fun hb1 _ => ?_) (fun hb1 _ => ?_)
  · skip
    refine zq (σ := σ) hV hI rfl 1 ?_
    show ((1 : Int32) = 0 → V 14 [(0, .ref 0), (1, .int s), (2, .int f), (3, .int i), (4, .int v)] [] σ) ∧ (¬ (1 : Int32) = 0 → V 7 [(0, .ref 0), (1, .int s), (2, .int f), (3, .int i), (4, .int v)] [] σ)
    refine ⟨fun hc => absurd hc (by decide), fun _ => ?_⟩
    refine zq (σ := σ) hV hI rfl 2 ?_
    show zSp _ _ 76 [.int f] σ (fun r σ' => σ'.2.2.2 = σ.2.2.2 + zAl 76 → V 11 [(0, .ref 0), (1, .int s), (2, .int f), (3, .int i), (4, .int v)] (r.toList ++ []) σ')
    refine isForm_ok (fun hb2 _ => ?_) (fun hb2 _ => ?_)
    · skip
      refine zq (σ := σ) hV hI rfl 1 ?_
      show (¬ (1 : Int32) = 0 → V 17 [(0, .ref 0), (1, .int s), (2, .int f), (3, .int i), (4, .int v)] [] σ) ∧ (¬ (¬ (1 : Int32) = 0) → V 14 [(0, .ref 0), (1, .int s), (2, .int f), (3, .int i), (4, .int v)] [] σ)
      refine ⟨fun _ => ?_, fun hc => absurd (by decide) hc⟩
      obtain ⟨k, hk, hk2, _⟩ := zNat (x := s) (by unfold zBt at hb1; omega)
      have hk4 : k < 4 := by unfold zBt at hb1; omega
      refine zq (σ := σ) hV hI rfl 6 ?_
      show zSp _ _ 35 [.ref 26, .int s, .int f, .int i] σ (fun r σ' => σ'.2.2.2 = σ.2.2.2 + zAl 35 → V 27 [(0, .ref 0), (1, .int s), (2, .int f), (3, .int i), (4, .int v)] (r.toList ++ []) σ')
      obtain ⟨l, hl, hl60⟩ := hL k hk4
      refine faultAt_ok (zR_of hI rfl rfl) hk (by omega) hl hl60 (fun f1 _ => ?_) (fun f1 f2 _ => ?_) (fun f1 f2 f3 _ => ?_) (fun f1 f2 f3 _ => ?_)
      · skip
        refine zq (σ := σ) hV hI rfl 3 ?_
        show ((1 : Int32) = 0 → V 44 [(5, .int 1), (0, .ref 0), (1, .int s), (2, .int f), (3, .int i), (4, .int v)] [] σ) ∧ (¬ (1 : Int32) = 0 → V 34 [(5, .int 1), (0, .ref 0), (1, .int s), (2, .int f), (3, .int i), (4, .int v)] [] σ)
        refine ⟨fun hc => absurd hc (by decide), fun _ => ?_⟩
        refine zq (σ := σ) hV hI rfl 4 ?_
        show zSp _ _ 27 [.ref 26, .int 1] σ (fun r σ' => σ'.2.2.2 = σ.2.2.2 + zAl 27 → V 43 [(5, .int 1), (0, .ref 0), (1, .int s), (2, .int f), (3, .int i), (4, .int v)] (r.toList ++ []) σ')
        refine find_ok (zR_of hI rfl rfl) (fun _ => ?_)
        refine zq (σ := (zuI σ 26 3 1)) hV hI rfl 1 ?_
        show K (some (.int ((-10) - 1))) (zuI σ 26 3 1)
        exact hNull k ⟨hb1, hb2⟩ hk hk4 f1
      · skip
        refine zq (σ := σ) hV hI rfl 3 ?_
        show ((3 : Int32) = 0 → V 44 [(5, .int 3), (0, .ref 0), (1, .int s), (2, .int f), (3, .int i), (4, .int v)] [] σ) ∧ (¬ (3 : Int32) = 0 → V 34 [(5, .int 3), (0, .ref 0), (1, .int s), (2, .int f), (3, .int i), (4, .int v)] [] σ)
        refine ⟨fun hc => absurd hc (by decide), fun _ => ?_⟩
        refine zq (σ := σ) hV hI rfl 4 ?_
        show zSp _ _ 27 [.ref 26, .int 3] σ (fun r σ' => σ'.2.2.2 = σ.2.2.2 + zAl 27 → V 43 [(5, .int 3), (0, .ref 0), (1, .int s), (2, .int f), (3, .int i), (4, .int v)] (r.toList ++ []) σ')
        refine find_ok (zR_of hI rfl rfl) (fun _ => ?_)
        refine zq (σ := (zuI σ 26 3 3)) hV hI rfl 1 ?_
        show K (some (.int ((-10) - 3))) (zuI σ 26 3 3)
        exact hCast k ⟨hb1, hb2⟩ hk hk4 f1 f2
      · skip
        refine zq (σ := σ) hV hI rfl 3 ?_
        show ((2 : Int32) = 0 → V 44 [(5, .int 2), (0, .ref 0), (1, .int s), (2, .int f), (3, .int i), (4, .int v)] [] σ) ∧ (¬ (2 : Int32) = 0 → V 34 [(5, .int 2), (0, .ref 0), (1, .int s), (2, .int f), (3, .int i), (4, .int v)] [] σ)
        refine ⟨fun hc => absurd hc (by decide), fun _ => ?_⟩
        refine zq (σ := σ) hV hI rfl 4 ?_
        show zSp _ _ 27 [.ref 26, .int 2] σ (fun r σ' => σ'.2.2.2 = σ.2.2.2 + zAl 27 → V 43 [(5, .int 2), (0, .ref 0), (1, .int s), (2, .int f), (3, .int i), (4, .int v)] (r.toList ++ []) σ')
        refine find_ok (zR_of hI rfl rfl) (fun _ => ?_)
        refine zq (σ := (zuI σ 26 3 2)) hV hI rfl 1 ?_
        show K (some (.int ((-10) - 2))) (zuI σ 26 3 2)
        exact hIndex k l ⟨hb1, hb2⟩ hk hk4 f1 f2 hl f3
      · skip
        obtain ⟨j, hj, hj2, _⟩ := zNat (x := i) (by unfold zBt at f3; omega)
        have hjl : j < l := by unfold zBt at f3; omega
        refine zq (σ := σ) hV hI rfl 3 ?_
        show ((0 : Int32) = 0 → V 44 [(5, .int 0), (0, .ref 0), (1, .int s), (2, .int f), (3, .int i), (4, .int v)] [] σ) ∧ (¬ (0 : Int32) = 0 → V 34 [(5, .int 0), (0, .ref 0), (1, .int s), (2, .int f), (3, .int i), (4, .int v)] [] σ)
        refine ⟨fun _ => ?_, fun hc => absurd (by decide) hc⟩
        refine zq (σ := σ) hV hI rfl 6 ?_
        show zSp _ _ 34 [.ref 26, .int s, .int i, .int v] σ (fun r σ' => σ'.2.2.2 = σ.2.2.2 + zAl 34 → V 55 [(5, .int 0), (0, .ref 0), (1, .int s), (2, .int f), (3, .int i), (4, .int v)] (r.toList ++ []) σ')
        refine write_ok (zR_of hI rfl rfl) hk (by omega) hj (by omega) (fun _ => ?_)
        refine zq (σ := (zuI σ 29 (k * 60 + j) (zKp (σ.1 27 k) v))) hV hI rfl 2 ?_
        show K (some (.int 1)) (zuI σ 29 (k * 60 + j) (zKp (σ.1 27 k) v))
        exact hOk k l j ⟨hb1, hb2⟩ hk hk4 f1 f2 hl hl60 hj hjl
    · skip
      refine zq (σ := σ) hV hI rfl 1 ?_
      show (¬ (0 : Int32) = 0 → V 17 [(0, .ref 0), (1, .int s), (2, .int f), (3, .int i), (4, .int v)] [] σ) ∧ (¬ (¬ (0 : Int32) = 0) → V 14 [(0, .ref 0), (1, .int s), (2, .int f), (3, .int i), (4, .int v)] [] σ)
      refine ⟨fun hc => absurd hc (by decide), fun _ => ?_⟩
      refine zq (σ := σ) hV hI rfl 2 ?_
      show K (some (.int (-2))) σ
      exact hBad (fun q => hb2 q.2)
  · skip
    refine zq (σ := σ) hV hI rfl 1 ?_
    show ((0 : Int32) = 0 → V 14 [(0, .ref 0), (1, .int s), (2, .int f), (3, .int i), (4, .int v)] [] σ) ∧ (¬ (0 : Int32) = 0 → V 7 [(0, .ref 0), (1, .int s), (2, .int f), (3, .int i), (4, .int v)] [] σ)
    refine ⟨fun _ => ?_, fun hc => absurd (by decide) hc⟩
    refine zq (σ := σ) hV hI rfl 2 ?_
    show K (some (.int (-2))) σ
    exact hBad (fun q => hb1 q.1)
end
section
theorem zge_self {n i : Nat} (h : n = i) : nI n ≤ nI i := by rw [h]; exact Int32.le_refl _
end
section
variable {zx : Nat × (Nat → Int32)}
/-- how many bits are set, as the library counts -/
def zBc (x : Int32) : Int32 := ((((((((x - ((Int32.toUInt32 x >>> (Int32.toUInt32 1 &&& Int32.toUInt32 31)).toInt32 &&& 1431655765)) &&& 858993459) + ((Int32.toUInt32 (x - ((Int32.toUInt32 x >>> (Int32.toUInt32 1 &&& Int32.toUInt32 31)).toInt32 &&& 1431655765)) >>> (Int32.toUInt32 2 &&& Int32.toUInt32 31)).toInt32 &&& 858993459)) + (Int32.toUInt32 (((x - ((Int32.toUInt32 x >>> (Int32.toUInt32 1 &&& Int32.toUInt32 31)).toInt32 &&& 1431655765)) &&& 858993459) + ((Int32.toUInt32 (x - ((Int32.toUInt32 x >>> (Int32.toUInt32 1 &&& Int32.toUInt32 31)).toInt32 &&& 1431655765)) >>> (Int32.toUInt32 2 &&& Int32.toUInt32 31)).toInt32 &&& 858993459)) >>> (Int32.toUInt32 4 &&& Int32.toUInt32 31)).toInt32) &&& 252645135) + (Int32.toUInt32 (((((x - ((Int32.toUInt32 x >>> (Int32.toUInt32 1 &&& Int32.toUInt32 31)).toInt32 &&& 1431655765)) &&& 858993459) + ((Int32.toUInt32 (x - ((Int32.toUInt32 x >>> (Int32.toUInt32 1 &&& Int32.toUInt32 31)).toInt32 &&& 1431655765)) >>> (Int32.toUInt32 2 &&& Int32.toUInt32 31)).toInt32 &&& 858993459)) + (Int32.toUInt32 (((x - ((Int32.toUInt32 x >>> (Int32.toUInt32 1 &&& Int32.toUInt32 31)).toInt32 &&& 1431655765)) &&& 858993459) + ((Int32.toUInt32 (x - ((Int32.toUInt32 x >>> (Int32.toUInt32 1 &&& Int32.toUInt32 31)).toInt32 &&& 1431655765)) >>> (Int32.toUInt32 2 &&& Int32.toUInt32 31)).toInt32 &&& 858993459)) >>> (Int32.toUInt32 4 &&& Int32.toUInt32 31)).toInt32) &&& 252645135) >>> (Int32.toUInt32 8 &&& Int32.toUInt32 31)).toInt32) + (Int32.toUInt32 ((((((x - ((Int32.toUInt32 x >>> (Int32.toUInt32 1 &&& Int32.toUInt32 31)).toInt32 &&& 1431655765)) &&& 858993459) + ((Int32.toUInt32 (x - ((Int32.toUInt32 x >>> (Int32.toUInt32 1 &&& Int32.toUInt32 31)).toInt32 &&& 1431655765)) >>> (Int32.toUInt32 2 &&& Int32.toUInt32 31)).toInt32 &&& 858993459)) + (Int32.toUInt32 (((x - ((Int32.toUInt32 x >>> (Int32.toUInt32 1 &&& Int32.toUInt32 31)).toInt32 &&& 1431655765)) &&& 858993459) + ((Int32.toUInt32 (x - ((Int32.toUInt32 x >>> (Int32.toUInt32 1 &&& Int32.toUInt32 31)).toInt32 &&& 1431655765)) >>> (Int32.toUInt32 2 &&& Int32.toUInt32 31)).toInt32 &&& 858993459)) >>> (Int32.toUInt32 4 &&& Int32.toUInt32 31)).toInt32) &&& 252645135) + (Int32.toUInt32 (((((x - ((Int32.toUInt32 x >>> (Int32.toUInt32 1 &&& Int32.toUInt32 31)).toInt32 &&& 1431655765)) &&& 858993459) + ((Int32.toUInt32 (x - ((Int32.toUInt32 x >>> (Int32.toUInt32 1 &&& Int32.toUInt32 31)).toInt32 &&& 1431655765)) >>> (Int32.toUInt32 2 &&& Int32.toUInt32 31)).toInt32 &&& 858993459)) + (Int32.toUInt32 (((x - ((Int32.toUInt32 x >>> (Int32.toUInt32 1 &&& Int32.toUInt32 31)).toInt32 &&& 1431655765)) &&& 858993459) + ((Int32.toUInt32 (x - ((Int32.toUInt32 x >>> (Int32.toUInt32 1 &&& Int32.toUInt32 31)).toInt32 &&& 1431655765)) >>> (Int32.toUInt32 2 &&& Int32.toUInt32 31)).toInt32 &&& 858993459)) >>> (Int32.toUInt32 4 &&& Int32.toUInt32 31)).toInt32) &&& 252645135) >>> (Int32.toUInt32 8 &&& Int32.toUInt32 31)).toInt32) >>> (Int32.toUInt32 16 &&& Int32.toUInt32 31)).toInt32) &&& 63)
set_option maxRecDepth 8000 in
set_option maxHeartbeats 4000000 in
theorem bits_ok {d : Nat} {σ : zSt} {K : Option Value → zSt → Prop} {x : Int32} (hK : K (some (.int (zBc x))) σ) : zSp zx (d + 1) mJ6_bitCount_0f7a4 [.int x] σ K := by
  refine ⟨⟨by decide, Nat.le_of_ble_eq_true rfl⟩, fun V hV => ?_⟩
  refine zq (σ := σ) hV zQI_0 rfl 42 ?_
  show K (some (.int ((((((((x - ((Int32.toUInt32 x >>> (Int32.toUInt32 1 &&& Int32.toUInt32 31)).toInt32 &&& 1431655765)) &&& 858993459) + ((Int32.toUInt32 (x - ((Int32.toUInt32 x >>> (Int32.toUInt32 1 &&& Int32.toUInt32 31)).toInt32 &&& 1431655765)) >>> (Int32.toUInt32 2 &&& Int32.toUInt32 31)).toInt32 &&& 858993459)) + (Int32.toUInt32 (((x - ((Int32.toUInt32 x >>> (Int32.toUInt32 1 &&& Int32.toUInt32 31)).toInt32 &&& 1431655765)) &&& 858993459) + ((Int32.toUInt32 (x - ((Int32.toUInt32 x >>> (Int32.toUInt32 1 &&& Int32.toUInt32 31)).toInt32 &&& 1431655765)) >>> (Int32.toUInt32 2 &&& Int32.toUInt32 31)).toInt32 &&& 858993459)) >>> (Int32.toUInt32 4 &&& Int32.toUInt32 31)).toInt32) &&& 252645135) + (Int32.toUInt32 (((((x - ((Int32.toUInt32 x >>> (Int32.toUInt32 1 &&& Int32.toUInt32 31)).toInt32 &&& 1431655765)) &&& 858993459) + ((Int32.toUInt32 (x - ((Int32.toUInt32 x >>> (Int32.toUInt32 1 &&& Int32.toUInt32 31)).toInt32 &&& 1431655765)) >>> (Int32.toUInt32 2 &&& Int32.toUInt32 31)).toInt32 &&& 858993459)) + (Int32.toUInt32 (((x - ((Int32.toUInt32 x >>> (Int32.toUInt32 1 &&& Int32.toUInt32 31)).toInt32 &&& 1431655765)) &&& 858993459) + ((Int32.toUInt32 (x - ((Int32.toUInt32 x >>> (Int32.toUInt32 1 &&& Int32.toUInt32 31)).toInt32 &&& 1431655765)) >>> (Int32.toUInt32 2 &&& Int32.toUInt32 31)).toInt32 &&& 858993459)) >>> (Int32.toUInt32 4 &&& Int32.toUInt32 31)).toInt32) &&& 252645135) >>> (Int32.toUInt32 8 &&& Int32.toUInt32 31)).toInt32) + (Int32.toUInt32 ((((((x - ((Int32.toUInt32 x >>> (Int32.toUInt32 1 &&& Int32.toUInt32 31)).toInt32 &&& 1431655765)) &&& 858993459) + ((Int32.toUInt32 (x - ((Int32.toUInt32 x >>> (Int32.toUInt32 1 &&& Int32.toUInt32 31)).toInt32 &&& 1431655765)) >>> (Int32.toUInt32 2 &&& Int32.toUInt32 31)).toInt32 &&& 858993459)) + (Int32.toUInt32 (((x - ((Int32.toUInt32 x >>> (Int32.toUInt32 1 &&& Int32.toUInt32 31)).toInt32 &&& 1431655765)) &&& 858993459) + ((Int32.toUInt32 (x - ((Int32.toUInt32 x >>> (Int32.toUInt32 1 &&& Int32.toUInt32 31)).toInt32 &&& 1431655765)) >>> (Int32.toUInt32 2 &&& Int32.toUInt32 31)).toInt32 &&& 858993459)) >>> (Int32.toUInt32 4 &&& Int32.toUInt32 31)).toInt32) &&& 252645135) + (Int32.toUInt32 (((((x - ((Int32.toUInt32 x >>> (Int32.toUInt32 1 &&& Int32.toUInt32 31)).toInt32 &&& 1431655765)) &&& 858993459) + ((Int32.toUInt32 (x - ((Int32.toUInt32 x >>> (Int32.toUInt32 1 &&& Int32.toUInt32 31)).toInt32 &&& 1431655765)) >>> (Int32.toUInt32 2 &&& Int32.toUInt32 31)).toInt32 &&& 858993459)) + (Int32.toUInt32 (((x - ((Int32.toUInt32 x >>> (Int32.toUInt32 1 &&& Int32.toUInt32 31)).toInt32 &&& 1431655765)) &&& 858993459) + ((Int32.toUInt32 (x - ((Int32.toUInt32 x >>> (Int32.toUInt32 1 &&& Int32.toUInt32 31)).toInt32 &&& 1431655765)) >>> (Int32.toUInt32 2 &&& Int32.toUInt32 31)).toInt32 &&& 858993459)) >>> (Int32.toUInt32 4 &&& Int32.toUInt32 31)).toInt32) &&& 252645135) >>> (Int32.toUInt32 8 &&& Int32.toUInt32 31)).toInt32) >>> (Int32.toUInt32 16 &&& Int32.toUInt32 31)).toInt32) &&& 63))) σ
  exact hK
set_option maxRecDepth 8000 in
set_option maxHeartbeats 4000000 in
theorem bsize_ok {d : Nat} {σ : zSt} {K : Option Value → zSt → Prop} (hI : zQI (kR 24 26) σ.2.2) (hK : K (some (.int (zBc (σ.1 24 1)))) σ) : zSp zx (d + 2) mX0_size [.ref 24] σ K := by
  refine ⟨⟨by decide, Nat.le_of_ble_eq_true rfl⟩, fun V hV => ?_⟩
  refine zq (σ := σ) hV hI rfl 3 ?_
  show zSp _ _ 81 [.int (σ.1 24 1)] σ (fun r σ' => σ'.2.2.2 = σ.2.2.2 + zAl 81 → V 7 [(0, .ref 24)] (r.toList ++ []) σ')
  refine bits_ok  (fun _ => ?_)
  refine zq (σ := σ) hV hI rfl 1 ?_
  show K (some (.int (zBc (σ.1 24 1)))) σ
  exact hK
end
section
variable {zx : Nat × (Nat → Int32)}
theorem zHo_congr {n : Nat} {X Y : Nat → Int32} {f : Int32} {E S E' S' : Nat → Int32} {m : Nat} (h : ∀ i, i < m → E i = E' i ∧ S i = S' i) : zHo n X Y f E S m ↔ zHo n X Y f E' S' m := zHold_congr (fun t ht => by
  have hi : zTi f t < m := by unfold zMl at ht; unfold zTi; by_cases q : f = 0 <;> simp only [q, if_true, if_false] at ht ⊢ <;> omega
  obtain ⟨h1, h2⟩ := h _ hi
  have h3 : zEd E (zTi f t) = zEd E' (zTi f t) := by unfold zEd; rw [h1]
  simp only [zl, zT3, zT1, zT2, h3, h2, and_self])
noncomputable def zDc (q : Prop) : Bool := @decide q (Classical.propDecidable q)
theorem zDc_t {q : Prop} (h : q) : zDc q = true := by unfold zDc; exact @decide_eq_true q (Classical.propDecidable q) h
theorem zDc_f {q : Prop} (h : ¬ q) : zDc q = false := by unfold zDc; exact @decide_eq_false q (Classical.propDecidable q) h
theorem zDc_i {q : Prop} : zDc q = true ↔ q := by
  rcases Classical.em q with h | h
  · exact ⟨fun _ => h, fun _ => zDc_t h⟩
  · exact ⟨fun e => absurd ((zDc_f h).symm.trans e) (by decide), fun e => absurd e h⟩
theorem zDc_congr {q q' : Prop} (h : q ↔ q') : zDc q = zDc q' := by rw [propext h]
def zfC (a _j : Nat) : Bool := Nat.ble 7 a && Nat.ble a 13
theorem zfW_C (a j : Nat) (h : zfC a j = false) : zfW a j = false := by
  unfold zfC at h; unfold zfW
  rw [Bool.and_eq_false_iff] at h
  rw [Bool.or_eq_false_iff, Bool.and_eq_false_iff, Bool.and_eq_false_iff]
  have c1 : ∀ x y, Nat.ble x y = false ↔ y < x := fun x y => by rw [← Bool.not_eq_true, Nat.ble_eq]; omega
  have c2 : Nat.beq a 10 = false ↔ a ≠ 10 := by rw [← Bool.not_eq_true, Nat.beq_eq]
  simp only [c1, c2] at h ⊢
  omega
theorem zf7_C (a j : Nat) (h : zfC a j = false) : zf7 a j = false := by
  unfold zfC at h; unfold zf7
  rw [Bool.and_eq_false_iff] at h ⊢
  have c1 : ∀ x y, Nat.ble x y = false ↔ y < x := fun x y => by rw [← Bool.not_eq_true, Nat.ble_eq]; omega
  simp only [c1] at h ⊢
  omega
theorem heldT {d : Nat} {σ τ : zSt} {K : Option Value → zSt → Prop} {n m : Nat} {E S : Nat → Int32} (hI : zQI (kR 0 30) σ.2.2) (hn : σ.1 1 2 = nI n) (hn10 : n ≤ 10) (ht : zOnly zfC σ τ) (hs : τ.1 7 2 = nI m) (hm : m ≤ 8) (hES : ∀ i, i < m → τ.1 8 i = E i ∧ τ.1 9 i = S i) (hE : ∀ i, i < m → ∃ e, E i = nI e ∧ e < n)
    (h1 : ∀ υ, zOnly zfC σ υ → υ.1 7 2 = nI m → (∀ i, υ.1 8 i = τ.1 8 i ∧ υ.1 9 i = τ.1 9 i) → zHo n (σ.1 2) (σ.1 3) (σ.1 0 9) E S m → K (some (.int 1)) υ)
    (h0 : ∀ υ, zOnly zfC σ υ → υ.1 7 2 = nI m → (∀ i, υ.1 8 i = τ.1 8 i ∧ υ.1 9 i = τ.1 9 i) → ¬ zHo n (σ.1 2) (σ.1 3) (σ.1 0 9) E S m → K (some (.int 0)) υ) : zSp zx (d + 4) mX8_isHeldBy [.ref 0, .ref 7] τ K := by
  have hX : τ.1 2 = σ.1 2 := funext fun j => ht.1 2 j rfl
  have hY : τ.1 3 = σ.1 3 := funext fun j => ht.1 3 j rfl
  have hF : τ.1 0 9 = σ.1 0 9 := ht.1 0 9 rfl
  have hC : zHo n (τ.1 2) (τ.1 3) (τ.1 0 9) (τ.1 8) (τ.1 9) m ↔ zHo n (σ.1 2) (σ.1 3) (σ.1 0 9) E S m := by rw [hX, hY, hF]; exact zHo_congr hES
  refine isHeldBy_7 (zQI_eq hI ht.2.2) ((ht.1 1 2 rfl).trans hn) hn10 hs hm (fun i hi => by rw [(hES i hi).1]; exact hE i hi) (fun υ hu q => ?_) (fun υ hu q => ?_)
  · exact h1 υ (ht.tr (hu.wk zfW_C)) ((hu.1 7 2 rfl).trans hs) (fun i => ⟨hu.1 8 i rfl, hu.1 9 i rfl⟩) (hC.mp q)
  · exact h0 υ (ht.tr (hu.wk zfW_C)) ((hu.1 7 2 rfl).trans hs) (fun i => ⟨hu.1 8 i rfl, hu.1 9 i rfl⟩) (fun x => q (hC.mpr x))
def zFr (P : Nat → Bool) : Nat → Nat → Int32 → Int32
  | 0, _, x => x
  | r + 1, k, x => zFr P r (k + 1) (if P k = true then x ||| (1 <<< (nI k &&& 31)) else x)
/-- where one finger may stand: bits -/
noncomputable def zFree (n : Nat) (X Y : Nat → Int32) (f : Int32) (E S : Nat → Int32) (m v : Nat) : Int32 := zFr (fun k => zDc (zHo n X Y f E (upd S v (nI k)) m)) 9 0 0
theorem z8_ge {k : Nat} (h : k < 9) : ¬ (8 : Int32) < nI k := by rw [zlt, nI_toInt (by omega)]; have := zT_lits.2.2.2.2.1; omega
set_option maxRecDepth 8000 in
set_option maxHeartbeats 4000000 in
theorem free_C {d : Nat} {σ : zSt} {K : Option Value → zSt → Prop} {v : Int32} {n m : Nat} (hI : zQI (kR 0 30) σ.2.2) (hn : σ.1 1 2 = nI n) (hn10 : n ≤ 10) (hs : σ.1 4 2 = nI m) (hm : m ≤ 8) (hE : ∀ i, i < m → ∃ e, σ.1 5 i = nI e ∧ e < n) (hBad : ¬ zBt 0 (m - 1) v → K (some (.int (-2))) σ) (hOk : ∀ τ j, zOnly zfC σ τ → v = nI j → j < m → K (some (.int (zFree n (σ.1 2) (σ.1 3) (σ.1 0 9) (σ.1 5) (σ.1 6) m j))) τ) : zSp zx (d + 5) mX8_free [.ref 0, .int v] σ K := by
  refine ⟨⟨by decide, Nat.le_of_ble_eq_true rfl⟩, fun V hV => ?_⟩
  refine zq (σ := σ) hV hI rfl 3 ?_
  show zSp _ _ 78 [.ref 0, .int v] σ (fun r σ' => σ'.2.2.2 = σ.2.2.2 + zAl 78 → V 5 [(0, .ref 0), (1, .int v)] (r.toList ++ []) σ')
  refine isFinger_ok (zR_of hI rfl rfl) hs (by omega) (fun hb1 _ => ?_) (fun hb1 _ => ?_)
  · skip
    refine zq (σ := σ) hV hI rfl 1 ?_
    show (¬ (1 : Int32) = 0 → V 11 [(0, .ref 0), (1, .int v)] [] σ) ∧ (¬ (¬ (1 : Int32) = 0) → V 8 [(0, .ref 0), (1, .int v)] [] σ)
    refine ⟨fun _ => ?_, fun hc => absurd (by decide) hc⟩
    obtain ⟨j, hj, hj2, _⟩ := zNat (x := v) (by unfold zBt at hb1; omega)
    have hjm : j < m := by unfold zBt at hb1; omega
    refine zq (σ := σ) hV hI rfl 5 ?_
    show zSp _ _ 12 [.ref 7, .ref 4] σ (fun r σ' => σ'.2.2.2 = σ.2.2.2 + zAl 12 → V 22 [(0, .ref 0), (1, .int v)] (r.toList ++ []) σ')
    refine become_ok (zR_of hI rfl rfl) hs (by omega) (fun τ ht0 h7 hES _ => ?_)
    have ht := ht0.wk zf7_C
    have hIτ := zQI_eq hI ht.2.2
    have hnτ : τ.2.2.2 = σ.2.2.2 := congrArg Prod.snd ht.2.2
    refine zq (σ := τ) hV hIτ hnτ 4 ?_
    show V 26 [(3, .int 0), (2, .int 0), (0, .ref 0), (1, .int v)] [] τ
    refine zwk hV [2, 3, 1, 0] rfl ?_
    have Hk : ∀ (r : Nat) (k : Nat) (x : Int32) (τ : zSt), k + r = 9 → zOnly zfC σ τ → τ.1 7 2 = nI m → (∀ i, i < m → τ.1 8 i = σ.1 5 i ∧ (¬ i = j → τ.1 9 i = σ.1 6 i)) → zFr (fun k => zDc (zHo n (σ.1 2) (σ.1 3) (σ.1 0 9) (σ.1 5) (upd (σ.1 6) j (nI k)) m)) r k x = zFree n (σ.1 2) (σ.1 3) (σ.1 0 9) (σ.1 5) (σ.1 6) m j → V 26 [(0, .ref 0), (1, .int v), (2, .int x), (3, .int (nI k))] [] τ := by
      intro r
      induction r with
      | zero =>
        intro k x τ hkr ht h7 hES hfin
        have hIτ := zQI_eq hI ht.2.2
        have hnτ : τ.2.2.2 = σ.2.2.2 := congrArg Prod.snd ht.2.2
        refine zq (σ := τ) hV hIτ hnτ 3 ?_
        show (8 < (nI k) → V 72 [(0, .ref 0), (1, .int v), (2, .int x), (3, .int (nI k))] [] τ) ∧ (¬ 8 < (nI k) → V 32 [(0, .ref 0), (1, .int v), (2, .int x), (3, .int (nI k))] [] τ)
        refine ⟨fun _ => ?_, fun hc => absurd (show (8 : Int32) < nI k by rw [show k = 9 by omega]; decide) hc⟩
        refine zq (σ := τ) hV hIτ hnτ 2 ?_
        show K (some (.int x)) τ
        replace hfin : x = _ := hfin
        rw [hfin]
        exact hOk τ j ht hj hjm
      | succ r ihk =>
        intro k x τ hkr ht h7 hES hfin
        have hIτ := zQI_eq hI ht.2.2
        have hnτ : τ.2.2.2 = σ.2.2.2 := congrArg Prod.snd ht.2.2
        refine zq (σ := τ) hV hIτ hnτ 3 ?_
        show (8 < (nI k) → V 72 [(0, .ref 0), (1, .int v), (2, .int x), (3, .int (nI k))] [] τ) ∧ (¬ 8 < (nI k) → V 32 [(0, .ref 0), (1, .int v), (2, .int x), (3, .int (nI k))] [] τ)
        refine ⟨fun hc => absurd hc (show ¬ (8 : Int32) < nI k from z8_ge (by omega)), fun _ => ?_⟩
        refine zq (σ := τ) hV hIτ hnτ 7 ?_
        show zSp _ _ 7 [.ref 4, .int v] τ (fun r σ' => σ'.2.2.2 = τ.2.2.2 + zAl 7 → V 45 [(0, .ref 0), (1, .int v), (2, .int x), (3, .int (nI k))] (r.toList ++ [.int v, .ref 7]) σ')
        refine hedge_4 (zR_of hIτ rfl rfl) hj (by omega) (fun _ => ?_)
        refine zq (σ := τ) hV hIτ hnτ 2 ?_
        show zSp _ _ 11 [.ref 7, .int v, .int (τ.1 5 j), .int (nI k)] τ (fun r σ' => σ'.2.2.2 = τ.2.2.2 + zAl 11 → V 49 [(0, .ref 0), (1, .int v), (2, .int x), (3, .int (nI k))] (r.toList ++ []) σ')
        refine hstand_7 (zR_of hIτ rfl rfl) hj (by omega) (fun _ => ?_)
        refine zq (σ := (zuI (zuI τ 8 j (τ.1 5 j)) 9 j (nI k))) hV hIτ hnτ 4 ?_
        show zSp _ _ 65 [.ref 0, .ref 7] (zuI (zuI τ 8 j (τ.1 5 j)) 9 j (nI k)) (fun r σ' => σ'.2.2.2 = (zuI (zuI τ 8 j (τ.1 5 j)) 9 j (nI k)).2.2.2 + zAl 65 → V 57 [(0, .ref 0), (1, .int v), (2, .int x), (3, .int (nI k))] (r.toList ++ []) σ')
        have hE8 : τ.1 5 j = σ.1 5 j := ht.1 5 j rfl
        refine heldT hI hn hn10 (E := σ.1 5) (S := upd (σ.1 6) j (nI k)) ((ht.uI rfl).uI rfl) h7 hm (fun i hi => ?_) hE (fun υ hu hu7 hue hq _ => ?_) (fun υ hu hu7 hue hq _ => ?_)
        · simp only [zuI_get]
          unfold upd
          by_cases e : i = j
          · subst e; simp [hE8]
          · have := hES i hi; simp [e, this]
        · skip
          have hIυ := zQI_eq hI hu.2.2
          have hnυ : υ.2.2.2 = σ.2.2.2 := congrArg Prod.snd hu.2.2
          refine zq (σ := υ) hV hIυ hnυ 1 ?_
          show ((1 : Int32) = 0 → V 66 [(0, .ref 0), (1, .int v), (2, .int x), (3, .int (nI k))] [] υ) ∧ (¬ (1 : Int32) = 0 → V 60 [(0, .ref 0), (1, .int v), (2, .int x), (3, .int (nI k))] [] υ)
          refine ⟨fun hc => absurd hc (by decide), fun _ => ?_⟩
          refine zq (σ := υ) hV hIυ hnυ 8 ?_
          show V 26 [(3, .int ((nI k) + 1)), (2, .int (x ||| (1 <<< ((nI k) &&& 31)))), (0, .ref 0), (1, .int v)] [] υ
          refine zwk hV [2, 3, 1, 0] rfl ?_
          rw [nI_1]
          refine ihk (k + 1) _ υ (by omega) hu hu7 (fun i hi => ?_) ?_
          · rw [(hue i).1, (hue i).2, zuI_get, zuI_get, zuI_get, zuI_get]
            by_cases e : i = j
            · subst e; simp [hE8]
            · have := hES i hi; simp [e, this]
          · rw [← hfin]
            show _ = zFr (fun k => zDc (zHo n (σ.1 2) (σ.1 3) (σ.1 0 9) (σ.1 5) (upd (σ.1 6) j (nI k)) m)) r (k + 1) (if zDc (zHo n (σ.1 2) (σ.1 3) (σ.1 0 9) (σ.1 5) (upd (σ.1 6) j (nI k)) m) = true then x ||| (1 <<< (nI k &&& 31)) else x)
            rw [zDc_t hq, if_pos rfl]
        · skip
          have hIυ := zQI_eq hI hu.2.2
          have hnυ : υ.2.2.2 = σ.2.2.2 := congrArg Prod.snd hu.2.2
          refine zq (σ := υ) hV hIυ hnυ 1 ?_
          show ((0 : Int32) = 0 → V 66 [(0, .ref 0), (1, .int v), (2, .int x), (3, .int (nI k))] [] υ) ∧ (¬ (0 : Int32) = 0 → V 60 [(0, .ref 0), (1, .int v), (2, .int x), (3, .int (nI k))] [] υ)
          refine ⟨fun _ => ?_, fun hc => absurd (by decide) hc⟩
          refine zq (σ := υ) hV hIυ hnυ 2 ?_
          show V 26 [(3, .int ((nI k) + 1)), (0, .ref 0), (1, .int v), (2, .int x)] [] υ
          refine zwk hV [1, 2, 3, 0] rfl ?_
          rw [nI_1]
          refine ihk (k + 1) _ υ (by omega) hu hu7 (fun i hi => ?_) ?_
          · rw [(hue i).1, (hue i).2, zuI_get, zuI_get, zuI_get, zuI_get]
            by_cases e : i = j
            · subst e; simp [hE8]
            · have := hES i hi; simp [e, this]
          · rw [← hfin]
            show _ = zFr (fun k => zDc (zHo n (σ.1 2) (σ.1 3) (σ.1 0 9) (σ.1 5) (upd (σ.1 6) j (nI k)) m)) r (k + 1) (if zDc (zHo n (σ.1 2) (σ.1 3) (σ.1 0 9) (σ.1 5) (upd (σ.1 6) j (nI k)) m) = true then x ||| (1 <<< (nI k &&& 31)) else x)
            rw [zDc_f hq, if_neg (by decide)]
    exact Hk 9 0 0 τ rfl ht h7 (fun i hi => ⟨(hES i hi).1, fun _ => (hES i hi).2⟩) rfl
  · skip
    refine zq (σ := σ) hV hI rfl 1 ?_
    show (¬ (0 : Int32) = 0 → V 11 [(0, .ref 0), (1, .int v)] [] σ) ∧ (¬ (¬ (0 : Int32) = 0) → V 8 [(0, .ref 0), (1, .int v)] [] σ)
    refine ⟨fun hc => absurd hc (by decide), fun _ => ?_⟩
    refine zq (σ := σ) hV hI rfl 2 ?_
    show K (some (.int (-2))) σ
    exact hBad hb1
end
section
variable {zx : Nat × (Nat → Int32)}
/-- bit i of a set -/
def zbt (s : Int32) (i : Nat) : Int32 := (s >>> (nI i &&& 31)) &&& 1
def zcn (s : Int32) : Nat → Nat
  | 0 => 0
  | i + 1 => if zbt s i = 0 then zcn s i else zcn s i + 1
theorem zcn_le (s : Int32) : ∀ i, zcn s i ≤ i
  | 0 => Nat.le_refl _
  | i + 1 => by have := zcn_le s i; unfold zcn; split <;> omega
theorem zcn_mono (s : Int32) {i j : Nat} (h : i ≤ j) : zcn s i ≤ zcn s j := by
  induction j with
  | zero => have : i = 0 := by omega
            subst this; exact Nat.le_refl _
  | succ j ih =>
    by_cases q : i = j + 1
    · subst q; exact Nat.le_refl _
    · have h2 := ih (by omega)
      show zcn s i ≤ (if zbt s j = 0 then zcn s j else zcn s j + 1)
      split <;> omega
/-- what is laid out of a row by a set -/
def zLy (s : Int32) (E : Nat → Int32) : Nat → Nat → Int32
  | 0 => fun _ => 0
  | i + 1 => if zbt s i = 0 then zLy s E i else upd (zLy s E i) (zcn s i) (E i)
theorem zLy_in {s : Int32} {E : Nat → Int32} {n : Nat} : ∀ {k : Nat}, (∀ j, j < k → ∃ e, E j = nI e ∧ e < n) → ∀ q, q < zcn s k → ∃ e, zLy s E k q = nI e ∧ e < n
  | 0, _, q, hq => absurd hq (Nat.not_lt_zero q)
  | k + 1, h, q, hq => by
    unfold zcn at hq; unfold zLy
    by_cases c : zbt s k = 0
    · rw [if_pos c] at hq ⊢; exact zLy_in (fun j hj => h j (by omega)) q hq
    · rw [if_neg c] at hq ⊢
      unfold upd
      by_cases e : q = zcn s k
      · rw [if_pos e]; exact h k (by omega)
      · rw [if_neg e]; exact zLy_in (fun j hj => h j (by omega)) q (by omega)
def zPx (s : Int32) (P : Nat → Int32) : Nat → Int32
  | 0 => 0
  | i + 1 => if zbt s i = 0 then zPx s P i else zPx s P i + P i
def zBet (P : Nat → Int32) (k : Nat) (s t : Int32) : Bool := decide (0 < zPx t P k - zPx s P k ∨ (zPx t P k - zPx s P k = 0 ∧ zBc s < zBc t))
def zCp (H : Int32 → Bool) (B : Int32 → Int32 → Bool) : Nat → Nat → Int32 → Int32
  | 0, _, b => b
  | r + 1, i, b => zCp H B r (i + 1) (if (b = -1 ∨ B (nI i) b = true) ∧ H (nI i) = true then nI i else b)
/-- whether the spots of a set hold -/
noncomputable def zSpH (n : Nat) (X Y : Nat → Int32) (f : Int32) (E S : Nat → Int32) (k : Nat) (s : Int32) : Bool := zDc (zHo n X Y f (zLy s E k) (zLy s S k) (zcn s k))
/-- the cheapest set -/
noncomputable def zChe (n : Nat) (X Y : Nat → Int32) (f : Int32) (E S P : Nat → Int32) (k : Nat) : Int32 := zCp (zSpH n X Y f E S k) (zBet P k) (2 ^ k - 1) 1 (-1)
theorem zshl {k : Nat} (h : k ≤ 7) : (1 : Int32) <<< (nI k &&& 31) = nI (2 ^ k) := by
  rcases (show k = 0 ∨ k = 1 ∨ k = 2 ∨ k = 3 ∨ k = 4 ∨ k = 5 ∨ k = 6 ∨ k = 7 by omega) with h | h | h | h | h | h | h | h <;> subst h <;> decide
theorem z2k {k : Nat} (h : k ≤ 7) : 2 ^ k ≤ 128 ∧ 1 ≤ 2 ^ k := by
  rcases (show k = 0 ∨ k = 1 ∨ k = 2 ∨ k = 3 ∨ k = 4 ∨ k = 5 ∨ k = 6 ∨ k = 7 by omega) with h | h | h | h | h | h | h | h <;> subst h <;> decide
def zfL (h c a j : Nat) : Bool := (Nat.beq a h && Nat.beq j 2) || ((Nat.beq a (h + 1) || Nat.beq a (h + 2)) && Nat.blt j c)
set_option maxRecDepth 8000 in
set_option maxHeartbeats 4000000 in
theorem price_ok {d : Nat} {σ : zSt} {K : Option Value → zSt → Prop} {s : Int32} {k : Nat} (hI : zQI (kR 14 18) σ.2.2) (hs : σ.1 14 3 = nI k) (hk : k ≤ 7) (hK : K (some (.int (zPx s (σ.1 17) k))) σ) : zSp zx (d + 2) mX6_price [.ref 14, .int s] σ K := by
  refine ⟨⟨by decide, Nat.le_of_ble_eq_true rfl⟩, fun V hV => ?_⟩
  refine zq (σ := σ) hV hI rfl 4 ?_
  show V 4 [(3, .int 0), (2, .int 0), (0, .ref 14), (1, .int s)] [] σ
  refine zwk hV [2, 3, 1, 0] rfl ?_
  have Hi : ∀ (r : Nat) (i : Nat) (x : Int32), i + r = k → x = zPx s (σ.1 17) i → V 4 [(0, .ref 14), (1, .int s), (2, .int x), (3, .int (nI i))] [] σ := by
    intro r
    induction r with
    | zero =>
      intro i x hir hx
      refine zq (σ := σ) hV hI rfl 4 ?_
      show ((σ.1 14 3) ≤ (nI i) → V 37 [(0, .ref 14), (1, .int s), (2, .int x), (3, .int (nI i))] [] σ) ∧ (¬ (σ.1 14 3) ≤ (nI i) → V 12 [(0, .ref 14), (1, .int s), (2, .int x), (3, .int (nI i))] [] σ)
      refine ⟨fun _ => ?_, fun hc => absurd (show (σ.1 14 3) ≤ nI i by rw [hs]; exact zge_self (by omega)) hc⟩
      refine zq (σ := σ) hV hI rfl 2 ?_
      show K (some (.int x)) σ
      obtain rfl : i = k := by omega
      rw [hx]
      exact hK
    | succ r ihi =>
      intro i x hir hx
      refine zq (σ := σ) hV hI rfl 4 ?_
      show ((σ.1 14 3) ≤ (nI i) → V 37 [(0, .ref 14), (1, .int s), (2, .int x), (3, .int (nI i))] [] σ) ∧ (¬ (σ.1 14 3) ≤ (nI i) → V 12 [(0, .ref 14), (1, .int s), (2, .int x), (3, .int (nI i))] [] σ)
      refine ⟨fun hc => absurd hc (show ¬ (σ.1 14 3) ≤ nI i by rw [hs]; exact nI_ge (by omega) (by omega)), fun _ => ?_⟩
      refine zq (σ := σ) hV hI rfl 6 ?_
      show (((s >>> ((nI i) &&& 31)) &&& 1) = 0 → V 31 [(0, .ref 14), (1, .int s), (2, .int x), (3, .int (nI i))] [] σ) ∧ (¬ ((s >>> ((nI i) &&& 31)) &&& 1) = 0 → V 20 [(0, .ref 14), (1, .int s), (2, .int x), (3, .int (nI i))] [] σ)
      refine ⟨fun h_17 => ?_, fun h_17 => ?_⟩
      · skip
        refine zq (σ := σ) hV hI rfl 2 ?_
        show V 4 [(3, .int ((nI i) + 1)), (0, .ref 14), (1, .int s), (2, .int x)] [] σ
        refine zwk hV [1, 2, 3, 0] rfl ?_
        rw [nI_1]
        refine ihi (i + 1) _ (by omega) ?_
        show _ = (if zbt s i = 0 then zPx s (σ.1 17) i else zPx s (σ.1 17) i + σ.1 17 i)
        have c : zbt s i = 0 := h_17
        rw [if_pos c]
        exact hx
      · skip
        refine zq (σ := σ) hV hI rfl 5 ?_
        show zSp _ _ 79 [.ref 17, .int (nI i)] σ (fun r σ' => σ'.2.2.2 = σ.2.2.2 + zAl 79 → V 29 [(0, .ref 14), (1, .int s), (2, .int x), (3, .int (nI i))] (r.toList ++ [.int x]) σ')
        refine item_17 (zA_of hI rfl) rfl (by omega) (fun _ => ?_)
        refine zq (σ := σ) hV hI rfl 4 ?_
        show V 4 [(3, .int ((nI i) + 1)), (2, .int (x + (σ.1 17 i))), (0, .ref 14), (1, .int s)] [] σ
        refine zwk hV [2, 3, 1, 0] rfl ?_
        rw [nI_1]
        refine ihi (i + 1) _ (by omega) ?_
        show _ = (if zbt s i = 0 then zPx s (σ.1 17) i else zPx s (σ.1 17) i + σ.1 17 i)
        have c : ¬ zbt s i = 0 := h_17
        rw [if_neg c, hx]
  exact Hi k 0 0 (by omega) rfl
set_option maxRecDepth 8000 in
set_option maxHeartbeats 4000000 in
theorem isBetter_ok {d : Nat} {σ : zSt} {K : Option Value → zSt → Prop} {s t : Int32} {k : Nat} (hI : zQI (kR 14 18) σ.2.2) (hs : σ.1 14 3 = nI k) (hk : k ≤ 7) (h1 : zBet (σ.1 17) k s t = true → K (some (.int 1)) σ) (h0 : ¬ zBet (σ.1 17) k s t = true → K (some (.int 0)) σ) : zSp zx (d + 3) mX6_isBetter [.ref 14, .int s, .int t] σ K := by
  refine ⟨⟨by decide, Nat.le_of_ble_eq_true rfl⟩, fun V hV => ?_⟩
  refine zq (σ := σ) hV hI rfl 3 ?_
  show zSp _ _ 40 [.ref 14, .int t] σ (fun r σ' => σ'.2.2.2 = σ.2.2.2 + zAl 40 → V 5 [(0, .ref 14), (1, .int s), (2, .int t)] (r.toList ++ []) σ')
  refine price_ok (zR_of hI rfl rfl) hs hk (fun _ => ?_)
  refine zq (σ := σ) hV hI rfl 3 ?_
  show zSp _ _ 40 [.ref 14, .int s] σ (fun r σ' => σ'.2.2.2 = σ.2.2.2 + zAl 40 → V 10 [(0, .ref 14), (1, .int s), (2, .int t)] (r.toList ++ [.int (zPx t (σ.1 17) k)]) σ')
  refine price_ok (zR_of hI rfl rfl) hs hk (fun _ => ?_)
  refine zq (σ := σ) hV hI rfl 4 ?_
  show (0 < ((zPx t (σ.1 17) k) - (zPx s (σ.1 17) k)) → V 31 [(3, .int ((zPx t (σ.1 17) k) - (zPx s (σ.1 17) k))), (0, .ref 14), (1, .int s), (2, .int t)] [] σ) ∧ (¬ 0 < ((zPx t (σ.1 17) k) - (zPx s (σ.1 17) k)) → V 16 [(3, .int ((zPx t (σ.1 17) k) - (zPx s (σ.1 17) k))), (0, .ref 14), (1, .int s), (2, .int t)] [] σ)
  refine ⟨fun h_13 => ?_, fun h_13 => ?_⟩
  · skip
    refine zq (σ := σ) hV hI rfl 3 ?_
    show ((1 : Int32) = 0 ∨ (1 : Int32) = 1) ∧ K (some (.int 1)) σ
    refine ⟨by decide, ?_⟩
    refine h1 ?_
    unfold zBet
    refine decide_eq_true ?_
    first | exact Or.inl h_13 | exact Or.inr ⟨h_17, Int32.not_le.mp h_28⟩
  · skip
    refine zq (σ := σ) hV hI rfl 2 ?_
    show (¬ ((zPx t (σ.1 17) k) - (zPx s (σ.1 17) k)) = 0 → V 35 [(3, .int ((zPx t (σ.1 17) k) - (zPx s (σ.1 17) k))), (0, .ref 14), (1, .int s), (2, .int t)] [] σ) ∧ (¬ (¬ ((zPx t (σ.1 17) k) - (zPx s (σ.1 17) k)) = 0) → V 20 [(3, .int ((zPx t (σ.1 17) k) - (zPx s (σ.1 17) k))), (0, .ref 14), (1, .int s), (2, .int t)] [] σ)
    refine ⟨fun h_17 => ?_, fun h_17 => ?_⟩
    · skip
      refine zq (σ := σ) hV hI rfl 2 ?_
      show ((0 : Int32) = 0 ∨ (0 : Int32) = 1) ∧ K (some (.int 0)) σ
      refine ⟨by decide, ?_⟩
      refine h0 ?_
      unfold zBet
      rw [Bool.not_eq_true]
      refine decide_eq_false ?_
      first | exact fun q => q.elim h_13 (fun x => h_17 x.1) | exact fun q => q.elim h_13 (fun x => Int32.not_le.mpr x.2 h_28)
    · skip
      have h_17 := Classical.not_not.mp h_17
      refine zq (σ := σ) hV hI rfl 2 ?_
      show zSp _ _ 81 [.int s] σ (fun r σ' => σ'.2.2.2 = σ.2.2.2 + zAl 81 → V 24 [(3, .int ((zPx t (σ.1 17) k) - (zPx s (σ.1 17) k))), (0, .ref 14), (1, .int s), (2, .int t)] (r.toList ++ []) σ')
      refine bits_ok  (fun _ => ?_)
      refine zq (σ := σ) hV hI rfl 2 ?_
      show zSp _ _ 81 [.int t] σ (fun r σ' => σ'.2.2.2 = σ.2.2.2 + zAl 81 → V 28 [(3, .int ((zPx t (σ.1 17) k) - (zPx s (σ.1 17) k))), (0, .ref 14), (1, .int s), (2, .int t)] (r.toList ++ [.int (zBc s)]) σ')
      refine bits_ok  (fun _ => ?_)
      refine zq (σ := σ) hV hI rfl 1 ?_
      show ((zBc t) ≤ (zBc s) → V 35 [(3, .int ((zPx t (σ.1 17) k) - (zPx s (σ.1 17) k))), (0, .ref 14), (1, .int s), (2, .int t)] [] σ) ∧ (¬ (zBc t) ≤ (zBc s) → V 31 [(3, .int ((zPx t (σ.1 17) k) - (zPx s (σ.1 17) k))), (0, .ref 14), (1, .int s), (2, .int t)] [] σ)
      refine ⟨fun h_28 => ?_, fun h_28 => ?_⟩
      · skip
        refine zq (σ := σ) hV hI rfl 2 ?_
        show ((0 : Int32) = 0 ∨ (0 : Int32) = 1) ∧ K (some (.int 0)) σ
        refine ⟨by decide, ?_⟩
        refine h0 ?_
        unfold zBet
        rw [Bool.not_eq_true]
        refine decide_eq_false ?_
        first | exact fun q => q.elim h_13 (fun x => h_17 x.1) | exact fun q => q.elim h_13 (fun x => Int32.not_le.mpr x.2 h_28)
      · skip
        refine zq (σ := σ) hV hI rfl 3 ?_
        show ((1 : Int32) = 0 ∨ (1 : Int32) = 1) ∧ K (some (.int 1)) σ
        refine ⟨by decide, ?_⟩
        refine h1 ?_
        unfold zBet
        refine decide_eq_true ?_
        first | exact Or.inl h_13 | exact Or.inr ⟨h_17, Int32.not_le.mp h_28⟩
set_option maxRecDepth 8000 in
set_option maxHeartbeats 4000000 in
theorem layOut_7 {d : Nat} {σ : zSt} {K : Option Value → zSt → Prop} {s : Int32} {k : Nat} (hI : zQI (kR 4 18) σ.2.2) (hs : σ.1 14 3 = nI k) (hk : k ≤ 7) (hK : ∀ τ, zOnly (zfL 7 (zcn s k)) σ τ → τ.1 7 2 = nI (zcn s k) → (∀ q, q < zcn s k → τ.1 8 q = zLy s (σ.1 15) k q ∧ τ.1 9 q = zLy s (σ.1 16) k q) → K none τ) : zSp zx (d + 4) mX6_layOut [.ref 14, .int s, .ref 7] σ K := by
  refine ⟨⟨by decide, Nat.le_of_ble_eq_true rfl⟩, fun V hV => ?_⟩
  refine zq (σ := σ) hV hI rfl 2 ?_
  show zSp _ _ 9 [.ref 7] σ (fun r σ' => σ'.2.2.2 = σ.2.2.2 + zAl 9 → V 4 [(0, .ref 14), (1, .int s), (2, .ref 7)] (r.toList ++ []) σ')
  refine hclear_7 (zR_of hI rfl rfl) (fun _ => ?_)
  refine zq (σ := (zuI σ 7 2 0)) hV hI rfl 2 ?_
  show V 6 [(3, .int 0), (0, .ref 14), (1, .int s), (2, .ref 7)] [] (zuI σ 7 2 0)
  refine zwk hV [1, 2, 3, 0] rfl ?_
  have Hi : ∀ (r : Nat) (i : Nat) (τ : zSt), i + r = k → zOnly (zfL 7 (zcn s k)) σ τ → τ.1 7 2 = nI (zcn s i) → (∀ q, q < zcn s i → τ.1 8 q = zLy s (σ.1 15) i q ∧ τ.1 9 q = zLy s (σ.1 16) i q) → V 6 [(0, .ref 14), (1, .int s), (2, .ref 7), (3, .int (nI i))] [] τ := by
    intro r
    induction r with
    | zero =>
      intro i τ hir ht h7 hES
      have hIτ := zQI_eq hI ht.2.2
      have hnτ : τ.2.2.2 = σ.2.2.2 := congrArg Prod.snd ht.2.2
      have hst : τ.1 14 3 = nI k := (ht.1 14 3 (by unfold zfL; simp)).trans hs
      refine zq (σ := τ) hV hIτ hnτ 4 ?_
      show ((τ.1 14 3) ≤ (nI i) → V 48 [(0, .ref 14), (1, .int s), (2, .ref 7), (3, .int (nI i))] [] τ) ∧ (¬ (τ.1 14 3) ≤ (nI i) → V 14 [(0, .ref 14), (1, .int s), (2, .ref 7), (3, .int (nI i))] [] τ)
      refine ⟨fun _ => ?_, fun hc => absurd (show (τ.1 14 3) ≤ nI i by rw [hst]; exact zge_self (by omega)) hc⟩
      refine zq (σ := τ) hV hIτ hnτ 1 ?_
      show K none τ
      obtain rfl : i = k := by omega
      exact hK τ ht h7 hES
    | succ r ihi =>
      intro i τ hir ht h7 hES
      have hIτ := zQI_eq hI ht.2.2
      have hnτ : τ.2.2.2 = σ.2.2.2 := congrArg Prod.snd ht.2.2
      have hst : τ.1 14 3 = nI k := (ht.1 14 3 (by unfold zfL; simp)).trans hs
      refine zq (σ := τ) hV hIτ hnτ 4 ?_
      show ((τ.1 14 3) ≤ (nI i) → V 48 [(0, .ref 14), (1, .int s), (2, .ref 7), (3, .int (nI i))] [] τ) ∧ (¬ (τ.1 14 3) ≤ (nI i) → V 14 [(0, .ref 14), (1, .int s), (2, .ref 7), (3, .int (nI i))] [] τ)
      refine ⟨fun hc => absurd hc (show ¬ (τ.1 14 3) ≤ nI i by rw [hst]; exact nI_ge (by omega) (by omega)), fun _ => ?_⟩
      refine zq (σ := τ) hV hIτ hnτ 6 ?_
      show (((s >>> ((nI i) &&& 31)) &&& 1) = 0 → V 42 [(0, .ref 14), (1, .int s), (2, .ref 7), (3, .int (nI i))] [] τ) ∧ (¬ ((s >>> ((nI i) &&& 31)) &&& 1) = 0 → V 22 [(0, .ref 14), (1, .int s), (2, .ref 7), (3, .int (nI i))] [] τ)
      refine ⟨fun h_19 => ?_, fun h_19 => ?_⟩
      · skip
        refine zq (σ := τ) hV hIτ hnτ 2 ?_
        show V 6 [(3, .int ((nI i) + 1)), (0, .ref 14), (1, .int s), (2, .ref 7)] [] τ
        refine zwk hV [1, 2, 3, 0] rfl ?_
        rw [nI_1]
        have hc : zcn s (i + 1) = zcn s i := if_pos h_19
        refine ihi (i + 1) _ (by omega) ht (by rw [hc]; exact h7) (fun q hq => ?_)
        rw [hc] at hq
        have e1 : zLy s (σ.1 15) (i + 1) = zLy s (σ.1 15) i := if_pos h_19
        have e2 : zLy s (σ.1 16) (i + 1) = zLy s (σ.1 16) i := if_pos h_19
        rw [e1, e2]; exact hES q hq
      · skip
        refine zq (σ := τ) hV hIτ hnτ 5 ?_
        show zSp _ _ 79 [.ref 15, .int (nI i)] τ (fun r σ' => σ'.2.2.2 = τ.2.2.2 + zAl 79 → V 31 [(0, .ref 14), (1, .int s), (2, .ref 7), (3, .int (nI i))] (r.toList ++ [.ref 7]) σ')
        refine item_15 (zA_of hIτ rfl) rfl (by omega) (fun _ => ?_)
        refine zq (σ := τ) hV hIτ hnτ 4 ?_
        show zSp _ _ 79 [.ref 16, .int (nI i)] τ (fun r σ' => σ'.2.2.2 = τ.2.2.2 + zAl 79 → V 39 [(0, .ref 14), (1, .int s), (2, .ref 7), (3, .int (nI i))] (r.toList ++ [.int (τ.1 15 i), .ref 7]) σ')
        refine item_16 (zA_of hIτ rfl) rfl (by omega) (fun _ => ?_)
        refine zq (σ := τ) hV hIτ hnτ 1 ?_
        show zSp _ _ 10 [.ref 7, .int (τ.1 15 i), .int (τ.1 16 i)] τ (fun r σ' => σ'.2.2.2 = τ.2.2.2 + zAl 10 → V 42 [(0, .ref 14), (1, .int s), (2, .ref 7), (3, .int (nI i))] (r.toList ++ []) σ')
        have hcn := zcn_le s i
        refine hadd_7 (zR_of hIτ rfl rfl) (m := zcn s i) h7 (by omega) (fun _ => ?_)
        refine zq (σ := (zuI (zuI (zuI τ 8 (zcn s i) (τ.1 15 i)) 9 (zcn s i) (τ.1 16 i)) 7 2 (nI (zcn s i + 1)))) hV hIτ hnτ 2 ?_
        show V 6 [(3, .int ((nI i) + 1)), (0, .ref 14), (1, .int s), (2, .ref 7)] [] (zuI (zuI (zuI τ 8 (zcn s i) (τ.1 15 i)) 9 (zcn s i) (τ.1 16 i)) 7 2 (nI (zcn s i + 1)))
        refine zwk hV [1, 2, 3, 0] rfl ?_
        rw [nI_1]
        have hc : zcn s (i + 1) = zcn s i + 1 := if_neg h_19
        have hm2 := zcn_mono s (show i + 1 ≤ k by omega)
        refine ihi (i + 1) _ (by omega) (((ht.uI (by unfold zfL; simp; try omega)).uI (by unfold zfL; simp; try omega)).uI (by unfold zfL; simp; try omega)) ?_ ?_
        · rw [hc]; simp [zuI_get]
        · intro q hq
          rw [hc] at hq
          have e1 : zLy s (σ.1 15) (i + 1) = upd (zLy s (σ.1 15) i) (zcn s i) (σ.1 15 i) := if_neg h_19
          have e2 : zLy s (σ.1 16) (i + 1) = upd (zLy s (σ.1 16) i) (zcn s i) (σ.1 16 i) := if_neg h_19
          rw [e1, e2]
          have f1 : τ.1 15 i = σ.1 15 i := ht.1 15 i (by unfold zfL; simp)
          have f2 : τ.1 16 i = σ.1 16 i := ht.1 16 i (by unfold zfL; simp)
          simp only [zuI_get]
          unfold upd
          by_cases e : q = zcn s i
          · subst e; simp [f1, f2]
          · have := hES q (by omega); simp [e, this]
  exact Hi k 0 _ (by omega) (zOnly.rf.uI (by unfold zfL; simp)) rfl (fun q hq => absurd hq (Nat.not_lt_zero q))
set_option maxRecDepth 8000 in
set_option maxHeartbeats 4000000 in
theorem layOut_4 {d : Nat} {σ : zSt} {K : Option Value → zSt → Prop} {s : Int32} {k : Nat} (hI : zQI (kR 4 18) σ.2.2) (hs : σ.1 14 3 = nI k) (hk : k ≤ 7) (hK : ∀ τ, zOnly (zfL 4 (zcn s k)) σ τ → τ.1 4 2 = nI (zcn s k) → (∀ q, q < zcn s k → τ.1 5 q = zLy s (σ.1 15) k q ∧ τ.1 6 q = zLy s (σ.1 16) k q) → K none τ) : zSp zx (d + 4) mX6_layOut [.ref 14, .int s, .ref 4] σ K := by
  refine ⟨⟨by decide, Nat.le_of_ble_eq_true rfl⟩, fun V hV => ?_⟩
  refine zq (σ := σ) hV hI rfl 2 ?_
  show zSp _ _ 9 [.ref 4] σ (fun r σ' => σ'.2.2.2 = σ.2.2.2 + zAl 9 → V 4 [(0, .ref 14), (1, .int s), (2, .ref 4)] (r.toList ++ []) σ')
  refine hclear_4 (zR_of hI rfl rfl) (fun _ => ?_)
  refine zq (σ := (zuI σ 4 2 0)) hV hI rfl 2 ?_
  show V 6 [(3, .int 0), (0, .ref 14), (1, .int s), (2, .ref 4)] [] (zuI σ 4 2 0)
  refine zwk hV [1, 2, 3, 0] rfl ?_
  have Hi : ∀ (r : Nat) (i : Nat) (τ : zSt), i + r = k → zOnly (zfL 4 (zcn s k)) σ τ → τ.1 4 2 = nI (zcn s i) → (∀ q, q < zcn s i → τ.1 5 q = zLy s (σ.1 15) i q ∧ τ.1 6 q = zLy s (σ.1 16) i q) → V 6 [(0, .ref 14), (1, .int s), (2, .ref 4), (3, .int (nI i))] [] τ := by
    intro r
    induction r with
    | zero =>
      intro i τ hir ht h7 hES
      have hIτ := zQI_eq hI ht.2.2
      have hnτ : τ.2.2.2 = σ.2.2.2 := congrArg Prod.snd ht.2.2
      have hst : τ.1 14 3 = nI k := (ht.1 14 3 (by unfold zfL; simp)).trans hs
      refine zq (σ := τ) hV hIτ hnτ 4 ?_
      show ((τ.1 14 3) ≤ (nI i) → V 48 [(0, .ref 14), (1, .int s), (2, .ref 4), (3, .int (nI i))] [] τ) ∧ (¬ (τ.1 14 3) ≤ (nI i) → V 14 [(0, .ref 14), (1, .int s), (2, .ref 4), (3, .int (nI i))] [] τ)
      refine ⟨fun _ => ?_, fun hc => absurd (show (τ.1 14 3) ≤ nI i by rw [hst]; exact zge_self (by omega)) hc⟩
      refine zq (σ := τ) hV hIτ hnτ 1 ?_
      show K none τ
      obtain rfl : i = k := by omega
      exact hK τ ht h7 hES
    | succ r ihi =>
      intro i τ hir ht h7 hES
      have hIτ := zQI_eq hI ht.2.2
      have hnτ : τ.2.2.2 = σ.2.2.2 := congrArg Prod.snd ht.2.2
      have hst : τ.1 14 3 = nI k := (ht.1 14 3 (by unfold zfL; simp)).trans hs
      refine zq (σ := τ) hV hIτ hnτ 4 ?_
      show ((τ.1 14 3) ≤ (nI i) → V 48 [(0, .ref 14), (1, .int s), (2, .ref 4), (3, .int (nI i))] [] τ) ∧ (¬ (τ.1 14 3) ≤ (nI i) → V 14 [(0, .ref 14), (1, .int s), (2, .ref 4), (3, .int (nI i))] [] τ)
      refine ⟨fun hc => absurd hc (show ¬ (τ.1 14 3) ≤ nI i by rw [hst]; exact nI_ge (by omega) (by omega)), fun _ => ?_⟩
      refine zq (σ := τ) hV hIτ hnτ 6 ?_
      show (((s >>> ((nI i) &&& 31)) &&& 1) = 0 → V 42 [(0, .ref 14), (1, .int s), (2, .ref 4), (3, .int (nI i))] [] τ) ∧ (¬ ((s >>> ((nI i) &&& 31)) &&& 1) = 0 → V 22 [(0, .ref 14), (1, .int s), (2, .ref 4), (3, .int (nI i))] [] τ)
      refine ⟨fun h_19 => ?_, fun h_19 => ?_⟩
      · skip
        refine zq (σ := τ) hV hIτ hnτ 2 ?_
        show V 6 [(3, .int ((nI i) + 1)), (0, .ref 14), (1, .int s), (2, .ref 4)] [] τ
        refine zwk hV [1, 2, 3, 0] rfl ?_
        rw [nI_1]
        have hc : zcn s (i + 1) = zcn s i := if_pos h_19
        refine ihi (i + 1) _ (by omega) ht (by rw [hc]; exact h7) (fun q hq => ?_)
        rw [hc] at hq
        have e1 : zLy s (σ.1 15) (i + 1) = zLy s (σ.1 15) i := if_pos h_19
        have e2 : zLy s (σ.1 16) (i + 1) = zLy s (σ.1 16) i := if_pos h_19
        rw [e1, e2]; exact hES q hq
      · skip
        refine zq (σ := τ) hV hIτ hnτ 5 ?_
        show zSp _ _ 79 [.ref 15, .int (nI i)] τ (fun r σ' => σ'.2.2.2 = τ.2.2.2 + zAl 79 → V 31 [(0, .ref 14), (1, .int s), (2, .ref 4), (3, .int (nI i))] (r.toList ++ [.ref 4]) σ')
        refine item_15 (zA_of hIτ rfl) rfl (by omega) (fun _ => ?_)
        refine zq (σ := τ) hV hIτ hnτ 4 ?_
        show zSp _ _ 79 [.ref 16, .int (nI i)] τ (fun r σ' => σ'.2.2.2 = τ.2.2.2 + zAl 79 → V 39 [(0, .ref 14), (1, .int s), (2, .ref 4), (3, .int (nI i))] (r.toList ++ [.int (τ.1 15 i), .ref 4]) σ')
        refine item_16 (zA_of hIτ rfl) rfl (by omega) (fun _ => ?_)
        refine zq (σ := τ) hV hIτ hnτ 1 ?_
        show zSp _ _ 10 [.ref 4, .int (τ.1 15 i), .int (τ.1 16 i)] τ (fun r σ' => σ'.2.2.2 = τ.2.2.2 + zAl 10 → V 42 [(0, .ref 14), (1, .int s), (2, .ref 4), (3, .int (nI i))] (r.toList ++ []) σ')
        have hcn := zcn_le s i
        refine hadd_4 (zR_of hIτ rfl rfl) (m := zcn s i) h7 (by omega) (fun _ => ?_)
        refine zq (σ := (zuI (zuI (zuI τ 5 (zcn s i) (τ.1 15 i)) 6 (zcn s i) (τ.1 16 i)) 4 2 (nI (zcn s i + 1)))) hV hIτ hnτ 2 ?_
        show V 6 [(3, .int ((nI i) + 1)), (0, .ref 14), (1, .int s), (2, .ref 4)] [] (zuI (zuI (zuI τ 5 (zcn s i) (τ.1 15 i)) 6 (zcn s i) (τ.1 16 i)) 4 2 (nI (zcn s i + 1)))
        refine zwk hV [1, 2, 3, 0] rfl ?_
        rw [nI_1]
        have hc : zcn s (i + 1) = zcn s i + 1 := if_neg h_19
        have hm2 := zcn_mono s (show i + 1 ≤ k by omega)
        refine ihi (i + 1) _ (by omega) (((ht.uI (by unfold zfL; simp; try omega)).uI (by unfold zfL; simp; try omega)).uI (by unfold zfL; simp; try omega)) ?_ ?_
        · rw [hc]; simp [zuI_get]
        · intro q hq
          rw [hc] at hq
          have e1 : zLy s (σ.1 15) (i + 1) = upd (zLy s (σ.1 15) i) (zcn s i) (σ.1 15 i) := if_neg h_19
          have e2 : zLy s (σ.1 16) (i + 1) = upd (zLy s (σ.1 16) i) (zcn s i) (σ.1 16 i) := if_neg h_19
          rw [e1, e2]
          have f1 : τ.1 15 i = σ.1 15 i := ht.1 15 i (by unfold zfL; simp)
          have f2 : τ.1 16 i = σ.1 16 i := ht.1 16 i (by unfold zfL; simp)
          simp only [zuI_get]
          unfold upd
          by_cases e : q = zcn s i
          · subst e; simp [f1, f2]
          · have := hES q (by omega); simp [e, this]
  exact Hi k 0 _ (by omega) (zOnly.rf.uI (by unfold zfL; simp)) rfl (fun q hq => absurd hq (Nat.not_lt_zero q))
theorem zfL_C {c : Nat} (a j : Nat) (h : zfC a j = false) : zfL 7 c a j = false := by
  unfold zfC at h; unfold zfL
  rw [Bool.and_eq_false_iff] at h
  have c1 : ∀ x y, Nat.ble x y = false ↔ y < x := fun x y => by rw [← Bool.not_eq_true, Nat.ble_eq]; omega
  have c2 : ∀ y, Nat.beq a y = false ↔ a ≠ y := fun y => by rw [← Bool.not_eq_true, Nat.beq_eq]
  rw [Bool.or_eq_false_iff, Bool.and_eq_false_iff, Bool.and_eq_false_iff, Bool.or_eq_false_iff]
  simp only [c1, c2] at h ⊢
  omega
set_option maxRecDepth 8000 in
set_option maxHeartbeats 4000000 in
theorem cheapest_C {d : Nat} {σ : zSt} {K : Option Value → zSt → Prop} {n k : Nat} (hI : zQI (kR 0 30) σ.2.2) (hn : σ.1 1 2 = nI n) (hn10 : n ≤ 10) (hsp : σ.1 14 3 = nI k) (hk : k ≤ 7) (hspE : ∀ j, j < k → ∃ e, σ.1 15 j = nI e ∧ e < n) (hK : ∀ τ, zOnly zfC σ τ → K (some (.int (zChe n (σ.1 2) (σ.1 3) (σ.1 0 9) (σ.1 15) (σ.1 16) (σ.1 17) k))) τ) : zSp zx (d + 5) mX8_cheapest [.ref 0] σ K := by
  refine ⟨⟨by decide, Nat.le_of_ble_eq_true rfl⟩, fun V hV => ?_⟩
  refine zq (σ := σ) hV hI rfl 4 ?_
  show V 4 [(2, .int 1), (1, .int (-1)), (0, .ref 0)] [] σ
  refine zwk hV [2, 1, 0] rfl ?_
  have Hi : ∀ (r : Nat) (i : Nat) (x : Int32) (τ : zSt), i + r = 2 ^ k → zOnly zfC σ τ → zCp (zSpH n (σ.1 2) (σ.1 3) (σ.1 0 9) (σ.1 15) (σ.1 16) k) (zBet (σ.1 17) k) r i x = (zChe n (σ.1 2) (σ.1 3) (σ.1 0 9) (σ.1 15) (σ.1 16) (σ.1 17) k) → V 4 [(0, .ref 0), (1, .int x), (2, .int (nI i))] [] τ := by
    intro r
    induction r with
    | zero =>
      intro i x τ hir ht hfin
      have hIτ := zQI_eq hI ht.2.2
      have hnτ : τ.2.2.2 = σ.2.2.2 := congrArg Prod.snd ht.2.2
      have hst : τ.1 14 3 = nI k := (ht.1 14 3 rfl).trans hsp
      have e15 : τ.1 15 = σ.1 15 := funext fun j => ht.1 15 j rfl
      have e16 : τ.1 16 = σ.1 16 := funext fun j => ht.1 16 j rfl
      have e17 : τ.1 17 = σ.1 17 := funext fun j => ht.1 17 j rfl
      refine zq (σ := τ) hV hIτ hnτ 5 ?_
      show zSp _ _ 37 [.ref 14] τ (fun r σ' => σ'.2.2.2 = τ.2.2.2 + zAl 37 → V 13 [(0, .ref 0), (1, .int x), (2, .int (nI i))] (r.toList ++ [.int 1, .int (nI i)]) σ')
      refine ssize_ok (zR_of hIτ rfl rfl) (fun _ => ?_)
      rw [hst]
      refine zq (σ := τ) hV hIτ hnτ 2 ?_
      show ((1 <<< ((nI k) &&& 31)) ≤ (nI i) → V 69 [(0, .ref 0), (1, .int x), (2, .int (nI i))] [] τ) ∧ (¬ (1 <<< ((nI k) &&& 31)) ≤ (nI i) → V 17 [(0, .ref 0), (1, .int x), (2, .int (nI i))] [] τ)
      refine ⟨fun _ => ?_, fun hc => absurd (show (1 : Int32) <<< (nI k &&& 31) ≤ nI i by rw [zshl hk]; exact zge_self (by omega)) hc⟩
      refine zq (σ := τ) hV hIτ hnτ 2 ?_
      show K (some (.int x)) τ
      replace hfin : x = _ := hfin
      rw [hfin]
      exact hK τ ht
    | succ r ihi =>
      intro i x τ hir ht hfin
      have hIτ := zQI_eq hI ht.2.2
      have hnτ : τ.2.2.2 = σ.2.2.2 := congrArg Prod.snd ht.2.2
      have hst : τ.1 14 3 = nI k := (ht.1 14 3 rfl).trans hsp
      have e15 : τ.1 15 = σ.1 15 := funext fun j => ht.1 15 j rfl
      have e16 : τ.1 16 = σ.1 16 := funext fun j => ht.1 16 j rfl
      have e17 : τ.1 17 = σ.1 17 := funext fun j => ht.1 17 j rfl
      refine zq (σ := τ) hV hIτ hnτ 5 ?_
      show zSp _ _ 37 [.ref 14] τ (fun r σ' => σ'.2.2.2 = τ.2.2.2 + zAl 37 → V 13 [(0, .ref 0), (1, .int x), (2, .int (nI i))] (r.toList ++ [.int 1, .int (nI i)]) σ')
      refine ssize_ok (zR_of hIτ rfl rfl) (fun _ => ?_)
      rw [hst]
      refine zq (σ := τ) hV hIτ hnτ 2 ?_
      show ((1 <<< ((nI k) &&& 31)) ≤ (nI i) → V 69 [(0, .ref 0), (1, .int x), (2, .int (nI i))] [] τ) ∧ (¬ (1 <<< ((nI k) &&& 31)) ≤ (nI i) → V 17 [(0, .ref 0), (1, .int x), (2, .int (nI i))] [] τ)
      refine ⟨fun hc => absurd hc (show ¬ (1 : Int32) <<< (nI k &&& 31) ≤ nI i by rw [zshl hk]; exact nI_ge (by omega) (by have := z2k hk; omega)), fun _ => ?_⟩
      refine zq (σ := τ) hV hIτ hnτ 3 ?_
      show (x = (-1) → V 34 [(0, .ref 0), (1, .int x), (2, .int (nI i))] [] τ) ∧ (¬ x = (-1) → V 22 [(0, .ref 0), (1, .int x), (2, .int (nI i))] [] τ)
      refine ⟨fun h_19 => ?_, fun h_19 => ?_⟩
      · skip
        refine zq (σ := τ) hV hIτ hnτ 6 ?_
        show zSp _ _ 42 [.ref 14, .int (nI i), .ref 7] τ (fun r σ' => σ'.2.2.2 = τ.2.2.2 + zAl 42 → V 46 [(0, .ref 0), (1, .int x), (2, .int (nI i))] (r.toList ++ []) σ')
        refine layOut_7 (zR_of hIτ rfl rfl) hst hk (fun υ hu0 h7 hES _ => ?_)
        rw [e15, e16] at hES
        have hu : zOnly zfC σ υ := ht.tr (hu0.wk zfL_C)
        have hIυ := zQI_eq hI hu.2.2
        have hnυ : υ.2.2.2 = σ.2.2.2 := congrArg Prod.snd hu.2.2
        refine zq (σ := υ) hV hIυ hnυ 4 ?_
        show zSp _ _ 65 [.ref 0, .ref 7] υ (fun r σ' => σ'.2.2.2 = υ.2.2.2 + zAl 65 → V 54 [(0, .ref 0), (1, .int x), (2, .int (nI i))] (r.toList ++ []) σ')
        have hcn := zcn_le (nI i) k
        refine heldT hI hn hn10 hu h7 (by omega) hES (zLy_in hspE) (fun φ hf hf7 hfe hq _ => ?_) (fun φ hf hf7 hfe hq _ => ?_)
        · skip
          have hIφ := zQI_eq hI hf.2.2
          have hnφ : φ.2.2.2 = σ.2.2.2 := congrArg Prod.snd hf.2.2
          refine zq (σ := φ) hV hIφ hnφ 1 ?_
          show ((1 : Int32) = 0 → V 61 [(0, .ref 0), (1, .int x), (2, .int (nI i))] [] φ) ∧ (¬ (1 : Int32) = 0 → V 57 [(0, .ref 0), (1, .int x), (2, .int (nI i))] [] φ)
          refine ⟨fun hc => absurd hc (by decide), fun _ => ?_⟩
          refine zq (σ := φ) hV hIφ hnφ 5 ?_
          show V 4 [(2, .int ((nI i) + 1)), (1, .int (nI i)), (0, .ref 0)] [] φ
          refine zwk hV [2, 1, 0] rfl ?_
          rw [nI_1]
          refine ihi (i + 1) _ φ (by omega) hf ?_
          rw [← hfin]
          show zCp (zSpH n (σ.1 2) (σ.1 3) (σ.1 0 9) (σ.1 15) (σ.1 16) k) _ r (i + 1) _ = zCp (zSpH n (σ.1 2) (σ.1 3) (σ.1 0 9) (σ.1 15) (σ.1 16) k) _ r (i + 1) (if (x = -1 ∨ zBet (σ.1 17) k (nI i) x = true) ∧ (zSpH n (σ.1 2) (σ.1 3) (σ.1 0 9) (σ.1 15) (σ.1 16) k) (nI i) = true then nI i else x)
          rw [if_pos ⟨(Or.inl h_19), zDc_t hq⟩]
        · skip
          have hIφ := zQI_eq hI hf.2.2
          have hnφ : φ.2.2.2 = σ.2.2.2 := congrArg Prod.snd hf.2.2
          refine zq (σ := φ) hV hIφ hnφ 1 ?_
          show ((0 : Int32) = 0 → V 61 [(0, .ref 0), (1, .int x), (2, .int (nI i))] [] φ) ∧ (¬ (0 : Int32) = 0 → V 57 [(0, .ref 0), (1, .int x), (2, .int (nI i))] [] φ)
          refine ⟨fun _ => ?_, fun hc => absurd (by decide) hc⟩
          refine zq (σ := φ) hV hIφ hnφ 4 ?_
          show V 4 [(2, .int ((nI i) + 1)), (1, .int x), (0, .ref 0)] [] φ
          refine zwk hV [2, 1, 0] rfl ?_
          rw [nI_1]
          refine ihi (i + 1) _ φ (by omega) hf ?_
          rw [← hfin]
          show zCp (zSpH n (σ.1 2) (σ.1 3) (σ.1 0 9) (σ.1 15) (σ.1 16) k) _ r (i + 1) _ = zCp (zSpH n (σ.1 2) (σ.1 3) (σ.1 0 9) (σ.1 15) (σ.1 16) k) _ r (i + 1) (if (x = -1 ∨ zBet (σ.1 17) k (nI i) x = true) ∧ (zSpH n (σ.1 2) (σ.1 3) (σ.1 0 9) (σ.1 15) (σ.1 16) k) (nI i) = true then nI i else x)
          rw [if_neg (fun q => hq (zDc_i.mp q.2))]
      · skip
        refine zq (σ := τ) hV hIτ hnτ 5 ?_
        show zSp _ _ 41 [.ref 14, .int (nI i), .int x] τ (fun r σ' => σ'.2.2.2 = τ.2.2.2 + zAl 41 → V 31 [(0, .ref 0), (1, .int x), (2, .int (nI i))] (r.toList ++ []) σ')
        refine isBetter_ok (zR_of hIτ rfl rfl) hst hk (fun hb1 _ => ?_) (fun hb1 _ => ?_)
        · skip
          refine zq (σ := τ) hV hIτ hnτ 1 ?_
          show ((1 : Int32) = 0 → V 63 [(0, .ref 0), (1, .int x), (2, .int (nI i))] [] τ) ∧ (¬ (1 : Int32) = 0 → V 34 [(0, .ref 0), (1, .int x), (2, .int (nI i))] [] τ)
          refine ⟨fun hc => absurd hc (by decide), fun _ => ?_⟩
          refine zq (σ := τ) hV hIτ hnτ 6 ?_
          show zSp _ _ 42 [.ref 14, .int (nI i), .ref 7] τ (fun r σ' => σ'.2.2.2 = τ.2.2.2 + zAl 42 → V 46 [(0, .ref 0), (1, .int x), (2, .int (nI i))] (r.toList ++ []) σ')
          refine layOut_7 (zR_of hIτ rfl rfl) hst hk (fun υ hu0 h7 hES _ => ?_)
          rw [e15, e16] at hES
          have hu : zOnly zfC σ υ := ht.tr (hu0.wk zfL_C)
          have hIυ := zQI_eq hI hu.2.2
          have hnυ : υ.2.2.2 = σ.2.2.2 := congrArg Prod.snd hu.2.2
          refine zq (σ := υ) hV hIυ hnυ 4 ?_
          show zSp _ _ 65 [.ref 0, .ref 7] υ (fun r σ' => σ'.2.2.2 = υ.2.2.2 + zAl 65 → V 54 [(0, .ref 0), (1, .int x), (2, .int (nI i))] (r.toList ++ []) σ')
          have hcn := zcn_le (nI i) k
          refine heldT hI hn hn10 hu h7 (by omega) hES (zLy_in hspE) (fun φ hf hf7 hfe hq _ => ?_) (fun φ hf hf7 hfe hq _ => ?_)
          · skip
            have hIφ := zQI_eq hI hf.2.2
            have hnφ : φ.2.2.2 = σ.2.2.2 := congrArg Prod.snd hf.2.2
            refine zq (σ := φ) hV hIφ hnφ 1 ?_
            show ((1 : Int32) = 0 → V 61 [(0, .ref 0), (1, .int x), (2, .int (nI i))] [] φ) ∧ (¬ (1 : Int32) = 0 → V 57 [(0, .ref 0), (1, .int x), (2, .int (nI i))] [] φ)
            refine ⟨fun hc => absurd hc (by decide), fun _ => ?_⟩
            refine zq (σ := φ) hV hIφ hnφ 5 ?_
            show V 4 [(2, .int ((nI i) + 1)), (1, .int (nI i)), (0, .ref 0)] [] φ
            refine zwk hV [2, 1, 0] rfl ?_
            rw [nI_1]
            refine ihi (i + 1) _ φ (by omega) hf ?_
            rw [← hfin]
            show zCp (zSpH n (σ.1 2) (σ.1 3) (σ.1 0 9) (σ.1 15) (σ.1 16) k) _ r (i + 1) _ = zCp (zSpH n (σ.1 2) (σ.1 3) (σ.1 0 9) (σ.1 15) (σ.1 16) k) _ r (i + 1) (if (x = -1 ∨ zBet (σ.1 17) k (nI i) x = true) ∧ (zSpH n (σ.1 2) (σ.1 3) (σ.1 0 9) (σ.1 15) (σ.1 16) k) (nI i) = true then nI i else x)
            rw [if_pos ⟨(Or.inr (by have y := hb1; rw [e17] at y; exact y)), zDc_t hq⟩]
          · skip
            have hIφ := zQI_eq hI hf.2.2
            have hnφ : φ.2.2.2 = σ.2.2.2 := congrArg Prod.snd hf.2.2
            refine zq (σ := φ) hV hIφ hnφ 1 ?_
            show ((0 : Int32) = 0 → V 61 [(0, .ref 0), (1, .int x), (2, .int (nI i))] [] φ) ∧ (¬ (0 : Int32) = 0 → V 57 [(0, .ref 0), (1, .int x), (2, .int (nI i))] [] φ)
            refine ⟨fun _ => ?_, fun hc => absurd (by decide) hc⟩
            refine zq (σ := φ) hV hIφ hnφ 4 ?_
            show V 4 [(2, .int ((nI i) + 1)), (1, .int x), (0, .ref 0)] [] φ
            refine zwk hV [2, 1, 0] rfl ?_
            rw [nI_1]
            refine ihi (i + 1) _ φ (by omega) hf ?_
            rw [← hfin]
            show zCp (zSpH n (σ.1 2) (σ.1 3) (σ.1 0 9) (σ.1 15) (σ.1 16) k) _ r (i + 1) _ = zCp (zSpH n (σ.1 2) (σ.1 3) (σ.1 0 9) (σ.1 15) (σ.1 16) k) _ r (i + 1) (if (x = -1 ∨ zBet (σ.1 17) k (nI i) x = true) ∧ (zSpH n (σ.1 2) (σ.1 3) (σ.1 0 9) (σ.1 15) (σ.1 16) k) (nI i) = true then nI i else x)
            rw [if_neg (fun q => hq (zDc_i.mp q.2))]
        · skip
          refine zq (σ := τ) hV hIτ hnτ 1 ?_
          show ((0 : Int32) = 0 → V 63 [(0, .ref 0), (1, .int x), (2, .int (nI i))] [] τ) ∧ (¬ (0 : Int32) = 0 → V 34 [(0, .ref 0), (1, .int x), (2, .int (nI i))] [] τ)
          refine ⟨fun _ => ?_, fun hc => absurd (by decide) hc⟩
          refine zq (σ := τ) hV hIτ hnτ 2 ?_
          show V 4 [(2, .int ((nI i) + 1)), (0, .ref 0), (1, .int x)] [] τ
          refine zwk hV [1, 2, 0] rfl ?_
          rw [nI_1]
          refine ihi (i + 1) _ τ (by omega) ht ?_
          rw [← hfin]
          show zCp (zSpH n (σ.1 2) (σ.1 3) (σ.1 0 9) (σ.1 15) (σ.1 16) k) _ r (i + 1) _ = zCp (zSpH n (σ.1 2) (σ.1 3) (σ.1 0 9) (σ.1 15) (σ.1 16) k) _ r (i + 1) (if (x = -1 ∨ zBet (σ.1 17) k (nI i) x = true) ∧ (zSpH n (σ.1 2) (σ.1 3) (σ.1 0 9) (σ.1 15) (σ.1 16) k) (nI i) = true then nI i else x)
          rw [if_neg (fun q => q.1.elim h_19 (fun y => hb1 (by rw [e17]; exact y)))]
  exact Hi (2 ^ k - 1) 1 (-1) σ (by have := z2k hk; omega) zOnly.rf rfl
set_option maxRecDepth 8000 in
set_option maxHeartbeats 4000000 in
theorem take_C {d : Nat} {σ : zSt} {K : Option Value → zSt → Prop} {n k : Nat} (hI : zQI (kR 0 30) σ.2.2) (hn : σ.1 1 2 = nI n) (hn10 : n ≤ 10) (hsp : σ.1 14 3 = nI k) (hk : k ≤ 7) (hspE : ∀ j, j < k → ∃ e, σ.1 15 j = nI e ∧ e < n) (hNo : ∀ τ, zOnly zfC σ τ → (zChe n (σ.1 2) (σ.1 3) (σ.1 0 9) (σ.1 15) (σ.1 16) (σ.1 17) k) = -1 → K (some (.int (-3))) τ)
    (hOk : ∀ τ υ be, zOnly zfC σ τ → be = (zChe n (σ.1 2) (σ.1 3) (σ.1 0 9) (σ.1 15) (σ.1 16) (σ.1 17) k) → ¬ be = -1 → zOnly (zfL 4 (zcn be k)) τ υ → υ.1 4 2 = nI (zcn be k) → (∀ q, q < zcn be k → υ.1 5 q = zLy be (σ.1 15) k q ∧ υ.1 6 q = zLy be (σ.1 16) k q) → K (some (.int (zPx be (σ.1 17) k))) υ) : zSp zx (d + 6) mX8_take [.ref 0] σ K := by
  refine ⟨⟨by decide, Nat.le_of_ble_eq_true rfl⟩, fun V hV => ?_⟩
  refine zq (σ := σ) hV hI rfl 2 ?_
  show zSp _ _ 67 [.ref 0] σ (fun r σ' => σ'.2.2.2 = σ.2.2.2 + zAl 67 → V 4 [(0, .ref 0)] (r.toList ++ []) σ')
  refine cheapest_C hI hn hn10 hsp hk hspE (fun τ ht _ => ?_)
  have hIτ := zQI_eq hI ht.2.2
  have hnτ : τ.2.2.2 = σ.2.2.2 := congrArg Prod.snd ht.2.2
  generalize hbe : (zChe n (σ.1 2) (σ.1 3) (σ.1 0 9) (σ.1 15) (σ.1 16) (σ.1 17) k) = be
  refine zq (σ := τ) hV hIτ hnτ 4 ?_
  show (¬ be = (-1) → V 13 [(1, .int be), (0, .ref 0)] [] τ) ∧ (¬ (¬ be = (-1)) → V 10 [(1, .int be), (0, .ref 0)] [] τ)
  refine ⟨fun h_7 => ?_, fun h_7 => ?_⟩
  · skip
    refine zq (σ := τ) hV hIτ hnτ 6 ?_
    show zSp _ _ 42 [.ref 14, .int be, .ref 4] τ (fun r σ' => σ'.2.2.2 = τ.2.2.2 + zAl 42 → V 25 [(1, .int be), (0, .ref 0)] (r.toList ++ []) σ')
    have hst : τ.1 14 3 = nI k := (ht.1 14 3 rfl).trans hsp
    have e15 : τ.1 15 = σ.1 15 := funext fun j => ht.1 15 j rfl
    have e16 : τ.1 16 = σ.1 16 := funext fun j => ht.1 16 j rfl
    have e17 : τ.1 17 = σ.1 17 := funext fun j => ht.1 17 j rfl
    refine layOut_4 (zR_of hIτ rfl rfl) hst hk (fun υ hu h4 hES _ => ?_)
    rw [e15, e16] at hES
    have hIυ := zQI_eq hIτ hu.2.2
    have hnυ : υ.2.2.2 = σ.2.2.2 := (congrArg Prod.snd hu.2.2).trans hnτ
    have hsu : υ.1 14 3 = nI k := (hu.1 14 3 (by unfold zfL; simp)).trans hst
    have eu7 : υ.1 17 = τ.1 17 := funext fun j => hu.1 17 j (by unfold zfL; simp)
    refine zq (σ := υ) hV hIυ hnυ 4 ?_
    show zSp _ _ 40 [.ref 14, .int be] υ (fun r σ' => σ'.2.2.2 = υ.2.2.2 + zAl 40 → V 33 [(1, .int be), (0, .ref 0)] (r.toList ++ []) σ')
    refine price_ok (zR_of hIυ rfl rfl) hsu hk (fun _ => ?_)
    rw [eu7, e17]
    refine zq (σ := υ) hV hIυ hnυ 1 ?_
    show K (some (.int (zPx be (σ.1 17) k))) υ
    exact hOk τ υ be ht hbe.symm h_7 hu h4 hES
  · skip
    have h_7 := Classical.not_not.mp h_7
    refine zq (σ := τ) hV hIτ hnτ 2 ?_
    show K (some (.int (-3))) τ
    exact hNo τ ht (hbe.trans h_7)
end
section
variable {zx : Nat × (Nat → Int32)}
theorem zdiv3 {q : Nat} (h : q < 2 ^ 31) : nI q / 3 = nI (q / 3) := by
  rw [zeq, Int32.toInt_div, nI_toInt h, nI_toInt (show q / 3 < 2 ^ 31 by omega)]
  rw [show (3 : Int32).toInt = 3 from by decide, Int.tdiv_eq_ediv_of_nonneg (by omega)]
  rw [Int.bmod_eq_of_le (by omega) (by omega)]
  omega
theorem zrem3 {q : Nat} (h : q < 2 ^ 31) : nI q - nI q / 3 * 3 = nI (q % 3) := by
  rw [zdiv3 h, show (3 : Int32) = nI 3 from rfl, pk_mul]
  rw [zeq, zsub (by rw [nI_toInt h, nI_toInt (by omega)]; omega), nI_toInt h, nI_toInt (by omega), nI_toInt (by omega)]
  omega
def zCl (x : Int32) : Int32 := if x < 0 then 0 else if 8 < x then 8 else x
theorem zCl_eq (x : Int32) : (if (if 0 < x then x else 0) < 8 then (if 0 < x then x else 0) else 8) = zCl x := by
  unfold zCl
  have z0 : (0 : Int32).toInt = 0 := rfl
  have z8 : (8 : Int32).toInt = 8 := rfl
  by_cases h1 : 0 < x
  · rw [if_pos h1]
    have h1' := h1
    rw [zlt, z0] at h1'
    rw [if_neg (show ¬ x < 0 by rw [zlt, z0]; omega)]
    by_cases h2 : x < 8
    · rw [if_pos h2]
      rw [zlt, z8] at h2
      rw [if_neg (show ¬ 8 < x by rw [zlt, z8]; omega)]
    · rw [if_neg h2]
      rw [zlt, z8] at h2
      by_cases h3 : 8 < x
      · rw [if_pos h3]
      · rw [if_neg h3]
        rw [zlt, z8] at h3
        rw [zeq, z8]; omega
  · rw [if_neg h1, if_pos (by decide)]
    rw [zlt, z0] at h1
    by_cases h2 : x < 0
    · rw [if_pos h2]
    · rw [if_neg h2]
      rw [zlt, z0] at h2
      rw [if_neg (show ¬ 8 < x by rw [zlt, z8]; omega)]
      rw [zeq, z0]; omega
def zdg (w i : Nat) : Nat := w / 3 ^ i % 3
/-- where finger i stands in way w of slipping by d -/
def zWy (S : Nat → Int32) (d : Int32) (w i : Nat) : Int32 := zCl (S i + (nI (zdg w i) - 1) * d)
theorem zdig (f : Nat → Nat) (hf : ∀ i, f i < 3) : ∀ m, ∃ w, w < 3 ^ m ∧ ∀ i, i < m → zdg w i = f i := by
  intro m
  induction m generalizing f with
  | zero => exact ⟨0, by decide, fun i hi => absurd hi (Nat.not_lt_zero i)⟩
  | succ m ih =>
    obtain ⟨w, hw, h⟩ := ih (fun i => f (i + 1)) (fun i => hf (i + 1))
    have h0 := hf 0
    refine ⟨f 0 + 3 * w, by rw [Nat.pow_succ]; omega, fun i hi => ?_⟩
    cases i with
    | zero => unfold zdg; rw [Nat.pow_zero, Nat.div_one]; omega
    | succ i =>
      have := h i (by omega)
      unfold zdg at this ⊢
      rw [Nat.pow_succ, Nat.mul_comm (3 ^ i) 3, ← Nat.div_div_eq_div_mul, show (f 0 + 3 * w) / 3 = w by omega]
      exact this
/-- a way that is looked at -/
def zUs (S : Nat → Int32) (d : Int32) (m w : Nat) : Prop := ∀ i, i < m → ¬ (¬ zdg w i = 1 ∧ zWy S d w i = S i)
theorem zUs_all {S : Nat → Int32} {d : Int32} {m : Nat} {P : (Nat → Int32) → Prop} (hP : ∀ A B, (∀ i, i < m → A i = B i) → P A → P B) (hS : ∀ i, i < m → zBt 0 8 (S i)) (h : ∀ w, w < 3 ^ m → zUs S d m w → P (zWy S d w)) : ∀ w, w < 3 ^ m → P (zWy S d w) := by
  intro w hw
  have h1 : ∀ i, i < m → zCl (S i + (nI 1 - 1) * d) = S i := fun i hi => by
    have hb := hS i hi
    unfold zBt at hb
    rw [show nI 1 - 1 = (0 : Int32) from by decide, Int32.zero_mul, Int32.add_zero]
    unfold zCl
    rw [if_neg (by rw [zlt, show (0 : Int32).toInt = 0 from rfl]; omega), if_neg (by rw [zlt, show (8 : Int32).toInt = 8 from rfl]; omega)]
  obtain ⟨v, hv, hd⟩ := zdig (fun i => if zWy S d w i = S i then 1 else zdg w i) (fun i => by
    show (if _ then 1 else zdg w i) < 3
    split
    · decide
    · exact Nat.mod_lt _ (by decide)) m
  have he : ∀ i, i < m → zWy S d v i = zWy S d w i := fun i hi => by
    by_cases c : zWy S d w i = S i
    · have q := hd i hi
      rw [if_pos c] at q
      rw [c]; unfold zWy; rw [q]; exact h1 i hi
    · have q := hd i hi
      rw [if_neg c] at q
      unfold zWy; rw [q]
  refine hP _ _ he (h v hv (fun i hi q => ?_))
  rw [he i hi] at q
  have q2 := hd i hi
  rw [if_pos q.2] at q2
  exact q.1 q2
theorem zn1 {k : Nat} (h : k < 3) : nI k = 1 ↔ k = 1 := by
  rcases (show k = 0 ∨ k = 1 ∨ k = 2 by omega) with h | h | h <;> subst h <;> decide
set_option maxRecDepth 8000 in
set_option maxHeartbeats 4000000 in
theorem slide_ok {d : Nat} {σ : zSt} {K : Option Value → zSt → Prop} {d0 : Int32} {m w : Nat} (hI : zQI (kR 0 30) σ.2.2) (hs : σ.1 4 2 = nI m) (hm : m ≤ 4) (hw : w < 81) (h1 : ∀ τ, zOnly zfC σ τ → τ.1 7 2 = nI m → (∀ j, j < m → τ.1 8 j = σ.1 5 j ∧ τ.1 9 j = zWy (σ.1 6) d0 w j) → zUs (σ.1 6) d0 m w → K (some (.int 1)) τ) (h0 : ∀ τ, zOnly zfC σ τ → ¬ zUs (σ.1 6) d0 m w → K (some (.int 0)) τ) : zSp zx (d + 5) mX8_slide [.ref 0, .int (nI w), .int d0] σ K := by
  refine ⟨⟨by decide, Nat.le_of_ble_eq_true rfl⟩, fun V hV => ?_⟩
  refine zq (σ := σ) hV hI rfl 5 ?_
  show zSp _ _ 12 [.ref 7, .ref 4] σ (fun r σ' => σ'.2.2.2 = σ.2.2.2 + zAl 12 → V 11 [(0, .ref 0), (1, .int (nI w)), (2, .int d0)] (r.toList ++ []) σ')
  refine become_ok (zR_of hI rfl rfl) hs (by omega) (fun τ ht0 h7 hES _ => ?_)
  have ht := ht0.wk zf7_C
  have hIτ := zQI_eq hI ht.2.2
  have hnτ : τ.2.2.2 = σ.2.2.2 := congrArg Prod.snd ht.2.2
  refine zq (σ := τ) hV hIτ hnτ 4 ?_
  show V 16 [(4, .int 0), (3, .int (nI w)), (0, .ref 0), (1, .int (nI w)), (2, .int d0)] [] τ
  refine zwk hV [2, 3, 4, 1, 0] rfl ?_
  have Hi : ∀ (r : Nat) (i q : Nat) (τ : zSt), i + r = m → q = w / 3 ^ i → zOnly zfC σ τ → τ.1 7 2 = nI m → (∀ j, j < m → τ.1 8 j = σ.1 5 j ∧ (j < i → τ.1 9 j = zWy (σ.1 6) d0 w j)) → (∀ j, j < i → ¬ (¬ zdg w j = 1 ∧ zWy (σ.1 6) d0 w j = σ.1 6 j)) → V 16 [(0, .ref 0), (1, .int (nI w)), (2, .int d0), (3, .int (nI q)), (4, .int (nI i))] [] τ := by
    intro r
    induction r with
    | zero =>
      intro i q τ hir hq ht h7 hES hus
      have hIτ := zQI_eq hI ht.2.2
      have hnτ : τ.2.2.2 = σ.2.2.2 := congrArg Prod.snd ht.2.2
      have hst : τ.1 4 2 = nI m := (ht.1 4 2 rfl).trans hs
      refine zq (σ := τ) hV hIτ hnτ 4 ?_
      show zSp _ _ 6 [.ref 4] τ (fun r σ' => σ'.2.2.2 = τ.2.2.2 + zAl 6 → V 25 [(0, .ref 0), (1, .int (nI w)), (2, .int d0), (3, .int (nI q)), (4, .int (nI i))] (r.toList ++ [.int (nI i)]) σ')
      refine hsize_4 (zR_of hIτ rfl rfl) (fun _ => ?_)
      refine zq (σ := τ) hV hIτ hnτ 1 ?_
      show ((τ.1 4 2) ≤ (nI i) → V 106 [(0, .ref 0), (1, .int (nI w)), (2, .int d0), (3, .int (nI q)), (4, .int (nI i))] [] τ) ∧ (¬ (τ.1 4 2) ≤ (nI i) → V 28 [(0, .ref 0), (1, .int (nI w)), (2, .int d0), (3, .int (nI q)), (4, .int (nI i))] [] τ)
      refine ⟨fun _ => ?_, fun hc => absurd (show (τ.1 4 2) ≤ nI i by rw [hst]; exact zge_self (by omega)) hc⟩
      refine zq (σ := τ) hV hIτ hnτ 2 ?_
      show ((1 : Int32) = 0 ∨ (1 : Int32) = 1) ∧ K (some (.int 1)) τ
      refine ⟨by decide, ?_⟩
      obtain rfl : i = m := by omega
      exact h1 τ ht h7 (fun j hj => ⟨(hES j hj).1, (hES j hj).2 hj⟩) hus
    | succ r ihi =>
      intro i q τ hir hq ht h7 hES hus
      have hIτ := zQI_eq hI ht.2.2
      have hnτ : τ.2.2.2 = σ.2.2.2 := congrArg Prod.snd ht.2.2
      have hst : τ.1 4 2 = nI m := (ht.1 4 2 rfl).trans hs
      have hS6 : τ.1 6 i = σ.1 6 i := ht.1 6 i rfl
      have h5 : τ.1 5 i = σ.1 5 i := ht.1 5 i rfl
      have hq3 : q ≤ w := by rw [hq]; exact Nat.div_le_self _ _
      refine zq (σ := τ) hV hIτ hnτ 4 ?_
      show zSp _ _ 6 [.ref 4] τ (fun r σ' => σ'.2.2.2 = τ.2.2.2 + zAl 6 → V 25 [(0, .ref 0), (1, .int (nI w)), (2, .int d0), (3, .int (nI q)), (4, .int (nI i))] (r.toList ++ [.int (nI i)]) σ')
      refine hsize_4 (zR_of hIτ rfl rfl) (fun _ => ?_)
      refine zq (σ := τ) hV hIτ hnτ 1 ?_
      show ((τ.1 4 2) ≤ (nI i) → V 106 [(0, .ref 0), (1, .int (nI w)), (2, .int d0), (3, .int (nI q)), (4, .int (nI i))] [] τ) ∧ (¬ (τ.1 4 2) ≤ (nI i) → V 28 [(0, .ref 0), (1, .int (nI w)), (2, .int d0), (3, .int (nI q)), (4, .int (nI i))] [] τ)
      refine ⟨fun hc => absurd hc (show ¬ (τ.1 4 2) ≤ nI i by rw [hst]; exact nI_ge (by omega) (by omega)), fun _ => ?_⟩
      refine zq (σ := τ) hV hIτ hnτ 4 ?_
      show zSp _ _ 8 [.ref 4, .int (nI i)] τ (fun r σ' => σ'.2.2.2 = τ.2.2.2 + zAl 8 → V 37 [(0, .ref 0), (1, .int (nI w)), (2, .int d0), (3, .int (nI q)), (4, .int (nI i))] (r.toList ++ []) σ')
      refine heighth_4 (zR_of hIτ rfl rfl) rfl (by omega) (fun _ => ?_)
      rw [hS6]
      refine zq (σ := τ) hV hIτ hnτ 7 ?_
      show (¬ (3 : Int32) = 0) ∧ V 47 [(5, .int (σ.1 6 i)), (0, .ref 0), (1, .int (nI w)), (2, .int d0), (3, .int (nI q)), (4, .int (nI i))] [.int ((nI q) - (nI q) / 3 * 3), .int (σ.1 6 i), .int 0, .int 8] τ
      refine ⟨by decide, ?_⟩
      refine zq (σ := τ) hV hIτ hnτ 8 ?_
      show V 60 [(6, .int (if (if 0 < ((σ.1 6 i) + ((((nI q) - (nI q) / 3 * 3) - 1) * d0)) then ((σ.1 6 i) + ((((nI q) - (nI q) / 3 * 3) - 1) * d0)) else 0) < 8 then (if 0 < ((σ.1 6 i) + ((((nI q) - (nI q) / 3 * 3) - 1) * d0)) then ((σ.1 6 i) + ((((nI q) - (nI q) / 3 * 3) - 1) * d0)) else 0) else 8)), (5, .int (σ.1 6 i)), (0, .ref 0), (1, .int (nI w)), (2, .int d0), (3, .int (nI q)), (4, .int (nI i))] [] τ
      have e60 : (if (if 0 < ((σ.1 6 i) + ((((nI q) - (nI q) / 3 * 3) - 1) * d0)) then ((σ.1 6 i) + ((((nI q) - (nI q) / 3 * 3) - 1) * d0)) else 0) < 8 then (if 0 < ((σ.1 6 i) + ((((nI q) - (nI q) / 3 * 3) - 1) * d0)) then ((σ.1 6 i) + ((((nI q) - (nI q) / 3 * 3) - 1) * d0)) else 0) else 8) = zWy (σ.1 6) d0 w i := by rw [zrem3 (by omega), show q % 3 = zdg w i by rw [hq]; rfl, zCl_eq]; rfl
      rw [e60]
      refine zq (σ := τ) hV hIτ hnτ 3 ?_
      show (¬ (3 : Int32) = 0) ∧ V 63 [(6, .int (zWy (σ.1 6) d0 w i)), (5, .int (σ.1 6 i)), (0, .ref 0), (1, .int (nI w)), (2, .int d0), (3, .int (nI q)), (4, .int (nI i))] [.int ((nI q) - (nI q) / 3 * 3)] τ
      refine ⟨by decide, ?_⟩
      refine zq (σ := τ) hV hIτ hnτ 2 ?_
      show (((nI q) - (nI q) / 3 * 3) = 1 → V 76 [(6, .int (zWy (σ.1 6) d0 w i)), (5, .int (σ.1 6 i)), (0, .ref 0), (1, .int (nI w)), (2, .int d0), (3, .int (nI q)), (4, .int (nI i))] [] τ) ∧ (¬ ((nI q) - (nI q) / 3 * 3) = 1 → V 67 [(6, .int (zWy (σ.1 6) d0 w i)), (5, .int (σ.1 6 i)), (0, .ref 0), (1, .int (nI w)), (2, .int d0), (3, .int (nI q)), (4, .int (nI i))] [] τ)
      refine ⟨fun h_64 => ?_, fun h_64 => ?_⟩
      · skip
        refine zq (σ := τ) hV hIτ hnτ 7 ?_
        show zSp _ _ 7 [.ref 4, .int (nI i)] τ (fun r σ' => σ'.2.2.2 = τ.2.2.2 + zAl 7 → V 91 [(6, .int (zWy (σ.1 6) d0 w i)), (5, .int (σ.1 6 i)), (0, .ref 0), (1, .int (nI w)), (2, .int d0), (3, .int (nI q)), (4, .int (nI i))] (r.toList ++ [.int (nI i), .ref 7]) σ')
        refine hedge_4 (zR_of hIτ rfl rfl) rfl (by omega) (fun _ => ?_)
        refine zq (σ := τ) hV hIτ hnτ 2 ?_
        show zSp _ _ 11 [.ref 7, .int (nI i), .int (τ.1 5 i), .int (zWy (σ.1 6) d0 w i)] τ (fun r σ' => σ'.2.2.2 = τ.2.2.2 + zAl 11 → V 96 [(6, .int (zWy (σ.1 6) d0 w i)), (5, .int (σ.1 6 i)), (0, .ref 0), (1, .int (nI w)), (2, .int d0), (3, .int (nI q)), (4, .int (nI i))] (r.toList ++ []) σ')
        refine hstand_7 (zR_of hIτ rfl rfl) rfl (by omega) (fun _ => ?_)
        refine zq (σ := (zuI (zuI τ 8 i (τ.1 5 i)) 9 i (zWy (σ.1 6) d0 w i))) hV hIτ hnτ 3 ?_
        show (¬ (3 : Int32) = 0) ∧ V 99 [(6, .int (zWy (σ.1 6) d0 w i)), (5, .int (σ.1 6 i)), (0, .ref 0), (1, .int (nI w)), (2, .int d0), (3, .int (nI q)), (4, .int (nI i))] [.int ((nI q) / 3)] (zuI (zuI τ 8 i (τ.1 5 i)) 9 i (zWy (σ.1 6) d0 w i))
        refine ⟨by decide, ?_⟩
        refine zq (σ := (zuI (zuI τ 8 i (τ.1 5 i)) 9 i (zWy (σ.1 6) d0 w i))) hV hIτ hnτ 3 ?_
        show V 16 [(4, .int ((nI i) + 1)), (3, .int ((nI q) / 3)), (6, .int (zWy (σ.1 6) d0 w i)), (5, .int (σ.1 6 i)), (0, .ref 0), (1, .int (nI w)), (2, .int d0)] [] (zuI (zuI τ 8 i (τ.1 5 i)) 9 i (zWy (σ.1 6) d0 w i))
        refine zwk hV [4, 5, 6, 1, 0] rfl ?_
        rw [nI_1, zdiv3 (by omega)]
        refine ihi (i + 1) (q / 3) _ (by omega) (by rw [hq, Nat.div_div_eq_div_mul, Nat.pow_succ]) ((ht.uI rfl).uI rfl) h7 (fun j hj => ?_) (fun j hj => ?_)
        · simp only [zuI_get]
          by_cases e : j = i
          · subst e; simp [h5]
          · have := hES j hj; simp [e, this.1]; intro hji; exact this.2 (by omega)
        · by_cases e : j = i
          · subst e; rintro ⟨c1, c2⟩
            rw [zrem3 (by omega), show q % 3 = zdg w j by rw [hq]; rfl] at h_64; exact c1 ((zn1 (by unfold zdg; omega)).mp h_64)
          · exact hus j (by omega)
      · skip
        refine zq (σ := τ) hV hIτ hnτ 3 ?_
        show (¬ (zWy (σ.1 6) d0 w i) = (σ.1 6 i) → V 76 [(6, .int (zWy (σ.1 6) d0 w i)), (5, .int (σ.1 6 i)), (0, .ref 0), (1, .int (nI w)), (2, .int d0), (3, .int (nI q)), (4, .int (nI i))] [] τ) ∧ (¬ (¬ (zWy (σ.1 6) d0 w i) = (σ.1 6 i)) → V 74 [(6, .int (zWy (σ.1 6) d0 w i)), (5, .int (σ.1 6 i)), (0, .ref 0), (1, .int (nI w)), (2, .int d0), (3, .int (nI q)), (4, .int (nI i))] [] τ)
        refine ⟨fun h_71 => ?_, fun h_71 => ?_⟩
        · skip
          refine zq (σ := τ) hV hIτ hnτ 7 ?_
          show zSp _ _ 7 [.ref 4, .int (nI i)] τ (fun r σ' => σ'.2.2.2 = τ.2.2.2 + zAl 7 → V 91 [(6, .int (zWy (σ.1 6) d0 w i)), (5, .int (σ.1 6 i)), (0, .ref 0), (1, .int (nI w)), (2, .int d0), (3, .int (nI q)), (4, .int (nI i))] (r.toList ++ [.int (nI i), .ref 7]) σ')
          refine hedge_4 (zR_of hIτ rfl rfl) rfl (by omega) (fun _ => ?_)
          refine zq (σ := τ) hV hIτ hnτ 2 ?_
          show zSp _ _ 11 [.ref 7, .int (nI i), .int (τ.1 5 i), .int (zWy (σ.1 6) d0 w i)] τ (fun r σ' => σ'.2.2.2 = τ.2.2.2 + zAl 11 → V 96 [(6, .int (zWy (σ.1 6) d0 w i)), (5, .int (σ.1 6 i)), (0, .ref 0), (1, .int (nI w)), (2, .int d0), (3, .int (nI q)), (4, .int (nI i))] (r.toList ++ []) σ')
          refine hstand_7 (zR_of hIτ rfl rfl) rfl (by omega) (fun _ => ?_)
          refine zq (σ := (zuI (zuI τ 8 i (τ.1 5 i)) 9 i (zWy (σ.1 6) d0 w i))) hV hIτ hnτ 3 ?_
          show (¬ (3 : Int32) = 0) ∧ V 99 [(6, .int (zWy (σ.1 6) d0 w i)), (5, .int (σ.1 6 i)), (0, .ref 0), (1, .int (nI w)), (2, .int d0), (3, .int (nI q)), (4, .int (nI i))] [.int ((nI q) / 3)] (zuI (zuI τ 8 i (τ.1 5 i)) 9 i (zWy (σ.1 6) d0 w i))
          refine ⟨by decide, ?_⟩
          refine zq (σ := (zuI (zuI τ 8 i (τ.1 5 i)) 9 i (zWy (σ.1 6) d0 w i))) hV hIτ hnτ 3 ?_
          show V 16 [(4, .int ((nI i) + 1)), (3, .int ((nI q) / 3)), (6, .int (zWy (σ.1 6) d0 w i)), (5, .int (σ.1 6 i)), (0, .ref 0), (1, .int (nI w)), (2, .int d0)] [] (zuI (zuI τ 8 i (τ.1 5 i)) 9 i (zWy (σ.1 6) d0 w i))
          refine zwk hV [4, 5, 6, 1, 0] rfl ?_
          rw [nI_1, zdiv3 (by omega)]
          refine ihi (i + 1) (q / 3) _ (by omega) (by rw [hq, Nat.div_div_eq_div_mul, Nat.pow_succ]) ((ht.uI rfl).uI rfl) h7 (fun j hj => ?_) (fun j hj => ?_)
          · simp only [zuI_get]
            by_cases e : j = i
            · subst e; simp [h5]
            · have := hES j hj; simp [e, this.1]; intro hji; exact this.2 (by omega)
          · by_cases e : j = i
            · subst e; rintro ⟨c1, c2⟩
              exact h_71 c2
            · exact hus j (by omega)
        · skip
          have h_71 := Classical.not_not.mp h_71
          refine zq (σ := τ) hV hIτ hnτ 2 ?_
          show ((0 : Int32) = 0 ∨ (0 : Int32) = 1) ∧ K (some (.int 0)) τ
          refine ⟨by decide, ?_⟩
          rw [zrem3 (by omega), show q % 3 = zdg w i by rw [hq]; rfl] at h_64
          exact h0 τ ht (fun x => x i (by omega) ⟨fun c => h_64 (by rw [c]; rfl), h_71⟩)
  exact Hi m 0 w τ (by omega) (by rw [Nat.pow_zero, Nat.div_one]) ht h7 (fun j hj => ⟨(hES j hj).1, fun c => absurd c (Nat.not_lt_zero j)⟩) (fun j c => absurd c (Nat.not_lt_zero j))
/-- whether fingers hold in all ways of slipping by d -/
def zHw (n : Nat) (X Y : Nat → Int32) (f : Int32) (E S : Nat → Int32) (m : Nat) (d0 : Int32) : Prop := ∀ w, w < 3 ^ m → zHo n X Y f E (zWy S d0 w) m
theorem z3k {k : Nat} (h : k ≤ 4) : 3 ^ k ≤ 81 := by
  rcases (show k = 0 ∨ k = 1 ∨ k = 2 ∨ k = 3 ∨ k = 4 by omega) with h | h | h | h | h <;> subst h <;> decide
set_option maxRecDepth 8000 in
set_option maxHeartbeats 4000000 in
theorem isHeldWithin_ok {d : Nat} {σ : zSt} {K : Option Value → zSt → Prop} {d0 : Int32} {n m : Nat} (hI : zQI (kR 0 30) σ.2.2) (hn : σ.1 1 2 = nI n) (hn10 : n ≤ 10) (hs : σ.1 4 2 = nI m) (hm : m ≤ 4) (hE : ∀ i, i < m → ∃ e, σ.1 5 i = nI e ∧ e < n) (hS : ∀ i, i < m → zBt 0 8 (σ.1 6 i)) (h1 : ∀ τ, zOnly zfC σ τ → zHw n (σ.1 2) (σ.1 3) (σ.1 0 9) (σ.1 5) (σ.1 6) m d0 → K (some (.int 1)) τ) (h0 : ∀ τ, zOnly zfC σ τ → ¬ zHw n (σ.1 2) (σ.1 3) (σ.1 0 9) (σ.1 5) (σ.1 6) m d0 → K (some (.int 0)) τ) : zSp zx (d + 6) mX8_isHeldWithin [.ref 0, .int d0] σ K := by
  refine ⟨⟨by decide, Nat.le_of_ble_eq_true rfl⟩, fun V hV => ?_⟩
  refine zq (σ := σ) hV hI rfl 4 ?_
  show V 4 [(3, .int 0), (2, .int 1), (0, .ref 0), (1, .int d0)] [] σ
  refine zwk hV [2, 3, 1, 0] rfl ?_
  have Hi : ∀ (r : Nat) (i : Nat), i + r = m → V 4 [(0, .ref 0), (1, .int d0), (2, .int (nI (3 ^ i))), (3, .int (nI i))] [] σ := by
    intro r
    induction r with
    | zero =>
      intro i him
      refine zq (σ := σ) hV hI rfl 4 ?_
      show zSp _ _ 6 [.ref 4] σ (fun r σ' => σ'.2.2.2 = σ.2.2.2 + zAl 6 → V 12 [(0, .ref 0), (1, .int d0), (2, .int (nI (3 ^ i))), (3, .int (nI i))] (r.toList ++ [.int (nI i)]) σ')
      refine hsize_4 (zR_of hI rfl rfl) (fun _ => ?_)
      refine zq (σ := σ) hV hI rfl 1 ?_
      show ((σ.1 4 2) ≤ (nI i) → V 30 [(0, .ref 0), (1, .int d0), (2, .int (nI (3 ^ i))), (3, .int (nI i))] [] σ) ∧ (¬ (σ.1 4 2) ≤ (nI i) → V 15 [(0, .ref 0), (1, .int d0), (2, .int (nI (3 ^ i))), (3, .int (nI i))] [] σ)
      refine ⟨fun _ => ?_, fun hc => absurd (show (σ.1 4 2) ≤ nI i by rw [hs]; exact zge_self (by omega)) hc⟩
      refine zq (σ := σ) hV hI rfl 2 ?_
      show V 32 [(3, .int 0), (0, .ref 0), (1, .int d0), (2, .int (nI (3 ^ i)))] [] σ
      refine zwk hV [1, 2, 3, 0] rfl ?_
      obtain rfl : m = i := by omega
      have h39 := z3k hm
      have Hv : ∀ (r : Nat) (v : Nat) (τ : zSt), v + r = 3 ^ m → zOnly zfC σ τ → (∀ j, j < v → zUs (σ.1 6) d0 m j → zHo n (σ.1 2) (σ.1 3) (σ.1 0 9) (σ.1 5) (zWy (σ.1 6) d0 j) m) → V 32 [(0, .ref 0), (1, .int d0), (2, .int (nI (3 ^ m))), (3, .int (nI v))] [] τ := by
        intro r
        induction r with
        | zero =>
          intro v τ hvr ht hws
          have hIτ := zQI_eq hI ht.2.2
          have hnτ : τ.2.2.2 = σ.2.2.2 := congrArg Prod.snd ht.2.2
          have hst : τ.1 4 2 = nI m := (ht.1 4 2 rfl).trans hs
          have e5 : τ.1 5 = σ.1 5 := funext fun j => ht.1 5 j rfl
          have e6 : τ.1 6 = σ.1 6 := funext fun j => ht.1 6 j rfl
          refine zq (σ := τ) hV hIτ hnτ 3 ?_
          show ((nI (3 ^ m)) ≤ (nI v) → V 65 [(0, .ref 0), (1, .int d0), (2, .int (nI (3 ^ m))), (3, .int (nI v))] [] τ) ∧ (¬ (nI (3 ^ m)) ≤ (nI v) → V 37 [(0, .ref 0), (1, .int d0), (2, .int (nI (3 ^ m))), (3, .int (nI v))] [] τ)
          refine ⟨fun _ => ?_, fun hc => absurd (show nI (3 ^ m) ≤ nI v from zge_self (by omega)) hc⟩
          refine zq (σ := τ) hV hIτ hnτ 2 ?_
          show ((1 : Int32) = 0 ∨ (1 : Int32) = 1) ∧ K (some (.int 1)) τ
          refine ⟨by decide, ?_⟩
          refine h1 τ ht (zUs_all (P := fun A => zHo n (σ.1 2) (σ.1 3) (σ.1 0 9) (σ.1 5) A m) (fun A B hAB => (zHo_congr (fun j hj => ⟨rfl, hAB j hj⟩)).mp) hS (fun j hj => hws j (by omega)))
        | succ r ihv =>
          intro v τ hvr ht hws
          have hIτ := zQI_eq hI ht.2.2
          have hnτ : τ.2.2.2 = σ.2.2.2 := congrArg Prod.snd ht.2.2
          have hst : τ.1 4 2 = nI m := (ht.1 4 2 rfl).trans hs
          have e5 : τ.1 5 = σ.1 5 := funext fun j => ht.1 5 j rfl
          have e6 : τ.1 6 = σ.1 6 := funext fun j => ht.1 6 j rfl
          refine zq (σ := τ) hV hIτ hnτ 3 ?_
          show ((nI (3 ^ m)) ≤ (nI v) → V 65 [(0, .ref 0), (1, .int d0), (2, .int (nI (3 ^ m))), (3, .int (nI v))] [] τ) ∧ (¬ (nI (3 ^ m)) ≤ (nI v) → V 37 [(0, .ref 0), (1, .int d0), (2, .int (nI (3 ^ m))), (3, .int (nI v))] [] τ)
          refine ⟨fun hc => absurd hc (show ¬ nI (3 ^ m) ≤ nI v from nI_ge (by omega) (by omega)), fun _ => ?_⟩
          refine zq (σ := τ) hV hIτ hnτ 4 ?_
          show zSp _ _ 64 [.ref 0, .int (nI v), .int d0] τ (fun r σ' => σ'.2.2.2 = τ.2.2.2 + zAl 64 → V 43 [(0, .ref 0), (1, .int d0), (2, .int (nI (3 ^ m))), (3, .int (nI v))] (r.toList ++ []) σ')
          have h39 := z3k hm
          refine slide_ok hIτ hst hm (by omega) (fun υ hu0 h7 hES hus _ => ?_) (fun υ hu0 hus _ => ?_)
          · skip
            rw [e5, e6] at hES
            rw [e6] at hus
            have hu := ht.tr hu0
            have hIυ := zQI_eq hI hu.2.2
            have hnυ : υ.2.2.2 = σ.2.2.2 := congrArg Prod.snd hu.2.2
            refine zq (σ := υ) hV hIυ hnυ 1 ?_
            show ((1 : Int32) = 0 → V 59 [(0, .ref 0), (1, .int d0), (2, .int (nI (3 ^ m))), (3, .int (nI v))] [] υ) ∧ (¬ (1 : Int32) = 0 → V 46 [(0, .ref 0), (1, .int d0), (2, .int (nI (3 ^ m))), (3, .int (nI v))] [] υ)
            refine ⟨fun hc => absurd hc (by decide), fun _ => ?_⟩
            refine zq (σ := υ) hV hIυ hnυ 4 ?_
            show zSp _ _ 65 [.ref 0, .ref 7] υ (fun r σ' => σ'.2.2.2 = υ.2.2.2 + zAl 65 → V 54 [(0, .ref 0), (1, .int d0), (2, .int (nI (3 ^ m))), (3, .int (nI v))] (r.toList ++ []) σ')
            refine heldT hI hn hn10 hu h7 (by omega) hES hE (fun φ hf hf7 hfe hq _ => ?_) (fun φ hf hf7 hfe hq _ => ?_)
            · skip
              have hIφ := zQI_eq hI hf.2.2
              have hnφ : φ.2.2.2 = σ.2.2.2 := congrArg Prod.snd hf.2.2
              refine zq (σ := φ) hV hIφ hnφ 1 ?_
              show (¬ (1 : Int32) = 0 → V 59 [(0, .ref 0), (1, .int d0), (2, .int (nI (3 ^ m))), (3, .int (nI v))] [] φ) ∧ (¬ (¬ (1 : Int32) = 0) → V 57 [(0, .ref 0), (1, .int d0), (2, .int (nI (3 ^ m))), (3, .int (nI v))] [] φ)
              refine ⟨fun _ => ?_, fun hc => absurd (by decide) hc⟩
              refine zq (σ := φ) hV hIφ hnφ 2 ?_
              show V 32 [(3, .int ((nI v) + 1)), (0, .ref 0), (1, .int d0), (2, .int (nI (3 ^ m)))] [] φ
              refine zwk hV [1, 2, 3, 0] rfl ?_
              rw [nI_1]
              refine ihv (v + 1) φ (by omega) hf (fun j hj => ?_)
              by_cases e : j = v
              · subst e; exact fun x => hq
              · exact hws j (by omega)
            · skip
              have hIφ := zQI_eq hI hf.2.2
              have hnφ : φ.2.2.2 = σ.2.2.2 := congrArg Prod.snd hf.2.2
              refine zq (σ := φ) hV hIφ hnφ 1 ?_
              show (¬ (0 : Int32) = 0 → V 59 [(0, .ref 0), (1, .int d0), (2, .int (nI (3 ^ m))), (3, .int (nI v))] [] φ) ∧ (¬ (¬ (0 : Int32) = 0) → V 57 [(0, .ref 0), (1, .int d0), (2, .int (nI (3 ^ m))), (3, .int (nI v))] [] φ)
              refine ⟨fun hc => absurd hc (by decide), fun _ => ?_⟩
              refine zq (σ := φ) hV hIφ hnφ 2 ?_
              show ((0 : Int32) = 0 ∨ (0 : Int32) = 1) ∧ K (some (.int 0)) φ
              refine ⟨by decide, ?_⟩
              exact h0 φ hf (fun x => hq (x v (by omega)))
          · skip
            rw [e6] at hus
            have hu := ht.tr hu0
            have hIυ := zQI_eq hI hu.2.2
            have hnυ : υ.2.2.2 = σ.2.2.2 := congrArg Prod.snd hu.2.2
            refine zq (σ := υ) hV hIυ hnυ 1 ?_
            show ((0 : Int32) = 0 → V 59 [(0, .ref 0), (1, .int d0), (2, .int (nI (3 ^ m))), (3, .int (nI v))] [] υ) ∧ (¬ (0 : Int32) = 0 → V 46 [(0, .ref 0), (1, .int d0), (2, .int (nI (3 ^ m))), (3, .int (nI v))] [] υ)
            refine ⟨fun _ => ?_, fun hc => absurd (by decide) hc⟩
            refine zq (σ := υ) hV hIυ hnυ 2 ?_
            show V 32 [(3, .int ((nI v) + 1)), (0, .ref 0), (1, .int d0), (2, .int (nI (3 ^ m)))] [] υ
            refine zwk hV [1, 2, 3, 0] rfl ?_
            rw [nI_1]
            refine ihv (v + 1) υ (by omega) hu (fun j hj => ?_)
            by_cases e : j = v
            · subst e; exact fun x => absurd x hus
            · exact hws j (by omega)
      exact Hv (3 ^ m) 0 σ (by omega) zOnly.rf (fun j c => absurd c (Nat.not_lt_zero j))
    | succ r ihi =>
      intro i him
      refine zq (σ := σ) hV hI rfl 4 ?_
      show zSp _ _ 6 [.ref 4] σ (fun r σ' => σ'.2.2.2 = σ.2.2.2 + zAl 6 → V 12 [(0, .ref 0), (1, .int d0), (2, .int (nI (3 ^ i))), (3, .int (nI i))] (r.toList ++ [.int (nI i)]) σ')
      refine hsize_4 (zR_of hI rfl rfl) (fun _ => ?_)
      refine zq (σ := σ) hV hI rfl 1 ?_
      show ((σ.1 4 2) ≤ (nI i) → V 30 [(0, .ref 0), (1, .int d0), (2, .int (nI (3 ^ i))), (3, .int (nI i))] [] σ) ∧ (¬ (σ.1 4 2) ≤ (nI i) → V 15 [(0, .ref 0), (1, .int d0), (2, .int (nI (3 ^ i))), (3, .int (nI i))] [] σ)
      refine ⟨fun hc => absurd hc (show ¬ (σ.1 4 2) ≤ nI i by rw [hs]; exact nI_ge (by omega) (by omega)), fun _ => ?_⟩
      refine zq (σ := σ) hV hI rfl 3 ?_
      show (4 ≤ (nI i) → V 30 [(0, .ref 0), (1, .int d0), (2, .int (nI (3 ^ i))), (3, .int (nI i))] [] σ) ∧ (¬ 4 ≤ (nI i) → V 20 [(0, .ref 0), (1, .int d0), (2, .int (nI (3 ^ i))), (3, .int (nI i))] [] σ)
      refine ⟨fun hc => absurd hc (show ¬ nI 4 ≤ nI i from nI_ge (by omega) (by decide)), fun _ => ?_⟩
      refine zq (σ := σ) hV hI rfl 6 ?_
      show V 4 [(3, .int ((nI i) + 1)), (2, .int ((nI (3 ^ i)) * 3)), (0, .ref 0), (1, .int d0)] [] σ
      refine zwk hV [2, 3, 1, 0] rfl ?_
      rw [nI_1, show nI (3 ^ i) * 3 = nI (3 ^ (i + 1)) by rw [show (3 : Int32) = nI 3 from rfl, pk_mul, Nat.pow_succ]]
      exact ihi (i + 1) (by omega)
  exact Hi m 0 (by omega)
end
section
variable {zx : Nat × (Nat → Int32)}
theorem zpred {k : Nat} (h : 1 ≤ k) : nI k + (-1) = nI (k - 1) := by
  obtain ⟨j, rfl⟩ : ∃ j, k = j + 1 := ⟨k - 1, by omega⟩
  rw [← Int32.sub_eq_add_neg, show j + 1 - 1 = j by omega]
  exact nI_pred _
def zCt (c h f s q g l bn bd w : Int32) : Int32 := if w = 0 then c else if w = 1 then h else if w = 2 then f else if w = 3 then s else if w = 4 then q else if w = 5 then g else if w = 6 then l else if w = 7 then zBc bn else if w = 8 then bd else -2
set_option maxRecDepth 8000 in
set_option maxHeartbeats 4000000 in
theorem slip_C {d : Nat} {σ : zSt} {K : Option Value → zSt → Prop} {n m : Nat} (hI : zQI (kR 0 30) σ.2.2) (hn : σ.1 1 2 = nI n) (hn10 : n ≤ 10) (hs : σ.1 4 2 = nI m) (hm : m ≤ 8) (hE : ∀ i, i < m → ∃ e, σ.1 5 i = nI e ∧ e < n) (hS : ∀ i, i < m → zBt 0 8 (σ.1 6 i)) (hNot : ¬ m ≤ 4 → K (some (.int (-3))) σ) (hNone : m ≤ 4 → ∀ τ, zOnly zfC σ τ → ¬ zHo n (σ.1 2) (σ.1 3) (σ.1 0 9) (σ.1 5) (σ.1 6) m → K (some (.int (-1))) τ) (hOk : m ≤ 4 → zHo n (σ.1 2) (σ.1 3) (σ.1 0 9) (σ.1 5) (σ.1 6) m → ∀ τ r, zOnly zfC σ τ → r ≤ 8 → (r = 0 ∨ zHw n (σ.1 2) (σ.1 3) (σ.1 0 9) (σ.1 5) (σ.1 6) m (nI r)) → (∀ j, r < j → j ≤ 8 → ¬ zHw n (σ.1 2) (σ.1 3) (σ.1 0 9) (σ.1 5) (σ.1 6) m (nI j)) → K (some (.int (nI r))) τ) : zSp zx (d + 7) mX8_slip [.ref 0] σ K := by
  refine ⟨⟨by decide, Nat.le_of_ble_eq_true rfl⟩, fun V hV => ?_⟩
  have hmi := nI_toInt (show m < 2 ^ 31 by omega)
  refine zq (σ := σ) hV hI rfl 3 ?_
  show zSp _ _ 6 [.ref 4] σ (fun r σ' => σ'.2.2.2 = σ.2.2.2 + zAl 6 → V 7 [(0, .ref 0)] (r.toList ++ []) σ')
  refine hsize_4 (zR_of hI rfl rfl) (fun _ => ?_)
  refine zq (σ := σ) hV hI rfl 2 ?_
  show ((σ.1 4 2) ≤ 4 → V 14 [(0, .ref 0)] [] σ) ∧ (¬ (σ.1 4 2) ≤ 4 → V 11 [(0, .ref 0)] [] σ)
  refine ⟨fun h_8 => ?_, fun h_8 => ?_⟩
  · skip
    have h4 : m ≤ 4 := by
      have e4 : (4 : Int32).toInt = 4 := rfl
      rw [zle, hs, hmi] at h_8
      omega
    refine zq (σ := σ) hV hI rfl 4 ?_
    show zSp _ _ 65 [.ref 0, .ref 4] σ (fun r σ' => σ'.2.2.2 = σ.2.2.2 + zAl 65 → V 22 [(0, .ref 0)] (r.toList ++ []) σ')
    refine isHeldBy_4 (zR_of hI rfl rfl) hn hn10 hs hm hE (fun υ hu hq _ => ?_) (fun υ hu hq _ => ?_)
    · skip
      have hIu := zQI_eq hI hu.2.2
      have hnu : υ.2.2.2 = σ.2.2.2 := (congrArg Prod.snd hu.2.2).trans rfl
      refine zq (σ := υ) hV hIu hnu 1 ?_
      show (¬ (1 : Int32) = 0 → V 27 [(0, .ref 0)] [] υ) ∧ (¬ (¬ (1 : Int32) = 0) → V 25 [(0, .ref 0)] [] υ)
      refine ⟨fun _ => ?_, fun hc => absurd (by decide) hc⟩
      have hq0 := hq
      refine zq (σ := υ) hV hIu hnu 2 ?_
      show V 30 [(1, .int 8), (0, .ref 0)] [] υ
      refine zwk hV [1, 0] rfl ?_
      have Hk : ∀ (r : Nat) (k : Nat) (τ : zSt), k = r → k ≤ 8 → zOnly zfC σ τ → (∀ j, k < j → j ≤ 8 → ¬ zHw n (σ.1 2) (σ.1 3) (σ.1 0 9) (σ.1 5) (σ.1 6) m (nI j)) → V 30 [(0, .ref 0), (1, .int (nI k))] [] τ := by
        intro r
        induction r with
        | zero =>
          intro k τ hkr hk8 ht hno
          have hIτ := zQI_eq hI ht.2.2
          have hnτ : τ.2.2.2 = σ.2.2.2 := congrArg Prod.snd ht.2.2
          have e2 : τ.1 2 = σ.1 2 := funext fun j => ht.1 2 j rfl
          have e3 : τ.1 3 = σ.1 3 := funext fun j => ht.1 3 j rfl
          have e5 : τ.1 5 = σ.1 5 := funext fun j => ht.1 5 j rfl
          have e6 : τ.1 6 = σ.1 6 := funext fun j => ht.1 6 j rfl
          have e9 : τ.1 0 9 = σ.1 0 9 := ht.1 0 9 rfl
          refine zq (σ := τ) hV hIτ hnτ 2 ?_
          show ((nI k) ≤ 0 → V 50 [(0, .ref 0), (1, .int (nI k))] [] τ) ∧ (¬ (nI k) ≤ 0 → V 34 [(0, .ref 0), (1, .int (nI k))] [] τ)
          refine ⟨fun _ => ?_, fun hc => absurd (show nI k ≤ 0 by rw [hkr]; decide) hc⟩
          refine zq (σ := τ) hV hIτ hnτ 2 ?_
          show K (some (.int 0)) τ
          exact hOk h4 hq τ 0 ht (by omega) (Or.inl rfl) (fun j h1 h2 => hno j (by omega) h2)
        | succ r ihk =>
          intro k τ hkr hk8 ht hno
          have hIτ := zQI_eq hI ht.2.2
          have hnτ : τ.2.2.2 = σ.2.2.2 := congrArg Prod.snd ht.2.2
          have e2 : τ.1 2 = σ.1 2 := funext fun j => ht.1 2 j rfl
          have e3 : τ.1 3 = σ.1 3 := funext fun j => ht.1 3 j rfl
          have e5 : τ.1 5 = σ.1 5 := funext fun j => ht.1 5 j rfl
          have e6 : τ.1 6 = σ.1 6 := funext fun j => ht.1 6 j rfl
          have e9 : τ.1 0 9 = σ.1 0 9 := ht.1 0 9 rfl
          refine zq (σ := τ) hV hIτ hnτ 2 ?_
          show ((nI k) ≤ 0 → V 50 [(0, .ref 0), (1, .int (nI k))] [] τ) ∧ (¬ (nI k) ≤ 0 → V 34 [(0, .ref 0), (1, .int (nI k))] [] τ)
          refine ⟨fun hc => absurd hc (show ¬ nI k ≤ 0 by rw [zle, nI_toInt (by omega)]; have := zT_lits.1; omega), fun _ => ?_⟩
          refine zq (σ := τ) hV hIτ hnτ 3 ?_
          show zSp _ _ 63 [.ref 0, .int (nI k)] τ (fun r σ' => σ'.2.2.2 = τ.2.2.2 + zAl 63 → V 39 [(0, .ref 0), (1, .int (nI k))] (r.toList ++ []) σ')
          refine isHeldWithin_ok hIτ ((ht.1 1 2 rfl).trans hn) hn10 ((ht.1 4 2 rfl).trans hs) h4 (by rw [e5]; exact hE) (by rw [e6]; exact hS) (fun φ hf0 hq _ => ?_) (fun φ hf0 hq _ => ?_)
          · skip
            have hf := ht.tr hf0
            have hIφ := zQI_eq hI hf.2.2
            have hnφ : φ.2.2.2 = σ.2.2.2 := congrArg Prod.snd hf.2.2
            rw [e2, e3, e9, e5, e6] at hq
            refine zq (σ := φ) hV hIφ hnφ 1 ?_
            show ((1 : Int32) = 0 → V 44 [(0, .ref 0), (1, .int (nI k))] [] φ) ∧ (¬ (1 : Int32) = 0 → V 42 [(0, .ref 0), (1, .int (nI k))] [] φ)
            refine ⟨fun hc => absurd hc (by decide), fun _ => ?_⟩
            refine zq (σ := φ) hV hIφ hnφ 2 ?_
            show K (some (.int (nI k))) φ
            exact hOk h4 hq0 φ k hf hk8 (Or.inr hq) hno
          · skip
            have hf := ht.tr hf0
            have hIφ := zQI_eq hI hf.2.2
            have hnφ : φ.2.2.2 = σ.2.2.2 := congrArg Prod.snd hf.2.2
            rw [e2, e3, e9, e5, e6] at hq
            refine zq (σ := φ) hV hIφ hnφ 1 ?_
            show ((0 : Int32) = 0 → V 44 [(0, .ref 0), (1, .int (nI k))] [] φ) ∧ (¬ (0 : Int32) = 0 → V 42 [(0, .ref 0), (1, .int (nI k))] [] φ)
            refine ⟨fun _ => ?_, fun hc => absurd (by decide) hc⟩
            refine zq (σ := φ) hV hIφ hnφ 2 ?_
            show V 30 [(1, .int ((nI k) + (-1))), (0, .ref 0)] [] φ
            refine zwk hV [1, 0] rfl ?_
            rw [zpred (by omega)]
            refine ihk (k - 1) φ (by omega) (by omega) hf (fun j h1 h2 => ?_)
            by_cases e : j = k
            · rw [e]; exact hq
            · exact hno j (by omega) h2
      exact Hk 8 8 υ rfl (Nat.le_refl _) (hu.wk zfW_C) (fun j h1 h2 => absurd h1 (by omega))
    · skip
      have hIu := zQI_eq hI hu.2.2
      have hnu : υ.2.2.2 = σ.2.2.2 := (congrArg Prod.snd hu.2.2).trans rfl
      refine zq (σ := υ) hV hIu hnu 1 ?_
      show (¬ (0 : Int32) = 0 → V 27 [(0, .ref 0)] [] υ) ∧ (¬ (¬ (0 : Int32) = 0) → V 25 [(0, .ref 0)] [] υ)
      refine ⟨fun hc => absurd hc (by decide), fun _ => ?_⟩
      refine zq (σ := υ) hV hIu hnu 2 ?_
      show K (some (.int (-1))) υ
      exact hNone h4 υ (hu.wk zfW_C) hq
  · skip
    refine zq (σ := σ) hV hI rfl 2 ?_
    show K (some (.int (-3))) σ
    exact hNot (fun q => h_8 (by rw [zle, hs, hmi]; have e4 : (4 : Int32).toInt = 4 := rfl; omega))
theorem zCt_no {c h f s q g l bn bd w : Int32} (hw : ¬ zBt 0 8 w) : zCt c h f s q g l bn bd w = -2 := by
  have k : ∀ v : Int32, zBt 0 8 v → ¬ w = v := fun v hv e => hw (by rw [e]; exact hv)
  unfold zCt
  rw [if_neg (k 0  ⟨by decide, by decide⟩), if_neg (k 1  ⟨by decide, by decide⟩), if_neg (k 2  ⟨by decide, by decide⟩), if_neg (k 3  ⟨by decide, by decide⟩), if_neg (k 4  ⟨by decide, by decide⟩), if_neg (k 5  ⟨by decide, by decide⟩), if_neg (k 6  ⟨by decide, by decide⟩), if_neg (k 7  ⟨by decide, by decide⟩), if_neg (k 8  ⟨by decide, by decide⟩)]
set_option maxRecDepth 8000 in
set_option maxHeartbeats 4000000 in
theorem count_C {d : Nat} {σ : zSt} {K : Option Value → zSt → Prop} {w : Int32} (hI : zQI (kR 0 30) σ.2.2) (hK : K (some (.int (zCt (σ.1 1 2) (σ.1 4 2) (σ.1 0 9) (σ.1 14 3) (σ.1 18 2) (σ.1 21 2) (σ.1 26 3) (σ.1 24 1) (σ.1 24 2) w))) σ) : zSp zx (d + 3) mX8_count [.ref 0, .int w] σ K := by
  refine ⟨⟨by decide, Nat.le_of_ble_eq_true rfl⟩, fun V hV => ?_⟩
  refine zq (σ := σ) hV hI rfl 2 ?_
  show ((Int32.toInt w < 0 ∨ 8 < Int32.toInt w) → V 121 [(0, .ref 0), (1, .int w)] [] σ) ∧ ((¬ Int32.toInt w < 0 ∧ ¬ 8 < Int32.toInt w) → ∃ off, (#[51, 59, 67, 72, 80, 88, 96, 104, 112] : Array Int)[(Int32.toInt w - 0).toNat]? = some off ∧ 0 ≤ ((1 : Nat) : Int) + off ∧ V (ztg 1 off) [(0, .ref 0), (1, .int w)] [] σ)
  refine ⟨fun hsw => ?_, fun hsw => ?_⟩
  · skip
    refine zq (σ := σ) hV hI rfl 2 ?_
    show K (some (.int (-2))) σ
    have e : zCt (σ.1 1 2) (σ.1 4 2) (σ.1 0 9) (σ.1 14 3) (σ.1 18 2) (σ.1 21 2) (σ.1 26 3) (σ.1 24 1) (σ.1 24 2) w = -2 := zCt_no (by unfold zBt; omega)
    rw [e] at hK
    exact hK
  · skip
    rcases (show Int32.toInt w = 0 ∨ Int32.toInt w = 1 ∨ Int32.toInt w = 2 ∨ Int32.toInt w = 3 ∨ Int32.toInt w = 4 ∨ Int32.toInt w = 5 ∨ Int32.toInt w = 6 ∨ Int32.toInt w = 7 ∨ Int32.toInt w = 8 by omega) with hx | hx | hx | hx | hx | hx | hx | hx | hx
    · skip
      refine ⟨51, by rw [hx]; rfl, by decide, ?_⟩
      show V 52 [(0, .ref 0), (1, .int w)] [] σ
      refine zq (σ := σ) hV hI rfl 3 ?_
      show zSp _ _ 16 [.ref 1] σ (fun r σ' => σ'.2.2.2 = σ.2.2.2 + zAl 16 → V 59 [(0, .ref 0), (1, .int w)] (r.toList ++ []) σ')
      refine corners_ok (zR_of hI rfl rfl) (fun _ => ?_)
      refine zq (σ := σ) hV hI rfl 1 ?_
      show K (some (.int (σ.1 1 2))) σ
      obtain rfl : w = 0 := by rw [zeq, hx]; rfl
      exact hK
    · skip
      refine ⟨59, by rw [hx]; rfl, by decide, ?_⟩
      show V 60 [(0, .ref 0), (1, .int w)] [] σ
      refine zq (σ := σ) hV hI rfl 3 ?_
      show zSp _ _ 6 [.ref 4] σ (fun r σ' => σ'.2.2.2 = σ.2.2.2 + zAl 6 → V 67 [(0, .ref 0), (1, .int w)] (r.toList ++ []) σ')
      refine hsize_4 (zR_of hI rfl rfl) (fun _ => ?_)
      refine zq (σ := σ) hV hI rfl 1 ?_
      show K (some (.int (σ.1 4 2))) σ
      obtain rfl : w = 1 := by rw [zeq, hx]; rfl
      exact hK
    · skip
      refine ⟨67, by rw [hx]; rfl, by decide, ?_⟩
      show V 68 [(0, .ref 0), (1, .int w)] [] σ
      refine zq (σ := σ) hV hI rfl 3 ?_
      show K (some (.int (σ.1 0 9))) σ
      obtain rfl : w = 2 := by rw [zeq, hx]; rfl
      exact hK
    · skip
      refine ⟨72, by rw [hx]; rfl, by decide, ?_⟩
      show V 73 [(0, .ref 0), (1, .int w)] [] σ
      refine zq (σ := σ) hV hI rfl 3 ?_
      show zSp _ _ 37 [.ref 14] σ (fun r σ' => σ'.2.2.2 = σ.2.2.2 + zAl 37 → V 80 [(0, .ref 0), (1, .int w)] (r.toList ++ []) σ')
      refine ssize_ok (zR_of hI rfl rfl) (fun _ => ?_)
      refine zq (σ := σ) hV hI rfl 1 ?_
      show K (some (.int (σ.1 14 3))) σ
      obtain rfl : w = 3 := by rw [zeq, hx]; rfl
      exact hK
    · skip
      refine ⟨80, by rw [hx]; rfl, by decide, ?_⟩
      show V 81 [(0, .ref 0), (1, .int w)] [] σ
      refine zq (σ := σ) hV hI rfl 3 ?_
      show zSp _ _ 24 [.ref 18] σ (fun r σ' => σ'.2.2.2 = σ.2.2.2 + zAl 24 → V 88 [(0, .ref 0), (1, .int w)] (r.toList ++ []) σ')
      refine psize_ok (zR_of hI rfl rfl) (fun _ => ?_)
      refine zq (σ := σ) hV hI rfl 1 ?_
      show K (some (.int (σ.1 18 2))) σ
      obtain rfl : w = 4 := by rw [zeq, hx]; rfl
      exact hK
    · skip
      refine ⟨88, by rw [hx]; rfl, by decide, ?_⟩
      show V 89 [(0, .ref 0), (1, .int w)] [] σ
      refine zq (σ := σ) hV hI rfl 3 ?_
      show zSp _ _ 4 [.ref 21] σ (fun r σ' => σ'.2.2.2 = σ.2.2.2 + zAl 4 → V 96 [(0, .ref 0), (1, .int w)] (r.toList ++ []) σ')
      refine gsize_ok (zR_of hI rfl rfl) (fun _ => ?_)
      refine zq (σ := σ) hV hI rfl 1 ?_
      show K (some (.int (σ.1 21 2))) σ
      obtain rfl : w = 5 := by rw [zeq, hx]; rfl
      exact hK
    · skip
      refine ⟨96, by rw [hx]; rfl, by decide, ?_⟩
      show V 97 [(0, .ref 0), (1, .int w)] [] σ
      refine zq (σ := σ) hV hI rfl 3 ?_
      show zSp _ _ 26 [.ref 26] σ (fun r σ' => σ'.2.2.2 = σ.2.2.2 + zAl 26 → V 104 [(0, .ref 0), (1, .int w)] (r.toList ++ []) σ')
      refine latest_ok (zR_of hI rfl rfl) (fun _ => ?_)
      refine zq (σ := σ) hV hI rfl 1 ?_
      show K (some (.int (σ.1 26 3))) σ
      obtain rfl : w = 6 := by rw [zeq, hx]; rfl
      exact hK
    · skip
      refine ⟨104, by rw [hx]; rfl, by decide, ?_⟩
      show V 105 [(0, .ref 0), (1, .int w)] [] σ
      refine zq (σ := σ) hV hI rfl 3 ?_
      show zSp _ _ 2 [.ref 24] σ (fun r σ' => σ'.2.2.2 = σ.2.2.2 + zAl 2 → V 112 [(0, .ref 0), (1, .int w)] (r.toList ++ []) σ')
      refine bsize_ok (zR_of hI rfl rfl) (fun _ => ?_)
      refine zq (σ := σ) hV hI rfl 1 ?_
      show K (some (.int (zBc (σ.1 24 1)))) σ
      obtain rfl : w = 7 := by rw [zeq, hx]; rfl
      exact hK
    · skip
      refine ⟨112, by rw [hx]; rfl, by decide, ?_⟩
      show V 113 [(0, .ref 0), (1, .int w)] [] σ
      refine zq (σ := σ) hV hI rfl 3 ?_
      show zSp _ _ 1 [.ref 24] σ (fun r σ' => σ'.2.2.2 = σ.2.2.2 + zAl 1 → V 120 [(0, .ref 0), (1, .int w)] (r.toList ++ []) σ')
      refine bdropped_ok (zR_of hI rfl rfl) (fun _ => ?_)
      refine zq (σ := σ) hV hI rfl 1 ?_
      show K (some (.int (σ.1 24 2))) σ
      obtain rfl : w = 8 := by rw [zeq, hx]; rfl
      exact hK
end
section
variable {zx : Nat × (Nat → Int32)}
theorem zn_a {x y : Int32} {a b : Nat} (h : x = nI a) (g : y = nI b) : x + y = nI (a + b) := by rw [h, g, nI_add]
theorem zn_m {x y : Int32} {a b : Nat} (h : x = nI a) (g : y = nI b) : x * y = nI (a * b) := by rw [h, g, pk_mul]
/-- whether the first n pairs of a row are a part -/
def zShp (I : Nat → Int32) (n : Nat) : Prop := (∀ i, i < 2 * n → zBt (-30) 30 (I i)) ∧ 0 < zAr n (fun j => I (2 * j)) (fun j => I (2 * j + 1)) n
set_option maxRecDepth 8000 in
set_option maxHeartbeats 4000000 in
theorem isShape_ok {d : Nat} {σ : zSt} {K : Option Value → zSt → Prop} {k n : Nat} (hI : zQI (kR 0 30) σ.2.2) (hk : k < 4) (hn10 : n ≤ 10) (h1 : zShp (fun j => σ.1 29 (k * 60 + j)) n → K (some (.int 1)) σ) (h0 : ¬ zShp (fun j => σ.1 29 (k * 60 + j)) n → K (some (.int 0)) σ) : zSp zx (d + 3) mX8_isShape [.ref 0, .int (nI k), .int (nI n)] σ K := by
  refine ⟨⟨by decide, Nat.le_of_ble_eq_true rfl⟩, fun V hV => ?_⟩
  refine zq (σ := σ) hV hI rfl 2 ?_
  show V 2 [(3, .int 0), (0, .ref 0), (1, .int (nI k)), (2, .int (nI n))] [] σ
  refine zwk hV [1, 2, 3, 0] rfl ?_
  have Hi : ∀ (r : Nat) (i : Nat), i + r = 2 * n → (∀ j, j < i → zBt (-30) 30 (σ.1 29 (k * 60 + j))) → V 2 [(0, .ref 0), (1, .int (nI k)), (2, .int (nI n)), (3, .int (nI i))] [] σ := by
    intro r
    induction r with
    | zero =>
      intro i him hall
      refine zq (σ := σ) hV hI rfl 5 ?_
      show ((2 * (nI n)) ≤ (nI i) → V 34 [(0, .ref 0), (1, .int (nI k)), (2, .int (nI n)), (3, .int (nI i))] [] σ) ∧ (¬ (2 * (nI n)) ≤ (nI i) → V 9 [(0, .ref 0), (1, .int (nI k)), (2, .int (nI n)), (3, .int (nI i))] [] σ)
      refine ⟨fun _ => ?_, fun hc => absurd (show (2 : Int32) * nI n ≤ nI i by rw [(show (2 : Int32) * nI n = nI (2 * n) from zn_m (a := 2) rfl rfl)]; exact zge_self (by omega)) hc⟩
      refine zq (σ := σ) hV hI rfl 4 ?_
      show V 39 [(4, .int 0), (3, .int 0), (0, .ref 0), (1, .int (nI k)), (2, .int (nI n))] [] σ
      refine zwk hV [2, 3, 4, 1, 0] rfl ?_
      have Hq : ∀ (r : Nat) (q : Nat) (a : Int32), q + r = n → a = zAr n (fun j => σ.1 29 (k * 60 + 2 * j)) (fun j => σ.1 29 (k * 60 + (2 * j + 1))) q → V 39 [(0, .ref 0), (1, .int (nI k)), (2, .int (nI n)), (3, .int a), (4, .int (nI q))] [] σ := by
        intro r
        induction r with
        | zero =>
          intro q a hqm harea
          refine zq (σ := σ) hV hI rfl 3 ?_
          show ((nI n) ≤ (nI q) → V 127 [(0, .ref 0), (1, .int (nI k)), (2, .int (nI n)), (3, .int a), (4, .int (nI q))] [] σ) ∧ (¬ (nI n) ≤ (nI q) → V 45 [(0, .ref 0), (1, .int (nI k)), (2, .int (nI n)), (3, .int a), (4, .int (nI q))] [] σ)
          refine ⟨fun _ => ?_, fun hc => absurd (show nI n ≤ nI q from zge_self (by omega)) hc⟩
          refine zq (σ := σ) hV hI rfl 2 ?_
          show (a ≤ 0 → V 135 [(0, .ref 0), (1, .int (nI k)), (2, .int (nI n)), (3, .int a), (4, .int (nI q))] [] σ) ∧ (¬ a ≤ 0 → V 131 [(0, .ref 0), (1, .int (nI k)), (2, .int (nI n)), (3, .int a), (4, .int (nI q))] [] σ)
          refine ⟨fun h_128 => ?_, fun h_128 => ?_⟩
          · skip
            refine zq (σ := σ) hV hI rfl 2 ?_
            show ((0 : Int32) = 0 ∨ (0 : Int32) = 1) ∧ K (some (.int 0)) σ
            refine ⟨by decide, ?_⟩
            obtain rfl : i = 2 * n := by omega
            obtain rfl : q = n := by omega
            subst harea
            exact h0 (fun x => Int32.not_le.mpr x.2 h_128)
          · skip
            refine zq (σ := σ) hV hI rfl 3 ?_
            show ((1 : Int32) = 0 ∨ (1 : Int32) = 1) ∧ K (some (.int 1)) σ
            refine ⟨by decide, ?_⟩
            obtain rfl : i = 2 * n := by omega
            obtain rfl : q = n := by omega
            subst harea
            exact h1 ⟨hall, Int32.not_le.mp h_128⟩
        | succ r ihq =>
          intro q a hqm harea
          refine zq (σ := σ) hV hI rfl 3 ?_
          show ((nI n) ≤ (nI q) → V 127 [(0, .ref 0), (1, .int (nI k)), (2, .int (nI n)), (3, .int a), (4, .int (nI q))] [] σ) ∧ (¬ (nI n) ≤ (nI q) → V 45 [(0, .ref 0), (1, .int (nI k)), (2, .int (nI n)), (3, .int a), (4, .int (nI q))] [] σ)
          refine ⟨fun hc => absurd hc (show ¬ nI n ≤ nI q from nI_ge (by omega) (by omega)), fun _ => ?_⟩
          refine zq (σ := σ) hV hI rfl 5 ?_
          show ((nI n) ≤ ((nI q) + 1) → V 60 [(0, .ref 0), (1, .int (nI k)), (2, .int (nI n)), (3, .int a), (4, .int (nI q))] [] σ) ∧ (¬ (nI n) ≤ ((nI q) + 1) → V 53 [(0, .ref 0), (1, .int (nI k)), (2, .int (nI n)), (3, .int a), (4, .int (nI q))] [] σ)
          refine ⟨fun h_50 => ?_, fun h_50 => ?_⟩
          · skip
            refine zq (σ := σ) hV hI rfl 1 ?_
            show V 61 [(0, .ref 0), (1, .int (nI k)), (2, .int (nI n)), (3, .int a), (4, .int (nI q))] [.int 0] σ
            have hnx : zNx n q = 0 := by rw [nI_1, nI_leI (by omega) (by omega)] at h_50; unfold zNx; rw [if_neg (by omega)]
            rw [show (0 : Int32) = nI (zNx n q) by rw [hnx]; rfl]
            have hnl := zNx_lt (show q < n by omega)
            refine zq (σ := σ) hV hI rfl 9 ?_
            show zSp _ _ 33 [.ref 26, .int (nI k), .int (2 * (nI q))] σ (fun r σ' => σ'.2.2.2 = σ.2.2.2 + zAl 33 → V 76 [(5, .int (nI (zNx n q))), (0, .ref 0), (1, .int (nI k)), (2, .int (nI n)), (3, .int a), (4, .int (nI q))] (r.toList ++ [.int a]) σ')
            refine svalue_ok (zR_of hI rfl rfl) (k := k) rfl (by omega) (j := (2 * q)) (zn_m (a := 2) (b := q) rfl rfl) (by omega) (fun _ => ?_)
            refine zq (σ := σ) hV hI rfl 9 ?_
            show zSp _ _ 33 [.ref 26, .int (nI k), .int ((2 * (nI (zNx n q))) + 1)] σ (fun r σ' => σ'.2.2.2 = σ.2.2.2 + zAl 33 → V 90 [(5, .int (nI (zNx n q))), (0, .ref 0), (1, .int (nI k)), (2, .int (nI n)), (3, .int a), (4, .int (nI q))] (r.toList ++ [.int (σ.1 29 (k * 60 + (2 * q))), .int a]) σ')
            refine svalue_ok (zR_of hI rfl rfl) (k := k) rfl (by omega) (j := ((2 * (zNx n q)) + 1)) (zn_a (a := (2 * (zNx n q))) (b := 1) (zn_m (a := 2) (b := (zNx n q)) rfl rfl) rfl) (by omega) (fun _ => ?_)
            refine zq (σ := σ) hV hI rfl 10 ?_
            show zSp _ _ 33 [.ref 26, .int (nI k), .int ((2 * (nI q)) + 1)] σ (fun r σ' => σ'.2.2.2 = σ.2.2.2 + zAl 33 → V 105 [(5, .int (nI (zNx n q))), (0, .ref 0), (1, .int (nI k)), (2, .int (nI n)), (3, .int a), (4, .int (nI q))] (r.toList ++ [.int ((σ.1 29 (k * 60 + (2 * q))) * (σ.1 29 (k * 60 + ((2 * (zNx n q)) + 1)))), .int a]) σ')
            refine svalue_ok (zR_of hI rfl rfl) (k := k) rfl (by omega) (j := ((2 * q) + 1)) (zn_a (a := (2 * q)) (b := 1) (zn_m (a := 2) (b := q) rfl rfl) rfl) (by omega) (fun _ => ?_)
            refine zq (σ := σ) hV hI rfl 7 ?_
            show zSp _ _ 33 [.ref 26, .int (nI k), .int (2 * (nI (zNx n q)))] σ (fun r σ' => σ'.2.2.2 = σ.2.2.2 + zAl 33 → V 117 [(5, .int (nI (zNx n q))), (0, .ref 0), (1, .int (nI k)), (2, .int (nI n)), (3, .int a), (4, .int (nI q))] (r.toList ++ [.int (σ.1 29 (k * 60 + ((2 * q) + 1))), .int ((σ.1 29 (k * 60 + (2 * q))) * (σ.1 29 (k * 60 + ((2 * (zNx n q)) + 1)))), .int a]) σ')
            refine svalue_ok (zR_of hI rfl rfl) (k := k) rfl (by omega) (j := (2 * (zNx n q))) (zn_m (a := 2) (b := (zNx n q)) rfl rfl) (by omega) (fun _ => ?_)
            refine zq (σ := σ) hV hI rfl 6 ?_
            show V 39 [(4, .int ((nI q) + 1)), (3, .int (a + (((σ.1 29 (k * 60 + (2 * q))) * (σ.1 29 (k * 60 + ((2 * (zNx n q)) + 1)))) - ((σ.1 29 (k * 60 + ((2 * q) + 1))) * (σ.1 29 (k * 60 + (2 * (zNx n q)))))))), (5, .int (nI (zNx n q))), (0, .ref 0), (1, .int (nI k)), (2, .int (nI n))] [] σ
            refine zwk hV [3, 4, 5, 1, 0] rfl ?_
            rw [nI_1]
            refine ihq (q + 1) _ (by omega) ?_
            rw [harea]
            rfl
          · skip
            refine zq (σ := σ) hV hI rfl 4 ?_
            show V 61 [(0, .ref 0), (1, .int (nI k)), (2, .int (nI n)), (3, .int a), (4, .int (nI q))] [.int ((nI q) + 1)] σ
            have hnx : zNx n q = q + 1 := by rw [nI_1, nI_leI (by omega) (by omega)] at h_50; unfold zNx; rw [if_pos (by omega)]
            rw [show (((nI q) + 1) : Int32) = nI (zNx n q) by rw [hnx]; exact nI_1 q]
            have hnl := zNx_lt (show q < n by omega)
            refine zq (σ := σ) hV hI rfl 9 ?_
            show zSp _ _ 33 [.ref 26, .int (nI k), .int (2 * (nI q))] σ (fun r σ' => σ'.2.2.2 = σ.2.2.2 + zAl 33 → V 76 [(5, .int (nI (zNx n q))), (0, .ref 0), (1, .int (nI k)), (2, .int (nI n)), (3, .int a), (4, .int (nI q))] (r.toList ++ [.int a]) σ')
            refine svalue_ok (zR_of hI rfl rfl) (k := k) rfl (by omega) (j := (2 * q)) (zn_m (a := 2) (b := q) rfl rfl) (by omega) (fun _ => ?_)
            refine zq (σ := σ) hV hI rfl 9 ?_
            show zSp _ _ 33 [.ref 26, .int (nI k), .int ((2 * (nI (zNx n q))) + 1)] σ (fun r σ' => σ'.2.2.2 = σ.2.2.2 + zAl 33 → V 90 [(5, .int (nI (zNx n q))), (0, .ref 0), (1, .int (nI k)), (2, .int (nI n)), (3, .int a), (4, .int (nI q))] (r.toList ++ [.int (σ.1 29 (k * 60 + (2 * q))), .int a]) σ')
            refine svalue_ok (zR_of hI rfl rfl) (k := k) rfl (by omega) (j := ((2 * (zNx n q)) + 1)) (zn_a (a := (2 * (zNx n q))) (b := 1) (zn_m (a := 2) (b := (zNx n q)) rfl rfl) rfl) (by omega) (fun _ => ?_)
            refine zq (σ := σ) hV hI rfl 10 ?_
            show zSp _ _ 33 [.ref 26, .int (nI k), .int ((2 * (nI q)) + 1)] σ (fun r σ' => σ'.2.2.2 = σ.2.2.2 + zAl 33 → V 105 [(5, .int (nI (zNx n q))), (0, .ref 0), (1, .int (nI k)), (2, .int (nI n)), (3, .int a), (4, .int (nI q))] (r.toList ++ [.int ((σ.1 29 (k * 60 + (2 * q))) * (σ.1 29 (k * 60 + ((2 * (zNx n q)) + 1)))), .int a]) σ')
            refine svalue_ok (zR_of hI rfl rfl) (k := k) rfl (by omega) (j := ((2 * q) + 1)) (zn_a (a := (2 * q)) (b := 1) (zn_m (a := 2) (b := q) rfl rfl) rfl) (by omega) (fun _ => ?_)
            refine zq (σ := σ) hV hI rfl 7 ?_
            show zSp _ _ 33 [.ref 26, .int (nI k), .int (2 * (nI (zNx n q)))] σ (fun r σ' => σ'.2.2.2 = σ.2.2.2 + zAl 33 → V 117 [(5, .int (nI (zNx n q))), (0, .ref 0), (1, .int (nI k)), (2, .int (nI n)), (3, .int a), (4, .int (nI q))] (r.toList ++ [.int (σ.1 29 (k * 60 + ((2 * q) + 1))), .int ((σ.1 29 (k * 60 + (2 * q))) * (σ.1 29 (k * 60 + ((2 * (zNx n q)) + 1)))), .int a]) σ')
            refine svalue_ok (zR_of hI rfl rfl) (k := k) rfl (by omega) (j := (2 * (zNx n q))) (zn_m (a := 2) (b := (zNx n q)) rfl rfl) (by omega) (fun _ => ?_)
            refine zq (σ := σ) hV hI rfl 6 ?_
            show V 39 [(4, .int ((nI q) + 1)), (3, .int (a + (((σ.1 29 (k * 60 + (2 * q))) * (σ.1 29 (k * 60 + ((2 * (zNx n q)) + 1)))) - ((σ.1 29 (k * 60 + ((2 * q) + 1))) * (σ.1 29 (k * 60 + (2 * (zNx n q)))))))), (5, .int (nI (zNx n q))), (0, .ref 0), (1, .int (nI k)), (2, .int (nI n))] [] σ
            refine zwk hV [3, 4, 5, 1, 0] rfl ?_
            rw [nI_1]
            refine ihq (q + 1) _ (by omega) ?_
            rw [harea]
            rfl
      exact Hq n 0 0 (by omega) rfl
    | succ r ihi =>
      intro i him hall
      refine zq (σ := σ) hV hI rfl 5 ?_
      show ((2 * (nI n)) ≤ (nI i) → V 34 [(0, .ref 0), (1, .int (nI k)), (2, .int (nI n)), (3, .int (nI i))] [] σ) ∧ (¬ (2 * (nI n)) ≤ (nI i) → V 9 [(0, .ref 0), (1, .int (nI k)), (2, .int (nI n)), (3, .int (nI i))] [] σ)
      refine ⟨fun hc => absurd hc (show ¬ (2 : Int32) * nI n ≤ nI i by rw [(show (2 : Int32) * nI n = nI (2 * n) from zn_m (a := 2) rfl rfl)]; exact nI_ge (by omega) (by omega)), fun _ => ?_⟩
      refine zq (σ := σ) hV hI rfl 5 ?_
      show zSp _ _ 33 [.ref 26, .int (nI k), .int (nI i)] σ (fun r σ' => σ'.2.2.2 = σ.2.2.2 + zAl 33 → V 18 [(0, .ref 0), (1, .int (nI k)), (2, .int (nI n)), (3, .int (nI i))] (r.toList ++ []) σ')
      refine svalue_ok (zR_of hI rfl rfl) (k := k) rfl (by omega) (j := i) rfl (by omega) (fun _ => ?_)
      refine zq (σ := σ) hV hI rfl 2 ?_
      show zSp _ _ 73 [.int (σ.1 29 (k * 60 + i)), .int 30] σ (fun r σ' => σ'.2.2.2 = σ.2.2.2 + zAl 73 → V 23 [(0, .ref 0), (1, .int (nI k)), (2, .int (nI n)), (3, .int (nI i))] (r.toList ++ []) σ')
      refine isWithin_ok (k := 30) rfl (by decide) (fun hw _ => ?_) (fun hw _ => ?_)
      · skip
        refine zq (σ := σ) hV hI rfl 1 ?_
        show (¬ (1 : Int32) = 0 → V 28 [(0, .ref 0), (1, .int (nI k)), (2, .int (nI n)), (3, .int (nI i))] [] σ) ∧ (¬ (¬ (1 : Int32) = 0) → V 26 [(0, .ref 0), (1, .int (nI k)), (2, .int (nI n)), (3, .int (nI i))] [] σ)
        refine ⟨fun _ => ?_, fun hc => absurd (by decide) hc⟩
        refine zq (σ := σ) hV hI rfl 2 ?_
        show V 2 [(3, .int ((nI i) + 1)), (0, .ref 0), (1, .int (nI k)), (2, .int (nI n))] [] σ
        refine zwk hV [1, 2, 3, 0] rfl ?_
        rw [nI_1]
        refine ihi (i + 1) (by omega) (fun j hj => ?_)
        by_cases e : j = i
        · subst e; exact hw
        · exact hall j (by omega)
      · skip
        refine zq (σ := σ) hV hI rfl 1 ?_
        show (¬ (0 : Int32) = 0 → V 28 [(0, .ref 0), (1, .int (nI k)), (2, .int (nI n)), (3, .int (nI i))] [] σ) ∧ (¬ (¬ (0 : Int32) = 0) → V 26 [(0, .ref 0), (1, .int (nI k)), (2, .int (nI n)), (3, .int (nI i))] [] σ)
        refine ⟨fun hc => absurd hc (by decide), fun _ => ?_⟩
        refine zq (σ := σ) hV hI rfl 2 ?_
        show ((0 : Int32) = 0 ∨ (0 : Int32) = 1) ∧ K (some (.int 0)) σ
        refine ⟨by decide, ?_⟩
        exact h0 (fun x => hw (x.1 i (by omega)))
  exact Hi (2 * n) 0 (by omega) (fun j q => absurd q (Nat.not_lt_zero j))
def zfSh (n : Nat) (a j : Nat) : Bool := (Nat.beq a 1 && Nat.ble 2 j) || ((Nat.beq a 2 || Nat.beq a 3) && Nat.blt j n) || (Nat.beq a 4 && Nat.beq j 2) || (Nat.beq a 14 && Nat.beq j 3)
theorem zfPo_Sh {n : Nat} (a j : Nat) (h : zfSh n a j = false) : zfPo a j = false := by
  unfold zfSh at h; unfold zfPo
  rw [Bool.or_eq_false_iff, Bool.or_eq_false_iff, Bool.or_eq_false_iff] at h
  exact h.1.1.1
set_option maxRecDepth 8000 in
set_option maxHeartbeats 4000000 in
theorem shape_C {d : Nat} {σ : zSt} {K : Option Value → zSt → Prop} {s c : Int32} (hI : zQI (kR 0 30) σ.2.2) (hL : ∀ k, k < 4 → ∃ l, σ.1 28 k = nI l ∧ l ≤ 60) (hBad : ¬ (zBt 0 3 s ∧ zBt 3 10 c) → K (some (.int (-2))) σ) (hNull : ∀ k n, s = nI k → k < 4 → c = nI n → (3 ≤ n ∧ n ≤ 10) → σ.1 27 k = -1 → K (some (.int (-10 - 1))) (zuI σ 26 3 1)) (hIndex : ∀ k n l, s = nI k → k < 4 → c = nI n → (3 ≤ n ∧ n ≤ 10) → ¬ σ.1 27 k = -1 → σ.1 28 k = nI l → l < 2 * n → K (some (.int (-10 - 2))) (zuI σ 26 3 2))
    (hNot : ∀ k n l, s = nI k → k < 4 → c = nI n → (3 ≤ n ∧ n ≤ 10) → ¬ σ.1 27 k = -1 → σ.1 28 k = nI l → 2 * n ≤ l → ¬ zShp (fun j => σ.1 29 (k * 60 + j)) n → K (some (.int (-3))) σ)
    (hOk : ∀ τ k n l, s = nI k → k < 4 → c = nI n → (3 ≤ n ∧ n ≤ 10) → ¬ σ.1 27 k = -1 → σ.1 28 k = nI l → 2 * n ≤ l → zShp (fun j => σ.1 29 (k * 60 + j)) n → zOnly (zfSh n) σ τ → τ.1 1 2 = nI n → (∀ j, j < n → τ.1 2 j = σ.1 29 (k * 60 + 2 * j) ∧ τ.1 3 j = σ.1 29 (k * 60 + (2 * j + 1))) → τ.1 1 3 = zAr n (τ.1 2) (τ.1 3) n → τ.1 1 4 = zMx n (τ.1 2) (τ.1 3) n → τ.1 1 5 = zMy n (τ.1 2) (τ.1 3) n → τ.1 4 2 = 0 → τ.1 14 3 = 0 → K (some (.int (τ.1 1 3))) τ) : zSp zx (d + 4) mX8_shape [.ref 0, .int s, .int c] σ K := by
  refine ⟨⟨by decide, Nat.le_of_ble_eq_true rfl⟩, fun V hV => ?_⟩
  refine zq (σ := σ) hV hI rfl 2 ?_
  show zSp _ _ 75 [.int s] σ (fun r σ' => σ'.2.2.2 = σ.2.2.2 + zAl 75 → V 4 [(0, .ref 0), (1, .int s), (2, .int c)] (r.toList ++ []) σ')
  refine isSheet_ok (fun hb1 _ => ?_) (fun hb1 _ => ?_)
  · skip
    refine zq (σ := σ) hV hI rfl 1 ?_
    show ((1 : Int32) = 0 → V 18 [(0, .ref 0), (1, .int s), (2, .int c)] [] σ) ∧ (¬ (1 : Int32) = 0 → V 7 [(0, .ref 0), (1, .int s), (2, .int c)] [] σ)
    refine ⟨fun hc => absurd hc (by decide), fun _ => ?_⟩
    refine zq (σ := σ) hV hI rfl 3 ?_
    show (c < 3 → V 18 [(0, .ref 0), (1, .int s), (2, .int c)] [] σ) ∧ (¬ c < 3 → V 12 [(0, .ref 0), (1, .int s), (2, .int c)] [] σ)
    refine ⟨fun h_9 => ?_, fun h_9 => ?_⟩
    · skip
      refine zq (σ := σ) hV hI rfl 2 ?_
      show K (some (.int (-2))) σ
      refine hBad (fun q => ?_)
      have q3 := q.2
      unfold zBt at q3
      simp only [zlt, zle] at h_9
      simp at h_9
      omega
    · skip
      refine zq (σ := σ) hV hI rfl 3 ?_
      show (c ≤ 10 → V 21 [(0, .ref 0), (1, .int s), (2, .int c)] [] σ) ∧ (¬ c ≤ 10 → V 18 [(0, .ref 0), (1, .int s), (2, .int c)] [] σ)
      refine ⟨fun h_15 => ?_, fun h_15 => ?_⟩
      · skip
        obtain ⟨k, hk, hk2, _⟩ := zNat (x := s) (by unfold zBt at hb1; omega)
        have hk4 : k < 4 := by unfold zBt at hb1; omega
        have hc : zBt 3 10 c := by
          simp only [zlt, zle] at h_9 h_15
          unfold zBt
          simp at h_9 h_15 ⊢
          omega
        obtain ⟨n, hcn, hcn2, _⟩ := zNat (x := c) (by unfold zBt at hc; omega)
        have hn10 : 3 ≤ n ∧ n ≤ 10 := by unfold zBt at hc; omega
        have hs3 := hb1
        subst hk
        subst hcn
        refine zq (σ := σ) hV hI rfl 4 ?_
        show zSp _ _ 30 [.ref 26, .int (nI k)] σ (fun r σ' => σ'.2.2.2 = σ.2.2.2 + zAl 30 → V 29 [(0, .ref 0), (1, .int (nI k)), (2, .int (nI n))] (r.toList ++ []) σ')
        refine isLost_ok (zR_of hI rfl rfl) rfl (by omega) (fun hb2 _ => ?_) (fun hb2 _ => ?_)
        · skip
          refine zq (σ := σ) hV hI rfl 1 ?_
          show ((1 : Int32) = 0 → V 41 [(0, .ref 0), (1, .int (nI k)), (2, .int (nI n))] [] σ) ∧ (¬ (1 : Int32) = 0 → V 32 [(0, .ref 0), (1, .int (nI k)), (2, .int (nI n))] [] σ)
          refine ⟨fun hc => absurd hc (by decide), fun _ => ?_⟩
          refine zq (σ := σ) hV hI rfl 4 ?_
          show zSp _ _ 27 [.ref 26, .int 1] σ (fun r σ' => σ'.2.2.2 = σ.2.2.2 + zAl 27 → V 40 [(0, .ref 0), (1, .int (nI k)), (2, .int (nI n))] (r.toList ++ []) σ')
          refine find_ok (zR_of hI rfl rfl) (fun _ => ?_)
          refine zq (σ := (zuI σ 26 3 1)) hV hI rfl 1 ?_
          show K (some (.int ((-10) - 1))) (zuI σ 26 3 1)
          exact hNull k n rfl hk4 rfl hn10 hb2
        · skip
          refine zq (σ := σ) hV hI rfl 1 ?_
          show ((0 : Int32) = 0 → V 41 [(0, .ref 0), (1, .int (nI k)), (2, .int (nI n))] [] σ) ∧ (¬ (0 : Int32) = 0 → V 32 [(0, .ref 0), (1, .int (nI k)), (2, .int (nI n))] [] σ)
          refine ⟨fun _ => ?_, fun hc => absurd (by decide) hc⟩
          refine zq (σ := σ) hV hI rfl 4 ?_
          show zSp _ _ 29 [.ref 26, .int (nI k)] σ (fun r σ' => σ'.2.2.2 = σ.2.2.2 + zAl 29 → V 49 [(0, .ref 0), (1, .int (nI k)), (2, .int (nI n))] (r.toList ++ []) σ')
          obtain ⟨l, hl, hl60⟩ := hL k hk4
          refine slength_ok (zR_of hI rfl rfl) (k := k) rfl hk4 (fun _ => ?_)
          rw [hl]
          refine zq (σ := σ) hV hI rfl 4 ?_
          show ((2 * (nI n)) ≤ (nI l) → V 64 [(0, .ref 0), (1, .int (nI k)), (2, .int (nI n))] [] σ) ∧ (¬ (2 * (nI n)) ≤ (nI l) → V 55 [(0, .ref 0), (1, .int (nI k)), (2, .int (nI n))] [] σ)
          refine ⟨fun h_52 => ?_, fun h_52 => ?_⟩
          · skip
            refine zq (σ := σ) hV hI rfl 4 ?_
            show zSp _ _ 55 [.ref 0, .int (nI k), .int (nI n)] σ (fun r σ' => σ'.2.2.2 = σ.2.2.2 + zAl 55 → V 70 [(0, .ref 0), (1, .int (nI k)), (2, .int (nI n))] (r.toList ++ []) σ')
            have hll : 2 * n ≤ l := by rw [show (2 : Int32) * nI n = nI (2 * n) from zn_m (a := 2) rfl rfl, nI_leI (by omega) (by omega)] at h_52; exact h_52
            refine isShape_ok hI hk4 hn10.2 (fun hb3 _ => ?_) (fun hb3 _ => ?_)
            · skip
              refine zq (σ := σ) hV hI rfl 1 ?_
              show (¬ (1 : Int32) = 0 → V 76 [(0, .ref 0), (1, .int (nI k)), (2, .int (nI n))] [] σ) ∧ (¬ (¬ (1 : Int32) = 0) → V 73 [(0, .ref 0), (1, .int (nI k)), (2, .int (nI n))] [] σ)
              refine ⟨fun _ => ?_, fun hc => absurd (by decide) hc⟩
              refine zq (σ := σ) hV hI rfl 2 ?_
              show V 78 [(3, .int 0), (0, .ref 0), (1, .int (nI k)), (2, .int (nI n))] [] σ
              refine zwk hV [1, 2, 3, 0] rfl ?_
              have Hi : ∀ (r : Nat) (i : Nat) (τ : zSt), i + r = n → zOnly (zfSh n) σ τ → (∀ j, j < i → τ.1 2 j = σ.1 29 (k * 60 + 2 * j) ∧ τ.1 3 j = σ.1 29 (k * 60 + (2 * j + 1))) → V 78 [(0, .ref 0), (1, .int (nI k)), (2, .int (nI n)), (3, .int (nI i))] [] τ := by
                intro r
                induction r with
                | zero =>
                  intro i τ hir ht hXY
                  have hIτ := zQI_eq hI ht.2.2
                  have hnτ : τ.2.2.2 = σ.2.2.2 := congrArg Prod.snd ht.2.2
                  have eI : ∀ j, τ.1 29 j = σ.1 29 j := fun j => ht.1 29 j rfl
                  refine zq (σ := τ) hV hIτ hnτ 3 ?_
                  show ((nI n) ≤ (nI i) → V 121 [(0, .ref 0), (1, .int (nI k)), (2, .int (nI n)), (3, .int (nI i))] [] τ) ∧ (¬ (nI n) ≤ (nI i) → V 83 [(0, .ref 0), (1, .int (nI k)), (2, .int (nI n)), (3, .int (nI i))] [] τ)
                  refine ⟨fun _ => ?_, fun hc => absurd (show nI n ≤ nI i from zge_self (by omega)) hc⟩
                  refine zq (σ := τ) hV hIτ hnτ 4 ?_
                  show zSp _ _ 15 [.ref 1, .int (nI n)] τ (fun r σ' => σ'.2.2.2 = τ.2.2.2 + zAl 15 → V 129 [(0, .ref 0), (1, .int (nI k)), (2, .int (nI n)), (3, .int (nI i))] (r.toList ++ []) σ')
                  refine close_ok (zR_of hIτ rfl rfl) (n := n) hn10.2 (fun υ hu0 hcn har hmx hmy _ => ?_)
                  have hu : zOnly (zfSh n) σ υ := ht.tr (hu0.wk zfPo_Sh)
                  have hIυ := zQI_eq hI hu.2.2
                  have hnυ : υ.2.2.2 = σ.2.2.2 := congrArg Prod.snd hu.2.2
                  have x2 : υ.1 2 = τ.1 2 := funext fun j => hu0.1 2 j rfl
                  have x3 : υ.1 3 = τ.1 3 := funext fun j => hu0.1 3 j rfl
                  refine zq (σ := υ) hV hIυ hnυ 3 ?_
                  show zSp _ _ 9 [.ref 4] υ (fun r σ' => σ'.2.2.2 = υ.2.2.2 + zAl 9 → V 136 [(0, .ref 0), (1, .int (nI k)), (2, .int (nI n)), (3, .int (nI i))] (r.toList ++ []) σ')
                  refine hclear_4 (zR_of hIυ rfl rfl) (fun _ => ?_)
                  refine zq (σ := (zuI υ 4 2 0)) hV hIυ hnυ 3 ?_
                  show zSp _ _ 38 [.ref 14] (zuI υ 4 2 0) (fun r σ' => σ'.2.2.2 = (zuI υ 4 2 0).2.2.2 + zAl 38 → V 143 [(0, .ref 0), (1, .int (nI k)), (2, .int (nI n)), (3, .int (nI i))] (r.toList ++ []) σ')
                  refine sclear_ok (zR_of hIυ rfl rfl) (fun _ => ?_)
                  refine zq (σ := (zuI (zuI υ 4 2 0) 14 3 0)) hV hIυ hnυ 3 ?_
                  show zSp _ _ 17 [.ref 1] (zuI (zuI υ 4 2 0) 14 3 0) (fun r σ' => σ'.2.2.2 = (zuI (zuI υ 4 2 0) 14 3 0).2.2.2 + zAl 17 → V 150 [(0, .ref 0), (1, .int (nI k)), (2, .int (nI n)), (3, .int (nI i))] (r.toList ++ []) σ')
                  refine area_ok (zR_of hIυ rfl rfl) (fun _ => ?_)
                  show V 150 [(0, .ref 0), (1, .int (nI k)), (2, .int (nI n)), (3, .int (nI i))] [.int (υ.1 1 3)] (zuI (zuI υ 4 2 0) 14 3 0)
                  refine zq (σ := (zuI (zuI υ 4 2 0) 14 3 0)) hV hIυ hnυ 1 ?_
                  show K (some (.int (υ.1 1 3))) (zuI (zuI υ 4 2 0) 14 3 0)
                  obtain rfl : i = n := by omega
                  refine hOk (zuI (zuI υ 4 2 0) 14 3 0) k i l rfl hk4 rfl hn10 hb2 hl hll hb3 ((hu.uI (by simp [zfSh])).uI (by simp [zfSh])) hcn (fun j hj => ?_) ?_ ?_ ?_ rfl rfl
                  · show υ.1 2 j = _ ∧ υ.1 3 j = _
                    rw [x2, x3]; exact hXY j hj
                  · show υ.1 1 3 = zAr i (υ.1 2) (υ.1 3) i
                    rw [x2, x3]; exact har
                  · show υ.1 1 4 = zMx i (υ.1 2) (υ.1 3) i
                    rw [x2, x3]; exact hmx
                  · show υ.1 1 5 = zMy i (υ.1 2) (υ.1 3) i
                    rw [x2, x3]; exact hmy
                | succ r ihi =>
                  intro i τ hir ht hXY
                  have hIτ := zQI_eq hI ht.2.2
                  have hnτ : τ.2.2.2 = σ.2.2.2 := congrArg Prod.snd ht.2.2
                  have hn10i : i < n := by omega
                  have eI : ∀ j, τ.1 29 j = σ.1 29 j := fun j => ht.1 29 j rfl
                  refine zq (σ := τ) hV hIτ hnτ 3 ?_
                  show ((nI n) ≤ (nI i) → V 121 [(0, .ref 0), (1, .int (nI k)), (2, .int (nI n)), (3, .int (nI i))] [] τ) ∧ (¬ (nI n) ≤ (nI i) → V 83 [(0, .ref 0), (1, .int (nI k)), (2, .int (nI n)), (3, .int (nI i))] [] τ)
                  refine ⟨fun hc => absurd hc (show ¬ nI n ≤ nI i from nI_ge (by omega) (by omega)), fun _ => ?_⟩
                  refine zq (σ := τ) hV hIτ hnτ 10 ?_
                  show zSp _ _ 33 [.ref 26, .int (nI k), .int (2 * (nI i))] τ (fun r σ' => σ'.2.2.2 = τ.2.2.2 + zAl 33 → V 99 [(0, .ref 0), (1, .int (nI k)), (2, .int (nI n)), (3, .int (nI i))] (r.toList ++ [.int (nI i), .ref 1]) σ')
                  refine svalue_ok (zR_of hIτ rfl rfl) (k := k) rfl (by omega) (j := (2 * i)) (zn_m (a := 2) (b := i) rfl rfl) (by omega) (fun _ => ?_)
                  refine zq (σ := τ) hV hIτ hnτ 9 ?_
                  show zSp _ _ 33 [.ref 26, .int (nI k), .int ((2 * (nI i)) + 1)] τ (fun r σ' => σ'.2.2.2 = τ.2.2.2 + zAl 33 → V 112 [(0, .ref 0), (1, .int (nI k)), (2, .int (nI n)), (3, .int (nI i))] (r.toList ++ [.int (τ.1 29 (k * 60 + (2 * i))), .int (nI i), .ref 1]) σ')
                  refine svalue_ok (zR_of hIτ rfl rfl) (k := k) rfl (by omega) (j := ((2 * i) + 1)) (zn_a (a := (2 * i)) (b := 1) (zn_m (a := 2) (b := i) rfl rfl) rfl) (by omega) (fun _ => ?_)
                  refine zq (σ := τ) hV hIτ hnτ 1 ?_
                  show zSp _ _ 14 [.ref 1, .int (nI i), .int (τ.1 29 (k * 60 + (2 * i))), .int (τ.1 29 (k * 60 + ((2 * i) + 1)))] τ (fun r σ' => σ'.2.2.2 = τ.2.2.2 + zAl 14 → V 115 [(0, .ref 0), (1, .int (nI k)), (2, .int (nI n)), (3, .int (nI i))] (r.toList ++ []) σ')
                  refine setCorner_ok (zR_of hIτ rfl rfl) (k := i) rfl (by omega) (fun _ => ?_)
                  rw [eI, eI]
                  refine zq (σ := (zuI (zuI τ 2 i (σ.1 29 (k * 60 + (2 * i)))) 3 i (σ.1 29 (k * 60 + ((2 * i) + 1))))) hV hIτ hnτ 2 ?_
                  show V 78 [(3, .int ((nI i) + 1)), (0, .ref 0), (1, .int (nI k)), (2, .int (nI n))] [] (zuI (zuI τ 2 i (σ.1 29 (k * 60 + (2 * i)))) 3 i (σ.1 29 (k * 60 + ((2 * i) + 1))))
                  refine zwk hV [1, 2, 3, 0] rfl ?_
                  rw [nI_1]
                  refine ihi (i + 1) _ (by omega) ((ht.uI (by simp [zfSh, hn10i])).uI (by simp [zfSh, hn10i])) (fun j hj => ?_)
                  simp only [zuI_get]
                  by_cases e : j = i
                  · subst e; simp
                  · have := hXY j (by omega); simp [e, this.1, this.2]
              exact Hi n 0 σ (by omega) zOnly.rf (fun j q => absurd q (Nat.not_lt_zero j))
            · skip
              refine zq (σ := σ) hV hI rfl 1 ?_
              show (¬ (0 : Int32) = 0 → V 76 [(0, .ref 0), (1, .int (nI k)), (2, .int (nI n))] [] σ) ∧ (¬ (¬ (0 : Int32) = 0) → V 73 [(0, .ref 0), (1, .int (nI k)), (2, .int (nI n))] [] σ)
              refine ⟨fun hc => absurd hc (by decide), fun _ => ?_⟩
              refine zq (σ := σ) hV hI rfl 2 ?_
              show K (some (.int (-3))) σ
              exact hNot k n l rfl hk4 rfl hn10 hb2 hl hll hb3
          · skip
            refine zq (σ := σ) hV hI rfl 4 ?_
            show zSp _ _ 27 [.ref 26, .int 2] σ (fun r σ' => σ'.2.2.2 = σ.2.2.2 + zAl 27 → V 63 [(0, .ref 0), (1, .int (nI k)), (2, .int (nI n))] (r.toList ++ []) σ')
            refine find_ok (zR_of hI rfl rfl) (fun _ => ?_)
            refine zq (σ := (zuI σ 26 3 2)) hV hI rfl 1 ?_
            show K (some (.int ((-10) - 2))) (zuI σ 26 3 2)
            have hll : ¬ 2 * n ≤ l := by rw [show (2 : Int32) * nI n = nI (2 * n) from zn_m (a := 2) rfl rfl, nI_leI (by omega) (by omega)] at h_52; exact h_52
            exact hIndex k n l rfl hk4 rfl hn10 hb2 hl (by omega)
      · skip
        refine zq (σ := σ) hV hI rfl 2 ?_
        show K (some (.int (-2))) σ
        refine hBad (fun q => ?_)
        have q3 := q.2
        unfold zBt at q3
        simp only [zlt, zle] at h_9 h_15
        simp at h_9 h_15
        omega
  · skip
    refine zq (σ := σ) hV hI rfl 1 ?_
    show ((0 : Int32) = 0 → V 18 [(0, .ref 0), (1, .int s), (2, .int c)] [] σ) ∧ (¬ (0 : Int32) = 0 → V 7 [(0, .ref 0), (1, .int s), (2, .int c)] [] σ)
    refine ⟨fun _ => ?_, fun hc => absurd (by decide) hc⟩
    refine zq (σ := σ) hV hI rfl 2 ?_
    show K (some (.int (-2))) σ
    exact hBad (fun q => hb1 q.1)
end
section
theorem zPB {x y A B : Int} (hx : -A ≤ x ∧ x ≤ A) (hy : -B ≤ y ∧ y ≤ B) : -(A * B) ≤ x * y ∧ x * y ≤ A * B := by
  have h1 := Int.mul_nonneg (show 0 ≤ A - x by omega) (show 0 ≤ B + y by omega)
  have h2 := Int.mul_nonneg (show 0 ≤ A + x by omega) (show 0 ≤ B - y by omega)
  have h3 := Int.mul_nonneg (show 0 ≤ A - x by omega) (show 0 ≤ B - y by omega)
  have h4 := Int.mul_nonneg (show 0 ≤ A + x by omega) (show 0 ≤ B + y by omega)
  simp only [Int.sub_mul, Int.mul_add, Int.add_mul, Int.mul_sub] at h1 h2 h3 h4
  omega
theorem zmulB {x y : Int32} {A B : Int} (hx : zBt (-A) A x) (hy : zBt (-B) B y) (h : A * B ≤ 2147483647) : (x * y).toInt = x.toInt * y.toInt ∧ -(A * B) ≤ x.toInt * y.toInt ∧ x.toInt * y.toInt ≤ A * B := by
  have hb := zPB hx hy
  exact ⟨zmul ⟨by omega, by omega⟩, hb⟩
end
section
def zBtm {lo hi lo' hi' : Int} {v : Int32} (h : zBt lo hi v) (h1 : lo' ≤ lo) (h2 : hi ≤ hi') : zBt lo' hi' v := ⟨Int.le_trans h1 h.1, Int.le_trans h.2 h2⟩
theorem zsubB {x y : Int32} {A B : Int} (hx : zBt (-A) A x) (hy : zBt (-B) B y) (h : A + B ≤ 2147483647) : (x - y).toInt = x.toInt - y.toInt ∧ zBt (-(A + B)) (A + B) (x - y) := by
  unfold zBt at *
  have e := zsub (x := x) (y := y) (by omega)
  rw [e]; exact ⟨rfl, by omega, by omega⟩
theorem zaddB {x y : Int32} {A B : Int} (hx : zBt (-A) A x) (hy : zBt (-B) B y) (h : A + B ≤ 2147483647) : (x + y).toInt = x.toInt + y.toInt ∧ zBt (-(A + B)) (A + B) (x + y) := by
  unfold zBt at *
  have e := zadd (x := x) (y := y) (by omega)
  rw [e]; exact ⟨rfl, by omega, by omega⟩
theorem zmulB2 {x y : Int32} {A B : Int} (hx : zBt (-A) A x) (hy : zBt (-B) B y) (h : A * B ≤ 2147483647) : zBt (-(A * B)) (A * B) (x * y) := by
  obtain ⟨e, h1⟩ := zmulB hx hy h
  unfold zBt; rw [e]; exact h1
/-- bounds of a finger's numbers -/
theorem zpxB {x d s : Int32} (hx : zBt (-30) 30 x) (hd : zBt (-60) 60 d) (hs : zBt 0 8 s) : zBt (-720) 720 (8 * x + s * d) :=
  (zaddB (A := 240) (B := 480) (zmulB2 (A := 8) (B := 30) ⟨by decide, by decide⟩ hx (by decide)) (zmulB2 (A := 8) (B := 60) (zBtm hs (by decide) (by decide)) hd (by decide)) (by decide)).2
theorem zpqB {a d f : Int32} {c : Int32} (hc : zBt (-16) 16 c) (ha : zBt (-60) 60 a) (hd : zBt (-60) 60 d) (hf : zBt 0 16 f) : zBt (-1920) 1920 (c * a + f * d) ∧ zBt (-1920) 1920 (c * a - f * d) :=
  have h1 := zmulB2 (A := 16) (B := 60) hc ha (by decide)
  have h2 := zmulB2 (A := 16) (B := 60) (zBtm hf (by decide) (by decide)) hd (by decide)
  ⟨(zaddB (A := 960) (B := 960) h1 h2 (by decide)).2, (zsubB (A := 960) (B := 960) h1 h2 (by decide)).2⟩
theorem zl3 {x y p q : Int32} (hx : zBt (-720) 720 x) (hy : zBt (-720) 720 y) (hp : zBt (-1920) 1920 p) (hq : zBt (-1920) 1920 q) : Int32.toInt64 x * Int32.toInt64 q - Int32.toInt64 y * Int32.toInt64 p = Int32.toInt64 (x * q - y * p) ∧ zBt (-2764800) 2764800 (x * q - y * p) := by
  obtain ⟨e1, b1⟩ := zmulB (A := 720) (B := 1920) hx hq (by decide)
  obtain ⟨e2, b2⟩ := zmulB (A := 720) (B := 1920) hy hp (by decide)
  have e3 := zsub (x := x * q) (y := y * p) (by rw [e1, e2]; omega)
  have f1 : (Int32.toInt64 x * Int32.toInt64 q).toInt = x.toInt * q.toInt := by rw [zmul64 (by rw [zL, zL]; omega), zL, zL]
  have f2 : (Int32.toInt64 y * Int32.toInt64 p).toInt = y.toInt * p.toInt := by rw [zmul64 (by rw [zL, zL]; omega), zL, zL]
  refine ⟨?_, ?_⟩
  · rw [zeq64, zL, e3, e1, e2, zsub64 (by rw [f1, f2]; omega), f1, f2]
  · unfold zBt; rw [e3, e1, e2]; omega
def zHB (n : Nat) (X Y : Nat → Int32) : Prop := ∀ j, j < n → zBt (-30) 30 (X j) ∧ zBt (-30) 30 (Y j)
end
section
theorem zT_bd {n m : Nat} {X Y E S : Nat → Int32} {f : Int32} (hB : zHB n X Y) (hf : zBt 0 16 f) (hE : ∀ i, i < m → ∃ e, E i = nI e ∧ e < n) (hn : n ≤ 10) (hS : ∀ i, i < m → zBt 0 8 (S i)) : ∀ t, t < zMl f m → zBt (-1920) 1920 (zT1 n X Y f E t) ∧ zBt (-1920) 1920 (zT2 n X Y f E t) ∧ zBt (-2764800) 2764800 (zT3 n X Y f E S t) := by
  intro t ht
  have hi : zTi f t < m := by unfold zMl at ht; unfold zTi; by_cases q : f = 0 <;> simp only [q, if_true, if_false] at ht ⊢ <;> omega
  obtain ⟨e, he, hen⟩ := hE _ hi
  have hZ : zEd E (zTi f t) = e := by unfold zEd; rw [he]; exact nI_clamp (by omega)
  have hze := zNx_lt hen
  have dxb : zBt (-60) 60 (zDX n X e) := (zsubB (A := 30) (B := 30) (hB _ hze).1 (hB e hen).1 (by decide)).2
  have dyb : zBt (-60) 60 (zDX n Y e) := (zsubB (A := 30) (B := 30) (hB _ hze).2 (hB e hen).2 (by decide)).2
  have bx : zBt (-720) 720 (zPX n X e (S (zTi f t))) := zpxB (hB e hen).1 dxb (hS _ hi)
  have by0 : zBt (-720) 720 (zPX n Y e (S (zTi f t))) := zpxB (hB e hen).2 dyb (hS _ hi)
  have q1 := zpqB (c := -16) ⟨by decide, by decide⟩ dyb dxb hf
  have q2 := zpqB (c := 16) ⟨by decide, by decide⟩ dxb dyb hf
  have b1 : zBt (-1920) 1920 (zT1 n X Y f E t) := by
    unfold zT1; rw [hZ]; split
    · exact q1.1
    · exact q1.2
  have b2 : zBt (-1920) 1920 (zT2 n X Y f E t) := by
    unfold zT2; rw [hZ]; split
    · exact q2.1
    · exact q2.2
  refine ⟨b1, b2, ?_⟩
  unfold zT3; rw [hZ]
  exact (zl3 bx by0 b1 b2).2
/-- rows of triples that are not large -/
def zTB (A B C : Nat → Int64) (m : Nat) : Prop := ∀ t, t < m → (-1920 ≤ (A t).toInt ∧ (A t).toInt ≤ 1920) ∧ (-1920 ≤ (B t).toInt ∧ (B t).toInt ≤ 1920) ∧ (-2764800 ≤ (C t).toInt ∧ (C t).toInt ≤ 2764800)
theorem zTB_T {n m : Nat} {X Y E S : Nat → Int32} {f : Int32} (hB : zHB n X Y) (hf : zBt 0 16 f) (hE : ∀ i, i < m → ∃ e, E i = nI e ∧ e < n) (hn : n ≤ 10) (hS : ∀ i, i < m → zBt 0 8 (S i)) : zTB (zl (zT1 n X Y f E)) (zl (zT2 n X Y f E)) (zl (zT3 n X Y f E S)) (zMl f m) := fun t ht => by
  have h := zT_bd hB hf hE hn hS t ht
  unfold zBt at h
  simp only [zl, zL]
  exact h
theorem zX_int {A B C : Nat → Int64} {m u v : Nat} (h : zTB A B C m) (hu : u < m) (hv : v < m) : (zX1 A B C u v).toInt = (B u).toInt * (C v).toInt - (C u).toInt * (B v).toInt ∧ (zX2 A B C u v).toInt = (C u).toInt * (A v).toInt - (A u).toInt * (C v).toInt ∧ (zX3 A B C u v).toInt = (A u).toInt * (B v).toInt - (B u).toInt * (A v).toInt ∧
    (-10616832000 ≤ (zX1 A B C u v).toInt ∧ (zX1 A B C u v).toInt ≤ 10616832000) ∧ (-10616832000 ≤ (zX2 A B C u v).toInt ∧ (zX2 A B C u v).toInt ≤ 10616832000) ∧ (-7372800 ≤ (zX3 A B C u v).toInt ∧ (zX3 A B C u v).toInt ≤ 7372800) := by
  obtain ⟨a1, a2, a3⟩ := h u hu
  obtain ⟨b1, b2, b3⟩ := h v hv
  have p1 := zPB a2 b3
  have p2 := zPB a3 b2
  have p3 := zPB a3 b1
  have p4 := zPB a1 b3
  have p5 := zPB a1 b2
  have p6 := zPB a2 b1
  have m1 := zmul64 (x := B u) (y := C v) (by omega)
  have m2 := zmul64 (x := C u) (y := B v) (by omega)
  have m3 := zmul64 (x := C u) (y := A v) (by omega)
  have m4 := zmul64 (x := A u) (y := C v) (by omega)
  have m5 := zmul64 (x := A u) (y := B v) (by omega)
  have m6 := zmul64 (x := B u) (y := A v) (by omega)
  have e1 : (zX1 A B C u v).toInt = (B u).toInt * (C v).toInt - (C u).toInt * (B v).toInt := by unfold zX1; rw [zsub64 (by rw [m1, m2]; omega), m1, m2]
  have e2 : (zX2 A B C u v).toInt = (C u).toInt * (A v).toInt - (A u).toInt * (C v).toInt := by unfold zX2; rw [zsub64 (by rw [m3, m4]; omega), m3, m4]
  have e3 : (zX3 A B C u v).toInt = (A u).toInt * (B v).toInt - (B u).toInt * (A v).toInt := by unfold zX3; rw [zsub64 (by rw [m5, m6]; omega), m5, m6]
  refine ⟨e1, e2, e3, ?_, ?_, ?_⟩
  · rw [e1]; omega
  · rw [e2]; omega
  · rw [e3]; omega
theorem zPr_int {A B C : Nat → Int64} {m u v t : Nat} (h : zTB A B C m) (hu : u < m) (hv : v < m) (ht : t < m) : (zPr A B C (zX1 A B C u v) (zX2 A B C u v) (zX3 A B C u v) t).toInt = (zX1 A B C u v).toInt * (A t).toInt + (zX2 A B C u v).toInt * (B t).toInt + (zX3 A B C u v).toInt * (C t).toInt := by
  obtain ⟨-, -, -, x1, x2, x3⟩ := zX_int h hu hv
  obtain ⟨a1, a2, a3⟩ := h t ht
  have p1 := zPB x1 a1
  have p2 := zPB x2 a2
  have p3 := zPB x3 a3
  have m1 := zmul64 (x := zX1 A B C u v) (y := A t) (by omega)
  have m2 := zmul64 (x := zX2 A B C u v) (y := B t) (by omega)
  have m3 := zmul64 (x := zX3 A B C u v) (y := C t) (by omega)
  have s1 := zadd64 (x := zX1 A B C u v * A t) (y := zX2 A B C u v * B t) (by rw [m1, m2]; omega)
  unfold zPr
  rw [zadd64 (by rw [s1, m1, m2, m3]; omega), s1, m1, m2, m3]
theorem zAb_no {A B C : Nat → Int64} {c1 c2 c3 : Int64} {m : Nat} : zAb A B C c1 c2 c3 m = false ↔ ∀ t, t < m → ¬ 0 < zPr A B C c1 c2 c3 t := by
  induction m with
  | zero => exact ⟨fun _ t h => absurd h (Nat.not_lt_zero t), fun _ => rfl⟩
  | succ m ih =>
    unfold zAb
    rw [Bool.or_eq_false_iff, ih, decide_eq_false_iff_not]
    constructor
    · rintro ⟨h1, h2⟩ t ht
      by_cases e : t = m
      · rw [e]; exact h2
      · exact h1 t (by omega)
    · intro h; exact ⟨fun t ht => h t (by omega), h m (by omega)⟩
theorem zBl_no {A B C : Nat → Int64} {c1 c2 c3 : Int64} {m : Nat} : zBl A B C c1 c2 c3 m = false ↔ ∀ t, t < m → ¬ zPr A B C c1 c2 c3 t < 0 := by
  induction m with
  | zero => exact ⟨fun _ t h => absurd h (Nat.not_lt_zero t), fun _ => rfl⟩
  | succ m ih =>
    unfold zBl
    rw [Bool.or_eq_false_iff, ih, decide_eq_false_iff_not]
    constructor
    · rintro ⟨h1, h2⟩ t ht
      by_cases e : t = m
      · rw [e]; exact h2
      · exact h1 t (by omega)
    · intro h; exact ⟨fun t ht => h t (by omega), h m (by omega)⟩
end
section
/-! sets of parts as bits -/
theorem znand (a b : Nat) : nI a &&& nI b = nI (a &&& b) := Int32.toBitVec_inj.mp (show BitVec.ofNat 32 a &&& BitVec.ofNat 32 b = BitVec.ofNat 32 (a &&& b) from BitVec.ofNat_and.symm)
theorem znor (a b : Nat) : nI a ||| nI b = nI (a ||| b) := Int32.toBitVec_inj.mp (show BitVec.ofNat 32 a ||| BitVec.ofNat 32 b = BitVec.ofNat 32 (a ||| b) from BitVec.ofNat_or.symm)
theorem zshl12 : ∀ k, k < 12 → (1 : Int32) <<< (nI k &&& 31) = nI (2 ^ k) := by decide
theorem zsm12 : ∀ k, k < 12 → ((nI k &&& 31).toBitVec.smod 32).toNat = k := by decide
theorem zbtN {x i : Nat} (hx : x < 4096) (hi : i < 12) : zbt (nI x) i = if x.testBit i = true then 1 else 0 := by
  unfold zbt
  rw [pk_shrN (by omega) _ i (zsm12 i hi), show (1 : Int32) = nI 1 from rfl, znand, Nat.and_one_is_mod, Nat.testBit_eq_decide_div_mod_eq]
  by_cases c_z : x / 2 ^ i % 2 = 1
  · rw [if_pos (decide_eq_true c_z), c_z]
  · rw [if_neg (fun q_z => c_z (of_decide_eq_true q_z)), show x / 2 ^ i % 2 = 0 by omega]; rfl
theorem zbtN1 {x i : Nat} (hx : x < 4096) (hi : i < 12) : zbt (nI x) i = 1 ↔ x.testBit i = true := by
  rw [zbtN hx hi]
  by_cases c_z : x.testBit i = true
  · rw [if_pos c_z]; exact ⟨fun _ => c_z, fun _ => rfl⟩
  · rw [if_neg c_z]; exact ⟨fun q_z => absurd q_z (by decide), fun q_z => absurd q_z c_z⟩
end
section
/-! rows of triples that lie in no half: one more triple, a wider cone -/
abbrev zV3 : Type := Int × Int × Int
def zC1 (u v : zV3) : Int := u.2.1 * v.2.2 - u.2.2 * v.2.1
def zC2 (u v : zV3) : Int := u.2.2 * v.1 - u.1 * v.2.2
def zC3 (u v : zV3) : Int := u.1 * v.2.1 - u.2.1 * v.1
def zDz (u v t : zV3) : Int := zC1 u v * t.1 + zC2 u v * t.2.1 + zC3 u v * t.2.2
def zCn (u v : zV3) : Prop := zC1 u v ≠ 0 ∨ zC2 u v ≠ 0 ∨ zC3 u v ≠ 0
theorem zCn_no {u v : zV3} (h : ¬ zCn u v) : zC1 u v = 0 ∧ zC2 u v = 0 ∧ zC3 u v = 0 := by
  unfold zCn at h; omega
theorem zDz_sw (u v t : zV3) : zDz v u t = - zDz u v t := by unfold zDz zC1 zC2 zC3; grind
theorem zC_sw (u v : zV3) : zC1 v u = - zC1 u v ∧ zC2 v u = - zC2 u v ∧ zC3 v u = - zC3 u v := by unfold zC1 zC2 zC3; grind
theorem zCn_sw {u v : zV3} (h : zCn u v) : zCn v u := by
  obtain ⟨h1, h2, h3⟩ := zC_sw u v
  unfold zCn at h ⊢; omega
theorem zCn_u0 (u : zV3) : ¬ zCn u u := by
  have h1 : zC1 u u = 0 := by unfold zC1; grind
  have h2 : zC2 u u = 0 := by unfold zC2; grind
  have h3 : zC3 u u = 0 := by unfold zC3; grind
  unfold zCn; omega
theorem zDz_u (u v : zV3) : zDz u v u = 0 := by unfold zDz zC1 zC2 zC3; grind
theorem zDz_v (u v : zV3) : zDz u v v = 0 := by unfold zDz zC1 zC2 zC3; grind
theorem zDz_par {u v t : zV3} (h : ¬ zCn u t) : zDz u v t = 0 := by
  obtain ⟨h1, h2, h3⟩ := zCn_no h
  have e : zDz u v t = -(zC1 u t * v.1 + zC2 u t * v.2.1 + zC3 u t * v.2.2) := by unfold zDz zC1 zC2 zC3; grind
  rw [e, h1, h2, h3]; simp
theorem zPlk (u w v t x : zV3) : zDz u x t * zDz u w v = zDz u v t * zDz u w x + zDz u x v * zDz u w t := by
  unfold zDz zC1 zC2 zC3; grind
theorem zPl1 (u w v t : zV3) : zC1 u w * zDz u v t = zC1 u v * zDz u w t + zDz u w v * (u.2.2 * t.2.1 - u.2.1 * t.2.2) := by
  unfold zDz zC1 zC2 zC3; grind
theorem zPl2 (u w v t : zV3) : zC2 u w * zDz u v t = zC2 u v * zDz u w t + zDz u w v * (u.1 * t.2.2 - u.2.2 * t.1) := by
  unfold zDz zC1 zC2 zC3; grind
theorem zPl3 (u w v t : zV3) : zC3 u w * zDz u v t = zC3 u v * zDz u w t + zDz u w v * (u.2.1 * t.1 - u.1 * t.2.1) := by
  unfold zDz zC1 zC2 zC3; grind
theorem zsg4 {c g x1 x2 y1 y2 : Int} (e1 : c * x1 = g * y1) (e2 : c * x2 = g * y2) (hc : c ≠ 0) (h1 : x1 < 0) (h2 : 0 < x2) (k1 : 0 ≤ y1) (k2 : 0 ≤ y2) : False := by
  rcases (show 0 < c ∨ 0 < -c by omega) with p | p
  · have a1 := Int.mul_pos p (show 0 < -x1 by omega)
    have a2 := Int.mul_pos p h2
    rw [Int.mul_neg] at a1
    rcases (show 0 ≤ g ∨ 0 ≤ -g by omega) with q | q
    · have b1 := Int.mul_nonneg q k1; omega
    · have b2 := Int.mul_nonneg q k2; rw [Int.neg_mul] at b2; omega
  · have a1 := Int.mul_pos p (show 0 < -x1 by omega)
    have a2 := Int.mul_pos p h2
    rw [Int.neg_mul, Int.mul_neg, Int.neg_neg] at a1
    rw [Int.neg_mul] at a2
    rcases (show 0 ≤ g ∨ 0 ≤ -g by omega) with q | q
    · have b2 := Int.mul_nonneg q k2; omega
    · have b1 := Int.mul_nonneg q k1; rw [Int.neg_mul] at b1; omega
/-- in no half: the words of the class -/
def zHL (L : List zV3) : Prop := (∃ u, u ∈ L ∧ ∃ v, v ∈ L ∧ zCn u v) ∧ ∀ u, u ∈ L → ∀ v, v ∈ L → zCn u v → ∃ t, t ∈ L ∧ zDz u v t < 0
theorem zBmin {u w : zV3} : ∀ M : List zV3, (∀ t, t ∈ M → 0 ≤ zDz u w t) → (∀ t, t ∈ M → zCn u t → zDz u w t ≠ 0) → (∃ t, t ∈ M ∧ zCn u t) → ∃ v, v ∈ M ∧ zCn u v ∧ ∀ t, t ∈ M → 0 ≤ zDz u v t
  | [], _, _, h3 => by obtain ⟨t, ht, _⟩ := h3; exact absurd ht List.not_mem_nil
  | x :: M, h1, h2, h3 => by
    have g1 : ∀ t, t ∈ M → 0 ≤ zDz u w t := fun t ht => h1 t (List.mem_cons_of_mem _ ht)
    have g2 : ∀ t, t ∈ M → zCn u t → zDz u w t ≠ 0 := fun t ht => h2 t (List.mem_cons_of_mem _ ht)
    by_cases g3 : ∃ t, t ∈ M ∧ zCn u t
    · obtain ⟨v, hv, hc, hm⟩ := zBmin M g1 g2 g3
      by_cases hx : 0 ≤ zDz u v x
      · exact ⟨v, List.mem_cons_of_mem _ hv, hc, List.forall_mem_cons.mpr ⟨hx, hm⟩⟩
      · have hcx : zCn u x := Classical.byContradiction fun q => hx (by rw [zDz_par q]; exact Int.le_refl 0)
        refine ⟨x, List.mem_cons_self, hcx, List.forall_mem_cons.mpr ⟨by rw [zDz_v]; exact Int.le_refl 0, fun t ht => ?_⟩⟩
        have e := zPlk u w v t x
        have n1 := Int.mul_nonneg (hm t ht) (h1 x List.mem_cons_self)
        have n2 := Int.mul_nonneg (show 0 ≤ zDz u x v by rw [show zDz u x v = -zDz u v x by unfold zDz zC1 zC2 zC3; grind]; omega) (g1 t ht)
        have p1 : 0 < zDz u w v := by have := g1 v hv; have := g2 v hv hc; omega
        rcases (show 0 ≤ zDz u x t ∨ 0 < -zDz u x t by omega) with q | q
        · exact q
        · have b := Int.mul_pos q p1
          rw [Int.neg_mul] at b; omega
    · have hcx : zCn u x := by
        obtain ⟨t, ht, hc⟩ := h3
        rcases List.mem_cons.mp ht with rfl | ht
        · exact hc
        · exact absurd ⟨t, ht, hc⟩ g3
      refine ⟨x, List.mem_cons_self, hcx, List.forall_mem_cons.mpr ⟨by rw [zDz_v]; exact Int.le_refl 0, fun t ht => ?_⟩⟩
      rw [zDz_par (fun q => g3 ⟨t, ht, q⟩)]; exact Int.le_refl 0
theorem zpar {u a b w : zV3} (hw : zCn u w) (ha : ¬ zCn u a) (hb : ¬ zCn u b) : ¬ zCn a b := by
  obtain ⟨a1, a2, a3⟩ := zCn_no ha
  obtain ⟨b1, b2, b3⟩ := zCn_no hb
  have hu : u.1 ≠ 0 ∨ u.2.1 ≠ 0 ∨ u.2.2 ≠ 0 := by
    rcases Classical.em (u.1 ≠ 0 ∨ u.2.1 ≠ 0 ∨ u.2.2 ≠ 0) with h | h
    · exact h
    · exfalso
      have z1 : u.1 = 0 := by omega
      have z2 : u.2.1 = 0 := by omega
      have z3 : u.2.2 = 0 := by omega
      unfold zCn zC1 zC2 zC3 at hw
      rw [z1, z2, z3] at hw
      simp at hw
  unfold zC1 at a1 b1
  unfold zC2 at a2 b2
  unfold zC3 at a3 b3
  have k : ∀ c : Int, (∀ x : Int, x = u.1 ∨ x = u.2.1 ∨ x = u.2.2 → x * c = 0) → c = 0 := fun c hx => by
    rcases hu with h | h | h
    · exact (Int.mul_eq_zero.mp (hx _ (Or.inl rfl))).resolve_left h
    · exact (Int.mul_eq_zero.mp (hx _ (Or.inr (Or.inl rfl)))).resolve_left h
    · exact (Int.mul_eq_zero.mp (hx _ (Or.inr (Or.inr rfl)))).resolve_left h
  have c1 : zC1 a b = 0 := k _ (fun x hx => by unfold zC1; rcases hx with rfl | rfl | rfl <;> grind)
  have c2 : zC2 a b = 0 := k _ (fun x hx => by unfold zC2; rcases hx with rfl | rfl | rfl <;> grind)
  have c3 : zC3 a b = 0 := k _ (fun x hx => by unfold zC3; rcases hx with rfl | rfl | rfl <;> grind)
  unfold zCn; omega
theorem zR3 {L : List zV3} {u w : zV3} (h : zHL L) (hu : u ∈ L) (hc : zCn u w) : ∃ t, t ∈ L ∧ zDz u w t < 0 := Classical.byContradiction fun q => by
  have hge : ∀ t, t ∈ L → 0 ≤ zDz u w t := fun t ht => Int.not_lt.mp fun y => q ⟨t, ht, y⟩
  by_cases hA : ∃ v, v ∈ L ∧ zCn u v ∧ zDz u w v = 0
  · obtain ⟨v, hv, hcv, h0⟩ := hA
    obtain ⟨t1, m1, s1⟩ := h.2 u hu v hv hcv
    obtain ⟨t2, m2, s2⟩ := h.2 v hv u hu (zCn_sw hcv)
    rw [zDz_sw] at s2
    have e11 := zPl1 u w v t1
    have e12 := zPl1 u w v t2
    have e21 := zPl2 u w v t1
    have e22 := zPl2 u w v t2
    have e31 := zPl3 u w v t1
    have e32 := zPl3 u w v t2
    rw [h0, Int.zero_mul, Int.add_zero] at e11 e12 e21 e22 e31 e32
    rcases hc with c | c | c
    · exact zsg4 e11 e12 c s1 (by omega) (hge t1 m1) (hge t2 m2)
    · exact zsg4 e21 e22 c s1 (by omega) (hge t1 m1) (hge t2 m2)
    · exact zsg4 e31 e32 c s1 (by omega) (hge t1 m1) (hge t2 m2)
  · have hex : ∃ t, t ∈ L ∧ zCn u t := Classical.byContradiction fun y => by
      obtain ⟨a, ha, b, hb, hab⟩ := h.1
      exact zpar hc (fun z => y ⟨a, ha, z⟩) (fun z => y ⟨b, hb, z⟩) hab
    obtain ⟨v, hv, hcv, hm⟩ := zBmin L hge (fun t ht hct e => hA ⟨t, ht, hct, e⟩) hex
    obtain ⟨t, ht, hlt⟩ := h.2 u hu v hv hcv
    have := hm t ht
    omega
def zNg (w : zV3) : zV3 := (-w.1, -w.2.1, -w.2.2)
theorem zDz_ng (u w t : zV3) : zDz u (zNg w) t = zDz w u t := by unfold zDz zC1 zC2 zC3 zNg; grind
theorem zCn_ng {u w : zV3} (h : zCn w u) : zCn u (zNg w) := by
  have h1 : zC1 u (zNg w) = zC1 w u := by unfold zC1 zNg; grind
  have h2 : zC2 u (zNg w) = zC2 w u := by unfold zC2 zNg; grind
  have h3 : zC3 u (zNg w) = zC3 w u := by unfold zC3 zNg; grind
  unfold zCn at h ⊢; rw [h1, h2, h3]; exact h
theorem zHL_add {L : List zV3} (w : zV3) (h : zHL L) : zHL (w :: L) := by
  refine ⟨?_, fun u hu v hv hc => ?_⟩
  · obtain ⟨a, ha, b, hb, hab⟩ := h.1
    exact ⟨a, List.mem_cons_of_mem _ ha, b, List.mem_cons_of_mem _ hb, hab⟩
  · rcases List.mem_cons.mp hu with rfl | hu2
    · rcases List.mem_cons.mp hv with rfl | hv2
      · exact absurd hc (zCn_u0 _)
      · obtain ⟨t, ht, hlt⟩ := zR3 h hv2 (zCn_ng hc)
        rw [zDz_ng] at hlt
        exact ⟨t, List.mem_cons_of_mem _ ht, hlt⟩
    · rcases List.mem_cons.mp hv with rfl | hv2
      · obtain ⟨t, ht, hlt⟩ := zR3 h hu2 hc
        exact ⟨t, List.mem_cons_of_mem _ ht, hlt⟩
      · obtain ⟨t, ht, hlt⟩ := h.2 u hu2 v hv2 hc
        exact ⟨t, List.mem_cons_of_mem _ ht, hlt⟩
theorem zHL_app {L : List zV3} (h : zHL L) : ∀ M : List zV3, zHL (M ++ L)
  | [] => h
  | w :: M => zHL_add w (zHL_app h M)
/-- more triples -/
theorem zHL_sub {L L' : List zV3} (h : zHL L) (hs : ∀ t, t ∈ L → t ∈ L') : zHL L' := by
  obtain ⟨⟨a, ha, b, hb, hab⟩, h2⟩ := zHL_app h L'
  have k : ∀ t, t ∈ L' ++ L → t ∈ L' := fun t ht => (List.mem_append.mp ht).elim id (hs t)
  refine ⟨⟨a, k a ha, b, k b hb, hab⟩, fun u hu v hv hc => ?_⟩
  obtain ⟨t, ht, hlt⟩ := h2 u (List.mem_append_left _ hu) v (List.mem_append_left _ hv) hc
  exact ⟨t, k t ht, hlt⟩
/-- a triple is in the cone of two of a row -/
def zIn2 (L : List zV3) (t : zV3) : Prop := ∃ s1, s1 ∈ L ∧ ∃ s2, s2 ∈ L ∧ ∃ a b g : Int, (0 ≤ a ∧ 0 ≤ b ∧ 0 < g) ∧ g * t.1 = a * s1.1 + b * s2.1 ∧ g * t.2.1 = a * s1.2.1 + b * s2.2.1 ∧ g * t.2.2 = a * s1.2.2 + b * s2.2.2
theorem zIn2_self {L : List zV3} {t : zV3} (h : t ∈ L) : zIn2 L t := ⟨t, h, t, h, 1, 0, 1, ⟨by decide, by decide, by decide⟩, by omega, by omega, by omega⟩
theorem zDz_lin {u v t s1 s2 : zV3} {a b g : Int} (h1 : g * t.1 = a * s1.1 + b * s2.1) (h2 : g * t.2.1 = a * s1.2.1 + b * s2.2.1) (h3 : g * t.2.2 = a * s1.2.2 + b * s2.2.2) : g * zDz u v t = a * zDz u v s1 + b * zDz u v s2 := by
  have e : g * zDz u v t = zC1 u v * (g * t.1) + zC2 u v * (g * t.2.1) + zC3 u v * (g * t.2.2) := by unfold zDz; grind
  rw [e, h1, h2, h3]; unfold zDz; grind
/-- a wider cone -/
theorem zHL_cone {L L' : List zV3} (h : zHL L) (hs : ∀ t, t ∈ L → zIn2 L' t) : zHL L' := by
  have h0 := zHL_app h L'
  have k : ∀ t, t ∈ L' ++ L → zIn2 L' t := fun t ht => (List.mem_append.mp ht).elim zIn2_self (hs t)
  refine ⟨?_, fun u hu v hv hc => ?_⟩
  · refine Classical.byContradiction fun q => ?_
    have q0 : ∀ s, s ∈ L' → ∀ s', s' ∈ L' → ¬ zCn s s' := fun s m1 s' m2 z => q ⟨s, m1, s', m2, z⟩
    obtain ⟨⟨x, hx, y, hy, hxy⟩, -⟩ := h0
    obtain ⟨s1, m1, s2, m2, a, b, g, ⟨-, -, hg⟩, x1, x2, x3⟩ := k x hx
    obtain ⟨s3, m3, s4, m4, c, f, j, ⟨-, -, hj⟩, y1, y2, y3⟩ := k y hy
    obtain ⟨d1, d2, d3⟩ := zCn_no (q0 s1 m1 s3 m3)
    obtain ⟨e1, e2, e3⟩ := zCn_no (q0 s1 m1 s4 m4)
    obtain ⟨f1, f2, f3⟩ := zCn_no (q0 s2 m2 s3 m3)
    obtain ⟨g1, g2, g3⟩ := zCn_no (q0 s2 m2 s4 m4)
    have w1 : g * (j * zC1 x y) = (a * c) * zC1 s1 s3 + (a * f) * zC1 s1 s4 + (b * c) * zC1 s2 s3 + (b * f) * zC1 s2 s4 := by
      have r : g * (j * zC1 x y) = (g * x.2.1) * (j * y.2.2) - (g * x.2.2) * (j * y.2.1) := by unfold zC1; grind
      rw [r, x2, x3, y2, y3]; unfold zC1; grind
    have w2 : g * (j * zC2 x y) = (a * c) * zC2 s1 s3 + (a * f) * zC2 s1 s4 + (b * c) * zC2 s2 s3 + (b * f) * zC2 s2 s4 := by
      have r : g * (j * zC2 x y) = (g * x.2.2) * (j * y.1) - (g * x.1) * (j * y.2.2) := by unfold zC2; grind
      rw [r, x1, x3, y1, y3]; unfold zC2; grind
    have w3 : g * (j * zC3 x y) = (a * c) * zC3 s1 s3 + (a * f) * zC3 s1 s4 + (b * c) * zC3 s2 s3 + (b * f) * zC3 s2 s4 := by
      have r : g * (j * zC3 x y) = (g * x.1) * (j * y.2.1) - (g * x.2.1) * (j * y.1) := by unfold zC3; grind
      rw [r, x1, x2, y1, y2]; unfold zC3; grind
    rw [d1, e1, f1, g1] at w1
    rw [d2, e2, f2, g2] at w2
    rw [d3, e3, f3, g3] at w3
    simp only [Int.mul_zero, Int.add_zero] at w1 w2 w3
    have z : ∀ c : Int, g * (j * c) = 0 → c = 0 := fun c e => by
      have e2 := (Int.mul_eq_zero.mp e).resolve_left (by omega)
      exact (Int.mul_eq_zero.mp e2).resolve_left (by omega)
    rcases hxy with r | r | r
    · exact r (z _ w1)
    · exact r (z _ w2)
    · exact r (z _ w3)
  · obtain ⟨t, ht, hlt⟩ := h0.2 u (List.mem_append_left _ hu) v (List.mem_append_left _ hv) hc
    obtain ⟨s1, m1, s2, m2, a, b, g, ⟨ha, hb, hg⟩, x1, x2, x3⟩ := k t ht
    have e := zDz_lin (u := u) (v := v) x1 x2 x3
    have n := Int.mul_pos hg (show 0 < -zDz u v t by omega)
    rw [Int.mul_neg] at n
    by_cases q1 : zDz u v s1 < 0
    · exact ⟨s1, m1, q1⟩
    · by_cases q2 : zDz u v s2 < 0
      · exact ⟨s2, m2, q2⟩
      · exfalso
        have n1 := Int.mul_nonneg ha (Int.not_lt.mp q1)
        have n2 := Int.mul_nonneg hb (Int.not_lt.mp q2)
        omega
end
section
/-! what fingers that hold hold on with: the class's words over the integers -/
def zVl (A B C : Nat → Int64) (t : Nat) : zV3 := ((A t).toInt, (B t).toInt, (C t).toInt)
def zLs3 (A B C : Nat → Int64) (m : Nat) : List zV3 := (List.range m).map (zVl A B C)
theorem zLs3_in {A B C : Nat → Int64} {m : Nat} {v : zV3} : v ∈ zLs3 A B C m ↔ ∃ t, t < m ∧ zVl A B C t = v := by
  unfold zLs3; rw [List.mem_map]
  constructor
  · rintro ⟨t, h1, h2⟩; exact ⟨t, List.mem_range.mp h1, h2⟩
  · rintro ⟨t, h1, h2⟩; exact ⟨t, List.mem_range.mpr h1, h2⟩
theorem zNz_V {A B C : Nat → Int64} {m u v : Nat} (h : zTB A B C m) (hu : u < m) (hv : v < m) : zNz A B C u v ↔ zCn (zVl A B C u) (zVl A B C v) := by
  obtain ⟨x1, x2, x3, -⟩ := zX_int h hu hv
  have k : ∀ x : Int64, x ≠ 0 ↔ x.toInt ≠ 0 := fun x => by rw [Ne, Ne, zeq64]; exact Iff.rfl
  unfold zNz zCn
  rw [k, k, k, x1, x2, x3]
  exact Iff.rfl
theorem zPr_V {A B C : Nat → Int64} {m u v t : Nat} (h : zTB A B C m) (hu : u < m) (hv : v < m) (ht : t < m) : (zPr A B C (zX1 A B C u v) (zX2 A B C u v) (zX3 A B C u v) t).toInt = zDz (zVl A B C u) (zVl A B C v) (zVl A B C t) := by
  obtain ⟨x1, x2, x3, -⟩ := zX_int h hu hv
  rw [zPr_int h hu hv ht, x1, x2, x3]
  rfl
theorem zBe_V {A B C : Nat → Int64} {m u v : Nat} (h : zTB A B C m) (hu : u < m) (hv : v < m) : zBe A B C m u v = true ↔ ∃ t, t < m ∧ zDz (zVl A B C u) (zVl A B C v) (zVl A B C t) < 0 := by
  have z0 : (0 : Int64).toInt = 0 := rfl
  constructor
  · intro hb
    refine Classical.byContradiction fun q => ?_
    have e : zBe A B C m u v = false := zBl_no.mpr (fun t ht y => q ⟨t, ht, by rw [zlt64, zPr_V h hu hv ht, z0] at y; exact y⟩)
    rw [e] at hb; exact absurd hb (by decide)
  · rintro ⟨t, ht, hl⟩
    cases hb : zBe A B C m u v
    · exact absurd (show zPr A B C (zX1 A B C u v) (zX2 A B C u v) (zX3 A B C u v) t < 0 by rw [zlt64, zPr_V h hu hv ht, z0]; exact hl) (zBl_no.mp hb t ht)
    · rfl
theorem zAe_V {A B C : Nat → Int64} {m u v : Nat} (h : zTB A B C m) (hu : u < m) (hv : v < m) : zAe A B C m u v = true ↔ ∃ t, t < m ∧ 0 < zDz (zVl A B C u) (zVl A B C v) (zVl A B C t) := by
  have z0 : (0 : Int64).toInt = 0 := rfl
  constructor
  · intro hb
    refine Classical.byContradiction fun q => ?_
    have e : zAe A B C m u v = false := zAb_no.mpr (fun t ht y => q ⟨t, ht, by rw [zlt64, zPr_V h hu hv ht, z0] at y; exact y⟩)
    rw [e] at hb; exact absurd hb (by decide)
  · rintro ⟨t, ht, hl⟩
    cases hb : zAe A B C m u v
    · exact absurd (show 0 < zPr A B C (zX1 A B C u v) (zX2 A B C u v) (zX3 A B C u v) t by rw [zlt64, zPr_V h hu hv ht, z0]; exact hl) (zAb_no.mp hb t ht)
    · rfl
theorem zHold_L {A B C : Nat → Int64} {m : Nat} (h : zTB A B C m) : zHold A B C m ↔ zHL (zLs3 A B C m) := by
  constructor
  · rintro ⟨⟨u, v, h1, h2, h3⟩, h4⟩
    have hu : u < m := by omega
    refine ⟨⟨_, zLs3_in.mpr ⟨u, hu, rfl⟩, _, zLs3_in.mpr ⟨v, h2, rfl⟩, (zNz_V h hu h2).mp h3⟩, fun x hx y hy hc => ?_⟩
    obtain ⟨i, hi, rfl⟩ := zLs3_in.mp hx
    obtain ⟨j, hj, rfl⟩ := zLs3_in.mp hy
    rcases (show i < j ∨ i = j ∨ j < i by omega) with q | rfl | q
    · obtain ⟨t, ht, hl⟩ := (zBe_V h hi hj).mp (h4 i j q hj ((zNz_V h hi hj).mpr hc)).1
      exact ⟨_, zLs3_in.mpr ⟨t, ht, rfl⟩, hl⟩
    · exact absurd hc (zCn_u0 _)
    · obtain ⟨t, ht, hl⟩ := (zAe_V h hj hi).mp (h4 j i q hi ((zNz_V h hj hi).mpr (zCn_sw hc))).2
      exact ⟨_, zLs3_in.mpr ⟨t, ht, rfl⟩, by rw [zDz_sw]; omega⟩
  · rintro ⟨⟨x, hx, y, hy, hc⟩, h4⟩
    have g : ∀ u v, u < v → v < m → zGd A B C m u v := fun u v h1 h2 h3 => by
      have hu : u < m := by omega
      have hcc := (zNz_V h hu h2).mp h3
      obtain ⟨t, mt, lt⟩ := h4 _ (zLs3_in.mpr ⟨u, hu, rfl⟩) _ (zLs3_in.mpr ⟨v, h2, rfl⟩) hcc
      obtain ⟨s, ms, ls⟩ := h4 _ (zLs3_in.mpr ⟨v, h2, rfl⟩) _ (zLs3_in.mpr ⟨u, hu, rfl⟩) (zCn_sw hcc)
      obtain ⟨i, hi, rfl⟩ := zLs3_in.mp mt
      obtain ⟨j, hj, rfl⟩ := zLs3_in.mp ms
      rw [zDz_sw] at ls
      exact ⟨(zBe_V h hu h2).mpr ⟨i, hi, lt⟩, (zAe_V h hu h2).mpr ⟨j, hj, by omega⟩⟩
    refine ⟨?_, g⟩
    obtain ⟨i, hi, rfl⟩ := zLs3_in.mp hx
    obtain ⟨j, hj, rfl⟩ := zLs3_in.mp hy
    rcases (show i < j ∨ i = j ∨ j < i by omega) with q | rfl | q
    · exact ⟨i, j, q, hj, (zNz_V h hi hj).mpr hc⟩
    · exact absurd hc (zCn_u0 _)
    · exact ⟨j, i, q, hi, (zNz_V h hj hi).mpr (zCn_sw hc)⟩
/-- the numbers of a triple -/
def zVt (dx dy px py g : Int) : zV3 := (-16 * dy + g * dx, 16 * dx + g * dy, px * (16 * dx + g * dy) - py * (-16 * dy + g * dx))
theorem zVt_in {dx dy px py f g : Int} {L : List zV3} (h1 : zVt dx dy px py f ∈ L) (h2 : zVt dx dy px py (-f) ∈ L) (hg : -f ≤ g ∧ g ≤ f) (hf : 0 < f) : zIn2 L (zVt dx dy px py g) :=
  ⟨_, h1, _, h2, f + g, f - g, 2 * f, ⟨by omega, by omega, by omega⟩, by unfold zVt; grind, by unfold zVt; grind, by unfold zVt; grind⟩
theorem zpqI {a q f : Int32} {c : Int32} (hc : zBt (-16) 16 c) (ha : zBt (-60) 60 a) (hq : zBt (-60) 60 q) (hf : zBt 0 16 f) : (c * a + f * q).toInt = c.toInt * a.toInt + f.toInt * q.toInt ∧ (c * a - f * q).toInt = c.toInt * a.toInt - f.toInt * q.toInt := by
  have h1 := zmulB2 (A := 16) (B := 60) hc ha (by decide)
  have h2 := zmulB2 (A := 16) (B := 60) (zBtm hf (by decide) (by decide)) hq (by decide)
  have e1 := (zmulB (A := 16) (B := 60) hc ha (by decide)).1
  have e2 := (zmulB (A := 16) (B := 60) (zBtm hf (by decide) (by decide)) hq (by decide)).1
  exact ⟨by rw [(zaddB (A := 960) (B := 960) h1 h2 (by decide)).1, e1, e2], by rw [(zsubB (A := 960) (B := 960) h1 h2 (by decide)).1, e1, e2]⟩
theorem zl3I {x y p q : Int32} (hx : zBt (-720) 720 x) (hy : zBt (-720) 720 y) (hp : zBt (-1920) 1920 p) (hq : zBt (-1920) 1920 q) : (x * q - y * p).toInt = x.toInt * q.toInt - y.toInt * p.toInt := by
  obtain ⟨e1, b1⟩ := zmulB (A := 720) (B := 1920) hx hq (by decide)
  obtain ⟨e2, b2⟩ := zmulB (A := 720) (B := 1920) hy hp (by decide)
  rw [zsub (by rw [e1, e2]; omega), e1, e2]
def zSgn (f : Int32) (t : Nat) : Int := if f = 0 ∨ t % 2 = 0 then f.toInt else -f.toInt
theorem zT_V {n m : Nat} {X Y E S : Nat → Int32} {f : Int32} (hB : zHB n X Y) (hf : zBt 0 16 f) (hE : ∀ i, i < m → ∃ e, E i = nI e ∧ e < n) (hn : n ≤ 10) (hS : ∀ i, i < m → zBt 0 8 (S i)) (t : Nat) (ht : zTi f t < m) : zVl (zl (zT1 n X Y f E)) (zl (zT2 n X Y f E)) (zl (zT3 n X Y f E S)) t = zVt (zDX n X (zEd E (zTi f t))).toInt (zDX n Y (zEd E (zTi f t))).toInt (zPX n X (zEd E (zTi f t)) (S (zTi f t))).toInt (zPX n Y (zEd E (zTi f t)) (S (zTi f t))).toInt (zSgn f t) := by
  obtain ⟨e, he, hen⟩ := hE _ ht
  have hZ : zEd E (zTi f t) = e := by unfold zEd; rw [he]; exact nI_clamp (by omega)
  have hze := zNx_lt hen
  have dxb : zBt (-60) 60 (zDX n X e) := (zsubB (A := 30) (B := 30) (hB _ hze).1 (hB e hen).1 (by decide)).2
  have dyb : zBt (-60) 60 (zDX n Y e) := (zsubB (A := 30) (B := 30) (hB _ hze).2 (hB e hen).2 (by decide)).2
  have bx : zBt (-720) 720 (zPX n X e (S (zTi f t))) := zpxB (hB e hen).1 dxb (hS _ ht)
  have by0 : zBt (-720) 720 (zPX n Y e (S (zTi f t))) := zpxB (hB e hen).2 dyb (hS _ ht)
  have q1 := zpqB (c := -16) ⟨by decide, by decide⟩ dyb dxb hf
  have q2 := zpqB (c := 16) ⟨by decide, by decide⟩ dxb dyb hf
  have r1 := zpqI (c := -16) ⟨by decide, by decide⟩ dyb dxb hf
  have r2 := zpqI (c := 16) ⟨by decide, by decide⟩ dxb dyb hf
  have c1 : (-16 : Int32).toInt = -16 := by decide
  have c2 : (16 : Int32).toInt = 16 := by decide
  rw [c1] at r1
  rw [c2] at r2
  unfold zVl zl zVt zT3 zSgn
  simp only [zL]
  unfold zT1 zT2
  rw [hZ]
  by_cases h : f = 0 ∨ t % 2 = 0
  · simp only [if_pos h]
    rw [zl3I bx by0 q1.1 q2.1, r1.1, r2.1]
  · simp only [if_neg h]
    rw [zl3I bx by0 q1.2 q2.2, r1.2, r2.2]
    refine Prod.ext ?_ (Prod.ext ?_ ?_)
    · show -16 * _ - _ = -16 * _ + -_ * _; rw [Int.neg_mul f.toInt]; omega
    · show 16 * _ - _ = 16 * _ + -_ * _; rw [Int.neg_mul f.toInt]; omega
    · show _ * (16 * _ - _) - _ * (-16 * _ - _) = _ * (16 * _ + -_ * _) - _ * (-16 * _ + -_ * _); rw [Int.neg_mul f.toInt, Int.neg_mul f.toInt, ← Int.sub_eq_add_neg, ← Int.sub_eq_add_neg]
theorem zTi_lt {f : Int32} {t m : Nat} (h : t < zMl f m) : zTi f t < m := by
  unfold zMl at h; unfold zTi; by_cases q : f = 0 <;> simp only [q, if_true, if_false] at h ⊢ <;> omega
/-- more fingers -/
theorem zHo_more {n m : Nat} {X Y E S : Nat → Int32} {f : Int32} (hB : zHB n X Y) (hf : zBt 0 16 f) (hn : n ≤ 10) (hE : ∀ i, i < m + 1 → ∃ e, E i = nI e ∧ e < n) (hS : ∀ i, i < m + 1 → zBt 0 8 (S i)) (h : zHo n X Y f E S m) : zHo n X Y f E S (m + 1) := by
  have t1 := zTB_T (m := m) hB hf (fun i hi => hE i (by omega)) hn (fun i hi => hS i (by omega))
  have t2 := zTB_T (m := m + 1) hB hf hE hn hS
  refine (zHold_L t2).mpr (zHL_sub ((zHold_L t1).mp h) (fun v hv => ?_))
  obtain ⟨t, ht, e⟩ := zLs3_in.mp hv
  exact zLs3_in.mpr ⟨t, by unfold zMl at ht ⊢; by_cases q : f = 0 <;> simp only [q, if_true, if_false] at ht ⊢ <;> omega, e⟩
/-- more friction -/
theorem zHo_fric {n m : Nat} {X Y E S : Nat → Int32} {f g : Int32} (hB : zHB n X Y) (hf : zBt 0 16 f) (hg : zBt 0 16 g) (hfg : f.toInt ≤ g.toInt) (hn : n ≤ 10) (hE : ∀ i, i < m → ∃ e, E i = nI e ∧ e < n) (hS : ∀ i, i < m → zBt 0 8 (S i)) (h : zHo n X Y f E S m) : zHo n X Y g E S m := by
  by_cases g0 : g = 0
  · have : f = g := by
      rw [zeq]; unfold zBt at hf hg
      have z : g.toInt = 0 := by rw [g0]; rfl
      omega
    rw [← this]; exact h
  · have gp : 0 < g.toInt := by
      unfold zBt at hg
      have : ¬ g.toInt = (0 : Int32).toInt := fun q => g0 (by rw [zeq]; exact q)
      rw [zT_lits.1] at this
      omega
    have t1 := zTB_T hB hf hE hn hS
    have t2 := zTB_T hB hg hE hn hS
    refine (zHold_L t2).mpr (zHL_cone ((zHold_L t1).mp h) (fun v hv => ?_))
    obtain ⟨t, ht, rfl⟩ := zLs3_in.mp hv
    have hi := zTi_lt ht
    rw [zT_V hB hf hE hn hS t hi]
    generalize hq : zTi f t = i at hi ⊢
    have a1 : zTi g (2 * i) = i := by unfold zTi; rw [if_neg g0]; omega
    have a2 : zTi g (2 * i + 1) = i := by unfold zTi; rw [if_neg g0]; omega
    have b1 := zT_V hB hg hE hn hS (2 * i) (by rw [a1]; exact hi)
    have b2 := zT_V hB hg hE hn hS (2 * i + 1) (by rw [a2]; exact hi)
    have s1 : zSgn g (2 * i) = g.toInt := by unfold zSgn; rw [if_pos (Or.inr (by omega))]
    have s2 : zSgn g (2 * i + 1) = -g.toInt := by unfold zSgn; rw [if_neg (by rintro (r | r); exact g0 r; omega)]
    rw [a1, s1] at b1
    rw [a2, s2] at b2
    have m1 : 2 * i < zMl g m := by rw [zMl_1 g0]; omega
    have m2 : 2 * i + 1 < zMl g m := by rw [zMl_1 g0]; omega
    refine zVt_in (f := g.toInt) (zLs3_in.mpr ⟨_, m1, b1⟩) (zLs3_in.mpr ⟨_, m2, b2⟩) ?_ gp
    unfold zBt at hf
    unfold zSgn; split <;> omega
/-- three triples hold nothing -/
theorem zHo_few {n m : Nat} {X Y E S : Nat → Int32} {f : Int32} (hB : zHB n X Y) (hf : zBt 0 16 f) (hn : n ≤ 10) (hE : ∀ i, i < m → ∃ e, E i = nI e ∧ e < n) (hS : ∀ i, i < m → zBt 0 8 (S i)) (h4 : zMl f m < 4) : ¬ zHo n X Y f E S m := by
  have tb := zTB_T hB hf hE hn hS
  rintro ⟨⟨u, v, h1, h2, h3⟩, h5⟩
  have hu : u < zMl f m := by omega
  obtain ⟨b, a⟩ := h5 u v h1 h2 h3
  obtain ⟨t, ht, l1⟩ := (zBe_V tb hu h2).mp b
  obtain ⟨s, hs, l2⟩ := (zAe_V tb hu h2).mp a
  have n1 : t ≠ u := fun q => by rw [q, zDz_u] at l1; omega
  have n2 : t ≠ v := fun q => by rw [q, zDz_v] at l1; omega
  have n3 : s ≠ u := fun q => by rw [q, zDz_u] at l2; omega
  have n4 : s ≠ v := fun q => by rw [q, zDz_v] at l2; omega
  have e : t = s := by omega
  rw [e] at l1; omega
/-- the bit of where a finger stands -/
theorem zFr_bit {P : Nat → Bool} {q : Nat} (hP : P q = true) : ∀ r k N, k + r ≤ 9 → N < 512 → (N.testBit q = true ∨ (k ≤ q ∧ q < k + r)) → ∃ N', zFr P r k (nI N) = nI N' ∧ N' < 512 ∧ N'.testBit q = true
  | 0, k, N, _, hN, hb => ⟨N, rfl, hN, hb.elim id (fun h => by omega)⟩
  | r + 1, k, N, hk, hN, hb => by
    show ∃ N', zFr P r (k + 1) (if P k = true then nI N ||| (1 <<< (nI k &&& 31)) else nI N) = nI N' ∧ N' < 512 ∧ N'.testBit q = true
    by_cases hp : P k = true
    · rw [if_pos hp, zshl12 k (by omega), znor]
      refine zFr_bit hP r (k + 1) (N ||| 2 ^ k) (by omega) (Nat.or_lt_two_pow (n := 9) hN (Nat.pow_lt_pow_right (by decide) (by omega))) ?_
      by_cases e : q = k
      · left; rw [Nat.testBit_or, e, Nat.testBit_two_pow_self, Bool.or_true]
      · rcases hb with hb | hb
        · left; rw [Nat.testBit_or, hb, Bool.true_or]
        · right; omega
    · rw [if_neg hp]
      refine zFr_bit hP r (k + 1) N (by omega) hN ?_
      rcases hb with hb | hb
      · exact Or.inl hb
      · right
        have : q ≠ k := fun e => hp (by rw [← e]; exact hP)
        omega
theorem zfree_bit {n m j q : Nat} {X Y E S : Nat → Int32} {f : Int32} (h : zHo n X Y f E S m) (hq : q < 9) (hS : S j = nI q) : zbt (zFree n X Y f E S m j) q = 1 := by
  obtain ⟨N, e1, e2, e3⟩ := zFr_bit (P := fun k => zDc (zHo n X Y f E (upd S j (nI k)) m)) (q := q) (by
    refine zDc_t ?_
    have e : upd S j (nI q) = S := by
      funext i; unfold upd
      by_cases w : i = j
      · rw [if_pos w, w, hS]
      · rw [if_neg w]
    rw [e]; exact h) 9 0 0 (by decide) (by decide) (Or.inr ⟨Nat.zero_le _, by omega⟩)
  have e : zFree n X Y f E S m j = nI N := e1
  rw [e]
  exact (zbtN1 (by omega) (by omega)).mpr e3
/-- the cheapest of sets is one that holds -/
theorem zCp_in {H : Int32 → Bool} {B : Int32 → Int32 → Bool} : ∀ r i b, zCp H B r i b = b ∨ ∃ j, i ≤ j ∧ j < i + r ∧ zCp H B r i b = nI j ∧ H (nI j) = true
  | 0, _, _ => Or.inl rfl
  | r + 1, i, b => by
    show zCp H B r (i + 1) (if (b = -1 ∨ B (nI i) b = true) ∧ H (nI i) = true then nI i else b) = b ∨ ∃ j, i ≤ j ∧ j < i + (r + 1) ∧ zCp H B r (i + 1) (if (b = -1 ∨ B (nI i) b = true) ∧ H (nI i) = true then nI i else b) = nI j ∧ H (nI j) = true
    by_cases q : (b = -1 ∨ B (nI i) b = true) ∧ H (nI i) = true
    · rw [if_pos q]
      rcases zCp_in (H := H) (B := B) r (i + 1) (nI i) with h | ⟨j, h1, h2, h3, h4⟩
      · exact Or.inr ⟨i, Nat.le_refl _, by omega, h, q.2⟩
      · exact Or.inr ⟨j, by omega, by omega, h3, h4⟩
    · rw [if_neg q]
      rcases zCp_in (H := H) (B := B) r (i + 1) b with h | ⟨j, h1, h2, h3, h4⟩
      · exact Or.inl h
      · exact Or.inr ⟨j, by omega, by omega, h3, h4⟩
theorem zChe_in {n k : Nat} {X Y E S P : Nat → Int32} {f : Int32} : zChe n X Y f E S P k = -1 ∨ ∃ j, 1 ≤ j ∧ j < 2 ^ k ∧ zChe n X Y f E S P k = nI j ∧ zHo n X Y f (zLy (nI j) E k) (zLy (nI j) S k) (zcn (nI j) k) := by
  rcases zCp_in (H := zSpH n X Y f E S k) (B := zBet P k) (2 ^ k - 1) 1 (-1) with h | ⟨j, h1, h2, h3, h4⟩
  · exact Or.inl h
  · exact Or.inr ⟨j, h1, by omega, h3, zDc_i.mp h4⟩
theorem zneg64 {x : Int64} (h : -9223372036854775807 ≤ x.toInt) : (-x).toInt = -x.toInt := by
  rw [Int64.toInt_neg]; exact Int.bmod_eq_of_le (by have := (zR64 x).2; omega) (by omega)
/-- the witness' products -/
theorem zWit {A B C : Nat → Int64} {m u v : Nat} (h : zTB A B C m) (hu : u < v) (hv : v < m) (hz : zNz A B C u v) (hn : ¬ (zBe A B C m u v = true ∧ zAe A B C m u v = true)) (hor : (zBe A B C m u v || zAe A B C m u v) = true) :
    (∀ t, t < m → ¬ zsn (zBe A B C m u v) (zX1 A B C u v) * A t + zsn (zBe A B C m u v) (zX2 A B C u v) * B t + zsn (zBe A B C m u v) (zX3 A B C u v) * C t < 0) ∧ (∃ t, t < m ∧ 0 < zsn (zBe A B C m u v) (zX1 A B C u v) * A t + zsn (zBe A B C m u v) (zX2 A B C u v) * B t + zsn (zBe A B C m u v) (zX3 A B C u v) * C t) ∧
    ¬ (zsn (zBe A B C m u v) (zX1 A B C u v) = 0 ∧ zsn (zBe A B C m u v) (zX2 A B C u v) = 0 ∧ zsn (zBe A B C m u v) (zX3 A B C u v) = 0) := by
  have hu' : u < m := by omega
  have z0 : (0 : Int64).toInt = 0 := rfl
  obtain ⟨-, -, -, x1, x2, x3⟩ := zX_int h hu' hv
  have hp : ∀ t, t < m → (zPr A B C (zX1 A B C u v) (zX2 A B C u v) (zX3 A B C u v) t).toInt = zDz (zVl A B C u) (zVl A B C v) (zVl A B C t) := fun t ht => zPr_V h hu' hv ht
  cases hb : zBe A B C m u v
  · rw [hb] at hor
    rw [Bool.false_or] at hor
    refine ⟨fun t ht => zBl_no.mp hb t ht, ?_, ?_⟩
    · obtain ⟨t, ht, hl⟩ := (zAe_V h hu' hv).mp hor
      exact ⟨t, ht, by show 0 < zPr A B C (zX1 A B C u v) (zX2 A B C u v) (zX3 A B C u v) t; rw [zlt64, hp t ht, z0]; exact hl⟩
    · rintro ⟨a, b, c⟩
      exact hz.elim (fun q => q a) (fun q => q.elim (fun q => q b) (fun q => q c))
  · have ha : zAe A B C m u v = false := by
      cases ha : zAe A B C m u v
      · rfl
      · exact absurd ⟨hb, ha⟩ hn
    have n1 := zneg64 (x := zX1 A B C u v) (by omega)
    have n2 := zneg64 (x := zX2 A B C u v) (by omega)
    have n3 := zneg64 (x := zX3 A B C u v) (by omega)
    have r : ∀ t, t < m → (-(zX1 A B C u v) * A t + -(zX2 A B C u v) * B t + -(zX3 A B C u v) * C t).toInt = - zDz (zVl A B C u) (zVl A B C v) (zVl A B C t) := fun t ht => by
      obtain ⟨a1, a2, a3⟩ := h t ht
      have p1 := zPB x1 a1
      have p2 := zPB x2 a2
      have p3 := zPB x3 a3
      have w := hp t ht
      rw [zPr_int h hu' hv ht] at w
      have m1 := zmul64 (x := -zX1 A B C u v) (y := A t) (by rw [n1]; simp only [Int.neg_mul]; omega)
      have m2 := zmul64 (x := -zX2 A B C u v) (y := B t) (by rw [n2]; simp only [Int.neg_mul]; omega)
      have m3 := zmul64 (x := -zX3 A B C u v) (y := C t) (by rw [n3]; simp only [Int.neg_mul]; omega)
      rw [n1, Int.neg_mul] at m1
      rw [n2, Int.neg_mul] at m2
      rw [n3, Int.neg_mul] at m3
      have s1 := zadd64 (x := -zX1 A B C u v * A t) (y := -zX2 A B C u v * B t) (by rw [m1, m2]; omega)
      rw [zadd64 (by rw [s1, m1, m2, m3]; omega), s1, m1, m2, m3]
      omega
    refine ⟨fun t ht q => ?_, ?_, ?_⟩
    · have q : -(zX1 A B C u v) * A t + -(zX2 A B C u v) * B t + -(zX3 A B C u v) * C t < 0 := q
      rw [zlt64, r t ht, z0] at q
      have y := zAb_no.mp ha t ht
      rw [zlt64, hp t ht, z0] at y
      omega
    · obtain ⟨t, ht, hl⟩ := (zBe_V h hu' hv).mp hb
      refine ⟨t, ht, ?_⟩
      show 0 < -(zX1 A B C u v) * A t + -(zX2 A B C u v) * B t + -(zX3 A B C u v) * C t
      rw [zlt64, r t ht, z0]; omega
    · rintro ⟨a, b, c⟩
      have a : -(zX1 A B C u v) = 0 := a
      have b : -(zX2 A B C u v) = 0 := b
      have c : -(zX3 A B C u v) = 0 := c
      rw [zeq64, n1, z0] at a
      rw [zeq64, n2, z0] at b
      rw [zeq64, n3, z0] at c
      have k : ∀ x : Int64, x.toInt = 0 → x = 0 := fun x q => by rw [zeq64]; exact q
      exact hz.elim (fun q => q (k _ (by omega))) (fun q => q.elim (fun q => q (k _ (by omega))) (fun q => q (k _ (by omega))))
end
section
variable {zx : Nat × (Nat → Int32)}
/-- cell k of the script -/
def zCe (zx : Nat × (Nat → Int32)) (k : Nat) : Int32 := if k < zx.1 then zx.2 k else 763049417 * (nI k + 3)
/-- a number from 0 on below n -/
def zUp (x : Int32) (n : Nat) : Nat := (x.toBitVec.toNat % 2 ^ 31) % n
theorem zUp_lt {x : Int32} {n : Nat} (h : 0 < n) : zUp x n < n := Nat.mod_lt _ h
set_option maxRecDepth 8000 in
theorem cell_ok {d : Nat} {σ : zSt} {K : Option Value → zSt → Prop} {i : Int32} {k : Nat} (hL : zx.1 ≤ 260) (e : i = nI k) (hk : k < 1000) (hK : K (some (.int (zCe zx k))) σ) : zSp zx (d + 1) mL_cell [.ref zsc, .int i] σ K := by
  subst e
  refine ⟨⟨by decide, Nat.le_of_ble_eq_true rfl⟩, fun V hV => ?_⟩
  refine zq (σ := σ) hV zQI_0 rfl 4 ?_
  show (nI zx.1 ≤ nI k → V 12 [(0, .ref zsc), (1, .int (nI k))] [] σ) ∧ (¬ nI zx.1 ≤ nI k → V 6 [(0, .ref zsc), (1, .int (nI k))] [] σ)
  refine ⟨fun h => ?_, fun h => ?_⟩
  · have h2 := (nI_leI (a := zx.1) (b := k) (by omega) (by omega)).mp h
    refine zq (σ := σ) hV zQI_0 rfl 6 ?_
    show K (some (.int (763049417 * (nI k + 3)))) σ
    unfold zCe at hK
    rw [if_neg (by omega)] at hK
    exact hK
  · have h2 : k < zx.1 := Nat.not_le.mp (fun q => h ((nI_leI (a := zx.1) (b := k) (by omega) (by omega)).mpr q))
    refine zq (σ := σ) hV zQI_0 rfl 3 ?_
    show vp_in (nI k) zx.1 ∧ V 9 [(0, .ref zsc), (1, .int (nI k))] [.int (zx.2 (Int32.toNatClampNeg (nI k)))] σ
    refine ⟨vp_in_nI h2 (by omega), ?_⟩
    rw [nI_clamp (by omega)]
    refine zq (σ := σ) hV zQI_0 rfl 2 ?_
    show K (some (.int (zx.2 k))) σ
    unfold zCe at hK
    rw [if_pos h2] at hK
    exact hK
set_option maxRecDepth 8000 in
theorem up_ok {d : Nat} {σ : zSt} {K : Option Value → zSt → Prop} {x y : Int32} {n : Nat} (e : y = nI n) (h0 : 0 < n) (hn : n < 1000) (hK : K (some (.int (nI (zUp x n)))) σ) : zSp zx (d + 1) mL_up [.int x, .int y] σ K := by
  subst e
  refine ⟨⟨by decide, Nat.le_of_ble_eq_true rfl⟩, fun V hV => ?_⟩
  refine zq (σ := σ) hV zQI_0 rfl 5 ?_
  show (¬ nI n = 0) ∧ V 6 [(0, .int x), (1, .int (nI n))] [.int ((x &&& 2147483647) - (x &&& 2147483647) / nI n * nI n)] σ
  refine ⟨nI_ne0 h0 (by omega), ?_⟩
  rw [pk_and x 31 (by decide), pk_rem (Nat.mod_lt _ (by decide)) h0 (by omega)]
  refine zq (σ := σ) hV zQI_0 rfl 1 ?_
  exact hK
end
section
variable {zx : Nat × (Nat → Int32)}
theorem zAr_congr {n : Nat} {X Y X' Y' : Nat → Int32} (h : ∀ j, j < n → X j = X' j ∧ Y j = Y' j) : ∀ i, i ≤ n → zAr n X Y i = zAr n X' Y' i := by
  intro i_z
  induction i_z with
  | zero => intro _; rfl
  | succ i_z ih_z =>
    intro hi_z
    have hx := zNx_lt (show i_z < n by omega)
    unfold zAr
    rw [ih_z (by omega)]
    unfold zTu
    rw [(h i_z (by omega)).1, (h i_z (by omega)).2, (h _ hx).1, (h _ hx).2]
theorem zsh30 : ∀ k, k < 61 → ((nI k - 30).toInt16.toInt32) = nI k - 30 := by decide
theorem zKp30 {v : Int32} (h : zBt (-30) 30 v) : zKp 1 v = v := by
  unfold zBt at h
  have e30 : (30 : Int32).toInt = 30 := by decide
  have e : v = nI (v.toInt + 30).toNat - 30 := by
    rw [zeq, zsub (by rw [nI_toInt (by omega), e30]; omega), nI_toInt (by omega), e30]
    omega
  unfold zKp
  rw [if_neg (by decide), if_pos rfl, e]
  exact zsh30 _ (by omega)
theorem put3 {d : Nat} {σ : zSt} {K : Option Value → zSt → Prop} {i v : Int32} {j : Nat} (hI : zQI (kR 0 30) σ.2.2) (hj : j < 20) (h27 : σ.1 27 3 = 1) (h28 : σ.1 28 3 = nI 20) (hL : ∀ q, q < 4 → ∃ l, σ.1 28 q = nI l ∧ l ≤ 60) (hv : zBt (-30) 30 v) (e : i = nI j) (hK : K (some (.int 1)) (zuI σ 29 (180 + j) v)) : zSp zx (d + 5) mX8_put [.ref 0, .int 3, .int 1, .int i, .int v] σ K := by
  have k3 : ∀ q, (3 : Int32) = nI q → q < 4 → q = 3 := fun q h1 h2 => ((nI_eq (a := 3) (b := q) (by decide) (by omega)).mp h1).symm
  refine put_C hI hL (fun q => absurd ⟨⟨by decide, by decide⟩, ⟨by decide, by decide⟩⟩ q) (fun q _ h1 h2 h3 => ?_) (fun q _ h1 h2 _ h3 => ?_) (fun q l _ h1 h2 _ _ h3 h4 => ?_) (fun q l j' _ h1 h2 _ _ h3 _ h4 h5 => ?_)
  · rw [k3 q h1 h2, h27] at h3; exact absurd h3 (by decide)
  · rw [k3 q h1 h2] at h3; exact absurd h27 h3
  · rw [k3 q h1 h2, h28] at h3
    have hl : 20 = l ∨ ¬ l < 2 ^ 31 := by
      by_cases w : l < 2 ^ 31
      · exact Or.inl ((nI_eq (by decide) w).mp h3)
      · exact Or.inr w
    exfalso
    rcases hl with hl | hl
    · refine h4 ?_
      unfold zBt
      rw [e, nI_toInt (by omega)]; omega
    · refine h4 ?_
      unfold zBt
      rw [e, nI_toInt (by omega)]; omega
  · have e3 := k3 q h1 h2
    have ej : j' = j := by
      rw [e] at h4
      by_cases w : j' < 2 ^ 31
      · exact ((nI_eq (by omega) w).mp h4).symm
      · exfalso; omega
    rw [e3, ej, h27, zKp30 hv]
    exact hK
def zfS (a _j : Nat) : Bool := Nat.ble 27 a && Nat.ble a 30
theorem zfRn_S (a j : Nat) (h : zfS a j = false) : zfRn 3 a j = false := by
  unfold zfS at h; unfold zfRn
  have c1 : ∀ x y, Nat.ble x y = false ↔ y < x := fun x y => by rw [← Bool.not_eq_true, Nat.ble_eq]; omega
  have c2 : ∀ x y, Nat.beq x y = false ↔ x ≠ y := fun x y => by rw [← Bool.not_eq_true, Nat.beq_eq]
  rw [Bool.and_eq_false_iff] at h
  rw [Bool.or_eq_false_iff, Bool.or_eq_false_iff, Bool.and_eq_false_iff, Bool.and_eq_false_iff, Bool.and_eq_false_iff]
  simp only [c1, c2] at h ⊢
  exact ⟨⟨Or.inl (by omega), Or.inl (by omega)⟩, Or.inl (by omega)⟩
set_option maxRecDepth 8000 in
set_option maxHeartbeats 4000000 in
theorem Lshape_ok {d : Nat} {σ : zSt} {K : Option Value → zSt → Prop} (hI : zQI (kR 0 31) σ.2.2) (hL : zx.1 ≤ 260) (hLs : ∀ q, q < 4 → ∃ l, σ.1 28 q = nI l ∧ l ≤ 60) (h0 : ∀ τ, τ.2.2 = σ.2.2 → τ.1 0 9 = σ.1 0 9 → K (some (.int 0)) τ) (hOk : ∀ τ n, 4 ≤ n → n ≤ 8 → τ.2.2 = σ.2.2 → τ.1 0 9 = σ.1 0 9 → τ.1 1 2 = nI n → zHB n (τ.1 2) (τ.1 3) → τ.1 4 2 = 0 → τ.1 14 3 = 0 → K (some (.int (nI n))) τ) : zSp zx (d + 6) mL_shape [.ref 0, .ref zsc, .ref 30] σ K := by
  refine ⟨⟨by decide, Nat.le_of_ble_eq_true rfl⟩, fun V hV => ?_⟩
  refine zq (σ := σ) hV hI rfl 5 ?_
  show zSp _ _ 69 [.ref 0, .int 3, .int 1, .int 20] σ (fun r σ' => σ'.2.2.2 = σ.2.2.2 + zAl 69 → V 8 [(0, .ref 0), (1, .ref zsc), (2, .ref 30)] (r.toList ++ []) σ')
  refine sheet_C (zR_of hI rfl rfl) (fun q => absurd ⟨⟨by decide, by decide⟩, ⟨by decide, by decide⟩, by decide⟩ q) (fun _ q => absurd (by decide) q) (fun τ k _ _ e1 e2 ht e27 e28 e29 _ => ?_)
  have e3 : k = 3 := ((nI_eq (a := 3) (b := k) (by decide) (by omega)).mp e1).symm
  rw [e3] at ht e27 e28
  have hIτ := zQI_eq hI ht.2.2
  have hnτ : τ.2.2.2 = σ.2.2.2 := congrArg Prod.snd ht.2.2
  refine zq (σ := τ) hV hIτ hnτ 2 ?_
  show ((20 : Int32) = 20 → V 15 [(0, .ref 0), (1, .ref zsc), (2, .ref 30)] [] τ) ∧ (¬ (20 : Int32) = 20 → V 13 [(0, .ref 0), (1, .ref zsc), (2, .ref 30)] [] τ)
  refine ⟨fun _ => ?_, fun hc => absurd (by decide) hc⟩
  refine zq (σ := τ) hV hIτ hnτ 4 ?_
  show V 20 [(4, .int 0), (3, .int 0), (0, .ref 0), (1, .ref zsc), (2, .ref 30)] [] τ
  refine zwk hV [2, 3, 4, 1, 0] rfl ?_
  have HK : ∀ (r k c : Nat) (τ : zSt), k + r = 8 → c ≤ k → k ≤ 2 * c → zOnly zfS σ τ → τ.1 27 3 = 1 → τ.1 28 3 = nI 20 → (∀ q, q < 4 → ∃ l, τ.1 28 q = nI l ∧ l ≤ 60) → (∀ j, j < 2 * c → zBt (-30) 30 (τ.1 30 j) ∧ τ.1 29 (180 + j) = τ.1 30 j) → V 20 [(0, .ref 0), (1, .ref zsc), (2, .ref 30), (3, .int (nI c)), (4, .int (nI k))] [] τ := by
    intro r
    induction r with
    | zero =>
      intro k c τ hkr hck hkc hS h27 h28 hLq hit
      have hIτ := zQI_eq hI hS.2.2
      have hnτ : τ.2.2.2 = σ.2.2.2 := congrArg Prod.snd hS.2.2
      refine zq (σ := τ) hV hIτ hnτ 3 ?_
      show (8 ≤ (nI k) → V 218 [(0, .ref 0), (1, .ref zsc), (2, .ref 30), (3, .int (nI c)), (4, .int (nI k))] [] τ) ∧ (¬ 8 ≤ (nI k) → V 27 [(0, .ref 0), (1, .ref zsc), (2, .ref 30), (3, .int (nI c)), (4, .int (nI k))] [] τ)
      refine ⟨fun _ => ?_, fun hc => absurd (show (8 : Int32) ≤ nI k by rw [show k = 8 by omega]; decide) hc⟩
      have hc4 : 4 ≤ c ∧ c ≤ 8 := by omega
      refine zq (σ := τ) hV hIτ hnτ 4 ?_
      show V 224 [(5, .int 0), (4, .int 0), (0, .ref 0), (1, .ref zsc), (2, .ref 30), (3, .int (nI c))] [] τ
      refine zwk hV [2, 3, 4, 5, 1, 0] rfl ?_
      have HA : ∀ (r i : Nat), i + r = c → V 224 [(0, .ref 0), (1, .ref zsc), (2, .ref 30), (3, .int (nI c)), (4, .int (zAr c (fun j => τ.1 30 (2 * j)) (fun j => τ.1 30 (2 * j + 1)) i)), (5, .int (nI i))] [] τ := by
        intro r
        induction r with
        | zero =>
          intro i hir
          refine zq (σ := τ) hV hIτ hnτ 3 ?_
          show ((nI c) ≤ (nI i) → V 280 [(0, .ref 0), (1, .ref zsc), (2, .ref 30), (3, .int (nI c)), (4, .int (zAr c (fun j => τ.1 30 (2 * j)) (fun j => τ.1 30 (2 * j + 1)) i)), (5, .int (nI i))] [] τ) ∧ (¬ (nI c) ≤ (nI i) → V 230 [(0, .ref 0), (1, .ref zsc), (2, .ref 30), (3, .int (nI c)), (4, .int (zAr c (fun j => τ.1 30 (2 * j)) (fun j => τ.1 30 (2 * j + 1)) i)), (5, .int (nI i))] [] τ)
          refine ⟨fun _ => ?_, fun hc => absurd (nI_le (a := c) (b := i) (by omega) (by omega)) hc⟩
          refine zwk hV [0, 1, 2, 3, 4] rfl ?_
          rw [show i = c by omega]
          have k3 : ∀ q, (3 : Int32) = nI q → q < 4 → q = 3 := fun q h1 h2 => ((nI_eq (a := 3) (b := q) (by decide) (by omega)).mp h1).symm
          have kn : ∀ n, nI c = nI n → n ≤ 10 → n = c := fun n h1 h2 => ((nI_eq (a := c) (b := n) (by omega) (by omega)).mp h1).symm
          have e29 : ∀ j, j < 2 * c → τ.1 29 (3 * 60 + j) = τ.1 30 j := fun j hj => (hit j hj).2
          have ear : zAr c (fun j => τ.1 29 (3 * 60 + 2 * j)) (fun j => τ.1 29 (3 * 60 + (2 * j + 1))) c = zAr c (fun j => τ.1 30 (2 * j)) (fun j => τ.1 30 (2 * j + 1)) c := zAr_congr (fun j hj => ⟨e29 _ (by omega), e29 _ (by omega)⟩) c (Nat.le_refl _)
          refine zq (σ := τ) hV hIτ hnτ 4 ?_
          show zSp _ _ 54 [.ref 0, .int 3, .int (nI c)] τ (fun r σ' => σ'.2.2.2 = τ.2.2.2 + zAl 54 → V 286 [(0, .ref 0), (1, .ref zsc), (2, .ref 30), (3, .int (nI c)), (4, .int (zAr c (fun j => τ.1 30 (2 * j)) (fun j => τ.1 30 (2 * j + 1)) c))] (r.toList ++ []) σ')
          refine shape_C (zR_of hIτ rfl rfl) hLq (fun q => absurd ⟨⟨by decide, by decide⟩, ⟨by rw [nI_toInt (by omega)]; omega, by rw [nI_toInt (by omega)]; omega⟩⟩ q) (fun q n h1 h2 _ _ h3 => absurd h3 (by rw [k3 q h1 h2, h27]; decide)) (fun q n l h1 h2 h3 h4 _ h5 h6 => ?_) (fun q n l h1 h2 h3 h4 _ _ _ h5 _ => ?_) (fun υ q n l h1 h2 h3 h4 _ _ _ h5 hu u2 u23 ua _ _ uh us _ => ?_)
          · exfalso
            rw [k3 q h1 h2, h28] at h5
            have hn := kn n h3 h4.2
            have hl : 20 = l := (nI_eq (by decide) (by omega)).mp h5
            omega
          · rw [k3 q h1 h2, kn n h3 h4.2] at h5
            have hle : (zAr c (fun j => τ.1 30 (2 * j)) (fun j => τ.1 30 (2 * j + 1)) c) ≤ 0 := Int32.not_lt.mp (fun y => h5 ⟨fun j hj => by show zBt (-30) 30 (τ.1 29 (3 * 60 + j)); rw [e29 j hj]; exact (hit j hj).1, by show 0 < zAr c (fun j => τ.1 29 (3 * 60 + 2 * j)) (fun j => τ.1 29 (3 * 60 + (2 * j + 1))) c; rw [ear]; exact y⟩)
            refine zq (σ := τ) hV hIτ hnτ 4 ?_
            show ((zAr c (fun j => τ.1 30 (2 * j)) (fun j => τ.1 30 (2 * j + 1)) c) ≤ 0 → V 300 [(5, .int (-3)), (0, .ref 0), (1, .ref zsc), (2, .ref 30), (3, .int (nI c)), (4, .int (zAr c (fun j => τ.1 30 (2 * j)) (fun j => τ.1 30 (2 * j + 1)) c))] [.int (-3)] τ) ∧ (¬ (zAr c (fun j => τ.1 30 (2 * j)) (fun j => τ.1 30 (2 * j + 1)) c) ≤ 0 → V 295 [(5, .int (-3)), (0, .ref 0), (1, .ref zsc), (2, .ref 30), (3, .int (nI c)), (4, .int (zAr c (fun j => τ.1 30 (2 * j)) (fun j => τ.1 30 (2 * j + 1)) c))] [.int (-3)] τ)
            refine ⟨fun _ => ?_, fun hc => absurd hle hc⟩
            refine zq (σ := τ) hV hIτ hnτ 2 ?_
            show (¬ ((-3) : Int32) = (-3) → V 318 [(5, .int (-3)), (0, .ref 0), (1, .ref zsc), (2, .ref 30), (3, .int (nI c)), (4, .int (zAr c (fun j => τ.1 30 (2 * j)) (fun j => τ.1 30 (2 * j + 1)) c))] [] τ) ∧ (¬ (¬ ((-3) : Int32) = (-3)) → V 305 [(5, .int (-3)), (0, .ref 0), (1, .ref zsc), (2, .ref 30), (3, .int (nI c)), (4, .int (zAr c (fun j => τ.1 30 (2 * j)) (fun j => τ.1 30 (2 * j + 1)) c))] [] τ)
            refine ⟨fun hc => absurd hc (by decide), fun _ => ?_⟩
            refine zq (σ := τ) hV hIτ hnτ 2 ?_
            show (0 ≤ ((-3) : Int32) → V 314 [(5, .int (-3)), (0, .ref 0), (1, .ref zsc), (2, .ref 30), (3, .int (nI c)), (4, .int (zAr c (fun j => τ.1 30 (2 * j)) (fun j => τ.1 30 (2 * j + 1)) c))] [] τ) ∧ (¬ 0 ≤ ((-3) : Int32) → V 310 [(5, .int (-3)), (0, .ref 0), (1, .ref zsc), (2, .ref 30), (3, .int (nI c)), (4, .int (zAr c (fun j => τ.1 30 (2 * j)) (fun j => τ.1 30 (2 * j + 1)) c))] [] τ)
            refine ⟨fun hc => absurd hc (by decide), fun _ => ?_⟩
            refine zq (σ := τ) hV hIτ hnτ 3 ?_
            show K (some (.int 0)) τ
            exact h0 τ hS.2.2 (hS.1 0 9 rfl)
          · have hnc := kn n h3 h4.2
            rw [k3 q h1 h2, hnc] at h5
            rw [hnc] at u2 u23 ua
            rw [k3 q h1 h2] at u23
            have hpos : 0 < (zAr c (fun j => τ.1 30 (2 * j)) (fun j => τ.1 30 (2 * j + 1)) c) := by have y : 0 < zAr c (fun j => τ.1 29 (3 * 60 + 2 * j)) (fun j => τ.1 29 (3 * 60 + (2 * j + 1))) c := h5.2; rw [ear] at y; exact y
            have uv : ∀ j, j < c → υ.1 2 j = τ.1 30 (2 * j) ∧ υ.1 3 j = τ.1 30 (2 * j + 1) := fun j hj => ⟨(u23 j hj).1.trans (e29 _ (by omega)), (u23 j hj).2.trans (e29 _ (by omega))⟩
            have eaa : υ.1 1 3 = (zAr c (fun j => τ.1 30 (2 * j)) (fun j => τ.1 30 (2 * j + 1)) c) := ua.trans (zAr_congr uv c (Nat.le_refl _))
            have hI9 := zQI_eq hIτ hu.2.2
            have hn9 : υ.2.2.2 = σ.2.2.2 := (congrArg Prod.snd hu.2.2).trans hnτ
            rw [eaa]
            refine zq (σ := υ) hV hI9 hn9 4 ?_
            show ((zAr c (fun j => τ.1 30 (2 * j)) (fun j => τ.1 30 (2 * j + 1)) c) ≤ 0 → V 300 [(5, .int (zAr c (fun j => τ.1 30 (2 * j)) (fun j => τ.1 30 (2 * j + 1)) c)), (0, .ref 0), (1, .ref zsc), (2, .ref 30), (3, .int (nI c)), (4, .int (zAr c (fun j => τ.1 30 (2 * j)) (fun j => τ.1 30 (2 * j + 1)) c))] [.int (zAr c (fun j => τ.1 30 (2 * j)) (fun j => τ.1 30 (2 * j + 1)) c)] υ) ∧ (¬ (zAr c (fun j => τ.1 30 (2 * j)) (fun j => τ.1 30 (2 * j + 1)) c) ≤ 0 → V 295 [(5, .int (zAr c (fun j => τ.1 30 (2 * j)) (fun j => τ.1 30 (2 * j + 1)) c)), (0, .ref 0), (1, .ref zsc), (2, .ref 30), (3, .int (nI c)), (4, .int (zAr c (fun j => τ.1 30 (2 * j)) (fun j => τ.1 30 (2 * j + 1)) c))] [.int (zAr c (fun j => τ.1 30 (2 * j)) (fun j => τ.1 30 (2 * j + 1)) c)] υ)
            refine ⟨fun hc => absurd hc (Int32.not_le.mpr hpos), fun _ => ?_⟩
            refine zq (σ := υ) hV hI9 hn9 3 ?_
            show (¬ (zAr c (fun j => τ.1 30 (2 * j)) (fun j => τ.1 30 (2 * j + 1)) c) = (zAr c (fun j => τ.1 30 (2 * j)) (fun j => τ.1 30 (2 * j + 1)) c) → V 318 [(5, .int (zAr c (fun j => τ.1 30 (2 * j)) (fun j => τ.1 30 (2 * j + 1)) c)), (0, .ref 0), (1, .ref zsc), (2, .ref 30), (3, .int (nI c)), (4, .int (zAr c (fun j => τ.1 30 (2 * j)) (fun j => τ.1 30 (2 * j + 1)) c))] [] υ) ∧ (¬ (¬ (zAr c (fun j => τ.1 30 (2 * j)) (fun j => τ.1 30 (2 * j + 1)) c) = (zAr c (fun j => τ.1 30 (2 * j)) (fun j => τ.1 30 (2 * j + 1)) c)) → V 305 [(5, .int (zAr c (fun j => τ.1 30 (2 * j)) (fun j => τ.1 30 (2 * j + 1)) c)), (0, .ref 0), (1, .ref zsc), (2, .ref 30), (3, .int (nI c)), (4, .int (zAr c (fun j => τ.1 30 (2 * j)) (fun j => τ.1 30 (2 * j + 1)) c))] [] υ)
            refine ⟨fun hc => absurd hc (fun q => q rfl), fun _ => ?_⟩
            refine zq (σ := υ) hV hI9 hn9 2 ?_
            show (0 ≤ (zAr c (fun j => τ.1 30 (2 * j)) (fun j => τ.1 30 (2 * j + 1)) c) → V 314 [(5, .int (zAr c (fun j => τ.1 30 (2 * j)) (fun j => τ.1 30 (2 * j + 1)) c)), (0, .ref 0), (1, .ref zsc), (2, .ref 30), (3, .int (nI c)), (4, .int (zAr c (fun j => τ.1 30 (2 * j)) (fun j => τ.1 30 (2 * j + 1)) c))] [] υ) ∧ (¬ 0 ≤ (zAr c (fun j => τ.1 30 (2 * j)) (fun j => τ.1 30 (2 * j + 1)) c) → V 310 [(5, .int (zAr c (fun j => τ.1 30 (2 * j)) (fun j => τ.1 30 (2 * j + 1)) c)), (0, .ref 0), (1, .ref zsc), (2, .ref 30), (3, .int (nI c)), (4, .int (zAr c (fun j => τ.1 30 (2 * j)) (fun j => τ.1 30 (2 * j + 1)) c))] [] υ)
            refine ⟨fun _ => ?_, fun hc => absurd (by rw [zle]; rw [zlt] at hpos; have := zT_lits.1; omega) hc⟩
            refine zq (σ := υ) hV hI9 hn9 3 ?_
            show K (some (.int (nI c))) υ
            refine hOk υ c hc4.1 hc4.2 (hu.2.2.trans hS.2.2) ((hu.1 0 9 rfl).trans (hS.1 0 9 rfl)) u2 (fun j hj => ?_) uh us
            rw [(uv j hj).1, (uv j hj).2]; exact ⟨(hit _ (by omega)).1, (hit _ (by omega)).1⟩
        | succ r ihA =>
          intro i hir
          refine zq (σ := τ) hV hIτ hnτ 3 ?_
          show ((nI c) ≤ (nI i) → V 280 [(0, .ref 0), (1, .ref zsc), (2, .ref 30), (3, .int (nI c)), (4, .int (zAr c (fun j => τ.1 30 (2 * j)) (fun j => τ.1 30 (2 * j + 1)) i)), (5, .int (nI i))] [] τ) ∧ (¬ (nI c) ≤ (nI i) → V 230 [(0, .ref 0), (1, .ref zsc), (2, .ref 30), (3, .int (nI c)), (4, .int (zAr c (fun j => τ.1 30 (2 * j)) (fun j => τ.1 30 (2 * j + 1)) i)), (5, .int (nI i))] [] τ)
          refine ⟨fun hc => absurd hc (nI_ge (a := i) (b := c) (by omega) (by omega)), fun _ => ?_⟩
          refine zq (σ := τ) hV hIτ hnτ 5 ?_
          show (¬ ((nI c) : Int32) = 0) ∧ V 236 [(0, .ref 0), (1, .ref zsc), (2, .ref 30), (3, .int (nI c)), (4, .int (zAr c (fun j => τ.1 30 (2 * j)) (fun j => τ.1 30 (2 * j + 1)) i)), (5, .int (nI i))] [.int (((nI i) + 1) - ((nI i) + 1) / (nI c) * (nI c))] τ
          refine ⟨nI_ne0 (by omega) (by omega), ?_⟩
          refine zq (σ := τ) hV hIτ hnτ 1 ?_
          show V 238 [(6, .int (((nI i) + 1) - ((nI i) + 1) / (nI c) * (nI c))), (0, .ref 0), (1, .ref zsc), (2, .ref 30), (3, .int (nI c)), (4, .int (zAr c (fun j => τ.1 30 (2 * j)) (fun j => τ.1 30 (2 * j + 1)) i)), (5, .int (nI i))] [] τ
          rw [nI_1 i, pk_rem (by omega) (by omega) (by omega)]
          have hj : (i + 1) % c < c := Nat.mod_lt _ (by omega)
          generalize hje : (i + 1) % c = j at hj ⊢
          refine zq (σ := τ) hV hIτ hnτ 6 ?_
          show vp_in (2 * (nI i)) 20 ∧ V 246 [(6, .int (nI j)), (0, .ref 0), (1, .ref zsc), (2, .ref 30), (3, .int (nI c)), (4, .int (zAr c (fun j => τ.1 30 (2 * j)) (fun j => τ.1 30 (2 * j + 1)) i)), (5, .int (nI i))] [.int (τ.1 30 (Int32.toNatClampNeg (2 * (nI i)))), .int (zAr c (fun j => τ.1 30 (2 * j)) (fun j => τ.1 30 (2 * j + 1)) i)] τ
          refine ⟨zix (k := (2 * i)) (zn_m (a := 2) (b := i) rfl rfl) (by omega) (by decide), ?_⟩
          rw [zcl_k (i := (2 * (nI i))) (k := (2 * i)) (zn_m (a := 2) (b := i) rfl rfl) (by omega)]
          refine zq (σ := τ) hV hIτ hnτ 7 ?_
          show vp_in ((2 * (nI j)) + 1) 20 ∧ V 254 [(6, .int (nI j)), (0, .ref 0), (1, .ref zsc), (2, .ref 30), (3, .int (nI c)), (4, .int (zAr c (fun j => τ.1 30 (2 * j)) (fun j => τ.1 30 (2 * j + 1)) i)), (5, .int (nI i))] [.int (τ.1 30 (Int32.toNatClampNeg ((2 * (nI j)) + 1))), .int (τ.1 30 (2 * i)), .int (zAr c (fun j => τ.1 30 (2 * j)) (fun j => τ.1 30 (2 * j + 1)) i)] τ
          refine ⟨zix (k := ((2 * j) + 1)) (zn_a (a := (2 * j)) (b := 1) (zn_m (a := 2) (b := j) rfl rfl) rfl) (by omega) (by decide), ?_⟩
          rw [zcl_k (i := ((2 * (nI j)) + 1)) (k := ((2 * j) + 1)) (zn_a (a := (2 * j)) (b := 1) (zn_m (a := 2) (b := j) rfl rfl) rfl) (by omega)]
          refine zq (σ := τ) hV hIτ hnτ 6 ?_
          show vp_in (2 * (nI j)) 20 ∧ V 261 [(6, .int (nI j)), (0, .ref 0), (1, .ref zsc), (2, .ref 30), (3, .int (nI c)), (4, .int (zAr c (fun j => τ.1 30 (2 * j)) (fun j => τ.1 30 (2 * j + 1)) i)), (5, .int (nI i))] [.int (τ.1 30 (Int32.toNatClampNeg (2 * (nI j)))), .int ((τ.1 30 (2 * i)) * (τ.1 30 ((2 * j) + 1))), .int (zAr c (fun j => τ.1 30 (2 * j)) (fun j => τ.1 30 (2 * j + 1)) i)] τ
          refine ⟨zix (k := (2 * j)) (zn_m (a := 2) (b := j) rfl rfl) (by omega) (by decide), ?_⟩
          rw [zcl_k (i := (2 * (nI j))) (k := (2 * j)) (zn_m (a := 2) (b := j) rfl rfl) (by omega)]
          refine zq (σ := τ) hV hIτ hnτ 7 ?_
          show vp_in ((2 * (nI i)) + 1) 20 ∧ V 269 [(6, .int (nI j)), (0, .ref 0), (1, .ref zsc), (2, .ref 30), (3, .int (nI c)), (4, .int (zAr c (fun j => τ.1 30 (2 * j)) (fun j => τ.1 30 (2 * j + 1)) i)), (5, .int (nI i))] [.int (τ.1 30 (Int32.toNatClampNeg ((2 * (nI i)) + 1))), .int (τ.1 30 (2 * j)), .int ((τ.1 30 (2 * i)) * (τ.1 30 ((2 * j) + 1))), .int (zAr c (fun j => τ.1 30 (2 * j)) (fun j => τ.1 30 (2 * j + 1)) i)] τ
          refine ⟨zix (k := ((2 * i) + 1)) (zn_a (a := (2 * i)) (b := 1) (zn_m (a := 2) (b := i) rfl rfl) rfl) (by omega) (by decide), ?_⟩
          rw [zcl_k (i := ((2 * (nI i)) + 1)) (k := ((2 * i) + 1)) (zn_a (a := (2 * i)) (b := 1) (zn_m (a := 2) (b := i) rfl rfl) rfl) (by omega)]
          refine zq (σ := τ) hV hIτ hnτ 6 ?_
          show V 224 [(5, .int ((nI i) + 1)), (4, .int ((zAr c (fun j => τ.1 30 (2 * j)) (fun j => τ.1 30 (2 * j + 1)) i) + (((τ.1 30 (2 * i)) * (τ.1 30 ((2 * j) + 1))) - ((τ.1 30 (2 * j)) * (τ.1 30 ((2 * i) + 1)))))), (6, .int (nI j)), (0, .ref 0), (1, .ref zsc), (2, .ref 30), (3, .int (nI c))] [] τ
          refine zwk hV [3, 4, 5, 6, 1, 0] rfl ?_
          rw [nI_1 i]
          have hw := ihA (i + 1) (by omega)
          have ez : zNx c i = j := by
            unfold zNx
            by_cases q : i + 1 < c
            · rw [if_pos q, ← hje, Nat.mod_eq_of_lt q]
            · rw [if_neg q, ← hje, show i + 1 = c by omega, Nat.mod_self]
          have eu : zAr c (fun j => τ.1 30 (2 * j)) (fun j => τ.1 30 (2 * j + 1)) (i + 1) = ((zAr c (fun j => τ.1 30 (2 * j)) (fun j => τ.1 30 (2 * j + 1)) i) + (((τ.1 30 (2 * i)) * (τ.1 30 ((2 * j) + 1))) - ((τ.1 30 (2 * j)) * (τ.1 30 ((2 * i) + 1))))) := by
            show zAr c (fun j => τ.1 30 (2 * j)) (fun j => τ.1 30 (2 * j + 1)) i + zTu c (fun j => τ.1 30 (2 * j)) (fun j => τ.1 30 (2 * j + 1)) i = _
            unfold zTu
            rw [ez, Int32.mul_comm (τ.1 30 (2 * j))]
          rw [eu] at hw
          exact hw
      exact HA c 0 (by omega)
    | succ r ihK =>
      intro k c τ hkr hck hkc hS h27 h28 hLq hit
      have hIτ := zQI_eq hI hS.2.2
      have hnτ : τ.2.2.2 = σ.2.2.2 := congrArg Prod.snd hS.2.2
      refine zq (σ := τ) hV hIτ hnτ 3 ?_
      show (8 ≤ (nI k) → V 218 [(0, .ref 0), (1, .ref zsc), (2, .ref 30), (3, .int (nI c)), (4, .int (nI k))] [] τ) ∧ (¬ 8 ≤ (nI k) → V 27 [(0, .ref 0), (1, .ref zsc), (2, .ref 30), (3, .int (nI c)), (4, .int (nI k))] [] τ)
      refine ⟨fun hc => absurd hc (show ¬ (8 : Int32) ≤ nI k from nI_ge (a := k) (b := 8) (by omega) (by decide)), fun _ => ?_⟩
      refine zq (σ := τ) hV hIτ hnτ 3 ?_
      show zSp _ _ 82 [.ref zsc, .int (nI k)] τ (fun r σ' => σ'.2.2.2 = τ.2.2.2 + zAl 82 → V 33 [(0, .ref 0), (1, .ref zsc), (2, .ref 30), (3, .int (nI c)), (4, .int (nI k))] (r.toList ++ []) σ')
      refine cell_ok hL (k := k) rfl (by omega) (fun _ => ?_)
      generalize zCe zx k = x
      refine zq (σ := τ) hV hIτ hnτ 7 ?_
      show zSp _ _ 83 [.int (x >>> (2 &&& 31)), .int 10] τ (fun r σ' => σ'.2.2.2 = τ.2.2.2 + zAl 83 → V 45 [(5, .int x), (0, .ref 0), (1, .ref zsc), (2, .ref 30), (3, .int (nI c)), (4, .int (nI k))] (r.toList ++ [.int 2]) σ')
      refine up_ok (n := 10) rfl (by decide) (by decide) (fun _ => ?_)
      refine zq (σ := τ) hV hIτ hnτ 2 ?_
      show V 48 [(6, .int ((2 : Int32) + (nI (zUp (x >>> (2 &&& 31)) 10)))), (5, .int x), (0, .ref 0), (1, .ref zsc), (2, .ref 30), (3, .int (nI c)), (4, .int (nI k))] [] τ
      obtain ⟨f, hf, ef⟩ : ∃ f, f ≤ 11 ∧ (2 : Int32) + nI (zUp (x >>> (2 &&& 31)) 10) = nI f := ⟨2 + zUp (x >>> (2 &&& 31)) 10, by have := zUp_lt (x := x >>> (2 &&& 31)) (n := 10) (by decide); omega, nI_add 2 _⟩
      rw [ef]
      refine zwk hV [2, 3, 4, 5, 6, 1, 0] rfl ?_
      have H137 : ∀ a b : Int32, zBt (-1) 1 a → zBt (-1) 1 b → V 137 [(0, .ref 0), (1, .ref zsc), (2, .ref 30), (3, .int (nI c)), (4, .int (nI k)), (5, .int x), (6, .int (nI f)), (7, .int a), (8, .int b)] [] τ := by
        intro a b ha hb
        refine zq (σ := τ) hV hIτ hnτ 14 ?_
        show vp_in (2 * (nI c)) 20 ∧ V 155 [(0, .ref 0), (1, .ref zsc), (2, .ref 30), (3, .int (nI c)), (4, .int (nI k)), (5, .int x), (6, .int (nI f)), (7, .int a), (8, .int b)] [] (zuI τ 30 (Int32.toNatClampNeg (2 * (nI c))) ((a * (nI f)) + ((x >>> (8 &&& 31)) &&& 1)))
        refine ⟨zix (k := (2 * c)) (zn_m (a := 2) (b := c) rfl rfl) (by omega) (by decide), ?_⟩
        rw [zcl_k (i := (2 * (nI c))) (k := (2 * c)) (zn_m (a := 2) (b := c) rfl rfl) (by omega)]
        refine zq (σ := (zuI τ 30 (2 * c) ((a * (nI f)) + ((x >>> (8 &&& 31)) &&& 1)))) hV hIτ hnτ 10 ?_
        show vp_in ((2 * (nI c)) + 1) 20 ∧ V 167 [(0, .ref 0), (1, .ref zsc), (2, .ref 30), (3, .int (nI c)), (4, .int (nI k)), (5, .int x), (6, .int (nI f)), (7, .int a), (8, .int b)] [] (zuI (zuI τ 30 (2 * c) ((a * (nI f)) + ((x >>> (8 &&& 31)) &&& 1))) 30 (Int32.toNatClampNeg ((2 * (nI c)) + 1)) (b * (nI f)))
        refine ⟨zix (k := ((2 * c) + 1)) (zn_a (a := (2 * c)) (b := 1) (zn_m (a := 2) (b := c) rfl rfl) rfl) (by omega) (by decide), ?_⟩
        rw [zcl_k (i := ((2 * (nI c)) + 1)) (k := ((2 * c) + 1)) (zn_a (a := (2 * c)) (b := 1) (zn_m (a := 2) (b := c) rfl rfl) rfl) (by omega)]
        refine zwk hV [0, 1, 2, 3, 4] rfl ?_
        have H167 : ∀ υ : zSt, zOnly zfS σ υ → υ.1 27 3 = 1 → υ.1 28 3 = nI 20 → (∀ q, q < 4 → ∃ l, υ.1 28 q = nI l ∧ l ≤ 60) → (∀ j, j < 2 * (c + 1) → zBt (-30) 30 (υ.1 30 j)) → (∀ j, j < 2 * c → υ.1 29 (180 + j) = υ.1 30 j) → V 167 [(0, .ref 0), (1, .ref zsc), (2, .ref 30), (3, .int (nI c)), (4, .int (nI k))] [] υ := by
          intro υ gS g27 g28 gL hbd hold
          have hIυ := zQI_eq hI gS.2.2
          have hnυ : υ.2.2.2 = σ.2.2.2 := congrArg Prod.snd gS.2.2
          refine zq (σ := υ) hV hIυ hnυ 11 ?_
          show vp_in (2 * (nI c)) 20 ∧ V 178 [(0, .ref 0), (1, .ref zsc), (2, .ref 30), (3, .int (nI c)), (4, .int (nI k))] [.int (υ.1 30 (Int32.toNatClampNeg (2 * (nI c)))), .int (2 * (nI c)), .int 1, .int 3, .ref 0] υ
          refine ⟨zix (k := (2 * c)) (zn_m (a := 2) (b := c) rfl rfl) (by omega) (by decide), ?_⟩
          rw [zcl_k (i := (2 * (nI c))) (k := (2 * c)) (zn_m (a := 2) (b := c) rfl rfl) (by omega)]
          refine zq (σ := υ) hV hIυ hnυ 1 ?_
          show zSp _ _ 70 [.ref 0, .int 3, .int 1, .int (2 * (nI c)), .int (υ.1 30 (2 * c))] υ (fun r σ' => σ'.2.2.2 = υ.2.2.2 + zAl 70 → V 181 [(0, .ref 0), (1, .ref zsc), (2, .ref 30), (3, .int (nI c)), (4, .int (nI k))] (r.toList ++ []) σ')
          refine put3 (zR_of hIυ rfl rfl) (j := (2 * c)) (by omega) g27 g28 gL (hbd _ (by omega)) (zn_m (a := 2) (b := c) rfl rfl) (fun _ => ?_)
          refine zq (σ := (zuI υ 29 (180 + (2 * c)) (υ.1 30 (2 * c)))) hV hIυ hnυ 2 ?_
          show (¬ (1 : Int32) = 1 → V 207 [(0, .ref 0), (1, .ref zsc), (2, .ref 30), (3, .int (nI c)), (4, .int (nI k))] [] (zuI υ 29 (180 + (2 * c)) (υ.1 30 (2 * c)))) ∧ (¬ (¬ (1 : Int32) = 1) → V 185 [(0, .ref 0), (1, .ref zsc), (2, .ref 30), (3, .int (nI c)), (4, .int (nI k))] [] (zuI υ 29 (180 + (2 * c)) (υ.1 30 (2 * c))))
          refine ⟨fun hc => absurd hc (by decide), fun _ => ?_⟩
          refine zq (σ := (zuI υ 29 (180 + (2 * c)) (υ.1 30 (2 * c)))) hV hIυ hnυ 15 ?_
          show vp_in ((2 * (nI c)) + 1) 20 ∧ V 200 [(0, .ref 0), (1, .ref zsc), (2, .ref 30), (3, .int (nI c)), (4, .int (nI k))] [.int (υ.1 30 (Int32.toNatClampNeg ((2 * (nI c)) + 1))), .int ((2 * (nI c)) + 1), .int 1, .int 3, .ref 0] (zuI υ 29 (180 + (2 * c)) (υ.1 30 (2 * c)))
          refine ⟨zix (k := ((2 * c) + 1)) (zn_a (a := (2 * c)) (b := 1) (zn_m (a := 2) (b := c) rfl rfl) rfl) (by omega) (by decide), ?_⟩
          rw [zcl_k (i := ((2 * (nI c)) + 1)) (k := ((2 * c) + 1)) (zn_a (a := (2 * c)) (b := 1) (zn_m (a := 2) (b := c) rfl rfl) rfl) (by omega)]
          refine zq (σ := (zuI υ 29 (180 + (2 * c)) (υ.1 30 (2 * c)))) hV hIυ hnυ 1 ?_
          show zSp _ _ 70 [.ref 0, .int 3, .int 1, .int ((2 * (nI c)) + 1), .int (υ.1 30 ((2 * c) + 1))] (zuI υ 29 (180 + (2 * c)) (υ.1 30 (2 * c))) (fun r σ' => σ'.2.2.2 = (zuI υ 29 (180 + (2 * c)) (υ.1 30 (2 * c))).2.2.2 + zAl 70 → V 203 [(0, .ref 0), (1, .ref zsc), (2, .ref 30), (3, .int (nI c)), (4, .int (nI k))] (r.toList ++ []) σ')
          refine put3 (zR_of hIυ rfl rfl) (j := ((2 * c) + 1)) (by omega) g27 g28 gL (hbd _ (by omega)) (zn_a (a := (2 * c)) (b := 1) (zn_m (a := 2) (b := c) rfl rfl) rfl) (fun _ => ?_)
          refine zq (σ := (zuI (zuI υ 29 (180 + (2 * c)) (υ.1 30 (2 * c))) 29 (180 + ((2 * c) + 1)) (υ.1 30 ((2 * c) + 1)))) hV hIυ hnυ 2 ?_
          show ((1 : Int32) = 1 → V 209 [(0, .ref 0), (1, .ref zsc), (2, .ref 30), (3, .int (nI c)), (4, .int (nI k))] [] (zuI (zuI υ 29 (180 + (2 * c)) (υ.1 30 (2 * c))) 29 (180 + ((2 * c) + 1)) (υ.1 30 ((2 * c) + 1)))) ∧ (¬ (1 : Int32) = 1 → V 207 [(0, .ref 0), (1, .ref zsc), (2, .ref 30), (3, .int (nI c)), (4, .int (nI k))] [] (zuI (zuI υ 29 (180 + (2 * c)) (υ.1 30 (2 * c))) 29 (180 + ((2 * c) + 1)) (υ.1 30 ((2 * c) + 1))))
          refine ⟨fun _ => ?_, fun hc => absurd (by decide) hc⟩
          refine zq (σ := (zuI (zuI υ 29 (180 + (2 * c)) (υ.1 30 (2 * c))) 29 (180 + ((2 * c) + 1)) (υ.1 30 ((2 * c) + 1)))) hV hIυ hnυ 3 ?_
          show V 20 [(4, .int ((nI k) + 1)), (3, .int ((nI c) + 1)), (0, .ref 0), (1, .ref zsc), (2, .ref 30)] [] (zuI (zuI υ 29 (180 + (2 * c)) (υ.1 30 (2 * c))) 29 (180 + ((2 * c) + 1)) (υ.1 30 ((2 * c) + 1)))
          refine zwk hV [2, 3, 4, 1, 0] rfl ?_
          rw [nI_1 c, nI_1 k]
          refine ihK (k + 1) (c + 1) _ (by omega) (by omega) (by omega) ((gS.uI (a := 29) rfl).uI (a := 29) rfl) g27 g28 gL (fun j hj => ⟨hbd j hj, ?_⟩)
          show (zuI (zuI υ 29 (180 + (2 * c)) (υ.1 30 (2 * c))) 29 (180 + ((2 * c) + 1)) (υ.1 30 ((2 * c) + 1))).1 29 (180 + j) = υ.1 30 j
          rw [zuI_get, zuI_get]
          by_cases e1 : j = 2 * c + 1
          · rw [if_pos ⟨rfl, by omega⟩, e1]
          · rw [if_neg (fun q => e1 (by omega))]
            by_cases e0 : j = 2 * c
            · rw [if_pos ⟨rfl, by omega⟩, e0]
            · rw [if_neg (fun q => e0 (by omega))]; exact hold j (by omega)
        have hfb : zBt (-11) 11 (nI f) := by unfold zBt; rw [nI_toInt (by omega)]; omega
        have hA : zBt (-30) 30 ((a * (nI f)) + ((x >>> (8 &&& 31)) &&& 1)) := by
          obtain ⟨j, h1, h2⟩ := pk_andE (x >>> (8 &&& 31)) (m := 1) 1 (by decide)
          have hj : zBt (-1) 1 (nI j) := by unfold zBt; rw [nI_toInt (by omega)]; omega
          rw [h2]
          exact zBtm (zaddB (A := 11) (B := 1) (zmulB2 (A := 1) (B := 11) ha hfb (by decide)) hj (by decide)).2 (by decide) (by decide)
        have hB : zBt (-30) 30 (b * (nI f)) := zBtm (zmulB2 (A := 1) (B := 11) hb hfb (by decide)) (by decide) (by decide)
        refine H167 _ ((hS.uI (a := 30) rfl).uI (a := 30) rfl) h27 h28 hLq (fun j hj => ?_) (fun j hj => ?_)
        · rw [zuI_get, zuI_get]
          by_cases e1 : j = 2 * c + 1
          · rw [if_pos ⟨rfl, e1⟩]; exact hB
          · rw [if_neg (fun q => e1 q.2)]
            by_cases e0 : j = 2 * c
            · rw [if_pos ⟨rfl, e0⟩]; exact hA
            · rw [if_neg (fun q => e0 q.2)]; exact (hit j (by omega)).1
        · rw [zuI_get _ 30 _ _ 30, zuI_get _ 30 _ _ 30, if_neg (fun q => by omega), if_neg (fun q => by omega), ← (hit j hj).2]
          rfl
      have Hy : ∀ a b : Int32, zBt (-1) 1 a → zBt (-1) 1 b → V 121 [(0, .ref 0), (1, .ref zsc), (2, .ref 30), (3, .int (nI c)), (4, .int (nI k)), (5, .int x), (6, .int (nI f)), (7, .int a)] [.int b] τ := by
        intro a b ha hb
        refine zq (σ := τ) hV hIτ hnτ 4 ?_
        show (¬ (2 : Int32) = 0) ∧ V 127 [(8, .int b), (0, .ref 0), (1, .ref zsc), (2, .ref 30), (3, .int (nI c)), (4, .int (nI k)), (5, .int x), (6, .int (nI f)), (7, .int a)] [.int ((nI k) - (nI k) / 2 * 2)] τ
        refine ⟨by decide, ?_⟩
        refine zq (σ := τ) hV hIτ hnτ 1 ?_
        show (((nI k) - (nI k) / 2 * 2) = 0 → V 137 [(8, .int b), (0, .ref 0), (1, .ref zsc), (2, .ref 30), (3, .int (nI c)), (4, .int (nI k)), (5, .int x), (6, .int (nI f)), (7, .int a)] [] τ) ∧ (¬ ((nI k) - (nI k) / 2 * 2) = 0 → V 130 [(8, .int b), (0, .ref 0), (1, .ref zsc), (2, .ref 30), (3, .int (nI c)), (4, .int (nI k)), (5, .int x), (6, .int (nI f)), (7, .int a)] [] τ)
        refine ⟨fun h_127 => ?_, fun h_127 => ?_⟩
        · skip
          refine zwk hV [1, 2, 3, 4, 5, 6, 7, 8, 0] rfl ?_
          exact H137 a b ha hb
        · skip
          have hod : ¬ k % 2 = 0 := fun q => h_127 (by rw [show (2 : Int32) = nI 2 from rfl, pk_rem (by omega) (by decide) (by decide), q]; rfl)
          refine zq (σ := τ) hV hIτ hnτ 4 ?_
          show ((x &&& 3) ≤ 0 → V 212 [(8, .int b), (0, .ref 0), (1, .ref zsc), (2, .ref 30), (3, .int (nI c)), (4, .int (nI k)), (5, .int x), (6, .int (nI f)), (7, .int a)] [] τ) ∧ (¬ (x &&& 3) ≤ 0 → V 137 [(8, .int b), (0, .ref 0), (1, .ref zsc), (2, .ref 30), (3, .int (nI c)), (4, .int (nI k)), (5, .int x), (6, .int (nI f)), (7, .int a)] [] τ)
          refine ⟨fun h_134 => ?_, fun h_134 => ?_⟩
          · skip
            refine zq (σ := τ) hV hIτ hnτ 2 ?_
            show V 20 [(4, .int ((nI k) + 1)), (8, .int b), (0, .ref 0), (1, .ref zsc), (2, .ref 30), (3, .int (nI c)), (5, .int x), (6, .int (nI f)), (7, .int a)] [] τ
            refine zwk hV [2, 3, 4, 5, 0] rfl ?_
            rw [nI_1 k]
            exact ihK (k + 1) c τ (by omega) (by omega) (by omega) hS h27 h28 hLq hit
          · skip
            refine zwk hV [1, 2, 3, 4, 5, 6, 7, 8, 0] rfl ?_
            exact H137 a b ha hb
      have Hx : ∀ a : Int32, zBt (-1) 1 a → V 88 [(0, .ref 0), (1, .ref zsc), (2, .ref 30), (3, .int (nI c)), (4, .int (nI k)), (5, .int x), (6, .int (nI f))] [.int a] τ := by
        intro a ha
        refine zq (σ := τ) hV hIτ hnτ 3 ?_
        show ((nI k) ≤ 0 → V 105 [(7, .int a), (0, .ref 0), (1, .ref zsc), (2, .ref 30), (3, .int (nI c)), (4, .int (nI k)), (5, .int x), (6, .int (nI f))] [] τ) ∧ (¬ (nI k) ≤ 0 → V 95 [(7, .int a), (0, .ref 0), (1, .ref zsc), (2, .ref 30), (3, .int (nI c)), (4, .int (nI k)), (5, .int x), (6, .int (nI f))] [] τ)
        refine ⟨fun h_92 => ?_, fun h_92 => ?_⟩
        · skip
          refine zq (σ := τ) hV hIτ hnτ 2 ?_
          show ((nI k) = 0 → V 116 [(7, .int a), (0, .ref 0), (1, .ref zsc), (2, .ref 30), (3, .int (nI c)), (4, .int (nI k)), (5, .int x), (6, .int (nI f))] [] τ) ∧ (¬ (nI k) = 0 → V 110 [(7, .int a), (0, .ref 0), (1, .ref zsc), (2, .ref 30), (3, .int (nI c)), (4, .int (nI k)), (5, .int x), (6, .int (nI f))] [] τ)
          refine ⟨fun h_107 => ?_, fun h_107 => ?_⟩
          · skip
            refine zq (σ := τ) hV hIτ hnτ 2 ?_
            show V 121 [(7, .int a), (0, .ref 0), (1, .ref zsc), (2, .ref 30), (3, .int (nI c)), (4, .int (nI k)), (5, .int x), (6, .int (nI f))] [.int 0] τ
            refine zwk hV [1, 2, 3, 4, 5, 6, 7, 0] rfl ?_
            exact Hy a 0 ha ⟨by decide, by decide⟩
          · skip
            refine zq (σ := τ) hV hIτ hnτ 3 ?_
            show (¬ (nI k) = 4 → V 120 [(7, .int a), (0, .ref 0), (1, .ref zsc), (2, .ref 30), (3, .int (nI c)), (4, .int (nI k)), (5, .int x), (6, .int (nI f))] [] τ) ∧ (¬ (¬ (nI k) = 4) → V 116 [(7, .int a), (0, .ref 0), (1, .ref zsc), (2, .ref 30), (3, .int (nI c)), (4, .int (nI k)), (5, .int x), (6, .int (nI f))] [] τ)
            refine ⟨fun h_113 => ?_, fun h_113 => ?_⟩
            · skip
              refine zq (σ := τ) hV hIτ hnτ 1 ?_
              show V 121 [(7, .int a), (0, .ref 0), (1, .ref zsc), (2, .ref 30), (3, .int (nI c)), (4, .int (nI k)), (5, .int x), (6, .int (nI f))] [.int (-1)] τ
              refine zwk hV [1, 2, 3, 4, 5, 6, 7, 0] rfl ?_
              exact Hy a (-1) ha ⟨by decide, by decide⟩
            · skip
              have h_113 := Classical.not_not.mp h_113
              refine zq (σ := τ) hV hIτ hnτ 2 ?_
              show V 121 [(7, .int a), (0, .ref 0), (1, .ref zsc), (2, .ref 30), (3, .int (nI c)), (4, .int (nI k)), (5, .int x), (6, .int (nI f))] [.int 0] τ
              refine zwk hV [1, 2, 3, 4, 5, 6, 7, 0] rfl ?_
              exact Hy a 0 ha ⟨by decide, by decide⟩
        · skip
          refine zq (σ := τ) hV hIτ hnτ 3 ?_
          show (4 ≤ (nI k) → V 105 [(7, .int a), (0, .ref 0), (1, .ref zsc), (2, .ref 30), (3, .int (nI c)), (4, .int (nI k)), (5, .int x), (6, .int (nI f))] [] τ) ∧ (¬ 4 ≤ (nI k) → V 101 [(7, .int a), (0, .ref 0), (1, .ref zsc), (2, .ref 30), (3, .int (nI c)), (4, .int (nI k)), (5, .int x), (6, .int (nI f))] [] τ)
          refine ⟨fun h_98 => ?_, fun h_98 => ?_⟩
          · skip
            refine zq (σ := τ) hV hIτ hnτ 2 ?_
            show ((nI k) = 0 → V 116 [(7, .int a), (0, .ref 0), (1, .ref zsc), (2, .ref 30), (3, .int (nI c)), (4, .int (nI k)), (5, .int x), (6, .int (nI f))] [] τ) ∧ (¬ (nI k) = 0 → V 110 [(7, .int a), (0, .ref 0), (1, .ref zsc), (2, .ref 30), (3, .int (nI c)), (4, .int (nI k)), (5, .int x), (6, .int (nI f))] [] τ)
            refine ⟨fun h_107 => ?_, fun h_107 => ?_⟩
            · skip
              refine zq (σ := τ) hV hIτ hnτ 2 ?_
              show V 121 [(7, .int a), (0, .ref 0), (1, .ref zsc), (2, .ref 30), (3, .int (nI c)), (4, .int (nI k)), (5, .int x), (6, .int (nI f))] [.int 0] τ
              refine zwk hV [1, 2, 3, 4, 5, 6, 7, 0] rfl ?_
              exact Hy a 0 ha ⟨by decide, by decide⟩
            · skip
              refine zq (σ := τ) hV hIτ hnτ 3 ?_
              show (¬ (nI k) = 4 → V 120 [(7, .int a), (0, .ref 0), (1, .ref zsc), (2, .ref 30), (3, .int (nI c)), (4, .int (nI k)), (5, .int x), (6, .int (nI f))] [] τ) ∧ (¬ (¬ (nI k) = 4) → V 116 [(7, .int a), (0, .ref 0), (1, .ref zsc), (2, .ref 30), (3, .int (nI c)), (4, .int (nI k)), (5, .int x), (6, .int (nI f))] [] τ)
              refine ⟨fun h_113 => ?_, fun h_113 => ?_⟩
              · skip
                refine zq (σ := τ) hV hIτ hnτ 1 ?_
                show V 121 [(7, .int a), (0, .ref 0), (1, .ref zsc), (2, .ref 30), (3, .int (nI c)), (4, .int (nI k)), (5, .int x), (6, .int (nI f))] [.int (-1)] τ
                refine zwk hV [1, 2, 3, 4, 5, 6, 7, 0] rfl ?_
                exact Hy a (-1) ha ⟨by decide, by decide⟩
              · skip
                have h_113 := Classical.not_not.mp h_113
                refine zq (σ := τ) hV hIτ hnτ 2 ?_
                show V 121 [(7, .int a), (0, .ref 0), (1, .ref zsc), (2, .ref 30), (3, .int (nI c)), (4, .int (nI k)), (5, .int x), (6, .int (nI f))] [.int 0] τ
                refine zwk hV [1, 2, 3, 4, 5, 6, 7, 0] rfl ?_
                exact Hy a 0 ha ⟨by decide, by decide⟩
          · skip
            refine zq (σ := τ) hV hIτ hnτ 2 ?_
            show V 121 [(7, .int a), (0, .ref 0), (1, .ref zsc), (2, .ref 30), (3, .int (nI c)), (4, .int (nI k)), (5, .int x), (6, .int (nI f))] [.int 1] τ
            refine zwk hV [1, 2, 3, 4, 5, 6, 7, 0] rfl ?_
            exact Hy a 1 ha ⟨by decide, by decide⟩
      refine zq (σ := τ) hV hIτ hnτ 2 ?_
      show ((nI k) = 0 → V 66 [(0, .ref 0), (1, .ref zsc), (2, .ref 30), (3, .int (nI c)), (4, .int (nI k)), (5, .int x), (6, .int (nI f))] [] τ) ∧ (¬ (nI k) = 0 → V 53 [(0, .ref 0), (1, .ref zsc), (2, .ref 30), (3, .int (nI c)), (4, .int (nI k)), (5, .int x), (6, .int (nI f))] [] τ)
      refine ⟨fun h_50 => ?_, fun h_50 => ?_⟩
      · skip
        refine zq (σ := τ) hV hIτ hnτ 2 ?_
        show V 88 [(0, .ref 0), (1, .ref zsc), (2, .ref 30), (3, .int (nI c)), (4, .int (nI k)), (5, .int x), (6, .int (nI f))] [.int 1] τ
        refine zwk hV [0, 1, 2, 3, 4, 5, 6] rfl ?_
        exact Hx 1 ⟨by decide, by decide⟩
      · skip
        refine zq (σ := τ) hV hIτ hnτ 3 ?_
        show ((nI k) = 1 → V 66 [(0, .ref 0), (1, .ref zsc), (2, .ref 30), (3, .int (nI c)), (4, .int (nI k)), (5, .int x), (6, .int (nI f))] [] τ) ∧ (¬ (nI k) = 1 → V 59 [(0, .ref 0), (1, .ref zsc), (2, .ref 30), (3, .int (nI c)), (4, .int (nI k)), (5, .int x), (6, .int (nI f))] [] τ)
        refine ⟨fun h_56 => ?_, fun h_56 => ?_⟩
        · skip
          refine zq (σ := τ) hV hIτ hnτ 2 ?_
          show V 88 [(0, .ref 0), (1, .ref zsc), (2, .ref 30), (3, .int (nI c)), (4, .int (nI k)), (5, .int x), (6, .int (nI f))] [.int 1] τ
          refine zwk hV [0, 1, 2, 3, 4, 5, 6] rfl ?_
          exact Hx 1 ⟨by decide, by decide⟩
        · skip
          refine zq (σ := τ) hV hIτ hnτ 3 ?_
          show (¬ (nI k) = 7 → V 70 [(0, .ref 0), (1, .ref zsc), (2, .ref 30), (3, .int (nI c)), (4, .int (nI k)), (5, .int x), (6, .int (nI f))] [] τ) ∧ (¬ (¬ (nI k) = 7) → V 66 [(0, .ref 0), (1, .ref zsc), (2, .ref 30), (3, .int (nI c)), (4, .int (nI k)), (5, .int x), (6, .int (nI f))] [] τ)
          refine ⟨fun h_63 => ?_, fun h_63 => ?_⟩
          · skip
            refine zq (σ := τ) hV hIτ hnτ 3 ?_
            show ((nI k) = 2 → V 83 [(0, .ref 0), (1, .ref zsc), (2, .ref 30), (3, .int (nI c)), (4, .int (nI k)), (5, .int x), (6, .int (nI f))] [] τ) ∧ (¬ (nI k) = 2 → V 76 [(0, .ref 0), (1, .ref zsc), (2, .ref 30), (3, .int (nI c)), (4, .int (nI k)), (5, .int x), (6, .int (nI f))] [] τ)
            refine ⟨fun h_73 => ?_, fun h_73 => ?_⟩
            · skip
              refine zq (σ := τ) hV hIτ hnτ 2 ?_
              show V 88 [(0, .ref 0), (1, .ref zsc), (2, .ref 30), (3, .int (nI c)), (4, .int (nI k)), (5, .int x), (6, .int (nI f))] [.int 0] τ
              refine zwk hV [0, 1, 2, 3, 4, 5, 6] rfl ?_
              exact Hx 0 ⟨by decide, by decide⟩
            · skip
              refine zq (σ := τ) hV hIτ hnτ 3 ?_
              show (¬ (nI k) = 6 → V 87 [(0, .ref 0), (1, .ref zsc), (2, .ref 30), (3, .int (nI c)), (4, .int (nI k)), (5, .int x), (6, .int (nI f))] [] τ) ∧ (¬ (¬ (nI k) = 6) → V 83 [(0, .ref 0), (1, .ref zsc), (2, .ref 30), (3, .int (nI c)), (4, .int (nI k)), (5, .int x), (6, .int (nI f))] [] τ)
              refine ⟨fun h_80 => ?_, fun h_80 => ?_⟩
              · skip
                refine zq (σ := τ) hV hIτ hnτ 1 ?_
                show V 88 [(0, .ref 0), (1, .ref zsc), (2, .ref 30), (3, .int (nI c)), (4, .int (nI k)), (5, .int x), (6, .int (nI f))] [.int (-1)] τ
                refine zwk hV [0, 1, 2, 3, 4, 5, 6] rfl ?_
                exact Hx (-1) ⟨by decide, by decide⟩
              · skip
                have h_80 := Classical.not_not.mp h_80
                refine zq (σ := τ) hV hIτ hnτ 2 ?_
                show V 88 [(0, .ref 0), (1, .ref zsc), (2, .ref 30), (3, .int (nI c)), (4, .int (nI k)), (5, .int x), (6, .int (nI f))] [.int 0] τ
                refine zwk hV [0, 1, 2, 3, 4, 5, 6] rfl ?_
                exact Hx 0 ⟨by decide, by decide⟩
          · skip
            have h_63 := Classical.not_not.mp h_63
            refine zq (σ := τ) hV hIτ hnτ 2 ?_
            show V 88 [(0, .ref 0), (1, .ref zsc), (2, .ref 30), (3, .int (nI c)), (4, .int (nI k)), (5, .int x), (6, .int (nI f))] [.int 1] τ
            refine zwk hV [0, 1, 2, 3, 4, 5, 6] rfl ?_
            exact Hx 1 ⟨by decide, by decide⟩
  refine HK 8 0 0 τ rfl (Nat.le_refl _) (Nat.le_refl _) (ht.wk zfRn_S) e27 e28 (fun q hq => ?_) (fun j hj => absurd hj (Nat.not_lt_zero j))
  by_cases e : q = 3
  · exact ⟨20, by rw [e]; exact e28, by decide⟩
  · have e2 : τ.1 28 q = σ.1 28 q := ht.1 28 q (by
      have c2 : Nat.beq q 3 = false := by rw [← Bool.not_eq_true, Nat.beq_eq]; exact e
      unfold zfRn
      rw [c2]
      rfl)
    rw [e2]; exact hLs q hq
end
section
variable {zx : Nat × (Nat → Int32)}
variable {n k s : Nat} {X Y E S su sv sw : Nat → Int32} {g : Int32} {d : Nat} {σ : zSt} {K : Option Value → zSt → Prop}
/-- what the law knows of the bench: the part, the fingers, the friction, the spots -/
def zLS (n : Nat) (X Y E S : Nat → Int32) (k : Nat) (g : Int32) (s : Nat) (su sv sw : Nat → Int32) (τ : zSt) : Prop := (zQI (kR 0 31) τ.2.2 ∧ τ.2.2.2 = 31) ∧ (τ.1 1 2 = nI n ∧ τ.1 2 = X ∧ τ.1 3 = Y) ∧ (τ.1 4 2 = nI k ∧ τ.1 5 = E ∧ τ.1 6 = S) ∧ τ.1 0 9 = g ∧ τ.1 14 3 = nI s ∧ τ.1 15 = su ∧ τ.1 16 = sv ∧ τ.1 17 = sw
theorem zLS_C {τ : zSt} (h : zLS n X Y E S k g s su sv sw σ) (ht : zOnly zfC σ τ) : zLS n X Y E S k g s su sv sw τ := by
  obtain ⟨⟨h1, h2⟩, ⟨a1, a2, a3⟩, ⟨b1, b2, b3⟩, c1, d1, d2, d3, d4⟩ := h
  exact ⟨⟨zQI_eq h1 ht.2.2, (congrArg Prod.snd ht.2.2).trans h2⟩, ⟨(ht.1 1 2 rfl).trans a1, (funext fun j => ht.1 2 j rfl).trans a2, (funext fun j => ht.1 3 j rfl).trans a3⟩, ⟨(ht.1 4 2 rfl).trans b1, (funext fun j => ht.1 5 j rfl).trans b2, (funext fun j => ht.1 6 j rfl).trans b3⟩, (ht.1 0 9 rfl).trans c1, (ht.1 14 3 rfl).trans d1, (funext fun j => ht.1 15 j rfl).trans d2, (funext fun j => ht.1 16 j rfl).trans d3, (funext fun j => ht.1 17 j rfl).trans d4⟩
/-- whether they hold, as 1 or 0 -/
noncomputable def zWh (n : Nat) (X Y E S : Nat → Int32) (g : Int32) (k : Nat) : Int32 := zb (zDc (zHo n X Y g E S k))
theorem zWh_t (h : zHo n X Y g E S k) : zWh n X Y E S g k = 1 := by unfold zWh; rw [zDc_t h]; rfl
theorem zWh_f (h : ¬ zHo n X Y g E S k) : zWh n X Y E S g k = 0 := by unfold zWh; rw [zDc_f h]; rfl
/-- the edges and places are such as there are -/
def zEs (n : Nat) (E S : Nat → Int32) (k : Nat) : Prop := (∀ i, i < k → ∃ e, E i = nI e ∧ e < n) ∧ ∀ i, i < k → zBt 0 8 (S i)
theorem holds_L (h : zLS n X Y E S k g s su sv sw σ) (hn : n ≤ 10) (hk : k ≤ 8) (hE : zEs n E S k) (hK : ∀ τ, zLS n X Y E S k g s su sv sw τ → K (some (.int (zWh n X Y E S g k))) τ) : zSp zx (d + 5) mX8_holds [.ref 0] σ K := by
  have h' := h
  obtain ⟨⟨h1, h2⟩, ⟨a1, a2, a3⟩, ⟨b1, b2, b3⟩, c1, d1, d2, d3, d4⟩ := h
  refine holds_C (zR_of h1 rfl rfl) a1 hn b1 hk (by rw [b2]; exact hE.1) (fun τ ht q => ?_) (fun τ ht q => ?_)
  · rw [a2, a3, c1, b2, b3] at q
    have w := hK τ (zLS_C h' (ht.wk zfW_C))
    rw [zWh_t q] at w; exact w
  · rw [a2, a3, c1, b2, b3] at q
    have w := hK τ (zLS_C h' (ht.wk zfW_C))
    rw [zWh_f q] at w; exact w
theorem friction_L {f : Int32} (h : zLS n X Y E S k g s su sv sw σ) (hf : zBt 0 16 f) (hK : ∀ τ, zLS n X Y E S k f s su sv sw τ → K (some (.int g)) τ) : zSp zx (d + 1) mX8_friction [.ref 0, .int f] σ K := by
  obtain ⟨⟨h1, h2⟩, ⟨a1, a2, a3⟩, ⟨b1, b2, b3⟩, c1, d1, d2, d3, d4⟩ := h
  refine friction_C (zR_of h1 rfl rfl) (fun q => absurd hf q) (fun _ => ?_)
  rw [c1]
  exact hK _ ⟨⟨h1, h2⟩, ⟨a1, a2, a3⟩, ⟨b1, b2, b3⟩, by rw [zuI_get, if_pos ⟨rfl, rfl⟩], d1, d2, d3, d4⟩
theorem finger_L {e q : Int32} {j : Nat} (h : zLS n X Y E S k g s su sv sw σ) (hn : n ≤ 10) (hk : k < 8) (he : e = nI j) (hj : j < n) (hq : zBt 0 8 q) (hK : ∀ τ, zLS n X Y (upd E k e) (upd S k q) (k + 1) g s su sv sw τ → K (some (.int (nI k))) τ) : zSp zx (d + 4) mX8_finger [.ref 0, .int e, .int q] σ K := by
  obtain ⟨⟨h1, h2⟩, ⟨a1, a2, a3⟩, ⟨b1, b2, b3⟩, c1, d1, d2, d3, d4⟩ := h
  have hb : zBt 0 (n - 1) e ∧ zBt 0 8 q := ⟨by unfold zBt; rw [he, nI_toInt (by omega)]; omega, hq⟩
  refine finger_C (zR_of h1 rfl rfl) a1 hn b1 (by omega) (fun w => absurd hb w) (fun _ w => by omega) (fun _ _ => ?_)
  exact hK _ ⟨⟨h1, h2⟩, ⟨a1, a2, a3⟩, ⟨by rw [zuI_get, if_pos ⟨rfl, rfl⟩], by rw [← b2]; rfl, by rw [← b3]; rfl⟩, c1, d1, d2, d3, d4⟩
def zA1 (n : Nat) (X Y E : Nat → Int32) (g : Int32) : Nat → Int64 := zl (zT1 n X Y g E)
def zA2 (n : Nat) (X Y E : Nat → Int32) (g : Int32) : Nat → Int64 := zl (zT2 n X Y g E)
def zA3 (n : Nat) (X Y E S : Nat → Int32) (g : Int32) : Nat → Int64 := zl (zT3 n X Y g E S)
theorem push_L0 {t : Int32} {j : Nat} (h : zLS n X Y E S k g s su sv sw σ) (hn : n ≤ 10) (hk : k ≤ 8) (hE : zEs n E S k) (ht : t = nI j) (hj : j < zMl g k) (hK : ∀ τ, zLS n X Y E S k g s su sv sw τ → K (some (.long (zA1 n X Y E g j))) τ) : zSp zx (d + 4) mX8_push [.ref 0, .int t, .int 0] σ K := by
  have h' := h
  obtain ⟨⟨h1, h2⟩, ⟨a1, a2, a3⟩, ⟨b1, b2, b3⟩, c1, d1, d2, d3, d4⟩ := h
  have hm := @zMl_le g k hk
  refine push_C (zR_of h1 rfl rfl) a1 hn b1 hk (by rw [b2]; exact hE.1) (fun τ hτ q => ?_) (fun τ i hτ e hi _ => ?_)
  · refine absurd ⟨?_, ⟨by decide, by decide⟩⟩ q
    unfold zBt; rw [ht, nI_toInt (by omega), c1]; omega
  · rw [c1] at hi
    have e2 : i = j := ((nI_eq (a := j) (b := i) (by omega) (by omega)).mp (ht.symm.trans e)).symm
    rw [e2, a2, a3, c1, b2, b3, if_pos rfl]
    exact hK τ (zLS_C h' (hτ.wk zfW_C))
theorem push_L1 {t : Int32} {j : Nat} (h : zLS n X Y E S k g s su sv sw σ) (hn : n ≤ 10) (hk : k ≤ 8) (hE : zEs n E S k) (ht : t = nI j) (hj : j < zMl g k) (hK : ∀ τ, zLS n X Y E S k g s su sv sw τ → K (some (.long (zA2 n X Y E g j))) τ) : zSp zx (d + 4) mX8_push [.ref 0, .int t, .int 1] σ K := by
  have h' := h
  obtain ⟨⟨h1, h2⟩, ⟨a1, a2, a3⟩, ⟨b1, b2, b3⟩, c1, d1, d2, d3, d4⟩ := h
  have hm := @zMl_le g k hk
  refine push_C (zR_of h1 rfl rfl) a1 hn b1 hk (by rw [b2]; exact hE.1) (fun τ hτ q => ?_) (fun τ i hτ e hi _ => ?_)
  · refine absurd ⟨?_, ⟨by decide, by decide⟩⟩ q
    unfold zBt; rw [ht, nI_toInt (by omega), c1]; omega
  · rw [c1] at hi
    have e2 : i = j := ((nI_eq (a := j) (b := i) (by omega) (by omega)).mp (ht.symm.trans e)).symm
    rw [e2, a2, a3, c1, b2, b3, if_neg (by decide), if_pos rfl]
    exact hK τ (zLS_C h' (hτ.wk zfW_C))
theorem push_L2 {t : Int32} {j : Nat} (h : zLS n X Y E S k g s su sv sw σ) (hn : n ≤ 10) (hk : k ≤ 8) (hE : zEs n E S k) (ht : t = nI j) (hj : j < zMl g k) (hK : ∀ τ, zLS n X Y E S k g s su sv sw τ → K (some (.long (zA3 n X Y E S g j))) τ) : zSp zx (d + 4) mX8_push [.ref 0, .int t, .int 2] σ K := by
  have h' := h
  obtain ⟨⟨h1, h2⟩, ⟨a1, a2, a3⟩, ⟨b1, b2, b3⟩, c1, d1, d2, d3, d4⟩ := h
  have hm := @zMl_le g k hk
  refine push_C (zR_of h1 rfl rfl) a1 hn b1 hk (by rw [b2]; exact hE.1) (fun τ hτ q => ?_) (fun τ i hτ e hi _ => ?_)
  · refine absurd ⟨?_, ⟨by decide, by decide⟩⟩ q
    unfold zBt; rw [ht, nI_toInt (by omega), c1]; omega
  · rw [c1] at hi
    have e2 : i = j := ((nI_eq (a := j) (b := i) (by omega) (by omega)).mp (ht.symm.trans e)).symm
    rw [e2, a2, a3, c1, b2, b3, if_neg (by decide), if_neg (by decide)]
    exact hK τ (zLS_C h' (hτ.wk zfW_C))
theorem push_Lx {t : Int32} (h : zLS n X Y E S k g s su sv sw σ) (hn : n ≤ 10) (hk : k ≤ 8) (hE : zEs n E S k) (ht : t = nI (zMl g k)) (hK : ∀ τ, zLS n X Y E S k g s su sv sw τ → K (some (.long (-9223372036854775806))) τ) : zSp zx (d + 4) mX8_push [.ref 0, .int t, .int 0] σ K := by
  have h' := h
  obtain ⟨⟨h1, h2⟩, ⟨a1, a2, a3⟩, ⟨b1, b2, b3⟩, c1, d1, d2, d3, d4⟩ := h
  have hm := @zMl_le g k hk
  refine push_C (zR_of h1 rfl rfl) a1 hn b1 hk (by rw [b2]; exact hE.1) (fun τ hτ q => ?_) (fun τ i hτ e hi _ => ?_)
  · rw [show zRf (-2) = -9223372036854775806 by decide]
    exact hK τ (zLS_C h' (hτ.wk zfW_C))
  · rw [c1] at hi
    have e2 : i = zMl g k := ((nI_eq (a := zMl g k) (b := i) (by omega) (by omega)).mp (ht.symm.trans e)).symm
    omega
theorem count_L2 (h : zLS n X Y E S k g s su sv sw σ) (hK : K (some (.int g)) σ) : zSp zx (d + 3) mX8_count [.ref 0, .int 2] σ K := by
  obtain ⟨⟨h1, h2⟩, ⟨a1, a2, a3⟩, ⟨b1, b2, b3⟩, c1, d1, d2, d3, d4⟩ := h
  refine count_C (zR_of h1 rfl rfl) ?_
  unfold zCt
  rw [if_neg (by decide), if_neg (by decide), if_pos rfl, c1]
  exact hK
theorem count_L1 (h : zLS n X Y E S k g s su sv sw σ) (hK : K (some (.int (nI k))) σ) : zSp zx (d + 3) mX8_count [.ref 0, .int 1] σ K := by
  obtain ⟨⟨h1, h2⟩, ⟨a1, a2, a3⟩, ⟨b1, b2, b3⟩, c1, d1, d2, d3, d4⟩ := h
  refine count_C (zR_of h1 rfl rfl) ?_
  unfold zCt
  rw [if_neg (by decide), if_pos rfl, b1]
  exact hK
/-- a witness is told of these two -/
def zWt (n : Nat) (X Y E S : Nat → Int32) (g : Int32) (k u v : Nat) : Prop := zFst (zA1 n X Y E g) (zA2 n X Y E g) (zA3 n X Y E S g) (zMl g k) u v ∧ (zBe (zA1 n X Y E g) (zA2 n X Y E g) (zA3 n X Y E S g) (zMl g k) u v || zAe (zA1 n X Y E g) (zA2 n X Y E g) (zA3 n X Y E S g) (zMl g k) u v) = true
def zWb (n : Nat) (X Y E S : Nat → Int32) (g : Int32) (k u v : Nat) : Bool := zBe (zA1 n X Y E g) (zA2 n X Y E g) (zA3 n X Y E S g) (zMl g k) u v
def zW1 (n : Nat) (X Y E S : Nat → Int32) (g : Int32) (k u v : Nat) : Int64 := zsn (zWb n X Y E S g k u v) (zX1 (zA1 n X Y E g) (zA2 n X Y E g) (zA3 n X Y E S g) u v)
def zW2 (n : Nat) (X Y E S : Nat → Int32) (g : Int32) (k u v : Nat) : Int64 := zsn (zWb n X Y E S g k u v) (zX2 (zA1 n X Y E g) (zA2 n X Y E g) (zA3 n X Y E S g) u v)
def zW3 (n : Nat) (X Y E S : Nat → Int32) (g : Int32) (k u v : Nat) : Int64 := zsn (zWb n X Y E S g k u v) (zX3 (zA1 n X Y E g) (zA2 n X Y E g) (zA3 n X Y E S g) u v)
theorem witness_L {w : Int32} (h : zLS n X Y E S k g s su sv sw σ) (hn : n ≤ 10) (hk : k ≤ 8) (hE : zEs n E S k) (hw : zBt 0 2 w) (hV : ∀ τ u v, zLS n X Y E S k g s su sv sw τ → zWt n X Y E S g k u v → K (some (.long (if w = 0 then zW1 n X Y E S g k u v else if w = 1 then zW2 n X Y E S g k u v else zW3 n X Y E S g k u v))) τ) (hN : ∀ τ, zLS n X Y E S k g s su sv sw τ → (∀ u v, ¬ zWt n X Y E S g k u v) → K (some (.long (-9223372036854775805))) τ) : zSp zx (d + 4) mX8_witness [.ref 0, .int w] σ K := by
  have h' := h
  obtain ⟨⟨h1, h2⟩, ⟨a1, a2, a3⟩, ⟨b1, b2, b3⟩, c1, d1, d2, d3, d4⟩ := h
  refine witness_C (zR_of h1 rfl rfl) a1 hn b1 hk (by rw [b2]; exact hE.1) (fun q => absurd hw q) (fun τ u v ht _ q1 q2 => ?_) (fun τ ht _ q => ?_)
  · rw [a2, a3, c1, b2, b3] at q1 q2 ⊢
    exact hV τ u v (zLS_C h' (ht.wk zfW_C)) ⟨q1, q2⟩
  · rw [show zRf (-3) = -9223372036854775805 by decide]
    refine hN τ (zLS_C h' (ht.wk zfW_C)) (fun u v y => ?_)
    rw [a2, a3, c1, b2, b3] at q
    have z := q u v y.1
    have y2 := y.2
    unfold zA1 zA2 zA3 at y2
    rw [z] at y2
    exact absurd y2 (by decide)
theorem zWt_one {u v u' v' : Nat} (h : zWt n X Y E S g k u v) (h' : zWt n X Y E S g k u' v') : u = u' ∧ v = v' := zFst_one h.1 h'.1
theorem zWt_no {u v : Nat} (h : zHo n X Y g E S k) (h' : zWt n X Y E S g k u v) : False := zHold_nF h h'.1
theorem free_L {v : Int32} {j : Nat} (h : zLS n X Y E S k g s su sv sw σ) (hn : n ≤ 10) (hk : k ≤ 8) (hE : zEs n E S k) (hv : v = nI j) (hj : j < k) (hK : ∀ τ, zLS n X Y E S k g s su sv sw τ → K (some (.int (zFree n X Y g E S k j))) τ) : zSp zx (d + 5) mX8_free [.ref 0, .int v] σ K := by
  have h' := h
  obtain ⟨⟨h1, h2⟩, ⟨a1, a2, a3⟩, ⟨b1, b2, b3⟩, c1, d1, d2, d3, d4⟩ := h
  refine free_C (zR_of h1 rfl rfl) a1 hn b1 hk (by rw [b2]; exact hE.1) (fun q => ?_) (fun τ i ht e hi => ?_)
  · refine absurd ?_ q
    unfold zBt; rw [hv, nI_toInt (by omega)]; omega
  · have e2 : i = j := ((nI_eq (a := j) (b := i) (by omega) (by omega)).mp (hv.symm.trans e)).symm
    rw [e2, a2, a3, c1, b2, b3]
    exact hK τ (zLS_C h' ht)
theorem spot_L {e q c : Int32} {j : Nat} (h : zLS n X Y E S k g s su sv sw σ) (hn : n ≤ 10) (hs : s < 7) (he : e = nI j) (hj : j < n) (hq : zBt 0 8 q) (hc : zBt 0 1000 c) (hK : ∀ τ, zLS n X Y E S k g (s + 1) (upd su s e) (upd sv s q) (upd sw s c) τ → K (some (.int (nI (s + 1)))) τ) : zSp zx (d + 3) mX8_spot [.ref 0, .int e, .int q, .int c] σ K := by
  obtain ⟨⟨h1, h2⟩, ⟨a1, a2, a3⟩, ⟨b1, b2, b3⟩, c1, d1, d2, d3, d4⟩ := h
  have hb : (zBt 0 (n - 1) e ∧ zBt 0 8 q) ∧ zBt 0 1000 c := ⟨⟨by unfold zBt; rw [he, nI_toInt (by omega)]; omega, hq⟩, hc⟩
  refine spot_C (zR_of h1 rfl rfl) a1 hn d1 (by omega) (fun w => absurd hb w) (fun _ w => by omega) (fun _ _ => ?_)
  exact hK _ ⟨⟨h1, h2⟩, ⟨a1, a2, a3⟩, ⟨b1, b2, b3⟩, c1, by rw [zuI_get, if_pos ⟨rfl, rfl⟩], by rw [← d2]; rfl, by rw [← d3]; rfl, by rw [← d4]; rfl⟩
theorem cheapest_L (h : zLS n X Y E S k g s su sv sw σ) (hn : n ≤ 10) (hs : s ≤ 7) (hE : zEs n su sv s) (hK : ∀ τ, zLS n X Y E S k g s su sv sw τ → K (some (.int (zChe n X Y g su sv sw s))) τ) : zSp zx (d + 5) mX8_cheapest [.ref 0] σ K := by
  have h' := h
  obtain ⟨⟨h1, h2⟩, ⟨a1, a2, a3⟩, ⟨b1, b2, b3⟩, c1, d1, d2, d3, d4⟩ := h
  refine cheapest_C (zR_of h1 rfl rfl) a1 hn d1 hs (by rw [d2]; exact hE.1) (fun τ ht => ?_)
  rw [a2, a3, c1, d2, d3, d4]
  exact hK τ (zLS_C h' ht)
theorem zfL_f (h c a j : Nat) (q : ¬ a = h ∧ ¬ a = h + 1 ∧ ¬ a = h + 2) : zfL h c a j = false := by
  unfold zfL
  have c2 : ∀ x y, Nat.beq x y = false ↔ x ≠ y := fun x y => by rw [← Bool.not_eq_true, Nat.beq_eq]
  rw [Bool.or_eq_false_iff, Bool.and_eq_false_iff, Bool.and_eq_false_iff, Bool.or_eq_false_iff]
  simp only [c2]
  exact ⟨Or.inl q.1, Or.inl ⟨q.2.1, q.2.2⟩⟩
theorem take_L (h : zLS n X Y E S k g s su sv sw σ) (hn : n ≤ 10) (hs : s ≤ 7) (hE : zEs n su sv s) (hN : ∀ τ, zLS n X Y E S k g s su sv sw τ → zChe n X Y g su sv sw s = -1 → K (some (.int (-3))) τ)
    (hO : ∀ τ E' S' be, zChe n X Y g su sv sw s = be → ¬ be = -1 → (∀ q, q < zcn be s → E' q = zLy be su s q ∧ S' q = zLy be sv s q) → zLS n X Y E' S' (zcn be s) g s su sv sw τ → K (some (.int (zPx be sw s))) τ) : zSp zx (d + 6) mX8_take [.ref 0] σ K := by
  have h' := h
  obtain ⟨⟨h1, h2⟩, ⟨a1, a2, a3⟩, ⟨b1, b2, b3⟩, c1, d1, d2, d3, d4⟩ := h
  refine take_C (zR_of h1 rfl rfl) a1 hn d1 hs (by rw [d2]; exact hE.1) (fun τ ht e => ?_) (fun τ υ be ht e1 e2 hu u4 uq => ?_)
  · rw [a2, a3, c1, d2, d3, d4] at e
    exact hN τ (zLS_C h' ht) e
  · rw [a2, a3, c1, d2, d3, d4] at e1
    rw [d2, d3] at uq
    rw [d4]
    obtain ⟨⟨f1, f2⟩, ⟨p1, p2, p3⟩, ⟨q1, q2, q3⟩, r1, s1, s2, s3, s4⟩ := zLS_C h' ht
    have z : ∀ a j, (¬ a = 4 ∧ ¬ a = 5 ∧ ¬ a = 6) → υ.1 a j = τ.1 a j := fun a j w => hu.1 a j (zfL_f 4 _ a j w)
    refine hO υ (υ.1 5) (υ.1 6) be e1.symm e2 uq ⟨⟨zQI_eq f1 hu.2.2, (congrArg Prod.snd hu.2.2).trans f2⟩, ⟨(z 1 2 (by decide)).trans p1, (funext fun j => z 2 j (by decide)).trans p2, (funext fun j => z 3 j (by decide)).trans p3⟩, ⟨u4, rfl, rfl⟩, (z 0 9 (by decide)).trans r1, (z 14 3 (by decide)).trans s1, (funext fun j => z 15 j (by decide)).trans s2, (funext fun j => z 16 j (by decide)).trans s3, (funext fun j => z 17 j (by decide)).trans s4⟩
theorem slip_L (h : zLS n X Y E S k g s su sv sw σ) (hn : n ≤ 10) (hk : k ≤ 8) (hE : zEs n E S k) (hN : ¬ k ≤ 4 → K (some (.int (-3))) σ) (hh : zHo n X Y g E S k) (hO : k ≤ 4 → ∀ τ r, r ≤ 8 → zLS n X Y E S k g s su sv sw τ → K (some (.int (nI r))) τ) : zSp zx (d + 7) mX8_slip [.ref 0] σ K := by
  have h' := h
  obtain ⟨⟨h1, h2⟩, ⟨a1, a2, a3⟩, ⟨b1, b2, b3⟩, c1, d1, d2, d3, d4⟩ := h
  refine slip_C (zR_of h1 rfl rfl) a1 hn b1 hk (by rw [b2]; exact hE.1) (by rw [b3]; exact hE.2) hN (fun _ τ _ q => ?_) (fun q1 _ τ r ht hr _ _ => hO q1 τ r hr (zLS_C h' ht))
  rw [a2, a3, c1, b2, b3] at q
  exact absurd hh q
end
section
variable {zx : Nat × (Nat → Int32)} {n k s F j M : Nat} {X Y E S su sv sw : Nat → Int32} {g f0 wv : Int32} {V : Nat → zLo → List Value → zSt → Prop}
theorem zUp_b {x : Int32} {n M : Nat} (h0 : 0 < n) (hM : n ≤ M + 1) (hM2 : M < 2 ^ 30) : zBt 0 M (nI (zUp x n)) := by
  have h := zUp_lt (x := x) h0
  unfold zBt; rw [nI_toInt (by omega)]; omega
theorem zWh_01 : zWh n X Y E S g k = 0 ∨ zWh n X Y E S g k = 1 := by
  rcases Classical.em (zHo n X Y g E S k) with h | h
  · exact Or.inr (zWh_t h)
  · exact Or.inl (zWh_f h)
theorem zWh_imp {n' k' : Nat} {X' Y' E' S' : Nat → Int32} {g' : Int32} (h : zHo n X Y g E S k → zHo n' X' Y' g' E' S' k') : zWh n X Y E S g k ≤ zWh n' X' Y' E' S' g' k' := by
  rcases Classical.em (zHo n X Y g E S k) with q | q
  · rw [zWh_t q, zWh_t (h q)]; decide
  · rw [zWh_f q]
    rcases @zWh_01 n' k' X' Y' E' S' g' with r | r <;> rw [r] <;> decide
theorem zWh_nn (a : Int32) (h : a = -1 ∨ a = 0) : a ≤ zWh n X Y E S g k := by
  rcases h with h | h <;> rcases @zWh_01 n k X Y E S g with r | r <;> rw [h, r] <;> decide
theorem zlNe (x : Int32) : ¬ Int32.toInt64 x = -9223372036854775806 := fun q => by
  rw [zeq64, zL] at q
  have h := zR32 x
  have e : (-9223372036854775806 : Int64).toInt = -9223372036854775806 := by decide
  omega
theorem zg_nn (h : zBt 0 16 g) : ¬ g < 0 := by rw [zlt]; unfold zBt at h; have := zT_lits.1; omega
theorem zbt01 (a : Int32) (i : Nat) : zbt a i = 0 ∨ zbt a i = 1 := by
  obtain ⟨j, h1, h2⟩ := pk_andE (a >>> (nI i &&& 31)) (m := 1) 1 (by decide)
  unfold zbt; rw [h2]
  rcases (show j = 0 ∨ j = 1 by omega) with e | e <;> rw [e]
  · exact Or.inl rfl
  · exact Or.inr rfl
theorem zPx_congr {P Q : Nat → Int32} (a : Int32) : ∀ k, (∀ i, i < k → P i = Q i) → zPx a P k = zPx a Q k
  | 0, _ => rfl
  | k + 1, h => by
    unfold zPx
    rw [zPx_congr a k (fun i hi => h i (by omega)), h k (by omega)]
theorem zEs_up {e q : Int32} {i : Nat} (h : zEs n E S k) (he : e = nI i) (hi : i < n) (hq : zBt 0 8 q) : zEs n (upd E k e) (upd S k q) (k + 1) := by
  refine ⟨fun l hl => ?_, fun l hl => ?_⟩
  · by_cases w : l = k
    · rw [w, pk_us]; exact ⟨i, he, hi⟩
    · rw [pk_un w]; exact h.1 l (by omega)
  · by_cases w : l = k
    · rw [w, pk_us]; exact hq
    · rw [pk_un w]; exact h.2 l (by omega)
set_option maxRecDepth 8000 in
set_option maxHeartbeats 4000000 in
theorem zlA (hV : zOk (zSp zx 7) zx mL_law 31 V (fun (r : Option Value) (_ : zSt) => r = some (.int 1))) (hn10 : n ≤ 10) (hB : zHB n X Y) (hk : k ≤ 8) (hE : zEs n E S k) (hnx : ∀ g τ, zBt 0 16 g → zLS n X Y E S k g s su sv sw τ → V 440 [(0, .ref zsc), (1, .ref 0), (3, .int (nI n)), (4, .int (nI F)), (5, .int wv), (6, .int (nI j))] [] τ) : ∀ (r q : Nat) (g : Int32) (τ : zSt) (la : Int32), q + r = 5 → zBt 0 16 g → zLS n X Y E S k g s su sv sw τ → ((q = 0 ∧ la = -1) ∨ (1 ≤ q ∧ la = zWh n X Y E S (nI (4 * (q - 1))) k)) → V 401 [(0, .ref zsc), (1, .ref 0), (3, .int (nI n)), (4, .int (nI F)), (5, .int wv), (6, .int (nI j)), (11, .int la), (12, .int (nI (4 * q)))] [] τ := by
  intro r
  induction r with
  | zero =>
    intro q g τ la hqr hg hs hla
    refine zq (σ := τ) hV hs.1.1 hs.1.2 3 ?_
    show (17 ≤ (nI (4 * q)) → V 440 [(0, .ref zsc), (1, .ref 0), (3, .int (nI n)), (4, .int (nI F)), (5, .int wv), (6, .int (nI j)), (11, .int la), (12, .int (nI (4 * q)))] [] τ) ∧ (¬ 17 ≤ (nI (4 * q)) → V 408 [(0, .ref zsc), (1, .ref 0), (3, .int (nI n)), (4, .int (nI F)), (5, .int wv), (6, .int (nI j)), (11, .int la), (12, .int (nI (4 * q)))] [] τ)
    refine ⟨fun _ => ?_, fun hc => absurd (show (17 : Int32) ≤ nI (4 * q) by rw [show q = 5 by omega]; decide) hc⟩
    refine zwk hV [0, 1, 2, 3, 4, 5] rfl ?_
    exact hnx g τ hg hs
  | succ r ihA =>
    intro q g τ la hqr hg hs hla
    have hfq : zBt 0 16 (nI (4 * q)) := by unfold zBt; rw [nI_toInt (by omega)]; omega
    have hle : la ≤ zWh n X Y E S (nI (4 * q)) k := by
      rcases hla with ⟨_, h⟩ | ⟨h1, h⟩
      · exact zWh_nn _ (Or.inl h)
      · rw [h]
        refine zWh_imp (fun y => zHo_fric hB ?_ hfq ?_ hn10 hE.1 hE.2 y)
        · unfold zBt; rw [nI_toInt (by omega)]; omega
        · rw [nI_toInt (by omega), nI_toInt (by omega)]; omega
    refine zq (σ := τ) hV hs.1.1 hs.1.2 3 ?_
    show (17 ≤ (nI (4 * q)) → V 440 [(0, .ref zsc), (1, .ref 0), (3, .int (nI n)), (4, .int (nI F)), (5, .int wv), (6, .int (nI j)), (11, .int la), (12, .int (nI (4 * q)))] [] τ) ∧ (¬ 17 ≤ (nI (4 * q)) → V 408 [(0, .ref zsc), (1, .ref 0), (3, .int (nI n)), (4, .int (nI F)), (5, .int wv), (6, .int (nI j)), (11, .int la), (12, .int (nI (4 * q)))] [] τ)
    refine ⟨fun hc => absurd hc (show ¬ (17 : Int32) ≤ nI (4 * q) from nI_ge (a := 4 * q) (b := 17) (by omega) (by decide)), fun _ => ?_⟩
    refine zq (σ := τ) hV hs.1.1 hs.1.2 3 ?_
    show zSp _ _ 57 [.ref 0, .int (nI (4 * q))] τ (fun r σ' => σ'.2.2.2 = τ.2.2.2 + zAl 57 → V 414 [(0, .ref zsc), (1, .ref 0), (3, .int (nI n)), (4, .int (nI F)), (5, .int wv), (6, .int (nI j)), (11, .int la), (12, .int (nI (4 * q)))] (r.toList ++ []) σ')
    refine friction_L hs hfq (fun τ1 hs1 _ => ?_)
    refine zq (σ := τ1) hV hs1.1.1 hs1.1.2 1 ?_
    show (g < 0 → V 426 [(0, .ref zsc), (1, .ref 0), (3, .int (nI n)), (4, .int (nI F)), (5, .int wv), (6, .int (nI j)), (11, .int la), (12, .int (nI (4 * q)))] [] τ1) ∧ (¬ g < 0 → V 417 [(0, .ref zsc), (1, .ref 0), (3, .int (nI n)), (4, .int (nI F)), (5, .int wv), (6, .int (nI j)), (11, .int la), (12, .int (nI (4 * q)))] [] τ1)
    refine ⟨fun hc => absurd hc (zg_nn hg), fun _ => ?_⟩
    refine zq (σ := τ1) hV hs1.1.1 hs1.1.2 2 ?_
    show zSp _ _ 59 [.ref 0] τ1 (fun r σ' => σ'.2.2.2 = τ1.2.2.2 + zAl 59 → V 421 [(0, .ref zsc), (1, .ref 0), (3, .int (nI n)), (4, .int (nI F)), (5, .int wv), (6, .int (nI j)), (11, .int la), (12, .int (nI (4 * q)))] (r.toList ++ []) σ')
    refine holds_L hs1 hn10 (by omega) hE (fun τ2 hs2 _ => ?_)
    refine zq (σ := τ2) hV hs2.1.1 hs2.1.2 2 ?_
    show (la ≤ (zWh n X Y E S (nI (4 * q)) k) → V 428 [(0, .ref zsc), (1, .ref 0), (3, .int (nI n)), (4, .int (nI F)), (5, .int wv), (6, .int (nI j)), (11, .int la), (12, .int (nI (4 * q)))] [] τ2) ∧ (¬ la ≤ (zWh n X Y E S (nI (4 * q)) k) → V 426 [(0, .ref zsc), (1, .ref 0), (3, .int (nI n)), (4, .int (nI F)), (5, .int wv), (6, .int (nI j)), (11, .int la), (12, .int (nI (4 * q)))] [] τ2)
    refine ⟨fun _ => ?_, fun hc => absurd hle hc⟩
    refine zq (σ := τ2) hV hs2.1.1 hs2.1.2 2 ?_
    show zSp _ _ 59 [.ref 0] τ2 (fun r σ' => σ'.2.2.2 = τ2.2.2.2 + zAl 59 → V 432 [(0, .ref zsc), (1, .ref 0), (3, .int (nI n)), (4, .int (nI F)), (5, .int wv), (6, .int (nI j)), (11, .int la), (12, .int (nI (4 * q)))] (r.toList ++ []) σ')
    refine holds_L hs2 hn10 (by omega) hE (fun τ3 hs3 _ => ?_)
    refine zq (σ := τ3) hV hs3.1.1 hs3.1.2 3 ?_
    show V 401 [(12, .int ((nI (4 * q)) + 4)), (11, .int (zWh n X Y E S (nI (4 * q)) k)), (0, .ref zsc), (1, .ref 0), (3, .int (nI n)), (4, .int (nI F)), (5, .int wv), (6, .int (nI j))] [] τ3
    refine zwk hV [2, 3, 4, 5, 6, 7, 1, 0] rfl ?_
    rw [show nI (4 * q) + 4 = nI (4 * (q + 1)) from zn_a (a := 4 * q) (b := 4) rfl rfl]
    refine ihA (q + 1) _ _ _ (by omega) hfq hs3 (Or.inr ⟨by omega, ?_⟩)
    rw [show q + 1 - 1 = q by omega]
set_option maxRecDepth 8000 in
set_option maxHeartbeats 4000000 in
theorem zlC (hV : zOk (zSp zx 7) zx mL_law 31 V (fun (r : Option Value) (_ : zSt) => r = some (.int 1))) (hn10 : n ≤ 10) (hk : k ≤ 8) (hE : zEs n E S k) {wi : Int32} (hnx : ∀ τ, zLS n X Y E S k g s su sv sw τ → V 170 [(0, .ref zsc), (1, .ref 0), (3, .int (nI n)), (4, .int (nI F)), (5, .int wv), (6, .int (nI j)), (7, .int wi), (8, .int (nI (zMl g k)))] [] τ) : ∀ (r t : Nat) (τ : zSt), t + r = zMl g k → zLS n X Y E S k g s su sv sw τ → V 143 [(0, .ref zsc), (1, .ref 0), (3, .int (nI n)), (4, .int (nI F)), (5, .int wv), (6, .int (nI j)), (7, .int wi), (8, .int (nI t))] [] τ := by
  intro r
  induction r with
  | zero =>
    intro t τ htr hs
    have hm16 := @zMl_le g k hk
    refine zq (σ := τ) hV hs.1.1 hs.1.2 4 ?_
    show zSp _ _ 58 [.ref 0, .int (nI t), .int 0] τ (fun r σ' => σ'.2.2.2 = τ.2.2.2 + zAl 58 → V 150 [(0, .ref zsc), (1, .ref 0), (3, .int (nI n)), (4, .int (nI F)), (5, .int wv), (6, .int (nI j)), (7, .int wi), (8, .int (nI t))] (r.toList ++ []) σ')
    refine push_Lx hs hn10 (by omega) hE (by rw [show t = zMl g k by omega]) (fun τ1 hs1 _ => ?_)
    refine zq (σ := τ1) hV hs1.1.1 hs1.1.2 3 ?_
    show ((lg_cmp (-9223372036854775806) (-9223372036854775806)) = 0 → V 170 [(0, .ref zsc), (1, .ref 0), (3, .int (nI n)), (4, .int (nI F)), (5, .int wv), (6, .int (nI j)), (7, .int wi), (8, .int (nI t))] [] τ1) ∧ (¬ (lg_cmp (-9223372036854775806) (-9223372036854775806)) = 0 → V 157 [(0, .ref zsc), (1, .ref 0), (3, .int (nI n)), (4, .int (nI F)), (5, .int wv), (6, .int (nI j)), (7, .int wi), (8, .int (nI t))] [] τ1)
    refine ⟨fun _ => ?_, fun hc => absurd (zcmp_eq.mpr rfl) hc⟩
    refine zwk hV [0, 1, 2, 3, 4, 5, 6, 7] rfl ?_
    rw [show t = zMl g k by omega]
    exact hnx _ hs1
  | succ r ihC =>
    intro t τ htr hs
    have hm16 := @zMl_le g k hk
    refine zq (σ := τ) hV hs.1.1 hs.1.2 4 ?_
    show zSp _ _ 58 [.ref 0, .int (nI t), .int 0] τ (fun r σ' => σ'.2.2.2 = τ.2.2.2 + zAl 58 → V 150 [(0, .ref zsc), (1, .ref 0), (3, .int (nI n)), (4, .int (nI F)), (5, .int wv), (6, .int (nI j)), (7, .int wi), (8, .int (nI t))] (r.toList ++ []) σ')
    refine push_L0 hs hn10 (by omega) hE (j := t) rfl (by omega) (fun τ1 hs1 _ => ?_)
    refine zq (σ := τ1) hV hs1.1.1 hs1.1.2 3 ?_
    show ((lg_cmp (zA1 n X Y E g t) (-9223372036854775806)) = 0 → V 170 [(0, .ref zsc), (1, .ref 0), (3, .int (nI n)), (4, .int (nI F)), (5, .int wv), (6, .int (nI j)), (7, .int wi), (8, .int (nI t))] [] τ1) ∧ (¬ (lg_cmp (zA1 n X Y E g t) (-9223372036854775806)) = 0 → V 157 [(0, .ref zsc), (1, .ref 0), (3, .int (nI n)), (4, .int (nI F)), (5, .int wv), (6, .int (nI j)), (7, .int wi), (8, .int (nI t))] [] τ1)
    refine ⟨fun hc => absurd hc (fun y => zlNe _ (zcmp_eq.mp y)), fun _ => ?_⟩
    refine zq (σ := τ1) hV hs1.1.1 hs1.1.2 3 ?_
    show (16 ≤ (nI t) → V 170 [(0, .ref zsc), (1, .ref 0), (3, .int (nI n)), (4, .int (nI F)), (5, .int wv), (6, .int (nI j)), (7, .int wi), (8, .int (nI t))] [] τ1) ∧ (¬ 16 ≤ (nI t) → V 164 [(0, .ref zsc), (1, .ref 0), (3, .int (nI n)), (4, .int (nI F)), (5, .int wv), (6, .int (nI j)), (7, .int wi), (8, .int (nI t))] [] τ1)
    refine ⟨fun hc => absurd hc (nI_ge (a := t) (b := 16) (by omega) (by decide)), fun _ => ?_⟩
    refine zq (σ := τ1) hV hs1.1.1 hs1.1.2 2 ?_
    show V 143 [(8, .int ((nI t) + 1)), (0, .ref zsc), (1, .ref 0), (3, .int (nI n)), (4, .int (nI F)), (5, .int wv), (6, .int (nI j)), (7, .int wi)] [] τ1
    refine zwk hV [1, 2, 3, 4, 5, 6, 7, 0] rfl ?_
    rw [nI_1 t]
    exact ihC (t + 1) _ (by omega) hs1
set_option maxRecDepth 8000 in
set_option maxHeartbeats 4000000 in
theorem zlB (hV : zOk (zSp zx 7) zx mL_law 31 V (fun (r : Option Value) (_ : zSt) => r = some (.int 1))) (hn10 : n ≤ 10) (hk : k ≤ 8) (hE : zEs n E S k) {a b c : Int64} (hge : ∀ t, t < zMl g k → ¬ a * zA1 n X Y E g t + b * zA2 n X Y E g t + c * zA3 n X Y E S g t < 0) (hso : ∃ t, t < zMl g k ∧ 0 < a * zA1 n X Y E g t + b * zA2 n X Y E g t + c * zA3 n X Y E S g t) (hnx : ∀ τ, zLS n X Y E S k g s su sv sw τ → V 367 [(0, .ref zsc), (1, .ref 0), (3, .int (nI n)), (4, .int (nI F)), (5, .int wv), (6, .int (nI j)), (8, .int (nI (zMl g k))), (9, .long a), (11, .long b), (13, .long c), (15, .int 1)] [] τ) : ∀ (r t : Nat) (τ : zSt) (sm : Int32), t + r = zMl g k → zLS n X Y E S k g s su sv sw τ → (sm = 1 ∨ (sm = 0 ∧ ∀ i, i < t → ¬ 0 < a * zA1 n X Y E g i + b * zA2 n X Y E g i + c * zA3 n X Y E S g i)) → V 292 [(0, .ref zsc), (1, .ref 0), (3, .int (nI n)), (4, .int (nI F)), (5, .int wv), (6, .int (nI j)), (8, .int (nI (zMl g k))), (9, .long a), (11, .long b), (13, .long c), (15, .int sm), (16, .int (nI t))] [] τ := by
  intro r
  induction r with
  | zero =>
    intro t τ sm htr hs hsm
    have hm16 := @zMl_le g k hk
    refine zq (σ := τ) hV hs.1.1 hs.1.2 3 ?_
    show ((nI (zMl g k)) ≤ (nI t) → V 367 [(0, .ref zsc), (1, .ref 0), (3, .int (nI n)), (4, .int (nI F)), (5, .int wv), (6, .int (nI j)), (8, .int (nI (zMl g k))), (9, .long a), (11, .long b), (13, .long c), (15, .int sm), (16, .int (nI t))] [] τ) ∧ (¬ (nI (zMl g k)) ≤ (nI t) → V 299 [(0, .ref zsc), (1, .ref 0), (3, .int (nI n)), (4, .int (nI F)), (5, .int wv), (6, .int (nI j)), (8, .int (nI (zMl g k))), (9, .long a), (11, .long b), (13, .long c), (15, .int sm), (16, .int (nI t))] [] τ)
    refine ⟨fun _ => ?_, fun hc => absurd (nI_le (a := zMl g k) (b := t) (by omega) (by omega)) hc⟩
    refine zwk hV [0, 1, 2, 3, 4, 5, 6, 7, 8, 9, 10] rfl ?_
    have e1 : sm = 1 := by
      rcases hsm with h | ⟨_, h⟩
      · exact h
      · obtain ⟨i, hi, hl⟩ := hso
        exact absurd hl (h i (by omega))
    rw [e1]
    exact hnx τ hs
  | succ r ihB =>
    intro t τ sm htr hs hsm
    have hm16 := @zMl_le g k hk
    refine zq (σ := τ) hV hs.1.1 hs.1.2 3 ?_
    show ((nI (zMl g k)) ≤ (nI t) → V 367 [(0, .ref zsc), (1, .ref 0), (3, .int (nI n)), (4, .int (nI F)), (5, .int wv), (6, .int (nI j)), (8, .int (nI (zMl g k))), (9, .long a), (11, .long b), (13, .long c), (15, .int sm), (16, .int (nI t))] [] τ) ∧ (¬ (nI (zMl g k)) ≤ (nI t) → V 299 [(0, .ref zsc), (1, .ref 0), (3, .int (nI n)), (4, .int (nI F)), (5, .int wv), (6, .int (nI j)), (8, .int (nI (zMl g k))), (9, .long a), (11, .long b), (13, .long c), (15, .int sm), (16, .int (nI t))] [] τ)
    refine ⟨fun hc => absurd hc (nI_ge (a := t) (b := zMl g k) (by omega) (by omega)), fun _ => ?_⟩
    refine zq (σ := τ) hV hs.1.1 hs.1.2 5 ?_
    show zSp _ _ 58 [.ref 0, .int (nI t), .int 0] τ (fun r σ' => σ'.2.2.2 = τ.2.2.2 + zAl 58 → V 308 [(0, .ref zsc), (1, .ref 0), (3, .int (nI n)), (4, .int (nI F)), (5, .int wv), (6, .int (nI j)), (8, .int (nI (zMl g k))), (9, .long a), (11, .long b), (13, .long c), (15, .int sm), (16, .int (nI t))] (r.toList ++ [.long a]) σ')
    refine push_L0 hs hn10 (by omega) hE (j := t) rfl (by omega) (fun τ1 hs1 _ => ?_)
    refine zq (σ := τ1) hV hs1.1.1 hs1.1.2 6 ?_
    show zSp _ _ 58 [.ref 0, .int (nI t), .int 1] τ1 (fun r σ' => σ'.2.2.2 = τ1.2.2.2 + zAl 58 → V 318 [(0, .ref zsc), (1, .ref 0), (3, .int (nI n)), (4, .int (nI F)), (5, .int wv), (6, .int (nI j)), (8, .int (nI (zMl g k))), (9, .long a), (11, .long b), (13, .long c), (15, .int sm), (16, .int (nI t))] (r.toList ++ [.long b, .long (a * (zA1 n X Y E g t))]) σ')
    refine push_L1 hs1 hn10 (by omega) hE (j := t) rfl (by omega) (fun τ2 hs2 _ => ?_)
    refine zq (σ := τ2) hV hs2.1.1 hs2.1.2 7 ?_
    show zSp _ _ 58 [.ref 0, .int (nI t), .int 2] τ2 (fun r σ' => σ'.2.2.2 = τ2.2.2.2 + zAl 58 → V 329 [(0, .ref zsc), (1, .ref 0), (3, .int (nI n)), (4, .int (nI F)), (5, .int wv), (6, .int (nI j)), (8, .int (nI (zMl g k))), (9, .long a), (11, .long b), (13, .long c), (15, .int sm), (16, .int (nI t))] (r.toList ++ [.long c, .long ((a * (zA1 n X Y E g t)) + (b * (zA2 n X Y E g t)))]) σ')
    refine push_L2 hs2 hn10 (by omega) hE (j := t) rfl (by omega) (fun τ3 hs3 _ => ?_)
    refine zq (σ := τ3) hV hs3.1.1 hs3.1.2 5 ?_
    show (¬ sm = 0 → V 345 [(17, .long (((a * (zA1 n X Y E g t)) + (b * (zA2 n X Y E g t))) + (c * (zA3 n X Y E S g t)))), (0, .ref zsc), (1, .ref 0), (3, .int (nI n)), (4, .int (nI F)), (5, .int wv), (6, .int (nI j)), (8, .int (nI (zMl g k))), (9, .long a), (11, .long b), (13, .long c), (15, .int sm), (16, .int (nI t))] [] τ3) ∧ (¬ (¬ sm = 0) → V 338 [(17, .long (((a * (zA1 n X Y E g t)) + (b * (zA2 n X Y E g t))) + (c * (zA3 n X Y E S g t)))), (0, .ref zsc), (1, .ref 0), (3, .int (nI n)), (4, .int (nI F)), (5, .int wv), (6, .int (nI j)), (8, .int (nI (zMl g k))), (9, .long a), (11, .long b), (13, .long c), (15, .int sm), (16, .int (nI t))] [] τ3)
    refine ⟨fun h_335 => ?_, fun h_335 => ?_⟩
    · skip
      refine zq (σ := τ3) hV hs3.1.1 hs3.1.2 7 ?_
      show (0 ≤ (lg_cmp (((a * (zA1 n X Y E g t)) + (b * (zA2 n X Y E g t))) + (c * (zA3 n X Y E S g t))) 0) → V 361 [(15, .int 1), (17, .long (((a * (zA1 n X Y E g t)) + (b * (zA2 n X Y E g t))) + (c * (zA3 n X Y E S g t)))), (0, .ref zsc), (1, .ref 0), (3, .int (nI n)), (4, .int (nI F)), (5, .int wv), (6, .int (nI j)), (8, .int (nI (zMl g k))), (9, .long a), (11, .long b), (13, .long c), (16, .int (nI t))] [] τ3) ∧ (¬ 0 ≤ (lg_cmp (((a * (zA1 n X Y E g t)) + (b * (zA2 n X Y E g t))) + (c * (zA3 n X Y E S g t))) 0) → V 359 [(15, .int 1), (17, .long (((a * (zA1 n X Y E g t)) + (b * (zA2 n X Y E g t))) + (c * (zA3 n X Y E S g t)))), (0, .ref zsc), (1, .ref 0), (3, .int (nI n)), (4, .int (nI F)), (5, .int wv), (6, .int (nI j)), (8, .int (nI (zMl g k))), (9, .long a), (11, .long b), (13, .long c), (16, .int (nI t))] [] τ3)
      refine ⟨fun _ => ?_, fun hc => absurd (zcmp_ge.mpr (Int64.not_lt.mp (hge t (by omega)))) hc⟩
      refine zq (σ := τ3) hV hs3.1.1 hs3.1.2 2 ?_
      show V 292 [(16, .int ((nI t) + 1)), (15, .int 1), (17, .long (((a * (zA1 n X Y E g t)) + (b * (zA2 n X Y E g t))) + (c * (zA3 n X Y E S g t)))), (0, .ref zsc), (1, .ref 0), (3, .int (nI n)), (4, .int (nI F)), (5, .int wv), (6, .int (nI j)), (8, .int (nI (zMl g k))), (9, .long a), (11, .long b), (13, .long c)] [] τ3
      refine zwk hV [3, 4, 5, 6, 7, 8, 9, 10, 11, 12, 1, 0] rfl ?_
      rw [nI_1 t]
      exact ihB (t + 1) _ _ (by omega) hs3 (Or.inl rfl)
    · skip
      have h_335 := Classical.not_not.mp h_335
      refine zq (σ := τ3) hV hs3.1.1 hs3.1.2 4 ?_
      show ((lg_cmp (((a * (zA1 n X Y E g t)) + (b * (zA2 n X Y E g t))) + (c * (zA3 n X Y E S g t))) 0) ≤ 0 → V 349 [(17, .long (((a * (zA1 n X Y E g t)) + (b * (zA2 n X Y E g t))) + (c * (zA3 n X Y E S g t)))), (0, .ref zsc), (1, .ref 0), (3, .int (nI n)), (4, .int (nI F)), (5, .int wv), (6, .int (nI j)), (8, .int (nI (zMl g k))), (9, .long a), (11, .long b), (13, .long c), (15, .int sm), (16, .int (nI t))] [] τ3) ∧ (¬ (lg_cmp (((a * (zA1 n X Y E g t)) + (b * (zA2 n X Y E g t))) + (c * (zA3 n X Y E S g t))) 0) ≤ 0 → V 345 [(17, .long (((a * (zA1 n X Y E g t)) + (b * (zA2 n X Y E g t))) + (c * (zA3 n X Y E S g t)))), (0, .ref zsc), (1, .ref 0), (3, .int (nI n)), (4, .int (nI F)), (5, .int wv), (6, .int (nI j)), (8, .int (nI (zMl g k))), (9, .long a), (11, .long b), (13, .long c), (15, .int sm), (16, .int (nI t))] [] τ3)
      refine ⟨fun h_342 => ?_, fun h_342 => ?_⟩
      · skip
        refine zq (σ := τ3) hV hs3.1.1 hs3.1.2 6 ?_
        show (0 ≤ (lg_cmp (((a * (zA1 n X Y E g t)) + (b * (zA2 n X Y E g t))) + (c * (zA3 n X Y E S g t))) 0) → V 361 [(15, .int 0), (17, .long (((a * (zA1 n X Y E g t)) + (b * (zA2 n X Y E g t))) + (c * (zA3 n X Y E S g t)))), (0, .ref zsc), (1, .ref 0), (3, .int (nI n)), (4, .int (nI F)), (5, .int wv), (6, .int (nI j)), (8, .int (nI (zMl g k))), (9, .long a), (11, .long b), (13, .long c), (16, .int (nI t))] [] τ3) ∧ (¬ 0 ≤ (lg_cmp (((a * (zA1 n X Y E g t)) + (b * (zA2 n X Y E g t))) + (c * (zA3 n X Y E S g t))) 0) → V 359 [(15, .int 0), (17, .long (((a * (zA1 n X Y E g t)) + (b * (zA2 n X Y E g t))) + (c * (zA3 n X Y E S g t)))), (0, .ref zsc), (1, .ref 0), (3, .int (nI n)), (4, .int (nI F)), (5, .int wv), (6, .int (nI j)), (8, .int (nI (zMl g k))), (9, .long a), (11, .long b), (13, .long c), (16, .int (nI t))] [] τ3)
        refine ⟨fun _ => ?_, fun hc => absurd (zcmp_ge.mpr (Int64.not_lt.mp (hge t (by omega)))) hc⟩
        refine zq (σ := τ3) hV hs3.1.1 hs3.1.2 2 ?_
        show V 292 [(16, .int ((nI t) + 1)), (15, .int 0), (17, .long (((a * (zA1 n X Y E g t)) + (b * (zA2 n X Y E g t))) + (c * (zA3 n X Y E S g t)))), (0, .ref zsc), (1, .ref 0), (3, .int (nI n)), (4, .int (nI F)), (5, .int wv), (6, .int (nI j)), (8, .int (nI (zMl g k))), (9, .long a), (11, .long b), (13, .long c)] [] τ3
        refine zwk hV [3, 4, 5, 6, 7, 8, 9, 10, 11, 12, 1, 0] rfl ?_
        rw [nI_1 t]
        refine ihB (t + 1) _ _ (by omega) hs3 (Or.inr ⟨rfl, fun i hi => ?_⟩)
        by_cases e : i = t
        · rw [e]; exact Int64.not_lt.mpr (zcmp_le.mp h_342)
        · rcases hsm with h | ⟨_, h⟩
          · rw [h] at h_335; exact absurd h_335 (by decide)
          · exact h i (by omega)
      · skip
        refine zq (σ := τ3) hV hs3.1.1 hs3.1.2 7 ?_
        show (0 ≤ (lg_cmp (((a * (zA1 n X Y E g t)) + (b * (zA2 n X Y E g t))) + (c * (zA3 n X Y E S g t))) 0) → V 361 [(15, .int 1), (17, .long (((a * (zA1 n X Y E g t)) + (b * (zA2 n X Y E g t))) + (c * (zA3 n X Y E S g t)))), (0, .ref zsc), (1, .ref 0), (3, .int (nI n)), (4, .int (nI F)), (5, .int wv), (6, .int (nI j)), (8, .int (nI (zMl g k))), (9, .long a), (11, .long b), (13, .long c), (16, .int (nI t))] [] τ3) ∧ (¬ 0 ≤ (lg_cmp (((a * (zA1 n X Y E g t)) + (b * (zA2 n X Y E g t))) + (c * (zA3 n X Y E S g t))) 0) → V 359 [(15, .int 1), (17, .long (((a * (zA1 n X Y E g t)) + (b * (zA2 n X Y E g t))) + (c * (zA3 n X Y E S g t)))), (0, .ref zsc), (1, .ref 0), (3, .int (nI n)), (4, .int (nI F)), (5, .int wv), (6, .int (nI j)), (8, .int (nI (zMl g k))), (9, .long a), (11, .long b), (13, .long c), (16, .int (nI t))] [] τ3)
        refine ⟨fun _ => ?_, fun hc => absurd (zcmp_ge.mpr (Int64.not_lt.mp (hge t (by omega)))) hc⟩
        refine zq (σ := τ3) hV hs3.1.1 hs3.1.2 2 ?_
        show V 292 [(16, .int ((nI t) + 1)), (15, .int 1), (17, .long (((a * (zA1 n X Y E g t)) + (b * (zA2 n X Y E g t))) + (c * (zA3 n X Y E S g t)))), (0, .ref zsc), (1, .ref 0), (3, .int (nI n)), (4, .int (nI F)), (5, .int wv), (6, .int (nI j)), (8, .int (nI (zMl g k))), (9, .long a), (11, .long b), (13, .long c)] [] τ3
        refine zwk hV [3, 4, 5, 6, 7, 8, 9, 10, 11, 12, 1, 0] rfl ?_
        rw [nI_1 t]
        exact ihB (t + 1) _ _ (by omega) hs3 (Or.inl rfl)
end
section
variable {zx : Nat × (Nat → Int32)} {n k s F j M : Nat} {X Y E S su sv sw : Nat → Int32} {g f0 wv : Int32} {V : Nat → zLo → List Value → zSt → Prop}
set_option maxRecDepth 8000 in
set_option maxHeartbeats 4000000 in
theorem zlD (hV : zOk (zSp zx 7) zx mL_law 31 V (fun (r : Option Value) (_ : zSt) => r = some (.int 1))) (hn10 : n ≤ 10) (hB : zHB n X Y) (hL : zx.1 ≤ 260) (hj : j < 8) (hE : zEs n E S (j + 1)) (hf0 : zBt 0 16 f0) (hSq : S j = nI (zUp (zCe zx (10 + j) >>> (4 &&& 31)) 9)) (hwv : wv ≤ zWh n X Y E S f0 (j + 1)) (hnx : ∀ (g : Int32) (τ : zSt) (w1 : Int32), zBt 0 16 g → w1 = zWh n X Y E S f0 (j + 1) → zLS n X Y E S (j + 1) g s su sv sw τ → V 440 [(0, .ref zsc), (1, .ref 0), (3, .int (nI n)), (4, .int (nI F)), (5, .int w1), (6, .int (nI j))] [] τ) {τ : zSt} (hs : zLS n X Y E S (j + 1) f0 s su sv sw τ) : V 121 [(0, .ref zsc), (1, .ref 0), (3, .int (nI n)), (4, .int (nI F)), (5, .int wv), (6, .int (nI j))] [] τ := by
  have hm16 := @zMl_le f0 (j + 1) (by omega)
  have H395 : ∀ (w1 : Int32) (τ : zSt), w1 = zWh n X Y E S f0 (j + 1) → zLS n X Y E S (j + 1) f0 s su sv sw τ → V 395 [(0, .ref zsc), (1, .ref 0), (3, .int (nI n)), (4, .int (nI F)), (5, .int w1), (6, .int (nI j))] [] τ := by
    intro w1 τ hw1 hs
    refine zq (σ := τ) hV hs.1.1 hs.1.2 4 ?_
    show V 401 [(12, .int 0), (11, .int (-1)), (0, .ref zsc), (1, .ref 0), (3, .int (nI n)), (4, .int (nI F)), (5, .int w1), (6, .int (nI j))] [] τ
    refine zwk hV [2, 3, 4, 5, 6, 7, 1, 0] rfl ?_
    exact zlA hV hn10 hB (by omega) hE (fun g τ hg hs => hnx g τ w1 hg hw1 hs) 5 0 f0 _ (-1) rfl hf0 hs (Or.inl ⟨rfl, rfl⟩)
  have H210 : ∀ τ : zSt, zLS n X Y E S (j + 1) f0 s su sv sw τ → V 210 [(0, .ref zsc), (1, .ref 0), (3, .int (nI n)), (4, .int (nI F)), (5, .int (zWh n X Y E S f0 (j + 1))), (6, .int (nI j)), (7, .int (zWh n X Y E S f0 (j + 1))), (8, .int (nI (zMl f0 (j + 1))))] [] τ := by
    intro τ hs
    by_cases hh : zHo n X Y f0 E S (j + 1)
    · skip
      rw [zWh_t hh]
      refine zq (σ := τ) hV hs.1.1 hs.1.2 3 ?_
      show zSp _ _ 60 [.ref 0, .int 0] τ (fun r σ' => σ'.2.2.2 = τ.2.2.2 + zAl 60 → V 215 [(0, .ref zsc), (1, .ref 0), (3, .int (nI n)), (4, .int (nI F)), (5, .int 1), (6, .int (nI j)), (7, .int 1), (8, .int (nI (zMl f0 (j + 1))))] (r.toList ++ []) σ')
      refine witness_L hs hn10 (by omega) hE ⟨by decide, by decide⟩ (fun τ1 u0 v0 hs1 hw0 _ => ?_) (fun τ1 hs1 hno _ => ?_)
      · skip
        exact (zWt_no hh hw0).elim
      · skip
        refine zq (σ := τ1) hV hs1.1.1 hs1.1.2 4 ?_
        show (¬ (1 : Int32) = 1 → V 263 [(9, .long (-9223372036854775805)), (0, .ref zsc), (1, .ref 0), (3, .int (nI n)), (4, .int (nI F)), (5, .int 1), (6, .int (nI j)), (7, .int 1), (8, .int (nI (zMl f0 (j + 1))))] [] τ1) ∧ (¬ (¬ (1 : Int32) = 1) → V 223 [(9, .long (-9223372036854775805)), (0, .ref zsc), (1, .ref 0), (3, .int (nI n)), (4, .int (nI F)), (5, .int 1), (6, .int (nI j)), (7, .int 1), (8, .int (nI (zMl f0 (j + 1))))] [] τ1)
        refine ⟨fun hc => absurd hc (by decide), fun _ => ?_⟩
        refine zq (σ := τ1) hV hs1.1.1 hs1.1.2 4 ?_
        show (¬ (lg_cmp (-9223372036854775805) (-9223372036854775805)) = 0 → V 261 [(9, .long (-9223372036854775805)), (0, .ref zsc), (1, .ref 0), (3, .int (nI n)), (4, .int (nI F)), (5, .int 1), (6, .int (nI j)), (7, .int 1), (8, .int (nI (zMl f0 (j + 1))))] [] τ1) ∧ (¬ (¬ (lg_cmp (-9223372036854775805) (-9223372036854775805)) = 0) → V 232 [(9, .long (-9223372036854775805)), (0, .ref zsc), (1, .ref 0), (3, .int (nI n)), (4, .int (nI F)), (5, .int 1), (6, .int (nI j)), (7, .int 1), (8, .int (nI (zMl f0 (j + 1))))] [] τ1)
        refine ⟨fun hc => absurd hc (fun y => y (zcmp_eq.mpr rfl)), fun _ => ?_⟩
        refine zq (σ := τ1) hV hs1.1.1 hs1.1.2 3 ?_
        show zSp _ _ 61 [.ref 0, .int (nI j)] τ1 (fun r σ' => σ'.2.2.2 = τ1.2.2.2 + zAl 61 → V 238 [(9, .long (-9223372036854775805)), (0, .ref zsc), (1, .ref 0), (3, .int (nI n)), (4, .int (nI F)), (5, .int 1), (6, .int (nI j)), (7, .int 1), (8, .int (nI (zMl f0 (j + 1))))] (r.toList ++ []) σ')
        refine free_L hs1 hn10 (by omega) hE (j := j) rfl (by omega) (fun τ2 hs2 _ => ?_)
        refine zq (σ := τ2) hV hs2.1.1 hs2.1.2 5 ?_
        show zSp _ _ 82 [.ref zsc, .int (10 + (nI j))] τ2 (fun r σ' => σ'.2.2.2 = τ2.2.2.2 + zAl 82 → V 247 [(9, .long (-9223372036854775805)), (0, .ref zsc), (1, .ref 0), (3, .int (nI n)), (4, .int (nI F)), (5, .int 1), (6, .int (nI j)), (7, .int 1), (8, .int (nI (zMl f0 (j + 1))))] (r.toList ++ [.int (zFree n X Y f0 E S (j + 1) j)]) σ')
        refine cell_ok hL (k := (10 + j)) (zn_a (a := 10) (b := j) rfl rfl) (by omega) (fun _ => ?_)
        refine zq (σ := τ2) hV hs2.1.1 hs2.1.2 4 ?_
        show zSp _ _ 83 [.int ((zCe zx (10 + j)) >>> (4 &&& 31)), .int 9] τ2 (fun r σ' => σ'.2.2.2 = τ2.2.2.2 + zAl 83 → V 254 [(9, .long (-9223372036854775805)), (0, .ref zsc), (1, .ref 0), (3, .int (nI n)), (4, .int (nI F)), (5, .int 1), (6, .int (nI j)), (7, .int 1), (8, .int (nI (zMl f0 (j + 1))))] (r.toList ++ [.int (zFree n X Y f0 E S (j + 1) j)]) σ')
        refine up_ok (n := 9) rfl (by omega) (by omega) (fun _ => ?_)
        refine zq (σ := τ2) hV hs2.1.1 hs2.1.2 5 ?_
        show ((((zFree n X Y f0 E S (j + 1) j) >>> ((nI (zUp ((zCe zx (10 + j)) >>> (4 &&& 31)) 9)) &&& 31)) &&& 1) = 1 → V 395 [(9, .long (-9223372036854775805)), (0, .ref zsc), (1, .ref 0), (3, .int (nI n)), (4, .int (nI F)), (5, .int 1), (6, .int (nI j)), (7, .int 1), (8, .int (nI (zMl f0 (j + 1))))] [] τ2) ∧ (¬ (((zFree n X Y f0 E S (j + 1) j) >>> ((nI (zUp ((zCe zx (10 + j)) >>> (4 &&& 31)) 9)) &&& 31)) &&& 1) = 1 → V 261 [(9, .long (-9223372036854775805)), (0, .ref zsc), (1, .ref 0), (3, .int (nI n)), (4, .int (nI F)), (5, .int 1), (6, .int (nI j)), (7, .int 1), (8, .int (nI (zMl f0 (j + 1))))] [] τ2)
        refine ⟨fun _ => ?_, fun hc => absurd (zfree_bit hh (zUp_lt (by decide)) hSq) hc⟩
        refine zwk hV [1, 2, 3, 4, 5, 6] rfl ?_
        exact H395 _ _ (zWh_t hh).symm hs2
    · skip
      rw [zWh_f hh]
      refine zq (σ := τ) hV hs.1.1 hs.1.2 3 ?_
      show zSp _ _ 60 [.ref 0, .int 0] τ (fun r σ' => σ'.2.2.2 = τ.2.2.2 + zAl 60 → V 215 [(0, .ref zsc), (1, .ref 0), (3, .int (nI n)), (4, .int (nI F)), (5, .int 0), (6, .int (nI j)), (7, .int 0), (8, .int (nI (zMl f0 (j + 1))))] (r.toList ++ []) σ')
      refine witness_L hs hn10 (by omega) hE ⟨by decide, by decide⟩ (fun τ3 u0 v0 hs3 hw0 _ => ?_) (fun τ3 hs3 hno _ => ?_)
      · skip
        rw [if_pos rfl]
        refine zq (σ := τ3) hV hs3.1.1 hs3.1.2 4 ?_
        show (¬ (0 : Int32) = 1 → V 263 [(9, .long (zW1 n X Y E S f0 (j + 1) u0 v0)), (0, .ref zsc), (1, .ref 0), (3, .int (nI n)), (4, .int (nI F)), (5, .int 0), (6, .int (nI j)), (7, .int 0), (8, .int (nI (zMl f0 (j + 1))))] [] τ3) ∧ (¬ (¬ (0 : Int32) = 1) → V 223 [(9, .long (zW1 n X Y E S f0 (j + 1) u0 v0)), (0, .ref zsc), (1, .ref 0), (3, .int (nI n)), (4, .int (nI F)), (5, .int 0), (6, .int (nI j)), (7, .int 0), (8, .int (nI (zMl f0 (j + 1))))] [] τ3)
        refine ⟨fun _ => ?_, fun hc => absurd (by decide) hc⟩
        refine zq (σ := τ3) hV hs3.1.1 hs3.1.2 4 ?_
        show ((lg_cmp (zW1 n X Y E S f0 (j + 1) u0 v0) (-9223372036854775805)) = 0 → V 395 [(9, .long (zW1 n X Y E S f0 (j + 1) u0 v0)), (0, .ref zsc), (1, .ref 0), (3, .int (nI n)), (4, .int (nI F)), (5, .int 0), (6, .int (nI j)), (7, .int 0), (8, .int (nI (zMl f0 (j + 1))))] [] τ3) ∧ (¬ (lg_cmp (zW1 n X Y E S f0 (j + 1) u0 v0) (-9223372036854775805)) = 0 → V 272 [(9, .long (zW1 n X Y E S f0 (j + 1) u0 v0)), (0, .ref zsc), (1, .ref 0), (3, .int (nI n)), (4, .int (nI F)), (5, .int 0), (6, .int (nI j)), (7, .int 0), (8, .int (nI (zMl f0 (j + 1))))] [] τ3)
        refine ⟨fun h_269 => ?_, fun h_269 => ?_⟩
        · skip
          refine zwk hV [1, 2, 3, 4, 5, 6] rfl ?_
          exact H395 _ _ (zWh_f hh).symm hs3
        · skip
          refine zq (σ := τ3) hV hs3.1.1 hs3.1.2 3 ?_
          show zSp _ _ 60 [.ref 0, .int 1] τ3 (fun r σ' => σ'.2.2.2 = τ3.2.2.2 + zAl 60 → V 277 [(9, .long (zW1 n X Y E S f0 (j + 1) u0 v0)), (0, .ref zsc), (1, .ref 0), (3, .int (nI n)), (4, .int (nI F)), (5, .int 0), (6, .int (nI j)), (7, .int 0), (8, .int (nI (zMl f0 (j + 1))))] (r.toList ++ []) σ')
          refine witness_L hs3 hn10 (by omega) hE ⟨by decide, by decide⟩ (fun τ4 u1 v1 hs4 hw1 _ => ?_) (fun τ4 hs4 hno _ => ?_)
          · skip
            rw [if_neg (by decide), if_pos rfl]
            rw [← (zWt_one hw0 hw1).1, ← (zWt_one hw0 hw1).2]
            refine zq (σ := τ4) hV hs4.1.1 hs4.1.2 4 ?_
            show zSp _ _ 60 [.ref 0, .int 2] τ4 (fun r σ' => σ'.2.2.2 = τ4.2.2.2 + zAl 60 → V 284 [(11, .long (zW2 n X Y E S f0 (j + 1) u0 v0)), (9, .long (zW1 n X Y E S f0 (j + 1) u0 v0)), (0, .ref zsc), (1, .ref 0), (3, .int (nI n)), (4, .int (nI F)), (5, .int 0), (6, .int (nI j)), (7, .int 0), (8, .int (nI (zMl f0 (j + 1))))] (r.toList ++ []) σ')
            refine witness_L hs4 hn10 (by omega) hE ⟨by decide, by decide⟩ (fun τ5 u2 v2 hs5 hw2 _ => ?_) (fun τ5 hs5 hno _ => ?_)
            · skip
              rw [if_neg (by decide), if_neg (by decide)]
              rw [← (zWt_one hw0 hw2).1, ← (zWt_one hw0 hw2).2]
              refine zq (σ := τ5) hV hs5.1.1 hs5.1.2 5 ?_
              show V 292 [(16, .int 0), (15, .int 0), (13, .long (zW3 n X Y E S f0 (j + 1) u0 v0)), (11, .long (zW2 n X Y E S f0 (j + 1) u0 v0)), (9, .long (zW1 n X Y E S f0 (j + 1) u0 v0)), (0, .ref zsc), (1, .ref 0), (3, .int (nI n)), (4, .int (nI F)), (5, .int 0), (6, .int (nI j)), (7, .int 0), (8, .int (nI (zMl f0 (j + 1))))] [] τ5
              refine zwk hV [5, 6, 7, 8, 9, 10, 12, 4, 3, 2, 1, 0] rfl ?_
              have hwi := zWit (zTB_T hB hf0 hE.1 hn10 hE.2) hw0.1.1.1 hw0.1.1.2.1 hw0.1.1.2.2.1 hw0.1.1.2.2.2 hw0.2
              refine zlB hV hn10 (by omega) hE hwi.1 hwi.2.1 (fun τ9 hs9 => ?_) (zMl f0 (j + 1)) 0 _ 0 (by omega) hs5 (Or.inr ⟨rfl, fun i hi => absurd hi (Nat.not_lt_zero i)⟩)
              refine zq (σ := τ9) hV hs9.1.1 hs9.1.2 2 ?_
              show ((1 : Int32) = 0 → V 393 [(0, .ref zsc), (1, .ref 0), (3, .int (nI n)), (4, .int (nI F)), (5, .int 0), (6, .int (nI j)), (8, .int (nI (zMl f0 (j + 1)))), (9, .long (zW1 n X Y E S f0 (j + 1) u0 v0)), (11, .long (zW2 n X Y E S f0 (j + 1) u0 v0)), (13, .long (zW3 n X Y E S f0 (j + 1) u0 v0)), (15, .int 1)] [] τ9) ∧ (¬ (1 : Int32) = 0 → V 372 [(0, .ref zsc), (1, .ref 0), (3, .int (nI n)), (4, .int (nI F)), (5, .int 0), (6, .int (nI j)), (8, .int (nI (zMl f0 (j + 1)))), (9, .long (zW1 n X Y E S f0 (j + 1) u0 v0)), (11, .long (zW2 n X Y E S f0 (j + 1) u0 v0)), (13, .long (zW3 n X Y E S f0 (j + 1) u0 v0)), (15, .int 1)] [] τ9)
              refine ⟨fun hc => absurd hc (by decide), fun _ => ?_⟩
              refine zq (σ := τ9) hV hs9.1.1 hs9.1.2 4 ?_
              show (¬ (lg_cmp (zW1 n X Y E S f0 (j + 1) u0 v0) 0) = 0 → V 395 [(0, .ref zsc), (1, .ref 0), (3, .int (nI n)), (4, .int (nI F)), (5, .int 0), (6, .int (nI j)), (8, .int (nI (zMl f0 (j + 1)))), (9, .long (zW1 n X Y E S f0 (j + 1) u0 v0)), (11, .long (zW2 n X Y E S f0 (j + 1) u0 v0)), (13, .long (zW3 n X Y E S f0 (j + 1) u0 v0)), (15, .int 1)] [] τ9) ∧ (¬ (¬ (lg_cmp (zW1 n X Y E S f0 (j + 1) u0 v0) 0) = 0) → V 379 [(0, .ref zsc), (1, .ref 0), (3, .int (nI n)), (4, .int (nI F)), (5, .int 0), (6, .int (nI j)), (8, .int (nI (zMl f0 (j + 1)))), (9, .long (zW1 n X Y E S f0 (j + 1) u0 v0)), (11, .long (zW2 n X Y E S f0 (j + 1) u0 v0)), (13, .long (zW3 n X Y E S f0 (j + 1) u0 v0)), (15, .int 1)] [] τ9)
              refine ⟨fun h_376 => ?_, fun h_376 => ?_⟩
              · skip
                refine zwk hV [0, 1, 2, 3, 4, 5] rfl ?_
                exact H395 _ _ (zWh_f hh).symm hs9
              · skip
                have h_376 := Classical.not_not.mp h_376
                refine zq (σ := τ9) hV hs9.1.1 hs9.1.2 4 ?_
                show (¬ (lg_cmp (zW2 n X Y E S f0 (j + 1) u0 v0) 0) = 0 → V 395 [(0, .ref zsc), (1, .ref 0), (3, .int (nI n)), (4, .int (nI F)), (5, .int 0), (6, .int (nI j)), (8, .int (nI (zMl f0 (j + 1)))), (9, .long (zW1 n X Y E S f0 (j + 1) u0 v0)), (11, .long (zW2 n X Y E S f0 (j + 1) u0 v0)), (13, .long (zW3 n X Y E S f0 (j + 1) u0 v0)), (15, .int 1)] [] τ9) ∧ (¬ (¬ (lg_cmp (zW2 n X Y E S f0 (j + 1) u0 v0) 0) = 0) → V 386 [(0, .ref zsc), (1, .ref 0), (3, .int (nI n)), (4, .int (nI F)), (5, .int 0), (6, .int (nI j)), (8, .int (nI (zMl f0 (j + 1)))), (9, .long (zW1 n X Y E S f0 (j + 1) u0 v0)), (11, .long (zW2 n X Y E S f0 (j + 1) u0 v0)), (13, .long (zW3 n X Y E S f0 (j + 1) u0 v0)), (15, .int 1)] [] τ9)
                refine ⟨fun h_383 => ?_, fun h_383 => ?_⟩
                · skip
                  refine zwk hV [0, 1, 2, 3, 4, 5] rfl ?_
                  exact H395 _ _ (zWh_f hh).symm hs9
                · skip
                  have h_383 := Classical.not_not.mp h_383
                  refine zq (σ := τ9) hV hs9.1.1 hs9.1.2 4 ?_
                  show (¬ (lg_cmp (zW3 n X Y E S f0 (j + 1) u0 v0) 0) = 0 → V 395 [(0, .ref zsc), (1, .ref 0), (3, .int (nI n)), (4, .int (nI F)), (5, .int 0), (6, .int (nI j)), (8, .int (nI (zMl f0 (j + 1)))), (9, .long (zW1 n X Y E S f0 (j + 1) u0 v0)), (11, .long (zW2 n X Y E S f0 (j + 1) u0 v0)), (13, .long (zW3 n X Y E S f0 (j + 1) u0 v0)), (15, .int 1)] [] τ9) ∧ (¬ (¬ (lg_cmp (zW3 n X Y E S f0 (j + 1) u0 v0) 0) = 0) → V 393 [(0, .ref zsc), (1, .ref 0), (3, .int (nI n)), (4, .int (nI F)), (5, .int 0), (6, .int (nI j)), (8, .int (nI (zMl f0 (j + 1)))), (9, .long (zW1 n X Y E S f0 (j + 1) u0 v0)), (11, .long (zW2 n X Y E S f0 (j + 1) u0 v0)), (13, .long (zW3 n X Y E S f0 (j + 1) u0 v0)), (15, .int 1)] [] τ9)
                  refine ⟨fun h_390 => ?_, fun h_390 => ?_⟩
                  · skip
                    refine zwk hV [0, 1, 2, 3, 4, 5] rfl ?_
                    exact H395 _ _ (zWh_f hh).symm hs9
                  · skip
                    have h_390 := Classical.not_not.mp h_390
                    exact absurd ⟨zcmp_eq.mp h_376, zcmp_eq.mp h_383, zcmp_eq.mp h_390⟩ hwi.2.2
            · skip
              exact absurd hw0 (hno u0 v0)
          · skip
            exact absurd hw0 (hno u0 v0)
      · skip
        refine zq (σ := τ3) hV hs3.1.1 hs3.1.2 4 ?_
        show (¬ (0 : Int32) = 1 → V 263 [(9, .long (-9223372036854775805)), (0, .ref zsc), (1, .ref 0), (3, .int (nI n)), (4, .int (nI F)), (5, .int 0), (6, .int (nI j)), (7, .int 0), (8, .int (nI (zMl f0 (j + 1))))] [] τ3) ∧ (¬ (¬ (0 : Int32) = 1) → V 223 [(9, .long (-9223372036854775805)), (0, .ref zsc), (1, .ref 0), (3, .int (nI n)), (4, .int (nI F)), (5, .int 0), (6, .int (nI j)), (7, .int 0), (8, .int (nI (zMl f0 (j + 1))))] [] τ3)
        refine ⟨fun _ => ?_, fun hc => absurd (by decide) hc⟩
        refine zq (σ := τ3) hV hs3.1.1 hs3.1.2 4 ?_
        show ((lg_cmp (-9223372036854775805) (-9223372036854775805)) = 0 → V 395 [(9, .long (-9223372036854775805)), (0, .ref zsc), (1, .ref 0), (3, .int (nI n)), (4, .int (nI F)), (5, .int 0), (6, .int (nI j)), (7, .int 0), (8, .int (nI (zMl f0 (j + 1))))] [] τ3) ∧ (¬ (lg_cmp (-9223372036854775805) (-9223372036854775805)) = 0 → V 272 [(9, .long (-9223372036854775805)), (0, .ref zsc), (1, .ref 0), (3, .int (nI n)), (4, .int (nI F)), (5, .int 0), (6, .int (nI j)), (7, .int 0), (8, .int (nI (zMl f0 (j + 1))))] [] τ3)
        refine ⟨fun _ => ?_, fun hc => absurd (zcmp_eq.mpr rfl) hc⟩
        refine zwk hV [1, 2, 3, 4, 5, 6] rfl ?_
        exact H395 _ _ (zWh_f hh).symm hs3
  have H170 : ∀ τ : zSt, zLS n X Y E S (j + 1) f0 s su sv sw τ → V 170 [(0, .ref zsc), (1, .ref 0), (3, .int (nI n)), (4, .int (nI F)), (5, .int (zWh n X Y E S f0 (j + 1))), (6, .int (nI j)), (7, .int (zWh n X Y E S f0 (j + 1))), (8, .int (nI (zMl f0 (j + 1))))] [] τ := by
    intro τ hs
    have hm4 : ¬ 4 ≤ nI (zMl f0 (j + 1)) → zMl f0 (j + 1) < 4 := fun y => Nat.not_le.mp (fun q => y (nI_le (a := 4) (b := zMl f0 (j + 1)) q (by omega)))
    refine zq (σ := τ) hV hs.1.1 hs.1.2 4 ?_
    show zSp _ _ 71 [.ref 0, .int 2] τ (fun r σ' => σ'.2.2.2 = τ.2.2.2 + zAl 71 → V 177 [(0, .ref zsc), (1, .ref 0), (3, .int (nI n)), (4, .int (nI F)), (5, .int (zWh n X Y E S f0 (j + 1))), (6, .int (nI j)), (7, .int (zWh n X Y E S f0 (j + 1))), (8, .int (nI (zMl f0 (j + 1))))] (r.toList ++ [.int (nI (zMl f0 (j + 1)))]) σ')
    refine count_L2 hs (fun _ => ?_)
    refine zq (σ := τ) hV hs.1.1 hs.1.2 1 ?_
    show (¬ f0 = 0 → V 187 [(0, .ref zsc), (1, .ref 0), (3, .int (nI n)), (4, .int (nI F)), (5, .int (zWh n X Y E S f0 (j + 1))), (6, .int (nI j)), (7, .int (zWh n X Y E S f0 (j + 1))), (8, .int (nI (zMl f0 (j + 1))))] [.int (nI (zMl f0 (j + 1)))] τ) ∧ (¬ (¬ f0 = 0) → V 180 [(0, .ref zsc), (1, .ref 0), (3, .int (nI n)), (4, .int (nI F)), (5, .int (zWh n X Y E S f0 (j + 1))), (6, .int (nI j)), (7, .int (zWh n X Y E S f0 (j + 1))), (8, .int (nI (zMl f0 (j + 1))))] [.int (nI (zMl f0 (j + 1)))] τ)
    refine ⟨fun h_177 => ?_, fun h_177 => ?_⟩
    · skip
      have hml1 : zMl f0 (j + 1) = 2 * j + 2 := by rw [zMl_1 h_177]; omega
      refine zq (σ := τ) hV hs.1.1 hs.1.2 6 ?_
      show (¬ (nI (zMl f0 (j + 1))) = ((2 * (nI j)) + 2) → V 208 [(0, .ref zsc), (1, .ref 0), (3, .int (nI n)), (4, .int (nI F)), (5, .int (zWh n X Y E S f0 (j + 1))), (6, .int (nI j)), (7, .int (zWh n X Y E S f0 (j + 1))), (8, .int (nI (zMl f0 (j + 1))))] [] τ) ∧ (¬ (¬ (nI (zMl f0 (j + 1))) = ((2 * (nI j)) + 2)) → V 196 [(0, .ref zsc), (1, .ref 0), (3, .int (nI n)), (4, .int (nI F)), (5, .int (zWh n X Y E S f0 (j + 1))), (6, .int (nI j)), (7, .int (zWh n X Y E S f0 (j + 1))), (8, .int (nI (zMl f0 (j + 1))))] [] τ)
      refine ⟨fun hc => absurd hc (fun y => y (by rw [hml1]; exact (zn_a (a := 2 * j) (b := 2) (zn_m (a := 2) (b := j) rfl rfl) rfl).symm)), fun _ => ?_⟩
      refine zq (σ := τ) hV hs.1.1 hs.1.2 3 ?_
      show (4 ≤ (nI (zMl f0 (j + 1))) → V 210 [(0, .ref zsc), (1, .ref 0), (3, .int (nI n)), (4, .int (nI F)), (5, .int (zWh n X Y E S f0 (j + 1))), (6, .int (nI j)), (7, .int (zWh n X Y E S f0 (j + 1))), (8, .int (nI (zMl f0 (j + 1))))] [] τ) ∧ (¬ 4 ≤ (nI (zMl f0 (j + 1))) → V 202 [(0, .ref zsc), (1, .ref 0), (3, .int (nI n)), (4, .int (nI F)), (5, .int (zWh n X Y E S f0 (j + 1))), (6, .int (nI j)), (7, .int (zWh n X Y E S f0 (j + 1))), (8, .int (nI (zMl f0 (j + 1))))] [] τ)
      refine ⟨fun h_199 => ?_, fun h_199 => ?_⟩
      · skip
        refine zwk hV [0, 1, 2, 3, 4, 5, 6, 7] rfl ?_
        exact H210 _ hs
      · skip
        refine zq (σ := τ) hV hs.1.1 hs.1.2 3 ?_
        show (¬ (zWh n X Y E S f0 (j + 1)) = 1 → V 210 [(0, .ref zsc), (1, .ref 0), (3, .int (nI n)), (4, .int (nI F)), (5, .int (zWh n X Y E S f0 (j + 1))), (6, .int (nI j)), (7, .int (zWh n X Y E S f0 (j + 1))), (8, .int (nI (zMl f0 (j + 1))))] [] τ) ∧ (¬ (¬ (zWh n X Y E S f0 (j + 1)) = 1) → V 208 [(0, .ref zsc), (1, .ref 0), (3, .int (nI n)), (4, .int (nI F)), (5, .int (zWh n X Y E S f0 (j + 1))), (6, .int (nI j)), (7, .int (zWh n X Y E S f0 (j + 1))), (8, .int (nI (zMl f0 (j + 1))))] [] τ)
        refine ⟨fun _ => ?_, fun hc => absurd (by rw [zWh_f (zHo_few hB hf0 hn10 hE.1 hE.2 (hm4 h_199))]; decide) hc⟩
        refine zwk hV [0, 1, 2, 3, 4, 5, 6, 7] rfl ?_
        exact H210 _ hs
    · skip
      have h_177 := Classical.not_not.mp h_177
      have hml0 : zMl f0 (j + 1) = j + 1 := zMl_0 h_177 _
      refine zq (σ := τ) hV hs.1.1 hs.1.2 5 ?_
      show (¬ (nI (zMl f0 (j + 1))) = ((nI j) + 1) → V 208 [(0, .ref zsc), (1, .ref 0), (3, .int (nI n)), (4, .int (nI F)), (5, .int (zWh n X Y E S f0 (j + 1))), (6, .int (nI j)), (7, .int (zWh n X Y E S f0 (j + 1))), (8, .int (nI (zMl f0 (j + 1))))] [] τ) ∧ (¬ (¬ (nI (zMl f0 (j + 1))) = ((nI j) + 1)) → V 196 [(0, .ref zsc), (1, .ref 0), (3, .int (nI n)), (4, .int (nI F)), (5, .int (zWh n X Y E S f0 (j + 1))), (6, .int (nI j)), (7, .int (zWh n X Y E S f0 (j + 1))), (8, .int (nI (zMl f0 (j + 1))))] [] τ)
      refine ⟨fun hc => absurd hc (fun y => y (by rw [hml0, nI_1])), fun _ => ?_⟩
      refine zq (σ := τ) hV hs.1.1 hs.1.2 3 ?_
      show (4 ≤ (nI (zMl f0 (j + 1))) → V 210 [(0, .ref zsc), (1, .ref 0), (3, .int (nI n)), (4, .int (nI F)), (5, .int (zWh n X Y E S f0 (j + 1))), (6, .int (nI j)), (7, .int (zWh n X Y E S f0 (j + 1))), (8, .int (nI (zMl f0 (j + 1))))] [] τ) ∧ (¬ 4 ≤ (nI (zMl f0 (j + 1))) → V 202 [(0, .ref zsc), (1, .ref 0), (3, .int (nI n)), (4, .int (nI F)), (5, .int (zWh n X Y E S f0 (j + 1))), (6, .int (nI j)), (7, .int (zWh n X Y E S f0 (j + 1))), (8, .int (nI (zMl f0 (j + 1))))] [] τ)
      refine ⟨fun h_199 => ?_, fun h_199 => ?_⟩
      · skip
        refine zwk hV [0, 1, 2, 3, 4, 5, 6, 7] rfl ?_
        exact H210 _ hs
      · skip
        refine zq (σ := τ) hV hs.1.1 hs.1.2 3 ?_
        show (¬ (zWh n X Y E S f0 (j + 1)) = 1 → V 210 [(0, .ref zsc), (1, .ref 0), (3, .int (nI n)), (4, .int (nI F)), (5, .int (zWh n X Y E S f0 (j + 1))), (6, .int (nI j)), (7, .int (zWh n X Y E S f0 (j + 1))), (8, .int (nI (zMl f0 (j + 1))))] [] τ) ∧ (¬ (¬ (zWh n X Y E S f0 (j + 1)) = 1) → V 208 [(0, .ref zsc), (1, .ref 0), (3, .int (nI n)), (4, .int (nI F)), (5, .int (zWh n X Y E S f0 (j + 1))), (6, .int (nI j)), (7, .int (zWh n X Y E S f0 (j + 1))), (8, .int (nI (zMl f0 (j + 1))))] [] τ)
        refine ⟨fun _ => ?_, fun hc => absurd (by rw [zWh_f (zHo_few hB hf0 hn10 hE.1 hE.2 (hm4 h_199))]; decide) hc⟩
        refine zwk hV [0, 1, 2, 3, 4, 5, 6, 7] rfl ?_
        exact H210 _ hs
  refine zq (σ := τ) hV hs.1.1 hs.1.2 2 ?_
  show zSp _ _ 59 [.ref 0] τ (fun r σ' => σ'.2.2.2 = τ.2.2.2 + zAl 59 → V 125 [(0, .ref zsc), (1, .ref 0), (3, .int (nI n)), (4, .int (nI F)), (5, .int wv), (6, .int (nI j))] (r.toList ++ []) σ')
  refine holds_L hs hn10 (by omega) hE (fun τ6 hs6 _ => ?_)
  refine zq (σ := τ6) hV hs6.1.1 hs6.1.2 4 ?_
  show (wv ≤ (zWh n X Y E S f0 (j + 1)) → V 136 [(7, .int (zWh n X Y E S f0 (j + 1))), (0, .ref zsc), (1, .ref 0), (3, .int (nI n)), (4, .int (nI F)), (5, .int wv), (6, .int (nI j))] [] τ6) ∧ (¬ wv ≤ (zWh n X Y E S f0 (j + 1)) → V 134 [(7, .int (zWh n X Y E S f0 (j + 1))), (0, .ref zsc), (1, .ref 0), (3, .int (nI n)), (4, .int (nI F)), (5, .int wv), (6, .int (nI j))] [] τ6)
  refine ⟨fun _ => ?_, fun hc => absurd hwv hc⟩
  refine zq (σ := τ6) hV hs6.1.1 hs6.1.2 4 ?_
  show V 143 [(8, .int 0), (5, .int (zWh n X Y E S f0 (j + 1))), (7, .int (zWh n X Y E S f0 (j + 1))), (0, .ref zsc), (1, .ref 0), (3, .int (nI n)), (4, .int (nI F)), (6, .int (nI j))] [] τ6
  refine zwk hV [3, 4, 5, 6, 1, 7, 2, 0] rfl ?_
  exact zlC hV hn10 (by omega) hE (fun τ hs => H170 τ hs) (zMl f0 (j + 1)) 0 τ6 (by omega) hs6
set_option maxRecDepth 8000 in
set_option maxHeartbeats 4000000 in
theorem zlK (hV : zOk (zSp zx 7) zx mL_law 31 V (fun (r : Option Value) (_ : zSt) => r = some (.int 1))) (hn10 : n ≤ 10) (hB : zHB n X Y) (hL : zx.1 ≤ 260) (hn4 : 4 ≤ n) (hF : F ≤ 7) (hf0 : zBt 0 16 (nI (zUp (zCe zx 8) 17))) (hnx : ∀ (E S : Nat → Int32) (g : Int32) (τ : zSt), zBt 0 16 g → zEs n E S F → zLS n X Y E S F g s su sv sw τ → V 446 [(0, .ref zsc), (1, .ref 0), (3, .int (nI n)), (4, .int (nI F))] [] τ) : ∀ (r j : Nat) (wv : Int32) (E S : Nat → Int32) (g : Int32) (τ : zSt), j + r = F → zBt 0 16 g → zEs n E S j → zLS n X Y E S j g s su sv sw τ → ((j = 0 ∧ wv = 0) ∨ wv = zWh n X Y E S (nI (zUp (zCe zx 8) 17)) j) → V 56 [(0, .ref zsc), (1, .ref 0), (3, .int (nI n)), (4, .int (nI F)), (5, .int wv), (6, .int (nI j))] [] τ := by
  intro r
  induction r with
  | zero =>
    intro j wv E S g τ hjr hg hE hs hwv
    refine zq (σ := τ) hV hs.1.1 hs.1.2 3 ?_
    show ((nI F) ≤ (nI j) → V 446 [(0, .ref zsc), (1, .ref 0), (3, .int (nI n)), (4, .int (nI F)), (5, .int wv), (6, .int (nI j))] [] τ) ∧ (¬ (nI F) ≤ (nI j) → V 63 [(0, .ref zsc), (1, .ref 0), (3, .int (nI n)), (4, .int (nI F)), (5, .int wv), (6, .int (nI j))] [] τ)
    refine ⟨fun _ => ?_, fun hc => absurd (nI_le (a := F) (b := j) (by omega) (by omega)) hc⟩
    refine zwk hV [0, 1, 2, 3] rfl ?_
    have e9 : j = F := by omega
    rw [e9] at hE hs
    exact hnx _ _ _ _ hg hE hs
  | succ r ihK =>
    intro j wv E S g τ hjr hg hE hs hwv
    refine zq (σ := τ) hV hs.1.1 hs.1.2 3 ?_
    show ((nI F) ≤ (nI j) → V 446 [(0, .ref zsc), (1, .ref 0), (3, .int (nI n)), (4, .int (nI F)), (5, .int wv), (6, .int (nI j))] [] τ) ∧ (¬ (nI F) ≤ (nI j) → V 63 [(0, .ref zsc), (1, .ref 0), (3, .int (nI n)), (4, .int (nI F)), (5, .int wv), (6, .int (nI j))] [] τ)
    refine ⟨fun hc => absurd hc (nI_ge (a := j) (b := F) (by omega) (by omega)), fun _ => ?_⟩
    refine zq (σ := τ) hV hs.1.1 hs.1.2 4 ?_
    show zSp _ _ 82 [.ref zsc, .int 8] τ (fun r σ' => σ'.2.2.2 = τ.2.2.2 + zAl 82 → V 70 [(0, .ref zsc), (1, .ref 0), (3, .int (nI n)), (4, .int (nI F)), (5, .int wv), (6, .int (nI j))] (r.toList ++ [.ref 0]) σ')
    refine cell_ok hL (k := 8) rfl (by omega) (fun _ => ?_)
    refine zq (σ := τ) hV hs.1.1 hs.1.2 2 ?_
    show zSp _ _ 83 [.int (zCe zx 8), .int 17] τ (fun r σ' => σ'.2.2.2 = τ.2.2.2 + zAl 83 → V 75 [(0, .ref zsc), (1, .ref 0), (3, .int (nI n)), (4, .int (nI F)), (5, .int wv), (6, .int (nI j))] (r.toList ++ [.ref 0]) σ')
    refine up_ok (n := 17) rfl (by omega) (by omega) (fun _ => ?_)
    refine zq (σ := τ) hV hs.1.1 hs.1.2 1 ?_
    show zSp _ _ 57 [.ref 0, .int (nI (zUp (zCe zx 8) 17))] τ (fun r σ' => σ'.2.2.2 = τ.2.2.2 + zAl 57 → V 78 [(0, .ref zsc), (1, .ref 0), (3, .int (nI n)), (4, .int (nI F)), (5, .int wv), (6, .int (nI j))] (r.toList ++ []) σ')
    refine friction_L hs hf0 (fun τ1 hs1 _ => ?_)
    refine zq (σ := τ1) hV hs1.1.1 hs1.1.2 1 ?_
    show (g < 0 → V 119 [(0, .ref zsc), (1, .ref 0), (3, .int (nI n)), (4, .int (nI F)), (5, .int wv), (6, .int (nI j))] [] τ1) ∧ (¬ g < 0 → V 81 [(0, .ref zsc), (1, .ref 0), (3, .int (nI n)), (4, .int (nI F)), (5, .int wv), (6, .int (nI j))] [] τ1)
    refine ⟨fun hc => absurd hc (zg_nn hg), fun _ => ?_⟩
    refine zq (σ := τ1) hV hs1.1.1 hs1.1.2 6 ?_
    show zSp _ _ 82 [.ref zsc, .int (10 + (nI j))] τ1 (fun r σ' => σ'.2.2.2 = τ1.2.2.2 + zAl 82 → V 91 [(0, .ref zsc), (1, .ref 0), (3, .int (nI n)), (4, .int (nI F)), (5, .int wv), (6, .int (nI j))] (r.toList ++ [.ref 0]) σ')
    refine cell_ok hL (k := (10 + j)) (zn_a (a := 10) (b := j) rfl rfl) (by omega) (fun _ => ?_)
    refine zq (σ := τ1) hV hs1.1.1 hs1.1.2 2 ?_
    show zSp _ _ 83 [.int (zCe zx (10 + j)), .int (nI n)] τ1 (fun r σ' => σ'.2.2.2 = τ1.2.2.2 + zAl 83 → V 95 [(0, .ref zsc), (1, .ref 0), (3, .int (nI n)), (4, .int (nI F)), (5, .int wv), (6, .int (nI j))] (r.toList ++ [.ref 0]) σ')
    refine up_ok (n := n) rfl (by omega) (by omega) (fun _ => ?_)
    refine zq (σ := τ1) hV hs1.1.1 hs1.1.2 5 ?_
    show zSp _ _ 82 [.ref zsc, .int (10 + (nI j))] τ1 (fun r σ' => σ'.2.2.2 = τ1.2.2.2 + zAl 82 → V 104 [(0, .ref zsc), (1, .ref 0), (3, .int (nI n)), (4, .int (nI F)), (5, .int wv), (6, .int (nI j))] (r.toList ++ [.int (nI (zUp (zCe zx (10 + j)) n)), .ref 0]) σ')
    refine cell_ok hL (k := (10 + j)) (zn_a (a := 10) (b := j) rfl rfl) (by omega) (fun _ => ?_)
    refine zq (σ := τ1) hV hs1.1.1 hs1.1.2 4 ?_
    show zSp _ _ 83 [.int ((zCe zx (10 + j)) >>> (4 &&& 31)), .int 9] τ1 (fun r σ' => σ'.2.2.2 = τ1.2.2.2 + zAl 83 → V 111 [(0, .ref zsc), (1, .ref 0), (3, .int (nI n)), (4, .int (nI F)), (5, .int wv), (6, .int (nI j))] (r.toList ++ [.int (nI (zUp (zCe zx (10 + j)) n)), .ref 0]) σ')
    refine up_ok (n := 9) rfl (by omega) (by omega) (fun _ => ?_)
    refine zq (σ := τ1) hV hs1.1.1 hs1.1.2 1 ?_
    show zSp _ _ 56 [.ref 0, .int (nI (zUp (zCe zx (10 + j)) n)), .int (nI (zUp ((zCe zx (10 + j)) >>> (4 &&& 31)) 9))] τ1 (fun r σ' => σ'.2.2.2 = τ1.2.2.2 + zAl 56 → V 114 [(0, .ref zsc), (1, .ref 0), (3, .int (nI n)), (4, .int (nI F)), (5, .int wv), (6, .int (nI j))] (r.toList ++ []) σ')
    refine finger_L hs1 hn10 (by omega) rfl (zUp_lt (by omega)) (zUp_b (by decide) (by decide) (by decide)) (fun τ2 hs2 _ => ?_)
    refine zq (σ := τ2) hV hs2.1.1 hs2.1.2 2 ?_
    show ((nI j) = (nI j) → V 121 [(0, .ref zsc), (1, .ref 0), (3, .int (nI n)), (4, .int (nI F)), (5, .int wv), (6, .int (nI j))] [] τ2) ∧ (¬ (nI j) = (nI j) → V 119 [(0, .ref zsc), (1, .ref 0), (3, .int (nI n)), (4, .int (nI F)), (5, .int wv), (6, .int (nI j))] [] τ2)
    refine ⟨fun _ => ?_, fun hc => absurd rfl hc⟩
    refine zwk hV [0, 1, 2, 3, 4, 5] rfl ?_
    have hE2 : zEs n (upd E j (nI (zUp (zCe zx (10 + j)) n))) (upd S j (nI (zUp (zCe zx (10 + j) >>> (4 &&& 31)) 9))) (j + 1) := zEs_up hE rfl (zUp_lt (by omega)) (zUp_b (by decide) (by decide) (by decide))
    refine zlD hV hn10 hB hL (by omega) hE2 hf0 pk_us ?_ (fun g τ w1 hg hw1 hs => ?_) hs2
    · rcases hwv with ⟨_, h⟩ | h
      · exact zWh_nn _ (Or.inr h)
      · rw [h]
        refine zWh_imp (fun y => zHo_more hB hf0 hn10 hE2.1 hE2.2 ((zHo_congr (fun i hi => ?_)).mp y))
        exact ⟨(pk_un (by omega)).symm, (pk_un (by omega)).symm⟩
    · skip
      refine zq (σ := τ) hV hs.1.1 hs.1.2 2 ?_
      show V 56 [(6, .int ((nI j) + 1)), (0, .ref zsc), (1, .ref 0), (3, .int (nI n)), (4, .int (nI F)), (5, .int w1)] [] τ
      refine zwk hV [1, 2, 3, 4, 5, 0] rfl ?_
      rw [nI_1 j]
      exact ihK (j + 1) _ _ _ _ _ (by omega) hg hE2 hs (Or.inr hw1)
set_option maxRecDepth 8000 in
set_option maxHeartbeats 4000000 in
theorem zlS (hV : zOk (zSp zx 7) zx mL_law 31 V (fun (r : Option Value) (_ : zSt) => r = some (.int 1))) (hn10 : n ≤ 10) (hB : zHB n X Y) (hL : zx.1 ≤ 260) (hn4 : 4 ≤ n) (hM : M ≤ 6) (hnx : ∀ (su sv sw : Nat → Int32) (τ : zSt), zEs n su sv M → (∀ i, i < M → sw i = nI (zUp (zCe zx (21 + i) >>> (8 &&& 31)) 40)) → zLS n X Y E S k g M su sv sw τ → V 534 [(0, .ref zsc), (1, .ref 0), (3, .int (nI n)), (4, .int (nI F)), (6, .int (nI M))] [] τ) : ∀ (r j : Nat) (su sv sw : Nat → Int32) (τ : zSt), j + r = M → zEs n su sv j → (∀ i, i < j → sw i = nI (zUp (zCe zx (21 + i) >>> (8 &&& 31)) 40)) → zLS n X Y E S k g j su sv sw τ → V 462 [(0, .ref zsc), (1, .ref 0), (3, .int (nI n)), (4, .int (nI F)), (6, .int (nI M)), (7, .int (nI j))] [] τ := by
  intro r
  induction r with
  | zero =>
    intro j su sv sw τ hjr hEs hP hs
    refine zq (σ := τ) hV hs.1.1 hs.1.2 3 ?_
    show ((nI M) ≤ (nI j) → V 534 [(0, .ref zsc), (1, .ref 0), (3, .int (nI n)), (4, .int (nI F)), (6, .int (nI M)), (7, .int (nI j))] [] τ) ∧ (¬ (nI M) ≤ (nI j) → V 469 [(0, .ref zsc), (1, .ref 0), (3, .int (nI n)), (4, .int (nI F)), (6, .int (nI M)), (7, .int (nI j))] [] τ)
    refine ⟨fun _ => ?_, fun hc => absurd (nI_le (a := M) (b := j) (by omega) (by omega)) hc⟩
    refine zwk hV [0, 1, 2, 3, 4] rfl ?_
    have e9 : j = M := by omega
    rw [e9] at hEs hP hs
    exact hnx _ _ _ _ hEs hP hs
  | succ r ihS =>
    intro j su sv sw τ hjr hEs hP hs
    refine zq (σ := τ) hV hs.1.1 hs.1.2 3 ?_
    show ((nI M) ≤ (nI j) → V 534 [(0, .ref zsc), (1, .ref 0), (3, .int (nI n)), (4, .int (nI F)), (6, .int (nI M)), (7, .int (nI j))] [] τ) ∧ (¬ (nI M) ≤ (nI j) → V 469 [(0, .ref zsc), (1, .ref 0), (3, .int (nI n)), (4, .int (nI F)), (6, .int (nI M)), (7, .int (nI j))] [] τ)
    refine ⟨fun hc => absurd hc (nI_ge (a := j) (b := M) (by omega) (by omega)), fun _ => ?_⟩
    refine zq (σ := τ) hV hs.1.1 hs.1.2 6 ?_
    show zSp _ _ 82 [.ref zsc, .int (21 + (nI j))] τ (fun r σ' => σ'.2.2.2 = τ.2.2.2 + zAl 82 → V 479 [(0, .ref zsc), (1, .ref 0), (3, .int (nI n)), (4, .int (nI F)), (6, .int (nI M)), (7, .int (nI j))] (r.toList ++ [.ref 0]) σ')
    refine cell_ok hL (k := (21 + j)) (zn_a (a := 21) (b := j) rfl rfl) (by omega) (fun _ => ?_)
    refine zq (σ := τ) hV hs.1.1 hs.1.2 2 ?_
    show zSp _ _ 83 [.int (zCe zx (21 + j)), .int (nI n)] τ (fun r σ' => σ'.2.2.2 = τ.2.2.2 + zAl 83 → V 483 [(0, .ref zsc), (1, .ref 0), (3, .int (nI n)), (4, .int (nI F)), (6, .int (nI M)), (7, .int (nI j))] (r.toList ++ [.ref 0]) σ')
    refine up_ok (n := n) rfl (by omega) (by omega) (fun _ => ?_)
    refine zq (σ := τ) hV hs.1.1 hs.1.2 5 ?_
    show zSp _ _ 82 [.ref zsc, .int (21 + (nI j))] τ (fun r σ' => σ'.2.2.2 = τ.2.2.2 + zAl 82 → V 492 [(0, .ref zsc), (1, .ref 0), (3, .int (nI n)), (4, .int (nI F)), (6, .int (nI M)), (7, .int (nI j))] (r.toList ++ [.int (nI (zUp (zCe zx (21 + j)) n)), .ref 0]) σ')
    refine cell_ok hL (k := (21 + j)) (zn_a (a := 21) (b := j) rfl rfl) (by omega) (fun _ => ?_)
    refine zq (σ := τ) hV hs.1.1 hs.1.2 4 ?_
    show zSp _ _ 83 [.int ((zCe zx (21 + j)) >>> (4 &&& 31)), .int 9] τ (fun r σ' => σ'.2.2.2 = τ.2.2.2 + zAl 83 → V 499 [(0, .ref zsc), (1, .ref 0), (3, .int (nI n)), (4, .int (nI F)), (6, .int (nI M)), (7, .int (nI j))] (r.toList ++ [.int (nI (zUp (zCe zx (21 + j)) n)), .ref 0]) σ')
    refine up_ok (n := 9) rfl (by omega) (by omega) (fun _ => ?_)
    refine zq (σ := τ) hV hs.1.1 hs.1.2 5 ?_
    show zSp _ _ 82 [.ref zsc, .int (21 + (nI j))] τ (fun r σ' => σ'.2.2.2 = τ.2.2.2 + zAl 82 → V 508 [(0, .ref zsc), (1, .ref 0), (3, .int (nI n)), (4, .int (nI F)), (6, .int (nI M)), (7, .int (nI j))] (r.toList ++ [.int (nI (zUp ((zCe zx (21 + j)) >>> (4 &&& 31)) 9)), .int (nI (zUp (zCe zx (21 + j)) n)), .ref 0]) σ')
    refine cell_ok hL (k := (21 + j)) (zn_a (a := 21) (b := j) rfl rfl) (by omega) (fun _ => ?_)
    refine zq (σ := τ) hV hs.1.1 hs.1.2 4 ?_
    show zSp _ _ 83 [.int ((zCe zx (21 + j)) >>> (8 &&& 31)), .int 40] τ (fun r σ' => σ'.2.2.2 = τ.2.2.2 + zAl 83 → V 516 [(0, .ref zsc), (1, .ref 0), (3, .int (nI n)), (4, .int (nI F)), (6, .int (nI M)), (7, .int (nI j))] (r.toList ++ [.int (nI (zUp ((zCe zx (21 + j)) >>> (4 &&& 31)) 9)), .int (nI (zUp (zCe zx (21 + j)) n)), .ref 0]) σ')
    refine up_ok (n := 40) rfl (by omega) (by omega) (fun _ => ?_)
    refine zq (σ := τ) hV hs.1.1 hs.1.2 1 ?_
    show zSp _ _ 66 [.ref 0, .int (nI (zUp (zCe zx (21 + j)) n)), .int (nI (zUp ((zCe zx (21 + j)) >>> (4 &&& 31)) 9)), .int (nI (zUp ((zCe zx (21 + j)) >>> (8 &&& 31)) 40))] τ (fun r σ' => σ'.2.2.2 = τ.2.2.2 + zAl 66 → V 519 [(0, .ref zsc), (1, .ref 0), (3, .int (nI n)), (4, .int (nI F)), (6, .int (nI M)), (7, .int (nI j))] (r.toList ++ []) σ')
    refine spot_L hs hn10 (by omega) rfl (zUp_lt (by omega)) (zUp_b (by decide) (by decide) (by decide)) (zUp_b (by decide) (by decide) (by decide)) (fun τ1 hs1 _ => ?_)
    refine zq (σ := τ1) hV hs1.1.1 hs1.1.2 4 ?_
    show ((nI (j + 1)) = ((nI j) + 1) → V 528 [(0, .ref zsc), (1, .ref 0), (3, .int (nI n)), (4, .int (nI F)), (6, .int (nI M)), (7, .int (nI j))] [] τ1) ∧ (¬ (nI (j + 1)) = ((nI j) + 1) → V 526 [(0, .ref zsc), (1, .ref 0), (3, .int (nI n)), (4, .int (nI F)), (6, .int (nI M)), (7, .int (nI j))] [] τ1)
    refine ⟨fun _ => ?_, fun hc => absurd (nI_1 j).symm hc⟩
    refine zq (σ := τ1) hV hs1.1.1 hs1.1.2 2 ?_
    show V 462 [(7, .int ((nI j) + 1)), (0, .ref zsc), (1, .ref 0), (3, .int (nI n)), (4, .int (nI F)), (6, .int (nI M))] [] τ1
    refine zwk hV [1, 2, 3, 4, 5, 0] rfl ?_
    rw [nI_1 j]
    refine ihS (j + 1) _ _ _ _ (by omega) (zEs_up hEs rfl (zUp_lt (by omega)) (zUp_b (by decide) (by decide) (by decide))) (fun i hi => ?_) hs1
    by_cases e9 : i = j
    · rw [e9, pk_us]
    · rw [pk_un e9]; exact hP i (by omega)
set_option maxRecDepth 8000 in
set_option maxHeartbeats 4000000 in
theorem zlPr (hV : zOk (zSp zx 7) zx mL_law 31 V (fun (r : Option Value) (_ : zSt) => r = some (.int 1))) (hn10 : n ≤ 10) (hB : zHB n X Y) (hL : zx.1 ≤ 260) (hM : M ≤ 6) {be pr : Int32} (hnx : ∀ τ : zSt, zLS n X Y E S k g s su sv sw τ → V 636 [(0, .ref zsc), (1, .ref 0), (3, .int (nI n)), (4, .int (nI F)), (6, .int (nI M)), (7, .int be), (8, .int pr), (9, .int (zPx be (fun i => nI (zUp (zCe zx (21 + i) >>> (8 &&& 31)) 40)) M))] [] τ) : ∀ (r j : Nat) (τ : zSt), j + r = M → zLS n X Y E S k g s su sv sw τ → V 586 [(0, .ref zsc), (1, .ref 0), (3, .int (nI n)), (4, .int (nI F)), (6, .int (nI M)), (7, .int be), (8, .int pr), (9, .int (zPx be (fun i => nI (zUp (zCe zx (21 + i) >>> (8 &&& 31)) 40)) j)), (10, .int (nI j))] [] τ := by
  intro r
  induction r with
  | zero =>
    intro j τ hjr hs
    refine zq (σ := τ) hV hs.1.1 hs.1.2 3 ?_
    show ((nI M) ≤ (nI j) → V 636 [(0, .ref zsc), (1, .ref 0), (3, .int (nI n)), (4, .int (nI F)), (6, .int (nI M)), (7, .int be), (8, .int pr), (9, .int (zPx be (fun i => nI (zUp (zCe zx (21 + i) >>> (8 &&& 31)) 40)) j)), (10, .int (nI j))] [] τ) ∧ (¬ (nI M) ≤ (nI j) → V 593 [(0, .ref zsc), (1, .ref 0), (3, .int (nI n)), (4, .int (nI F)), (6, .int (nI M)), (7, .int be), (8, .int pr), (9, .int (zPx be (fun i => nI (zUp (zCe zx (21 + i) >>> (8 &&& 31)) 40)) j)), (10, .int (nI j))] [] τ)
    refine ⟨fun _ => ?_, fun hc => absurd (nI_le (a := M) (b := j) (by omega) (by omega)) hc⟩
    refine zwk hV [0, 1, 2, 3, 4, 5, 6, 7] rfl ?_
    rw [show j = M by omega]
    exact hnx τ hs
  | succ r ihP =>
    intro j τ hjr hs
    refine zq (σ := τ) hV hs.1.1 hs.1.2 3 ?_
    show ((nI M) ≤ (nI j) → V 636 [(0, .ref zsc), (1, .ref 0), (3, .int (nI n)), (4, .int (nI F)), (6, .int (nI M)), (7, .int be), (8, .int pr), (9, .int (zPx be (fun i => nI (zUp (zCe zx (21 + i) >>> (8 &&& 31)) 40)) j)), (10, .int (nI j))] [] τ) ∧ (¬ (nI M) ≤ (nI j) → V 593 [(0, .ref zsc), (1, .ref 0), (3, .int (nI n)), (4, .int (nI F)), (6, .int (nI M)), (7, .int be), (8, .int pr), (9, .int (zPx be (fun i => nI (zUp (zCe zx (21 + i) >>> (8 &&& 31)) 40)) j)), (10, .int (nI j))] [] τ)
    refine ⟨fun hc => absurd hc (nI_ge (a := j) (b := M) (by omega) (by omega)), fun _ => ?_⟩
    refine zq (σ := τ) hV hs.1.1 hs.1.2 8 ?_
    show (¬ ((be >>> ((nI j) &&& 31)) &&& 1) = 1 → V 626 [(0, .ref zsc), (1, .ref 0), (3, .int (nI n)), (4, .int (nI F)), (6, .int (nI M)), (7, .int be), (8, .int pr), (9, .int (zPx be (fun i => nI (zUp (zCe zx (21 + i) >>> (8 &&& 31)) 40)) j)), (10, .int (nI j))] [.int (zPx be (fun i => nI (zUp (zCe zx (21 + i) >>> (8 &&& 31)) 40)) j)] τ) ∧ (¬ (¬ ((be >>> ((nI j) &&& 31)) &&& 1) = 1) → V 606 [(0, .ref zsc), (1, .ref 0), (3, .int (nI n)), (4, .int (nI F)), (6, .int (nI M)), (7, .int be), (8, .int pr), (9, .int (zPx be (fun i => nI (zUp (zCe zx (21 + i) >>> (8 &&& 31)) 40)) j)), (10, .int (nI j))] [.int (zPx be (fun i => nI (zUp (zCe zx (21 + i) >>> (8 &&& 31)) 40)) j)] τ)
    refine ⟨fun h_603 => ?_, fun h_603 => ?_⟩
    · skip
      refine zq (σ := τ) hV hs.1.1 hs.1.2 5 ?_
      show V 586 [(10, .int ((nI j) + 1)), (9, .int ((zPx be (fun i => nI (zUp (zCe zx (21 + i) >>> (8 &&& 31)) 40)) j) + 0)), (0, .ref zsc), (1, .ref 0), (3, .int (nI n)), (4, .int (nI F)), (6, .int (nI M)), (7, .int be), (8, .int pr)] [] τ
      refine zwk hV [2, 3, 4, 5, 6, 7, 8, 1, 0] rfl ?_
      rw [nI_1 j]
      have e9 := ihP (j + 1) τ (by omega) hs
      have e8 : zPx be (fun i => nI (zUp (zCe zx (21 + i) >>> (8 &&& 31)) 40)) (j + 1) = ((zPx be (fun i => nI (zUp (zCe zx (21 + i) >>> (8 &&& 31)) 40)) j) + 0) := by
        show (if zbt be j = 0 then zPx be (fun i => nI (zUp (zCe zx (21 + i) >>> (8 &&& 31)) 40)) j else _) = _
        rw [if_pos ((zbt01 be j).resolve_right h_603), Int32.add_zero]
      rw [e8] at e9
      exact e9
    · skip
      have h_603 := Classical.not_not.mp h_603
      refine zq (σ := τ) hV hs.1.1 hs.1.2 5 ?_
      show zSp _ _ 82 [.ref zsc, .int (21 + (nI j))] τ (fun r σ' => σ'.2.2.2 = τ.2.2.2 + zAl 82 → V 615 [(0, .ref zsc), (1, .ref 0), (3, .int (nI n)), (4, .int (nI F)), (6, .int (nI M)), (7, .int be), (8, .int pr), (9, .int (zPx be (fun i => nI (zUp (zCe zx (21 + i) >>> (8 &&& 31)) 40)) j)), (10, .int (nI j))] (r.toList ++ [.int (zPx be (fun i => nI (zUp (zCe zx (21 + i) >>> (8 &&& 31)) 40)) j)]) σ')
      refine cell_ok hL (k := (21 + j)) (zn_a (a := 21) (b := j) rfl rfl) (by omega) (fun _ => ?_)
      refine zq (σ := τ) hV hs.1.1 hs.1.2 4 ?_
      show zSp _ _ 83 [.int ((zCe zx (21 + j)) >>> (8 &&& 31)), .int 40] τ (fun r σ' => σ'.2.2.2 = τ.2.2.2 + zAl 83 → V 623 [(0, .ref zsc), (1, .ref 0), (3, .int (nI n)), (4, .int (nI F)), (6, .int (nI M)), (7, .int be), (8, .int pr), (9, .int (zPx be (fun i => nI (zUp (zCe zx (21 + i) >>> (8 &&& 31)) 40)) j)), (10, .int (nI j))] (r.toList ++ [.int (zPx be (fun i => nI (zUp (zCe zx (21 + i) >>> (8 &&& 31)) 40)) j)]) σ')
      refine up_ok (n := 40) rfl (by omega) (by omega) (fun _ => ?_)
      refine zq (σ := τ) hV hs.1.1 hs.1.2 5 ?_
      show V 586 [(10, .int ((nI j) + 1)), (9, .int ((zPx be (fun i => nI (zUp (zCe zx (21 + i) >>> (8 &&& 31)) 40)) j) + (nI (zUp ((zCe zx (21 + j)) >>> (8 &&& 31)) 40)))), (0, .ref zsc), (1, .ref 0), (3, .int (nI n)), (4, .int (nI F)), (6, .int (nI M)), (7, .int be), (8, .int pr)] [] τ
      refine zwk hV [2, 3, 4, 5, 6, 7, 8, 1, 0] rfl ?_
      rw [nI_1 j]
      have e9 := ihP (j + 1) τ (by omega) hs
      have e8 : zPx be (fun i => nI (zUp (zCe zx (21 + i) >>> (8 &&& 31)) 40)) (j + 1) = ((zPx be (fun i => nI (zUp (zCe zx (21 + i) >>> (8 &&& 31)) 40)) j) + (nI (zUp ((zCe zx (21 + j)) >>> (8 &&& 31)) 40))) := by
        show (if zbt be j = 0 then _ else zPx be (fun i => nI (zUp (zCe zx (21 + i) >>> (8 &&& 31)) 40)) j + _) = _
        rw [if_neg (fun y => absurd ((show zbt be j = 1 from h_603).symm.trans y) (by decide))]
      rw [e8] at e9
      exact e9
end
section
variable {zx : Nat × (Nat → Int32)} {n k s F j M : Nat} {X Y E S su sv sw : Nat → Int32} {g f0 wv : Int32} {V : Nat → zLo → List Value → zSt → Prop}
theorem zLy_b {a : Int32} {P : Nat → Int32} : ∀ {k : Nat}, (∀ j, j < k → zBt 0 8 (P j)) → ∀ q, q < zcn a k → zBt 0 8 (zLy a P k q)
  | 0, _, q, hq => absurd hq (Nat.not_lt_zero q)
  | k + 1, h, q, hq => by
    unfold zcn at hq; unfold zLy
    by_cases c : zbt a k = 0
    · rw [if_pos c] at hq ⊢; exact zLy_b (fun j hj => h j (by omega)) q hq
    · rw [if_neg c] at hq ⊢
      unfold upd
      by_cases e : q = zcn a k
      · rw [if_pos e]; exact h k (by omega)
      · rw [if_neg e]; exact zLy_b (fun j hj => h j (by omega)) q (by omega)
set_option maxRecDepth 8000 in
set_option maxHeartbeats 4000000 in
theorem zlE (hV : zOk (zSp zx 7) zx mL_law 31 V (fun (r : Option Value) (_ : zSt) => r = some (.int 1))) (hn10 : n ≤ 10) (hB : zHB n X Y) (hL : zx.1 ≤ 260) (hn4 : 4 ≤ n) (hF : F ≤ 7) {τ : zSt} (hs : zLS n X Y E S F g 0 su sv sw τ) : V 446 [(0, .ref zsc), (1, .ref 0), (3, .int (nI n)), (4, .int (nI F))] [] τ := by
  refine zq (σ := τ) hV hs.1.1 hs.1.2 3 ?_
  show zSp _ _ 82 [.ref zsc, .int 20] τ (fun r σ' => σ'.2.2.2 = τ.2.2.2 + zAl 82 → V 452 [(0, .ref zsc), (1, .ref 0), (3, .int (nI n)), (4, .int (nI F))] (r.toList ++ []) σ')
  refine cell_ok hL (k := 20) rfl (by omega) (fun _ => ?_)
  refine zq (σ := τ) hV hs.1.1 hs.1.2 2 ?_
  show zSp _ _ 83 [.int (zCe zx 20), .int 7] τ (fun r σ' => σ'.2.2.2 = τ.2.2.2 + zAl 83 → V 457 [(0, .ref zsc), (1, .ref 0), (3, .int (nI n)), (4, .int (nI F))] (r.toList ++ []) σ')
  refine up_ok (n := 7) rfl (by omega) (by omega) (fun _ => ?_)
  refine zq (σ := τ) hV hs.1.1 hs.1.2 1 ?_
  show V 459 [(6, .int (nI (zUp (zCe zx 20) 7))), (0, .ref zsc), (1, .ref 0), (3, .int (nI n)), (4, .int (nI F))] [] τ
  have hM : zUp (zCe zx 20) 7 ≤ 6 := by have := zUp_lt (x := zCe zx 20) (n := 7) (by decide); omega
  generalize zUp (zCe zx 20) 7 = M at hM ⊢
  refine zq (σ := τ) hV hs.1.1 hs.1.2 2 ?_
  show V 462 [(7, .int 0), (6, .int (nI M)), (0, .ref zsc), (1, .ref 0), (3, .int (nI n)), (4, .int (nI F))] [] τ
  refine zwk hV [2, 3, 4, 5, 1, 0] rfl ?_
  refine zlS hV hn10 hB hL hn4 hM (fun su sv sw τ hEs hP hs => ?_) M 0 su sv sw _ (by omega) ⟨fun i hi => absurd hi (Nat.not_lt_zero i), fun i hi => absurd hi (Nat.not_lt_zero i)⟩ (fun i hi => absurd hi (Nat.not_lt_zero i)) hs
  refine zq (σ := τ) hV hs.1.1 hs.1.2 2 ?_
  show zSp _ _ 67 [.ref 0] τ (fun r σ' => σ'.2.2.2 = τ.2.2.2 + zAl 67 → V 538 [(0, .ref zsc), (1, .ref 0), (3, .int (nI n)), (4, .int (nI F)), (6, .int (nI M))] (r.toList ++ []) σ')
  refine cheapest_L hs hn10 (by omega) hEs (fun τ1 hs1 _ => ?_)
  refine zq (σ := τ1) hV hs1.1.1 hs1.1.2 3 ?_
  show zSp _ _ 68 [.ref 0] τ1 (fun r σ' => σ'.2.2.2 = τ1.2.2.2 + zAl 68 → V 544 [(7, .int (zChe n X Y g su sv sw M)), (0, .ref zsc), (1, .ref 0), (3, .int (nI n)), (4, .int (nI F)), (6, .int (nI M))] (r.toList ++ []) σ')
  refine take_L hs1 hn10 (by omega) hEs (fun τ2 hs2 he _ => ?_) (fun τ2 E2 S2 be he hne hE2 hs2 _ => ?_)
  · skip
    rw [he]
    refine zq (σ := τ2) hV hs2.1.1 hs2.1.2 3 ?_
    show (0 ≤ ((-1) : Int32) → V 580 [(8, .int (-3)), (7, .int (-1)), (0, .ref zsc), (1, .ref 0), (3, .int (nI n)), (4, .int (nI F)), (6, .int (nI M))] [] τ2) ∧ (¬ 0 ≤ ((-1) : Int32) → V 551 [(8, .int (-3)), (7, .int (-1)), (0, .ref zsc), (1, .ref 0), (3, .int (nI n)), (4, .int (nI F)), (6, .int (nI M))] [] τ2)
    refine ⟨fun hc => absurd hc (by decide), fun _ => ?_⟩
    refine zq (σ := τ2) hV hs2.1.1 hs2.1.2 3 ?_
    show (¬ ((-1) : Int32) = (-1) → V 578 [(8, .int (-3)), (7, .int (-1)), (0, .ref zsc), (1, .ref 0), (3, .int (nI n)), (4, .int (nI F)), (6, .int (nI M))] [] τ2) ∧ (¬ (¬ ((-1) : Int32) = (-1)) → V 557 [(8, .int (-3)), (7, .int (-1)), (0, .ref zsc), (1, .ref 0), (3, .int (nI n)), (4, .int (nI F)), (6, .int (nI M))] [] τ2)
    refine ⟨fun hc => absurd hc (by decide), fun _ => ?_⟩
    refine zq (σ := τ2) hV hs2.1.1 hs2.1.2 3 ?_
    show (¬ ((-3) : Int32) = (-3) → V 578 [(8, .int (-3)), (7, .int (-1)), (0, .ref zsc), (1, .ref 0), (3, .int (nI n)), (4, .int (nI F)), (6, .int (nI M))] [] τ2) ∧ (¬ (¬ ((-3) : Int32) = (-3)) → V 564 [(8, .int (-3)), (7, .int (-1)), (0, .ref zsc), (1, .ref 0), (3, .int (nI n)), (4, .int (nI F)), (6, .int (nI M))] [] τ2)
    refine ⟨fun hc => absurd hc (by decide), fun _ => ?_⟩
    refine zq (σ := τ2) hV hs2.1.1 hs2.1.2 3 ?_
    show zSp _ _ 71 [.ref 0, .int 1] τ2 (fun r σ' => σ'.2.2.2 = τ2.2.2.2 + zAl 71 → V 569 [(8, .int (-3)), (7, .int (-1)), (0, .ref zsc), (1, .ref 0), (3, .int (nI n)), (4, .int (nI F)), (6, .int (nI M))] (r.toList ++ []) σ')
    refine count_L1 hs2 (fun _ => ?_)
    refine zq (σ := τ2) hV hs2.1.1 hs2.1.2 2 ?_
    show (¬ (nI F) = (nI F) → V 578 [(8, .int (-3)), (7, .int (-1)), (0, .ref zsc), (1, .ref 0), (3, .int (nI n)), (4, .int (nI F)), (6, .int (nI M))] [] τ2) ∧ (¬ (¬ (nI F) = (nI F)) → V 574 [(8, .int (-3)), (7, .int (-1)), (0, .ref zsc), (1, .ref 0), (3, .int (nI n)), (4, .int (nI F)), (6, .int (nI M))] [] τ2)
    refine ⟨fun hc => absurd hc (fun y => y rfl), fun _ => ?_⟩
    refine zq (σ := τ2) hV hs2.1.1 hs2.1.2 3 ?_
    show ((1 : Int32) = 0 ∨ (1 : Int32) = 1) ∧ (fun (r : Option Value) (_ : zSt) => r = some (.int 1)) (some (.int 1)) τ2
    refine ⟨by decide, ?_⟩
    exact rfl
  · skip
    rw [he]
    have hc7 := zcn_le be M
    obtain ⟨hb0, hH⟩ : 0 ≤ be ∧ zHo n X Y g (zLy be su M) (zLy be sv M) (zcn be M) := by
      rcases zChe_in (n := n) (k := M) (X := X) (Y := Y) (E := su) (S := sv) (P := sw) (f := g) with q | ⟨jj, q1, q2, q3, q4⟩
      · exact absurd (he.symm.trans q) hne
      · have e9 : be = nI jj := he.symm.trans q3
        have h64 : 2 ^ M ≤ 64 := Nat.pow_le_pow_right (n := 2) (i := M) (j := 6) (by decide) hM
        rw [← e9] at q4
        exact ⟨by rw [e9]; exact nI_pos' (by omega), q4⟩
    have hH2 : zHo n X Y g E2 S2 (zcn be M) := (zHo_congr (fun i hi => hE2 i hi)).mpr hH
    have hEs2 : zEs n E2 S2 (zcn be M) := by
      refine ⟨fun i hi => ?_, fun i hi => ?_⟩
      · rw [(hE2 i hi).1]; exact zLy_in hEs.1 i hi
      · rw [(hE2 i hi).2]; exact zLy_b hEs.2 i hi
    refine zq (σ := τ2) hV hs2.1.1 hs2.1.2 3 ?_
    show (0 ≤ be → V 580 [(8, .int (zPx be sw M)), (7, .int be), (0, .ref zsc), (1, .ref 0), (3, .int (nI n)), (4, .int (nI F)), (6, .int (nI M))] [] τ2) ∧ (¬ 0 ≤ be → V 551 [(8, .int (zPx be sw M)), (7, .int be), (0, .ref zsc), (1, .ref 0), (3, .int (nI n)), (4, .int (nI F)), (6, .int (nI M))] [] τ2)
    refine ⟨fun _ => ?_, fun hc => absurd hb0 hc⟩
    refine zq (σ := τ2) hV hs2.1.1 hs2.1.2 4 ?_
    show V 586 [(10, .int 0), (9, .int 0), (8, .int (zPx be sw M)), (7, .int be), (0, .ref zsc), (1, .ref 0), (3, .int (nI n)), (4, .int (nI F)), (6, .int (nI M))] [] τ2
    refine zwk hV [4, 5, 6, 7, 8, 3, 2, 1, 0] rfl ?_
    refine zlPr hV hn10 hB hL hM (fun τ8 hs8 => ?_) M 0 _ (by omega) hs2
    rw [← zPx_congr be M hP]
    refine zq (σ := τ8) hV hs8.1.1 hs8.1.2 3 ?_
    show (¬ (zPx be sw M) = (zPx be sw M) → V 692 [(0, .ref zsc), (1, .ref 0), (3, .int (nI n)), (4, .int (nI F)), (6, .int (nI M)), (7, .int be), (8, .int (zPx be sw M)), (9, .int (zPx be sw M))] [] τ8) ∧ (¬ (¬ (zPx be sw M) = (zPx be sw M)) → V 643 [(0, .ref zsc), (1, .ref 0), (3, .int (nI n)), (4, .int (nI F)), (6, .int (nI M)), (7, .int be), (8, .int (zPx be sw M)), (9, .int (zPx be sw M))] [] τ8)
    refine ⟨fun hc => absurd hc (fun y => y rfl), fun _ => ?_⟩
    refine zq (σ := τ8) hV hs8.1.1 hs8.1.2 2 ?_
    show zSp _ _ 59 [.ref 0] τ8 (fun r σ' => σ'.2.2.2 = τ8.2.2.2 + zAl 59 → V 647 [(0, .ref zsc), (1, .ref 0), (3, .int (nI n)), (4, .int (nI F)), (6, .int (nI M)), (7, .int be), (8, .int (zPx be sw M)), (9, .int (zPx be sw M))] (r.toList ++ []) σ')
    refine holds_L hs8 hn10 (by omega) hEs2 (fun τ3 hs3 _ => ?_)
    refine zq (σ := τ3) hV hs3.1.1 hs3.1.2 2 ?_
    show (¬ (zWh n X Y E2 S2 g (zcn be M)) = 1 → V 692 [(0, .ref zsc), (1, .ref 0), (3, .int (nI n)), (4, .int (nI F)), (6, .int (nI M)), (7, .int be), (8, .int (zPx be sw M)), (9, .int (zPx be sw M))] [] τ3) ∧ (¬ (¬ (zWh n X Y E2 S2 g (zcn be M)) = 1) → V 651 [(0, .ref zsc), (1, .ref 0), (3, .int (nI n)), (4, .int (nI F)), (6, .int (nI M)), (7, .int be), (8, .int (zPx be sw M)), (9, .int (zPx be sw M))] [] τ3)
    refine ⟨fun hc => absurd hc (fun y => y (zWh_t hH2)), fun _ => ?_⟩
    refine zq (σ := τ3) hV hs3.1.1 hs3.1.2 2 ?_
    show zSp _ _ 67 [.ref 0] τ3 (fun r σ' => σ'.2.2.2 = τ3.2.2.2 + zAl 67 → V 655 [(0, .ref zsc), (1, .ref 0), (3, .int (nI n)), (4, .int (nI F)), (6, .int (nI M)), (7, .int be), (8, .int (zPx be sw M)), (9, .int (zPx be sw M))] (r.toList ++ []) σ')
    refine cheapest_L hs3 hn10 (by omega) hEs (fun τ4 hs4 _ => ?_)
    rw [he]
    refine zq (σ := τ4) hV hs4.1.1 hs4.1.2 2 ?_
    show (¬ be = be → V 692 [(0, .ref zsc), (1, .ref 0), (3, .int (nI n)), (4, .int (nI F)), (6, .int (nI M)), (7, .int be), (8, .int (zPx be sw M)), (9, .int (zPx be sw M))] [] τ4) ∧ (¬ (¬ be = be) → V 660 [(0, .ref zsc), (1, .ref 0), (3, .int (nI n)), (4, .int (nI F)), (6, .int (nI M)), (7, .int be), (8, .int (zPx be sw M)), (9, .int (zPx be sw M))] [] τ4)
    refine ⟨fun hc => absurd hc (fun y => y rfl), fun _ => ?_⟩
    refine zq (σ := τ4) hV hs4.1.1 hs4.1.2 3 ?_
    show zSp _ _ 71 [.ref 0, .int 1] τ4 (fun r σ' => σ'.2.2.2 = τ4.2.2.2 + zAl 71 → V 665 [(0, .ref zsc), (1, .ref 0), (3, .int (nI n)), (4, .int (nI F)), (6, .int (nI M)), (7, .int be), (8, .int (zPx be sw M)), (9, .int (zPx be sw M))] (r.toList ++ []) σ')
    refine count_L1 hs4 (fun _ => ?_)
    refine zq (σ := τ4) hV hs4.1.1 hs4.1.2 2 ?_
    show ((nI (zcn be M)) ≤ 4 → V 681 [(0, .ref zsc), (1, .ref 0), (3, .int (nI n)), (4, .int (nI F)), (6, .int (nI M)), (7, .int be), (8, .int (zPx be sw M)), (9, .int (zPx be sw M))] [] τ4) ∧ (¬ (nI (zcn be M)) ≤ 4 → V 669 [(0, .ref zsc), (1, .ref 0), (3, .int (nI n)), (4, .int (nI F)), (6, .int (nI M)), (7, .int be), (8, .int (zPx be sw M)), (9, .int (zPx be sw M))] [] τ4)
    refine ⟨fun h_666 => ?_, fun h_666 => ?_⟩
    · skip
      have h4 : zcn be M ≤ 4 := (nI_leI (a := zcn be M) (b := 4) (by omega) (by decide)).mp h_666
      refine zq (σ := τ4) hV hs4.1.1 hs4.1.2 2 ?_
      show zSp _ _ 62 [.ref 0] τ4 (fun r σ' => σ'.2.2.2 = τ4.2.2.2 + zAl 62 → V 685 [(0, .ref zsc), (1, .ref 0), (3, .int (nI n)), (4, .int (nI F)), (6, .int (nI M)), (7, .int be), (8, .int (zPx be sw M)), (9, .int (zPx be sw M))] (r.toList ++ []) σ')
      refine slip_L hs4 hn10 (by omega) hEs2 (fun q9 _ => ?_) hH2 (fun q9 τ5 r9 hr9 hs5 _ => ?_)
      · skip
        exact absurd h4 q9
      · skip
        refine zq (σ := τ5) hV hs5.1.1 hs5.1.2 1 ?_
        show ((nI r9) < 0 → V 692 [(0, .ref zsc), (1, .ref 0), (3, .int (nI n)), (4, .int (nI F)), (6, .int (nI M)), (7, .int be), (8, .int (zPx be sw M)), (9, .int (zPx be sw M))] [] τ5) ∧ (¬ (nI r9) < 0 → V 688 [(0, .ref zsc), (1, .ref 0), (3, .int (nI n)), (4, .int (nI F)), (6, .int (nI M)), (7, .int be), (8, .int (zPx be sw M)), (9, .int (zPx be sw M))] [] τ5)
        refine ⟨fun hc => absurd hc (nI_pos (by omega)), fun _ => ?_⟩
        refine zq (σ := τ5) hV hs5.1.1 hs5.1.2 3 ?_
        show ((1 : Int32) = 0 ∨ (1 : Int32) = 1) ∧ (fun (r : Option Value) (_ : zSt) => r = some (.int 1)) (some (.int 1)) τ5
        refine ⟨by decide, ?_⟩
        exact rfl
    · skip
      have h4 : ¬ zcn be M ≤ 4 := fun q => h_666 (nI_le (a := zcn be M) (b := 4) q (by decide))
      refine zq (σ := τ4) hV hs4.1.1 hs4.1.2 2 ?_
      show zSp _ _ 62 [.ref 0] τ4 (fun r σ' => σ'.2.2.2 = τ4.2.2.2 + zAl 62 → V 673 [(0, .ref zsc), (1, .ref 0), (3, .int (nI n)), (4, .int (nI F)), (6, .int (nI M)), (7, .int be), (8, .int (zPx be sw M)), (9, .int (zPx be sw M))] (r.toList ++ []) σ')
      refine slip_L hs4 hn10 (by omega) hEs2 (fun q9 _ => ?_) hH2 (fun q9 τ6 r9 hr9 hs6 _ => ?_)
      · skip
        refine zq (σ := τ4) hV hs4.1.1 hs4.1.2 2 ?_
        show (¬ ((-3) : Int32) = (-3) → V 692 [(0, .ref zsc), (1, .ref 0), (3, .int (nI n)), (4, .int (nI F)), (6, .int (nI M)), (7, .int be), (8, .int (zPx be sw M)), (9, .int (zPx be sw M))] [] τ4) ∧ (¬ (¬ ((-3) : Int32) = (-3)) → V 678 [(0, .ref zsc), (1, .ref 0), (3, .int (nI n)), (4, .int (nI F)), (6, .int (nI M)), (7, .int be), (8, .int (zPx be sw M)), (9, .int (zPx be sw M))] [] τ4)
        refine ⟨fun hc => absurd hc (by decide), fun _ => ?_⟩
        refine zq (σ := τ4) hV hs4.1.1 hs4.1.2 4 ?_
        show ((1 : Int32) = 0 ∨ (1 : Int32) = 1) ∧ (fun (r : Option Value) (_ : zSt) => r = some (.int 1)) (some (.int 1)) τ4
        refine ⟨by decide, ?_⟩
        exact rfl
      · skip
        exact absurd q9 h4
end
section
variable {zx : Nat × (Nat → Int32)}
def zz : Nat → Int32 := fun _ => 0
/-- a state under construction: how many cells, which references, which ints -/
def zP (c : Nat) (R : List (Nat × Nat × Nat)) (I : List (Nat × (Nat → Int32))) (σ : zSt) : Prop := σ.2.2.2 = c ∧ (∀ t ∈ R, t.1 < c ∧ σ.2.2.1 t.1 t.2.1 = .ref t.2.2) ∧ ∀ t ∈ I, t.1 < c ∧ σ.1 t.1 = t.2
theorem zP_new {c : Nat} {R : List (Nat × Nat × Nat)} {I : List (Nat × (Nat → Int32))} {σ : zSt} (h : zP c R I σ) : zP (c + 1) R ((c, zz) :: I) (zuN σ) := by
  obtain ⟨h1, h2, h3⟩ := h
  refine ⟨?_, fun t_z ht => ?_, List.forall_mem_cons.mpr ⟨⟨Nat.lt_succ_self c, ?_⟩, fun t_z ht => ?_⟩⟩
  · show σ.2.2.2 + 1 = c + 1
    rw [h1]
  · obtain ⟨q1_z, q2_z⟩ := h2 t_z ht
    refine ⟨by omega, ?_⟩
    show (if t_z.1 = σ.2.2.2 then fun _ => Value.null else σ.2.2.1 t_z.1) t_z.2.1 = _
    rw [if_neg (by omega)]; exact q2_z
  · show (if c = σ.2.2.2 then fun _ => (0 : Int32) else σ.1 c) = zz
    rw [if_pos h1.symm]; rfl
  · obtain ⟨q1_z, q2_z⟩ := h3 t_z ht
    refine ⟨by omega, ?_⟩
    show (if t_z.1 = σ.2.2.2 then fun _ => (0 : Int32) else σ.1 t_z.1) = _
    rw [if_neg (by omega)]; exact q2_z
theorem zP_ref {c a k b : Nat} {R : List (Nat × Nat × Nat)} {I : List (Nat × (Nat → Int32))} {σ : zSt} (h : zP c R I σ) (ha : a < c) (hf : ∀ t ∈ R, ¬ (t.1 = a ∧ t.2.1 = k)) : zP c ((a, k, b) :: R) I (zuR σ a k (.ref b)) := by
  obtain ⟨h1, h2, h3⟩ := h
  refine ⟨h1, List.forall_mem_cons.mpr ⟨⟨ha, ?_⟩, fun t_z ht => ?_⟩, h3⟩
  · show (if a = a then va_up (σ.2.2.1 a) k (.ref b) else σ.2.2.1 a) k = _
    rw [if_pos rfl, va_up_self]
  · obtain ⟨q1_z, q2_z⟩ := h2 t_z ht
    refine ⟨q1_z, ?_⟩
    show (if t_z.1 = a then va_up (σ.2.2.1 t_z.1) k (.ref b) else σ.2.2.1 t_z.1) t_z.2.1 = _
    by_cases e_z : t_z.1 = a
    · rw [if_pos e_z, va_up_ne _ _ (fun q_z => hf t_z ht ⟨e_z, q_z⟩)]; exact q2_z
    · rw [if_neg e_z]; exact q2_z
theorem zuI_ne {σ : zSt} {a b j : Nat} {v : Int32} (h : b ≠ a) : (zuI σ a j v).1 b = σ.1 b := if_neg h
theorem zP_mem {c : Nat} {R : List (Nat × Nat × Nat)} {I : List (Nat × (Nat → Int32))} {σ : zSt} (h : zP c R I σ) (n : Nat) {a : Nat} {f : Nat → Int32} (e : I[n]? = some (a, f)) : σ.1 a = f := (h.2.2 (a, f) (List.mem_of_getElem? e)).2
def zRchk (lo hi : Nat) (R : List (Nat × Nat × Nat)) : Bool := zRs.all (fun q => !(Nat.ble lo q.1.1 && Nat.blt q.1.1 hi) || R.any (fun t => Nat.beq t.1 q.1.1 && (Nat.beq t.2.1 q.1.2 && Nat.beq t.2.2 q.2)))
theorem zQI_P {c lo hi : Nat} {R : List (Nat × Nat × Nat)} {I : List (Nat × (Nat → Int32))} {σ : zSt} (h : zP c R I σ) (hc : hi ≤ c) (hr : zRchk lo hi R = true) : zQI (kR lo hi) σ.2.2 := by
  intro a_z ha_z
  unfold kR at ha_z
  rw [Bool.and_eq_true] at ha_z
  have h1 := Nat.le_of_ble_eq_true ha_z.1
  have h2 : a_z < hi := Nat.le_of_ble_eq_true ha_z.2
  refine ⟨by have := h.1; omega, fun k_z b_z hb_z => ?_⟩
  unfold zRr at hb_z
  split at hb_z
  · rename_i q_z hq
    cases hb_z
    have hm_z := List.mem_of_find?_eq_some hq
    have hp := List.find?_some hq
    rw [Bool.and_eq_true] at hp
    have e1_z := Nat.eq_of_beq_eq_true hp.1
    have e2_z := Nat.eq_of_beq_eq_true hp.2
    have hx := List.all_eq_true.mp hr q_z hm_z
    rw [Bool.or_eq_true] at hx
    rcases hx with hx | hx
    · rw [e1_z, ha_z.1, ha_z.2] at hx; exact absurd hx (by decide)
    · obtain ⟨t_z, t1_z, t2_z⟩ := List.any_eq_true.mp hx
      rw [Bool.and_eq_true, Bool.and_eq_true] at t2_z
      have w1_z := Nat.eq_of_beq_eq_true t2_z.1
      have w2_z := Nat.eq_of_beq_eq_true t2_z.2.1
      have w3_z := Nat.eq_of_beq_eq_true t2_z.2.2
      obtain ⟨_, hr2⟩ := h.2.1 t_z t1_z
      rw [w1_z, w2_z, w3_z, e1_z, e2_z] at hr2
      exact hr2
  · cases hb_z
set_option maxRecDepth 8000 in
theorem init_X0_24 {d : Nat} {σ : zSt} {K : Option Value → zSt → Prop} {R : List (Nat × Nat × Nat)} {I : List (Nat × (Nat → Int32))} (hP : zP 25 R I σ) (hlt : ∀ t ∈ R, t.1 ≠ 24) (hK : ∀ τ, zP 26 ([(24, 0, 25)] ++ R) ((25, zz) :: I) τ → K none τ) : zSp zx (d + 1) mX0_init [.ref 24] σ K := by
  refine ⟨⟨by decide, Nat.le_of_ble_eq_true rfl⟩, fun V hV => ?_⟩
  refine hV.1 _ _ _ _ ?_
  show V 1 [(0, .ref 24)] [.ref 24] σ
  refine hV.1 _ _ _ _ ?_
  show _ ∧ V 4 [(0, .ref 24)] [] σ
  refine ⟨by decide, ?_⟩
  refine hV.1 _ _ _ _ ?_
  show V 5 [(0, .ref 24)] [.ref 24] σ
  refine hV.1 _ _ _ _ ?_
  show V 7 [(0, .ref 24)] [.int 12, .ref 24] σ
  refine hV.1 _ _ _ _ ?_
  refine ⟨⟨by rw [hP.1]; rfl, rfl, by decide, by rw [hP.1]; decide⟩, ?_⟩
  rw [hP.1]
  have hP1 := zP_new hP
  generalize zuN σ = τ1 at hP1 ⊢
  show V 9 [(0, .ref 24)] [.ref 25, .ref 24] τ1
  refine hV.1 _ _ _ _ ?_
  refine ⟨⟨by rw [hP1.1]; decide, rfl, Or.inr ⟨rfl, rfl⟩⟩, ?_⟩
  show V 12 [(0, .ref 24)] [] (zuR τ1 24 0 (.ref 25))
  have hP2 := zP_ref (a := 24) (k := 0) (b := 25) hP1 (by decide) (fun t_z ht q_z => hlt t_z ht q_z.1)
  generalize zuR τ1 24 0 (.ref 25) = τ2 at hP2 ⊢
  refine hV.1 _ _ _ _ ?_
  refine ⟨rfl, rfl, by rw [hP2.1, hP.1]; rfl, ?_⟩
  exact hK _ hP2
set_option maxRecDepth 8000 in
theorem init_X1_21 {d : Nat} {σ : zSt} {K : Option Value → zSt → Prop} {R : List (Nat × Nat × Nat)} {I : List (Nat × (Nat → Int32))} (hP : zP 22 R I σ) (hlt : ∀ t ∈ R, t.1 ≠ 21) (hK : ∀ τ, zP 24 ([(21, 1, 23), (21, 0, 22)] ++ R) ((23, zz) :: (22, zz) :: I) τ → K none τ) : zSp zx (d + 1) mX1_init [.ref 21] σ K := by
  refine ⟨⟨by decide, Nat.le_of_ble_eq_true rfl⟩, fun V hV => ?_⟩
  refine hV.1 _ _ _ _ ?_
  show V 1 [(0, .ref 21)] [.ref 21] σ
  refine hV.1 _ _ _ _ ?_
  show _ ∧ V 4 [(0, .ref 21)] [] σ
  refine ⟨by decide, ?_⟩
  refine hV.1 _ _ _ _ ?_
  show V 5 [(0, .ref 21)] [.ref 21] σ
  refine hV.1 _ _ _ _ ?_
  show V 7 [(0, .ref 21)] [.int 100, .ref 21] σ
  refine hV.1 _ _ _ _ ?_
  refine ⟨⟨by rw [hP.1]; rfl, rfl, by decide, by rw [hP.1]; decide⟩, ?_⟩
  rw [hP.1]
  have hP1 := zP_new hP
  generalize zuN σ = τ1 at hP1 ⊢
  show V 9 [(0, .ref 21)] [.ref 22, .ref 21] τ1
  refine hV.1 _ _ _ _ ?_
  refine ⟨⟨by rw [hP1.1]; decide, rfl, Or.inr ⟨rfl, rfl⟩⟩, ?_⟩
  show V 12 [(0, .ref 21)] [] (zuR τ1 21 0 (.ref 22))
  have hP2 := zP_ref (a := 21) (k := 0) (b := 22) hP1 (by decide) (fun t_z ht q_z => hlt t_z ht q_z.1)
  generalize zuR τ1 21 0 (.ref 22) = τ2 at hP2 ⊢
  refine hV.1 _ _ _ _ ?_
  show V 13 [(0, .ref 21)] [.ref 21] τ2
  refine hV.1 _ _ _ _ ?_
  show V 15 [(0, .ref 21)] [.int 10, .ref 21] τ2
  refine hV.1 _ _ _ _ ?_
  refine ⟨⟨by rw [hP2.1]; rfl, rfl, by decide, by rw [hP2.1, hP.1]; decide⟩, ?_⟩
  rw [hP2.1]
  have hP3 := zP_new hP2
  generalize zuN τ2 = τ3 at hP3 ⊢
  show V 17 [(0, .ref 21)] [.ref 23, .ref 21] τ3
  refine hV.1 _ _ _ _ ?_
  refine ⟨⟨by rw [hP3.1]; decide, rfl, Or.inr ⟨rfl, rfl⟩⟩, ?_⟩
  show V 20 [(0, .ref 21)] [] (zuR τ3 21 1 (.ref 23))
  have hP4 := zP_ref (a := 21) (k := 1) (b := 23) hP3 (by decide) (List.forall_mem_cons.mpr ⟨by decide, (fun t_z ht q_z => hlt t_z ht q_z.1)⟩)
  generalize zuR τ3 21 1 (.ref 23) = τ4 at hP4 ⊢
  refine hV.1 _ _ _ _ ?_
  refine ⟨rfl, rfl, by rw [hP4.1, hP.1]; rfl, ?_⟩
  exact hK _ hP4
set_option maxRecDepth 8000 in
theorem init_X2_4 {d : Nat} {σ : zSt} {K : Option Value → zSt → Prop} {R : List (Nat × Nat × Nat)} {I : List (Nat × (Nat → Int32))} (hP : zP 5 R I σ) (hlt : ∀ t ∈ R, t.1 ≠ 4) (hK : ∀ τ, zP 7 ([(4, 1, 6), (4, 0, 5)] ++ R) ((6, zz) :: (5, zz) :: I) τ → K none τ) : zSp zx (d + 1) mX2_init [.ref 4] σ K := by
  refine ⟨⟨by decide, Nat.le_of_ble_eq_true rfl⟩, fun V hV => ?_⟩
  refine hV.1 _ _ _ _ ?_
  show V 1 [(0, .ref 4)] [.ref 4] σ
  refine hV.1 _ _ _ _ ?_
  show _ ∧ V 4 [(0, .ref 4)] [] σ
  refine ⟨by decide, ?_⟩
  refine hV.1 _ _ _ _ ?_
  show V 5 [(0, .ref 4)] [.ref 4] σ
  refine hV.1 _ _ _ _ ?_
  show V 7 [(0, .ref 4)] [.int 8, .ref 4] σ
  refine hV.1 _ _ _ _ ?_
  refine ⟨⟨by rw [hP.1]; rfl, rfl, by decide, by rw [hP.1]; decide⟩, ?_⟩
  rw [hP.1]
  have hP1 := zP_new hP
  generalize zuN σ = τ1 at hP1 ⊢
  show V 9 [(0, .ref 4)] [.ref 5, .ref 4] τ1
  refine hV.1 _ _ _ _ ?_
  refine ⟨⟨by rw [hP1.1]; decide, rfl, Or.inr ⟨rfl, rfl⟩⟩, ?_⟩
  show V 12 [(0, .ref 4)] [] (zuR τ1 4 0 (.ref 5))
  have hP2 := zP_ref (a := 4) (k := 0) (b := 5) hP1 (by decide) (fun t_z ht q_z => hlt t_z ht q_z.1)
  generalize zuR τ1 4 0 (.ref 5) = τ2 at hP2 ⊢
  refine hV.1 _ _ _ _ ?_
  show V 13 [(0, .ref 4)] [.ref 4] τ2
  refine hV.1 _ _ _ _ ?_
  show V 15 [(0, .ref 4)] [.int 8, .ref 4] τ2
  refine hV.1 _ _ _ _ ?_
  refine ⟨⟨by rw [hP2.1]; rfl, rfl, by decide, by rw [hP2.1, hP.1]; decide⟩, ?_⟩
  rw [hP2.1]
  have hP3 := zP_new hP2
  generalize zuN τ2 = τ3 at hP3 ⊢
  show V 17 [(0, .ref 4)] [.ref 6, .ref 4] τ3
  refine hV.1 _ _ _ _ ?_
  refine ⟨⟨by rw [hP3.1]; decide, rfl, Or.inr ⟨rfl, rfl⟩⟩, ?_⟩
  show V 20 [(0, .ref 4)] [] (zuR τ3 4 1 (.ref 6))
  have hP4 := zP_ref (a := 4) (k := 1) (b := 6) hP3 (by decide) (List.forall_mem_cons.mpr ⟨by decide, (fun t_z ht q_z => hlt t_z ht q_z.1)⟩)
  generalize zuR τ3 4 1 (.ref 6) = τ4 at hP4 ⊢
  refine hV.1 _ _ _ _ ?_
  refine ⟨rfl, rfl, by rw [hP4.1, hP.1]; rfl, ?_⟩
  exact hK _ hP4
set_option maxRecDepth 8000 in
theorem init_X2_7 {d : Nat} {σ : zSt} {K : Option Value → zSt → Prop} {R : List (Nat × Nat × Nat)} {I : List (Nat × (Nat → Int32))} (hP : zP 8 R I σ) (hlt : ∀ t ∈ R, t.1 ≠ 7) (hK : ∀ τ, zP 10 ([(7, 1, 9), (7, 0, 8)] ++ R) ((9, zz) :: (8, zz) :: I) τ → K none τ) : zSp zx (d + 1) mX2_init [.ref 7] σ K := by
  refine ⟨⟨by decide, Nat.le_of_ble_eq_true rfl⟩, fun V hV => ?_⟩
  refine hV.1 _ _ _ _ ?_
  show V 1 [(0, .ref 7)] [.ref 7] σ
  refine hV.1 _ _ _ _ ?_
  show _ ∧ V 4 [(0, .ref 7)] [] σ
  refine ⟨by decide, ?_⟩
  refine hV.1 _ _ _ _ ?_
  show V 5 [(0, .ref 7)] [.ref 7] σ
  refine hV.1 _ _ _ _ ?_
  show V 7 [(0, .ref 7)] [.int 8, .ref 7] σ
  refine hV.1 _ _ _ _ ?_
  refine ⟨⟨by rw [hP.1]; rfl, rfl, by decide, by rw [hP.1]; decide⟩, ?_⟩
  rw [hP.1]
  have hP1 := zP_new hP
  generalize zuN σ = τ1 at hP1 ⊢
  show V 9 [(0, .ref 7)] [.ref 8, .ref 7] τ1
  refine hV.1 _ _ _ _ ?_
  refine ⟨⟨by rw [hP1.1]; decide, rfl, Or.inr ⟨rfl, rfl⟩⟩, ?_⟩
  show V 12 [(0, .ref 7)] [] (zuR τ1 7 0 (.ref 8))
  have hP2 := zP_ref (a := 7) (k := 0) (b := 8) hP1 (by decide) (fun t_z ht q_z => hlt t_z ht q_z.1)
  generalize zuR τ1 7 0 (.ref 8) = τ2 at hP2 ⊢
  refine hV.1 _ _ _ _ ?_
  show V 13 [(0, .ref 7)] [.ref 7] τ2
  refine hV.1 _ _ _ _ ?_
  show V 15 [(0, .ref 7)] [.int 8, .ref 7] τ2
  refine hV.1 _ _ _ _ ?_
  refine ⟨⟨by rw [hP2.1]; rfl, rfl, by decide, by rw [hP2.1, hP.1]; decide⟩, ?_⟩
  rw [hP2.1]
  have hP3 := zP_new hP2
  generalize zuN τ2 = τ3 at hP3 ⊢
  show V 17 [(0, .ref 7)] [.ref 9, .ref 7] τ3
  refine hV.1 _ _ _ _ ?_
  refine ⟨⟨by rw [hP3.1]; decide, rfl, Or.inr ⟨rfl, rfl⟩⟩, ?_⟩
  show V 20 [(0, .ref 7)] [] (zuR τ3 7 1 (.ref 9))
  have hP4 := zP_ref (a := 7) (k := 1) (b := 9) hP3 (by decide) (List.forall_mem_cons.mpr ⟨by decide, (fun t_z ht q_z => hlt t_z ht q_z.1)⟩)
  generalize zuR τ3 7 1 (.ref 9) = τ4 at hP4 ⊢
  refine hV.1 _ _ _ _ ?_
  refine ⟨rfl, rfl, by rw [hP4.1, hP.1]; rfl, ?_⟩
  exact hK _ hP4
set_option maxRecDepth 8000 in
theorem init_X4_18 {d : Nat} {σ : zSt} {K : Option Value → zSt → Prop} {R : List (Nat × Nat × Nat)} {I : List (Nat × (Nat → Int32))} (hP : zP 19 R I σ) (hlt : ∀ t ∈ R, t.1 ≠ 18) (hK : ∀ τ, zP 21 ([(18, 1, 20), (18, 0, 19)] ++ R) ((20, zz) :: (19, zz) :: I) τ → K none τ) : zSp zx (d + 1) mX4_init [.ref 18] σ K := by
  refine ⟨⟨by decide, Nat.le_of_ble_eq_true rfl⟩, fun V hV => ?_⟩
  refine hV.1 _ _ _ _ ?_
  show V 1 [(0, .ref 18)] [.ref 18] σ
  refine hV.1 _ _ _ _ ?_
  show _ ∧ V 4 [(0, .ref 18)] [] σ
  refine ⟨by decide, ?_⟩
  refine hV.1 _ _ _ _ ?_
  show V 5 [(0, .ref 18)] [.ref 18] σ
  refine hV.1 _ _ _ _ ?_
  show V 7 [(0, .ref 18)] [.int 20, .ref 18] σ
  refine hV.1 _ _ _ _ ?_
  refine ⟨⟨by rw [hP.1]; rfl, rfl, by decide, by rw [hP.1]; decide⟩, ?_⟩
  rw [hP.1]
  have hP1 := zP_new hP
  generalize zuN σ = τ1 at hP1 ⊢
  show V 9 [(0, .ref 18)] [.ref 19, .ref 18] τ1
  refine hV.1 _ _ _ _ ?_
  refine ⟨⟨by rw [hP1.1]; decide, rfl, Or.inr ⟨rfl, rfl⟩⟩, ?_⟩
  show V 12 [(0, .ref 18)] [] (zuR τ1 18 0 (.ref 19))
  have hP2 := zP_ref (a := 18) (k := 0) (b := 19) hP1 (by decide) (fun t_z ht q_z => hlt t_z ht q_z.1)
  generalize zuR τ1 18 0 (.ref 19) = τ2 at hP2 ⊢
  refine hV.1 _ _ _ _ ?_
  show V 13 [(0, .ref 18)] [.ref 18] τ2
  refine hV.1 _ _ _ _ ?_
  show V 15 [(0, .ref 18)] [.int 20, .ref 18] τ2
  refine hV.1 _ _ _ _ ?_
  refine ⟨⟨by rw [hP2.1]; rfl, rfl, by decide, by rw [hP2.1, hP.1]; decide⟩, ?_⟩
  rw [hP2.1]
  have hP3 := zP_new hP2
  generalize zuN τ2 = τ3 at hP3 ⊢
  show V 17 [(0, .ref 18)] [.ref 20, .ref 18] τ3
  refine hV.1 _ _ _ _ ?_
  refine ⟨⟨by rw [hP3.1]; decide, rfl, Or.inr ⟨rfl, rfl⟩⟩, ?_⟩
  show V 20 [(0, .ref 18)] [] (zuR τ3 18 1 (.ref 20))
  have hP4 := zP_ref (a := 18) (k := 1) (b := 20) hP3 (by decide) (List.forall_mem_cons.mpr ⟨by decide, (fun t_z ht q_z => hlt t_z ht q_z.1)⟩)
  generalize zuR τ3 18 1 (.ref 20) = τ4 at hP4 ⊢
  refine hV.1 _ _ _ _ ?_
  refine ⟨rfl, rfl, by rw [hP4.1, hP.1]; rfl, ?_⟩
  exact hK _ hP4
set_option maxRecDepth 8000 in
theorem init_X6_14 {d : Nat} {σ : zSt} {K : Option Value → zSt → Prop} {R : List (Nat × Nat × Nat)} {I : List (Nat × (Nat → Int32))} (hP : zP 15 R I σ) (hlt : ∀ t ∈ R, t.1 ≠ 14) (hK : ∀ τ, zP 18 ([(14, 2, 17), (14, 1, 16), (14, 0, 15)] ++ R) ((17, zz) :: (16, zz) :: (15, zz) :: I) τ → K none τ) : zSp zx (d + 1) mX6_init [.ref 14] σ K := by
  refine ⟨⟨by decide, Nat.le_of_ble_eq_true rfl⟩, fun V hV => ?_⟩
  refine hV.1 _ _ _ _ ?_
  show V 1 [(0, .ref 14)] [.ref 14] σ
  refine hV.1 _ _ _ _ ?_
  show _ ∧ V 4 [(0, .ref 14)] [] σ
  refine ⟨by decide, ?_⟩
  refine hV.1 _ _ _ _ ?_
  show V 5 [(0, .ref 14)] [.ref 14] σ
  refine hV.1 _ _ _ _ ?_
  show V 7 [(0, .ref 14)] [.int 7, .ref 14] σ
  refine hV.1 _ _ _ _ ?_
  refine ⟨⟨by rw [hP.1]; rfl, rfl, by decide, by rw [hP.1]; decide⟩, ?_⟩
  rw [hP.1]
  have hP1 := zP_new hP
  generalize zuN σ = τ1 at hP1 ⊢
  show V 9 [(0, .ref 14)] [.ref 15, .ref 14] τ1
  refine hV.1 _ _ _ _ ?_
  refine ⟨⟨by rw [hP1.1]; decide, rfl, Or.inr ⟨rfl, rfl⟩⟩, ?_⟩
  show V 12 [(0, .ref 14)] [] (zuR τ1 14 0 (.ref 15))
  have hP2 := zP_ref (a := 14) (k := 0) (b := 15) hP1 (by decide) (fun t_z ht q_z => hlt t_z ht q_z.1)
  generalize zuR τ1 14 0 (.ref 15) = τ2 at hP2 ⊢
  refine hV.1 _ _ _ _ ?_
  show V 13 [(0, .ref 14)] [.ref 14] τ2
  refine hV.1 _ _ _ _ ?_
  show V 15 [(0, .ref 14)] [.int 7, .ref 14] τ2
  refine hV.1 _ _ _ _ ?_
  refine ⟨⟨by rw [hP2.1]; rfl, rfl, by decide, by rw [hP2.1, hP.1]; decide⟩, ?_⟩
  rw [hP2.1]
  have hP3 := zP_new hP2
  generalize zuN τ2 = τ3 at hP3 ⊢
  show V 17 [(0, .ref 14)] [.ref 16, .ref 14] τ3
  refine hV.1 _ _ _ _ ?_
  refine ⟨⟨by rw [hP3.1]; decide, rfl, Or.inr ⟨rfl, rfl⟩⟩, ?_⟩
  show V 20 [(0, .ref 14)] [] (zuR τ3 14 1 (.ref 16))
  have hP4 := zP_ref (a := 14) (k := 1) (b := 16) hP3 (by decide) (List.forall_mem_cons.mpr ⟨by decide, (fun t_z ht q_z => hlt t_z ht q_z.1)⟩)
  generalize zuR τ3 14 1 (.ref 16) = τ4 at hP4 ⊢
  refine hV.1 _ _ _ _ ?_
  show V 21 [(0, .ref 14)] [.ref 14] τ4
  refine hV.1 _ _ _ _ ?_
  show V 23 [(0, .ref 14)] [.int 7, .ref 14] τ4
  refine hV.1 _ _ _ _ ?_
  refine ⟨⟨by rw [hP4.1]; rfl, rfl, by decide, by rw [hP4.1, hP.1]; decide⟩, ?_⟩
  rw [hP4.1]
  have hP5 := zP_new hP4
  generalize zuN τ4 = τ5 at hP5 ⊢
  show V 25 [(0, .ref 14)] [.ref 17, .ref 14] τ5
  refine hV.1 _ _ _ _ ?_
  refine ⟨⟨by rw [hP5.1]; decide, rfl, Or.inr ⟨rfl, rfl⟩⟩, ?_⟩
  show V 28 [(0, .ref 14)] [] (zuR τ5 14 2 (.ref 17))
  have hP6 := zP_ref (a := 14) (k := 2) (b := 17) hP5 (by decide) (List.forall_mem_cons.mpr ⟨by decide, (List.forall_mem_cons.mpr ⟨by decide, (fun t_z ht q_z => hlt t_z ht q_z.1)⟩)⟩)
  generalize zuR τ5 14 2 (.ref 17) = τ6 at hP6 ⊢
  refine hV.1 _ _ _ _ ?_
  refine ⟨rfl, rfl, by rw [hP6.1, hP.1]; rfl, ?_⟩
  exact hK _ hP6
set_option maxRecDepth 8000 in
theorem init_X7_10 {d : Nat} {σ : zSt} {K : Option Value → zSt → Prop} {R : List (Nat × Nat × Nat)} {I : List (Nat × (Nat → Int32))} (hP : zP 11 R I σ) (hlt : ∀ t ∈ R, t.1 ≠ 10) (hK : ∀ τ, zP 14 ([(10, 2, 13), (10, 1, 12), (10, 0, 11)] ++ R) ((13, zz) :: (12, zz) :: (11, zz) :: I) τ → K none τ) : zSp zx (d + 1) mX7_init [.ref 10] σ K := by
  refine ⟨⟨by decide, Nat.le_of_ble_eq_true rfl⟩, fun V hV => ?_⟩
  refine hV.1 _ _ _ _ ?_
  show V 1 [(0, .ref 10)] [.ref 10] σ
  refine hV.1 _ _ _ _ ?_
  show _ ∧ V 4 [(0, .ref 10)] [] σ
  refine ⟨by decide, ?_⟩
  refine hV.1 _ _ _ _ ?_
  show V 5 [(0, .ref 10)] [.ref 10] σ
  refine hV.1 _ _ _ _ ?_
  show V 7 [(0, .ref 10)] [.int 16, .ref 10] σ
  refine hV.1 _ _ _ _ ?_
  refine ⟨⟨by rw [hP.1]; rfl, rfl, by decide, by rw [hP.1]; decide⟩, ?_⟩
  rw [hP.1]
  have hP1 := zP_new hP
  generalize zuN σ = τ1 at hP1 ⊢
  show V 9 [(0, .ref 10)] [.ref 11, .ref 10] τ1
  refine hV.1 _ _ _ _ ?_
  refine ⟨⟨by rw [hP1.1]; decide, rfl, Or.inr ⟨rfl, rfl⟩⟩, ?_⟩
  show V 12 [(0, .ref 10)] [] (zuR τ1 10 0 (.ref 11))
  have hP2 := zP_ref (a := 10) (k := 0) (b := 11) hP1 (by decide) (fun t_z ht q_z => hlt t_z ht q_z.1)
  generalize zuR τ1 10 0 (.ref 11) = τ2 at hP2 ⊢
  refine hV.1 _ _ _ _ ?_
  show V 13 [(0, .ref 10)] [.ref 10] τ2
  refine hV.1 _ _ _ _ ?_
  show V 15 [(0, .ref 10)] [.int 16, .ref 10] τ2
  refine hV.1 _ _ _ _ ?_
  refine ⟨⟨by rw [hP2.1]; rfl, rfl, by decide, by rw [hP2.1, hP.1]; decide⟩, ?_⟩
  rw [hP2.1]
  have hP3 := zP_new hP2
  generalize zuN τ2 = τ3 at hP3 ⊢
  show V 17 [(0, .ref 10)] [.ref 12, .ref 10] τ3
  refine hV.1 _ _ _ _ ?_
  refine ⟨⟨by rw [hP3.1]; decide, rfl, Or.inr ⟨rfl, rfl⟩⟩, ?_⟩
  show V 20 [(0, .ref 10)] [] (zuR τ3 10 1 (.ref 12))
  have hP4 := zP_ref (a := 10) (k := 1) (b := 12) hP3 (by decide) (List.forall_mem_cons.mpr ⟨by decide, (fun t_z ht q_z => hlt t_z ht q_z.1)⟩)
  generalize zuR τ3 10 1 (.ref 12) = τ4 at hP4 ⊢
  refine hV.1 _ _ _ _ ?_
  show V 21 [(0, .ref 10)] [.ref 10] τ4
  refine hV.1 _ _ _ _ ?_
  show V 23 [(0, .ref 10)] [.int 16, .ref 10] τ4
  refine hV.1 _ _ _ _ ?_
  refine ⟨⟨by rw [hP4.1]; rfl, rfl, by decide, by rw [hP4.1, hP.1]; decide⟩, ?_⟩
  rw [hP4.1]
  have hP5 := zP_new hP4
  generalize zuN τ4 = τ5 at hP5 ⊢
  show V 25 [(0, .ref 10)] [.ref 13, .ref 10] τ5
  refine hV.1 _ _ _ _ ?_
  refine ⟨⟨by rw [hP5.1]; decide, rfl, Or.inr ⟨rfl, rfl⟩⟩, ?_⟩
  show V 28 [(0, .ref 10)] [] (zuR τ5 10 2 (.ref 13))
  have hP6 := zP_ref (a := 10) (k := 2) (b := 13) hP5 (by decide) (List.forall_mem_cons.mpr ⟨by decide, (List.forall_mem_cons.mpr ⟨by decide, (fun t_z ht q_z => hlt t_z ht q_z.1)⟩)⟩)
  generalize zuR τ5 10 2 (.ref 13) = τ6 at hP6 ⊢
  refine hV.1 _ _ _ _ ?_
  refine ⟨rfl, rfl, by rw [hP6.1, hP.1]; rfl, ?_⟩
  exact hK _ hP6
def zX0 : Nat → Int32 := upd (upd (upd zz 0 0) 1 10) 2 0
def zY0 : Nat → Int32 := upd (upd (upd zz 0 0) 1 0) 2 10
set_option maxRecDepth 8000 in
theorem init_X3 {d : Nat} {σ : zSt} {K : Option Value → zSt → Prop} (hP : zP 2 [] [(1, zz), (0, zz)] σ) (hK : ∀ τ, zP 4 [(1, 1, 3), (1, 0, 2)] [(3, zY0), (2, zX0), (1, τ.1 1), (0, zz)] τ → τ.1 1 2 = nI 3 → τ.1 1 3 = zAr 3 zX0 zY0 3 → τ.1 1 4 = zMx 3 zX0 zY0 3 → τ.1 1 5 = zMy 3 zX0 zY0 3 → K none τ) : zSp zx (d + 4) mX3_init [.ref 1] σ K := by
  refine ⟨⟨by decide, Nat.le_of_ble_eq_true rfl⟩, fun V hV => ?_⟩
  refine hV.1 _ _ _ _ ?_
  show V 1 [(0, .ref 1)] [.ref 1] σ
  refine hV.1 _ _ _ _ ?_
  show _ ∧ V 4 [(0, .ref 1)] [] σ
  refine ⟨by decide, ?_⟩
  refine hV.1 _ _ _ _ ?_
  show V 5 [(0, .ref 1)] [.ref 1] σ
  refine hV.1 _ _ _ _ ?_
  show V 7 [(0, .ref 1)] [.int 10, .ref 1] σ
  refine hV.1 _ _ _ _ ?_
  refine ⟨⟨by rw [hP.1]; rfl, rfl, by decide, by rw [hP.1]; decide⟩, ?_⟩
  rw [hP.1]
  have hP1 := zP_new hP
  generalize zuN σ = τ1 at hP1 ⊢
  show V 9 [(0, .ref 1)] [.ref 2, .ref 1] τ1
  refine hV.1 _ _ _ _ ?_
  refine ⟨⟨by rw [hP1.1]; decide, rfl, Or.inr ⟨rfl, rfl⟩⟩, ?_⟩
  show V 12 [(0, .ref 1)] [] (zuR τ1 1 0 (.ref 2))
  have hP2 := zP_ref (a := 1) (k := 0) (b := 2) hP1 (by decide) (by decide)
  generalize zuR τ1 1 0 (.ref 2) = τ2 at hP2 ⊢
  refine hV.1 _ _ _ _ ?_
  show V 13 [(0, .ref 1)] [.ref 1] τ2
  refine hV.1 _ _ _ _ ?_
  show V 15 [(0, .ref 1)] [.int 10, .ref 1] τ2
  refine hV.1 _ _ _ _ ?_
  refine ⟨⟨by rw [hP2.1]; rfl, rfl, by decide, by rw [hP2.1, hP.1]; decide⟩, ?_⟩
  rw [hP2.1]
  have hP3 := zP_new hP2
  generalize zuN τ2 = τ3 at hP3 ⊢
  show V 17 [(0, .ref 1)] [.ref 3, .ref 1] τ3
  refine hV.1 _ _ _ _ ?_
  refine ⟨⟨by rw [hP3.1]; decide, rfl, Or.inr ⟨rfl, rfl⟩⟩, ?_⟩
  show V 20 [(0, .ref 1)] [] (zuR τ3 1 1 (.ref 3))
  have hP4 := zP_ref (a := 1) (k := 1) (b := 3) hP3 (by decide) (by decide)
  generalize zuR τ3 1 1 (.ref 3) = τ4 at hP4 ⊢
  have hI : zQI (kR 1 4) τ4.2.2 := zQI_P hP4 (by decide) (by decide)
  have hn : τ4.2.2.2 = σ.2.2.2 + zAl mX3_init := by rw [hP4.1, hP.1]; rfl
  refine zq (σ := τ4) hV hI hn 5 ?_
  show zSp _ _ 14 [.ref 1, .int 0, .int 0, .int 0] τ4 (fun r_z σ' => σ'.2.2.2 = τ4.2.2.2 + zAl 14 → V 27 [(0, .ref 1)] (r_z.toList ++ []) σ')
  refine setCorner_ok (zR_of hI rfl rfl) (k := 0) rfl (by decide) (fun _ => ?_)
  refine zq (σ := (zuI (zuI τ4 2 0 0) 3 0 0)) hV hI hn 5 ?_
  show zSp _ _ 14 [.ref 1, .int 1, .int 10, .int 0] (zuI (zuI τ4 2 0 0) 3 0 0) (fun r_z σ' => σ'.2.2.2 = (zuI (zuI τ4 2 0 0) 3 0 0).2.2.2 + zAl 14 → V 35 [(0, .ref 1)] (r_z.toList ++ []) σ')
  refine setCorner_ok (zR_of hI rfl rfl) (k := 1) rfl (by decide) (fun _ => ?_)
  refine zq (σ := (zuI (zuI (zuI (zuI τ4 2 0 0) 3 0 0) 2 1 10) 3 1 0)) hV hI hn 5 ?_
  show zSp _ _ 14 [.ref 1, .int 2, .int 0, .int 10] (zuI (zuI (zuI (zuI τ4 2 0 0) 3 0 0) 2 1 10) 3 1 0) (fun r_z σ' => σ'.2.2.2 = (zuI (zuI (zuI (zuI τ4 2 0 0) 3 0 0) 2 1 10) 3 1 0).2.2.2 + zAl 14 → V 43 [(0, .ref 1)] (r_z.toList ++ []) σ')
  refine setCorner_ok (zR_of hI rfl rfl) (k := 2) rfl (by decide) (fun _ => ?_)
  refine zq (σ := (zuI (zuI (zuI (zuI (zuI (zuI τ4 2 0 0) 3 0 0) 2 1 10) 3 1 0) 2 2 0) 3 2 10)) hV hI hn 3 ?_
  show zSp _ _ 15 [.ref 1, .int 3] (zuI (zuI (zuI (zuI (zuI (zuI τ4 2 0 0) 3 0 0) 2 1 10) 3 1 0) 2 2 0) 3 2 10) (fun r_z σ' => σ'.2.2.2 = (zuI (zuI (zuI (zuI (zuI (zuI τ4 2 0 0) 3 0 0) 2 1 10) 3 1 0) 2 2 0) 3 2 10).2.2.2 + zAl 15 → V 48 [(0, .ref 1)] (r_z.toList ++ []) σ')
  refine close_ok (zR_of hI rfl rfl) (n := 3) (by decide) (fun υ hu hcn har hmx hmy _ => ?_)
  have hIυ := zQI_eq hI hu.2.2
  have hnυ : υ.2.2.2 = _ := (congrArg Prod.snd hu.2.2).trans hn
  refine zq (σ := υ) hV hIυ hnυ 1 ?_
  show K none υ
  have y2 : υ.1 2 = zX0 := (funext fun j_z => hu.1 2 j_z rfl).trans (by show upd (upd (upd (τ4.1 2) 0 0) 1 10) 2 0 = _; rw [zP_mem hP4 1 rfl]; rfl)
  have y3 : υ.1 3 = zY0 := (funext fun j_z => hu.1 3 j_z rfl).trans (by show upd (upd (upd (τ4.1 3) 0 0) 1 0) 2 10 = _; rw [zP_mem hP4 0 rfl]; rfl)
  have c2_z : ((zuI (zuI (zuI (zuI (zuI (zuI τ4 2 0 0) 3 0 0) 2 1 10) 3 1 0) 2 2 0) 3 2 10)).1 2 = zX0 := by show upd (upd (upd (τ4.1 2) 0 0) 1 10) 2 0 = _; rw [zP_mem hP4 1 rfl]; rfl
  have c3_z : ((zuI (zuI (zuI (zuI (zuI (zuI τ4 2 0 0) 3 0 0) 2 1 10) 3 1 0) 2 2 0) 3 2 10)).1 3 = zY0 := by show upd (upd (upd (τ4.1 3) 0 0) 1 0) 2 10 = _; rw [zP_mem hP4 0 rfl]; rfl
  rw [c2_z, c3_z] at har hmx hmy
  have y0 : υ.1 0 = zz := (funext fun j_z => hu.1 0 j_z rfl).trans (zP_mem hP4 3 rfl)
  refine hK υ ⟨(congrArg Prod.snd hu.2.2).trans hP4.1, fun t_z ht => ?_, List.forall_mem_cons.mpr ⟨⟨Nat.le_of_ble_eq_true rfl, y3⟩, List.forall_mem_cons.mpr ⟨⟨Nat.le_of_ble_eq_true rfl, y2⟩, List.forall_mem_cons.mpr ⟨⟨Nat.le_of_ble_eq_true rfl, rfl⟩, List.forall_mem_cons.mpr ⟨⟨Nat.le_of_ble_eq_true rfl, y0⟩, fun t_z ht => absurd ht List.not_mem_nil⟩⟩⟩⟩⟩ hcn har hmx hmy
  rw [show υ.2.2.1 = τ4.2.2.1 from congrArg Prod.fst hu.2.2]
  exact hP4.2.1 t_z ht
def zF0 : Nat → Int32 := upd (upd (upd (upd zz 0 (-1)) 1 (-1)) 2 (-1)) 3 (-1)
set_option maxRecDepth 8000 in
theorem init_X5 {d : Nat} {σ : zSt} {K : Option Value → zSt → Prop} {R : List (Nat × Nat × Nat)} {I : List (Nat × (Nat → Int32))} (hP : zP 27 R I σ) (hlt : ∀ t ∈ R, t.1 ≠ 26) (hK : ∀ τ, zP 30 ([(26, 2, 29), (26, 1, 28), (26, 0, 27)] ++ R) ((29, zz) :: (28, zz) :: (27, zF0) :: I) τ → K none τ) : zSp zx (d + 3) mX5_init [.ref 26] σ K := by
  refine ⟨⟨by decide, Nat.le_of_ble_eq_true rfl⟩, fun V hV => ?_⟩
  refine hV.1 _ _ _ _ ?_
  show V 1 [(0, .ref 26)] [.ref 26] σ
  refine hV.1 _ _ _ _ ?_
  show _ ∧ V 4 [(0, .ref 26)] [] σ
  refine ⟨by decide, ?_⟩
  refine hV.1 _ _ _ _ ?_
  show V 5 [(0, .ref 26)] [.ref 26] σ
  refine hV.1 _ _ _ _ ?_
  show V 6 [(0, .ref 26)] [.int 4, .ref 26] σ
  refine hV.1 _ _ _ _ ?_
  refine ⟨⟨by rw [hP.1]; rfl, rfl, by decide, by rw [hP.1]; decide⟩, ?_⟩
  rw [hP.1]
  have hP1 := zP_new hP
  generalize zuN σ = τ1 at hP1 ⊢
  show V 8 [(0, .ref 26)] [.ref 27, .ref 26] τ1
  refine hV.1 _ _ _ _ ?_
  refine ⟨⟨by rw [hP1.1]; decide, rfl, Or.inr ⟨rfl, rfl⟩⟩, ?_⟩
  show V 11 [(0, .ref 26)] [] (zuR τ1 26 0 (.ref 27))
  have hP2 := zP_ref (a := 26) (k := 0) (b := 27) hP1 (by decide) (fun t_z ht q_z => hlt t_z ht q_z.1)
  generalize zuR τ1 26 0 (.ref 27) = τ2 at hP2 ⊢
  refine hV.1 _ _ _ _ ?_
  show V 12 [(0, .ref 26)] [.ref 26] τ2
  refine hV.1 _ _ _ _ ?_
  show V 13 [(0, .ref 26)] [.int 4, .ref 26] τ2
  refine hV.1 _ _ _ _ ?_
  refine ⟨⟨by rw [hP2.1]; rfl, rfl, by decide, by rw [hP2.1, hP.1]; decide⟩, ?_⟩
  rw [hP2.1]
  have hP3 := zP_new hP2
  generalize zuN τ2 = τ3 at hP3 ⊢
  show V 15 [(0, .ref 26)] [.ref 28, .ref 26] τ3
  refine hV.1 _ _ _ _ ?_
  refine ⟨⟨by rw [hP3.1]; decide, rfl, Or.inr ⟨rfl, rfl⟩⟩, ?_⟩
  show V 18 [(0, .ref 26)] [] (zuR τ3 26 1 (.ref 28))
  have hP4 := zP_ref (a := 26) (k := 1) (b := 28) hP3 (by decide) (List.forall_mem_cons.mpr ⟨by decide, (fun t_z ht q_z => hlt t_z ht q_z.1)⟩)
  generalize zuR τ3 26 1 (.ref 28) = τ4 at hP4 ⊢
  refine hV.1 _ _ _ _ ?_
  show V 19 [(0, .ref 26)] [.ref 26] τ4
  refine hV.1 _ _ _ _ ?_
  show V 22 [(0, .ref 26)] [.int 240, .ref 26] τ4
  refine hV.1 _ _ _ _ ?_
  refine ⟨⟨by rw [hP4.1]; rfl, rfl, by decide, by rw [hP4.1, hP.1]; decide⟩, ?_⟩
  rw [hP4.1]
  have hP5 := zP_new hP4
  generalize zuN τ4 = τ5 at hP5 ⊢
  show V 24 [(0, .ref 26)] [.ref 29, .ref 26] τ5
  refine hV.1 _ _ _ _ ?_
  refine ⟨⟨by rw [hP5.1]; decide, rfl, Or.inr ⟨rfl, rfl⟩⟩, ?_⟩
  show V 27 [(0, .ref 26)] [] (zuR τ5 26 2 (.ref 29))
  have hP6 := zP_ref (a := 26) (k := 2) (b := 29) hP5 (by decide) (List.forall_mem_cons.mpr ⟨by decide, (List.forall_mem_cons.mpr ⟨by decide, (fun t_z ht q_z => hlt t_z ht q_z.1)⟩)⟩)
  generalize zuR τ5 26 2 (.ref 29) = τ6 at hP6 ⊢
  have hI : zQI (kR 26 30) τ6.2.2 := zQI_P hP6 (by decide) rfl
  have hn : τ6.2.2.2 = σ.2.2.2 + zAl mX5_init := by rw [hP6.1, hP.1]; rfl
  refine zq (σ := τ6) hV hI hn 2 ?_
  show V 29 [(1, .int 0), (0, .ref 26)] [] τ6
  refine zq (σ := τ6) hV hI hn 3 ?_
  show (4 ≤ (0 : Int32) → V 45 [(1, .int 0), (0, .ref 26)] [] τ6) ∧ (¬ 4 ≤ (0 : Int32) → V 34 [(1, .int 0), (0, .ref 26)] [] τ6)
  refine ⟨fun hc_z => absurd hc_z (by decide), fun _ => ?_⟩
  refine zq (σ := τ6) hV hI hn 3 ?_
  show zSp _ _ 31 [.ref 26, .int 0] τ6 (fun r_z σ' => σ'.2.2.2 = τ6.2.2.2 + zAl 31 → V 39 [(1, .int 0), (0, .ref 26)] (r_z.toList ++ []) σ')
  refine forget_ok (zR_of hI rfl rfl) (k := 0) rfl (by decide) (fun _ => ?_)
  refine zq (σ := (zuI (zuI τ6 27 0 (-1)) 28 0 0)) hV hI hn 2 ?_
  show V 29 [(1, .int (0 + 1)), (0, .ref 26)] [] (zuI (zuI τ6 27 0 (-1)) 28 0 0)
  rw [show ((0 + 1) : Int32) = 1 from by decide]
  refine zq (σ := (zuI (zuI τ6 27 0 (-1)) 28 0 0)) hV hI hn 3 ?_
  show (4 ≤ (1 : Int32) → V 45 [(1, .int 1), (0, .ref 26)] [] (zuI (zuI τ6 27 0 (-1)) 28 0 0)) ∧ (¬ 4 ≤ (1 : Int32) → V 34 [(1, .int 1), (0, .ref 26)] [] (zuI (zuI τ6 27 0 (-1)) 28 0 0))
  refine ⟨fun hc_z => absurd hc_z (by decide), fun _ => ?_⟩
  refine zq (σ := (zuI (zuI τ6 27 0 (-1)) 28 0 0)) hV hI hn 3 ?_
  show zSp _ _ 31 [.ref 26, .int 1] (zuI (zuI τ6 27 0 (-1)) 28 0 0) (fun r_z σ' => σ'.2.2.2 = (zuI (zuI τ6 27 0 (-1)) 28 0 0).2.2.2 + zAl 31 → V 39 [(1, .int 1), (0, .ref 26)] (r_z.toList ++ []) σ')
  refine forget_ok (zR_of hI rfl rfl) (k := 1) rfl (by decide) (fun _ => ?_)
  refine zq (σ := (zuI (zuI (zuI (zuI τ6 27 0 (-1)) 28 0 0) 27 1 (-1)) 28 1 0)) hV hI hn 2 ?_
  show V 29 [(1, .int (1 + 1)), (0, .ref 26)] [] (zuI (zuI (zuI (zuI τ6 27 0 (-1)) 28 0 0) 27 1 (-1)) 28 1 0)
  rw [show ((1 + 1) : Int32) = 2 from by decide]
  refine zq (σ := (zuI (zuI (zuI (zuI τ6 27 0 (-1)) 28 0 0) 27 1 (-1)) 28 1 0)) hV hI hn 3 ?_
  show (4 ≤ (2 : Int32) → V 45 [(1, .int 2), (0, .ref 26)] [] (zuI (zuI (zuI (zuI τ6 27 0 (-1)) 28 0 0) 27 1 (-1)) 28 1 0)) ∧ (¬ 4 ≤ (2 : Int32) → V 34 [(1, .int 2), (0, .ref 26)] [] (zuI (zuI (zuI (zuI τ6 27 0 (-1)) 28 0 0) 27 1 (-1)) 28 1 0))
  refine ⟨fun hc_z => absurd hc_z (by decide), fun _ => ?_⟩
  refine zq (σ := (zuI (zuI (zuI (zuI τ6 27 0 (-1)) 28 0 0) 27 1 (-1)) 28 1 0)) hV hI hn 3 ?_
  show zSp _ _ 31 [.ref 26, .int 2] (zuI (zuI (zuI (zuI τ6 27 0 (-1)) 28 0 0) 27 1 (-1)) 28 1 0) (fun r_z σ' => σ'.2.2.2 = (zuI (zuI (zuI (zuI τ6 27 0 (-1)) 28 0 0) 27 1 (-1)) 28 1 0).2.2.2 + zAl 31 → V 39 [(1, .int 2), (0, .ref 26)] (r_z.toList ++ []) σ')
  refine forget_ok (zR_of hI rfl rfl) (k := 2) rfl (by decide) (fun _ => ?_)
  refine zq (σ := (zuI (zuI (zuI (zuI (zuI (zuI τ6 27 0 (-1)) 28 0 0) 27 1 (-1)) 28 1 0) 27 2 (-1)) 28 2 0)) hV hI hn 2 ?_
  show V 29 [(1, .int (2 + 1)), (0, .ref 26)] [] (zuI (zuI (zuI (zuI (zuI (zuI τ6 27 0 (-1)) 28 0 0) 27 1 (-1)) 28 1 0) 27 2 (-1)) 28 2 0)
  rw [show ((2 + 1) : Int32) = 3 from by decide]
  refine zq (σ := (zuI (zuI (zuI (zuI (zuI (zuI τ6 27 0 (-1)) 28 0 0) 27 1 (-1)) 28 1 0) 27 2 (-1)) 28 2 0)) hV hI hn 3 ?_
  show (4 ≤ (3 : Int32) → V 45 [(1, .int 3), (0, .ref 26)] [] (zuI (zuI (zuI (zuI (zuI (zuI τ6 27 0 (-1)) 28 0 0) 27 1 (-1)) 28 1 0) 27 2 (-1)) 28 2 0)) ∧ (¬ 4 ≤ (3 : Int32) → V 34 [(1, .int 3), (0, .ref 26)] [] (zuI (zuI (zuI (zuI (zuI (zuI τ6 27 0 (-1)) 28 0 0) 27 1 (-1)) 28 1 0) 27 2 (-1)) 28 2 0))
  refine ⟨fun hc_z => absurd hc_z (by decide), fun _ => ?_⟩
  refine zq (σ := (zuI (zuI (zuI (zuI (zuI (zuI τ6 27 0 (-1)) 28 0 0) 27 1 (-1)) 28 1 0) 27 2 (-1)) 28 2 0)) hV hI hn 3 ?_
  show zSp _ _ 31 [.ref 26, .int 3] (zuI (zuI (zuI (zuI (zuI (zuI τ6 27 0 (-1)) 28 0 0) 27 1 (-1)) 28 1 0) 27 2 (-1)) 28 2 0) (fun r_z σ' => σ'.2.2.2 = (zuI (zuI (zuI (zuI (zuI (zuI τ6 27 0 (-1)) 28 0 0) 27 1 (-1)) 28 1 0) 27 2 (-1)) 28 2 0).2.2.2 + zAl 31 → V 39 [(1, .int 3), (0, .ref 26)] (r_z.toList ++ []) σ')
  refine forget_ok (zR_of hI rfl rfl) (k := 3) rfl (by decide) (fun _ => ?_)
  refine zq (σ := (zuI (zuI (zuI (zuI (zuI (zuI (zuI (zuI τ6 27 0 (-1)) 28 0 0) 27 1 (-1)) 28 1 0) 27 2 (-1)) 28 2 0) 27 3 (-1)) 28 3 0)) hV hI hn 2 ?_
  show V 29 [(1, .int (3 + 1)), (0, .ref 26)] [] (zuI (zuI (zuI (zuI (zuI (zuI (zuI (zuI τ6 27 0 (-1)) 28 0 0) 27 1 (-1)) 28 1 0) 27 2 (-1)) 28 2 0) 27 3 (-1)) 28 3 0)
  rw [show ((3 + 1) : Int32) = 4 from by decide]
  refine zq (σ := (zuI (zuI (zuI (zuI (zuI (zuI (zuI (zuI τ6 27 0 (-1)) 28 0 0) 27 1 (-1)) 28 1 0) 27 2 (-1)) 28 2 0) 27 3 (-1)) 28 3 0)) hV hI hn 3 ?_
  show ((4 : Int32) ≤ 4 → V 45 [(1, .int 4), (0, .ref 26)] [] (zuI (zuI (zuI (zuI (zuI (zuI (zuI (zuI τ6 27 0 (-1)) 28 0 0) 27 1 (-1)) 28 1 0) 27 2 (-1)) 28 2 0) 27 3 (-1)) 28 3 0)) ∧ (¬ (4 : Int32) ≤ 4 → V 34 [(1, .int 4), (0, .ref 26)] [] (zuI (zuI (zuI (zuI (zuI (zuI (zuI (zuI τ6 27 0 (-1)) 28 0 0) 27 1 (-1)) 28 1 0) 27 2 (-1)) 28 2 0) 27 3 (-1)) 28 3 0))
  refine ⟨fun _ => ?_, fun hc_z => absurd (by decide) hc_z⟩
  refine zq (σ := (zuI (zuI (zuI (zuI (zuI (zuI (zuI (zuI τ6 27 0 (-1)) 28 0 0) 27 1 (-1)) 28 1 0) 27 2 (-1)) 28 2 0) 27 3 (-1)) 28 3 0)) hV hI hn 1 ?_
  show K none (zuI (zuI (zuI (zuI (zuI (zuI (zuI (zuI τ6 27 0 (-1)) 28 0 0) 27 1 (-1)) 28 1 0) 27 2 (-1)) 28 2 0) 27 3 (-1)) 28 3 0)
  refine hK _ ⟨hP6.1, hP6.2.1, List.forall_mem_cons.mpr ⟨⟨by decide, zP_mem hP6 0 rfl⟩, List.forall_mem_cons.mpr ⟨⟨by decide, ?_⟩, List.forall_mem_cons.mpr ⟨⟨by decide, ?_⟩, fun t_z ht => ?_⟩⟩⟩⟩
  · show upd (upd (upd (upd (τ6.1 28) 0 0) 1 0) 2 0) 3 0 = zz
    rw [zP_mem hP6 1 rfl]
    funext j_z
    unfold upd zz
    split
    · rfl
    · split
      · rfl
      · split
        · rfl
        · split <;> rfl
  · show upd (upd (upd (upd (τ6.1 27) 0 (-1)) 1 (-1)) 2 (-1)) 3 (-1) = zF0
    rw [zP_mem hP6 2 rfl]; rfl
  · have h27 := (hP.2.2 t_z ht).1
    obtain ⟨q1_z, q2_z⟩ := hP6.2.2 t_z (List.mem_cons_of_mem _ (List.mem_cons_of_mem _ (List.mem_cons_of_mem _ ht)))
    refine ⟨q1_z, ?_⟩
    rw [zuI_ne (by omega), zuI_ne (by omega), zuI_ne (by omega), zuI_ne (by omega), zuI_ne (by omega), zuI_ne (by omega), zuI_ne (by omega), zuI_ne (by omega)]
    exact q2_z
end
section
variable {zx : Nat × (Nat → Int32)}
abbrev zR30 : List (Nat × Nat × Nat) := [(0, 8, 26), (26, 2, 29), (26, 1, 28), (26, 0, 27), (0, 7, 24), (24, 0, 25), (0, 6, 21), (21, 1, 23), (21, 0, 22), (0, 5, 18), (18, 1, 20), (18, 0, 19), (0, 4, 14), (14, 2, 17), (14, 1, 16), (14, 0, 15), (0, 3, 10), (10, 2, 13), (10, 1, 12), (10, 0, 11), (0, 2, 7), (7, 1, 9), (7, 0, 8), (0, 1, 4), (4, 1, 6), (4, 0, 5), (0, 0, 1), (1, 1, 3), (1, 0, 2)]
abbrev zI30 (f1 : Nat → Int32) : List (Nat × (Nat → Int32)) := [(29, zz), (28, zz), (27, zF0), (26, zz), (25, zz), (24, zz), (23, zz), (22, zz), (21, zz), (20, zz), (19, zz), (18, zz), (17, zz), (16, zz), (15, zz), (14, zz), (13, zz), (12, zz), (11, zz), (10, zz), (9, zz), (8, zz), (7, zz), (6, zz), (5, zz), (4, zz), (3, zY0), (2, zX0), (1, f1), (0, zz)]
set_option maxRecDepth 8000 in
set_option maxHeartbeats 4000000 in
theorem init_X8 {d : Nat} {σ : zSt} {K : Option Value → zSt → Prop} (hP : zP 1 [] [(0, zz)] σ) (hK : ∀ τ f1, zP 30 zR30 (zI30 f1) τ → f1 2 = nI 3 → f1 3 = zAr 3 zX0 zY0 3 → f1 4 = zMx 3 zX0 zY0 3 → f1 5 = zMy 3 zX0 zY0 3 → K none τ) : zSp zx (d + 5) mX8_init [.ref 0] σ K := by
  refine ⟨⟨by decide, Nat.le_of_ble_eq_true rfl⟩, fun V hV => ?_⟩
  refine hV.1 _ _ _ _ ?_
  show V 1 [(0, .ref 0)] [.ref 0] σ
  refine hV.1 _ _ _ _ ?_
  show _ ∧ V 4 [(0, .ref 0)] [] σ
  refine ⟨by decide, ?_⟩
  refine hV.1 _ _ _ _ ?_
  show V 5 [(0, .ref 0)] [.ref 0] σ
  refine hV.1 _ _ _ _ ?_
  refine ⟨⟨by rw [hP.1]; rfl, by rw [hP.1]; decide⟩, ?_⟩
  rw [hP.1]
  have hP1 := zP_new hP
  generalize zuN σ = τ1 at hP1 ⊢
  show V 8 [(0, .ref 0)] [.ref 1, .ref 0] τ1
  refine hV.1 _ _ _ _ ?_
  show _ ∧ V 9 [(0, .ref 0)] [.ref 1, .ref 1, .ref 0] τ1
  refine ⟨rfl, ?_⟩
  refine hV.1 _ _ _ _ ?_
  refine ⟨⟨by decide, by decide, trivial, by rw [hP1.1, hP.1]; decide⟩, ?_⟩
  show zSp _ _ 13 [.ref 1] τ1 (fun r_z σ' => σ'.2.2.2 = τ1.2.2.2 + zAl 13 → V 12 [(0, .ref 0)] (r_z.toList ++ [.ref 1, .ref 0]) σ')
  refine init_X3 hP1 (fun τ2 hP2 p2_z p3_z p4_z p5_z _ => ?_)
  show V 12 [(0, .ref 0)] [.ref 1, .ref 0] τ2
  refine hV.1 _ _ _ _ ?_
  refine ⟨⟨by rw [hP2.1]; decide, rfl, Or.inr ⟨rfl, rfl⟩⟩, ?_⟩
  show V 15 [(0, .ref 0)] [] (zuR τ2 0 0 (.ref 1))
  have hP3 := zP_ref (a := 0) (k := 0) (b := 1) hP2 (by decide) (by decide)
  generalize zuR τ2 0 0 (.ref 1) = τ3 at hP3 ⊢
  refine hV.1 _ _ _ _ ?_
  show V 16 [(0, .ref 0)] [.ref 0] τ3
  refine hV.1 _ _ _ _ ?_
  refine ⟨⟨by rw [hP3.1]; rfl, by rw [hP3.1, hP.1]; decide⟩, ?_⟩
  rw [hP3.1]
  have hP4 := zP_new hP3
  generalize zuN τ3 = τ4 at hP4 ⊢
  show V 19 [(0, .ref 0)] [.ref 4, .ref 0] τ4
  refine hV.1 _ _ _ _ ?_
  show _ ∧ V 20 [(0, .ref 0)] [.ref 4, .ref 4, .ref 0] τ4
  refine ⟨rfl, ?_⟩
  refine hV.1 _ _ _ _ ?_
  refine ⟨⟨by decide, by decide, trivial, by rw [hP4.1, hP.1]; decide⟩, ?_⟩
  show zSp _ _ 5 [.ref 4] τ4 (fun r_z σ' => σ'.2.2.2 = τ4.2.2.2 + zAl 5 → V 23 [(0, .ref 0)] (r_z.toList ++ [.ref 4, .ref 0]) σ')
  refine init_X2_4 hP4 (by decide) (fun τ5 hP5 _ => ?_)
  show V 23 [(0, .ref 0)] [.ref 4, .ref 0] τ5
  refine hV.1 _ _ _ _ ?_
  refine ⟨⟨by rw [hP5.1]; decide, rfl, Or.inr ⟨rfl, rfl⟩⟩, ?_⟩
  show V 26 [(0, .ref 0)] [] (zuR τ5 0 1 (.ref 4))
  have hP6 := zP_ref (a := 0) (k := 1) (b := 4) hP5 (by decide) (by decide)
  generalize zuR τ5 0 1 (.ref 4) = τ6 at hP6 ⊢
  refine hV.1 _ _ _ _ ?_
  show V 27 [(0, .ref 0)] [.ref 0] τ6
  refine hV.1 _ _ _ _ ?_
  refine ⟨⟨by rw [hP6.1]; rfl, by rw [hP6.1, hP.1]; decide⟩, ?_⟩
  rw [hP6.1]
  have hP7 := zP_new hP6
  generalize zuN τ6 = τ7 at hP7 ⊢
  show V 30 [(0, .ref 0)] [.ref 7, .ref 0] τ7
  refine hV.1 _ _ _ _ ?_
  show _ ∧ V 31 [(0, .ref 0)] [.ref 7, .ref 7, .ref 0] τ7
  refine ⟨rfl, ?_⟩
  refine hV.1 _ _ _ _ ?_
  refine ⟨⟨by decide, by decide, trivial, by rw [hP7.1, hP.1]; decide⟩, ?_⟩
  show zSp _ _ 5 [.ref 7] τ7 (fun r_z σ' => σ'.2.2.2 = τ7.2.2.2 + zAl 5 → V 34 [(0, .ref 0)] (r_z.toList ++ [.ref 7, .ref 0]) σ')
  refine init_X2_7 hP7 (by decide) (fun τ8 hP8 _ => ?_)
  show V 34 [(0, .ref 0)] [.ref 7, .ref 0] τ8
  refine hV.1 _ _ _ _ ?_
  refine ⟨⟨by rw [hP8.1]; decide, rfl, Or.inr ⟨rfl, rfl⟩⟩, ?_⟩
  show V 37 [(0, .ref 0)] [] (zuR τ8 0 2 (.ref 7))
  have hP9 := zP_ref (a := 0) (k := 2) (b := 7) hP8 (by decide) (by decide)
  generalize zuR τ8 0 2 (.ref 7) = τ9 at hP9 ⊢
  refine hV.1 _ _ _ _ ?_
  show V 38 [(0, .ref 0)] [.ref 0] τ9
  refine hV.1 _ _ _ _ ?_
  refine ⟨⟨by rw [hP9.1]; rfl, by rw [hP9.1, hP.1]; decide⟩, ?_⟩
  rw [hP9.1]
  have hP10 := zP_new hP9
  generalize zuN τ9 = τ10 at hP10 ⊢
  show V 41 [(0, .ref 0)] [.ref 10, .ref 0] τ10
  refine hV.1 _ _ _ _ ?_
  show _ ∧ V 42 [(0, .ref 0)] [.ref 10, .ref 10, .ref 0] τ10
  refine ⟨rfl, ?_⟩
  refine hV.1 _ _ _ _ ?_
  refine ⟨⟨by decide, by decide, trivial, by rw [hP10.1, hP.1]; decide⟩, ?_⟩
  show zSp _ _ 43 [.ref 10] τ10 (fun r_z σ' => σ'.2.2.2 = τ10.2.2.2 + zAl 43 → V 45 [(0, .ref 0)] (r_z.toList ++ [.ref 10, .ref 0]) σ')
  refine init_X7_10 hP10 (by decide) (fun τ11 hP11 _ => ?_)
  show V 45 [(0, .ref 0)] [.ref 10, .ref 0] τ11
  refine hV.1 _ _ _ _ ?_
  refine ⟨⟨by rw [hP11.1]; decide, rfl, Or.inr ⟨rfl, rfl⟩⟩, ?_⟩
  show V 48 [(0, .ref 0)] [] (zuR τ11 0 3 (.ref 10))
  have hP12 := zP_ref (a := 0) (k := 3) (b := 10) hP11 (by decide) (by decide)
  generalize zuR τ11 0 3 (.ref 10) = τ12 at hP12 ⊢
  refine hV.1 _ _ _ _ ?_
  show V 49 [(0, .ref 0)] [.ref 0] τ12
  refine hV.1 _ _ _ _ ?_
  refine ⟨⟨by rw [hP12.1]; rfl, by rw [hP12.1, hP.1]; decide⟩, ?_⟩
  rw [hP12.1]
  have hP13 := zP_new hP12
  generalize zuN τ12 = τ13 at hP13 ⊢
  show V 52 [(0, .ref 0)] [.ref 14, .ref 0] τ13
  refine hV.1 _ _ _ _ ?_
  show _ ∧ V 53 [(0, .ref 0)] [.ref 14, .ref 14, .ref 0] τ13
  refine ⟨rfl, ?_⟩
  refine hV.1 _ _ _ _ ?_
  refine ⟨⟨by decide, by decide, trivial, by rw [hP13.1, hP.1]; decide⟩, ?_⟩
  show zSp _ _ 36 [.ref 14] τ13 (fun r_z σ' => σ'.2.2.2 = τ13.2.2.2 + zAl 36 → V 56 [(0, .ref 0)] (r_z.toList ++ [.ref 14, .ref 0]) σ')
  refine init_X6_14 hP13 (by decide) (fun τ14 hP14 _ => ?_)
  show V 56 [(0, .ref 0)] [.ref 14, .ref 0] τ14
  refine hV.1 _ _ _ _ ?_
  refine ⟨⟨by rw [hP14.1]; decide, rfl, Or.inr ⟨rfl, rfl⟩⟩, ?_⟩
  show V 59 [(0, .ref 0)] [] (zuR τ14 0 4 (.ref 14))
  have hP15 := zP_ref (a := 0) (k := 4) (b := 14) hP14 (by decide) (by decide)
  generalize zuR τ14 0 4 (.ref 14) = τ15 at hP15 ⊢
  refine hV.1 _ _ _ _ ?_
  show V 60 [(0, .ref 0)] [.ref 0] τ15
  refine hV.1 _ _ _ _ ?_
  refine ⟨⟨by rw [hP15.1]; rfl, by rw [hP15.1, hP.1]; decide⟩, ?_⟩
  rw [hP15.1]
  have hP16 := zP_new hP15
  generalize zuN τ15 = τ16 at hP16 ⊢
  show V 63 [(0, .ref 0)] [.ref 18, .ref 0] τ16
  refine hV.1 _ _ _ _ ?_
  show _ ∧ V 64 [(0, .ref 0)] [.ref 18, .ref 18, .ref 0] τ16
  refine ⟨rfl, ?_⟩
  refine hV.1 _ _ _ _ ?_
  refine ⟨⟨by decide, by decide, trivial, by rw [hP16.1, hP.1]; decide⟩, ?_⟩
  show zSp _ _ 23 [.ref 18] τ16 (fun r_z σ' => σ'.2.2.2 = τ16.2.2.2 + zAl 23 → V 67 [(0, .ref 0)] (r_z.toList ++ [.ref 18, .ref 0]) σ')
  refine init_X4_18 hP16 (by decide) (fun τ17 hP17 _ => ?_)
  show V 67 [(0, .ref 0)] [.ref 18, .ref 0] τ17
  refine hV.1 _ _ _ _ ?_
  refine ⟨⟨by rw [hP17.1]; decide, rfl, Or.inr ⟨rfl, rfl⟩⟩, ?_⟩
  show V 70 [(0, .ref 0)] [] (zuR τ17 0 5 (.ref 18))
  have hP18 := zP_ref (a := 0) (k := 5) (b := 18) hP17 (by decide) (by decide)
  generalize zuR τ17 0 5 (.ref 18) = τ18 at hP18 ⊢
  refine hV.1 _ _ _ _ ?_
  show V 71 [(0, .ref 0)] [.ref 0] τ18
  refine hV.1 _ _ _ _ ?_
  refine ⟨⟨by rw [hP18.1]; rfl, by rw [hP18.1, hP.1]; decide⟩, ?_⟩
  rw [hP18.1]
  have hP19 := zP_new hP18
  generalize zuN τ18 = τ19 at hP19 ⊢
  show V 74 [(0, .ref 0)] [.ref 21, .ref 0] τ19
  refine hV.1 _ _ _ _ ?_
  show _ ∧ V 75 [(0, .ref 0)] [.ref 21, .ref 21, .ref 0] τ19
  refine ⟨rfl, ?_⟩
  refine hV.1 _ _ _ _ ?_
  refine ⟨⟨by decide, by decide, trivial, by rw [hP19.1, hP.1]; decide⟩, ?_⟩
  show zSp _ _ 3 [.ref 21] τ19 (fun r_z σ' => σ'.2.2.2 = τ19.2.2.2 + zAl 3 → V 78 [(0, .ref 0)] (r_z.toList ++ [.ref 21, .ref 0]) σ')
  refine init_X1_21 hP19 (by decide) (fun τ20 hP20 _ => ?_)
  show V 78 [(0, .ref 0)] [.ref 21, .ref 0] τ20
  refine hV.1 _ _ _ _ ?_
  refine ⟨⟨by rw [hP20.1]; decide, rfl, Or.inr ⟨rfl, rfl⟩⟩, ?_⟩
  show V 81 [(0, .ref 0)] [] (zuR τ20 0 6 (.ref 21))
  have hP21 := zP_ref (a := 0) (k := 6) (b := 21) hP20 (by decide) (by decide)
  generalize zuR τ20 0 6 (.ref 21) = τ21 at hP21 ⊢
  refine hV.1 _ _ _ _ ?_
  show V 82 [(0, .ref 0)] [.ref 0] τ21
  refine hV.1 _ _ _ _ ?_
  refine ⟨⟨by rw [hP21.1]; rfl, by rw [hP21.1, hP.1]; decide⟩, ?_⟩
  rw [hP21.1]
  have hP22 := zP_new hP21
  generalize zuN τ21 = τ22 at hP22 ⊢
  show V 85 [(0, .ref 0)] [.ref 24, .ref 0] τ22
  refine hV.1 _ _ _ _ ?_
  show _ ∧ V 86 [(0, .ref 0)] [.ref 24, .ref 24, .ref 0] τ22
  refine ⟨rfl, ?_⟩
  refine hV.1 _ _ _ _ ?_
  refine ⟨⟨by decide, by decide, trivial, by rw [hP22.1, hP.1]; decide⟩, ?_⟩
  show zSp _ _ 0 [.ref 24] τ22 (fun r_z σ' => σ'.2.2.2 = τ22.2.2.2 + zAl 0 → V 89 [(0, .ref 0)] (r_z.toList ++ [.ref 24, .ref 0]) σ')
  refine init_X0_24 hP22 (by decide) (fun τ23 hP23 _ => ?_)
  show V 89 [(0, .ref 0)] [.ref 24, .ref 0] τ23
  refine hV.1 _ _ _ _ ?_
  refine ⟨⟨by rw [hP23.1]; decide, rfl, Or.inr ⟨rfl, rfl⟩⟩, ?_⟩
  show V 92 [(0, .ref 0)] [] (zuR τ23 0 7 (.ref 24))
  have hP24 := zP_ref (a := 0) (k := 7) (b := 24) hP23 (by decide) (by decide)
  generalize zuR τ23 0 7 (.ref 24) = τ24 at hP24 ⊢
  refine hV.1 _ _ _ _ ?_
  show V 93 [(0, .ref 0)] [.ref 0] τ24
  refine hV.1 _ _ _ _ ?_
  refine ⟨⟨by rw [hP24.1]; rfl, by rw [hP24.1, hP.1]; decide⟩, ?_⟩
  rw [hP24.1]
  have hP25 := zP_new hP24
  generalize zuN τ24 = τ25 at hP25 ⊢
  show V 96 [(0, .ref 0)] [.ref 26, .ref 0] τ25
  refine hV.1 _ _ _ _ ?_
  show _ ∧ V 97 [(0, .ref 0)] [.ref 26, .ref 26, .ref 0] τ25
  refine ⟨rfl, ?_⟩
  refine hV.1 _ _ _ _ ?_
  refine ⟨⟨by decide, by decide, trivial, by rw [hP25.1, hP.1]; decide⟩, ?_⟩
  show zSp _ _ 25 [.ref 26] τ25 (fun r_z σ' => σ'.2.2.2 = τ25.2.2.2 + zAl 25 → V 100 [(0, .ref 0)] (r_z.toList ++ [.ref 26, .ref 0]) σ')
  refine init_X5 hP25 (by decide) (fun τ26 hP26 _ => ?_)
  show V 100 [(0, .ref 0)] [.ref 26, .ref 0] τ26
  refine hV.1 _ _ _ _ ?_
  refine ⟨⟨by rw [hP26.1]; decide, rfl, Or.inr ⟨rfl, rfl⟩⟩, ?_⟩
  show V 103 [(0, .ref 0)] [] (zuR τ26 0 8 (.ref 26))
  have hP27 := zP_ref (a := 0) (k := 8) (b := 26) hP26 (by decide) (by decide)
  generalize zuR τ26 0 8 (.ref 26) = τ27 at hP27 ⊢
  refine hV.1 _ _ _ _ ?_
  show V 104 [(0, .ref 0)] [.ref 0] τ27
  refine hV.1 _ _ _ _ ?_
  show V 105 [(0, .ref 0)] [.int 0, .ref 0] τ27
  refine hV.1 _ _ _ _ ?_
  refine ⟨⟨by rw [hP27.1]; decide, rfl, Or.inl rfl⟩, ?_⟩
  show V 108 [(0, .ref 0)] [] (zuI τ27 0 9 0)
  refine hV.1 _ _ _ _ ?_
  refine ⟨rfl, rfl, ?_, ?_⟩
  · show τ27.2.2.2 = _
    rw [hP27.1, hP.1]; rfl
  · refine hK _ (τ2.1 1) ⟨hP27.1, hP27.2.1, ?_⟩ p2_z p3_z p4_z p5_z
    intro t_z ht
    obtain ⟨q1_z, q2_z⟩ := hP27.2.2 t_z ht
    refine ⟨q1_z, ?_⟩
    by_cases e_z : t_z.1 = 0
    · have : t_z.2 = zz := by rw [← q2_z, e_z]; exact zP_mem hP27 29 rfl
      rw [this, e_z]
      show upd (τ27.1 0) 9 0 = zz
      rw [zP_mem hP27 29 rfl]
      funext j_z
      unfold upd zz
      split <;> rfl
    · rw [zuI_ne e_z]; exact q2_z
end
section
set_option maxRecDepth 8000 in
set_option maxHeartbeats 4000000 in
theorem zlaw_ok (L : Nat) (xs : Nat → Int32) (hL0 : L ≤ 260) : zLaw (L, xs) := by
  obtain ⟨zx, hzx⟩ : ∃ zx : Nat × (Nat → Int32), zx = (L, xs) := ⟨_, rfl⟩
  rw [← hzx]
  have hL : zx.1 ≤ 260 := by rw [hzx]; exact hL0
  intro V hV
  have hP0 : zP 0 [] [] z0 := ⟨rfl, fun t ht => absurd ht List.not_mem_nil, fun t ht => absurd ht List.not_mem_nil⟩
  refine hV.1 _ _ _ _ ?_
  refine ⟨⟨rfl, by decide⟩, ?_⟩
  have hP1 := zP_new hP0
  show V 3 [(0, .ref zsc)] [.ref 0] (zuN z0)
  generalize zuN z0 = τ1 at hP1 ⊢
  refine hV.1 _ _ _ _ ?_
  show _ ∧ V 4 [(0, .ref zsc)] [.ref 0, .ref 0] τ1
  refine ⟨rfl, ?_⟩
  refine hV.1 _ _ _ _ ?_
  refine ⟨⟨by decide, by decide, trivial, by rw [hP1.1]; decide⟩, ?_⟩
  show zSp _ _ 53 [.ref 0] τ1 (fun r σ' => σ'.2.2.2 = τ1.2.2.2 + zAl 53 → V 7 [(0, .ref zsc)] (r.toList ++ [.ref 0]) σ')
  refine init_X8 hP1 (fun τ2 f1 hP2 p2 p3 p4 p5 _ => ?_)
  refine hV.1 _ _ _ _ ?_
  refine ⟨by decide, ?_⟩
  show V 8 [(1, .ref 0), (0, .ref zsc)] [] τ2
  refine hV.1 _ _ _ _ ?_
  show V 10 [(1, .ref 0), (0, .ref zsc)] [.int 20] τ2
  refine hV.1 _ _ _ _ ?_
  refine ⟨⟨by rw [hP2.1]; rfl, rfl, by decide, by rw [hP2.1]; decide⟩, ?_⟩
  rw [hP2.1]
  have hP3 := zP_new hP2
  show V 12 [(1, .ref 0), (0, .ref zsc)] [.ref 30] (zuN τ2)
  generalize zuN τ2 = τ3 at hP3 ⊢
  refine hV.1 _ _ _ _ ?_
  refine ⟨by decide, ?_⟩
  show V 13 [(2, .ref 30), (1, .ref 0), (0, .ref zsc)] [] τ3
  have hI3 : zQI (kR 0 31) τ3.2.2 := zQI_P hP3 (by decide) rfl
  refine zq (σ := τ3) hV hI3 hP3.1 4 ?_
  show zSp _ _ 84 [.ref 0, .ref zsc, .ref 30] τ3 (fun r σ' => σ'.2.2.2 = τ3.2.2.2 + zAl 84 → V 19 [(2, .ref 30), (1, .ref 0), (0, .ref zsc)] (r.toList ++ []) σ')
  have x0 : τ3.1 0 = zz := zP_mem hP3 30 rfl
  have x28 : τ3.1 28 = zz := zP_mem hP3 2 rfl
  refine Lshape_ok hI3 hL (fun q hq => ⟨0, by rw [x28]; rfl, by decide⟩) (fun υ e1 e2 _ => ?_) (fun υ n hn4 hn8 e1 e2 u2 hB uh us _ => ?_)
  · have hI9 := zQI_eq hI3 e1
    have hn9 : υ.2.2.2 = 31 := (congrArg Prod.snd e1).trans hP3.1
    refine zq (σ := υ) hV hI9 hn9 4 ?_
    show (1 ≤ (0 : Int32) → V 35 [(3, .int 0), (2, .ref 30), (1, .ref 0), (0, .ref zsc)] [] υ) ∧ (¬ 1 ≤ (0 : Int32) → V 25 [(3, .int 0), (2, .ref 30), (1, .ref 0), (0, .ref zsc)] [] υ)
    refine ⟨fun hc => absurd hc (by decide), fun _ => ?_⟩
    refine zq (σ := υ) hV hI9 hn9 2 ?_
    show (¬ (0 : Int32) = 0 → V 33 [(3, .int 0), (2, .ref 30), (1, .ref 0), (0, .ref zsc)] [] υ) ∧ (¬ (¬ (0 : Int32) = 0) → V 29 [(3, .int 0), (2, .ref 30), (1, .ref 0), (0, .ref zsc)] [] υ)
    refine ⟨fun hc => absurd hc (by decide), fun _ => ?_⟩
    refine zq (σ := υ) hV hI9 hn9 3 ?_
    show ((1 : Int32) = 0 ∨ (1 : Int32) = 1) ∧ (fun (r : Option Value) (_ : zSt) => r = some (.int 1)) (some (.int 1)) υ
    refine ⟨by decide, ?_⟩
    exact rfl
  · have hn10 : n ≤ 10 := by omega
    have hs : zLS n (υ.1 2) (υ.1 3) (υ.1 5) (υ.1 6) 0 0 0 (υ.1 15) (υ.1 16) (υ.1 17) υ := ⟨⟨zQI_eq hI3 e1, (congrArg Prod.snd e1).trans hP3.1⟩, ⟨u2, rfl, rfl⟩, ⟨uh, rfl, rfl⟩, by rw [e2, x0]; rfl, us, rfl, rfl, rfl⟩
    refine zq (σ := υ) hV hs.1.1 hs.1.2 4 ?_
    show (1 ≤ (nI n) → V 35 [(3, .int (nI n)), (2, .ref 30), (1, .ref 0), (0, .ref zsc)] [] υ) ∧ (¬ 1 ≤ (nI n) → V 25 [(3, .int (nI n)), (2, .ref 30), (1, .ref 0), (0, .ref zsc)] [] υ)
    refine ⟨fun _ => ?_, fun hc => absurd (nI_le (a := 1) (b := n) (by omega) (by omega)) hc⟩
    refine zq (σ := υ) hV hs.1.1 hs.1.2 4 ?_
    show zSp _ _ 82 [.ref zsc, .int 9] υ (fun r σ' => σ'.2.2.2 = υ.2.2.2 + zAl 82 → V 42 [(3, .int (nI n)), (2, .ref 30), (1, .ref 0), (0, .ref zsc)] (r.toList ++ [.int 2]) σ')
    refine cell_ok hL (k := 9) rfl (by omega) (fun _ => ?_)
    refine zq (σ := υ) hV hs.1.1 hs.1.2 2 ?_
    show zSp _ _ 83 [.int (zCe zx 9), .int 6] υ (fun r σ' => σ'.2.2.2 = υ.2.2.2 + zAl 83 → V 47 [(3, .int (nI n)), (2, .ref 30), (1, .ref 0), (0, .ref zsc)] (r.toList ++ [.int 2]) σ')
    refine up_ok (n := 6) rfl (by omega) (by omega) (fun _ => ?_)
    refine zq (σ := υ) hV hs.1.1 hs.1.2 2 ?_
    show V 50 [(4, .int ((2 : Int32) + (nI (zUp (zCe zx 9) 6)))), (3, .int (nI n)), (2, .ref 30), (1, .ref 0), (0, .ref zsc)] [] υ
    obtain ⟨F, hF, eF⟩ : ∃ F, F ≤ 7 ∧ (2 : Int32) + nI (zUp (zCe zx 9) 6) = nI F := ⟨2 + zUp (zCe zx 9) 6, by have := zUp_lt (x := zCe zx 9) (n := 6) (by decide); omega, nI_add 2 _⟩
    rw [eF]
    refine zq (σ := υ) hV hs.1.1 hs.1.2 4 ?_
    show V 56 [(6, .int 0), (5, .int 0), (4, .int (nI F)), (3, .int (nI n)), (2, .ref 30), (1, .ref 0), (0, .ref zsc)] [] υ
    refine zwk hV [6, 5, 3, 2, 1, 0] rfl ?_
    refine zlK hV hn10 hB hL hn4 hF (zUp_b (by decide) (by decide) (by decide)) (fun E S g τ hg hE hs => zlE hV hn10 hB hL hn4 hF hs) F 0 0 _ _ _ _ (by omega) ?_ ⟨fun i hi => absurd hi (Nat.not_lt_zero i), fun i hi => absurd hi (Nat.not_lt_zero i)⟩ hs (Or.inl ⟨rfl, rfl⟩)
    exact ⟨by decide, by decide⟩
end
section
-- ===== end of PART A; then your names; then what follows =====
/-! THE CLAIM OUT OF ONE WALK OF THE LAW'S BODY. Your part is whole_start (and what it stands on); all else here is the same for every law, but numbers. -/
def R_law : String := "GripBenchLaw"
def lw_P (b : Addr) (xs : List Int32) (args : Array Value) (s : State) : Prop := args = #[.ref b] ∧ s.IntsAt b xs ∧ xs.length ≤ 260 ∧ (Jvm.Cond.and given_1 narrow_1).before args s = true
def lw_Q (_ : Array Value) (s : State) (o : Outcome) (t : State) : Prop := o = .returned (some (.int 1)) ∧ Framed s o t [] 31 597
def lw_Z (below : List Frame) (a : Array Value) (s : State) : State → Prop := fun t => ∃ o, t.status = .running ∧ Ended t below o ∧ lw_Q a s o t
/-- the law's own end, with 1 on the stack, nothing written that was there before, its room as the claim has it -/
theorem lw_ret {p : Program} {l : Launch} {e : Env} {s : State} {m : MethodId} {below : List Frame} {meth : Method} {c : Code} {b : Nat} (hx : p.tables.exec = Jvm.exec) (hb : c.code = code) (hr : meth.sig.returnType = ret) (hlocks : meth.locks = false) {pc : Nat} {H : Heap} {ls : Array Slot} (hdg : decode code pc = .ok (.ireturn, 1)) : W p l e room_1 s m #[Value.ref b] below meth c H [] 31 597 (lw_Z below #[Value.ref b] s) (F0 m pc ls [.int 1]) := by
  intro T hT X
  obtain ⟨fs, hret, hrun, hended, hW, hframe⟩ := X.leave (v := some (.int 1)) (hlocks := hlocks) (fun h => by rw [hr] at h; cases h)
  have hmeth' : T.vm.method? m = some meth := X.method'
  refine ⟨T.setFrames fs, ?_, .returned (some (.int 1)), hrun, hended, rfl, ⟨_, rfl⟩, hW, hframe⟩
  jvm_step X.here [X.here.top, hx, hb, hdg, hmeth', hr, ret, narrow_b1]
  (try refine ⟨rfl, ?_⟩); (try refine ⟨rfl, ?_⟩)
  first | (intro acts; rw [hret _ acts rfl rfl rfl]) | rw [hret _ _ rfl rfl rfl]
  exact Steps.refl _
/-- what holds at the law's entry: the machine, the code, the tables' words (any of lw_tbl by 'hts w (by decide +kernel)'), the script of L ints xs at the cell b, what the Statement gives of the start (any of its parts by flat_of_before) -/
def lw_At (p : Program) (s : State) (m : MethodId) (meth : Method) (c : Code) (b L : Nat) (xs : Nat → Int32) : Prop :=
  p.tables.exec = Jvm.exec ∧ c.code = code ∧ meth.sig.returnType = ret ∧ c.maxLocals = 19 ∧ s.vm.findClass R_law = some m.cls ∧ (∀ w ∈ lw_tbl, w.before #[Value.ref b] s = true) ∧ va_X b L xs s s.heap ∧ b < s.heap.size ∧ meth.locks = false ∧ (Jvm.Cond.and given_1 narrow_1).before #[Value.ref b] s = true
theorem whole_start {p : Program} {e : Env} {s : State} {m : MethodId} {below : List Frame} {meth : Method} {c : Code} (l : Launch) (hflags : l.flags = flags0) {b L : Nat} {xs : Nat → Int32} (hL : L ≤ 260) (C0 : lw_At p s m meth c b L xs) : W p l e room_1 s m #[Value.ref b] below meth c s.heap [] 0 0 (lw_Z below #[Value.ref b] s) (entryFrame m ([Value.ref b] : List Value).toArray 19) := by
  obtain ⟨hx, hb, hr, hml, hown, hts, hX, hbl, hlocks, hgv⟩ := id C0
  have hBG : ∀ w ∈ zBG, w.before #[Value.ref b] s = true := fun w h => hts w (wsL_law_in w h)
  have hkn : ∀ ci, ∃ (cC : ClassId) (iS : Nat → Nat), ci < 9 → u_Kn s (zNo ci) (zTT ci) (zNF ci) cC iS := by
    intro ci
    by_cases h : ci < 9
    · obtain ⟨cC, iS, h1⟩ := u_known hBG (zin h) (hBG _ (zn_ok h).1)
      exact ⟨cC, iS, fun _ => h1⟩
    · exact ⟨0, fun _ => 0, fun q => absurd q h⟩
  obtain ⟨D, hKc⟩ : ∃ D : va_G, ∀ (k : Nat) (q : vw_C), vwCl[k]? = some q → u_Kn s q.1 q.2.1 q.2.2 (D.1 k) (D.2 k) := by
    refine ⟨(fun ci => Classical.choose (hkn ci), fun ci => Classical.choose (Classical.choose_spec (hkn ci))), fun k q hq => ?_⟩
    have hk : k < 9 := (List.getElem?_eq_some_iff.mp hq).1
    have h1 := Classical.choose_spec (Classical.choose_spec (hkn k)) hk
    rw [zcl_at hk] at hq
    cases hq
    exact h1
  obtain ⟨cI, kI, pI, hI1, hI2, hI3⟩ := Cond.arrayClass_spec (hBG _ zk_o.2.2)
  have hKK : zKK D (s.heap.size, b, cI, cI) s := by
    refine ⟨⟨hKc, fun k q hq => ?_⟩, fun q hq => va_Nw.of rfl (hts _ (zNS_in q hq))⟩
    match k, hq with
    | 0, hq => cases hq; exact ⟨fun N z => ⟨fun k h => (by cases h), kI, hI2, pI, hI3⟩, hI1⟩
    | k + 1, hq => simp at hq
  have F : zFx D (s.heap.size, b, cI, cI) (L, xs) mL_law 7 0 31 p room_1 s m #[Value.ref b] meth c := ⟨⟨hx, hb, hml, hown⟩, hBG, hKK, ⟨by decide, by decide⟩, fun q => absurd q (by decide), fun _ => ⟨hX, hbl, hbl⟩, ⟨by decide, by rw [zSS_31]; decide⟩, by decide⟩
  have h1 := zlaw_ok L xs hL (zV D (s.heap.size, b, cI, cI) mL_law 0 p l e room_1 s m #[Value.ref b] below meth c (lw_Z below #[Value.ref b] s)) ⟨(fun pc LL S σ hst => by
    unfold zST at hst
    split at hst
    · rename_i ins len hcd
      refine zstep F (zmet (L, xs) 7) ?_ ?_ ?_ hcd hst
      · intro v τ pc H locs ls cells slots hr' hn k hd hW' hS hc hs
        cases k
        have e1 : cells = 31 := by omega
        have e2 : slots = 597 := by rw [hn, zSS_31] at hs; exact hs
        subst e1
        subst e2
        exact va_forget (fun q hq => hS.2.2 q hq) (lw_ret hx hb hr hlocks hd)
      · intro v τ pc H locs ls cells slots hr' hn k hd hW' hS hc hs
        cases k
      · intro τ pc H locs ls cells slots hr' hn k hd hW' hS hc hs
        cases k
    · exact hst.elim), fun _ _ _ _ _ hq hv => zV_weak hq hv⟩
  rw [lg_entry_eq]
  exact h1 s.heap [] _ 0 0 (lv_entry ([.ref b]) (n := 19) (Nat.le_of_ble_eq_true rfl)) ⟨fun k q h => by simp [zw, z0] at h, rfl, by decide⟩ va_S.rf rfl rfl
-- ===== YOUR PART ENDS =====
set_option maxHeartbeats 4000000 in
theorem lw_walk (l : Launch) (hflags : l.flags = flags0) (b : Addr) (xs : List Int32) : MetFree l x (headSpec (Jvm.Cond.code x code maxLocals ret :: tables_1) room_1) (lw_P b xs) (fun _ _ _ _ _ => True) lw_Q := by
  refine MetFree.of_bodyS (code := code) (maxLocals := maxLocals) (ret := ret) (by decide) ?_ ?_
  · intro args s m h hn
    obtain ⟨meth, c, h1, h2, h3, h4, h5, h6, -, -⟩ := Cond.code_spec hn (atoms_spec (ws := Jvm.Cond.code x code maxLocals ret :: tables_1) h _ List.mem_cons_self)
    exact ⟨meth, c, h1, h2, h3, h4, h5, h6⟩
  · intro p e s m args below meth c s₁ B hml0 hP _
    obtain ⟨rfl, hx, hbd, hgv⟩ := hP
    obtain ⟨scr, harrAt, hlist, hof, hsmall⟩ := hx
    obtain ⟨hcb, hkn, -, -⟩ := State.arrayAt?_spec harrAt
    have hown : s.vm.findClass R_law = some m.cls := findClass_of_methodNamed B.named
    have hts0 : ∀ c ∈ (Jvm.Cond.code x code maxLocals ret :: tables_1), c.before #[Value.ref b] s = true := atoms_spec (ws := Jvm.Cond.code x code maxLocals ret :: tables_1) B.pre
    have hts : ∀ w ∈ lw_tbl, w.before #[Value.ref b] s = true := k2_hts_sels lw_privs (fun w hw => hts0 w (List.mem_cons_of_mem _ hw)) lw_privs_ok
    have hml : c.maxLocals = 19 := B.maxLocals_eq (hts0 _ List.mem_cons_self)
    have X₀ : Stand p l e room_1 s m #[Value.ref b] below meth c s₁ [] 0 0 := Stand.of_body B
    have hh0 : s₁.heap = s.heap := by rw [B.state]; rfl
    have hsz : scr.slots.size = xs.length := by rw [← Array.length_toList, hlist, List.length_map]
    have hval : ∀ j : Nat, j < xs.length → scr.slots[j]? = some (.int (xs.getD j 0)) := fun j hj => by
      rw [← Array.getElem?_toList, hlist]
      simp [hj]
    have hbl : b < s.heap.size := (Array.getElem?_eq_some_iff.mp hcb).1
    have hX : va_X b xs.length (fun j => xs.getD j 0) s s.heap := ⟨scr, hcb, hof, hkn, hsz, hval⟩
    have K : W p l e room_1 s m #[Value.ref b] below meth c s₁.heap [] 0 0 (lw_Z below #[Value.ref b] s) (entryFrame m ([Value.ref b] : List Value).toArray 19) := by
      rw [hh0]
      exact whole_start l hflags hbd ⟨B.exec, B.bytes, B.returns, hml, hown, hts, hX, hbl, B.notSynchronized, hgv⟩
    obtain ⟨t, a1, o, b1, b2, b3⟩ := K s₁ rfl X₀
    exact ⟨t, o, a1, b1, b2, b3⟩
theorem lw_pre_spec {args : Array Value} {s : State} (h : (Jvm.Cond.and given_1 narrow_1).before args s = true) (hr : rest_1_c.before args s = true) : ∃ (b : Addr) (xs : List Int32), lw_P b xs args s := by
  have hs := flat_of_before _ h
  have hq := flat_of_before _ hr
  have hc : (Cond.count 1).before args s = true := hs _ (by decide +kernel)
  have harr : (Cond.arrayOf (.arg 0) .int).before args s = true := hs _ (by decide +kernel)
  have hle : (Cond.le (.length (.arg 0)) (.int 260)).before args s = true := hs _ (by decide +kernel)
  have hlen : (Cond.isInt (.length (.arg 0))).before args s = true := hq _ (by decide +kernel)
  have hall : (Cond.all (.arg 0) (.isInt (.elem (.arg 0) (.index 0)))).before args s = true := hq _ (by decide +kernel)
  obtain ⟨b, xs, hb, hx⟩ := State.ints_of_pre rfl harr hlen hall
  have hsm : xs.length < 2 ^ 31 := hx.choose_spec.2.2.2
  have hev : (Term.length (.arg 0)).eval args s none [] s = some (.int xs.length.toInt32) := hx.length_eval hb
  have hv := Cond.le_ints hev (show (Term.int 260).eval args s none [] s = some (.int 260) from rfl)
  have hd : xs.length.toInt32 ≤ 260 := by
    simpa [Cond.before, Cond.holds, hv] using hle
  have hN : xs.length ≤ 260 := (Int32.ofNat_le_ofNat hsm (by decide)).mp (show Int32.ofNat xs.length ≤ Int32.ofNat 260 from hd)
  exact ⟨b, xs, Cond.one_arg hc (show args[0]? = some (.ref b) from hb), hx, hN, h⟩
theorem lw_comes (l : Launch) (hflags : l.flags = flags0) : Comes l x (Jvm.Cond.code x code maxLocals ret :: tables_1) room_1 (fun tb e args s => Calls_1 tb e args s ∧ rest_1 tb e args s ∧ Pre_1 tb e args s)
    (fun _ _ args s o t => lw_Q args s o t) := by
  intro p e ha hc hk s m args below hf hfit hheap happ hpre
  obtain ⟨b, xs, hP⟩ := lw_pre_spec hpre.2.2 hpre.2.1
  obtain ⟨k, o, h1, h2, h3, hQ⟩ := lw_walk l hflags b xs p e ha hc hk s m args below hf ((Spec.applies_iff_loose hf).mp happ).1 hP trivial
  exact ⟨k, o, h1, h2, h3, hQ⟩
theorem lw_frame {s t : State} {o : Outcome} {args : Array Value} (h : Framed s o t [] 31 597) :
    Framed s o t (fieldLocs frame_1_writes args s ++ arrayLocs frame_1_arrays args s ++ staticLocs frame_1_statics s) 31 597 := h
theorem lw_limb (L : Cond) (hL : ∀ (args : Array Value) (s t : State), L.after args s (.returned (some (.int 1))) t = true) :
    ArmFor flags0 classFile x code maxLocals ret World_1 tables_1 room_1 Calls_1 rest_1 Pre_1
      (fun tb e a s o t => postC L tb e a s o t ∧ Framed s o t (fieldLocs frame_1_writes a s ++ arrayLocs frame_1_arrays a s ++ staticLocs frame_1_statics s) 31 597) := by
  intro l hflags _ _ p e ha hc hk s m args below hf hfit hheap happ hpre
  obtain ⟨k, o, h1, h2, h3, rfl, hF⟩ := lw_comes l hflags p e ha hc hk s m args below hf hfit hheap happ hpre
  exact ⟨k, _, h1, h2, h3, hL args s _, lw_frame hF⟩
end
section
theorem i_vc : Claimed_1_1 ∧ Claimed_1_2 := ⟨lw_limb limb_1_1 (fun args s t => by simp [limb_1_1, Cond.after, Cond.holds, Cond.value]), lw_limb limb_1_2 (fun args s t => Cond.after_iff.mpr (by
  first | (rw [show limb_1_2 = Cond.eq .result (.int 1) from rfl, Cond.eq_ints (x := 1) (y := 1) rfl rfl]; simp; done) | (simp [limb_1_2, Cond.value, Term.eval]; done)))⟩
end
