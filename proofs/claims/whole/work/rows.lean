section
-- ===== PART A: goes FIRST, ahead of the names: the tables' words, and 'selects' of the private methods out of them =====
/-- a private method of a class that the tables say can be made, by its rows of tables_1 -/
def lw_okq (q : MethodName × Nat) : Prop := (q.1.cls ≠ "java/lang/invoke/MethodHandle" ∧ q.1.cls ≠ "java/lang/invoke/VarHandle") ∧ Cond.instantiable q.1.cls q.2 ∈ tables_1 ∧ Cond.privateMethod q.1 ∈ tables_1 ∧ Cond.instanceMethod q.1 ∈ tables_1
theorem lw_p0 : lw_okq (⟨"GripBench", "isShape", "(II)Z"⟩, 10) := ⟨⟨by decide +kernel, by decide +kernel⟩, List.mem_of_getElem? (i := 14) (by decide +kernel), List.mem_of_getElem? (i := 264) (by decide +kernel), List.mem_of_getElem? (i := 265) (by decide +kernel)⟩
theorem lw_p1 : lw_okq (⟨"GripBench", "isStand", "(II)Z"⟩, 10) := ⟨⟨by decide +kernel, by decide +kernel⟩, List.mem_of_getElem? (i := 14) (by decide +kernel), List.mem_of_getElem? (i := 327) (by decide +kernel), List.mem_of_getElem? (i := 328) (by decide +kernel)⟩
theorem lw_p2 : lw_okq (⟨"GripBench", "isFinger", "(I)Z"⟩, 10) := ⟨⟨by decide +kernel, by decide +kernel⟩, List.mem_of_getElem? (i := 14) (by decide +kernel), List.mem_of_getElem? (i := 348) (by decide +kernel), List.mem_of_getElem? (i := 349) (by decide +kernel)⟩
theorem lw_p3 : lw_okq (⟨"GripBench$Triples", "add", "(IIII)V"⟩, 7) := ⟨⟨by decide +kernel, by decide +kernel⟩, List.mem_of_getElem? (i := 90) (by decide +kernel), List.mem_of_getElem? (i := 389) (by decide +kernel), List.mem_of_getElem? (i := 390) (by decide +kernel)⟩
theorem lw_p4 : lw_okq (⟨"GripBench", "isHeldBy", "(LGripBench$Hand;)Z"⟩, 10) := ⟨⟨by decide +kernel, by decide +kernel⟩, List.mem_of_getElem? (i := 14) (by decide +kernel), List.mem_of_getElem? (i := 414) (by decide +kernel), List.mem_of_getElem? (i := 415) (by decide +kernel)⟩
theorem lw_p5 : lw_okq (⟨"GripBench$Triples", "cross", "(II)Z"⟩, 7) := ⟨⟨by decide +kernel, by decide +kernel⟩, List.mem_of_getElem? (i := 90) (by decide +kernel), List.mem_of_getElem? (i := 422) (by decide +kernel), List.mem_of_getElem? (i := 423) (by decide +kernel)⟩
theorem lw_p6 : lw_okq (⟨"GripBench$Triples", "signs", "()I"⟩, 7) := ⟨⟨by decide +kernel, by decide +kernel⟩, List.mem_of_getElem? (i := 90) (by decide +kernel), List.mem_of_getElem? (i := 426) (by decide +kernel), List.mem_of_getElem? (i := 427) (by decide +kernel)⟩
theorem lw_p7 : lw_okq (⟨"GripBench$Triples", "turnIfBelow", "(I)V"⟩, 7) := ⟨⟨by decide +kernel, by decide +kernel⟩, List.mem_of_getElem? (i := 90) (by decide +kernel), List.mem_of_getElem? (i := 430) (by decide +kernel), List.mem_of_getElem? (i := 431) (by decide +kernel)⟩
theorem lw_p8 : lw_okq (⟨"GripBench", "isHeldWithin", "(I)Z"⟩, 10) := ⟨⟨by decide +kernel, by decide +kernel⟩, List.mem_of_getElem? (i := 14) (by decide +kernel), List.mem_of_getElem? (i := 460) (by decide +kernel), List.mem_of_getElem? (i := 461) (by decide +kernel)⟩
theorem lw_p9 : lw_okq (⟨"GripBench", "slide", "(II)Z"⟩, 10) := ⟨⟨by decide +kernel, by decide +kernel⟩, List.mem_of_getElem? (i := 14) (by decide +kernel), List.mem_of_getElem? (i := 464) (by decide +kernel), List.mem_of_getElem? (i := 465) (by decide +kernel)⟩
theorem lw_p10 : lw_okq (⟨"GripBench", "fits", "(II)Z"⟩, 10) := ⟨⟨by decide +kernel, by decide +kernel⟩, List.mem_of_getElem? (i := 14) (by decide +kernel), List.mem_of_getElem? (i := 565) (by decide +kernel), List.mem_of_getElem? (i := 566) (by decide +kernel)⟩
theorem lw_p11 : lw_okq (⟨"GripBench", "isGrip", "(I)Z"⟩, 10) := ⟨⟨by decide +kernel, by decide +kernel⟩, List.mem_of_getElem? (i := 14) (by decide +kernel), List.mem_of_getElem? (i := 604) (by decide +kernel), List.mem_of_getElem? (i := 605) (by decide +kernel)⟩
theorem lw_p12 : lw_okq (⟨"GripBench$Grips", "goOneMoveFarther", "()V"⟩, 3) := ⟨⟨by decide +kernel, by decide +kernel⟩, List.mem_of_getElem? (i := 153) (by decide +kernel), List.mem_of_getElem? (i := 622) (by decide +kernel), List.mem_of_getElem? (i := 623) (by decide +kernel)⟩
theorem lw_p13 : lw_okq (⟨"GripBench", "isDropped", "(I)Z"⟩, 10) := ⟨⟨by decide +kernel, by decide +kernel⟩, List.mem_of_getElem? (i := 14) (by decide +kernel), List.mem_of_getElem? (i := 643) (by decide +kernel), List.mem_of_getElem? (i := 644) (by decide +kernel)⟩
theorem lw_p14 : lw_okq (⟨"GripBenchModel", "met", "(I)I"⟩, 36) := ⟨⟨by decide +kernel, by decide +kernel⟩, List.mem_of_getElem? (i := 752) (by decide +kernel), List.mem_of_getElem? (i := 881) (by decide +kernel), List.mem_of_getElem? (i := 882) (by decide +kernel)⟩
theorem lw_p15 : lw_okq (⟨"GripBenchModel", "area", "()I"⟩, 36) := ⟨⟨by decide +kernel, by decide +kernel⟩, List.mem_of_getElem? (i := 752) (by decide +kernel), List.mem_of_getElem? (i := 895) (by decide +kernel), List.mem_of_getElem? (i := 896) (by decide +kernel)⟩
def lw_privs_1 : List (MethodName × Nat) := [(⟨"GripBench", "isShape", "(II)Z"⟩, 10), (⟨"GripBench", "isStand", "(II)Z"⟩, 10), (⟨"GripBench", "isFinger", "(I)Z"⟩, 10), (⟨"GripBench$Triples", "add", "(IIII)V"⟩, 7), (⟨"GripBench", "isHeldBy", "(LGripBench$Hand;)Z"⟩, 10), (⟨"GripBench$Triples", "cross", "(II)Z"⟩, 7), (⟨"GripBench$Triples", "signs", "()I"⟩, 7), (⟨"GripBench$Triples", "turnIfBelow", "(I)V"⟩, 7), (⟨"GripBench", "isHeldWithin", "(I)Z"⟩, 10), (⟨"GripBench", "slide", "(II)Z"⟩, 10), (⟨"GripBench", "fits", "(II)Z"⟩, 10), (⟨"GripBench", "isGrip", "(I)Z"⟩, 10), (⟨"GripBench$Grips", "goOneMoveFarther", "()V"⟩, 3), (⟨"GripBench", "isDropped", "(I)Z"⟩, 10), (⟨"GripBenchModel", "met", "(I)I"⟩, 36), (⟨"GripBenchModel", "area", "()I"⟩, 36)]
theorem lw_r1 : ∀ q ∈ lw_privs_1, lw_okq q := List.forall_mem_cons.mpr ⟨lw_p0, List.forall_mem_cons.mpr ⟨lw_p1, List.forall_mem_cons.mpr ⟨lw_p2, List.forall_mem_cons.mpr ⟨lw_p3, List.forall_mem_cons.mpr ⟨lw_p4, List.forall_mem_cons.mpr ⟨lw_p5, List.forall_mem_cons.mpr ⟨lw_p6, List.forall_mem_cons.mpr ⟨lw_p7, List.forall_mem_cons.mpr ⟨lw_p8, List.forall_mem_cons.mpr ⟨lw_p9, List.forall_mem_cons.mpr ⟨lw_p10, List.forall_mem_cons.mpr ⟨lw_p11, List.forall_mem_cons.mpr ⟨lw_p12, List.forall_mem_cons.mpr ⟨lw_p13, List.forall_mem_cons.mpr ⟨lw_p14, List.forall_mem_cons.mpr ⟨lw_p15, fun _ h => absurd h List.not_mem_nil⟩⟩⟩⟩⟩⟩⟩⟩⟩⟩⟩⟩⟩⟩⟩⟩
theorem lw_p16 : lw_okq (⟨"GripBenchModel", "cross", "(I)I"⟩, 36) := ⟨⟨by decide +kernel, by decide +kernel⟩, List.mem_of_getElem? (i := 752) (by decide +kernel), List.mem_of_getElem? (i := 899) (by decide +kernel), List.mem_of_getElem? (i := 900) (by decide +kernel)⟩
theorem lw_p17 : lw_okq (⟨"GripBenchModel", "next", "(I)I"⟩, 36) := ⟨⟨by decide +kernel, by decide +kernel⟩, List.mem_of_getElem? (i := 752) (by decide +kernel), List.mem_of_getElem? (i := 903) (by decide +kernel), List.mem_of_getElem? (i := 904) (by decide +kernel)⟩
theorem lw_p18 : lw_okq (⟨"GripBenchModel", "middleX", "()I"⟩, 36) := ⟨⟨by decide +kernel, by decide +kernel⟩, List.mem_of_getElem? (i := 752) (by decide +kernel), List.mem_of_getElem? (i := 907) (by decide +kernel), List.mem_of_getElem? (i := 908) (by decide +kernel)⟩
theorem lw_p19 : lw_okq (⟨"GripBenchModel", "middleY", "()I"⟩, 36) := ⟨⟨by decide +kernel, by decide +kernel⟩, List.mem_of_getElem? (i := 752) (by decide +kernel), List.mem_of_getElem? (i := 911) (by decide +kernel), List.mem_of_getElem? (i := 912) (by decide +kernel)⟩
theorem lw_p20 : lw_okq (⟨"GripBenchModel", "place", "(II)I"⟩, 36) := ⟨⟨by decide +kernel, by decide +kernel⟩, List.mem_of_getElem? (i := 752) (by decide +kernel), List.mem_of_getElem? (i := 925) (by decide +kernel), List.mem_of_getElem? (i := 926) (by decide +kernel)⟩
theorem lw_p21 : lw_okq (⟨"GripBenchModel", "isStand", "(II)Z"⟩, 36) := ⟨⟨by decide +kernel, by decide +kernel⟩, List.mem_of_getElem? (i := 752) (by decide +kernel), List.mem_of_getElem? (i := 933) (by decide +kernel), List.mem_of_getElem? (i := 934) (by decide +kernel)⟩
theorem lw_p22 : lw_okq (⟨"GripBenchModel", "isFinger", "(I)Z"⟩, 36) := ⟨⟨by decide +kernel, by decide +kernel⟩, List.mem_of_getElem? (i := 752) (by decide +kernel), List.mem_of_getElem? (i := 942) (by decide +kernel), List.mem_of_getElem? (i := 943) (by decide +kernel)⟩
theorem lw_p23 : lw_okq (⟨"GripBenchModel", "layAll", "()V"⟩, 36) := ⟨⟨by decide +kernel, by decide +kernel⟩, List.mem_of_getElem? (i := 752) (by decide +kernel), List.mem_of_getElem? (i := 959) (by decide +kernel), List.mem_of_getElem? (i := 960) (by decide +kernel)⟩
theorem lw_p24 : lw_okq (⟨"GripBenchModel", "lays", "(II)V"⟩, 36) := ⟨⟨by decide +kernel, by decide +kernel⟩, List.mem_of_getElem? (i := 752) (by decide +kernel), List.mem_of_getElem? (i := 963) (by decide +kernel), List.mem_of_getElem? (i := 964) (by decide +kernel)⟩
theorem lw_p25 : lw_okq (⟨"GripBenchModel", "lay", "(IIII)V"⟩, 36) := ⟨⟨by decide +kernel, by decide +kernel⟩, List.mem_of_getElem? (i := 752) (by decide +kernel), List.mem_of_getElem? (i := 967) (by decide +kernel), List.mem_of_getElem? (i := 968) (by decide +kernel)⟩
theorem lw_p26 : lw_okq (⟨"GripBenchModel", "hold", "()Z"⟩, 36) := ⟨⟨by decide +kernel, by decide +kernel⟩, List.mem_of_getElem? (i := 752) (by decide +kernel), List.mem_of_getElem? (i := 980) (by decide +kernel), List.mem_of_getElem? (i := 981) (by decide +kernel)⟩
theorem lw_p27 : lw_okq (⟨"GripBenchModel", "isFull", "()Z"⟩, 36) := ⟨⟨by decide +kernel, by decide +kernel⟩, List.mem_of_getElem? (i := 752) (by decide +kernel), List.mem_of_getElem? (i := 984) (by decide +kernel), List.mem_of_getElem? (i := 985) (by decide +kernel)⟩
theorem lw_p28 : lw_okq (⟨"GripBenchModel", "crosses", "(II)Z"⟩, 36) := ⟨⟨by decide +kernel, by decide +kernel⟩, List.mem_of_getElem? (i := 752) (by decide +kernel), List.mem_of_getElem? (i := 988) (by decide +kernel), List.mem_of_getElem? (i := 989) (by decide +kernel)⟩
theorem lw_p29 : lw_okq (⟨"GripBenchModel", "holdBy", "(I)Z"⟩, 36) := ⟨⟨by decide +kernel, by decide +kernel⟩, List.mem_of_getElem? (i := 752) (by decide +kernel), List.mem_of_getElem? (i := 1004) (by decide +kernel), List.mem_of_getElem? (i := 1005) (by decide +kernel)⟩
theorem lw_p30 : lw_okq (⟨"GripBenchModel", "priceOf", "(I)I"⟩, 36) := ⟨⟨by decide +kernel, by decide +kernel⟩, List.mem_of_getElem? (i := 752) (by decide +kernel), List.mem_of_getElem? (i := 1016) (by decide +kernel), List.mem_of_getElem? (i := 1017) (by decide +kernel)⟩
theorem lw_p31 : lw_okq (⟨"GripBenchModel", "lifted", "(IIIJ)Z"⟩, 36) := ⟨⟨by decide +kernel, by decide +kernel⟩, List.mem_of_getElem? (i := 752) (by decide +kernel), List.mem_of_getElem? (i := 1031) (by decide +kernel), List.mem_of_getElem? (i := 1032) (by decide +kernel)⟩
def lw_privs_2 : List (MethodName × Nat) := [(⟨"GripBenchModel", "cross", "(I)I"⟩, 36), (⟨"GripBenchModel", "next", "(I)I"⟩, 36), (⟨"GripBenchModel", "middleX", "()I"⟩, 36), (⟨"GripBenchModel", "middleY", "()I"⟩, 36), (⟨"GripBenchModel", "place", "(II)I"⟩, 36), (⟨"GripBenchModel", "isStand", "(II)Z"⟩, 36), (⟨"GripBenchModel", "isFinger", "(I)Z"⟩, 36), (⟨"GripBenchModel", "layAll", "()V"⟩, 36), (⟨"GripBenchModel", "lays", "(II)V"⟩, 36), (⟨"GripBenchModel", "lay", "(IIII)V"⟩, 36), (⟨"GripBenchModel", "hold", "()Z"⟩, 36), (⟨"GripBenchModel", "isFull", "()Z"⟩, 36), (⟨"GripBenchModel", "crosses", "(II)Z"⟩, 36), (⟨"GripBenchModel", "holdBy", "(I)Z"⟩, 36), (⟨"GripBenchModel", "priceOf", "(I)I"⟩, 36), (⟨"GripBenchModel", "lifted", "(IIIJ)Z"⟩, 36)]
theorem lw_r2 : ∀ q ∈ lw_privs_2, lw_okq q := List.forall_mem_cons.mpr ⟨lw_p16, List.forall_mem_cons.mpr ⟨lw_p17, List.forall_mem_cons.mpr ⟨lw_p18, List.forall_mem_cons.mpr ⟨lw_p19, List.forall_mem_cons.mpr ⟨lw_p20, List.forall_mem_cons.mpr ⟨lw_p21, List.forall_mem_cons.mpr ⟨lw_p22, List.forall_mem_cons.mpr ⟨lw_p23, List.forall_mem_cons.mpr ⟨lw_p24, List.forall_mem_cons.mpr ⟨lw_p25, List.forall_mem_cons.mpr ⟨lw_p26, List.forall_mem_cons.mpr ⟨lw_p27, List.forall_mem_cons.mpr ⟨lw_p28, List.forall_mem_cons.mpr ⟨lw_p29, List.forall_mem_cons.mpr ⟨lw_p30, List.forall_mem_cons.mpr ⟨lw_p31, fun _ h => absurd h List.not_mem_nil⟩⟩⟩⟩⟩⟩⟩⟩⟩⟩⟩⟩⟩⟩⟩⟩
theorem lw_p32 : lw_okq (⟨"GripBenchModel", "farSquare", "(II)J"⟩, 36) := ⟨⟨by decide +kernel, by decide +kernel⟩, List.mem_of_getElem? (i := 752) (by decide +kernel), List.mem_of_getElem? (i := 1036) (by decide +kernel), List.mem_of_getElem? (i := 1037) (by decide +kernel)⟩
theorem lw_p33 : lw_okq (⟨"GripBenchModel", "fits", "(II)Z"⟩, 36) := ⟨⟨by decide +kernel, by decide +kernel⟩, List.mem_of_getElem? (i := 752) (by decide +kernel), List.mem_of_getElem? (i := 1055) (by decide +kernel), List.mem_of_getElem? (i := 1056) (by decide +kernel)⟩
theorem lw_p34 : lw_okq (⟨"GripBenchModel", "isGrip", "(I)Z"⟩, 36) := ⟨⟨by decide +kernel, by decide +kernel⟩, List.mem_of_getElem? (i := 752) (by decide +kernel), List.mem_of_getElem? (i := 1071) (by decide +kernel), List.mem_of_getElem? (i := 1072) (by decide +kernel)⟩
theorem lw_p35 : lw_okq (⟨"GripBenchModel", "isDropped", "(I)Z"⟩, 36) := ⟨⟨by decide +kernel, by decide +kernel⟩, List.mem_of_getElem? (i := 752) (by decide +kernel), List.mem_of_getElem? (i := 1087) (by decide +kernel), List.mem_of_getElem? (i := 1088) (by decide +kernel)⟩
theorem lw_p36 : lw_okq (⟨"GripBenchModel", "left", "(I)I"⟩, 36) := ⟨⟨by decide +kernel, by decide +kernel⟩, List.mem_of_getElem? (i := 752) (by decide +kernel), List.mem_of_getElem? (i := 1099) (by decide +kernel), List.mem_of_getElem? (i := 1100) (by decide +kernel)⟩
theorem lw_p37 : lw_okq (⟨"GripBenchModel", "lacks", "(III)I"⟩, 36) := ⟨⟨by decide +kernel, by decide +kernel⟩, List.mem_of_getElem? (i := 752) (by decide +kernel), List.mem_of_getElem? (i := 1122) (by decide +kernel), List.mem_of_getElem? (i := 1123) (by decide +kernel)⟩
def lw_privs_3 : List (MethodName × Nat) := [(⟨"GripBenchModel", "farSquare", "(II)J"⟩, 36), (⟨"GripBenchModel", "fits", "(II)Z"⟩, 36), (⟨"GripBenchModel", "isGrip", "(I)Z"⟩, 36), (⟨"GripBenchModel", "isDropped", "(I)Z"⟩, 36), (⟨"GripBenchModel", "left", "(I)I"⟩, 36), (⟨"GripBenchModel", "lacks", "(III)I"⟩, 36)]
theorem lw_r3 : ∀ q ∈ lw_privs_3, lw_okq q := List.forall_mem_cons.mpr ⟨lw_p32, List.forall_mem_cons.mpr ⟨lw_p33, List.forall_mem_cons.mpr ⟨lw_p34, List.forall_mem_cons.mpr ⟨lw_p35, List.forall_mem_cons.mpr ⟨lw_p36, List.forall_mem_cons.mpr ⟨lw_p37, fun _ h => absurd h List.not_mem_nil⟩⟩⟩⟩⟩⟩
def lw_privs : List (MethodName × Nat) := lw_privs_1 ++ (lw_privs_2 ++ (lw_privs_3))
def lw_tbl : List Cond := k2_sels lw_privs ++ tables_1
theorem lw_privs_ok : ∀ q ∈ lw_privs, lw_okq q := by
  show ∀ q ∈ lw_privs_1 ++ (lw_privs_2 ++ (lw_privs_3)), lw_okq q
  exact List.forall_mem_append.mpr ⟨lw_r1, List.forall_mem_append.mpr ⟨lw_r2, lw_r3⟩⟩
/-! ===== BEGIN words of one list among another's, by their places ===== -/
theorem goodIn_r {big : List Cond} (ws : List Cond) (ps : List Nat) (hp : ws = ps.filterMap (fun i => big[i]?)) (h : ws.all goodWord = true) : GoodIn big ws := by
  intro w hw
  have h1 := List.all_eq_true.mp h w hw
  rw [hp] at hw
  obtain ⟨i, -, hi⟩ := List.mem_filterMap.mp hw
  have hm : w ∈ big := by first | exact List.mem_of_getElem? hi | exact List.getElem?_mem hi
  exact ⟨hm, good_of_word h1⟩
theorem goodIn_app {big a b : List Cond} (ha : GoodIn big a) (hb : GoodIn big b) : GoodIn big (a ++ b) := fun w h => (List.mem_append.mp h).elim (ha w) (hb w)
theorem goodIn_ca {big a b : List Cond} {c : Cond} (ha : GoodIn big (c :: a)) (hb : GoodIn big b) : GoodIn big (c :: (a ++ b)) := fun w h => (List.mem_cons.mp h).elim (fun e => ha w (List.mem_cons.mpr (Or.inl e))) (fun h => (List.mem_append.mp h).elim (fun h => ha w (List.mem_cons.mpr (Or.inr h))) (hb w))
theorem goodIn_sub {big ws : List Cond} (hm : ∀ w ∈ ws, w ∈ big) (h : ws.all goodWord = true) : GoodIn big ws := fun w hw => ⟨hm w hw, good_of_word (List.all_eq_true.mp h w hw)⟩
/-! ===== END ===== -/

/-! ===== BEGIN printed: names, fields, word lists, decode rows ===== -/
def RX0 : String := "GripBench$Bin"
def TX0 : u_T := fun k => match k with
  | 0 => ("GripBench$Bin", "above", "[I", true)
  | 1 => ("GripBench$Bin", "inside", "I", false)
  | _ => ("GripBench$Bin", "dropped", "I", false)
def tyX0 : Nat → FieldType := fun k => match k with
  | 0 => .array .int
  | 1 => .int
  | _ => .int
abbrev wsX00 : List Cond := u_ws RX0 TX0 3
theorem nmX0 : ∀ a, a < 3 → ∀ b, b < 3 → a ≠ b → (TX0 a).2.1 ≠ (TX0 b).2.1 := by decide +kernel
theorem tyX0_ok : ∀ k, k < 3 → parseFieldDescriptor (TX0 k).2.2.1 = some (tyX0 k) := by decide +kernel
abbrev cX0_init : ByteArray := prog_2_method_1_code
def yX0_init : MethodName := ⟨RX0, "<init>", "()V"⟩
abbrev cX0_dropped : ByteArray := prog_2_method_2_code
def yX0_dropped : MethodName := ⟨RX0, "dropped", "()I"⟩
abbrev cX0_size : ByteArray := prog_2_method_3_code
def yX0_size : MethodName := ⟨RX0, "size", "()I"⟩
abbrev cX0_add : ByteArray := prog_2_method_4_code
def yX0_add : MethodName := ⟨RX0, "add", "()V"⟩
abbrev cX0_lay : ByteArray := prog_2_method_5_code
def yX0_lay : MethodName := ⟨RX0, "lay", "(II)V"⟩
abbrev cX0_isInside : ByteArray := prog_2_method_6_code
def yX0_isInside : MethodName := ⟨RX0, "isInside", "(I)Z"⟩
abbrev cX0_isCovered : ByteArray := prog_2_method_7_code
def yX0_isCovered : MethodName := ⟨RX0, "isCovered", "(I)Z"⟩
abbrev cX0_remove : ByteArray := prog_2_method_8_code
def yX0_remove : MethodName := ⟨RX0, "remove", "(I)V"⟩
abbrev cX0_stuckBits : ByteArray := prog_2_method_9_code
def yX0_stuckBits : MethodName := ⟨RX0, "stuckBits", "()I"⟩
abbrev cX0_withAllAbove : ByteArray := prog_2_method_10_code
def yX0_withAllAbove : MethodName := ⟨RX0, "withAllAbove", "(I)I"⟩
def RX1 : String := "GripBench$Grips"
def TX1 : u_T := fun k => match k with
  | 0 => ("GripBench$Grips", "costs", "[I", true)
  | 1 => ("GripBench$Grips", "ways", "[I", true)
  | _ => ("GripBench$Grips", "size", "I", false)
def tyX1 : Nat → FieldType := fun k => match k with
  | 0 => .array .int
  | 1 => .array .int
  | _ => .int
abbrev wsX10 : List Cond := u_ws RX1 TX1 3
theorem nmX1 : ∀ a, a < 3 → ∀ b, b < 3 → a ≠ b → (TX1 a).2.1 ≠ (TX1 b).2.1 := by decide +kernel
theorem tyX1_ok : ∀ k, k < 3 → parseFieldDescriptor (TX1 k).2.2.1 = some (tyX1 k) := by decide +kernel
abbrev cX1_init : ByteArray := prog_3_method_1_code
def yX1_init : MethodName := ⟨RX1, "<init>", "()V"⟩
abbrev cX1_size : ByteArray := prog_3_method_2_code
def yX1_size : MethodName := ⟨RX1, "size", "()I"⟩
abbrev cX1_add : ByteArray := prog_3_method_3_code
def yX1_add : MethodName := ⟨RX1, "add", "()V"⟩
abbrev cX1_join : ByteArray := prog_3_method_4_code
def yX1_join : MethodName := ⟨RX1, "join", "(III)V"⟩
abbrev cX1_leastCost : ByteArray := prog_3_method_5_code
def yX1_leastCost : MethodName := ⟨RX1, "leastCost", "(II)I"⟩
abbrev cX1_goOneMoveFarther : ByteArray := prog_3_method_6_code
def yX1_goOneMoveFarther : MethodName := ⟨RX1, "goOneMoveFarther", "()V"⟩
def RX2 : String := "GripBench$Hand"
def TX2 : u_T := fun k => match k with
  | 0 => ("GripBench$Hand", "edges", "[I", true)
  | 1 => ("GripBench$Hand", "eighths", "[I", true)
  | _ => ("GripBench$Hand", "size", "I", false)
def tyX2 : Nat → FieldType := fun k => match k with
  | 0 => .array .int
  | 1 => .array .int
  | _ => .int
abbrev wsX20 : List Cond := u_ws RX2 TX2 3
theorem nmX2 : ∀ a, a < 3 → ∀ b, b < 3 → a ≠ b → (TX2 a).2.1 ≠ (TX2 b).2.1 := by decide +kernel
theorem tyX2_ok : ∀ k, k < 3 → parseFieldDescriptor (TX2 k).2.2.1 = some (tyX2 k) := by decide +kernel
abbrev cX2_init : ByteArray := prog_4_method_1_code
def yX2_init : MethodName := ⟨RX2, "<init>", "()V"⟩
abbrev cX2_size : ByteArray := prog_4_method_2_code
def yX2_size : MethodName := ⟨RX2, "size", "()I"⟩
abbrev cX2_edge : ByteArray := prog_4_method_3_code
def yX2_edge : MethodName := ⟨RX2, "edge", "(I)I"⟩
abbrev cX2_eighth : ByteArray := prog_4_method_4_code
def yX2_eighth : MethodName := ⟨RX2, "eighth", "(I)I"⟩
abbrev cX2_clear : ByteArray := prog_4_method_5_code
def yX2_clear : MethodName := ⟨RX2, "clear", "()V"⟩
abbrev cX2_add : ByteArray := prog_4_method_6_code
def yX2_add : MethodName := ⟨RX2, "add", "(II)V"⟩
abbrev cX2_stand : ByteArray := prog_4_method_7_code
def yX2_stand : MethodName := ⟨RX2, "stand", "(III)V"⟩
abbrev cX2_become : ByteArray := prog_4_method_8_code
def yX2_become : MethodName := ⟨RX2, "become", "(LGripBench$Hand;)V"⟩
def RX3 : String := "GripBench$Polygon"
def TX3 : u_T := fun k => match k with
  | 0 => ("GripBench$Polygon", "xs", "[I", true)
  | 1 => ("GripBench$Polygon", "ys", "[I", true)
  | 2 => ("GripBench$Polygon", "corners", "I", false)
  | 3 => ("GripBench$Polygon", "area", "I", false)
  | 4 => ("GripBench$Polygon", "momentX", "I", false)
  | _ => ("GripBench$Polygon", "momentY", "I", false)
def tyX3 : Nat → FieldType := fun k => match k with
  | 0 => .array .int
  | 1 => .array .int
  | 2 => .int
  | 3 => .int
  | 4 => .int
  | _ => .int
abbrev wsX30 : List Cond := u_ws RX3 TX3 6
theorem nmX3 : ∀ a, a < 6 → ∀ b, b < 6 → a ≠ b → (TX3 a).2.1 ≠ (TX3 b).2.1 := by decide +kernel
theorem tyX3_ok : ∀ k, k < 6 → parseFieldDescriptor (TX3 k).2.2.1 = some (tyX3 k) := by decide +kernel
abbrev cX3_init : ByteArray := prog_5_method_1_code
def yX3_init : MethodName := ⟨RX3, "<init>", "()V"⟩
abbrev cX3_setCorner : ByteArray := prog_5_method_2_code
def yX3_setCorner : MethodName := ⟨RX3, "setCorner", "(III)V"⟩
abbrev cX3_close : ByteArray := prog_5_method_3_code
def yX3_close : MethodName := ⟨RX3, "close", "(I)V"⟩
abbrev cX3_corners : ByteArray := prog_5_method_4_code
def yX3_corners : MethodName := ⟨RX3, "corners", "()I"⟩
abbrev cX3_area : ByteArray := prog_5_method_5_code
def yX3_area : MethodName := ⟨RX3, "area", "()I"⟩
abbrev cX3_momentX : ByteArray := prog_5_method_6_code
def yX3_momentX : MethodName := ⟨RX3, "momentX", "()I"⟩
abbrev cX3_momentY : ByteArray := prog_5_method_7_code
def yX3_momentY : MethodName := ⟨RX3, "momentY", "()I"⟩
abbrev cX3_x : ByteArray := prog_5_method_8_code
def yX3_x : MethodName := ⟨RX3, "x", "(I)I"⟩
abbrev cX3_y : ByteArray := prog_5_method_9_code
def yX3_y : MethodName := ⟨RX3, "y", "(I)I"⟩
abbrev cX3_next : ByteArray := prog_5_method_10_code
def yX3_next : MethodName := ⟨RX3, "next", "(I)I"⟩
abbrev cX3_dx : ByteArray := prog_5_method_11_code
def yX3_dx : MethodName := ⟨RX3, "dx", "(I)I"⟩
abbrev cX3_dy : ByteArray := prog_5_method_12_code
def yX3_dy : MethodName := ⟨RX3, "dy", "(I)I"⟩
abbrev cX3_side : ByteArray := prog_5_method_13_code
def yX3_side : MethodName := ⟨RX3, "side", "(II)I"⟩
abbrev cX3_pull : ByteArray := prog_5_method_14_code
def yX3_pull : MethodName := ⟨RX3, "pull", "(III)J"⟩
abbrev cX3_isSealed : ByteArray := prog_5_method_15_code
def yX3_isSealed : MethodName := ⟨RX3, "isSealed", "(JI)Z"⟩
abbrev cX3_leastSeal : ByteArray := prog_5_method_16_code
def yX3_leastSeal : MethodName := ⟨RX3, "leastSeal", "(J)I"⟩
def RX4 : String := "GripBench$Probes"
def TX4 : u_T := fun k => match k with
  | 0 => ("GripBench$Probes", "xs", "[I", true)
  | 1 => ("GripBench$Probes", "ys", "[I", true)
  | _ => ("GripBench$Probes", "size", "I", false)
def tyX4 : Nat → FieldType := fun k => match k with
  | 0 => .array .int
  | 1 => .array .int
  | _ => .int
abbrev wsX40 : List Cond := u_ws RX4 TX4 3
theorem nmX4 : ∀ a, a < 3 → ∀ b, b < 3 → a ≠ b → (TX4 a).2.1 ≠ (TX4 b).2.1 := by decide +kernel
theorem tyX4_ok : ∀ k, k < 3 → parseFieldDescriptor (TX4 k).2.2.1 = some (tyX4 k) := by decide +kernel
abbrev cX4_init : ByteArray := prog_6_method_1_code
def yX4_init : MethodName := ⟨RX4, "<init>", "()V"⟩
abbrev cX4_size : ByteArray := prog_6_method_2_code
def yX4_size : MethodName := ⟨RX4, "size", "()I"⟩
abbrev cX4_x : ByteArray := prog_6_method_3_code
def yX4_x : MethodName := ⟨RX4, "x", "(I)I"⟩
abbrev cX4_y : ByteArray := prog_6_method_4_code
def yX4_y : MethodName := ⟨RX4, "y", "(I)I"⟩
abbrev cX4_add : ByteArray := prog_6_method_5_code
def yX4_add : MethodName := ⟨RX4, "add", "(II)V"⟩
def RX5 : String := "GripBench$Sheets"
def TX5 : u_T := fun k => match k with
  | 0 => ("GripBench$Sheets", "forms", "[I", true)
  | 1 => ("GripBench$Sheets", "lengths", "[I", true)
  | 2 => ("GripBench$Sheets", "items", "[I", true)
  | _ => ("GripBench$Sheets", "latestFinding", "I", false)
def tyX5 : Nat → FieldType := fun k => match k with
  | 0 => .array .int
  | 1 => .array .int
  | 2 => .array .int
  | _ => .int
abbrev wsX50 : List Cond := u_ws RX5 TX5 4
theorem nmX5 : ∀ a, a < 4 → ∀ b, b < 4 → a ≠ b → (TX5 a).2.1 ≠ (TX5 b).2.1 := by decide +kernel
theorem tyX5_ok : ∀ k, k < 4 → parseFieldDescriptor (TX5 k).2.2.1 = some (tyX5 k) := by decide +kernel
abbrev cX5_init : ByteArray := prog_7_method_1_code
def yX5_init : MethodName := ⟨RX5, "<init>", "()V"⟩
abbrev cX5_latestFinding : ByteArray := prog_7_method_2_code
def yX5_latestFinding : MethodName := ⟨RX5, "latestFinding", "()I"⟩
abbrev cX5_find : ByteArray := prog_7_method_3_code
def yX5_find : MethodName := ⟨RX5, "find", "(I)I"⟩
abbrev cX5_form : ByteArray := prog_7_method_4_code
def yX5_form : MethodName := ⟨RX5, "form", "(I)I"⟩
abbrev cX5_length : ByteArray := prog_7_method_5_code
def yX5_length : MethodName := ⟨RX5, "length", "(I)I"⟩
abbrev cX5_isLost : ByteArray := prog_7_method_6_code
def yX5_isLost : MethodName := ⟨RX5, "isLost", "(I)Z"⟩
abbrev cX5_forget : ByteArray := prog_7_method_7_code
def yX5_forget : MethodName := ⟨RX5, "forget", "(I)V"⟩
abbrev cX5_renew : ByteArray := prog_7_method_8_code
def yX5_renew : MethodName := ⟨RX5, "renew", "(III)V"⟩
abbrev cX5_value : ByteArray := prog_7_method_9_code
def yX5_value : MethodName := ⟨RX5, "value", "(II)I"⟩
abbrev cX5_hasValue : ByteArray := prog_7_method_10_code
def yX5_hasValue : MethodName := ⟨RX5, "hasValue", "(III)Z"⟩
abbrev cX5_write : ByteArray := prog_7_method_11_code
def yX5_write : MethodName := ⟨RX5, "write", "(III)V"⟩
abbrev cX5_faultAt : ByteArray := prog_7_method_12_code
def yX5_faultAt : MethodName := ⟨RX5, "faultAt", "(III)I"⟩
abbrev cX5_hasRun : ByteArray := prog_7_method_13_code
def yX5_hasRun : MethodName := ⟨RX5, "hasRun", "(III)Z"⟩
def RX6 : String := "GripBench$Spots"
def TX6 : u_T := fun k => match k with
  | 0 => ("GripBench$Spots", "edges", "[I", true)
  | 1 => ("GripBench$Spots", "eighths", "[I", true)
  | 2 => ("GripBench$Spots", "prices", "[I", true)
  | _ => ("GripBench$Spots", "size", "I", false)
def tyX6 : Nat → FieldType := fun k => match k with
  | 0 => .array .int
  | 1 => .array .int
  | 2 => .array .int
  | _ => .int
abbrev wsX60 : List Cond := u_ws RX6 TX6 4
theorem nmX6 : ∀ a, a < 4 → ∀ b, b < 4 → a ≠ b → (TX6 a).2.1 ≠ (TX6 b).2.1 := by decide +kernel
theorem tyX6_ok : ∀ k, k < 4 → parseFieldDescriptor (TX6 k).2.2.1 = some (tyX6 k) := by decide +kernel
abbrev cX6_init : ByteArray := prog_8_method_1_code
def yX6_init : MethodName := ⟨RX6, "<init>", "()V"⟩
abbrev cX6_size : ByteArray := prog_8_method_2_code
def yX6_size : MethodName := ⟨RX6, "size", "()I"⟩
abbrev cX6_clear : ByteArray := prog_8_method_3_code
def yX6_clear : MethodName := ⟨RX6, "clear", "()V"⟩
abbrev cX6_add : ByteArray := prog_8_method_4_code
def yX6_add : MethodName := ⟨RX6, "add", "(III)V"⟩
abbrev cX6_price : ByteArray := prog_8_method_5_code
def yX6_price : MethodName := ⟨RX6, "price", "(I)I"⟩
abbrev cX6_isBetter : ByteArray := prog_8_method_6_code
def yX6_isBetter : MethodName := ⟨RX6, "isBetter", "(II)Z"⟩
abbrev cX6_layOut : ByteArray := prog_8_method_7_code
def yX6_layOut : MethodName := ⟨RX6, "layOut", "(ILGripBench$Hand;)V"⟩
def RX7 : String := "GripBench$Triples"
def TX7 : u_T := fun k => match k with
  | 0 => ("GripBench$Triples", "forcesX", "[I", true)
  | 1 => ("GripBench$Triples", "forcesY", "[I", true)
  | 2 => ("GripBench$Triples", "turns", "[I", true)
  | 3 => ("GripBench$Triples", "size", "I", false)
  | 4 => ("GripBench$Triples", "crossX", "J", false)
  | 5 => ("GripBench$Triples", "crossY", "J", false)
  | _ => ("GripBench$Triples", "crossTurn", "J", false)
def tyX7 : Nat → FieldType := fun k => match k with
  | 0 => .array .int
  | 1 => .array .int
  | 2 => .array .int
  | 3 => .int
  | 4 => .long
  | 5 => .long
  | _ => .long
abbrev wsX70 : List Cond := u_ws RX7 TX7 7
theorem nmX7 : ∀ a, a < 7 → ∀ b, b < 7 → a ≠ b → (TX7 a).2.1 ≠ (TX7 b).2.1 := by decide +kernel
theorem tyX7_ok : ∀ k, k < 7 → parseFieldDescriptor (TX7 k).2.2.1 = some (tyX7 k) := by decide +kernel
abbrev cX7_init : ByteArray := prog_9_method_1_code
def yX7_init : MethodName := ⟨RX7, "<init>", "()V"⟩
abbrev cX7_size : ByteArray := prog_9_method_2_code
def yX7_size : MethodName := ⟨RX7, "size", "()I"⟩
abbrev cX7_part : ByteArray := prog_9_method_3_code
def yX7_part : MethodName := ⟨RX7, "part", "(II)I"⟩
abbrev cX7_press : ByteArray := prog_9_method_4_code
def yX7_press : MethodName := ⟨RX7, "press", "(LGripBench$Hand;LGripBench$Polygon;I)V"⟩
abbrev cX7_add : ByteArray := prog_9_method_5_code
def yX7_add : MethodName := ⟨RX7, "add", "(IIII)V"⟩
abbrev cX7_spread : ByteArray := prog_9_method_6_code
def yX7_spread : MethodName := ⟨RX7, "spread", "()I"⟩
abbrev cX7_turnIfBelow : ByteArray := prog_9_method_7_code
def yX7_turnIfBelow : MethodName := ⟨RX7, "turnIfBelow", "(I)V"⟩
abbrev cX7_normal : ByteArray := prog_9_method_8_code
def yX7_normal : MethodName := ⟨RX7, "normal", "(I)J"⟩
abbrev cX7_cross : ByteArray := prog_9_method_9_code
def yX7_cross : MethodName := ⟨RX7, "cross", "(II)Z"⟩
abbrev cX7_signs : ByteArray := prog_9_method_10_code
def yX7_signs : MethodName := ⟨RX7, "signs", "()I"⟩
def RX8 : String := "GripBench"
def TX8 : u_T := fun k => match k with
  | 0 => ("GripBench", "polygon", "LGripBench$Polygon;", true)
  | 1 => ("GripBench", "hand", "LGripBench$Hand;", true)
  | 2 => ("GripBench", "trial", "LGripBench$Hand;", true)
  | 3 => ("GripBench", "triples", "LGripBench$Triples;", true)
  | 4 => ("GripBench", "spots", "LGripBench$Spots;", true)
  | 5 => ("GripBench", "probes", "LGripBench$Probes;", true)
  | 6 => ("GripBench", "grips", "LGripBench$Grips;", true)
  | 7 => ("GripBench", "bin", "LGripBench$Bin;", true)
  | 8 => ("GripBench", "sheets", "LGripBench$Sheets;", true)
  | _ => ("GripBench", "friction", "I", false)
def tyX8 : Nat → FieldType := fun k => match k with
  | 0 => .object "GripBench$Polygon"
  | 1 => .object "GripBench$Hand"
  | 2 => .object "GripBench$Hand"
  | 3 => .object "GripBench$Triples"
  | 4 => .object "GripBench$Spots"
  | 5 => .object "GripBench$Probes"
  | 6 => .object "GripBench$Grips"
  | 7 => .object "GripBench$Bin"
  | 8 => .object "GripBench$Sheets"
  | _ => .int
abbrev wsX80 : List Cond := u_ws RX8 TX8 10
theorem nmX8 : ∀ a, a < 10 → ∀ b, b < 10 → a ≠ b → (TX8 a).2.1 ≠ (TX8 b).2.1 := by decide +kernel
theorem tyX8_ok : ∀ k, k < 10 → parseFieldDescriptor (TX8 k).2.2.1 = some (tyX8 k) := by decide +kernel
abbrev cX8_init : ByteArray := prog_1_method_1_code
def yX8_init : MethodName := ⟨RX8, "<init>", "()V"⟩
abbrev cX8_shape : ByteArray := prog_1_method_2_code
def yX8_shape : MethodName := ⟨RX8, "shape", "(II)I"⟩
abbrev cX8_isShape : ByteArray := prog_1_method_3_code
def yX8_isShape : MethodName := ⟨RX8, "isShape", "(II)Z"⟩
abbrev cX8_corner : ByteArray := prog_1_method_4_code
def yX8_corner : MethodName := ⟨RX8, "corner", "(II)I"⟩
abbrev cX8_middle : ByteArray := prog_1_method_5_code
def yX8_middle : MethodName := ⟨RX8, "middle", "(I)I"⟩
abbrev cX8_isIn : ByteArray := prog_1_method_6_code
def yX8_isIn : MethodName := ⟨RX8, "isIn", "(II)I"⟩
abbrev cX8_finger : ByteArray := prog_1_method_7_code
def yX8_finger : MethodName := ⟨RX8, "finger", "(II)I"⟩
abbrev cX8_move : ByteArray := prog_1_method_8_code
def yX8_move : MethodName := ⟨RX8, "move", "(III)I"⟩
abbrev cX8_release : ByteArray := prog_1_method_9_code
def yX8_release : MethodName := ⟨RX8, "release", "()I"⟩
abbrev cX8_friction : ByteArray := prog_1_method_10_code
def yX8_friction : MethodName := ⟨RX8, "friction", "(I)I"⟩
abbrev cX8_push : ByteArray := prog_1_method_11_code
def yX8_push : MethodName := ⟨RX8, "push", "(II)J"⟩
abbrev cX8_holds : ByteArray := prog_1_method_12_code
def yX8_holds : MethodName := ⟨RX8, "holds", "()I"⟩
abbrev cX8_witness : ByteArray := prog_1_method_13_code
def yX8_witness : MethodName := ⟨RX8, "witness", "(I)J"⟩
abbrev cX8_free : ByteArray := prog_1_method_14_code
def yX8_free : MethodName := ⟨RX8, "free", "(I)I"⟩
abbrev cX8_slip : ByteArray := prog_1_method_15_code
def yX8_slip : MethodName := ⟨RX8, "slip", "()I"⟩
abbrev cX8_isHeldWithin : ByteArray := prog_1_method_16_code
def yX8_isHeldWithin : MethodName := ⟨RX8, "isHeldWithin", "(I)Z"⟩
abbrev cX8_slide : ByteArray := prog_1_method_17_code
def yX8_slide : MethodName := ⟨RX8, "slide", "(II)Z"⟩
abbrev cX8_isHeldBy : ByteArray := prog_1_method_18_code
def yX8_isHeldBy : MethodName := ⟨RX8, "isHeldBy", "(LGripBench$Hand;)Z"⟩
abbrev cX8_spot : ByteArray := prog_1_method_19_code
def yX8_spot : MethodName := ⟨RX8, "spot", "(III)I"⟩
abbrev cX8_cheapest : ByteArray := prog_1_method_20_code
def yX8_cheapest : MethodName := ⟨RX8, "cheapest", "()I"⟩
abbrev cX8_take : ByteArray := prog_1_method_21_code
def yX8_take : MethodName := ⟨RX8, "take", "()I"⟩
abbrev cX8_lifts : ByteArray := prog_1_method_22_code
def yX8_lifts : MethodName := ⟨RX8, "lifts", "(IIII)I"⟩
abbrev cX8_seal : ByteArray := prog_1_method_23_code
def yX8_seal : MethodName := ⟨RX8, "seal", "(III)I"⟩
abbrev cX8_probe : ByteArray := prog_1_method_24_code
def yX8_probe : MethodName := ⟨RX8, "probe", "(II)I"⟩
abbrev cX8_poses : ByteArray := prog_1_method_25_code
def yX8_poses : MethodName := ⟨RX8, "poses", "()I"⟩
abbrev cX8_pose : ByteArray := prog_1_method_26_code
def yX8_pose : MethodName := ⟨RX8, "pose", "(I)I"⟩
abbrev cX8_fits : ByteArray := prog_1_method_27_code
def yX8_fits : MethodName := ⟨RX8, "fits", "(II)Z"⟩
abbrev cX8_grip : ByteArray := prog_1_method_28_code
def yX8_grip : MethodName := ⟨RX8, "grip", "()I"⟩
abbrev cX8_link : ByteArray := prog_1_method_29_code
def yX8_link : MethodName := ⟨RX8, "link", "(III)I"⟩
abbrev cX8_way : ByteArray := prog_1_method_30_code
def yX8_way : MethodName := ⟨RX8, "way", "(II)I"⟩
abbrev cX8_drop : ByteArray := prog_1_method_31_code
def yX8_drop : MethodName := ⟨RX8, "drop", "()I"⟩
abbrev cX8_on : ByteArray := prog_1_method_32_code
def yX8_on : MethodName := ⟨RX8, "on", "(II)I"⟩
abbrev cX8_pick : ByteArray := prog_1_method_33_code
def yX8_pick : MethodName := ⟨RX8, "pick", "(I)I"⟩
abbrev cX8_reach : ByteArray := prog_1_method_34_code
def yX8_reach : MethodName := ⟨RX8, "reach", "(I)I"⟩
abbrev cX8_stuck : ByteArray := prog_1_method_35_code
def yX8_stuck : MethodName := ⟨RX8, "stuck", "()I"⟩
abbrev cX8_sheet : ByteArray := prog_1_method_36_code
def yX8_sheet : MethodName := ⟨RX8, "sheet", "(III)I"⟩
abbrev cX8_lose : ByteArray := prog_1_method_37_code
def yX8_lose : MethodName := ⟨RX8, "lose", "(I)I"⟩
abbrev cX8_put : ByteArray := prog_1_method_38_code
def yX8_put : MethodName := ⟨RX8, "put", "(IIII)I"⟩
abbrev cX8_get : ByteArray := prog_1_method_39_code
def yX8_get : MethodName := ⟨RX8, "get", "(III)I"⟩
abbrev cX8_copy : ByteArray := prog_1_method_40_code
def yX8_copy : MethodName := ⟨RX8, "copy", "(IIIII)I"⟩
abbrev cX8_count : ByteArray := prog_1_method_41_code
def yX8_count : MethodName := ⟨RX8, "count", "(I)I"⟩
abbrev cX8_digest : ByteArray := prog_1_method_42_code
def yX8_digest : MethodName := ⟨RX8, "digest", "()J"⟩
abbrev cX8_refusal : ByteArray := prog_1_method_43_code
def yX8_refusal : MethodName := ⟨RX8, "refusal", "(I)J"⟩
abbrev cX8_isWithin : ByteArray := prog_1_method_44_code
def yX8_isWithin : MethodName := ⟨RX8, "isWithin", "(II)Z"⟩
abbrev cX8_isPlace : ByteArray := prog_1_method_45_code
def yX8_isPlace : MethodName := ⟨RX8, "isPlace", "(II)Z"⟩
abbrev cX8_isWeight : ByteArray := prog_1_method_46_code
def yX8_isWeight : MethodName := ⟨RX8, "isWeight", "(I)Z"⟩
abbrev cX8_isTriplePart : ByteArray := prog_1_method_47_code
def yX8_isTriplePart : MethodName := ⟨RX8, "isTriplePart", "(I)Z"⟩
abbrev cX8_isSheet : ByteArray := prog_1_method_48_code
def yX8_isSheet : MethodName := ⟨RX8, "isSheet", "(I)Z"⟩
abbrev cX8_isForm : ByteArray := prog_1_method_49_code
def yX8_isForm : MethodName := ⟨RX8, "isForm", "(I)Z"⟩
abbrev cX8_isStand : ByteArray := prog_1_method_50_code
def yX8_isStand : MethodName := ⟨RX8, "isStand", "(II)Z"⟩
abbrev cX8_isFinger : ByteArray := prog_1_method_51_code
def yX8_isFinger : MethodName := ⟨RX8, "isFinger", "(I)Z"⟩
abbrev cX8_isGrip : ByteArray := prog_1_method_52_code
def yX8_isGrip : MethodName := ⟨RX8, "isGrip", "(I)Z"⟩
abbrev cX8_isDropped : ByteArray := prog_1_method_53_code
def yX8_isDropped : MethodName := ⟨RX8, "isDropped", "(I)Z"⟩
abbrev cX8_item : ByteArray := prog_1_method_54_code
def yX8_item : MethodName := ⟨RX8, "item", "([II)I"⟩
abbrev cX8_setItem : ByteArray := prog_1_method_55_code
def yX8_setItem : MethodName := ⟨RX8, "setItem", "([III)V"⟩
def RX9 : String := "GripBenchModel"
def TX9 : u_T := fun k => match k with
  | 0 => ("GripBenchModel", "corners", "I", false)
  | 1 => ("GripBenchModel", "cx", "[I", true)
  | 2 => ("GripBenchModel", "cy", "[I", true)
  | 3 => ("GripBenchModel", "newX", "[I", true)
  | 4 => ("GripBenchModel", "newY", "[I", true)
  | 5 => ("GripBenchModel", "fingers", "I", false)
  | 6 => ("GripBenchModel", "edge", "[I", true)
  | 7 => ("GripBenchModel", "stand", "[I", true)
  | 8 => ("GripBenchModel", "friction", "I", false)
  | 9 => ("GripBenchModel", "triples", "I", false)
  | 10 => ("GripBenchModel", "one", "[J", true)
  | 11 => ("GripBenchModel", "two", "[J", true)
  | 12 => ("GripBenchModel", "three", "[J", true)
  | 13 => ("GripBenchModel", "c1", "J", false)
  | 14 => ("GripBenchModel", "c2", "J", false)
  | 15 => ("GripBenchModel", "c3", "J", false)
  | 16 => ("GripBenchModel", "above", "Z", false)
  | 17 => ("GripBenchModel", "below", "Z", false)
  | 18 => ("GripBenchModel", "spots", "I", false)
  | 19 => ("GripBenchModel", "spotEdge", "[I", true)
  | 20 => ("GripBenchModel", "spotStand", "[I", true)
  | 21 => ("GripBenchModel", "spotPrice", "[I", true)
  | 22 => ("GripBenchModel", "probes", "I", false)
  | 23 => ("GripBenchModel", "px", "[I", true)
  | 24 => ("GripBenchModel", "py", "[I", true)
  | 25 => ("GripBenchModel", "grips", "I", false)
  | 26 => ("GripBenchModel", "cost", "[I", true)
  | 27 => ("GripBenchModel", "far", "[I", true)
  | 28 => ("GripBenchModel", "dropped", "I", false)
  | 29 => ("GripBenchModel", "bin", "I", false)
  | 30 => ("GripBenchModel", "above12", "[I", true)
  | 31 => ("GripBenchModel", "forms", "[I", true)
  | 32 => ("GripBenchModel", "sizes", "[I", true)
  | 33 => ("GripBenchModel", "items", "[I", true)
  | 34 => ("GripBenchModel", "moved", "[I", true)
  | _ => ("GripBenchModel", "latest", "I", false)
def tyX9 : Nat → FieldType := fun k => match k with
  | 0 => .int
  | 1 => .array .int
  | 2 => .array .int
  | 3 => .array .int
  | 4 => .array .int
  | 5 => .int
  | 6 => .array .int
  | 7 => .array .int
  | 8 => .int
  | 9 => .int
  | 10 => .array .long
  | 11 => .array .long
  | 12 => .array .long
  | 13 => .long
  | 14 => .long
  | 15 => .long
  | 16 => .boolean
  | 17 => .boolean
  | 18 => .int
  | 19 => .array .int
  | 20 => .array .int
  | 21 => .array .int
  | 22 => .int
  | 23 => .array .int
  | 24 => .array .int
  | 25 => .int
  | 26 => .array .int
  | 27 => .array .int
  | 28 => .int
  | 29 => .int
  | 30 => .array .int
  | 31 => .array .int
  | 32 => .array .int
  | 33 => .array .int
  | 34 => .array .int
  | _ => .int
abbrev wsX90 : List Cond := u_ws RX9 TX9 36
theorem nmX9 : ∀ a, a < 36 → ∀ b, b < 36 → a ≠ b → (TX9 a).2.1 ≠ (TX9 b).2.1 := by decide +kernel
theorem tyX9_ok : ∀ k, k < 36 → parseFieldDescriptor (TX9 k).2.2.1 = some (tyX9 k) := by decide +kernel
abbrev cX9_init : ByteArray := prog_11_method_1_code
def yX9_init : MethodName := ⟨RX9, "<init>", "()V"⟩
abbrev cX9_in : ByteArray := prog_11_method_3_code
def yX9_in : MethodName := ⟨RX9, "in", "(JJJ)Z"⟩
abbrev cX9_no : ByteArray := prog_11_method_4_code
def yX9_no : MethodName := ⟨RX9, "no", "(I)J"⟩
abbrev cX9_next : ByteArray := prog_11_method_5_code
def yX9_next : MethodName := ⟨RX9, "next", "(I)I"⟩
abbrev cX9_cross : ByteArray := prog_11_method_6_code
def yX9_cross : MethodName := ⟨RX9, "cross", "(I)I"⟩
abbrev cX9_area : ByteArray := prog_11_method_7_code
def yX9_area : MethodName := ⟨RX9, "area", "()I"⟩
abbrev cX9_middleX : ByteArray := prog_11_method_8_code
def yX9_middleX : MethodName := ⟨RX9, "middleX", "()I"⟩
abbrev cX9_middleY : ByteArray := prog_11_method_9_code
def yX9_middleY : MethodName := ⟨RX9, "middleY", "()I"⟩
abbrev cX9_shape : ByteArray := prog_11_method_10_code
def yX9_shape : MethodName := ⟨RX9, "shape", "(II)I"⟩
abbrev cX9_corner : ByteArray := prog_11_method_11_code
def yX9_corner : MethodName := ⟨RX9, "corner", "(II)I"⟩
abbrev cX9_middle : ByteArray := prog_11_method_12_code
def yX9_middle : MethodName := ⟨RX9, "middle", "(I)I"⟩
abbrev cX9_place : ByteArray := prog_11_method_13_code
def yX9_place : MethodName := ⟨RX9, "place", "(II)I"⟩
abbrev cX9_isPlace : ByteArray := prog_11_method_14_code
def yX9_isPlace : MethodName := ⟨RX9, "isPlace", "(II)Z"⟩
abbrev cX9_isIn : ByteArray := prog_11_method_15_code
def yX9_isIn : MethodName := ⟨RX9, "isIn", "(II)I"⟩
abbrev cX9_isStand : ByteArray := prog_11_method_16_code
def yX9_isStand : MethodName := ⟨RX9, "isStand", "(II)Z"⟩
abbrev cX9_isFinger : ByteArray := prog_11_method_17_code
def yX9_isFinger : MethodName := ⟨RX9, "isFinger", "(I)Z"⟩
abbrev cX9_finger : ByteArray := prog_11_method_18_code
def yX9_finger : MethodName := ⟨RX9, "finger", "(II)I"⟩
abbrev cX9_move : ByteArray := prog_11_method_19_code
def yX9_move : MethodName := ⟨RX9, "move", "(III)I"⟩
abbrev cX9_release : ByteArray := prog_11_method_20_code
def yX9_release : MethodName := ⟨RX9, "release", "()I"⟩
abbrev cX9_friction : ByteArray := prog_11_method_21_code
def yX9_friction : MethodName := ⟨RX9, "friction", "(I)I"⟩
abbrev cX9_lay : ByteArray := prog_11_method_22_code
def yX9_lay : MethodName := ⟨RX9, "lay", "(IIII)V"⟩
abbrev cX9_lays : ByteArray := prog_11_method_23_code
def yX9_lays : MethodName := ⟨RX9, "lays", "(II)V"⟩
abbrev cX9_layAll : ByteArray := prog_11_method_24_code
def yX9_layAll : MethodName := ⟨RX9, "layAll", "()V"⟩
abbrev cX9_crosses : ByteArray := prog_11_method_25_code
def yX9_crosses : MethodName := ⟨RX9, "crosses", "(II)Z"⟩
abbrev cX9_isFull : ByteArray := prog_11_method_26_code
def yX9_isFull : MethodName := ⟨RX9, "isFull", "()Z"⟩
abbrev cX9_hold : ByteArray := prog_11_method_27_code
def yX9_hold : MethodName := ⟨RX9, "hold", "()Z"⟩
abbrev cX9_push : ByteArray := prog_11_method_28_code
def yX9_push : MethodName := ⟨RX9, "push", "(II)J"⟩
abbrev cX9_holds : ByteArray := prog_11_method_29_code
def yX9_holds : MethodName := ⟨RX9, "holds", "()I"⟩
abbrev cX9_witness : ByteArray := prog_11_method_30_code
def yX9_witness : MethodName := ⟨RX9, "witness", "(I)J"⟩
abbrev cX9_free : ByteArray := prog_11_method_31_code
def yX9_free : MethodName := ⟨RX9, "free", "(I)I"⟩
abbrev cX9_holdBy : ByteArray := prog_11_method_32_code
def yX9_holdBy : MethodName := ⟨RX9, "holdBy", "(I)Z"⟩
abbrev cX9_slip : ByteArray := prog_11_method_33_code
def yX9_slip : MethodName := ⟨RX9, "slip", "()I"⟩
abbrev cX9_spot : ByteArray := prog_11_method_34_code
def yX9_spot : MethodName := ⟨RX9, "spot", "(III)I"⟩
abbrev cX9_priceOf : ByteArray := prog_11_method_35_code
def yX9_priceOf : MethodName := ⟨RX9, "priceOf", "(I)I"⟩
abbrev cX9_cheapest : ByteArray := prog_11_method_36_code
def yX9_cheapest : MethodName := ⟨RX9, "cheapest", "()I"⟩
abbrev cX9_take : ByteArray := prog_11_method_37_code
def yX9_take : MethodName := ⟨RX9, "take", "()I"⟩
abbrev cX9_farSquare : ByteArray := prog_11_method_38_code
def yX9_farSquare : MethodName := ⟨RX9, "farSquare", "(II)J"⟩
abbrev cX9_lifted : ByteArray := prog_11_method_39_code
def yX9_lifted : MethodName := ⟨RX9, "lifted", "(IIIJ)Z"⟩
abbrev cX9_lifts : ByteArray := prog_11_method_40_code
def yX9_lifts : MethodName := ⟨RX9, "lifts", "(IIII)I"⟩
abbrev cX9_seal : ByteArray := prog_11_method_41_code
def yX9_seal : MethodName := ⟨RX9, "seal", "(III)I"⟩
abbrev cX9_probe : ByteArray := prog_11_method_42_code
def yX9_probe : MethodName := ⟨RX9, "probe", "(II)I"⟩
abbrev cX9_fits : ByteArray := prog_11_method_43_code
def yX9_fits : MethodName := ⟨RX9, "fits", "(II)Z"⟩
abbrev cX9_poses : ByteArray := prog_11_method_44_code
def yX9_poses : MethodName := ⟨RX9, "poses", "()I"⟩
abbrev cX9_pose : ByteArray := prog_11_method_45_code
def yX9_pose : MethodName := ⟨RX9, "pose", "(I)I"⟩
abbrev cX9_grip : ByteArray := prog_11_method_46_code
def yX9_grip : MethodName := ⟨RX9, "grip", "()I"⟩
abbrev cX9_isGrip : ByteArray := prog_11_method_47_code
def yX9_isGrip : MethodName := ⟨RX9, "isGrip", "(I)Z"⟩
abbrev cX9_link : ByteArray := prog_11_method_48_code
def yX9_link : MethodName := ⟨RX9, "link", "(III)I"⟩
abbrev cX9_way : ByteArray := prog_11_method_49_code
def yX9_way : MethodName := ⟨RX9, "way", "(II)I"⟩
abbrev cX9_drop : ByteArray := prog_11_method_50_code
def yX9_drop : MethodName := ⟨RX9, "drop", "()I"⟩
abbrev cX9_isDropped : ByteArray := prog_11_method_51_code
def yX9_isDropped : MethodName := ⟨RX9, "isDropped", "(I)Z"⟩
abbrev cX9_on : ByteArray := prog_11_method_52_code
def yX9_on : MethodName := ⟨RX9, "on", "(II)I"⟩
abbrev cX9_pick : ByteArray := prog_11_method_53_code
def yX9_pick : MethodName := ⟨RX9, "pick", "(I)I"⟩
abbrev cX9_left : ByteArray := prog_11_method_54_code
def yX9_left : MethodName := ⟨RX9, "left", "(I)I"⟩
abbrev cX9_reach : ByteArray := prog_11_method_55_code
def yX9_reach : MethodName := ⟨RX9, "reach", "(I)I"⟩
abbrev cX9_ones : ByteArray := prog_11_method_56_code
def yX9_ones : MethodName := ⟨RX9, "ones", "(I)I"⟩
abbrev cX9_stuck : ByteArray := prog_11_method_57_code
def yX9_stuck : MethodName := ⟨RX9, "stuck", "()I"⟩
abbrev cX9_met : ByteArray := prog_11_method_58_code
def yX9_met : MethodName := ⟨RX9, "met", "(I)I"⟩
abbrev cX9_isSheet : ByteArray := prog_11_method_59_code
def yX9_isSheet : MethodName := ⟨RX9, "isSheet", "(I)Z"⟩
abbrev cX9_sheet : ByteArray := prog_11_method_60_code
def yX9_sheet : MethodName := ⟨RX9, "sheet", "(III)I"⟩
abbrev cX9_lose : ByteArray := prog_11_method_61_code
def yX9_lose : MethodName := ⟨RX9, "lose", "(I)I"⟩
abbrev cX9_lacks : ByteArray := prog_11_method_62_code
def yX9_lacks : MethodName := ⟨RX9, "lacks", "(III)I"⟩
abbrev cX9_put : ByteArray := prog_11_method_63_code
def yX9_put : MethodName := ⟨RX9, "put", "(IIII)I"⟩
abbrev cX9_get : ByteArray := prog_11_method_64_code
def yX9_get : MethodName := ⟨RX9, "get", "(III)I"⟩
abbrev cX9_copy : ByteArray := prog_11_method_65_code
def yX9_copy : MethodName := ⟨RX9, "copy", "(IIIII)I"⟩
abbrev cX9_count : ByteArray := prog_11_method_66_code
def yX9_count : MethodName := ⟨RX9, "count", "(I)I"⟩
abbrev cX9_digest : ByteArray := prog_11_method_67_code
def yX9_digest : MethodName := ⟨RX9, "digest", "()J"⟩
def RJ6 : String := "java/lang/Integer"
def TJ6 : u_T := fun k => match k with
  | _ => ("", "", "", false)
def tyJ6 : Nat → FieldType := fun k => match k with
  | _ => .int
abbrev wsJ60 : List Cond := u_ws RJ6 TJ6 0
theorem nmJ6 : ∀ a, a < 0 → ∀ b, b < 0 → a ≠ b → (TJ6 a).2.1 ≠ (TJ6 b).2.1 := by decide +kernel
theorem tyJ6_ok : ∀ k, k < 0 → parseFieldDescriptor (TJ6 k).2.2.1 = some (tyJ6 k) := by decide +kernel
abbrev cJ6_bitCount_0f7a4 : ByteArray := prog_12_method_49_code
def yJ6_bitCount_0f7a4 : MethodName := ⟨RJ6, "bitCount", "(I)I"⟩
def RJ9 : String := "java/lang/Math"
def TJ9 : u_T := fun k => match k with
  | _ => ("", "", "", false)
def tyJ9 : Nat → FieldType := fun k => match k with
  | _ => .int
abbrev wsJ90 : List Cond := u_ws RJ9 TJ9 0
theorem nmJ9 : ∀ a, a < 0 → ∀ b, b < 0 → a ≠ b → (TJ9 a).2.1 ≠ (TJ9 b).2.1 := by decide +kernel
theorem tyJ9_ok : ∀ k, k < 0 → parseFieldDescriptor (TJ9 k).2.2.1 = some (tyJ9 k) := by decide +kernel
abbrev cJ9_max_7cf53 : ByteArray := prog_13_method_65_code
def yJ9_max_7cf53 : MethodName := ⟨RJ9, "max", "(II)I"⟩
abbrev cJ9_min_7cf53 : ByteArray := prog_13_method_69_code
def yJ9_min_7cf53 : MethodName := ⟨RJ9, "min", "(II)I"⟩
def RL : String := "GripBenchLaw"
abbrev cL_law : ByteArray := code
def yL_law : MethodName := ⟨RL, "law", "([I)Z"⟩
def wsL_law_r1 : List Cond := [Cond.classLink RL 7 RX8, Cond.instantiable RX8 10, Cond.initialized RX8, Cond.classLink RL 10 RX9, Cond.instantiable RX9 36, Cond.initialized RX9, Cond.methodLink RL 9 yX8_init, Cond.instanceMethod yX8_init, Cond.code yX8_init cX8_init 1 none, Cond.methodLink RX8 1 objectInit, Cond.instanceMethod objectInit, Cond.code objectInit ⟨#[0xb1]⟩ 1 none, Cond.classLink RX8 7 RX3, Cond.instantiable RX3 6, Cond.initialized RX3, Cond.fieldLink RX8 10 "GripBench" "polygon" "LGripBench$Polygon;", Cond.classLink RX8 16 RX2, Cond.instantiable RX2 3, Cond.initialized RX2, Cond.fieldLink RX8 19 "GripBench" "hand" "LGripBench$Hand;", Cond.fieldLink RX8 23 "GripBench" "trial" "LGripBench$Hand;", Cond.classLink RX8 26 RX7, Cond.instantiable RX7 7, Cond.initialized RX7]
def wsL_law_r2 : List Cond := [Cond.fieldLink RX8 29 "GripBench" "triples" "LGripBench$Triples;", Cond.classLink RX8 33 RX6, Cond.instantiable RX6 4, Cond.initialized RX6, Cond.fieldLink RX8 36 "GripBench" "spots" "LGripBench$Spots;", Cond.classLink RX8 40 RX4, Cond.instantiable RX4 3, Cond.initialized RX4, Cond.fieldLink RX8 43 "GripBench" "probes" "LGripBench$Probes;", Cond.classLink RX8 47 RX1, Cond.instantiable RX1 3, Cond.initialized RX1, Cond.fieldLink RX8 50 "GripBench" "grips" "LGripBench$Grips;", Cond.classLink RX8 54 RX0, Cond.instantiable RX0 3, Cond.initialized RX0, Cond.fieldLink RX8 57 "GripBench" "bin" "LGripBench$Bin;", Cond.classLink RX8 61 RX5, Cond.instantiable RX5 4, Cond.initialized RX5, Cond.fieldLink RX8 64 "GripBench" "sheets" "LGripBench$Sheets;", Cond.fieldLink RX8 68 "GripBench" "friction" "I", Cond.methodLink RX8 9 yX3_init, Cond.instanceMethod yX3_init]
def wsL_law_r3 : List Cond := [Cond.code yX3_init cX3_init 1 none, Cond.methodLink RX3 3 objectInit, Cond.arrayClass .int, Cond.fieldLink RX3 9 "GripBench$Polygon" "xs" "[I", Cond.fieldLink RX3 15 "GripBench$Polygon" "ys" "[I", Cond.methodLink RX3 18 yX3_setCorner, Cond.instanceMethod yX3_setCorner, Cond.selects RX3 yX3_setCorner yX3_setCorner, Cond.code yX3_setCorner cX3_setCorner 4 none, Cond.static yX8_setItem, Cond.code yX8_setItem cX8_setItem 3 none, Cond.methodLink RX3 22 yX3_close, Cond.instanceMethod yX3_close, Cond.selects RX3 yX3_close yX3_close, Cond.code yX3_close cX3_close 5 none, Cond.fieldLink RX3 30 "GripBench$Polygon" "corners" "I", Cond.fieldLink RX3 34 "GripBench$Polygon" "area" "I", Cond.fieldLink RX3 37 "GripBench$Polygon" "momentX" "I", Cond.fieldLink RX3 40 "GripBench$Polygon" "momentY" "I", Cond.methodLink RX3 43 yX3_next, Cond.instanceMethod yX3_next, Cond.selects RX3 yX3_next yX3_next, Cond.code yX3_next cX3_next 2 (some .int), Cond.methodLink RX3 47 yX3_x]
def wsL_law_r4 : List Cond := [Cond.instanceMethod yX3_x, Cond.selects RX3 yX3_x yX3_x, Cond.code yX3_x cX3_x 2 (some .int), Cond.static yX8_item, Cond.code yX8_item cX8_item 2 (some .int), Cond.methodLink RX3 50 yX3_y, Cond.instanceMethod yX3_y, Cond.selects RX3 yX3_y yX3_y, Cond.code yX3_y cX3_y 2 (some .int), Cond.instanceMethod yX2_init, Cond.code yX2_init cX2_init 1 none, Cond.methodLink RX2 3 objectInit, Cond.fieldLink RX2 9 "GripBench$Hand" "edges" "[I", Cond.fieldLink RX2 15 "GripBench$Hand" "eighths" "[I", Cond.instanceMethod yX7_init, Cond.code yX7_init cX7_init 1 none, Cond.methodLink RX7 3 objectInit, Cond.fieldLink RX7 9 "GripBench$Triples" "forcesX" "[I", Cond.fieldLink RX7 15 "GripBench$Triples" "forcesY" "[I", Cond.fieldLink RX7 18 "GripBench$Triples" "turns" "[I", Cond.instanceMethod yX6_init, Cond.code yX6_init cX6_init 1 none, Cond.methodLink RX6 3 objectInit, Cond.fieldLink RX6 9 "GripBench$Spots" "edges" "[I"]
def wsL_law_r5 : List Cond := [Cond.fieldLink RX6 15 "GripBench$Spots" "eighths" "[I", Cond.fieldLink RX6 18 "GripBench$Spots" "prices" "[I", Cond.instanceMethod yX4_init, Cond.code yX4_init cX4_init 1 none, Cond.methodLink RX4 3 objectInit, Cond.fieldLink RX4 9 "GripBench$Probes" "xs" "[I", Cond.fieldLink RX4 15 "GripBench$Probes" "ys" "[I", Cond.instanceMethod yX1_init, Cond.code yX1_init cX1_init 1 none, Cond.methodLink RX1 3 objectInit, Cond.fieldLink RX1 9 "GripBench$Grips" "costs" "[I", Cond.fieldLink RX1 15 "GripBench$Grips" "ways" "[I", Cond.instanceMethod yX0_init, Cond.code yX0_init cX0_init 1 none, Cond.methodLink RX0 3 objectInit, Cond.fieldLink RX0 9 "GripBench$Bin" "above" "[I", Cond.methodLink RX8 63 yX5_init, Cond.instanceMethod yX5_init, Cond.code yX5_init cX5_init 2 none, Cond.methodLink RX5 3 objectInit, Cond.fieldLink RX5 9 "GripBench$Sheets" "forms" "[I", Cond.fieldLink RX5 15 "GripBench$Sheets" "lengths" "[I", Cond.fieldLink RX5 18 "GripBench$Sheets" "items" "[I", Cond.methodLink RX5 21 yX5_forget]
def wsL_law_r6 : List Cond := [Cond.instanceMethod yX5_forget, Cond.selects RX5 yX5_forget yX5_forget, Cond.code yX5_forget cX5_forget 2 none, Cond.methodLink RL 12 yX9_init, Cond.instanceMethod yX9_init, Cond.code yX9_init cX9_init 2 none, Cond.methodLink RX9 1 objectInit, Cond.fieldLink RX9 7 "GripBenchModel" "cx" "[I", Cond.fieldLink RX9 13 "GripBenchModel" "cy" "[I", Cond.fieldLink RX9 16 "GripBenchModel" "newX" "[I", Cond.fieldLink RX9 19 "GripBenchModel" "newY" "[I", Cond.fieldLink RX9 22 "GripBenchModel" "edge" "[I", Cond.fieldLink RX9 25 "GripBenchModel" "stand" "[I", Cond.arrayClass .long, Cond.fieldLink RX9 28 "GripBenchModel" "one" "[J", Cond.fieldLink RX9 32 "GripBenchModel" "two" "[J", Cond.fieldLink RX9 35 "GripBenchModel" "three" "[J", Cond.fieldLink RX9 38 "GripBenchModel" "spotEdge" "[I", Cond.fieldLink RX9 41 "GripBenchModel" "spotStand" "[I", Cond.fieldLink RX9 44 "GripBenchModel" "spotPrice" "[I", Cond.fieldLink RX9 47 "GripBenchModel" "px" "[I", Cond.fieldLink RX9 50 "GripBenchModel" "py" "[I", Cond.fieldLink RX9 53 "GripBenchModel" "cost" "[I", Cond.fieldLink RX9 56 "GripBenchModel" "far" "[I"]
def wsL_law_r7 : List Cond := [Cond.fieldLink RX9 59 "GripBenchModel" "above12" "[I", Cond.fieldLink RX9 62 "GripBenchModel" "forms" "[I", Cond.fieldLink RX9 65 "GripBenchModel" "sizes" "[I", Cond.fieldLink RX9 68 "GripBenchModel" "items" "[I", Cond.fieldLink RX9 71 "GripBenchModel" "moved" "[I", Cond.fieldLink RX9 74 "GripBenchModel" "corners" "I", Cond.constant RX9 78 (100000000), Cond.methodLink RL 13 yX8_shape, Cond.instanceMethod yX8_shape, Cond.selects RX8 yX8_shape yX8_shape, Cond.code yX8_shape cX8_shape 4 (some .int), Cond.methodLink RX8 72 yX8_isSheet, Cond.static yX8_isSheet, Cond.code yX8_isSheet cX8_isSheet 1 (some .boolean), Cond.methodLink RX8 76 yX5_isLost, Cond.instanceMethod yX5_isLost, Cond.selects RX5 yX5_isLost yX5_isLost, Cond.code yX5_isLost cX5_isLost 2 (some .boolean), Cond.methodLink RX5 33 yX5_form, Cond.instanceMethod yX5_form, Cond.selects RX5 yX5_form yX5_form, Cond.code yX5_form cX5_form 2 (some .int), Cond.methodLink RX8 79 yX5_find, Cond.instanceMethod yX5_find]
def wsL_law_r8 : List Cond := [Cond.selects RX5 yX5_find yX5_find, Cond.code yX5_find cX5_find 2 (some .int), Cond.fieldLink RX5 25 "GripBench$Sheets" "latestFinding" "I", Cond.methodLink RX8 83 yX5_length, Cond.instanceMethod yX5_length, Cond.selects RX5 yX5_length yX5_length, Cond.code yX5_length cX5_length 2 (some .int), Cond.methodLink RX8 86 yX8_isShape, Cond.instanceMethod yX8_isShape, Cond.selects RX8 yX8_isShape yX8_isShape, Cond.code yX8_isShape cX8_isShape 6 (some .boolean), Cond.methodLink RX8 90 yX5_value, Cond.instanceMethod yX5_value, Cond.selects RX5 yX5_value yX5_value, Cond.code yX5_value cX5_value 3 (some .int), Cond.methodLink RX8 110 yX8_isWithin, Cond.static yX8_isWithin, Cond.code yX8_isWithin cX8_isWithin 2 (some .boolean), Cond.methodLink RX8 94 yX3_setCorner, Cond.methodLink RX8 98 yX3_close, Cond.methodLink RX8 102 yX2_clear, Cond.instanceMethod yX2_clear, Cond.selects RX2 yX2_clear yX2_clear, Cond.code yX2_clear cX2_clear 1 none]
def wsL_law_r9 : List Cond := [Cond.fieldLink RX2 18 "GripBench$Hand" "size" "I", Cond.methodLink RX8 105 yX6_clear, Cond.instanceMethod yX6_clear, Cond.selects RX6 yX6_clear yX6_clear, Cond.code yX6_clear cX6_clear 1 none, Cond.fieldLink RX6 21 "GripBench$Spots" "size" "I", Cond.methodLink RX8 106 yX3_area, Cond.instanceMethod yX3_area, Cond.selects RX3 yX3_area yX3_area, Cond.code yX3_area cX3_area 1 (some .int), Cond.methodLink RL 17 yX9_shape, Cond.instanceMethod yX9_shape, Cond.selects RX9 yX9_shape yX9_shape, Cond.code yX9_shape cX9_shape 7 (some .int), Cond.constantLong RX9 92 (3), Cond.constantLong RX9 94 (10), Cond.constantLong RX9 103 (-30), Cond.constantLong RX9 105 (30), Cond.fieldLink RX9 107 "GripBenchModel" "fingers" "I", Cond.fieldLink RX9 110 "GripBenchModel" "spots" "I", Cond.methodLink RX9 88 yX9_isSheet, Cond.static yX9_isSheet, Cond.code yX9_isSheet cX9_isSheet 1 (some .boolean), Cond.methodLink RX9 96 yX9_in]
def wsL_law_r10 : List Cond := [Cond.static yX9_in, Cond.code yX9_in cX9_in 6 (some .boolean), Cond.methodLink RX9 100 yX9_met, Cond.instanceMethod yX9_met, Cond.selects RX9 yX9_met yX9_met, Cond.code yX9_met cX9_met 2 (some .int), Cond.fieldLink RX9 252 "GripBenchModel" "latest" "I", Cond.methodLink RL 18 yX8_corner, Cond.instanceMethod yX8_corner, Cond.selects RX8 yX8_corner yX8_corner, Cond.code yX8_corner cX8_corner 3 (some .int), Cond.methodLink RX8 113 yX3_corners, Cond.instanceMethod yX3_corners, Cond.selects RX3 yX3_corners yX3_corners, Cond.code yX3_corners cX3_corners 1 (some .int), Cond.methodLink RX8 116 yX3_x, Cond.methodLink RX8 119 yX3_y, Cond.methodLink RL 21 yX9_corner, Cond.instanceMethod yX9_corner, Cond.selects RX9 yX9_corner yX9_corner, Cond.code yX9_corner cX9_corner 3 (some .int), Cond.methodLink RL 22 yX8_middle, Cond.instanceMethod yX8_middle, Cond.selects RX8 yX8_middle yX8_middle]
def wsL_law_r11 : List Cond := [Cond.code yX8_middle cX8_middle 2 (some .int), Cond.constant RX8 128 (-1000000), Cond.methodLink RX8 122 yX3_momentX, Cond.instanceMethod yX3_momentX, Cond.selects RX3 yX3_momentX yX3_momentX, Cond.code yX3_momentX cX3_momentX 1 (some .int), Cond.methodLink RX8 125 yX3_momentY, Cond.instanceMethod yX3_momentY, Cond.selects RX3 yX3_momentY yX3_momentY, Cond.code yX3_momentY cX3_momentY 1 (some .int), Cond.methodLink RL 26 yX9_middle, Cond.instanceMethod yX9_middle, Cond.selects RX9 yX9_middle yX9_middle, Cond.code yX9_middle cX9_middle 2 (some .int), Cond.constant RX9 123 (-1000000), Cond.methodLink RX9 113 yX9_area, Cond.instanceMethod yX9_area, Cond.selects RX9 yX9_area yX9_area, Cond.code yX9_area cX9_area 3 (some .int), Cond.methodLink RX9 85 yX9_cross, Cond.instanceMethod yX9_cross, Cond.selects RX9 yX9_cross yX9_cross, Cond.code yX9_cross cX9_cross 2 (some .int), Cond.methodLink RX9 81 yX9_next]
def wsL_law_r12 : List Cond := [Cond.instanceMethod yX9_next, Cond.selects RX9 yX9_next yX9_next, Cond.code yX9_next cX9_next 2 (some .int), Cond.methodLink RX9 117 yX9_middleX, Cond.instanceMethod yX9_middleX, Cond.selects RX9 yX9_middleX yX9_middleX, Cond.code yX9_middleX cX9_middleX 3 (some .int), Cond.methodLink RX9 120 yX9_middleY, Cond.instanceMethod yX9_middleY, Cond.selects RX9 yX9_middleY yX9_middleY, Cond.code yX9_middleY cX9_middleY 3 (some .int), Cond.methodLink RL 27 yX8_isIn, Cond.instanceMethod yX8_isIn, Cond.selects RX8 yX8_isIn yX8_isIn, Cond.code yX8_isIn cX8_isIn 3 (some .int), Cond.methodLink RX8 129 yX8_isPlace, Cond.static yX8_isPlace, Cond.code yX8_isPlace cX8_isPlace 2 (some .boolean), Cond.methodLink RX8 132 yX3_side, Cond.instanceMethod yX3_side, Cond.selects RX3 yX3_side yX3_side, Cond.code yX3_side cX3_side 11 (some .int), Cond.methodLink RL 30 yX9_isIn, Cond.instanceMethod yX9_isIn]
def wsL_law_r13 : List Cond := [Cond.selects RX9 yX9_isIn yX9_isIn, Cond.code yX9_isIn cX9_isIn 3 (some .int), Cond.methodLink RX9 128 yX9_isPlace, Cond.static yX9_isPlace, Cond.code yX9_isPlace cX9_isPlace 2 (some .boolean), Cond.constantLong RX9 124 (-1000), Cond.constantLong RX9 126 (1000), Cond.methodLink RX9 132 yX9_place, Cond.instanceMethod yX9_place, Cond.selects RX9 yX9_place yX9_place, Cond.code yX9_place cX9_place 11 (some .int), Cond.methodLink RL 31 yX8_finger, Cond.instanceMethod yX8_finger, Cond.selects RX8 yX8_finger yX8_finger, Cond.code yX8_finger cX8_finger 3 (some .int), Cond.methodLink RX8 135 yX8_isStand, Cond.instanceMethod yX8_isStand, Cond.selects RX8 yX8_isStand yX8_isStand, Cond.code yX8_isStand cX8_isStand 3 (some .boolean), Cond.methodLink RX8 138 yX2_size, Cond.instanceMethod yX2_size, Cond.selects RX2 yX2_size yX2_size, Cond.code yX2_size cX2_size 1 (some .int), Cond.methodLink RX8 141 yX2_add]
def wsL_law_r14 : List Cond := [Cond.instanceMethod yX2_add, Cond.selects RX2 yX2_add yX2_add, Cond.code yX2_add cX2_add 3 none, Cond.methodLink RX2 26 yX2_stand, Cond.instanceMethod yX2_stand, Cond.selects RX2 yX2_stand yX2_stand, Cond.code yX2_stand cX2_stand 4 none, Cond.methodLink RL 34 yX9_finger, Cond.instanceMethod yX9_finger, Cond.selects RX9 yX9_finger yX9_finger, Cond.code yX9_finger cX9_finger 3 (some .int), Cond.methodLink RX9 138 yX9_isStand, Cond.instanceMethod yX9_isStand, Cond.selects RX9 yX9_isStand yX9_isStand, Cond.code yX9_isStand cX9_isStand 3 (some .boolean), Cond.constantLong RX9 136 (8), Cond.methodLink RL 35 yX8_move, Cond.instanceMethod yX8_move, Cond.selects RX8 yX8_move yX8_move, Cond.code yX8_move cX8_move 4 (some .int), Cond.methodLink RX8 145 yX8_isFinger, Cond.instanceMethod yX8_isFinger, Cond.selects RX8 yX8_isFinger yX8_isFinger, Cond.code yX8_isFinger cX8_isFinger 2 (some .boolean)]
def wsL_law_r15 : List Cond := [Cond.methodLink RX8 148 yX2_stand, Cond.methodLink RL 39 yX9_move, Cond.instanceMethod yX9_move, Cond.selects RX9 yX9_move yX9_move, Cond.code yX9_move cX9_move 4 (some .int), Cond.methodLink RX9 141 yX9_isFinger, Cond.instanceMethod yX9_isFinger, Cond.selects RX9 yX9_isFinger yX9_isFinger, Cond.code yX9_isFinger cX9_isFinger 2 (some .boolean), Cond.methodLink RL 40 yX8_release, Cond.instanceMethod yX8_release, Cond.selects RX8 yX8_release yX8_release, Cond.code yX8_release cX8_release 2 (some .int), Cond.methodLink RL 44 yX9_release, Cond.instanceMethod yX9_release, Cond.selects RX9 yX9_release yX9_release, Cond.code yX9_release cX9_release 2 (some .int), Cond.methodLink RL 45 yX8_friction, Cond.instanceMethod yX8_friction, Cond.selects RX8 yX8_friction yX8_friction, Cond.code yX8_friction cX8_friction 3 (some .int), Cond.methodLink RL 48 yX9_friction, Cond.instanceMethod yX9_friction, Cond.selects RX9 yX9_friction yX9_friction]
def wsL_law_r16 : List Cond := [Cond.code yX9_friction cX9_friction 3 (some .int), Cond.constantLong RX9 144 (16), Cond.fieldLink RX9 146 "GripBenchModel" "friction" "I", Cond.methodLink RL 49 yX8_push, Cond.instanceMethod yX8_push, Cond.selects RX8 yX8_push yX8_push, Cond.code yX8_push cX8_push 3 (some .long), Cond.methodLink RX8 151 yX7_press, Cond.instanceMethod yX7_press, Cond.selects RX7 yX7_press yX7_press, Cond.code yX7_press cX7_press 11 none, Cond.fieldLink RX7 21 "GripBench$Triples" "size" "I", Cond.methodLink RX7 29 yX2_size, Cond.methodLink RX7 34 yX2_edge, Cond.instanceMethod yX2_edge, Cond.selects RX2 yX2_edge yX2_edge, Cond.code yX2_edge cX2_edge 2 (some .int), Cond.methodLink RX7 38 yX2_eighth, Cond.instanceMethod yX2_eighth, Cond.selects RX2 yX2_eighth yX2_eighth, Cond.code yX2_eighth cX2_eighth 2 (some .int), Cond.methodLink RX7 41 yX3_dx, Cond.instanceMethod yX3_dx, Cond.selects RX3 yX3_dx yX3_dx]
def wsL_law_r17 : List Cond := [Cond.code yX3_dx cX3_dx 2 (some .int), Cond.methodLink RX7 46 yX3_dy, Cond.instanceMethod yX3_dy, Cond.selects RX3 yX3_dy yX3_dy, Cond.code yX3_dy cX3_dy 2 (some .int), Cond.methodLink RX7 49 yX3_x, Cond.methodLink RX7 52 yX3_y, Cond.methodLink RX7 55 yX7_add, Cond.instanceMethod yX7_add, Cond.selects RX7 yX7_add yX7_add, Cond.code yX7_add cX7_add 5 none, Cond.methodLink RX8 155 yX7_size, Cond.instanceMethod yX7_size, Cond.selects RX7 yX7_size yX7_size, Cond.code yX7_size cX7_size 1 (some .int), Cond.methodLink RX8 156 yX8_isTriplePart, Cond.static yX8_isTriplePart, Cond.code yX8_isTriplePart cX8_isTriplePart 1 (some .boolean), Cond.methodLink RX8 159 yX8_refusal, Cond.static yX8_refusal, Cond.code yX8_refusal cX8_refusal 1 (some .long), Cond.constantLong RX8 330 (-9223372036854775808), Cond.methodLink RX8 163 yX7_part, Cond.instanceMethod yX7_part]
def wsL_law_r18 : List Cond := [Cond.selects RX7 yX7_part yX7_part, Cond.code yX7_part cX7_part 3 (some .int), Cond.methodLink RL 53 yX9_push, Cond.instanceMethod yX9_push, Cond.selects RX9 yX9_push yX9_push, Cond.code yX9_push cX9_push 3 (some .long), Cond.fieldLink RX9 149 "GripBenchModel" "triples" "I", Cond.constantLong RX9 187 (2), Cond.methodLink RX9 184 yX9_layAll, Cond.instanceMethod yX9_layAll, Cond.selects RX9 yX9_layAll yX9_layAll, Cond.code yX9_layAll cX9_layAll 2 none, Cond.methodLink RX9 156 yX9_lays, Cond.instanceMethod yX9_lays, Cond.selects RX9 yX9_lays yX9_lays, Cond.code yX9_lays cX9_lays 7 none, Cond.methodLink RX9 152 yX9_lay, Cond.instanceMethod yX9_lay, Cond.selects RX9 yX9_lay yX9_lay, Cond.code yX9_lay cX9_lay 5 none, Cond.methodLink RX9 189 yX9_no, Cond.static yX9_no, Cond.code yX9_no cX9_no 1 (some .long), Cond.constantLong RX9 79 (-9223372036854775808)]
def wsL_law_r19 : List Cond := [Cond.methodLink RL 54 yX8_holds, Cond.instanceMethod yX8_holds, Cond.selects RX8 yX8_holds yX8_holds, Cond.code yX8_holds cX8_holds 1 (some .int), Cond.methodLink RX8 166 yX8_isHeldBy, Cond.instanceMethod yX8_isHeldBy, Cond.selects RX8 yX8_isHeldBy yX8_isHeldBy, Cond.code yX8_isHeldBy cX8_isHeldBy 2 (some .boolean), Cond.methodLink RX8 170 yX7_spread, Cond.instanceMethod yX7_spread, Cond.selects RX7 yX7_spread yX7_spread, Cond.code yX7_spread cX7_spread 5 (some .int), Cond.methodLink RX7 63 yX7_cross, Cond.instanceMethod yX7_cross, Cond.selects RX7 yX7_cross yX7_cross, Cond.code yX7_cross cX7_cross 15 (some .boolean), Cond.fieldLink RX7 74 "GripBench$Triples" "crossX" "J", Cond.fieldLink RX7 78 "GripBench$Triples" "crossY" "J", Cond.fieldLink RX7 81 "GripBench$Triples" "crossTurn" "J", Cond.methodLink RX7 67 yX7_signs, Cond.instanceMethod yX7_signs, Cond.selects RX7 yX7_signs yX7_signs, Cond.code yX7_signs cX7_signs 5 (some .int), Cond.methodLink RX7 70 yX7_turnIfBelow]
def wsL_law_r20 : List Cond := [Cond.instanceMethod yX7_turnIfBelow, Cond.selects RX7 yX7_turnIfBelow yX7_turnIfBelow, Cond.code yX7_turnIfBelow cX7_turnIfBelow 2 none, Cond.methodLink RL 57 yX9_holds, Cond.instanceMethod yX9_holds, Cond.selects RX9 yX9_holds yX9_holds, Cond.code yX9_holds cX9_holds 1 (some .int), Cond.methodLink RX9 193 yX9_hold, Cond.instanceMethod yX9_hold, Cond.selects RX9 yX9_hold yX9_hold, Cond.code yX9_hold cX9_hold 3 (some .boolean), Cond.fieldLink RX9 170 "GripBenchModel" "above" "Z", Cond.fieldLink RX9 174 "GripBenchModel" "below" "Z", Cond.methodLink RX9 180 yX9_isFull, Cond.instanceMethod yX9_isFull, Cond.selects RX9 yX9_isFull yX9_isFull, Cond.code yX9_isFull cX9_isFull 4 (some .boolean), Cond.methodLink RX9 177 yX9_crosses, Cond.instanceMethod yX9_crosses, Cond.selects RX9 yX9_crosses yX9_crosses, Cond.code yX9_crosses cX9_crosses 6 (some .boolean), Cond.fieldLink RX9 160 "GripBenchModel" "c1" "J", Cond.fieldLink RX9 164 "GripBenchModel" "c2" "J", Cond.fieldLink RX9 167 "GripBenchModel" "c3" "J"]
def wsL_law_r21 : List Cond := [Cond.methodLink RL 58 yX8_witness, Cond.instanceMethod yX8_witness, Cond.selects RX8 yX8_witness yX8_witness, Cond.code yX8_witness cX8_witness 2 (some .long), Cond.methodLink RX8 173 yX7_normal, Cond.instanceMethod yX7_normal, Cond.selects RX7 yX7_normal yX7_normal, Cond.code yX7_normal cX7_normal 2 (some .long), Cond.methodLink RL 62 yX9_witness, Cond.instanceMethod yX9_witness, Cond.selects RX9 yX9_witness yX9_witness, Cond.code yX9_witness cX9_witness 6 (some .long), Cond.methodLink RL 63 yX8_free, Cond.instanceMethod yX8_free, Cond.selects RX8 yX8_free yX8_free, Cond.code yX8_free cX8_free 4 (some .int), Cond.methodLink RX8 176 yX2_become, Cond.instanceMethod yX2_become, Cond.selects RX2 yX2_become yX2_become, Cond.code yX2_become cX2_become 3 none, Cond.methodLink RX2 34 yX2_clear, Cond.methodLink RX2 37 yX2_size, Cond.methodLink RX2 40 yX2_edge, Cond.methodLink RX2 44 yX2_eighth]
def wsL_law_r22 : List Cond := [Cond.methodLink RX2 47 yX2_add, Cond.methodLink RX8 180 yX2_edge, Cond.methodLink RL 66 yX9_free, Cond.instanceMethod yX9_free, Cond.selects RX9 yX9_free yX9_free, Cond.code yX9_free cX9_free 5 (some .int), Cond.methodLink RL 67 yX8_slip, Cond.instanceMethod yX8_slip, Cond.selects RX8 yX8_slip yX8_slip, Cond.code yX8_slip cX8_slip 2 (some .int), Cond.methodLink RX8 183 yX8_isHeldWithin, Cond.instanceMethod yX8_isHeldWithin, Cond.selects RX8 yX8_isHeldWithin yX8_isHeldWithin, Cond.code yX8_isHeldWithin cX8_isHeldWithin 4 (some .boolean), Cond.methodLink RX8 186 yX8_slide, Cond.instanceMethod yX8_slide, Cond.selects RX8 yX8_slide yX8_slide, Cond.code yX8_slide cX8_slide 7 (some .boolean), Cond.methodLink RX8 192 Lib.Math.max.name, Cond.static Lib.Math.max.name, Cond.initialized "java/lang/Math", Cond.code Lib.Math.max.name Lib.Math.max.code 2 (some .int), Cond.methodLink RX8 197 Lib.Math.min.name, Cond.static Lib.Math.min.name]
def wsL_law_r23 : List Cond := [Cond.code Lib.Math.min.name Lib.Math.min.code 2 (some .int), Cond.methodLink RX8 189 yX2_eighth, Cond.methodLink RL 70 yX9_slip, Cond.instanceMethod yX9_slip, Cond.selects RX9 yX9_slip yX9_slip, Cond.code yX9_slip cX9_slip 3 (some .int), Cond.methodLink RX9 196 yX9_holdBy, Cond.instanceMethod yX9_holdBy, Cond.selects RX9 yX9_holdBy yX9_holdBy, Cond.code yX9_holdBy cX9_holdBy 7 (some .boolean), Cond.methodLink RL 71 yX8_spot, Cond.instanceMethod yX8_spot, Cond.selects RX8 yX8_spot yX8_spot, Cond.code yX8_spot cX8_spot 4 (some .int), Cond.methodLink RX8 200 yX6_size, Cond.instanceMethod yX6_size, Cond.selects RX6 yX6_size yX6_size, Cond.code yX6_size cX6_size 1 (some .int), Cond.methodLink RX8 201 yX6_add, Cond.instanceMethod yX6_add, Cond.selects RX6 yX6_add yX6_add, Cond.code yX6_add cX6_add 4 none, Cond.methodLink RL 74 yX9_spot, Cond.instanceMethod yX9_spot]
def wsL_law_r24 : List Cond := [Cond.selects RX9 yX9_spot yX9_spot, Cond.code yX9_spot cX9_spot 4 (some .int), Cond.methodLink RL 75 yX8_cheapest, Cond.instanceMethod yX8_cheapest, Cond.selects RX8 yX8_cheapest yX8_cheapest, Cond.code yX8_cheapest cX8_cheapest 3 (some .int), Cond.methodLink RX8 203 yX6_isBetter, Cond.instanceMethod yX6_isBetter, Cond.selects RX6 yX6_isBetter yX6_isBetter, Cond.code yX6_isBetter cX6_isBetter 4 (some .boolean), Cond.methodLink RX6 33 yX6_price, Cond.instanceMethod yX6_price, Cond.selects RX6 yX6_price yX6_price, Cond.code yX6_price cX6_price 4 (some .int), Cond.methodLink RX6 37 yJ6_bitCount_0f7a4, Cond.static yJ6_bitCount_0f7a4, Cond.initialized RJ6, Cond.code yJ6_bitCount_0f7a4 cJ6_bitCount_0f7a4 1 (some .int), Cond.constant RJ6 265 (1431655765), Cond.constant RJ6 266 (858993459), Cond.constant RJ6 267 (252645135), Cond.methodLink RX8 206 yX6_layOut, Cond.instanceMethod yX6_layOut, Cond.selects RX6 yX6_layOut yX6_layOut]
def wsL_law_r25 : List Cond := [Cond.code yX6_layOut cX6_layOut 4 none, Cond.methodLink RX6 42 yX2_clear, Cond.methodLink RX6 47 yX2_add, Cond.methodLink RL 78 yX9_cheapest, Cond.instanceMethod yX9_cheapest, Cond.selects RX9 yX9_cheapest yX9_cheapest, Cond.code yX9_cheapest cX9_cheapest 7 (some .int), Cond.methodLink RX9 199 yX9_priceOf, Cond.instanceMethod yX9_priceOf, Cond.selects RX9 yX9_priceOf yX9_priceOf, Cond.code yX9_priceOf cX9_priceOf 4 (some .int), Cond.methodLink RL 79 yX8_take, Cond.instanceMethod yX8_take, Cond.selects RX8 yX8_take yX8_take, Cond.code yX8_take cX8_take 2 (some .int), Cond.methodLink RX8 210 yX8_cheapest, Cond.methodLink RX8 213 yX6_price, Cond.methodLink RL 82 yX9_take, Cond.instanceMethod yX9_take, Cond.selects RX9 yX9_take yX9_take, Cond.code yX9_take cX9_take 3 (some .int), Cond.methodLink RX9 202 yX9_cheapest, Cond.methodLink RL 83 yX8_lifts, Cond.instanceMethod yX8_lifts]
def wsL_law_r26 : List Cond := [Cond.selects RX8 yX8_lifts yX8_lifts, Cond.code yX8_lifts cX8_lifts 5 (some .int), Cond.constant RX8 219 (100000), Cond.methodLink RX8 216 yX8_isWeight, Cond.static yX8_isWeight, Cond.code yX8_isWeight cX8_isWeight 1 (some .boolean), Cond.methodLink RX8 220 yX3_pull, Cond.instanceMethod yX3_pull, Cond.selects RX3 yX3_pull yX3_pull, Cond.code yX3_pull cX3_pull 8 (some .long), Cond.constantLong RX3 57 (3), Cond.constantLong RX3 59 (8), Cond.methodLink RX8 224 yX3_isSealed, Cond.instanceMethod yX3_isSealed, Cond.selects RX3 yX3_isSealed yX3_isSealed, Cond.code yX3_isSealed cX3_isSealed 6 (some .boolean), Cond.constantLong RX3 61 (2000000000), Cond.methodLink RL 87 yX9_lifts, Cond.instanceMethod yX9_lifts, Cond.selects RX9 yX9_lifts yX9_lifts, Cond.code yX9_lifts cX9_lifts 5 (some .int), Cond.constantLong RX9 211 (20), Cond.constantLong RX9 213 (100000), Cond.methodLink RX9 215 yX9_lifted]
def wsL_law_r27 : List Cond := [Cond.instanceMethod yX9_lifted, Cond.selects RX9 yX9_lifted yX9_lifted, Cond.code yX9_lifted cX9_lifted 8 (some .boolean), Cond.constantLong RX9 205 (3000000000), Cond.methodLink RX9 207 yX9_farSquare, Cond.instanceMethod yX9_farSquare, Cond.selects RX9 yX9_farSquare yX9_farSquare, Cond.code yX9_farSquare cX9_farSquare 9 (some .long), Cond.methodLink RL 88 yX8_seal, Cond.instanceMethod yX8_seal, Cond.selects RX8 yX8_seal yX8_seal, Cond.code yX8_seal cX8_seal 4 (some .int), Cond.methodLink RX8 228 yX3_leastSeal, Cond.instanceMethod yX3_leastSeal, Cond.selects RX3 yX3_leastSeal yX3_leastSeal, Cond.code yX3_leastSeal cX3_leastSeal 7 (some .int), Cond.constant RX3 63 (1073741824), Cond.methodLink RX3 64 yX3_isSealed, Cond.methodLink RL 91 yX9_seal, Cond.instanceMethod yX9_seal, Cond.selects RX9 yX9_seal yX9_seal, Cond.code yX9_seal cX9_seal 12 (some .int), Cond.constantLong RX9 219 (2000000000), Cond.methodLink RL 92 yX8_probe]
def wsL_law_r28 : List Cond := [Cond.instanceMethod yX8_probe, Cond.selects RX8 yX8_probe yX8_probe, Cond.code yX8_probe cX8_probe 3 (some .int), Cond.methodLink RX8 232 yX4_size, Cond.instanceMethod yX4_size, Cond.selects RX4 yX4_size yX4_size, Cond.code yX4_size cX4_size 1 (some .int), Cond.fieldLink RX4 18 "GripBench$Probes" "size" "I", Cond.methodLink RX8 233 yX4_add, Cond.instanceMethod yX4_add, Cond.selects RX4 yX4_add yX4_add, Cond.code yX4_add cX4_add 3 none, Cond.methodLink RL 95 yX9_probe, Cond.instanceMethod yX9_probe, Cond.selects RX9 yX9_probe yX9_probe, Cond.code yX9_probe cX9_probe 3 (some .int), Cond.constantLong RX9 221 (-40), Cond.constantLong RX9 223 (40), Cond.fieldLink RX9 225 "GripBenchModel" "probes" "I", Cond.methodLink RL 96 yX8_poses, Cond.instanceMethod yX8_poses, Cond.selects RX8 yX8_poses yX8_poses, Cond.code yX8_poses cX8_poses 4 (some .int), Cond.methodLink RX8 234 yX8_fits]
def wsL_law_r29 : List Cond := [Cond.instanceMethod yX8_fits, Cond.selects RX8 yX8_fits yX8_fits, Cond.code yX8_fits cX8_fits 7 (some .boolean), Cond.methodLink RX8 237 yX5_hasValue, Cond.instanceMethod yX5_hasValue, Cond.selects RX5 yX5_hasValue yX5_hasValue, Cond.code yX5_hasValue cX5_hasValue 4 (some .boolean), Cond.methodLink RX5 41 yX5_length, Cond.methodLink RX5 44 yX5_value, Cond.methodLink RX8 241 yX4_x, Cond.instanceMethod yX4_x, Cond.selects RX4 yX4_x yX4_x, Cond.code yX4_x cX4_x 2 (some .int), Cond.methodLink RX8 242 yX4_y, Cond.instanceMethod yX4_y, Cond.selects RX4 yX4_y yX4_y, Cond.code yX4_y cX4_y 2 (some .int), Cond.methodLink RL 99 yX9_poses, Cond.instanceMethod yX9_poses, Cond.selects RX9 yX9_poses yX9_poses, Cond.code yX9_poses cX9_poses 3 (some .int), Cond.methodLink RX9 228 yX9_fits, Cond.instanceMethod yX9_fits, Cond.selects RX9 yX9_fits yX9_fits]
def wsL_law_r30 : List Cond := [Cond.code yX9_fits cX9_fits 7 (some .boolean), Cond.methodLink RL 100 yX8_pose, Cond.instanceMethod yX8_pose, Cond.selects RX8 yX8_pose yX8_pose, Cond.code yX8_pose cX8_pose 5 (some .int), Cond.methodLink RL 103 yX9_pose, Cond.instanceMethod yX9_pose, Cond.selects RX9 yX9_pose yX9_pose, Cond.code yX9_pose cX9_pose 4 (some .int), Cond.methodLink RL 104 yX8_grip, Cond.instanceMethod yX8_grip, Cond.selects RX8 yX8_grip yX8_grip, Cond.code yX8_grip cX8_grip 1 (some .int), Cond.methodLink RX8 243 yX1_size, Cond.instanceMethod yX1_size, Cond.selects RX1 yX1_size yX1_size, Cond.code yX1_size cX1_size 1 (some .int), Cond.fieldLink RX1 18 "GripBench$Grips" "size" "I", Cond.methodLink RX8 244 yX1_add, Cond.instanceMethod yX1_add, Cond.selects RX1 yX1_add yX1_add, Cond.code yX1_add cX1_add 1 none, Cond.methodLink RL 107 yX9_grip, Cond.instanceMethod yX9_grip]
def wsL_law_r31 : List Cond := [Cond.selects RX9 yX9_grip yX9_grip, Cond.code yX9_grip cX9_grip 1 (some .int), Cond.fieldLink RX9 231 "GripBenchModel" "grips" "I", Cond.methodLink RL 108 yX8_link, Cond.instanceMethod yX8_link, Cond.selects RX8 yX8_link yX8_link, Cond.code yX8_link cX8_link 4 (some .int), Cond.methodLink RX8 246 yX8_isGrip, Cond.instanceMethod yX8_isGrip, Cond.selects RX8 yX8_isGrip yX8_isGrip, Cond.code yX8_isGrip cX8_isGrip 2 (some .boolean), Cond.methodLink RX8 249 yX1_join, Cond.instanceMethod yX1_join, Cond.selects RX1 yX1_join yX1_join, Cond.code yX1_join cX1_join 4 none, Cond.methodLink RL 111 yX9_link, Cond.instanceMethod yX9_link, Cond.selects RX9 yX9_link yX9_link, Cond.code yX9_link cX9_link 4 (some .int), Cond.methodLink RX9 234 yX9_isGrip, Cond.instanceMethod yX9_isGrip, Cond.selects RX9 yX9_isGrip yX9_isGrip, Cond.code yX9_isGrip cX9_isGrip 2 (some .boolean), Cond.methodLink RL 112 yX8_way]
def wsL_law_r32 : List Cond := [Cond.instanceMethod yX8_way, Cond.selects RX8 yX8_way yX8_way, Cond.code yX8_way cX8_way 3 (some .int), Cond.methodLink RX8 252 yX1_leastCost, Cond.instanceMethod yX1_leastCost, Cond.selects RX1 yX1_leastCost yX1_leastCost, Cond.code yX1_leastCost cX1_leastCost 4 (some .int), Cond.constant RX1 26 (1048576), Cond.methodLink RX1 27 yX1_goOneMoveFarther, Cond.instanceMethod yX1_goOneMoveFarther, Cond.selects RX1 yX1_goOneMoveFarther yX1_goOneMoveFarther, Cond.code yX1_goOneMoveFarther cX1_goOneMoveFarther 5 none, Cond.methodLink RL 115 yX9_way, Cond.instanceMethod yX9_way, Cond.selects RX9 yX9_way yX9_way, Cond.code yX9_way cX9_way 6 (some .int), Cond.methodLink RL 116 yX8_drop, Cond.instanceMethod yX8_drop, Cond.selects RX8 yX8_drop yX8_drop, Cond.code yX8_drop cX8_drop 1 (some .int), Cond.methodLink RX8 255 yX0_dropped, Cond.instanceMethod yX0_dropped, Cond.selects RX0 yX0_dropped yX0_dropped, Cond.code yX0_dropped cX0_dropped 1 (some .int)]
def wsL_law_r33 : List Cond := [Cond.fieldLink RX0 15 "GripBench$Bin" "dropped" "I", Cond.methodLink RX8 258 yX0_add, Cond.instanceMethod yX0_add, Cond.selects RX0 yX0_add yX0_add, Cond.code yX0_add cX0_add 1 none, Cond.fieldLink RX0 19 "GripBench$Bin" "inside" "I", Cond.methodLink RL 119 yX9_drop, Cond.instanceMethod yX9_drop, Cond.selects RX9 yX9_drop yX9_drop, Cond.code yX9_drop cX9_drop 1 (some .int), Cond.fieldLink RX9 237 "GripBenchModel" "dropped" "I", Cond.fieldLink RX9 240 "GripBenchModel" "bin" "I", Cond.methodLink RL 120 yX8_on, Cond.instanceMethod yX8_on, Cond.selects RX8 yX8_on yX8_on, Cond.code yX8_on cX8_on 3 (some .int), Cond.methodLink RX8 259 yX8_isDropped, Cond.instanceMethod yX8_isDropped, Cond.selects RX8 yX8_isDropped yX8_isDropped, Cond.code yX8_isDropped cX8_isDropped 2 (some .boolean), Cond.methodLink RX8 262 yX0_lay, Cond.instanceMethod yX0_lay, Cond.selects RX0 yX0_lay yX0_lay, Cond.code yX0_lay cX0_lay 3 none]
def wsL_law_r34 : List Cond := [Cond.methodLink RL 123 yX9_on, Cond.instanceMethod yX9_on, Cond.selects RX9 yX9_on yX9_on, Cond.code yX9_on cX9_on 3 (some .int), Cond.methodLink RX9 243 yX9_isDropped, Cond.instanceMethod yX9_isDropped, Cond.selects RX9 yX9_isDropped yX9_isDropped, Cond.code yX9_isDropped cX9_isDropped 2 (some .boolean), Cond.methodLink RL 124 yX8_pick, Cond.instanceMethod yX8_pick, Cond.selects RX8 yX8_pick yX8_pick, Cond.code yX8_pick cX8_pick 2 (some .int), Cond.methodLink RX8 265 yX0_isInside, Cond.instanceMethod yX0_isInside, Cond.selects RX0 yX0_isInside yX0_isInside, Cond.code yX0_isInside cX0_isInside 2 (some .boolean), Cond.methodLink RX8 268 yX0_isCovered, Cond.instanceMethod yX0_isCovered, Cond.selects RX0 yX0_isCovered yX0_isCovered, Cond.code yX0_isCovered cX0_isCovered 2 (some .boolean), Cond.methodLink RX8 271 yX0_remove, Cond.instanceMethod yX0_remove, Cond.selects RX0 yX0_remove yX0_remove, Cond.code yX0_remove cX0_remove 2 none]
def wsL_law_r35 : List Cond := [Cond.methodLink RL 127 yX9_pick, Cond.instanceMethod yX9_pick, Cond.selects RX9 yX9_pick yX9_pick, Cond.code yX9_pick cX9_pick 2 (some .int), Cond.methodLink RL 128 yX8_reach, Cond.instanceMethod yX8_reach, Cond.selects RX8 yX8_reach yX8_reach, Cond.code yX8_reach cX8_reach 2 (some .int), Cond.methodLink RX8 274 yX0_stuckBits, Cond.instanceMethod yX0_stuckBits, Cond.selects RX0 yX0_stuckBits yX0_stuckBits, Cond.code yX0_stuckBits cX0_stuckBits 4 (some .int), Cond.methodLink RX8 277 yX0_withAllAbove, Cond.instanceMethod yX0_withAllAbove, Cond.selects RX0 yX0_withAllAbove yX0_withAllAbove, Cond.code yX0_withAllAbove cX0_withAllAbove 5 (some .int), Cond.methodLink RX8 280 yJ6_bitCount_0f7a4, Cond.methodLink RL 131 yX9_reach, Cond.instanceMethod yX9_reach, Cond.selects RX9 yX9_reach yX9_reach, Cond.code yX9_reach cX9_reach 5 (some .int), Cond.methodLink RX9 246 yX9_left, Cond.instanceMethod yX9_left, Cond.selects RX9 yX9_left yX9_left]
def wsL_law_r36 : List Cond := [Cond.code yX9_left cX9_left 5 (some .int), Cond.methodLink RX9 249 yX9_ones, Cond.static yX9_ones, Cond.code yX9_ones cX9_ones 3 (some .int), Cond.methodLink RL 132 yX8_stuck, Cond.instanceMethod yX8_stuck, Cond.selects RX8 yX8_stuck yX8_stuck, Cond.code yX8_stuck cX8_stuck 1 (some .int), Cond.methodLink RL 135 yX9_stuck, Cond.instanceMethod yX9_stuck, Cond.selects RX9 yX9_stuck yX9_stuck, Cond.code yX9_stuck cX9_stuck 1 (some .int), Cond.methodLink RL 136 yX8_sheet, Cond.instanceMethod yX8_sheet, Cond.selects RX8 yX8_sheet yX8_sheet, Cond.code yX8_sheet cX8_sheet 4 (some .int), Cond.methodLink RX8 285 yX8_isForm, Cond.static yX8_isForm, Cond.code yX8_isForm cX8_isForm 1 (some .boolean), Cond.methodLink RX8 288 yX5_renew, Cond.instanceMethod yX5_renew, Cond.selects RX5 yX5_renew yX5_renew, Cond.code yX5_renew cX5_renew 5 none, Cond.methodLink RL 139 yX9_sheet]
def wsL_law_r37 : List Cond := [Cond.instanceMethod yX9_sheet, Cond.selects RX9 yX9_sheet yX9_sheet, Cond.code yX9_sheet cX9_sheet 5 (some .int), Cond.methodLink RL 140 yX8_lose, Cond.instanceMethod yX8_lose, Cond.selects RX8 yX8_lose yX8_lose, Cond.code yX8_lose cX8_lose 3 (some .int), Cond.methodLink RX8 291 yX5_forget, Cond.methodLink RL 143 yX9_lose, Cond.instanceMethod yX9_lose, Cond.selects RX9 yX9_lose yX9_lose, Cond.code yX9_lose cX9_lose 2 (some .int), Cond.methodLink RL 144 yX8_put, Cond.instanceMethod yX8_put, Cond.selects RX8 yX8_put yX8_put, Cond.code yX8_put cX8_put 6 (some .int), Cond.methodLink RX8 294 yX5_faultAt, Cond.instanceMethod yX5_faultAt, Cond.selects RX5 yX5_faultAt yX5_faultAt, Cond.code yX5_faultAt cX5_faultAt 4 (some .int), Cond.methodLink RX5 48 yX5_isLost, Cond.methodLink RX8 298 yX5_write, Cond.instanceMethod yX5_write, Cond.selects RX5 yX5_write yX5_write]
def wsL_law_r38 : List Cond := [Cond.code yX5_write cX5_write 5 none, Cond.methodLink RL 147 yX9_put, Cond.instanceMethod yX9_put, Cond.selects RX9 yX9_put yX9_put, Cond.code yX9_put cX9_put 6 (some .int), Cond.methodLink RX9 255 yX9_lacks, Cond.instanceMethod yX9_lacks, Cond.selects RX9 yX9_lacks yX9_lacks, Cond.code yX9_lacks cX9_lacks 4 (some .int), Cond.methodLink RL 148 yX8_get, Cond.instanceMethod yX8_get, Cond.selects RX8 yX8_get yX8_get, Cond.code yX8_get cX8_get 5 (some .int), Cond.constant RX8 301 (-2147483648), Cond.methodLink RL 151 yX9_get, Cond.instanceMethod yX9_get, Cond.selects RX9 yX9_get yX9_get, Cond.code yX9_get cX9_get 4 (some .int), Cond.constant RX9 259 (-2147483648), Cond.methodLink RL 152 yX8_copy, Cond.instanceMethod yX8_copy, Cond.selects RX8 yX8_copy yX8_copy, Cond.code yX8_copy cX8_copy 8 (some .int), Cond.methodLink RX8 302 yX5_form]
def wsL_law_r39 : List Cond := [Cond.methodLink RX8 305 yX5_hasRun, Cond.instanceMethod yX5_hasRun, Cond.selects RX5 yX5_hasRun yX5_hasRun, Cond.code yX5_hasRun cX5_hasRun 4 (some .boolean), Cond.methodLink RL 156 yX9_copy, Cond.instanceMethod yX9_copy, Cond.selects RX9 yX9_copy yX9_copy, Cond.code yX9_copy cX9_copy 7 (some .int), Cond.methodLink RL 157 yX8_count, Cond.instanceMethod yX8_count, Cond.selects RX8 yX8_count yX8_count, Cond.code yX8_count cX8_count 2 (some .int), Cond.methodLink RX8 308 yX5_latestFinding, Cond.instanceMethod yX5_latestFinding, Cond.selects RX5 yX5_latestFinding yX5_latestFinding, Cond.code yX5_latestFinding cX5_latestFinding 1 (some .int), Cond.methodLink RX8 311 yX0_size, Cond.instanceMethod yX0_size, Cond.selects RX0 yX0_size yX0_size, Cond.code yX0_size cX0_size 1 (some .int), Cond.methodLink RX0 22 yJ6_bitCount_0f7a4, Cond.methodLink RL 160 yX9_count, Cond.instanceMethod yX9_count, Cond.selects RX9 yX9_count yX9_count]
def wsL_law_r40 : List Cond := [Cond.code yX9_count cX9_count 2 (some .int), Cond.methodLink RL 161 yX8_digest, Cond.instanceMethod yX8_digest, Cond.selects RX8 yX8_digest yX8_digest, Cond.code yX8_digest cX8_digest 5 (some .long), Cond.constantLong RX8 312 (17), Cond.constantLong RX8 314 (31), Cond.methodLink RX8 316 yX8_count, Cond.methodLink RX8 319 yX8_holds, Cond.methodLink RX8 322 yX8_poses, Cond.methodLink RX8 325 yX8_stuck, Cond.methodLink RL 165 yX9_digest, Cond.instanceMethod yX9_digest, Cond.selects RX9 yX9_digest yX9_digest, Cond.code yX9_digest cX9_digest 4 (some .long), Cond.constantLong RX9 260 (17), Cond.constantLong RX9 262 (31), Cond.methodLink RX9 264 yX9_count, Cond.methodLink RX9 267 yX9_poses, Cond.methodLink RX9 270 yX9_stuck]
def wsL_law : List Cond := (wsL_law_r1 ++ (wsL_law_r2 ++ (wsL_law_r3 ++ (wsL_law_r4 ++ (wsL_law_r5 ++ (wsL_law_r6 ++ (wsL_law_r7 ++ (wsL_law_r8 ++ (wsL_law_r9 ++ (wsL_law_r10 ++ (wsL_law_r11 ++ (wsL_law_r12 ++ (wsL_law_r13 ++ (wsL_law_r14 ++ (wsL_law_r15 ++ (wsL_law_r16 ++ (wsL_law_r17 ++ (wsL_law_r18 ++ (wsL_law_r19 ++ (wsL_law_r20 ++ (wsL_law_r21 ++ (wsL_law_r22 ++ (wsL_law_r23 ++ (wsL_law_r24 ++ (wsL_law_r25 ++ (wsL_law_r26 ++ (wsL_law_r27 ++ (wsL_law_r28 ++ (wsL_law_r29 ++ (wsL_law_r30 ++ (wsL_law_r31 ++ (wsL_law_r32 ++ (wsL_law_r33 ++ (wsL_law_r34 ++ (wsL_law_r35 ++ (wsL_law_r36 ++ (wsL_law_r37 ++ (wsL_law_r38 ++ (wsL_law_r39 ++ wsL_law_r40))))))))))))))))))))))))))))))))))))))) ++ wsX80 ++ wsX90 ++ wsX30 ++ wsX20 ++ wsX70 ++ wsX60 ++ wsX40 ++ wsX10 ++ wsX00 ++ wsX50 ++ ([] : List Cond)
set_option maxRecDepth 20000 in
theorem wsL_law_r1_in : GoodIn lw_tbl wsL_law_r1 := goodIn_p wsL_law_r1 [55, 58] (by decide +kernel) (by decide +kernel)
set_option maxRecDepth 20000 in
theorem wsL_law_r2_in : GoodIn lw_tbl wsL_law_r2 := goodIn_p wsL_law_r2 [] (by decide +kernel) (by decide +kernel)
set_option maxRecDepth 20000 in
theorem wsL_law_r3_in : GoodIn lw_tbl wsL_law_r3 := goodIn_p wsL_law_r3 [63, 68, 71, 75, 79] (by decide +kernel) (by decide +kernel)
set_option maxRecDepth 20000 in
theorem wsL_law_r4_in : GoodIn lw_tbl wsL_law_r4 := goodIn_p wsL_law_r4 [83, 86, 90, 115, 131, 159] (by decide +kernel) (by decide +kernel)
set_option maxRecDepth 20000 in
theorem wsL_law_r5_in : GoodIn lw_tbl wsL_law_r5 := goodIn_p wsL_law_r5 [178, 194, 210, 226] (by decide +kernel) (by decide +kernel)
set_option maxRecDepth 20000 in
theorem wsL_law_r6_in : GoodIn lw_tbl wsL_law_r6 := goodIn_p wsL_law_r6 [231, 793] (by decide +kernel) (by decide +kernel)
set_option maxRecDepth 20000 in
theorem wsL_law_r7_in : GoodIn lw_tbl wsL_law_r7 := goodIn_p wsL_law_r7 [280, 283, 287, 291] (by decide +kernel) (by decide +kernel)
set_option maxRecDepth 20000 in
theorem wsL_law_r8_in : GoodIn lw_tbl wsL_law_r8 := goodIn_p wsL_law_r8 [296, 300, 304, 308, 311, 317] (by decide +kernel) (by decide +kernel)
set_option maxRecDepth 20000 in
theorem wsL_law_r9_in : GoodIn lw_tbl wsL_law_r9 := goodIn_p wsL_law_r9 [321, 325, 909, 912] (by decide +kernel) (by decide +kernel)
set_option maxRecDepth 20000 in
theorem wsL_law_r10_in : GoodIn lw_tbl wsL_law_r10 := goodIn_p wsL_law_r10 [916, 921, 329, 333, 927] (by decide +kernel) (by decide +kernel)
set_option maxRecDepth 20000 in
theorem wsL_law_r11_in : GoodIn lw_tbl wsL_law_r11 := goodIn_p wsL_law_r11 [339, 343, 347, 931, 935, 939] (by decide +kernel) (by decide +kernel)
set_option maxRecDepth 20000 in
theorem wsL_law_r12_in : GoodIn lw_tbl wsL_law_r12 := goodIn_p wsL_law_r12 [943, 947, 951, 352, 355, 359] (by decide +kernel) (by decide +kernel)
set_option maxRecDepth 20000 in
theorem wsL_law_r13_in : GoodIn lw_tbl wsL_law_r13 := goodIn_p wsL_law_r13 [956, 959, 965, 363, 367, 371] (by decide +kernel) (by decide +kernel)
set_option maxRecDepth 20000 in
theorem wsL_law_r14_in : GoodIn lw_tbl wsL_law_r14 := goodIn_p wsL_law_r14 [375, 379, 969, 973, 384, 388] (by decide +kernel) (by decide +kernel)
set_option maxRecDepth 20000 in
theorem wsL_law_r15_in : GoodIn lw_tbl wsL_law_r15 := goodIn_p wsL_law_r15 [978, 982, 393, 986, 397] (by decide +kernel) (by decide +kernel)
set_option maxRecDepth 20000 in
theorem wsL_law_r16_in : GoodIn lw_tbl wsL_law_r16 := goodIn_p wsL_law_r16 [990, 401, 405, 410, 415] (by decide +kernel) (by decide +kernel)
set_option maxRecDepth 20000 in
theorem wsL_law_r17_in : GoodIn lw_tbl wsL_law_r17 := goodIn_p wsL_law_r17 [419, 423, 429, 434, 437, 440] (by decide +kernel) (by decide +kernel)
set_option maxRecDepth 20000 in
theorem wsL_law_r18_in : GoodIn lw_tbl wsL_law_r18 := goodIn_p wsL_law_r18 [445, 995, 999, 1003, 1007, 1011] (by decide +kernel) (by decide +kernel)
set_option maxRecDepth 20000 in
theorem wsL_law_r19_in : GoodIn lw_tbl wsL_law_r19 := goodIn_p wsL_law_r19 [450, 454, 458, 462, 466] (by decide +kernel) (by decide +kernel)
set_option maxRecDepth 20000 in
theorem wsL_law_r20_in : GoodIn lw_tbl wsL_law_r20 := goodIn_p wsL_law_r20 [470, 1016, 1020, 1024, 1028] (by decide +kernel) (by decide +kernel)
set_option maxRecDepth 20000 in
theorem wsL_law_r21_in : GoodIn lw_tbl wsL_law_r21 := goodIn_p wsL_law_r21 [474, 478, 1032, 482, 486] (by decide +kernel) (by decide +kernel)
set_option maxRecDepth 20000 in
theorem wsL_law_r22_in : GoodIn lw_tbl wsL_law_r22 := goodIn_p wsL_law_r22 [1036, 496, 500, 504, 508] (by decide +kernel) (by decide +kernel)
set_option maxRecDepth 20000 in
theorem wsL_law_r23_in : GoodIn lw_tbl wsL_law_r23 := goodIn_p wsL_law_r23 [511, 1040, 1044, 515, 519, 523] (by decide +kernel) (by decide +kernel)
set_option maxRecDepth 20000 in
theorem wsL_law_r24_in : GoodIn lw_tbl wsL_law_r24 := goodIn_p wsL_law_r24 [1048, 528, 532, 536, 540] (by decide +kernel) (by decide +kernel)
set_option maxRecDepth 20000 in
theorem wsL_law_r25_in : GoodIn lw_tbl wsL_law_r25 := goodIn_p wsL_law_r25 [547, 1052, 1056, 553, 1060] (by decide +kernel) (by decide +kernel)
set_option maxRecDepth 20000 in
theorem wsL_law_r26_in : GoodIn lw_tbl wsL_law_r26 := goodIn_p wsL_law_r26 [559, 562, 567, 573, 1065] (by decide +kernel) (by decide +kernel)
set_option maxRecDepth 20000 in
theorem wsL_law_r27_in : GoodIn lw_tbl wsL_law_r27 := goodIn_p wsL_law_r27 [1071, 1076, 578, 582, 1080] (by decide +kernel) (by decide +kernel)
set_option maxRecDepth 20000 in
theorem wsL_law_r28_in : GoodIn lw_tbl wsL_law_r28 := goodIn_p wsL_law_r28 [588, 592, 596, 1085, 601] (by decide +kernel) (by decide +kernel)
set_option maxRecDepth 20000 in
theorem wsL_law_r29_in : GoodIn lw_tbl wsL_law_r29 := goodIn_p wsL_law_r29 [605, 609, 615, 620, 1091] (by decide +kernel) (by decide +kernel)
set_option maxRecDepth 20000 in
theorem wsL_law_r30_in : GoodIn lw_tbl wsL_law_r30 := goodIn_p wsL_law_r30 [1095, 624, 1099, 628, 632, 636] (by decide +kernel) (by decide +kernel)
set_option maxRecDepth 20000 in
theorem wsL_law_r31_in : GoodIn lw_tbl wsL_law_r31 := goodIn_p wsL_law_r31 [1103, 640, 644, 648, 1107, 1111] (by decide +kernel) (by decide +kernel)
set_option maxRecDepth 20000 in
theorem wsL_law_r32_in : GoodIn lw_tbl wsL_law_r32 := goodIn_p wsL_law_r32 [653, 657, 662, 1115, 667, 671] (by decide +kernel) (by decide +kernel)
set_option maxRecDepth 20000 in
theorem wsL_law_r33_in : GoodIn lw_tbl wsL_law_r33 := goodIn_p wsL_law_r33 [675, 1119, 679, 683, 687] (by decide +kernel) (by decide +kernel)
set_option maxRecDepth 20000 in
theorem wsL_law_r34_in : GoodIn lw_tbl wsL_law_r34 := goodIn_p wsL_law_r34 [1123, 1127, 693, 697, 701, 705] (by decide +kernel) (by decide +kernel)
set_option maxRecDepth 20000 in
theorem wsL_law_r35_in : GoodIn lw_tbl wsL_law_r35 := goodIn_p wsL_law_r35 [1131, 709, 713, 717, 1135] (by decide +kernel) (by decide +kernel)
set_option maxRecDepth 20000 in
theorem wsL_law_r36_in : GoodIn lw_tbl wsL_law_r36 := goodIn_p wsL_law_r36 [1139, 1142, 722, 1146, 726, 729, 733] (by decide +kernel) (by decide +kernel)
set_option maxRecDepth 20000 in
theorem wsL_law_r37_in : GoodIn lw_tbl wsL_law_r37 := goodIn_p wsL_law_r37 [1150, 737, 1154, 742, 746] (by decide +kernel) (by decide +kernel)
set_option maxRecDepth 20000 in
theorem wsL_law_r38_in : GoodIn lw_tbl wsL_law_r38 := goodIn_p wsL_law_r38 [751, 1158, 1162, 755, 1166, 760] (by decide +kernel) (by decide +kernel)
set_option maxRecDepth 20000 in
theorem wsL_law_r39_in : GoodIn lw_tbl wsL_law_r39 := goodIn_p wsL_law_r39 [765, 1171, 769, 773, 777] (by decide +kernel) (by decide +kernel)
set_option maxRecDepth 20000 in
theorem wsL_law_r40_in : GoodIn lw_tbl wsL_law_r40 := goodIn_p wsL_law_r40 [1175, 782, 1179] (by decide +kernel) (by decide +kernel)
set_option maxRecDepth 20000 in
theorem wf0_in : GoodIn lw_tbl wsX00 := goodIn_p wsX00 [] (by decide +kernel) (by decide +kernel)
set_option maxRecDepth 20000 in
theorem wf1_in : GoodIn lw_tbl wsX10 := goodIn_p wsX10 [] (by decide +kernel) (by decide +kernel)
set_option maxRecDepth 20000 in
theorem wf2_in : GoodIn lw_tbl wsX20 := goodIn_p wsX20 [] (by decide +kernel) (by decide +kernel)
set_option maxRecDepth 20000 in
theorem wf3_in : GoodIn lw_tbl wsX30 := goodIn_p wsX30 [] (by decide +kernel) (by decide +kernel)
set_option maxRecDepth 20000 in
theorem wf4_in : GoodIn lw_tbl wsX40 := goodIn_p wsX40 [] (by decide +kernel) (by decide +kernel)
set_option maxRecDepth 20000 in
theorem wf5_in : GoodIn lw_tbl wsX50 := goodIn_p wsX50 [] (by decide +kernel) (by decide +kernel)
set_option maxRecDepth 20000 in
theorem wf6_in : GoodIn lw_tbl wsX60 := goodIn_p wsX60 [] (by decide +kernel) (by decide +kernel)
set_option maxRecDepth 20000 in
theorem wf7_in : GoodIn lw_tbl wsX70 := goodIn_p wsX70 [] (by decide +kernel) (by decide +kernel)
set_option maxRecDepth 20000 in
theorem wf8_in : GoodIn lw_tbl wsX80 := goodIn_p wsX80 [] (by decide +kernel) (by decide +kernel)
set_option maxRecDepth 20000 in
theorem wf9_in : GoodIn lw_tbl wsX90 := goodIn_p wsX90 [] (by decide +kernel) (by decide +kernel)
theorem wsL_law_good : GoodIn lw_tbl wsL_law := goodIn_app (goodIn_app (goodIn_app (goodIn_app (goodIn_app (goodIn_app (goodIn_app (goodIn_app (goodIn_app (goodIn_app (goodIn_app (goodIn_app wsL_law_r1_in (goodIn_app wsL_law_r2_in (goodIn_app wsL_law_r3_in (goodIn_app wsL_law_r4_in (goodIn_app wsL_law_r5_in (goodIn_app wsL_law_r6_in (goodIn_app wsL_law_r7_in (goodIn_app wsL_law_r8_in (goodIn_app wsL_law_r9_in (goodIn_app wsL_law_r10_in (goodIn_app wsL_law_r11_in (goodIn_app wsL_law_r12_in (goodIn_app wsL_law_r13_in (goodIn_app wsL_law_r14_in (goodIn_app wsL_law_r15_in (goodIn_app wsL_law_r16_in (goodIn_app wsL_law_r17_in (goodIn_app wsL_law_r18_in (goodIn_app wsL_law_r19_in (goodIn_app wsL_law_r20_in (goodIn_app wsL_law_r21_in (goodIn_app wsL_law_r22_in (goodIn_app wsL_law_r23_in (goodIn_app wsL_law_r24_in (goodIn_app wsL_law_r25_in (goodIn_app wsL_law_r26_in (goodIn_app wsL_law_r27_in (goodIn_app wsL_law_r28_in (goodIn_app wsL_law_r29_in (goodIn_app wsL_law_r30_in (goodIn_app wsL_law_r31_in (goodIn_app wsL_law_r32_in (goodIn_app wsL_law_r33_in (goodIn_app wsL_law_r34_in (goodIn_app wsL_law_r35_in (goodIn_app wsL_law_r36_in (goodIn_app wsL_law_r37_in (goodIn_app wsL_law_r38_in (goodIn_app wsL_law_r39_in wsL_law_r40_in))))))))))))))))))))))))))))))))))))))) wf8_in) wf9_in) wf3_in) wf2_in) wf7_in) wf6_in) wf4_in) wf1_in) wf0_in) wf5_in) (fun w h => absurd h List.not_mem_nil)
theorem wsL_law_in : ∀ w ∈ wsL_law, w ∈ lw_tbl := fun w h => (wsL_law_good w h).1
theorem inlX0 : ∀ w ∈ wsX00, w ∈ wsL_law := fun _ h => List.mem_append_left _ (List.mem_append_left _ (List.mem_append_right _ h))
theorem inX0 : ∀ w ∈ wsX00, w ∈ lw_tbl := fun w h => wsL_law_in w (inlX0 w h)
theorem inlX1 : ∀ w ∈ wsX10, w ∈ wsL_law := fun _ h => List.mem_append_left _ (List.mem_append_left _ (List.mem_append_left _ (List.mem_append_right _ h)))
theorem inX1 : ∀ w ∈ wsX10, w ∈ lw_tbl := fun w h => wsL_law_in w (inlX1 w h)
theorem inlX2 : ∀ w ∈ wsX20, w ∈ wsL_law := fun _ h => List.mem_append_left _ (List.mem_append_left _ (List.mem_append_left _ (List.mem_append_left _ (List.mem_append_left _ (List.mem_append_left _ (List.mem_append_left _ (List.mem_append_right _ h)))))))
theorem inX2 : ∀ w ∈ wsX20, w ∈ lw_tbl := fun w h => wsL_law_in w (inlX2 w h)
theorem inlX3 : ∀ w ∈ wsX30, w ∈ wsL_law := fun _ h => List.mem_append_left _ (List.mem_append_left _ (List.mem_append_left _ (List.mem_append_left _ (List.mem_append_left _ (List.mem_append_left _ (List.mem_append_left _ (List.mem_append_left _ (List.mem_append_right _ h))))))))
theorem inX3 : ∀ w ∈ wsX30, w ∈ lw_tbl := fun w h => wsL_law_in w (inlX3 w h)
theorem inlX4 : ∀ w ∈ wsX40, w ∈ wsL_law := fun _ h => List.mem_append_left _ (List.mem_append_left _ (List.mem_append_left _ (List.mem_append_left _ (List.mem_append_right _ h))))
theorem inX4 : ∀ w ∈ wsX40, w ∈ lw_tbl := fun w h => wsL_law_in w (inlX4 w h)
theorem inlX5 : ∀ w ∈ wsX50, w ∈ wsL_law := fun _ h => List.mem_append_left _ (List.mem_append_right _ h)
theorem inX5 : ∀ w ∈ wsX50, w ∈ lw_tbl := fun w h => wsL_law_in w (inlX5 w h)
theorem inlX6 : ∀ w ∈ wsX60, w ∈ wsL_law := fun _ h => List.mem_append_left _ (List.mem_append_left _ (List.mem_append_left _ (List.mem_append_left _ (List.mem_append_left _ (List.mem_append_right _ h)))))
theorem inX6 : ∀ w ∈ wsX60, w ∈ lw_tbl := fun w h => wsL_law_in w (inlX6 w h)
theorem inlX7 : ∀ w ∈ wsX70, w ∈ wsL_law := fun _ h => List.mem_append_left _ (List.mem_append_left _ (List.mem_append_left _ (List.mem_append_left _ (List.mem_append_left _ (List.mem_append_left _ (List.mem_append_right _ h))))))
theorem inX7 : ∀ w ∈ wsX70, w ∈ lw_tbl := fun w h => wsL_law_in w (inlX7 w h)
theorem inlX8 : ∀ w ∈ wsX80, w ∈ wsL_law := fun _ h => List.mem_append_left _ (List.mem_append_left _ (List.mem_append_left _ (List.mem_append_left _ (List.mem_append_left _ (List.mem_append_left _ (List.mem_append_left _ (List.mem_append_left _ (List.mem_append_left _ (List.mem_append_left _ (List.mem_append_right _ h))))))))))
theorem inX8 : ∀ w ∈ wsX80, w ∈ lw_tbl := fun w h => wsL_law_in w (inlX8 w h)
theorem inlX9 : ∀ w ∈ wsX90, w ∈ wsL_law := fun _ h => List.mem_append_left _ (List.mem_append_left _ (List.mem_append_left _ (List.mem_append_left _ (List.mem_append_left _ (List.mem_append_left _ (List.mem_append_left _ (List.mem_append_left _ (List.mem_append_left _ (List.mem_append_right _ h)))))))))
theorem inX9 : ∀ w ∈ wsX90, w ∈ lw_tbl := fun w h => wsL_law_in w (inlX9 w h)
theorem inJ6 : ∀ w ∈ wsJ60, w ∈ lw_tbl := by decide +kernel
theorem inJ9 : ∀ w ∈ wsJ90, w ∈ lw_tbl := by decide +kernel
abbrev vwCl : List vw_C := [(RX0, TX0, 3), (RX1, TX1, 3), (RX2, TX2, 3), (RX3, TX3, 6), (RX4, TX4, 3), (RX5, TX5, 4), (RX6, TX6, 4), (RX7, TX7, 7), (RX8, TX8, 10), (RX9, TX9, 36)]
end
section
/-! methods by number: name, code, locals, answer, class, cells that it makes, arguments, kind (0 static, 1 by an object, 2 a constructor) -/
abbrev zM : List (MethodName × ByteArray × Nat × Option FieldType × Nat × Nat × Nat × Nat) := [
  (yX0_init, cX0_init, 1, none, 0, 1, 0, 2),
  (yX0_dropped, cX0_dropped, 1, (some .int), 0, 0, 0, 1),
  (yX0_size, cX0_size, 1, (some .int), 0, 0, 0, 1),
  (yX0_add, cX0_add, 1, none, 0, 0, 0, 1),
  (yX0_lay, cX0_lay, 3, none, 0, 0, 2, 1),
  (yX0_isInside, cX0_isInside, 2, (some .boolean), 0, 0, 1, 1),
  (yX0_isCovered, cX0_isCovered, 2, (some .boolean), 0, 0, 1, 1),
  (yX0_remove, cX0_remove, 2, none, 0, 0, 1, 1),
  (yX0_stuckBits, cX0_stuckBits, 4, (some .int), 0, 0, 0, 1),
  (yX0_withAllAbove, cX0_withAllAbove, 5, (some .int), 0, 0, 1, 1),
  (yX1_init, cX1_init, 1, none, 1, 2, 0, 2),
  (yX1_size, cX1_size, 1, (some .int), 1, 0, 0, 1),
  (yX1_add, cX1_add, 1, none, 1, 0, 0, 1),
  (yX1_join, cX1_join, 4, none, 1, 0, 3, 1),
  (yX1_leastCost, cX1_leastCost, 4, (some .int), 1, 0, 2, 1),
  (yX1_goOneMoveFarther, cX1_goOneMoveFarther, 5, none, 1, 0, 0, 1),
  (yX2_init, cX2_init, 1, none, 2, 2, 0, 2),
  (yX2_size, cX2_size, 1, (some .int), 2, 0, 0, 1),
  (yX2_edge, cX2_edge, 2, (some .int), 2, 0, 1, 1),
  (yX2_eighth, cX2_eighth, 2, (some .int), 2, 0, 1, 1),
  (yX2_clear, cX2_clear, 1, none, 2, 0, 0, 1),
  (yX2_add, cX2_add, 3, none, 2, 0, 2, 1),
  (yX2_stand, cX2_stand, 4, none, 2, 0, 3, 1),
  (yX2_become, cX2_become, 3, none, 2, 0, 1, 1),
  (yX3_init, cX3_init, 1, none, 3, 2, 0, 2),
  (yX3_setCorner, cX3_setCorner, 4, none, 3, 0, 3, 1),
  (yX3_close, cX3_close, 5, none, 3, 0, 1, 1),
  (yX3_corners, cX3_corners, 1, (some .int), 3, 0, 0, 1),
  (yX3_area, cX3_area, 1, (some .int), 3, 0, 0, 1),
  (yX3_momentX, cX3_momentX, 1, (some .int), 3, 0, 0, 1),
  (yX3_momentY, cX3_momentY, 1, (some .int), 3, 0, 0, 1),
  (yX3_x, cX3_x, 2, (some .int), 3, 0, 1, 1),
  (yX3_y, cX3_y, 2, (some .int), 3, 0, 1, 1),
  (yX3_next, cX3_next, 2, (some .int), 3, 0, 1, 1),
  (yX3_dx, cX3_dx, 2, (some .int), 3, 0, 1, 1),
  (yX3_dy, cX3_dy, 2, (some .int), 3, 0, 1, 1),
  (yX3_side, cX3_side, 11, (some .int), 3, 0, 2, 1),
  (yX3_pull, cX3_pull, 8, (some .long), 3, 0, 3, 1),
  (yX3_isSealed, cX3_isSealed, 6, (some .boolean), 3, 0, 2, 1),
  (yX3_leastSeal, cX3_leastSeal, 7, (some .int), 3, 0, 1, 1),
  (yX4_init, cX4_init, 1, none, 4, 2, 0, 2),
  (yX4_size, cX4_size, 1, (some .int), 4, 0, 0, 1),
  (yX4_x, cX4_x, 2, (some .int), 4, 0, 1, 1),
  (yX4_y, cX4_y, 2, (some .int), 4, 0, 1, 1),
  (yX4_add, cX4_add, 3, none, 4, 0, 2, 1),
  (yX5_init, cX5_init, 2, none, 5, 3, 0, 2),
  (yX5_latestFinding, cX5_latestFinding, 1, (some .int), 5, 0, 0, 1),
  (yX5_find, cX5_find, 2, (some .int), 5, 0, 1, 1),
  (yX5_form, cX5_form, 2, (some .int), 5, 0, 1, 1),
  (yX5_length, cX5_length, 2, (some .int), 5, 0, 1, 1),
  (yX5_isLost, cX5_isLost, 2, (some .boolean), 5, 0, 1, 1),
  (yX5_forget, cX5_forget, 2, none, 5, 0, 1, 1),
  (yX5_renew, cX5_renew, 5, none, 5, 0, 3, 1),
  (yX5_value, cX5_value, 3, (some .int), 5, 0, 2, 1),
  (yX5_hasValue, cX5_hasValue, 4, (some .boolean), 5, 0, 3, 1),
  (yX5_write, cX5_write, 5, none, 5, 0, 3, 1),
  (yX5_faultAt, cX5_faultAt, 4, (some .int), 5, 0, 3, 1),
  (yX5_hasRun, cX5_hasRun, 4, (some .boolean), 5, 0, 3, 1),
  (yX6_init, cX6_init, 1, none, 6, 3, 0, 2),
  (yX6_size, cX6_size, 1, (some .int), 6, 0, 0, 1),
  (yX6_clear, cX6_clear, 1, none, 6, 0, 0, 1),
  (yX6_add, cX6_add, 4, none, 6, 0, 3, 1),
  (yX6_price, cX6_price, 4, (some .int), 6, 0, 1, 1),
  (yX6_isBetter, cX6_isBetter, 4, (some .boolean), 6, 0, 2, 1),
  (yX6_layOut, cX6_layOut, 4, none, 6, 0, 2, 1),
  (yX7_init, cX7_init, 1, none, 7, 3, 0, 2),
  (yX7_size, cX7_size, 1, (some .int), 7, 0, 0, 1),
  (yX7_part, cX7_part, 3, (some .int), 7, 0, 2, 1),
  (yX7_press, cX7_press, 11, none, 7, 0, 3, 1),
  (yX7_add, cX7_add, 5, none, 7, 0, 4, 1),
  (yX7_spread, cX7_spread, 5, (some .int), 7, 0, 0, 1),
  (yX7_turnIfBelow, cX7_turnIfBelow, 2, none, 7, 0, 1, 1),
  (yX7_normal, cX7_normal, 2, (some .long), 7, 0, 1, 1),
  (yX7_cross, cX7_cross, 15, (some .boolean), 7, 0, 2, 1),
  (yX7_signs, cX7_signs, 5, (some .int), 7, 0, 0, 1),
  (yX8_init, cX8_init, 1, none, 8, 29, 0, 2),
  (yX8_shape, cX8_shape, 4, (some .int), 8, 0, 2, 1),
  (yX8_isShape, cX8_isShape, 6, (some .boolean), 8, 0, 2, 1),
  (yX8_corner, cX8_corner, 3, (some .int), 8, 0, 2, 1),
  (yX8_middle, cX8_middle, 2, (some .int), 8, 0, 1, 1),
  (yX8_isIn, cX8_isIn, 3, (some .int), 8, 0, 2, 1),
  (yX8_finger, cX8_finger, 3, (some .int), 8, 0, 2, 1),
  (yX8_move, cX8_move, 4, (some .int), 8, 0, 3, 1),
  (yX8_release, cX8_release, 2, (some .int), 8, 0, 0, 1),
  (yX8_friction, cX8_friction, 3, (some .int), 8, 0, 1, 1),
  (yX8_push, cX8_push, 3, (some .long), 8, 0, 2, 1),
  (yX8_holds, cX8_holds, 1, (some .int), 8, 0, 0, 1),
  (yX8_witness, cX8_witness, 2, (some .long), 8, 0, 1, 1),
  (yX8_free, cX8_free, 4, (some .int), 8, 0, 1, 1),
  (yX8_slip, cX8_slip, 2, (some .int), 8, 0, 0, 1),
  (yX8_isHeldWithin, cX8_isHeldWithin, 4, (some .boolean), 8, 0, 1, 1),
  (yX8_slide, cX8_slide, 7, (some .boolean), 8, 0, 2, 1),
  (yX8_isHeldBy, cX8_isHeldBy, 2, (some .boolean), 8, 0, 1, 1),
  (yX8_spot, cX8_spot, 4, (some .int), 8, 0, 3, 1),
  (yX8_cheapest, cX8_cheapest, 3, (some .int), 8, 0, 0, 1),
  (yX8_take, cX8_take, 2, (some .int), 8, 0, 0, 1),
  (yX8_lifts, cX8_lifts, 5, (some .int), 8, 0, 4, 1),
  (yX8_seal, cX8_seal, 4, (some .int), 8, 0, 3, 1),
  (yX8_probe, cX8_probe, 3, (some .int), 8, 0, 2, 1),
  (yX8_poses, cX8_poses, 4, (some .int), 8, 0, 0, 1),
  (yX8_pose, cX8_pose, 5, (some .int), 8, 0, 1, 1),
  (yX8_fits, cX8_fits, 7, (some .boolean), 8, 0, 2, 1),
  (yX8_grip, cX8_grip, 1, (some .int), 8, 0, 0, 1),
  (yX8_link, cX8_link, 4, (some .int), 8, 0, 3, 1),
  (yX8_way, cX8_way, 3, (some .int), 8, 0, 2, 1),
  (yX8_drop, cX8_drop, 1, (some .int), 8, 0, 0, 1),
  (yX8_on, cX8_on, 3, (some .int), 8, 0, 2, 1),
  (yX8_pick, cX8_pick, 2, (some .int), 8, 0, 1, 1),
  (yX8_reach, cX8_reach, 2, (some .int), 8, 0, 1, 1),
  (yX8_stuck, cX8_stuck, 1, (some .int), 8, 0, 0, 1),
  (yX8_sheet, cX8_sheet, 4, (some .int), 8, 0, 3, 1),
  (yX8_lose, cX8_lose, 3, (some .int), 8, 0, 1, 1),
  (yX8_put, cX8_put, 6, (some .int), 8, 0, 4, 1),
  (yX8_get, cX8_get, 5, (some .int), 8, 0, 3, 1),
  (yX8_copy, cX8_copy, 8, (some .int), 8, 0, 5, 1),
  (yX8_count, cX8_count, 2, (some .int), 8, 0, 1, 1),
  (yX8_digest, cX8_digest, 5, (some .long), 8, 0, 0, 1),
  (yX8_refusal, cX8_refusal, 1, (some .long), 8, 0, 1, 0),
  (yX8_isWithin, cX8_isWithin, 2, (some .boolean), 8, 0, 2, 0),
  (yX8_isPlace, cX8_isPlace, 2, (some .boolean), 8, 0, 2, 0),
  (yX8_isWeight, cX8_isWeight, 1, (some .boolean), 8, 0, 1, 0),
  (yX8_isTriplePart, cX8_isTriplePart, 1, (some .boolean), 8, 0, 1, 0),
  (yX8_isSheet, cX8_isSheet, 1, (some .boolean), 8, 0, 1, 0),
  (yX8_isForm, cX8_isForm, 1, (some .boolean), 8, 0, 1, 0),
  (yX8_isStand, cX8_isStand, 3, (some .boolean), 8, 0, 2, 1),
  (yX8_isFinger, cX8_isFinger, 2, (some .boolean), 8, 0, 1, 1),
  (yX8_isGrip, cX8_isGrip, 2, (some .boolean), 8, 0, 1, 1),
  (yX8_isDropped, cX8_isDropped, 2, (some .boolean), 8, 0, 1, 1),
  (yX8_item, cX8_item, 2, (some .int), 8, 0, 2, 0),
  (yX8_setItem, cX8_setItem, 3, none, 8, 0, 3, 0),
  (yX9_init, cX9_init, 2, none, 9, 21, 0, 2),
  (yX9_in, cX9_in, 6, (some .boolean), 9, 0, 3, 0),
  (yX9_no, cX9_no, 1, (some .long), 9, 0, 1, 0),
  (yX9_next, cX9_next, 2, (some .int), 9, 0, 1, 1),
  (yX9_cross, cX9_cross, 2, (some .int), 9, 0, 1, 1),
  (yX9_area, cX9_area, 3, (some .int), 9, 0, 0, 1),
  (yX9_middleX, cX9_middleX, 3, (some .int), 9, 0, 0, 1),
  (yX9_middleY, cX9_middleY, 3, (some .int), 9, 0, 0, 1),
  (yX9_shape, cX9_shape, 7, (some .int), 9, 0, 2, 1),
  (yX9_corner, cX9_corner, 3, (some .int), 9, 0, 2, 1),
  (yX9_middle, cX9_middle, 2, (some .int), 9, 0, 1, 1),
  (yX9_place, cX9_place, 11, (some .int), 9, 0, 2, 1),
  (yX9_isPlace, cX9_isPlace, 2, (some .boolean), 9, 0, 2, 0),
  (yX9_isIn, cX9_isIn, 3, (some .int), 9, 0, 2, 1),
  (yX9_isStand, cX9_isStand, 3, (some .boolean), 9, 0, 2, 1),
  (yX9_isFinger, cX9_isFinger, 2, (some .boolean), 9, 0, 1, 1),
  (yX9_finger, cX9_finger, 3, (some .int), 9, 0, 2, 1),
  (yX9_move, cX9_move, 4, (some .int), 9, 0, 3, 1),
  (yX9_release, cX9_release, 2, (some .int), 9, 0, 0, 1),
  (yX9_friction, cX9_friction, 3, (some .int), 9, 0, 1, 1),
  (yX9_lay, cX9_lay, 5, none, 9, 0, 4, 1),
  (yX9_lays, cX9_lays, 7, none, 9, 0, 2, 1),
  (yX9_layAll, cX9_layAll, 2, none, 9, 0, 0, 1),
  (yX9_crosses, cX9_crosses, 6, (some .boolean), 9, 0, 2, 1),
  (yX9_isFull, cX9_isFull, 4, (some .boolean), 9, 0, 0, 1),
  (yX9_hold, cX9_hold, 3, (some .boolean), 9, 0, 0, 1),
  (yX9_push, cX9_push, 3, (some .long), 9, 0, 2, 1),
  (yX9_holds, cX9_holds, 1, (some .int), 9, 0, 0, 1),
  (yX9_witness, cX9_witness, 6, (some .long), 9, 0, 1, 1),
  (yX9_free, cX9_free, 5, (some .int), 9, 0, 1, 1),
  (yX9_holdBy, cX9_holdBy, 7, (some .boolean), 9, 0, 1, 1),
  (yX9_slip, cX9_slip, 3, (some .int), 9, 0, 0, 1),
  (yX9_spot, cX9_spot, 4, (some .int), 9, 0, 3, 1),
  (yX9_priceOf, cX9_priceOf, 4, (some .int), 9, 0, 1, 1),
  (yX9_cheapest, cX9_cheapest, 7, (some .int), 9, 0, 0, 1),
  (yX9_take, cX9_take, 3, (some .int), 9, 0, 0, 1),
  (yX9_farSquare, cX9_farSquare, 9, (some .long), 9, 0, 2, 1),
  (yX9_lifted, cX9_lifted, 8, (some .boolean), 9, 0, 4, 1),
  (yX9_lifts, cX9_lifts, 5, (some .int), 9, 0, 4, 1),
  (yX9_seal, cX9_seal, 12, (some .int), 9, 0, 3, 1),
  (yX9_probe, cX9_probe, 3, (some .int), 9, 0, 2, 1),
  (yX9_fits, cX9_fits, 7, (some .boolean), 9, 0, 2, 1),
  (yX9_poses, cX9_poses, 3, (some .int), 9, 0, 0, 1),
  (yX9_pose, cX9_pose, 4, (some .int), 9, 0, 1, 1),
  (yX9_grip, cX9_grip, 1, (some .int), 9, 0, 0, 1),
  (yX9_isGrip, cX9_isGrip, 2, (some .boolean), 9, 0, 1, 1),
  (yX9_link, cX9_link, 4, (some .int), 9, 0, 3, 1),
  (yX9_way, cX9_way, 6, (some .int), 9, 0, 2, 1),
  (yX9_drop, cX9_drop, 1, (some .int), 9, 0, 0, 1),
  (yX9_isDropped, cX9_isDropped, 2, (some .boolean), 9, 0, 1, 1),
  (yX9_on, cX9_on, 3, (some .int), 9, 0, 2, 1),
  (yX9_pick, cX9_pick, 2, (some .int), 9, 0, 1, 1),
  (yX9_left, cX9_left, 5, (some .int), 9, 0, 1, 1),
  (yX9_reach, cX9_reach, 5, (some .int), 9, 0, 1, 1),
  (yX9_ones, cX9_ones, 3, (some .int), 9, 0, 1, 0),
  (yX9_stuck, cX9_stuck, 1, (some .int), 9, 0, 0, 1),
  (yX9_met, cX9_met, 2, (some .int), 9, 0, 1, 1),
  (yX9_isSheet, cX9_isSheet, 1, (some .boolean), 9, 0, 1, 0),
  (yX9_sheet, cX9_sheet, 5, (some .int), 9, 0, 3, 1),
  (yX9_lose, cX9_lose, 2, (some .int), 9, 0, 1, 1),
  (yX9_lacks, cX9_lacks, 4, (some .int), 9, 0, 3, 1),
  (yX9_put, cX9_put, 6, (some .int), 9, 0, 4, 1),
  (yX9_get, cX9_get, 4, (some .int), 9, 0, 3, 1),
  (yX9_copy, cX9_copy, 7, (some .int), 9, 0, 5, 1),
  (yX9_count, cX9_count, 2, (some .int), 9, 0, 1, 1),
  (yX9_digest, cX9_digest, 4, (some .long), 9, 0, 0, 1),
  (yJ6_bitCount_0f7a4, cJ6_bitCount_0f7a4, 1, (some .int), 10, 0, 1, 0),
  (Lib.Math.max.name, Lib.Math.max.code, 2, (some .int), 11, 0, 2, 0),
  (Lib.Math.min.name, Lib.Math.min.code, 2, (some .int), 11, 0, 2, 0),
  (yL_law, cL_law, 4, (some .boolean), 12, 0, 1, 1)]
abbrev mX0_init : Nat := 0
abbrev mX0_dropped : Nat := 1
abbrev mX0_size : Nat := 2
abbrev mX0_add : Nat := 3
abbrev mX0_lay : Nat := 4
abbrev mX0_isInside : Nat := 5
abbrev mX0_isCovered : Nat := 6
abbrev mX0_remove : Nat := 7
abbrev mX0_stuckBits : Nat := 8
abbrev mX0_withAllAbove : Nat := 9
abbrev mX1_init : Nat := 10
abbrev mX1_size : Nat := 11
abbrev mX1_add : Nat := 12
abbrev mX1_join : Nat := 13
abbrev mX1_leastCost : Nat := 14
abbrev mX1_goOneMoveFarther : Nat := 15
abbrev mX2_init : Nat := 16
abbrev mX2_size : Nat := 17
abbrev mX2_edge : Nat := 18
abbrev mX2_eighth : Nat := 19
abbrev mX2_clear : Nat := 20
abbrev mX2_add : Nat := 21
abbrev mX2_stand : Nat := 22
abbrev mX2_become : Nat := 23
abbrev mX3_init : Nat := 24
abbrev mX3_setCorner : Nat := 25
abbrev mX3_close : Nat := 26
abbrev mX3_corners : Nat := 27
abbrev mX3_area : Nat := 28
abbrev mX3_momentX : Nat := 29
abbrev mX3_momentY : Nat := 30
abbrev mX3_x : Nat := 31
abbrev mX3_y : Nat := 32
abbrev mX3_next : Nat := 33
abbrev mX3_dx : Nat := 34
abbrev mX3_dy : Nat := 35
abbrev mX3_side : Nat := 36
abbrev mX3_pull : Nat := 37
abbrev mX3_isSealed : Nat := 38
abbrev mX3_leastSeal : Nat := 39
abbrev mX4_init : Nat := 40
abbrev mX4_size : Nat := 41
abbrev mX4_x : Nat := 42
abbrev mX4_y : Nat := 43
abbrev mX4_add : Nat := 44
abbrev mX5_init : Nat := 45
abbrev mX5_latestFinding : Nat := 46
abbrev mX5_find : Nat := 47
abbrev mX5_form : Nat := 48
abbrev mX5_length : Nat := 49
abbrev mX5_isLost : Nat := 50
abbrev mX5_forget : Nat := 51
abbrev mX5_renew : Nat := 52
abbrev mX5_value : Nat := 53
abbrev mX5_hasValue : Nat := 54
abbrev mX5_write : Nat := 55
abbrev mX5_faultAt : Nat := 56
abbrev mX5_hasRun : Nat := 57
abbrev mX6_init : Nat := 58
abbrev mX6_size : Nat := 59
abbrev mX6_clear : Nat := 60
abbrev mX6_add : Nat := 61
abbrev mX6_price : Nat := 62
abbrev mX6_isBetter : Nat := 63
abbrev mX6_layOut : Nat := 64
abbrev mX7_init : Nat := 65
abbrev mX7_size : Nat := 66
abbrev mX7_part : Nat := 67
abbrev mX7_press : Nat := 68
abbrev mX7_add : Nat := 69
abbrev mX7_spread : Nat := 70
abbrev mX7_turnIfBelow : Nat := 71
abbrev mX7_normal : Nat := 72
abbrev mX7_cross : Nat := 73
abbrev mX7_signs : Nat := 74
abbrev mX8_init : Nat := 75
abbrev mX8_shape : Nat := 76
abbrev mX8_isShape : Nat := 77
abbrev mX8_corner : Nat := 78
abbrev mX8_middle : Nat := 79
abbrev mX8_isIn : Nat := 80
abbrev mX8_finger : Nat := 81
abbrev mX8_move : Nat := 82
abbrev mX8_release : Nat := 83
abbrev mX8_friction : Nat := 84
abbrev mX8_push : Nat := 85
abbrev mX8_holds : Nat := 86
abbrev mX8_witness : Nat := 87
abbrev mX8_free : Nat := 88
abbrev mX8_slip : Nat := 89
abbrev mX8_isHeldWithin : Nat := 90
abbrev mX8_slide : Nat := 91
abbrev mX8_isHeldBy : Nat := 92
abbrev mX8_spot : Nat := 93
abbrev mX8_cheapest : Nat := 94
abbrev mX8_take : Nat := 95
abbrev mX8_lifts : Nat := 96
abbrev mX8_seal : Nat := 97
abbrev mX8_probe : Nat := 98
abbrev mX8_poses : Nat := 99
abbrev mX8_pose : Nat := 100
abbrev mX8_fits : Nat := 101
abbrev mX8_grip : Nat := 102
abbrev mX8_link : Nat := 103
abbrev mX8_way : Nat := 104
abbrev mX8_drop : Nat := 105
abbrev mX8_on : Nat := 106
abbrev mX8_pick : Nat := 107
abbrev mX8_reach : Nat := 108
abbrev mX8_stuck : Nat := 109
abbrev mX8_sheet : Nat := 110
abbrev mX8_lose : Nat := 111
abbrev mX8_put : Nat := 112
abbrev mX8_get : Nat := 113
abbrev mX8_copy : Nat := 114
abbrev mX8_count : Nat := 115
abbrev mX8_digest : Nat := 116
abbrev mX8_refusal : Nat := 117
abbrev mX8_isWithin : Nat := 118
abbrev mX8_isPlace : Nat := 119
abbrev mX8_isWeight : Nat := 120
abbrev mX8_isTriplePart : Nat := 121
abbrev mX8_isSheet : Nat := 122
abbrev mX8_isForm : Nat := 123
abbrev mX8_isStand : Nat := 124
abbrev mX8_isFinger : Nat := 125
abbrev mX8_isGrip : Nat := 126
abbrev mX8_isDropped : Nat := 127
abbrev mX8_item : Nat := 128
abbrev mX8_setItem : Nat := 129
abbrev mX9_init : Nat := 130
abbrev mX9_in : Nat := 131
abbrev mX9_no : Nat := 132
abbrev mX9_next : Nat := 133
abbrev mX9_cross : Nat := 134
abbrev mX9_area : Nat := 135
abbrev mX9_middleX : Nat := 136
abbrev mX9_middleY : Nat := 137
abbrev mX9_shape : Nat := 138
abbrev mX9_corner : Nat := 139
abbrev mX9_middle : Nat := 140
abbrev mX9_place : Nat := 141
abbrev mX9_isPlace : Nat := 142
abbrev mX9_isIn : Nat := 143
abbrev mX9_isStand : Nat := 144
abbrev mX9_isFinger : Nat := 145
abbrev mX9_finger : Nat := 146
abbrev mX9_move : Nat := 147
abbrev mX9_release : Nat := 148
abbrev mX9_friction : Nat := 149
abbrev mX9_lay : Nat := 150
abbrev mX9_lays : Nat := 151
abbrev mX9_layAll : Nat := 152
abbrev mX9_crosses : Nat := 153
abbrev mX9_isFull : Nat := 154
abbrev mX9_hold : Nat := 155
abbrev mX9_push : Nat := 156
abbrev mX9_holds : Nat := 157
abbrev mX9_witness : Nat := 158
abbrev mX9_free : Nat := 159
abbrev mX9_holdBy : Nat := 160
abbrev mX9_slip : Nat := 161
abbrev mX9_spot : Nat := 162
abbrev mX9_priceOf : Nat := 163
abbrev mX9_cheapest : Nat := 164
abbrev mX9_take : Nat := 165
abbrev mX9_farSquare : Nat := 166
abbrev mX9_lifted : Nat := 167
abbrev mX9_lifts : Nat := 168
abbrev mX9_seal : Nat := 169
abbrev mX9_probe : Nat := 170
abbrev mX9_fits : Nat := 171
abbrev mX9_poses : Nat := 172
abbrev mX9_pose : Nat := 173
abbrev mX9_grip : Nat := 174
abbrev mX9_isGrip : Nat := 175
abbrev mX9_link : Nat := 176
abbrev mX9_way : Nat := 177
abbrev mX9_drop : Nat := 178
abbrev mX9_isDropped : Nat := 179
abbrev mX9_on : Nat := 180
abbrev mX9_pick : Nat := 181
abbrev mX9_left : Nat := 182
abbrev mX9_reach : Nat := 183
abbrev mX9_ones : Nat := 184
abbrev mX9_stuck : Nat := 185
abbrev mX9_met : Nat := 186
abbrev mX9_isSheet : Nat := 187
abbrev mX9_sheet : Nat := 188
abbrev mX9_lose : Nat := 189
abbrev mX9_lacks : Nat := 190
abbrev mX9_put : Nat := 191
abbrev mX9_get : Nat := 192
abbrev mX9_copy : Nat := 193
abbrev mX9_count : Nat := 194
abbrev mX9_digest : Nat := 195
abbrev mJ6_bitCount_0f7a4 : Nat := 196
abbrev mJ9_max_7cf53 : Nat := 197
abbrev mJ9_min_7cf53 : Nat := 198
abbrev mL_law : Nat := 199
def zcX0_init : List (Nat × Instr × Nat) := [(0, .aload_n 0, 1), (1, .invokespecial 3, 3), (4, .aload_n 0, 1), (5, .bipush 12, 2), (7, .newarray .int, 2), (9, .putfield 9, 3), (12, .return_, 1)]
def zcX0_dropped : List (Nat × Instr × Nat) := [(0, .aload_n 0, 1), (1, .getfield 15, 3), (4, .ireturn, 1)]
def zcX0_size : List (Nat × Instr × Nat) := [(0, .aload_n 0, 1), (1, .getfield 19, 3), (4, .invokestatic 22, 3), (7, .ireturn, 1)]
def zcX0_add : List (Nat × Instr × Nat) := [(0, .aload_n 0, 1), (1, .dup, 1), (2, .getfield 19, 3), (5, .iconst 1, 1), (6, .aload_n 0, 1), (7, .getfield 15, 3), (10, .ishl, 1), (11, .ior, 1), (12, .putfield 19, 3), (15, .aload_n 0, 1), (16, .dup, 1), (17, .getfield 15, 3), (20, .iconst 1, 1), (21, .iadd, 1), (22, .putfield 15, 3), (25, .return_, 1)]
def zcX0_lay : List (Nat × Instr × Nat) := [(0, .aload_n 0, 1), (1, .getfield 9, 3), (4, .iload_n 2, 1), (5, .aload_n 0, 1), (6, .getfield 9, 3), (9, .iload_n 2, 1), (10, .invokestatic 28, 3), (13, .iconst 1, 1), (14, .iload_n 1, 1), (15, .ishl, 1), (16, .ior, 1), (17, .invokestatic 32, 3), (20, .return_, 1)]
def zcX0_isInside : List (Nat × Instr × Nat) := [(0, .aload_n 0, 1), (1, .getfield 19, 3), (4, .iload_n 1, 1), (5, .ishr, 1), (6, .iconst 1, 1), (7, .iand, 1), (8, .ifCond .eq 7, 3), (11, .iconst 1, 1), (12, .goto 4, 3), (15, .iconst 0, 1), (16, .ireturn, 1)]
def zcX0_isCovered : List (Nat × Instr × Nat) := [(0, .aload_n 0, 1), (1, .getfield 9, 3), (4, .iload_n 1, 1), (5, .invokestatic 28, 3), (8, .aload_n 0, 1), (9, .getfield 19, 3), (12, .iand, 1), (13, .ifCond .eq 7, 3), (16, .iconst 1, 1), (17, .goto 4, 3), (20, .iconst 0, 1), (21, .ireturn, 1)]
def zcX0_remove : List (Nat × Instr × Nat) := [(0, .aload_n 0, 1), (1, .dup, 1), (2, .getfield 19, 3), (5, .iconst 1, 1), (6, .iload_n 1, 1), (7, .ishl, 1), (8, .iconst (-1), 1), (9, .ixor, 1), (10, .iand, 1), (11, .putfield 19, 3), (14, .return_, 1)]
def zcX0_stuckBits : List (Nat × Instr × Nat) := [(0, .aload_n 0, 1), (1, .getfield 19, 3), (4, .istore_n 1, 1), (5, .iconst 0, 1), (6, .istore_n 2, 1), (7, .iload_n 2, 1), (8, .aload_n 0, 1), (9, .getfield 15, 3), (12, .if_icmp .ge 46, 3), (15, .iconst 0, 1), (16, .istore_n 3, 1), (17, .iload_n 3, 1), (18, .aload_n 0, 1), (19, .getfield 15, 3), (22, .if_icmp .ge 30, 3), (25, .aload_n 0, 1), (26, .getfield 9, 3), (29, .iload_n 3, 1), (30, .invokestatic 28, 3), (33, .iload_n 1, 1), (34, .iand, 1), (35, .ifCond .ne 11, 3), (38, .iload_n 1, 1), (39, .iconst 1, 1), (40, .iload_n 3, 1), (41, .ishl, 1), (42, .iconst (-1), 1), (43, .ixor, 1), (44, .iand, 1), (45, .istore_n 1, 1), (46, .iinc 3 1, 3), (49, .goto (-32), 3), (52, .iinc 2 1, 3), (55, .goto (-48), 3), (58, .iload_n 1, 1), (59, .ireturn, 1)]
def zcX0_withAllAbove : List (Nat × Instr × Nat) := [(0, .iconst 1, 1), (1, .iload_n 1, 1), (2, .ishl, 1), (3, .istore_n 2, 1), (4, .iconst 0, 1), (5, .istore_n 3, 1), (6, .iload_n 3, 1), (7, .aload_n 0, 1), (8, .getfield 15, 3), (11, .if_icmp .ge 53, 3), (14, .iconst 0, 1), (15, .istore 4, 2), (17, .iload 4, 2), (19, .aload_n 0, 1), (20, .getfield 15, 3), (23, .if_icmp .ge 35, 3), (26, .iload_n 2, 1), (27, .iload 4, 2), (29, .ishr, 1), (30, .iconst 1, 1), (31, .iand, 1), (32, .ifCond .eq 20, 3), (35, .iload_n 2, 1), (36, .aload_n 0, 1), (37, .getfield 9, 3), (40, .iload 4, 2), (42, .invokestatic 28, 3), (45, .aload_n 0, 1), (46, .getfield 19, 3), (49, .iand, 1), (50, .ior, 1), (51, .istore_n 2, 1), (52, .iinc 4 1, 3), (55, .goto (-38), 3), (58, .iinc 3 1, 3), (61, .goto (-55), 3), (64, .iload_n 2, 1), (65, .ireturn, 1)]
def zcX1_init : List (Nat × Instr × Nat) := [(0, .aload_n 0, 1), (1, .invokespecial 3, 3), (4, .aload_n 0, 1), (5, .bipush 100, 2), (7, .newarray .int, 2), (9, .putfield 9, 3), (12, .aload_n 0, 1), (13, .bipush 10, 2), (15, .newarray .int, 2), (17, .putfield 15, 3), (20, .return_, 1)]
def zcX1_size : List (Nat × Instr × Nat) := [(0, .aload_n 0, 1), (1, .getfield 18, 3), (4, .ireturn, 1)]
def zcX1_add : List (Nat × Instr × Nat) := [(0, .aload_n 0, 1), (1, .dup, 1), (2, .getfield 18, 3), (5, .iconst 1, 1), (6, .iadd, 1), (7, .putfield 18, 3), (10, .return_, 1)]
def zcX1_join : List (Nat × Instr × Nat) := [(0, .aload_n 0, 1), (1, .getfield 9, 3), (4, .iload_n 1, 1), (5, .bipush 10, 2), (7, .imul, 1), (8, .iload_n 2, 1), (9, .iadd, 1), (10, .iload_n 3, 1), (11, .invokestatic 22, 3), (14, .aload_n 0, 1), (15, .getfield 9, 3), (18, .iload_n 2, 1), (19, .bipush 10, 2), (21, .imul, 1), (22, .iload_n 1, 1), (23, .iadd, 1), (24, .iload_n 3, 1), (25, .invokestatic 22, 3), (28, .return_, 1)]
def zcX1_leastCost : List (Nat × Instr × Nat) := [(0, .iconst 0, 1), (1, .istore_n 3, 1), (2, .iload_n 3, 1), (3, .aload_n 0, 1), (4, .getfield 18, 3), (7, .if_icmp .ge 28, 3), (10, .aload_n 0, 1), (11, .getfield 15, 3), (14, .iload_n 3, 1), (15, .iload_n 3, 1), (16, .iload_n 1, 1), (17, .if_icmp .ne 7, 3), (20, .iconst 0, 1), (21, .goto 5, 3), (24, .ldc 26, 2), (26, .invokestatic 22, 3), (29, .iinc 3 1, 3), (32, .goto (-30), 3), (35, .iconst 1, 1), (36, .istore_n 3, 1), (37, .iload_n 3, 1), (38, .aload_n 0, 1), (39, .getfield 18, 3), (42, .if_icmp .ge 13, 3), (45, .aload_n 0, 1), (46, .invokevirtual 27, 3), (49, .iinc 3 1, 3), (52, .goto (-15), 3), (55, .aload_n 0, 1), (56, .getfield 15, 3), (59, .iload_n 2, 1), (60, .invokestatic 30, 3), (63, .istore_n 3, 1), (64, .iload_n 3, 1), (65, .ldc 26, 2), (67, .if_icmp .ge 7, 3), (70, .iload_n 3, 1), (71, .goto 4, 3), (74, .iconst (-1), 1), (75, .ireturn, 1)]
def zcX1_goOneMoveFarther : List (Nat × Instr × Nat) := [(0, .iconst 0, 1), (1, .istore_n 1, 1), (2, .iload_n 1, 1), (3, .aload_n 0, 1), (4, .getfield 18, 3), (7, .if_icmp .ge 78, 3), (10, .iconst 0, 1), (11, .istore_n 2, 1), (12, .iload_n 2, 1), (13, .aload_n 0, 1), (14, .getfield 18, 3), (17, .if_icmp .ge 62, 3), (20, .aload_n 0, 1), (21, .getfield 9, 3), (24, .iload_n 1, 1), (25, .bipush 10, 2), (27, .imul, 1), (28, .iload_n 2, 1), (29, .iadd, 1), (30, .invokestatic 30, 3), (33, .istore_n 3, 1), (34, .aload_n 0, 1), (35, .getfield 15, 3), (38, .iload_n 1, 1), (39, .invokestatic 30, 3), (42, .iload_n 3, 1), (43, .iadd, 1), (44, .istore 4, 2), (46, .iload_n 3, 1), (47, .ifCond .eq 26, 3), (50, .iload 4, 2), (52, .aload_n 0, 1), (53, .getfield 15, 3), (56, .iload_n 2, 1), (57, .invokestatic 30, 3), (60, .if_icmp .ge 13, 3), (63, .aload_n 0, 1), (64, .getfield 15, 3), (67, .iload_n 2, 1), (68, .iload 4, 2), (70, .invokestatic 22, 3), (73, .iinc 2 1, 3), (76, .goto (-64), 3), (79, .iinc 1 1, 3), (82, .goto (-80), 3), (85, .return_, 1)]
def zcX2_init : List (Nat × Instr × Nat) := [(0, .aload_n 0, 1), (1, .invokespecial 3, 3), (4, .aload_n 0, 1), (5, .bipush 8, 2), (7, .newarray .int, 2), (9, .putfield 9, 3), (12, .aload_n 0, 1), (13, .bipush 8, 2), (15, .newarray .int, 2), (17, .putfield 15, 3), (20, .return_, 1)]
def zcX2_size : List (Nat × Instr × Nat) := [(0, .aload_n 0, 1), (1, .getfield 18, 3), (4, .ireturn, 1)]
def zcX2_edge : List (Nat × Instr × Nat) := [(0, .aload_n 0, 1), (1, .getfield 9, 3), (4, .iload_n 1, 1), (5, .invokestatic 22, 3), (8, .ireturn, 1)]
def zcX2_eighth : List (Nat × Instr × Nat) := [(0, .aload_n 0, 1), (1, .getfield 15, 3), (4, .iload_n 1, 1), (5, .invokestatic 22, 3), (8, .ireturn, 1)]
def zcX2_clear : List (Nat × Instr × Nat) := [(0, .aload_n 0, 1), (1, .iconst 0, 1), (2, .putfield 18, 3), (5, .return_, 1)]
def zcX2_add : List (Nat × Instr × Nat) := [(0, .aload_n 0, 1), (1, .aload_n 0, 1), (2, .getfield 18, 3), (5, .iload_n 1, 1), (6, .iload_n 2, 1), (7, .invokevirtual 26, 3), (10, .aload_n 0, 1), (11, .dup, 1), (12, .getfield 18, 3), (15, .iconst 1, 1), (16, .iadd, 1), (17, .putfield 18, 3), (20, .return_, 1)]
def zcX2_stand : List (Nat × Instr × Nat) := [(0, .aload_n 0, 1), (1, .getfield 9, 3), (4, .iload_n 1, 1), (5, .iload_n 2, 1), (6, .invokestatic 30, 3), (9, .aload_n 0, 1), (10, .getfield 15, 3), (13, .iload_n 1, 1), (14, .iload_n 3, 1), (15, .invokestatic 30, 3), (18, .return_, 1)]
def zcX2_become : List (Nat × Instr × Nat) := [(0, .aload_n 0, 1), (1, .invokevirtual 34, 3), (4, .iconst 0, 1), (5, .istore_n 2, 1), (6, .iload_n 2, 1), (7, .aload_n 1, 1), (8, .invokevirtual 37, 3), (11, .if_icmp .ge 23, 3), (14, .aload_n 0, 1), (15, .aload_n 1, 1), (16, .iload_n 2, 1), (17, .invokevirtual 40, 3), (20, .aload_n 1, 1), (21, .iload_n 2, 1), (22, .invokevirtual 44, 3), (25, .invokevirtual 47, 3), (28, .iinc 2 1, 3), (31, .goto (-25), 3), (34, .return_, 1)]
def zcX3_init : List (Nat × Instr × Nat) := [(0, .aload_n 0, 1), (1, .invokespecial 3, 3), (4, .aload_n 0, 1), (5, .bipush 10, 2), (7, .newarray .int, 2), (9, .putfield 9, 3), (12, .aload_n 0, 1), (13, .bipush 10, 2), (15, .newarray .int, 2), (17, .putfield 15, 3), (20, .aload_n 0, 1), (21, .iconst 0, 1), (22, .iconst 0, 1), (23, .iconst 0, 1), (24, .invokevirtual 18, 3), (27, .aload_n 0, 1), (28, .iconst 1, 1), (29, .bipush 10, 2), (31, .iconst 0, 1), (32, .invokevirtual 18, 3), (35, .aload_n 0, 1), (36, .iconst 2, 1), (37, .iconst 0, 1), (38, .bipush 10, 2), (40, .invokevirtual 18, 3), (43, .aload_n 0, 1), (44, .iconst 3, 1), (45, .invokevirtual 22, 3), (48, .return_, 1)]
def zcX3_setCorner : List (Nat × Instr × Nat) := [(0, .aload_n 0, 1), (1, .getfield 9, 3), (4, .iload_n 1, 1), (5, .iload_n 2, 1), (6, .invokestatic 26, 3), (9, .aload_n 0, 1), (10, .getfield 15, 3), (13, .iload_n 1, 1), (14, .iload_n 3, 1), (15, .invokestatic 26, 3), (18, .return_, 1)]
def zcX3_close : List (Nat × Instr × Nat) := [(0, .aload_n 0, 1), (1, .iload_n 1, 1), (2, .putfield 30, 3), (5, .aload_n 0, 1), (6, .iconst 0, 1), (7, .putfield 34, 3), (10, .aload_n 0, 1), (11, .iconst 0, 1), (12, .putfield 37, 3), (15, .aload_n 0, 1), (16, .iconst 0, 1), (17, .putfield 40, 3), (20, .iconst 0, 1), (21, .istore_n 2, 1), (22, .iload_n 2, 1), (23, .iload_n 1, 1), (24, .if_icmp .ge 97, 3), (27, .aload_n 0, 1), (28, .iload_n 2, 1), (29, .invokevirtual 43, 3), (32, .istore_n 3, 1), (33, .aload_n 0, 1), (34, .iload_n 2, 1), (35, .invokevirtual 47, 3), (38, .aload_n 0, 1), (39, .iload_n 3, 1), (40, .invokevirtual 50, 3), (43, .imul, 1), (44, .aload_n 0, 1), (45, .iload_n 2, 1), (46, .invokevirtual 50, 3), (49, .aload_n 0, 1), (50, .iload_n 3, 1), (51, .invokevirtual 47, 3), (54, .imul, 1), (55, .isub, 1), (56, .istore 4, 2), (58, .aload_n 0, 1), (59, .dup, 1), (60, .getfield 34, 3), (63, .iload 4, 2), (65, .iadd, 1), (66, .putfield 34, 3), (69, .aload_n 0, 1), (70, .dup, 1), (71, .getfield 37, 3), (74, .aload_n 0, 1), (75, .iload_n 2, 1), (76, .invokevirtual 47, 3), (79, .aload_n 0, 1), (80, .iload_n 3, 1), (81, .invokevirtual 47, 3), (84, .iadd, 1), (85, .iload 4, 2), (87, .imul, 1), (88, .iadd, 1), (89, .putfield 37, 3), (92, .aload_n 0, 1), (93, .dup, 1), (94, .getfield 40, 3), (97, .aload_n 0, 1), (98, .iload_n 2, 1), (99, .invokevirtual 50, 3), (102, .aload_n 0, 1), (103, .iload_n 3, 1), (104, .invokevirtual 50, 3), (107, .iadd, 1), (108, .iload 4, 2), (110, .imul, 1), (111, .iadd, 1), (112, .putfield 40, 3), (115, .iinc 2 1, 3), (118, .goto (-96), 3), (121, .return_, 1)]
def zcX3_corners : List (Nat × Instr × Nat) := [(0, .aload_n 0, 1), (1, .getfield 30, 3), (4, .ireturn, 1)]
def zcX3_area : List (Nat × Instr × Nat) := [(0, .aload_n 0, 1), (1, .getfield 34, 3), (4, .ireturn, 1)]
def zcX3_momentX : List (Nat × Instr × Nat) := [(0, .aload_n 0, 1), (1, .getfield 37, 3), (4, .ireturn, 1)]
def zcX3_momentY : List (Nat × Instr × Nat) := [(0, .aload_n 0, 1), (1, .getfield 40, 3), (4, .ireturn, 1)]
def zcX3_x : List (Nat × Instr × Nat) := [(0, .aload_n 0, 1), (1, .getfield 9, 3), (4, .iload_n 1, 1), (5, .invokestatic 53, 3), (8, .ireturn, 1)]
def zcX3_y : List (Nat × Instr × Nat) := [(0, .aload_n 0, 1), (1, .getfield 15, 3), (4, .iload_n 1, 1), (5, .invokestatic 53, 3), (8, .ireturn, 1)]
def zcX3_next : List (Nat × Instr × Nat) := [(0, .iload_n 1, 1), (1, .iconst 1, 1), (2, .iadd, 1), (3, .aload_n 0, 1), (4, .getfield 30, 3), (7, .if_icmp .ge 9, 3), (10, .iload_n 1, 1), (11, .iconst 1, 1), (12, .iadd, 1), (13, .goto 4, 3), (16, .iconst 0, 1), (17, .ireturn, 1)]
def zcX3_dx : List (Nat × Instr × Nat) := [(0, .aload_n 0, 1), (1, .getfield 9, 3), (4, .aload_n 0, 1), (5, .iload_n 1, 1), (6, .invokevirtual 43, 3), (9, .invokestatic 53, 3), (12, .aload_n 0, 1), (13, .getfield 9, 3), (16, .iload_n 1, 1), (17, .invokestatic 53, 3), (20, .isub, 1), (21, .ireturn, 1)]
def zcX3_dy : List (Nat × Instr × Nat) := [(0, .aload_n 0, 1), (1, .getfield 15, 3), (4, .aload_n 0, 1), (5, .iload_n 1, 1), (6, .invokevirtual 43, 3), (9, .invokestatic 53, 3), (12, .aload_n 0, 1), (13, .getfield 15, 3), (16, .iload_n 1, 1), (17, .invokestatic 53, 3), (20, .isub, 1), (21, .ireturn, 1)]
def zcX3_side : List (Nat × Instr × Nat) := [(0, .iconst 0, 1), (1, .istore_n 3, 1), (2, .iconst 0, 1), (3, .istore 4, 2), (5, .iload 4, 2), (7, .aload_n 0, 1), (8, .getfield 30, 3), (11, .if_icmp .ge 143, 3), (14, .aload_n 0, 1), (15, .iload 4, 2), (17, .invokevirtual 43, 3), (20, .istore 5, 2), (22, .bipush 8, 2), (24, .aload_n 0, 1), (25, .iload 4, 2), (27, .invokevirtual 47, 3), (30, .imul, 1), (31, .iload_n 1, 1), (32, .isub, 1), (33, .istore 6, 2), (35, .bipush 8, 2), (37, .aload_n 0, 1), (38, .iload 4, 2), (40, .invokevirtual 50, 3), (43, .imul, 1), (44, .iload_n 2, 1), (45, .isub, 1), (46, .istore 7, 2), (48, .bipush 8, 2), (50, .aload_n 0, 1), (51, .iload 5, 2), (53, .invokevirtual 47, 3), (56, .imul, 1), (57, .iload_n 1, 1), (58, .isub, 1), (59, .istore 8, 2), (61, .bipush 8, 2), (63, .aload_n 0, 1), (64, .iload 5, 2), (66, .invokevirtual 50, 3), (69, .imul, 1), (70, .iload_n 2, 1), (71, .isub, 1), (72, .istore 9, 2), (74, .iload 6, 2), (76, .iload 9, 2), (78, .imul, 1), (79, .iload 7, 2), (81, .iload 8, 2), (83, .imul, 1), (84, .isub, 1), (85, .istore 10, 2), (87, .iload 10, 2), (89, .ifCond .ne 21, 3), (92, .iload 6, 2), (94, .iload 8, 2), (96, .imul, 1), (97, .ifCond .gt 13, 3), (100, .iload 7, 2), (102, .iload 9, 2), (104, .imul, 1), (105, .ifCond .gt 5, 3), (108, .iconst 2, 1), (109, .ireturn, 1), (110, .iload 9, 2), (112, .ifCond .le 16, 3), (115, .iload 7, 2), (117, .ifCond .gt 31, 3), (120, .iload 10, 2), (122, .ifCond .le 26, 3), (125, .goto 13, 3), (128, .iload 7, 2), (130, .ifCond .le 18, 3), (133, .iload 10, 2), (135, .ifCond .ge 13, 3), (138, .iload_n 3, 1), (139, .ifCond .ne 7, 3), (142, .iconst 1, 1), (143, .goto 4, 3), (146, .iconst 0, 1), (147, .istore_n 3, 1), (148, .iinc 4 1, 3), (151, .goto (-146), 3), (154, .iload_n 3, 1), (155, .ifCond .eq 7, 3), (158, .iconst 1, 1), (159, .goto 4, 3), (162, .iconst 0, 1), (163, .ireturn, 1)]
def zcX3_pull : List (Nat × Instr × Nat) := [(0, .ldc2_w 57, 3), (3, .aload_n 0, 1), (4, .getfield 34, 3), (7, .i2l, 1), (8, .lmul, 1), (9, .iload_n 1, 1), (10, .i2l, 1), (11, .lmul, 1), (12, .ldc2_w 59, 3), (15, .aload_n 0, 1), (16, .getfield 37, 3), (19, .i2l, 1), (20, .lmul, 1), (21, .lsub, 1), (22, .lstore 4, 2), (24, .ldc2_w 57, 3), (27, .aload_n 0, 1), (28, .getfield 34, 3), (31, .i2l, 1), (32, .lmul, 1), (33, .iload_n 2, 1), (34, .i2l, 1), (35, .lmul, 1), (36, .ldc2_w 59, 3), (39, .aload_n 0, 1), (40, .getfield 40, 3), (43, .i2l, 1), (44, .lmul, 1), (45, .lsub, 1), (46, .lstore 6, 2), (48, .iload_n 3, 1), (49, .i2l, 1), (50, .iload_n 3, 1), (51, .i2l, 1), (52, .lmul, 1), (53, .lload 4, 2), (55, .lload 4, 2), (57, .lmul, 1), (58, .lload 6, 2), (60, .lload 6, 2), (62, .lmul, 1), (63, .ladd, 1), (64, .lmul, 1), (65, .lreturn, 1)]
def zcX3_isSealed : List (Nat × Instr × Nat) := [(0, .ldc2_w 57, 3), (3, .aload_n 0, 1), (4, .getfield 34, 3), (7, .i2l, 1), (8, .lmul, 1), (9, .iload_n 3, 1), (10, .i2l, 1), (11, .lmul, 1), (12, .lstore 4, 2), (14, .lload 4, 2), (16, .ldc2_w 61, 3), (19, .lcmp, 1), (20, .ifCond .ge 13, 3), (23, .lload 4, 2), (25, .lload 4, 2), (27, .lmul, 1), (28, .lload_n 1, 1), (29, .lcmp, 1), (30, .ifCond .lt 7, 3), (33, .iconst 1, 1), (34, .goto 4, 3), (37, .iconst 0, 1), (38, .ireturn, 1)]
def zcX3_leastSeal : List (Nat × Instr × Nat) := [(0, .iconst 0, 1), (1, .istore_n 3, 1), (2, .ldc 63, 2), (4, .istore 4, 2), (6, .iconst 0, 1), (7, .istore 5, 2), (9, .iload 5, 2), (11, .bipush 31, 2), (13, .if_icmp .ge 47, 3), (16, .iload_n 3, 1), (17, .iload 4, 2), (19, .if_icmp .ge 41, 3), (22, .iload_n 3, 1), (23, .iload 4, 2), (25, .iload_n 3, 1), (26, .isub, 1), (27, .iconst 2, 1), (28, .idiv, 1), (29, .iadd, 1), (30, .istore 6, 2), (32, .aload_n 0, 1), (33, .lload_n 1, 1), (34, .iload 6, 2), (36, .invokevirtual 64, 3), (39, .ifCond .eq 10, 3), (42, .iload 6, 2), (44, .istore 4, 2), (46, .goto 8, 3), (49, .iload 6, 2), (51, .iconst 1, 1), (52, .iadd, 1), (53, .istore_n 3, 1), (54, .iinc 5 1, 3), (57, .goto (-48), 3), (60, .iload 4, 2), (62, .ireturn, 1)]
def zcX4_init : List (Nat × Instr × Nat) := [(0, .aload_n 0, 1), (1, .invokespecial 3, 3), (4, .aload_n 0, 1), (5, .bipush 20, 2), (7, .newarray .int, 2), (9, .putfield 9, 3), (12, .aload_n 0, 1), (13, .bipush 20, 2), (15, .newarray .int, 2), (17, .putfield 15, 3), (20, .return_, 1)]
def zcX4_size : List (Nat × Instr × Nat) := [(0, .aload_n 0, 1), (1, .getfield 18, 3), (4, .ireturn, 1)]
def zcX4_x : List (Nat × Instr × Nat) := [(0, .aload_n 0, 1), (1, .getfield 9, 3), (4, .iload_n 1, 1), (5, .invokestatic 22, 3), (8, .ireturn, 1)]
def zcX4_y : List (Nat × Instr × Nat) := [(0, .aload_n 0, 1), (1, .getfield 15, 3), (4, .iload_n 1, 1), (5, .invokestatic 22, 3), (8, .ireturn, 1)]
def zcX4_add : List (Nat × Instr × Nat) := [(0, .aload_n 0, 1), (1, .getfield 9, 3), (4, .aload_n 0, 1), (5, .getfield 18, 3), (8, .iload_n 1, 1), (9, .invokestatic 26, 3), (12, .aload_n 0, 1), (13, .getfield 15, 3), (16, .aload_n 0, 1), (17, .getfield 18, 3), (20, .iload_n 2, 1), (21, .invokestatic 26, 3), (24, .aload_n 0, 1), (25, .dup, 1), (26, .getfield 18, 3), (29, .iconst 1, 1), (30, .iadd, 1), (31, .putfield 18, 3), (34, .return_, 1)]
def zcX5_init : List (Nat × Instr × Nat) := [(0, .aload_n 0, 1), (1, .invokespecial 3, 3), (4, .aload_n 0, 1), (5, .iconst 4, 1), (6, .newarray .int, 2), (8, .putfield 9, 3), (11, .aload_n 0, 1), (12, .iconst 4, 1), (13, .newarray .int, 2), (15, .putfield 15, 3), (18, .aload_n 0, 1), (19, .sipush 240, 3), (22, .newarray .int, 2), (24, .putfield 18, 3), (27, .iconst 0, 1), (28, .istore_n 1, 1), (29, .iload_n 1, 1), (30, .iconst 4, 1), (31, .if_icmp .ge 14, 3), (34, .aload_n 0, 1), (35, .iload_n 1, 1), (36, .invokevirtual 21, 3), (39, .iinc 1 1, 3), (42, .goto (-13), 3), (45, .return_, 1)]
def zcX5_latestFinding : List (Nat × Instr × Nat) := [(0, .aload_n 0, 1), (1, .getfield 25, 3), (4, .ireturn, 1)]
def zcX5_find : List (Nat × Instr × Nat) := [(0, .aload_n 0, 1), (1, .iload_n 1, 1), (2, .putfield 25, 3), (5, .bipush (-10), 2), (7, .iload_n 1, 1), (8, .isub, 1), (9, .ireturn, 1)]
def zcX5_form : List (Nat × Instr × Nat) := [(0, .aload_n 0, 1), (1, .getfield 9, 3), (4, .iload_n 1, 1), (5, .invokestatic 29, 3), (8, .ireturn, 1)]
def zcX5_length : List (Nat × Instr × Nat) := [(0, .aload_n 0, 1), (1, .getfield 15, 3), (4, .iload_n 1, 1), (5, .invokestatic 29, 3), (8, .ireturn, 1)]
def zcX5_isLost : List (Nat × Instr × Nat) := [(0, .aload_n 0, 1), (1, .iload_n 1, 1), (2, .invokevirtual 33, 3), (5, .iconst (-1), 1), (6, .if_icmp .ne 7, 3), (9, .iconst 1, 1), (10, .goto 4, 3), (13, .iconst 0, 1), (14, .ireturn, 1)]
def zcX5_forget : List (Nat × Instr × Nat) := [(0, .aload_n 0, 1), (1, .getfield 9, 3), (4, .iload_n 1, 1), (5, .iconst (-1), 1), (6, .invokestatic 37, 3), (9, .aload_n 0, 1), (10, .getfield 15, 3), (13, .iload_n 1, 1), (14, .iconst 0, 1), (15, .invokestatic 37, 3), (18, .return_, 1)]
def zcX5_renew : List (Nat × Instr × Nat) := [(0, .aload_n 0, 1), (1, .getfield 9, 3), (4, .iload_n 1, 1), (5, .iload_n 2, 1), (6, .invokestatic 37, 3), (9, .aload_n 0, 1), (10, .getfield 15, 3), (13, .iload_n 1, 1), (14, .iload_n 3, 1), (15, .invokestatic 37, 3), (18, .iconst 0, 1), (19, .istore 4, 2), (21, .iload 4, 2), (23, .bipush 60, 2), (25, .if_icmp .ge 24, 3), (28, .aload_n 0, 1), (29, .getfield 18, 3), (32, .iload_n 1, 1), (33, .bipush 60, 2), (35, .imul, 1), (36, .iload 4, 2), (38, .iadd, 1), (39, .iconst 0, 1), (40, .invokestatic 37, 3), (43, .iinc 4 1, 3), (46, .goto (-25), 3), (49, .return_, 1)]
def zcX5_value : List (Nat × Instr × Nat) := [(0, .aload_n 0, 1), (1, .getfield 18, 3), (4, .iload_n 1, 1), (5, .bipush 60, 2), (7, .imul, 1), (8, .iload_n 2, 1), (9, .iadd, 1), (10, .invokestatic 29, 3), (13, .ireturn, 1)]
def zcX5_hasValue : List (Nat × Instr × Nat) := [(0, .iload_n 2, 1), (1, .aload_n 0, 1), (2, .iload_n 1, 1), (3, .invokevirtual 41, 3), (6, .if_icmp .ge 17, 3), (9, .aload_n 0, 1), (10, .iload_n 1, 1), (11, .iload_n 2, 1), (12, .invokevirtual 44, 3), (15, .iload_n 3, 1), (16, .if_icmp .ne 7, 3), (19, .iconst 1, 1), (20, .goto 4, 3), (23, .iconst 0, 1), (24, .ireturn, 1)]
def zcX5_write : List (Nat × Instr × Nat) := [(0, .aload_n 0, 1), (1, .iload_n 1, 1), (2, .invokevirtual 33, 3), (5, .ifCond .ne 8, 3), (8, .iload_n 3, 1), (9, .i2b, 1), (10, .goto 18, 3), (13, .aload_n 0, 1), (14, .iload_n 1, 1), (15, .invokevirtual 33, 3), (18, .iconst 1, 1), (19, .if_icmp .ne 8, 3), (22, .iload_n 3, 1), (23, .i2s, 1), (24, .goto 4, 3), (27, .iload_n 3, 1), (28, .istore 4, 2), (30, .aload_n 0, 1), (31, .getfield 18, 3), (34, .iload_n 1, 1), (35, .bipush 60, 2), (37, .imul, 1), (38, .iload_n 2, 1), (39, .iadd, 1), (40, .iload 4, 2), (42, .invokestatic 37, 3), (45, .return_, 1)]
def zcX5_faultAt : List (Nat × Instr × Nat) := [(0, .aload_n 0, 1), (1, .iload_n 1, 1), (2, .invokevirtual 48, 3), (5, .ifCond .eq 5, 3), (8, .iconst 1, 1), (9, .ireturn, 1), (10, .aload_n 0, 1), (11, .iload_n 1, 1), (12, .invokevirtual 33, 3), (15, .iload_n 2, 1), (16, .if_icmp .eq 5, 3), (19, .iconst 3, 1), (20, .ireturn, 1), (21, .iload_n 3, 1), (22, .ifCond .lt 12, 3), (25, .iload_n 3, 1), (26, .aload_n 0, 1), (27, .iload_n 1, 1), (28, .invokevirtual 41, 3), (31, .if_icmp .lt 7, 3), (34, .iconst 2, 1), (35, .goto 4, 3), (38, .iconst 0, 1), (39, .ireturn, 1)]
def zcX5_hasRun : List (Nat × Instr × Nat) := [(0, .iload_n 2, 1), (1, .ifCond .lt 22, 3), (4, .iload_n 3, 1), (5, .ifCond .lt 18, 3), (8, .iload_n 3, 1), (9, .aload_n 0, 1), (10, .iload_n 1, 1), (11, .invokevirtual 41, 3), (14, .iload_n 2, 1), (15, .isub, 1), (16, .if_icmp .gt 7, 3), (19, .iconst 1, 1), (20, .goto 4, 3), (23, .iconst 0, 1), (24, .ireturn, 1)]
def zcX6_init : List (Nat × Instr × Nat) := [(0, .aload_n 0, 1), (1, .invokespecial 3, 3), (4, .aload_n 0, 1), (5, .bipush 7, 2), (7, .newarray .int, 2), (9, .putfield 9, 3), (12, .aload_n 0, 1), (13, .bipush 7, 2), (15, .newarray .int, 2), (17, .putfield 15, 3), (20, .aload_n 0, 1), (21, .bipush 7, 2), (23, .newarray .int, 2), (25, .putfield 18, 3), (28, .return_, 1)]
def zcX6_size : List (Nat × Instr × Nat) := [(0, .aload_n 0, 1), (1, .getfield 21, 3), (4, .ireturn, 1)]
def zcX6_clear : List (Nat × Instr × Nat) := [(0, .aload_n 0, 1), (1, .iconst 0, 1), (2, .putfield 21, 3), (5, .return_, 1)]
def zcX6_add : List (Nat × Instr × Nat) := [(0, .aload_n 0, 1), (1, .getfield 9, 3), (4, .aload_n 0, 1), (5, .getfield 21, 3), (8, .iload_n 1, 1), (9, .invokestatic 25, 3), (12, .aload_n 0, 1), (13, .getfield 15, 3), (16, .aload_n 0, 1), (17, .getfield 21, 3), (20, .iload_n 2, 1), (21, .invokestatic 25, 3), (24, .aload_n 0, 1), (25, .getfield 18, 3), (28, .aload_n 0, 1), (29, .getfield 21, 3), (32, .iload_n 3, 1), (33, .invokestatic 25, 3), (36, .aload_n 0, 1), (37, .dup, 1), (38, .getfield 21, 3), (41, .iconst 1, 1), (42, .iadd, 1), (43, .putfield 21, 3), (46, .return_, 1)]
def zcX6_price : List (Nat × Instr × Nat) := [(0, .iconst 0, 1), (1, .istore_n 2, 1), (2, .iconst 0, 1), (3, .istore_n 3, 1), (4, .iload_n 3, 1), (5, .aload_n 0, 1), (6, .getfield 21, 3), (9, .if_icmp .ge 28, 3), (12, .iload_n 1, 1), (13, .iload_n 3, 1), (14, .ishr, 1), (15, .iconst 1, 1), (16, .iand, 1), (17, .ifCond .eq 14, 3), (20, .iload_n 2, 1), (21, .aload_n 0, 1), (22, .getfield 18, 3), (25, .iload_n 3, 1), (26, .invokestatic 29, 3), (29, .iadd, 1), (30, .istore_n 2, 1), (31, .iinc 3 1, 3), (34, .goto (-30), 3), (37, .iload_n 2, 1), (38, .ireturn, 1)]
def zcX6_isBetter : List (Nat × Instr × Nat) := [(0, .aload_n 0, 1), (1, .iload_n 2, 1), (2, .invokevirtual 33, 3), (5, .aload_n 0, 1), (6, .iload_n 1, 1), (7, .invokevirtual 33, 3), (10, .isub, 1), (11, .istore_n 3, 1), (12, .iload_n 3, 1), (13, .ifCond .gt 18, 3), (16, .iload_n 3, 1), (17, .ifCond .ne 18, 3), (20, .iload_n 1, 1), (21, .invokestatic 37, 3), (24, .iload_n 2, 1), (25, .invokestatic 37, 3), (28, .if_icmp .ge 7, 3), (31, .iconst 1, 1), (32, .goto 4, 3), (35, .iconst 0, 1), (36, .ireturn, 1)]
def zcX6_layOut : List (Nat × Instr × Nat) := [(0, .aload_n 2, 1), (1, .invokevirtual 42, 3), (4, .iconst 0, 1), (5, .istore_n 3, 1), (6, .iload_n 3, 1), (7, .aload_n 0, 1), (8, .getfield 21, 3), (11, .if_icmp .ge 37, 3), (14, .iload_n 1, 1), (15, .iload_n 3, 1), (16, .ishr, 1), (17, .iconst 1, 1), (18, .iand, 1), (19, .ifCond .eq 23, 3), (22, .aload_n 2, 1), (23, .aload_n 0, 1), (24, .getfield 9, 3), (27, .iload_n 3, 1), (28, .invokestatic 29, 3), (31, .aload_n 0, 1), (32, .getfield 15, 3), (35, .iload_n 3, 1), (36, .invokestatic 29, 3), (39, .invokevirtual 47, 3), (42, .iinc 3 1, 3), (45, .goto (-39), 3), (48, .return_, 1)]
def zcX7_init : List (Nat × Instr × Nat) := [(0, .aload_n 0, 1), (1, .invokespecial 3, 3), (4, .aload_n 0, 1), (5, .bipush 16, 2), (7, .newarray .int, 2), (9, .putfield 9, 3), (12, .aload_n 0, 1), (13, .bipush 16, 2), (15, .newarray .int, 2), (17, .putfield 15, 3), (20, .aload_n 0, 1), (21, .bipush 16, 2), (23, .newarray .int, 2), (25, .putfield 18, 3), (28, .return_, 1)]
def zcX7_size : List (Nat × Instr × Nat) := [(0, .aload_n 0, 1), (1, .getfield 21, 3), (4, .ireturn, 1)]
def zcX7_part : List (Nat × Instr × Nat) := [(0, .iload_n 2, 1), (1, .ifCond .ne 14, 3), (4, .aload_n 0, 1), (5, .getfield 9, 3), (8, .iload_n 1, 1), (9, .invokestatic 25, 3), (12, .goto 27, 3), (15, .iload_n 2, 1), (16, .iconst 1, 1), (17, .if_icmp .ne 14, 3), (20, .aload_n 0, 1), (21, .getfield 15, 3), (24, .iload_n 1, 1), (25, .invokestatic 25, 3), (28, .goto 11, 3), (31, .aload_n 0, 1), (32, .getfield 18, 3), (35, .iload_n 1, 1), (36, .invokestatic 25, 3), (39, .ireturn, 1)]
def zcX7_press : List (Nat × Instr × Nat) := [(0, .aload_n 0, 1), (1, .iconst 0, 1), (2, .putfield 21, 3), (5, .iconst 0, 1), (6, .istore 4, 2), (8, .iload 4, 2), (10, .aload_n 1, 1), (11, .invokevirtual 29, 3), (14, .if_icmp .ge 135, 3), (17, .aload_n 1, 1), (18, .iload 4, 2), (20, .invokevirtual 34, 3), (23, .istore 5, 2), (25, .aload_n 1, 1), (26, .iload 4, 2), (28, .invokevirtual 38, 3), (31, .istore 6, 2), (33, .aload_n 2, 1), (34, .iload 5, 2), (36, .invokevirtual 41, 3), (39, .istore 7, 2), (41, .aload_n 2, 1), (42, .iload 5, 2), (44, .invokevirtual 46, 3), (47, .istore 8, 2), (49, .bipush 8, 2), (51, .aload_n 2, 1), (52, .iload 5, 2), (54, .invokevirtual 49, 3), (57, .imul, 1), (58, .iload 6, 2), (60, .iload 7, 2), (62, .imul, 1), (63, .iadd, 1), (64, .istore 9, 2), (66, .bipush 8, 2), (68, .aload_n 2, 1), (69, .iload 5, 2), (71, .invokevirtual 52, 3), (74, .imul, 1), (75, .iload 6, 2), (77, .iload 8, 2), (79, .imul, 1), (80, .iadd, 1), (81, .istore 10, 2), (83, .aload_n 0, 1), (84, .iload 9, 2), (86, .iload 10, 2), (88, .bipush (-16), 2), (90, .iload 8, 2), (92, .imul, 1), (93, .iload_n 3, 1), (94, .iload 7, 2), (96, .imul, 1), (97, .iadd, 1), (98, .bipush 16, 2), (100, .iload 7, 2), (102, .imul, 1), (103, .iload_n 3, 1), (104, .iload 8, 2), (106, .imul, 1), (107, .iadd, 1), (108, .invokevirtual 55, 3), (111, .iload_n 3, 1), (112, .ifCond .eq 31, 3), (115, .aload_n 0, 1), (116, .iload 9, 2), (118, .iload 10, 2), (120, .bipush (-16), 2), (122, .iload 8, 2), (124, .imul, 1), (125, .iload_n 3, 1), (126, .iload 7, 2), (128, .imul, 1), (129, .isub, 1), (130, .bipush 16, 2), (132, .iload 7, 2), (134, .imul, 1), (135, .iload_n 3, 1), (136, .iload 8, 2), (138, .imul, 1), (139, .isub, 1), (140, .invokevirtual 55, 3), (143, .iinc 4 1, 3), (146, .goto (-138), 3), (149, .return_, 1)]
def zcX7_add : List (Nat × Instr × Nat) := [(0, .aload_n 0, 1), (1, .getfield 9, 3), (4, .aload_n 0, 1), (5, .getfield 21, 3), (8, .iload_n 3, 1), (9, .invokestatic 59, 3), (12, .aload_n 0, 1), (13, .getfield 15, 3), (16, .aload_n 0, 1), (17, .getfield 21, 3), (20, .iload 4, 2), (22, .invokestatic 59, 3), (25, .aload_n 0, 1), (26, .getfield 18, 3), (29, .aload_n 0, 1), (30, .getfield 21, 3), (33, .iload_n 1, 1), (34, .iload 4, 2), (36, .imul, 1), (37, .iload_n 2, 1), (38, .iload_n 3, 1), (39, .imul, 1), (40, .isub, 1), (41, .invokestatic 59, 3), (44, .aload_n 0, 1), (45, .dup, 1), (46, .getfield 21, 3), (49, .iconst 1, 1), (50, .iadd, 1), (51, .putfield 21, 3), (54, .return_, 1)]
def zcX7_spread : List (Nat × Instr × Nat) := [(0, .iconst 0, 1), (1, .istore_n 1, 1), (2, .iconst 0, 1), (3, .istore_n 2, 1), (4, .iload_n 2, 1), (5, .aload_n 0, 1), (6, .getfield 21, 3), (9, .if_icmp .ge 67, 3), (12, .iload_n 2, 1), (13, .iconst 1, 1), (14, .iadd, 1), (15, .istore_n 3, 1), (16, .iload_n 3, 1), (17, .aload_n 0, 1), (18, .getfield 21, 3), (21, .if_icmp .ge 49, 3), (24, .aload_n 0, 1), (25, .iload_n 2, 1), (26, .iload_n 3, 1), (27, .invokevirtual 63, 3), (30, .ifCond .eq 34, 3), (33, .aload_n 0, 1), (34, .invokevirtual 67, 3), (37, .istore 4, 2), (39, .iload 4, 2), (41, .iconst 3, 1), (42, .if_icmp .eq 20, 3), (45, .aload_n 0, 1), (46, .iload 4, 2), (48, .invokevirtual 70, 3), (51, .iload 4, 2), (53, .ifCond .ne 7, 3), (56, .iconst 0, 1), (57, .goto 4, 3), (60, .iconst 1, 1), (61, .ireturn, 1), (62, .iconst 2, 1), (63, .istore_n 1, 1), (64, .iinc 3 1, 3), (67, .goto (-51), 3), (70, .iinc 2 1, 3), (73, .goto (-69), 3), (76, .iload_n 1, 1), (77, .ireturn, 1)]
def zcX7_turnIfBelow : List (Nat × Instr × Nat) := [(0, .iload_n 1, 1), (1, .iconst 1, 1), (2, .if_icmp .ne 30, 3), (5, .aload_n 0, 1), (6, .aload_n 0, 1), (7, .getfield 74, 3), (10, .lneg, 1), (11, .putfield 74, 3), (14, .aload_n 0, 1), (15, .aload_n 0, 1), (16, .getfield 78, 3), (19, .lneg, 1), (20, .putfield 78, 3), (23, .aload_n 0, 1), (24, .aload_n 0, 1), (25, .getfield 81, 3), (28, .lneg, 1), (29, .putfield 81, 3), (32, .return_, 1)]
def zcX7_normal : List (Nat × Instr × Nat) := [(0, .iload_n 1, 1), (1, .ifCond .ne 10, 3), (4, .aload_n 0, 1), (5, .getfield 74, 3), (8, .goto 19, 3), (11, .iload_n 1, 1), (12, .iconst 1, 1), (13, .if_icmp .ne 10, 3), (16, .aload_n 0, 1), (17, .getfield 78, 3), (20, .goto 7, 3), (23, .aload_n 0, 1), (24, .getfield 81, 3), (27, .lreturn, 1)]
def zcX7_cross : List (Nat × Instr × Nat) := [(0, .aload_n 0, 1), (1, .getfield 9, 3), (4, .iload_n 1, 1), (5, .invokestatic 25, 3), (8, .i2l, 1), (9, .lstore_n 3, 1), (10, .aload_n 0, 1), (11, .getfield 15, 3), (14, .iload_n 1, 1), (15, .invokestatic 25, 3), (18, .i2l, 1), (19, .lstore 5, 2), (21, .aload_n 0, 1), (22, .getfield 18, 3), (25, .iload_n 1, 1), (26, .invokestatic 25, 3), (29, .i2l, 1), (30, .lstore 7, 2), (32, .aload_n 0, 1), (33, .getfield 9, 3), (36, .iload_n 2, 1), (37, .invokestatic 25, 3), (40, .i2l, 1), (41, .lstore 9, 2), (43, .aload_n 0, 1), (44, .getfield 15, 3), (47, .iload_n 2, 1), (48, .invokestatic 25, 3), (51, .i2l, 1), (52, .lstore 11, 2), (54, .aload_n 0, 1), (55, .getfield 18, 3), (58, .iload_n 2, 1), (59, .invokestatic 25, 3), (62, .i2l, 1), (63, .lstore 13, 2), (65, .aload_n 0, 1), (66, .lload 5, 2), (68, .lload 13, 2), (70, .lmul, 1), (71, .lload 7, 2), (73, .lload 11, 2), (75, .lmul, 1), (76, .lsub, 1), (77, .putfield 74, 3), (80, .aload_n 0, 1), (81, .lload 7, 2), (83, .lload 9, 2), (85, .lmul, 1), (86, .lload_n 3, 1), (87, .lload 13, 2), (89, .lmul, 1), (90, .lsub, 1), (91, .putfield 78, 3), (94, .aload_n 0, 1), (95, .lload_n 3, 1), (96, .lload 11, 2), (98, .lmul, 1), (99, .lload 5, 2), (101, .lload 9, 2), (103, .lmul, 1), (104, .lsub, 1), (105, .putfield 81, 3), (108, .aload_n 0, 1), (109, .getfield 74, 3), (112, .lconst 0, 1), (113, .lcmp, 1), (114, .ifCond .ne 21, 3), (117, .aload_n 0, 1), (118, .getfield 78, 3), (121, .lconst 0, 1), (122, .lcmp, 1), (123, .ifCond .ne 12, 3), (126, .aload_n 0, 1), (127, .getfield 81, 3), (130, .lconst 0, 1), (131, .lcmp, 1), (132, .ifCond .eq 7, 3), (135, .iconst 1, 1), (136, .goto 4, 3), (139, .iconst 0, 1), (140, .ireturn, 1)]
def zcX7_signs : List (Nat × Instr × Nat) := [(0, .iconst 0, 1), (1, .istore_n 1, 1), (2, .iconst 0, 1), (3, .istore_n 2, 1), (4, .iload_n 2, 1), (5, .aload_n 0, 1), (6, .getfield 21, 3), (9, .if_icmp .ge 82, 3), (12, .iload_n 1, 1), (13, .iconst 3, 1), (14, .if_icmp .eq 77, 3), (17, .aload_n 0, 1), (18, .getfield 74, 3), (21, .aload_n 0, 1), (22, .getfield 9, 3), (25, .iload_n 2, 1), (26, .invokestatic 25, 3), (29, .i2l, 1), (30, .lmul, 1), (31, .aload_n 0, 1), (32, .getfield 78, 3), (35, .aload_n 0, 1), (36, .getfield 15, 3), (39, .iload_n 2, 1), (40, .invokestatic 25, 3), (43, .i2l, 1), (44, .lmul, 1), (45, .ladd, 1), (46, .aload_n 0, 1), (47, .getfield 81, 3), (50, .aload_n 0, 1), (51, .getfield 18, 3), (54, .iload_n 2, 1), (55, .invokestatic 25, 3), (58, .i2l, 1), (59, .lmul, 1), (60, .ladd, 1), (61, .lstore_n 3, 1), (62, .lload_n 3, 1), (63, .lconst 0, 1), (64, .lcmp, 1), (65, .ifCond .ge 10, 3), (68, .iload_n 1, 1), (69, .iconst 1, 1), (70, .ior, 1), (71, .istore_n 1, 1), (72, .goto 13, 3), (75, .lload_n 3, 1), (76, .lconst 0, 1), (77, .lcmp, 1), (78, .ifCond .le 7, 3), (81, .iload_n 1, 1), (82, .iconst 2, 1), (83, .ior, 1), (84, .istore_n 1, 1), (85, .iinc 2 1, 3), (88, .goto (-84), 3), (91, .iload_n 1, 1), (92, .ireturn, 1)]
def zcX8_init : List (Nat × Instr × Nat) := [(0, .aload_n 0, 1), (1, .invokespecial 1, 3), (4, .aload_n 0, 1), (5, .new 7, 3), (8, .dup, 1), (9, .invokespecial 9, 3), (12, .putfield 10, 3), (15, .aload_n 0, 1), (16, .new 16, 3), (19, .dup, 1), (20, .invokespecial 18, 3), (23, .putfield 19, 3), (26, .aload_n 0, 1), (27, .new 16, 3), (30, .dup, 1), (31, .invokespecial 18, 3), (34, .putfield 23, 3), (37, .aload_n 0, 1), (38, .new 26, 3), (41, .dup, 1), (42, .invokespecial 28, 3), (45, .putfield 29, 3), (48, .aload_n 0, 1), (49, .new 33, 3), (52, .dup, 1), (53, .invokespecial 35, 3), (56, .putfield 36, 3), (59, .aload_n 0, 1), (60, .new 40, 3), (63, .dup, 1), (64, .invokespecial 42, 3), (67, .putfield 43, 3), (70, .aload_n 0, 1), (71, .new 47, 3), (74, .dup, 1), (75, .invokespecial 49, 3), (78, .putfield 50, 3), (81, .aload_n 0, 1), (82, .new 54, 3), (85, .dup, 1), (86, .invokespecial 56, 3), (89, .putfield 57, 3), (92, .aload_n 0, 1), (93, .new 61, 3), (96, .dup, 1), (97, .invokespecial 63, 3), (100, .putfield 64, 3), (103, .aload_n 0, 1), (104, .iconst 0, 1), (105, .putfield 68, 3), (108, .return_, 1)]
def zcX8_shape : List (Nat × Instr × Nat) := [(0, .iload_n 1, 1), (1, .invokestatic 72, 3), (4, .ifCond .eq 14, 3), (7, .iload_n 2, 1), (8, .iconst 3, 1), (9, .if_icmp .lt 9, 3), (12, .iload_n 2, 1), (13, .bipush 10, 2), (15, .if_icmp .le 6, 3), (18, .bipush (-2), 2), (20, .ireturn, 1), (21, .aload_n 0, 1), (22, .getfield 64, 3), (25, .iload_n 1, 1), (26, .invokevirtual 76, 3), (29, .ifCond .eq 12, 3), (32, .aload_n 0, 1), (33, .getfield 64, 3), (36, .iconst 1, 1), (37, .invokevirtual 79, 3), (40, .ireturn, 1), (41, .aload_n 0, 1), (42, .getfield 64, 3), (45, .iload_n 1, 1), (46, .invokevirtual 83, 3), (49, .iconst 2, 1), (50, .iload_n 2, 1), (51, .imul, 1), (52, .if_icmp .ge 12, 3), (55, .aload_n 0, 1), (56, .getfield 64, 3), (59, .iconst 2, 1), (60, .invokevirtual 79, 3), (63, .ireturn, 1), (64, .aload_n 0, 1), (65, .iload_n 1, 1), (66, .iload_n 2, 1), (67, .invokevirtual 86, 3), (70, .ifCond .ne 6, 3), (73, .bipush (-3), 2), (75, .ireturn, 1), (76, .iconst 0, 1), (77, .istore_n 3, 1), (78, .iload_n 3, 1), (79, .iload_n 2, 1), (80, .if_icmp .ge 41, 3), (83, .aload_n 0, 1), (84, .getfield 10, 3), (87, .iload_n 3, 1), (88, .aload_n 0, 1), (89, .getfield 64, 3), (92, .iload_n 1, 1), (93, .iconst 2, 1), (94, .iload_n 3, 1), (95, .imul, 1), (96, .invokevirtual 90, 3), (99, .aload_n 0, 1), (100, .getfield 64, 3), (103, .iload_n 1, 1), (104, .iconst 2, 1), (105, .iload_n 3, 1), (106, .imul, 1), (107, .iconst 1, 1), (108, .iadd, 1), (109, .invokevirtual 90, 3), (112, .invokevirtual 94, 3), (115, .iinc 3 1, 3), (118, .goto (-40), 3), (121, .aload_n 0, 1), (122, .getfield 10, 3), (125, .iload_n 2, 1), (126, .invokevirtual 98, 3), (129, .aload_n 0, 1), (130, .getfield 19, 3), (133, .invokevirtual 102, 3), (136, .aload_n 0, 1), (137, .getfield 36, 3), (140, .invokevirtual 105, 3), (143, .aload_n 0, 1), (144, .getfield 10, 3), (147, .invokevirtual 106, 3), (150, .ireturn, 1)]
def zcX8_isShape : List (Nat × Instr × Nat) := [(0, .iconst 0, 1), (1, .istore_n 3, 1), (2, .iload_n 3, 1), (3, .iconst 2, 1), (4, .iload_n 2, 1), (5, .imul, 1), (6, .if_icmp .ge 28, 3), (9, .aload_n 0, 1), (10, .getfield 64, 3), (13, .iload_n 1, 1), (14, .iload_n 3, 1), (15, .invokevirtual 90, 3), (18, .bipush 30, 2), (20, .invokestatic 110, 3), (23, .ifCond .ne 5, 3), (26, .iconst 0, 1), (27, .ireturn, 1), (28, .iinc 3 1, 3), (31, .goto (-29), 3), (34, .iconst 0, 1), (35, .istore_n 3, 1), (36, .iconst 0, 1), (37, .istore 4, 2), (39, .iload 4, 2), (41, .iload_n 2, 1), (42, .if_icmp .ge 85, 3), (45, .iload 4, 2), (47, .iconst 1, 1), (48, .iadd, 1), (49, .iload_n 2, 1), (50, .if_icmp .ge 10, 3), (53, .iload 4, 2), (55, .iconst 1, 1), (56, .iadd, 1), (57, .goto 4, 3), (60, .iconst 0, 1), (61, .istore 5, 2), (63, .iload_n 3, 1), (64, .aload_n 0, 1), (65, .getfield 64, 3), (68, .iload_n 1, 1), (69, .iconst 2, 1), (70, .iload 4, 2), (72, .imul, 1), (73, .invokevirtual 90, 3), (76, .aload_n 0, 1), (77, .getfield 64, 3), (80, .iload_n 1, 1), (81, .iconst 2, 1), (82, .iload 5, 2), (84, .imul, 1), (85, .iconst 1, 1), (86, .iadd, 1), (87, .invokevirtual 90, 3), (90, .imul, 1), (91, .aload_n 0, 1), (92, .getfield 64, 3), (95, .iload_n 1, 1), (96, .iconst 2, 1), (97, .iload 4, 2), (99, .imul, 1), (100, .iconst 1, 1), (101, .iadd, 1), (102, .invokevirtual 90, 3), (105, .aload_n 0, 1), (106, .getfield 64, 3), (109, .iload_n 1, 1), (110, .iconst 2, 1), (111, .iload 5, 2), (113, .imul, 1), (114, .invokevirtual 90, 3), (117, .imul, 1), (118, .isub, 1), (119, .iadd, 1), (120, .istore_n 3, 1), (121, .iinc 4 1, 3), (124, .goto (-85), 3), (127, .iload_n 3, 1), (128, .ifCond .le 7, 3), (131, .iconst 1, 1), (132, .goto 4, 3), (135, .iconst 0, 1), (136, .ireturn, 1)]
def zcX8_corner : List (Nat × Instr × Nat) := [(0, .iload_n 1, 1), (1, .ifCond .lt 23, 3), (4, .iload_n 1, 1), (5, .aload_n 0, 1), (6, .getfield 10, 3), (9, .invokevirtual 113, 3), (12, .if_icmp .ge 12, 3), (15, .iload_n 2, 1), (16, .ifCond .lt 8, 3), (19, .iload_n 2, 1), (20, .iconst 1, 1), (21, .if_icmp .le 7, 3), (24, .sipush (-1000), 3), (27, .ireturn, 1), (28, .iload_n 2, 1), (29, .ifCond .ne 14, 3), (32, .aload_n 0, 1), (33, .getfield 10, 3), (36, .iload_n 1, 1), (37, .invokevirtual 116, 3), (40, .goto 11, 3), (43, .aload_n 0, 1), (44, .getfield 10, 3), (47, .iload_n 1, 1), (48, .invokevirtual 119, 3), (51, .ireturn, 1)]
def zcX8_middle : List (Nat × Instr × Nat) := [(0, .iload_n 1, 1), (1, .tableswitch 51 0 2 #[27, 35, 43], 27), (28, .aload_n 0, 1), (29, .getfield 10, 3), (32, .invokevirtual 106, 3), (35, .ireturn, 1), (36, .aload_n 0, 1), (37, .getfield 10, 3), (40, .invokevirtual 122, 3), (43, .ireturn, 1), (44, .aload_n 0, 1), (45, .getfield 10, 3), (48, .invokevirtual 125, 3), (51, .ireturn, 1), (52, .ldc 128, 2), (54, .ireturn, 1)]
def zcX8_isIn : List (Nat × Instr × Nat) := [(0, .iload_n 1, 1), (1, .iload_n 2, 1), (2, .invokestatic 129, 3), (5, .ifCond .eq 15, 3), (8, .aload_n 0, 1), (9, .getfield 10, 3), (12, .iload_n 1, 1), (13, .iload_n 2, 1), (14, .invokevirtual 132, 3), (17, .goto 5, 3), (20, .bipush (-2), 2), (22, .ireturn, 1)]
def zcX8_finger : List (Nat × Instr × Nat) := [(0, .aload_n 0, 1), (1, .iload_n 1, 1), (2, .iload_n 2, 1), (3, .invokevirtual 135, 3), (6, .ifCond .ne 6, 3), (9, .bipush (-2), 2), (11, .ireturn, 1), (12, .aload_n 0, 1), (13, .getfield 19, 3), (16, .invokevirtual 138, 3), (19, .bipush 8, 2), (21, .if_icmp .lt 6, 3), (24, .bipush (-4), 2), (26, .ireturn, 1), (27, .aload_n 0, 1), (28, .getfield 19, 3), (31, .iload_n 1, 1), (32, .iload_n 2, 1), (33, .invokevirtual 141, 3), (36, .aload_n 0, 1), (37, .getfield 19, 3), (40, .invokevirtual 138, 3), (43, .iconst 1, 1), (44, .isub, 1), (45, .ireturn, 1)]
def zcX8_move : List (Nat × Instr × Nat) := [(0, .aload_n 0, 1), (1, .iload_n 1, 1), (2, .invokevirtual 145, 3), (5, .ifCond .eq 12, 3), (8, .aload_n 0, 1), (9, .iload_n 2, 1), (10, .iload_n 3, 1), (11, .invokevirtual 135, 3), (14, .ifCond .ne 6, 3), (17, .bipush (-2), 2), (19, .ireturn, 1), (20, .aload_n 0, 1), (21, .getfield 19, 3), (24, .iload_n 1, 1), (25, .iload_n 2, 1), (26, .iload_n 3, 1), (27, .invokevirtual 148, 3), (30, .iconst 1, 1), (31, .ireturn, 1)]
def zcX8_release : List (Nat × Instr × Nat) := [(0, .aload_n 0, 1), (1, .getfield 19, 3), (4, .invokevirtual 138, 3), (7, .istore_n 1, 1), (8, .aload_n 0, 1), (9, .getfield 19, 3), (12, .invokevirtual 102, 3), (15, .iload_n 1, 1), (16, .ireturn, 1)]
def zcX8_friction : List (Nat × Instr × Nat) := [(0, .iload_n 1, 1), (1, .ifCond .lt 9, 3), (4, .iload_n 1, 1), (5, .bipush 16, 2), (7, .if_icmp .le 6, 3), (10, .bipush (-2), 2), (12, .ireturn, 1), (13, .aload_n 0, 1), (14, .getfield 68, 3), (17, .istore_n 2, 1), (18, .aload_n 0, 1), (19, .iload_n 1, 1), (20, .putfield 68, 3), (23, .iload_n 2, 1), (24, .ireturn, 1)]
def zcX8_push : List (Nat × Instr × Nat) := [(0, .aload_n 0, 1), (1, .getfield 29, 3), (4, .aload_n 0, 1), (5, .getfield 19, 3), (8, .aload_n 0, 1), (9, .getfield 10, 3), (12, .aload_n 0, 1), (13, .getfield 68, 3), (16, .invokevirtual 151, 3), (19, .iload_n 1, 1), (20, .ifCond .lt 21, 3), (23, .iload_n 1, 1), (24, .aload_n 0, 1), (25, .getfield 29, 3), (28, .invokevirtual 155, 3), (31, .if_icmp .ge 10, 3), (34, .iload_n 2, 1), (35, .invokestatic 156, 3), (38, .ifCond .ne 9, 3), (41, .bipush (-2), 2), (43, .invokestatic 159, 3), (46, .lreturn, 1), (47, .aload_n 0, 1), (48, .getfield 29, 3), (51, .iload_n 1, 1), (52, .iload_n 2, 1), (53, .invokevirtual 163, 3), (56, .i2l, 1), (57, .lreturn, 1)]
def zcX8_holds : List (Nat × Instr × Nat) := [(0, .aload_n 0, 1), (1, .aload_n 0, 1), (2, .getfield 19, 3), (5, .invokevirtual 166, 3), (8, .ifCond .eq 7, 3), (11, .iconst 1, 1), (12, .goto 4, 3), (15, .iconst 0, 1), (16, .ireturn, 1)]
def zcX8_witness : List (Nat × Instr × Nat) := [(0, .iload_n 1, 1), (1, .invokestatic 156, 3), (4, .ifCond .ne 9, 3), (7, .bipush (-2), 2), (9, .invokestatic 159, 3), (12, .lreturn, 1), (13, .aload_n 0, 1), (14, .getfield 29, 3), (17, .aload_n 0, 1), (18, .getfield 19, 3), (21, .aload_n 0, 1), (22, .getfield 10, 3), (25, .aload_n 0, 1), (26, .getfield 68, 3), (29, .invokevirtual 151, 3), (32, .aload_n 0, 1), (33, .getfield 29, 3), (36, .invokevirtual 170, 3), (39, .iconst 1, 1), (40, .if_icmp .ne 14, 3), (43, .aload_n 0, 1), (44, .getfield 29, 3), (47, .iload_n 1, 1), (48, .invokevirtual 173, 3), (51, .goto 8, 3), (54, .bipush (-3), 2), (56, .invokestatic 159, 3), (59, .lreturn, 1)]
def zcX8_free : List (Nat × Instr × Nat) := [(0, .aload_n 0, 1), (1, .iload_n 1, 1), (2, .invokevirtual 145, 3), (5, .ifCond .ne 6, 3), (8, .bipush (-2), 2), (10, .ireturn, 1), (11, .aload_n 0, 1), (12, .getfield 23, 3), (15, .aload_n 0, 1), (16, .getfield 19, 3), (19, .invokevirtual 176, 3), (22, .iconst 0, 1), (23, .istore_n 2, 1), (24, .iconst 0, 1), (25, .istore_n 3, 1), (26, .iload_n 3, 1), (27, .bipush 8, 2), (29, .if_icmp .gt 43, 3), (32, .aload_n 0, 1), (33, .getfield 23, 3), (36, .iload_n 1, 1), (37, .aload_n 0, 1), (38, .getfield 19, 3), (41, .iload_n 1, 1), (42, .invokevirtual 180, 3), (45, .iload_n 3, 1), (46, .invokevirtual 148, 3), (49, .aload_n 0, 1), (50, .aload_n 0, 1), (51, .getfield 23, 3), (54, .invokevirtual 166, 3), (57, .ifCond .eq 9, 3), (60, .iload_n 2, 1), (61, .iconst 1, 1), (62, .iload_n 3, 1), (63, .ishl, 1), (64, .ior, 1), (65, .istore_n 2, 1), (66, .iinc 3 1, 3), (69, .goto (-43), 3), (72, .iload_n 2, 1), (73, .ireturn, 1)]
def zcX8_slip : List (Nat × Instr × Nat) := [(0, .aload_n 0, 1), (1, .getfield 19, 3), (4, .invokevirtual 138, 3), (7, .iconst 4, 1), (8, .if_icmp .le 6, 3), (11, .bipush (-3), 2), (13, .ireturn, 1), (14, .aload_n 0, 1), (15, .aload_n 0, 1), (16, .getfield 19, 3), (19, .invokevirtual 166, 3), (22, .ifCond .ne 5, 3), (25, .iconst (-1), 1), (26, .ireturn, 1), (27, .bipush 8, 2), (29, .istore_n 1, 1), (30, .iload_n 1, 1), (31, .ifCond .le 19, 3), (34, .aload_n 0, 1), (35, .iload_n 1, 1), (36, .invokevirtual 183, 3), (39, .ifCond .eq 5, 3), (42, .iload_n 1, 1), (43, .ireturn, 1), (44, .iinc 1 (-1), 3), (47, .goto (-17), 3), (50, .iconst 0, 1), (51, .ireturn, 1)]
def zcX8_isHeldWithin : List (Nat × Instr × Nat) := [(0, .iconst 1, 1), (1, .istore_n 2, 1), (2, .iconst 0, 1), (3, .istore_n 3, 1), (4, .iload_n 3, 1), (5, .aload_n 0, 1), (6, .getfield 19, 3), (9, .invokevirtual 138, 3), (12, .if_icmp .ge 18, 3), (15, .iload_n 3, 1), (16, .iconst 4, 1), (17, .if_icmp .ge 13, 3), (20, .iload_n 2, 1), (21, .iconst 3, 1), (22, .imul, 1), (23, .istore_n 2, 1), (24, .iinc 3 1, 3), (27, .goto (-23), 3), (30, .iconst 0, 1), (31, .istore_n 3, 1), (32, .iload_n 3, 1), (33, .iload_n 2, 1), (34, .if_icmp .ge 31, 3), (37, .aload_n 0, 1), (38, .iload_n 3, 1), (39, .iload_n 1, 1), (40, .invokevirtual 186, 3), (43, .ifCond .eq 16, 3), (46, .aload_n 0, 1), (47, .aload_n 0, 1), (48, .getfield 23, 3), (51, .invokevirtual 166, 3), (54, .ifCond .ne 5, 3), (57, .iconst 0, 1), (58, .ireturn, 1), (59, .iinc 3 1, 3), (62, .goto (-30), 3), (65, .iconst 1, 1), (66, .ireturn, 1)]
def zcX8_slide : List (Nat × Instr × Nat) := [(0, .aload_n 0, 1), (1, .getfield 23, 3), (4, .aload_n 0, 1), (5, .getfield 19, 3), (8, .invokevirtual 176, 3), (11, .iload_n 1, 1), (12, .istore_n 3, 1), (13, .iconst 0, 1), (14, .istore 4, 2), (16, .iload 4, 2), (18, .aload_n 0, 1), (19, .getfield 19, 3), (22, .invokevirtual 138, 3), (25, .if_icmp .ge 81, 3), (28, .aload_n 0, 1), (29, .getfield 19, 3), (32, .iload 4, 2), (34, .invokevirtual 189, 3), (37, .istore 5, 2), (39, .bipush 8, 2), (41, .iconst 0, 1), (42, .iload 5, 2), (44, .iload_n 3, 1), (45, .iconst 3, 1), (46, .irem, 1), (47, .iconst 1, 1), (48, .isub, 1), (49, .iload_n 2, 1), (50, .imul, 1), (51, .iadd, 1), (52, .invokestatic 192, 3), (55, .invokestatic 197, 3), (58, .istore 6, 2), (60, .iload_n 3, 1), (61, .iconst 3, 1), (62, .irem, 1), (63, .iconst 1, 1), (64, .if_icmp .eq 12, 3), (67, .iload 6, 2), (69, .iload 5, 2), (71, .if_icmp .ne 5, 3), (74, .iconst 0, 1), (75, .ireturn, 1), (76, .aload_n 0, 1), (77, .getfield 23, 3), (80, .iload 4, 2), (82, .aload_n 0, 1), (83, .getfield 19, 3), (86, .iload 4, 2), (88, .invokevirtual 180, 3), (91, .iload 6, 2), (93, .invokevirtual 148, 3), (96, .iload_n 3, 1), (97, .iconst 3, 1), (98, .idiv, 1), (99, .istore_n 3, 1), (100, .iinc 4 1, 3), (103, .goto (-87), 3), (106, .iconst 1, 1), (107, .ireturn, 1)]
def zcX8_isHeldBy : List (Nat × Instr × Nat) := [(0, .aload_n 0, 1), (1, .getfield 29, 3), (4, .aload_n 1, 1), (5, .aload_n 0, 1), (6, .getfield 10, 3), (9, .aload_n 0, 1), (10, .getfield 68, 3), (13, .invokevirtual 151, 3), (16, .aload_n 0, 1), (17, .getfield 29, 3), (20, .invokevirtual 170, 3), (23, .iconst 2, 1), (24, .if_icmp .ne 7, 3), (27, .iconst 1, 1), (28, .goto 4, 3), (31, .iconst 0, 1), (32, .ireturn, 1)]
def zcX8_spot : List (Nat × Instr × Nat) := [(0, .aload_n 0, 1), (1, .iload_n 1, 1), (2, .iload_n 2, 1), (3, .invokevirtual 135, 3), (6, .ifCond .eq 14, 3), (9, .iload_n 3, 1), (10, .ifCond .lt 10, 3), (13, .iload_n 3, 1), (14, .sipush 1000, 3), (17, .if_icmp .le 6, 3), (20, .bipush (-2), 2), (22, .ireturn, 1), (23, .aload_n 0, 1), (24, .getfield 36, 3), (27, .invokevirtual 200, 3), (30, .bipush 7, 2), (32, .if_icmp .lt 6, 3), (35, .bipush (-4), 2), (37, .ireturn, 1), (38, .aload_n 0, 1), (39, .getfield 36, 3), (42, .iload_n 1, 1), (43, .iload_n 2, 1), (44, .iload_n 3, 1), (45, .invokevirtual 201, 3), (48, .aload_n 0, 1), (49, .getfield 36, 3), (52, .invokevirtual 200, 3), (55, .ireturn, 1)]
def zcX8_cheapest : List (Nat × Instr × Nat) := [(0, .iconst (-1), 1), (1, .istore_n 1, 1), (2, .iconst 1, 1), (3, .istore_n 2, 1), (4, .iload_n 2, 1), (5, .iconst 1, 1), (6, .aload_n 0, 1), (7, .getfield 36, 3), (10, .invokevirtual 200, 3), (13, .ishl, 1), (14, .if_icmp .ge 55, 3), (17, .iload_n 1, 1), (18, .iconst (-1), 1), (19, .if_icmp .eq 15, 3), (22, .aload_n 0, 1), (23, .getfield 36, 3), (26, .iload_n 2, 1), (27, .iload_n 1, 1), (28, .invokevirtual 203, 3), (31, .ifCond .eq 32, 3), (34, .aload_n 0, 1), (35, .getfield 36, 3), (38, .iload_n 2, 1), (39, .aload_n 0, 1), (40, .getfield 23, 3), (43, .invokevirtual 206, 3), (46, .aload_n 0, 1), (47, .aload_n 0, 1), (48, .getfield 23, 3), (51, .invokevirtual 166, 3), (54, .ifCond .eq 7, 3), (57, .iload_n 2, 1), (58, .goto 4, 3), (61, .iload_n 1, 1), (62, .istore_n 1, 1), (63, .iinc 2 1, 3), (66, .goto (-62), 3), (69, .iload_n 1, 1), (70, .ireturn, 1)]
def zcX8_take : List (Nat × Instr × Nat) := [(0, .aload_n 0, 1), (1, .invokevirtual 210, 3), (4, .istore_n 1, 1), (5, .iload_n 1, 1), (6, .iconst (-1), 1), (7, .if_icmp .ne 6, 3), (10, .bipush (-3), 2), (12, .ireturn, 1), (13, .aload_n 0, 1), (14, .getfield 36, 3), (17, .iload_n 1, 1), (18, .aload_n 0, 1), (19, .getfield 19, 3), (22, .invokevirtual 206, 3), (25, .aload_n 0, 1), (26, .getfield 36, 3), (29, .iload_n 1, 1), (30, .invokevirtual 213, 3), (33, .ireturn, 1)]
def zcX8_lifts : List (Nat × Instr × Nat) := [(0, .iload_n 1, 1), (1, .iload_n 2, 1), (2, .invokestatic 129, 3), (5, .ifCond .eq 22, 3), (8, .iload_n 3, 1), (9, .invokestatic 216, 3), (12, .ifCond .eq 15, 3), (15, .iload 4, 2), (17, .ifCond .lt 10, 3), (20, .iload 4, 2), (22, .ldc 219, 2), (24, .if_icmp .le 6, 3), (27, .bipush (-2), 2), (29, .ireturn, 1), (30, .aload_n 0, 1), (31, .getfield 10, 3), (34, .iload_n 1, 1), (35, .iload_n 2, 1), (36, .invokevirtual 132, 3), (39, .ifCond .eq 29, 3), (42, .aload_n 0, 1), (43, .getfield 10, 3), (46, .aload_n 0, 1), (47, .getfield 10, 3), (50, .iload_n 1, 1), (51, .iload_n 2, 1), (52, .iload_n 3, 1), (53, .invokevirtual 220, 3), (56, .iload 4, 2), (58, .invokevirtual 224, 3), (61, .ifCond .eq 7, 3), (64, .iconst 1, 1), (65, .goto 4, 3), (68, .iconst 0, 1), (69, .ireturn, 1)]
def zcX8_seal : List (Nat × Instr × Nat) := [(0, .iload_n 1, 1), (1, .iload_n 2, 1), (2, .invokestatic 129, 3), (5, .ifCond .eq 10, 3), (8, .iload_n 3, 1), (9, .invokestatic 216, 3), (12, .ifCond .ne 6, 3), (15, .bipush (-2), 2), (17, .ireturn, 1), (18, .aload_n 0, 1), (19, .getfield 10, 3), (22, .iload_n 1, 1), (23, .iload_n 2, 1), (24, .invokevirtual 132, 3), (27, .ifCond .ne 6, 3), (30, .bipush (-3), 2), (32, .ireturn, 1), (33, .aload_n 0, 1), (34, .getfield 10, 3), (37, .aload_n 0, 1), (38, .getfield 10, 3), (41, .iload_n 1, 1), (42, .iload_n 2, 1), (43, .iload_n 3, 1), (44, .invokevirtual 220, 3), (47, .invokevirtual 228, 3), (50, .ireturn, 1)]
def zcX8_probe : List (Nat × Instr × Nat) := [(0, .iload_n 1, 1), (1, .bipush 40, 2), (3, .invokestatic 110, 3), (6, .ifCond .eq 12, 3), (9, .iload_n 2, 1), (10, .bipush 40, 2), (12, .invokestatic 110, 3), (15, .ifCond .ne 6, 3), (18, .bipush (-2), 2), (20, .ireturn, 1), (21, .aload_n 0, 1), (22, .getfield 43, 3), (25, .invokevirtual 232, 3), (28, .bipush 20, 2), (30, .if_icmp .lt 6, 3), (33, .bipush (-4), 2), (35, .ireturn, 1), (36, .aload_n 0, 1), (37, .getfield 43, 3), (40, .iload_n 1, 1), (41, .iload_n 2, 1), (42, .invokevirtual 233, 3), (45, .aload_n 0, 1), (46, .getfield 43, 3), (49, .invokevirtual 232, 3), (52, .ireturn, 1)]
def zcX8_poses : List (Nat × Instr × Nat) := [(0, .iconst 0, 1), (1, .istore_n 1, 1), (2, .bipush (-4), 2), (4, .istore_n 2, 1), (5, .iload_n 2, 1), (6, .iconst 4, 1), (7, .if_icmp .gt 35, 3), (10, .bipush (-4), 2), (12, .istore_n 3, 1), (13, .iload_n 3, 1), (14, .iconst 4, 1), (15, .if_icmp .gt 21, 3), (18, .aload_n 0, 1), (19, .iload_n 2, 1), (20, .iload_n 3, 1), (21, .invokevirtual 234, 3), (24, .ifCond .eq 6, 3), (27, .iinc 1 1, 3), (30, .iinc 3 1, 3), (33, .goto (-20), 3), (36, .iinc 2 1, 3), (39, .goto (-34), 3), (42, .iload_n 1, 1), (43, .ireturn, 1)]
def zcX8_pose : List (Nat × Instr × Nat) := [(0, .iload_n 1, 1), (1, .ifCond .ge 6, 3), (4, .bipush (-2), 2), (6, .ireturn, 1), (7, .iconst 0, 1), (8, .istore_n 2, 1), (9, .bipush (-4), 2), (11, .istore_n 3, 1), (12, .iload_n 3, 1), (13, .iconst 4, 1), (14, .if_icmp .gt 55, 3), (17, .bipush (-4), 2), (19, .istore 4, 2), (21, .iload 4, 2), (23, .iconst 4, 1), (24, .if_icmp .gt 39, 3), (27, .aload_n 0, 1), (28, .iload_n 3, 1), (29, .iload 4, 2), (31, .invokevirtual 234, 3), (34, .ifCond .eq 23, 3), (37, .iload_n 2, 1), (38, .iload_n 1, 1), (39, .if_icmp .ne 15, 3), (42, .bipush 10, 2), (44, .iload_n 3, 1), (45, .iconst 4, 1), (46, .iadd, 1), (47, .imul, 1), (48, .iload 4, 2), (50, .iadd, 1), (51, .iconst 4, 1), (52, .iadd, 1), (53, .ireturn, 1), (54, .iinc 2 1, 3), (57, .iinc 4 1, 3), (60, .goto (-39), 3), (63, .iinc 3 1, 3), (66, .goto (-54), 3), (69, .bipush (-2), 2), (71, .ireturn, 1)]
def zcX8_fits : List (Nat × Instr × Nat) := [(0, .iconst 0, 1), (1, .istore_n 3, 1), (2, .iload_n 3, 1), (3, .aload_n 0, 1), (4, .getfield 43, 3), (7, .invokevirtual 232, 3), (10, .if_icmp .ge 95, 3), (13, .aload_n 0, 1), (14, .getfield 64, 3), (17, .iconst 0, 1), (18, .iload_n 3, 1), (19, .iconst 1, 1), (20, .invokevirtual 237, 3), (23, .istore 4, 2), (25, .aload_n 0, 1), (26, .getfield 64, 3), (29, .iconst 0, 1), (30, .iload_n 3, 1), (31, .iconst 0, 1), (32, .invokevirtual 237, 3), (35, .istore 5, 2), (37, .iload 4, 2), (39, .ifCond .ne 8, 3), (42, .iload 5, 2), (44, .ifCond .eq 55, 3), (47, .aload_n 0, 1), (48, .getfield 10, 3), (51, .bipush 8, 2), (53, .aload_n 0, 1), (54, .getfield 43, 3), (57, .iload_n 3, 1), (58, .invokevirtual 241, 3), (61, .iload_n 1, 1), (62, .isub, 1), (63, .imul, 1), (64, .bipush 8, 2), (66, .aload_n 0, 1), (67, .getfield 43, 3), (70, .iload_n 3, 1), (71, .invokevirtual 242, 3), (74, .iload_n 2, 1), (75, .isub, 1), (76, .imul, 1), (77, .invokevirtual 132, 3), (80, .istore 6, 2), (82, .iload 4, 2), (84, .iload 6, 2), (86, .ifCond .eq 7, 3), (89, .iconst 1, 1), (90, .goto 4, 3), (93, .iconst 0, 1), (94, .if_icmp .eq 5, 3), (97, .iconst 0, 1), (98, .ireturn, 1), (99, .iinc 3 1, 3), (102, .goto (-100), 3), (105, .iconst 1, 1), (106, .ireturn, 1)]
def zcX8_grip : List (Nat × Instr × Nat) := [(0, .aload_n 0, 1), (1, .getfield 50, 3), (4, .invokevirtual 243, 3), (7, .bipush 10, 2), (9, .if_icmp .lt 6, 3), (12, .bipush (-4), 2), (14, .ireturn, 1), (15, .aload_n 0, 1), (16, .getfield 50, 3), (19, .invokevirtual 244, 3), (22, .aload_n 0, 1), (23, .getfield 50, 3), (26, .invokevirtual 243, 3), (29, .iconst 1, 1), (30, .isub, 1), (31, .ireturn, 1)]
def zcX8_link : List (Nat × Instr × Nat) := [(0, .aload_n 0, 1), (1, .iload_n 1, 1), (2, .invokevirtual 246, 3), (5, .ifCond .eq 28, 3), (8, .aload_n 0, 1), (9, .iload_n 2, 1), (10, .invokevirtual 246, 3), (13, .ifCond .eq 20, 3), (16, .iload_n 1, 1), (17, .iload_n 2, 1), (18, .if_icmp .eq 15, 3), (21, .iload_n 3, 1), (22, .iconst 1, 1), (23, .if_icmp .lt 10, 3), (26, .iload_n 3, 1), (27, .sipush 1000, 3), (30, .if_icmp .le 6, 3), (33, .bipush (-2), 2), (35, .ireturn, 1), (36, .aload_n 0, 1), (37, .getfield 50, 3), (40, .iload_n 1, 1), (41, .iload_n 2, 1), (42, .iload_n 3, 1), (43, .invokevirtual 249, 3), (46, .iconst 1, 1), (47, .ireturn, 1)]
def zcX8_way : List (Nat × Instr × Nat) := [(0, .aload_n 0, 1), (1, .iload_n 1, 1), (2, .invokevirtual 246, 3), (5, .ifCond .eq 11, 3), (8, .aload_n 0, 1), (9, .iload_n 2, 1), (10, .invokevirtual 246, 3), (13, .ifCond .ne 6, 3), (16, .bipush (-2), 2), (18, .ireturn, 1), (19, .aload_n 0, 1), (20, .getfield 50, 3), (23, .iload_n 1, 1), (24, .iload_n 2, 1), (25, .invokevirtual 252, 3), (28, .ireturn, 1)]
def zcX8_drop : List (Nat × Instr × Nat) := [(0, .aload_n 0, 1), (1, .getfield 57, 3), (4, .invokevirtual 255, 3), (7, .bipush 12, 2), (9, .if_icmp .lt 6, 3), (12, .bipush (-4), 2), (14, .ireturn, 1), (15, .aload_n 0, 1), (16, .getfield 57, 3), (19, .invokevirtual 258, 3), (22, .aload_n 0, 1), (23, .getfield 57, 3), (26, .invokevirtual 255, 3), (29, .iconst 1, 1), (30, .isub, 1), (31, .ireturn, 1)]
def zcX8_on : List (Nat × Instr × Nat) := [(0, .aload_n 0, 1), (1, .iload_n 1, 1), (2, .invokevirtual 259, 3), (5, .ifCond .eq 16, 3), (8, .aload_n 0, 1), (9, .iload_n 2, 1), (10, .invokevirtual 259, 3), (13, .ifCond .eq 8, 3), (16, .iload_n 1, 1), (17, .iload_n 2, 1), (18, .if_icmp .ne 6, 3), (21, .bipush (-2), 2), (23, .ireturn, 1), (24, .aload_n 0, 1), (25, .getfield 57, 3), (28, .iload_n 1, 1), (29, .iload_n 2, 1), (30, .invokevirtual 262, 3), (33, .iconst 1, 1), (34, .ireturn, 1)]
def zcX8_pick : List (Nat × Instr × Nat) := [(0, .aload_n 0, 1), (1, .iload_n 1, 1), (2, .invokevirtual 259, 3), (5, .ifCond .ne 6, 3), (8, .bipush (-2), 2), (10, .ireturn, 1), (11, .aload_n 0, 1), (12, .getfield 57, 3), (15, .iload_n 1, 1), (16, .invokevirtual 265, 3), (19, .ifCond .eq 14, 3), (22, .aload_n 0, 1), (23, .getfield 57, 3), (26, .iload_n 1, 1), (27, .invokevirtual 268, 3), (30, .ifCond .eq 6, 3), (33, .bipush (-3), 2), (35, .ireturn, 1), (36, .aload_n 0, 1), (37, .getfield 57, 3), (40, .iload_n 1, 1), (41, .invokevirtual 271, 3), (44, .iconst 1, 1), (45, .ireturn, 1)]
def zcX8_reach : List (Nat × Instr × Nat) := [(0, .aload_n 0, 1), (1, .iload_n 1, 1), (2, .invokevirtual 259, 3), (5, .ifCond .ne 6, 3), (8, .bipush (-2), 2), (10, .ireturn, 1), (11, .aload_n 0, 1), (12, .getfield 57, 3), (15, .iload_n 1, 1), (16, .invokevirtual 265, 3), (19, .ifCond .ne 6, 3), (22, .bipush (-3), 2), (24, .ireturn, 1), (25, .aload_n 0, 1), (26, .getfield 57, 3), (29, .invokevirtual 274, 3), (32, .iload_n 1, 1), (33, .ishr, 1), (34, .iconst 1, 1), (35, .iand, 1), (36, .ifCond .eq 7, 3), (39, .iconst (-1), 1), (40, .goto 14, 3), (43, .aload_n 0, 1), (44, .getfield 57, 3), (47, .iload_n 1, 1), (48, .invokevirtual 277, 3), (51, .invokestatic 280, 3), (54, .ireturn, 1)]
def zcX8_stuck : List (Nat × Instr × Nat) := [(0, .aload_n 0, 1), (1, .getfield 57, 3), (4, .invokevirtual 274, 3), (7, .ireturn, 1)]
def zcX8_sheet : List (Nat × Instr × Nat) := [(0, .iload_n 1, 1), (1, .invokestatic 72, 3), (4, .ifCond .eq 16, 3), (7, .iload_n 2, 1), (8, .invokestatic 285, 3), (11, .ifCond .eq 9, 3), (14, .iload_n 3, 1), (15, .bipush 60, 2), (17, .if_icmp .le 6, 3), (20, .bipush (-2), 2), (22, .ireturn, 1), (23, .iload_n 3, 1), (24, .ifCond .ge 12, 3), (27, .aload_n 0, 1), (28, .getfield 64, 3), (31, .iconst 5, 1), (32, .invokevirtual 79, 3), (35, .ireturn, 1), (36, .aload_n 0, 1), (37, .getfield 64, 3), (40, .iload_n 1, 1), (41, .iload_n 2, 1), (42, .iload_n 3, 1), (43, .invokevirtual 288, 3), (46, .iload_n 3, 1), (47, .ireturn, 1)]
def zcX8_lose : List (Nat × Instr × Nat) := [(0, .iload_n 1, 1), (1, .invokestatic 72, 3), (4, .ifCond .ne 6, 3), (7, .bipush (-2), 2), (9, .ireturn, 1), (10, .aload_n 0, 1), (11, .getfield 64, 3), (14, .iload_n 1, 1), (15, .invokevirtual 76, 3), (18, .ifCond .eq 12, 3), (21, .aload_n 0, 1), (22, .getfield 64, 3), (25, .iconst 1, 1), (26, .invokevirtual 79, 3), (29, .ireturn, 1), (30, .aload_n 0, 1), (31, .getfield 64, 3), (34, .iload_n 1, 1), (35, .invokevirtual 83, 3), (38, .istore_n 2, 1), (39, .aload_n 0, 1), (40, .getfield 64, 3), (43, .iload_n 1, 1), (44, .invokevirtual 291, 3), (47, .iload_n 2, 1), (48, .ireturn, 1)]
def zcX8_put : List (Nat × Instr × Nat) := [(0, .iload_n 1, 1), (1, .invokestatic 72, 3), (4, .ifCond .eq 10, 3), (7, .iload_n 2, 1), (8, .invokestatic 285, 3), (11, .ifCond .ne 6, 3), (14, .bipush (-2), 2), (16, .ireturn, 1), (17, .aload_n 0, 1), (18, .getfield 64, 3), (21, .iload_n 1, 1), (22, .iload_n 2, 1), (23, .iload_n 3, 1), (24, .invokevirtual 294, 3), (27, .istore 5, 2), (29, .iload 5, 2), (31, .ifCond .eq 13, 3), (34, .aload_n 0, 1), (35, .getfield 64, 3), (38, .iload 5, 2), (40, .invokevirtual 79, 3), (43, .ireturn, 1), (44, .aload_n 0, 1), (45, .getfield 64, 3), (48, .iload_n 1, 1), (49, .iload_n 3, 1), (50, .iload 4, 2), (52, .invokevirtual 298, 3), (55, .iconst 1, 1), (56, .ireturn, 1)]
def zcX8_get : List (Nat × Instr × Nat) := [(0, .iload_n 1, 1), (1, .invokestatic 72, 3), (4, .ifCond .eq 10, 3), (7, .iload_n 2, 1), (8, .invokestatic 285, 3), (11, .ifCond .ne 7, 3), (14, .ldc_w 301, 3), (17, .ireturn, 1), (18, .aload_n 0, 1), (19, .getfield 64, 3), (22, .iload_n 1, 1), (23, .iload_n 2, 1), (24, .iload_n 3, 1), (25, .invokevirtual 294, 3), (28, .istore 4, 2), (30, .iload 4, 2), (32, .ifCond .eq 17, 3), (35, .aload_n 0, 1), (36, .getfield 64, 3), (39, .iload 4, 2), (41, .invokevirtual 79, 3), (44, .pop, 1), (45, .ldc_w 301, 3), (48, .ireturn, 1), (49, .aload_n 0, 1), (50, .getfield 64, 3), (53, .iload_n 1, 1), (54, .iload_n 3, 1), (55, .invokevirtual 90, 3), (58, .ireturn, 1)]
def zcX8_copy : List (Nat × Instr × Nat) := [(0, .iload_n 1, 1), (1, .invokestatic 72, 3), (4, .ifCond .eq 10, 3), (7, .iload_n 3, 1), (8, .invokestatic 72, 3), (11, .ifCond .ne 6, 3), (14, .bipush (-2), 2), (16, .ireturn, 1), (17, .aload_n 0, 1), (18, .getfield 64, 3), (21, .iload_n 1, 1), (22, .invokevirtual 76, 3), (25, .ifCond .ne 14, 3), (28, .aload_n 0, 1), (29, .getfield 64, 3), (32, .iload_n 3, 1), (33, .invokevirtual 76, 3), (36, .ifCond .eq 12, 3), (39, .aload_n 0, 1), (40, .getfield 64, 3), (43, .iconst 1, 1), (44, .invokevirtual 79, 3), (47, .ireturn, 1), (48, .aload_n 0, 1), (49, .getfield 64, 3), (52, .iload_n 1, 1), (53, .invokevirtual 302, 3), (56, .aload_n 0, 1), (57, .getfield 64, 3), (60, .iload_n 3, 1), (61, .invokevirtual 302, 3), (64, .if_icmp .eq 12, 3), (67, .aload_n 0, 1), (68, .getfield 64, 3), (71, .iconst 4, 1), (72, .invokevirtual 79, 3), (75, .ireturn, 1), (76, .aload_n 0, 1), (77, .getfield 64, 3), (80, .iload_n 1, 1), (81, .iload_n 2, 1), (82, .iload 5, 2), (84, .invokevirtual 305, 3), (87, .ifCond .eq 18, 3), (90, .aload_n 0, 1), (91, .getfield 64, 3), (94, .iload_n 3, 1), (95, .iload 4, 2), (97, .iload 5, 2), (99, .invokevirtual 305, 3), (102, .ifCond .ne 12, 3), (105, .aload_n 0, 1), (106, .getfield 64, 3), (109, .iconst 2, 1), (110, .invokevirtual 79, 3), (113, .ireturn, 1), (114, .iconst 0, 1), (115, .istore 6, 2), (117, .iload 6, 2), (119, .iload 5, 2), (121, .if_icmp .ge 54, 3), (124, .iload_n 2, 1), (125, .iload 4, 2), (127, .if_icmp .ge 13, 3), (130, .iload 5, 2), (132, .iconst 1, 1), (133, .isub, 1), (134, .iload 6, 2), (136, .isub, 1), (137, .goto 5, 3), (140, .iload 6, 2), (142, .istore 7, 2), (144, .aload_n 0, 1), (145, .getfield 64, 3), (148, .iload_n 3, 1), (149, .iload 4, 2), (151, .iload 7, 2), (153, .iadd, 1), (154, .aload_n 0, 1), (155, .getfield 64, 3), (158, .iload_n 1, 1), (159, .iload_n 2, 1), (160, .iload 7, 2), (162, .iadd, 1), (163, .invokevirtual 90, 3), (166, .invokevirtual 298, 3), (169, .iinc 6 1, 3), (172, .goto (-55), 3), (175, .iconst 1, 1), (176, .ireturn, 1)]
def zcX8_count : List (Nat × Instr × Nat) := [(0, .iload_n 1, 1), (1, .tableswitch 120 0 8 #[51, 59, 67, 72, 80, 88, 96, 104, 112], 51), (52, .aload_n 0, 1), (53, .getfield 10, 3), (56, .invokevirtual 113, 3), (59, .ireturn, 1), (60, .aload_n 0, 1), (61, .getfield 19, 3), (64, .invokevirtual 138, 3), (67, .ireturn, 1), (68, .aload_n 0, 1), (69, .getfield 68, 3), (72, .ireturn, 1), (73, .aload_n 0, 1), (74, .getfield 36, 3), (77, .invokevirtual 200, 3), (80, .ireturn, 1), (81, .aload_n 0, 1), (82, .getfield 43, 3), (85, .invokevirtual 232, 3), (88, .ireturn, 1), (89, .aload_n 0, 1), (90, .getfield 50, 3), (93, .invokevirtual 243, 3), (96, .ireturn, 1), (97, .aload_n 0, 1), (98, .getfield 64, 3), (101, .invokevirtual 308, 3), (104, .ireturn, 1), (105, .aload_n 0, 1), (106, .getfield 57, 3), (109, .invokevirtual 311, 3), (112, .ireturn, 1), (113, .aload_n 0, 1), (114, .getfield 57, 3), (117, .invokevirtual 255, 3), (120, .ireturn, 1), (121, .bipush (-2), 2), (123, .ireturn, 1)]
def zcX8_digest : List (Nat × Instr × Nat) := [(0, .ldc2_w 312, 3), (3, .lstore_n 1, 1), (4, .iconst 0, 1), (5, .istore_n 3, 1), (6, .iload_n 3, 1), (7, .bipush 8, 2), (9, .if_icmp .gt 28, 3), (12, .iload_n 3, 1), (13, .bipush 6, 2), (15, .if_icmp .eq 16, 3), (18, .ldc2_w 314, 3), (21, .lload_n 1, 1), (22, .lmul, 1), (23, .aload_n 0, 1), (24, .iload_n 3, 1), (25, .invokevirtual 316, 3), (28, .i2l, 1), (29, .ladd, 1), (30, .lstore_n 1, 1), (31, .iinc 3 1, 3), (34, .goto (-28), 3), (37, .iconst 0, 1), (38, .istore_n 3, 1), (39, .iload_n 3, 1), (40, .aload_n 0, 1), (41, .getfield 10, 3), (44, .invokevirtual 113, 3), (47, .if_icmp .ge 41, 3), (50, .ldc2_w 314, 3), (53, .lload_n 1, 1), (54, .lmul, 1), (55, .aload_n 0, 1), (56, .getfield 10, 3), (59, .iload_n 3, 1), (60, .invokevirtual 116, 3), (63, .i2l, 1), (64, .ladd, 1), (65, .lstore_n 1, 1), (66, .ldc2_w 314, 3), (69, .lload_n 1, 1), (70, .lmul, 1), (71, .aload_n 0, 1), (72, .getfield 10, 3), (75, .iload_n 3, 1), (76, .invokevirtual 119, 3), (79, .i2l, 1), (80, .ladd, 1), (81, .lstore_n 1, 1), (82, .iinc 3 1, 3), (85, .goto (-46), 3), (88, .aload_n 0, 1), (89, .getfield 29, 3), (92, .aload_n 0, 1), (93, .getfield 19, 3), (96, .aload_n 0, 1), (97, .getfield 10, 3), (100, .aload_n 0, 1), (101, .getfield 68, 3), (104, .invokevirtual 151, 3), (107, .iconst 0, 1), (108, .istore_n 3, 1), (109, .iload_n 3, 1), (110, .aload_n 0, 1), (111, .getfield 29, 3), (114, .invokevirtual 155, 3), (117, .if_icmp .ge 42, 3), (120, .iconst 0, 1), (121, .istore 4, 2), (123, .iload 4, 2), (125, .iconst 3, 1), (126, .if_icmp .ge 27, 3), (129, .ldc2_w 314, 3), (132, .lload_n 1, 1), (133, .lmul, 1), (134, .aload_n 0, 1), (135, .getfield 29, 3), (138, .iload_n 3, 1), (139, .iload 4, 2), (141, .invokevirtual 163, 3), (144, .i2l, 1), (145, .ladd, 1), (146, .lstore_n 1, 1), (147, .iinc 4 1, 3), (150, .goto (-27), 3), (153, .iinc 3 1, 3), (156, .goto (-47), 3), (159, .ldc2_w 314, 3), (162, .lload_n 1, 1), (163, .lmul, 1), (164, .aload_n 0, 1), (165, .invokevirtual 319, 3), (168, .i2l, 1), (169, .ladd, 1), (170, .lstore_n 1, 1), (171, .ldc2_w 314, 3), (174, .lload_n 1, 1), (175, .lmul, 1), (176, .aload_n 0, 1), (177, .invokevirtual 322, 3), (180, .i2l, 1), (181, .ladd, 1), (182, .lstore_n 1, 1), (183, .ldc2_w 314, 3), (186, .lload_n 1, 1), (187, .lmul, 1), (188, .aload_n 0, 1), (189, .invokevirtual 325, 3), (192, .i2l, 1), (193, .ladd, 1), (194, .lreturn, 1)]
def zcX8_refusal : List (Nat × Instr × Nat) := [(0, .ldc2_w 330, 3), (3, .iload_n 0, 1), (4, .i2l, 1), (5, .lsub, 1), (6, .lreturn, 1)]
def zcX8_isWithin : List (Nat × Instr × Nat) := [(0, .iload_n 0, 1), (1, .iload_n 1, 1), (2, .ineg, 1), (3, .if_icmp .lt 12, 3), (6, .iload_n 0, 1), (7, .iload_n 1, 1), (8, .if_icmp .gt 7, 3), (11, .iconst 1, 1), (12, .goto 4, 3), (15, .iconst 0, 1), (16, .ireturn, 1)]
def zcX8_isPlace : List (Nat × Instr × Nat) := [(0, .iload_n 0, 1), (1, .sipush 1000, 3), (4, .invokestatic 110, 3), (7, .ifCond .eq 17, 3), (10, .iload_n 1, 1), (11, .sipush 1000, 3), (14, .invokestatic 110, 3), (17, .ifCond .eq 7, 3), (20, .iconst 1, 1), (21, .goto 4, 3), (24, .iconst 0, 1), (25, .ireturn, 1)]
def zcX8_isWeight : List (Nat × Instr × Nat) := [(0, .iload_n 0, 1), (1, .iconst 1, 1), (2, .if_icmp .lt 13, 3), (5, .iload_n 0, 1), (6, .bipush 20, 2), (8, .if_icmp .gt 7, 3), (11, .iconst 1, 1), (12, .goto 4, 3), (15, .iconst 0, 1), (16, .ireturn, 1)]
def zcX8_isTriplePart : List (Nat × Instr × Nat) := [(0, .iload_n 0, 1), (1, .ifCond .lt 12, 3), (4, .iload_n 0, 1), (5, .iconst 2, 1), (6, .if_icmp .gt 7, 3), (9, .iconst 1, 1), (10, .goto 4, 3), (13, .iconst 0, 1), (14, .ireturn, 1)]
def zcX8_isSheet : List (Nat × Instr × Nat) := [(0, .iload_n 0, 1), (1, .ifCond .lt 12, 3), (4, .iload_n 0, 1), (5, .iconst 4, 1), (6, .if_icmp .ge 7, 3), (9, .iconst 1, 1), (10, .goto 4, 3), (13, .iconst 0, 1), (14, .ireturn, 1)]
def zcX8_isForm : List (Nat × Instr × Nat) := [(0, .iload_n 0, 1), (1, .ifCond .lt 12, 3), (4, .iload_n 0, 1), (5, .iconst 2, 1), (6, .if_icmp .gt 7, 3), (9, .iconst 1, 1), (10, .goto 4, 3), (13, .iconst 0, 1), (14, .ireturn, 1)]
def zcX8_isStand : List (Nat × Instr × Nat) := [(0, .iload_n 1, 1), (1, .ifCond .lt 28, 3), (4, .iload_n 1, 1), (5, .aload_n 0, 1), (6, .getfield 10, 3), (9, .invokevirtual 113, 3), (12, .if_icmp .ge 17, 3), (15, .iload_n 2, 1), (16, .ifCond .lt 13, 3), (19, .iload_n 2, 1), (20, .bipush 8, 2), (22, .if_icmp .gt 7, 3), (25, .iconst 1, 1), (26, .goto 4, 3), (29, .iconst 0, 1), (30, .ireturn, 1)]
def zcX8_isFinger : List (Nat × Instr × Nat) := [(0, .iload_n 1, 1), (1, .ifCond .lt 18, 3), (4, .iload_n 1, 1), (5, .aload_n 0, 1), (6, .getfield 19, 3), (9, .invokevirtual 138, 3), (12, .if_icmp .ge 7, 3), (15, .iconst 1, 1), (16, .goto 4, 3), (19, .iconst 0, 1), (20, .ireturn, 1)]
def zcX8_isGrip : List (Nat × Instr × Nat) := [(0, .iload_n 1, 1), (1, .ifCond .lt 18, 3), (4, .iload_n 1, 1), (5, .aload_n 0, 1), (6, .getfield 50, 3), (9, .invokevirtual 243, 3), (12, .if_icmp .ge 7, 3), (15, .iconst 1, 1), (16, .goto 4, 3), (19, .iconst 0, 1), (20, .ireturn, 1)]
def zcX8_isDropped : List (Nat × Instr × Nat) := [(0, .iload_n 1, 1), (1, .ifCond .lt 18, 3), (4, .iload_n 1, 1), (5, .aload_n 0, 1), (6, .getfield 57, 3), (9, .invokevirtual 255, 3), (12, .if_icmp .ge 7, 3), (15, .iconst 1, 1), (16, .goto 4, 3), (19, .iconst 0, 1), (20, .ireturn, 1)]
def zcX8_item : List (Nat × Instr × Nat) := [(0, .aload_n 0, 1), (1, .ifnull 19, 3), (4, .iload_n 1, 1), (5, .ifCond .lt 15, 3), (8, .iload_n 1, 1), (9, .aload_n 0, 1), (10, .arraylength, 1), (11, .if_icmp .ge 9, 3), (14, .aload_n 0, 1), (15, .iload_n 1, 1), (16, .iaload, 1), (17, .goto 4, 3), (20, .iconst 0, 1), (21, .ireturn, 1)]
def zcX8_setItem : List (Nat × Instr × Nat) := [(0, .aload_n 0, 1), (1, .ifnull 17, 3), (4, .iload_n 1, 1), (5, .ifCond .lt 13, 3), (8, .iload_n 1, 1), (9, .aload_n 0, 1), (10, .arraylength, 1), (11, .if_icmp .ge 7, 3), (14, .aload_n 0, 1), (15, .iload_n 1, 1), (16, .iload_n 2, 1), (17, .iastore, 1), (18, .return_, 1)]
def zcX9_init : List (Nat × Instr × Nat) := [(0, .aload_n 0, 1), (1, .invokespecial 1, 3), (4, .aload_n 0, 1), (5, .bipush 10, 2), (7, .newarray .int, 2), (9, .putfield 7, 3), (12, .aload_n 0, 1), (13, .bipush 10, 2), (15, .newarray .int, 2), (17, .putfield 13, 3), (20, .aload_n 0, 1), (21, .bipush 10, 2), (23, .newarray .int, 2), (25, .putfield 16, 3), (28, .aload_n 0, 1), (29, .bipush 10, 2), (31, .newarray .int, 2), (33, .putfield 19, 3), (36, .aload_n 0, 1), (37, .bipush 8, 2), (39, .newarray .int, 2), (41, .putfield 22, 3), (44, .aload_n 0, 1), (45, .bipush 8, 2), (47, .newarray .int, 2), (49, .putfield 25, 3), (52, .aload_n 0, 1), (53, .bipush 16, 2), (55, .newarray .long, 2), (57, .putfield 28, 3), (60, .aload_n 0, 1), (61, .bipush 16, 2), (63, .newarray .long, 2), (65, .putfield 32, 3), (68, .aload_n 0, 1), (69, .bipush 16, 2), (71, .newarray .long, 2), (73, .putfield 35, 3), (76, .aload_n 0, 1), (77, .bipush 7, 2), (79, .newarray .int, 2), (81, .putfield 38, 3), (84, .aload_n 0, 1), (85, .bipush 7, 2), (87, .newarray .int, 2), (89, .putfield 41, 3), (92, .aload_n 0, 1), (93, .bipush 7, 2), (95, .newarray .int, 2), (97, .putfield 44, 3), (100, .aload_n 0, 1), (101, .bipush 20, 2), (103, .newarray .int, 2), (105, .putfield 47, 3), (108, .aload_n 0, 1), (109, .bipush 20, 2), (111, .newarray .int, 2), (113, .putfield 50, 3), (116, .aload_n 0, 1), (117, .bipush 100, 2), (119, .newarray .int, 2), (121, .putfield 53, 3), (124, .aload_n 0, 1), (125, .bipush 10, 2), (127, .newarray .int, 2), (129, .putfield 56, 3), (132, .aload_n 0, 1), (133, .bipush 12, 2), (135, .newarray .int, 2), (137, .putfield 59, 3), (140, .aload_n 0, 1), (141, .iconst 4, 1), (142, .newarray .int, 2), (144, .putfield 62, 3), (147, .aload_n 0, 1), (148, .iconst 4, 1), (149, .newarray .int, 2), (151, .putfield 65, 3), (154, .aload_n 0, 1), (155, .sipush 240, 3), (158, .newarray .int, 2), (160, .putfield 68, 3), (163, .aload_n 0, 1), (164, .bipush 60, 2), (166, .newarray .int, 2), (168, .putfield 71, 3), (171, .aload_n 0, 1), (172, .iconst 3, 1), (173, .putfield 74, 3), (176, .aload_n 0, 1), (177, .getfield 7, 3), (180, .iconst 1, 1), (181, .bipush 10, 2), (183, .iastore, 1), (184, .aload_n 0, 1), (185, .getfield 13, 3), (188, .iconst 2, 1), (189, .bipush 10, 2), (191, .iastore, 1), (192, .iconst 0, 1), (193, .istore_n 1, 1), (194, .iload_n 1, 1), (195, .iconst 4, 1), (196, .if_icmp .ge 16, 3), (199, .aload_n 0, 1), (200, .getfield 62, 3), (203, .iload_n 1, 1), (204, .iconst (-1), 1), (205, .iastore, 1), (206, .iinc 1 1, 3), (209, .goto (-15), 3), (212, .iconst 0, 1), (213, .istore_n 1, 1), (214, .iload_n 1, 1), (215, .bipush 100, 2), (217, .if_icmp .ge 17, 3), (220, .aload_n 0, 1), (221, .getfield 53, 3), (224, .iload_n 1, 1), (225, .ldc 78, 2), (227, .iastore, 1), (228, .iinc 1 1, 3), (231, .goto (-17), 3), (234, .return_, 1)]
def zcX9_in : List (Nat × Instr × Nat) := [(0, .lload_n 0, 1), (1, .lload_n 2, 1), (2, .lcmp, 1), (3, .ifCond .lt 14, 3), (6, .lload_n 0, 1), (7, .lload 4, 2), (9, .lcmp, 1), (10, .ifCond .gt 7, 3), (13, .iconst 1, 1), (14, .goto 4, 3), (17, .iconst 0, 1), (18, .ireturn, 1)]
def zcX9_no : List (Nat × Instr × Nat) := [(0, .ldc2_w 79, 3), (3, .iload_n 0, 1), (4, .i2l, 1), (5, .lsub, 1), (6, .lreturn, 1)]
def zcX9_next : List (Nat × Instr × Nat) := [(0, .iload_n 1, 1), (1, .iconst 1, 1), (2, .iadd, 1), (3, .aload_n 0, 1), (4, .getfield 74, 3), (7, .if_icmp .ne 7, 3), (10, .iconst 0, 1), (11, .goto 6, 3), (14, .iload_n 1, 1), (15, .iconst 1, 1), (16, .iadd, 1), (17, .ireturn, 1)]
def zcX9_cross : List (Nat × Instr × Nat) := [(0, .aload_n 0, 1), (1, .getfield 7, 3), (4, .iload_n 1, 1), (5, .iaload, 1), (6, .aload_n 0, 1), (7, .getfield 13, 3), (10, .aload_n 0, 1), (11, .iload_n 1, 1), (12, .invokevirtual 81, 3), (15, .iaload, 1), (16, .imul, 1), (17, .aload_n 0, 1), (18, .getfield 7, 3), (21, .aload_n 0, 1), (22, .iload_n 1, 1), (23, .invokevirtual 81, 3), (26, .iaload, 1), (27, .aload_n 0, 1), (28, .getfield 13, 3), (31, .iload_n 1, 1), (32, .iaload, 1), (33, .imul, 1), (34, .isub, 1), (35, .ireturn, 1)]
def zcX9_area : List (Nat × Instr × Nat) := [(0, .iconst 0, 1), (1, .istore_n 1, 1), (2, .iconst 0, 1), (3, .istore_n 2, 1), (4, .iload_n 2, 1), (5, .aload_n 0, 1), (6, .getfield 74, 3), (9, .if_icmp .ge 17, 3), (12, .iload_n 1, 1), (13, .aload_n 0, 1), (14, .iload_n 2, 1), (15, .invokevirtual 85, 3), (18, .iadd, 1), (19, .istore_n 1, 1), (20, .iinc 2 1, 3), (23, .goto (-19), 3), (26, .iload_n 1, 1), (27, .ireturn, 1)]
def zcX9_middleX : List (Nat × Instr × Nat) := [(0, .iconst 0, 1), (1, .istore_n 1, 1), (2, .iconst 0, 1), (3, .istore_n 2, 1), (4, .iload_n 2, 1), (5, .aload_n 0, 1), (6, .getfield 74, 3), (9, .if_icmp .ge 35, 3), (12, .iload_n 1, 1), (13, .aload_n 0, 1), (14, .getfield 7, 3), (17, .iload_n 2, 1), (18, .iaload, 1), (19, .aload_n 0, 1), (20, .getfield 7, 3), (23, .aload_n 0, 1), (24, .iload_n 2, 1), (25, .invokevirtual 81, 3), (28, .iaload, 1), (29, .iadd, 1), (30, .aload_n 0, 1), (31, .iload_n 2, 1), (32, .invokevirtual 85, 3), (35, .imul, 1), (36, .iadd, 1), (37, .istore_n 1, 1), (38, .iinc 2 1, 3), (41, .goto (-37), 3), (44, .iload_n 1, 1), (45, .ireturn, 1)]
def zcX9_middleY : List (Nat × Instr × Nat) := [(0, .iconst 0, 1), (1, .istore_n 1, 1), (2, .iconst 0, 1), (3, .istore_n 2, 1), (4, .iload_n 2, 1), (5, .aload_n 0, 1), (6, .getfield 74, 3), (9, .if_icmp .ge 35, 3), (12, .iload_n 1, 1), (13, .aload_n 0, 1), (14, .getfield 13, 3), (17, .iload_n 2, 1), (18, .iaload, 1), (19, .aload_n 0, 1), (20, .getfield 13, 3), (23, .aload_n 0, 1), (24, .iload_n 2, 1), (25, .invokevirtual 81, 3), (28, .iaload, 1), (29, .iadd, 1), (30, .aload_n 0, 1), (31, .iload_n 2, 1), (32, .invokevirtual 85, 3), (35, .imul, 1), (36, .iadd, 1), (37, .istore_n 1, 1), (38, .iinc 2 1, 3), (41, .goto (-37), 3), (44, .iload_n 1, 1), (45, .ireturn, 1)]
def zcX9_shape : List (Nat × Instr × Nat) := [(0, .iload_n 1, 1), (1, .invokestatic 88, 3), (4, .ifCond .eq 17, 3), (7, .iload_n 2, 1), (8, .i2l, 1), (9, .ldc2_w 92, 3), (12, .ldc2_w 94, 3), (15, .invokestatic 96, 3), (18, .ifCond .ne 6, 3), (21, .bipush (-2), 2), (23, .ireturn, 1), (24, .aload_n 0, 1), (25, .getfield 62, 3), (28, .iload_n 1, 1), (29, .iaload, 1), (30, .ifCond .ge 9, 3), (33, .aload_n 0, 1), (34, .iconst 1, 1), (35, .invokevirtual 100, 3), (38, .ireturn, 1), (39, .aload_n 0, 1), (40, .getfield 65, 3), (43, .iload_n 1, 1), (44, .iaload, 1), (45, .iconst 2, 1), (46, .iload_n 2, 1), (47, .imul, 1), (48, .if_icmp .ge 9, 3), (51, .aload_n 0, 1), (52, .iconst 2, 1), (53, .invokevirtual 100, 3), (56, .ireturn, 1), (57, .iconst 1, 1), (58, .istore_n 3, 1), (59, .iconst 0, 1), (60, .istore 4, 2), (62, .iconst 0, 1), (63, .istore 5, 2), (65, .iload 5, 2), (67, .iload_n 2, 1), (68, .if_icmp .ge 103, 3), (71, .aload_n 0, 1), (72, .getfield 16, 3), (75, .iload 5, 2), (77, .aload_n 0, 1), (78, .getfield 68, 3), (81, .bipush 60, 2), (83, .iload_n 1, 1), (84, .imul, 1), (85, .iconst 2, 1), (86, .iload 5, 2), (88, .imul, 1), (89, .iadd, 1), (90, .iaload, 1), (91, .iastore, 1), (92, .aload_n 0, 1), (93, .getfield 19, 3), (96, .iload 5, 2), (98, .aload_n 0, 1), (99, .getfield 68, 3), (102, .bipush 60, 2), (104, .iload_n 1, 1), (105, .imul, 1), (106, .iconst 2, 1), (107, .iload 5, 2), (109, .imul, 1), (110, .iadd, 1), (111, .iconst 1, 1), (112, .iadd, 1), (113, .iaload, 1), (114, .iastore, 1), (115, .iload_n 3, 1), (116, .ifCond .eq 47, 3), (119, .aload_n 0, 1), (120, .getfield 16, 3), (123, .iload 5, 2), (125, .iaload, 1), (126, .i2l, 1), (127, .ldc2_w 103, 3), (130, .ldc2_w 105, 3), (133, .invokestatic 96, 3), (136, .ifCond .eq 27, 3), (139, .aload_n 0, 1), (140, .getfield 19, 3), (143, .iload 5, 2), (145, .iaload, 1), (146, .i2l, 1), (147, .ldc2_w 103, 3), (150, .ldc2_w 105, 3), (153, .invokestatic 96, 3), (156, .ifCond .eq 7, 3), (159, .iconst 1, 1), (160, .goto 4, 3), (163, .iconst 0, 1), (164, .istore_n 3, 1), (165, .iinc 5 1, 3), (168, .goto (-103), 3), (171, .iconst 0, 1), (172, .istore 5, 2), (174, .iload 5, 2), (176, .iload_n 2, 1), (177, .if_icmp .ge 67, 3), (180, .iload_n 3, 1), (181, .ifCond .eq 63, 3), (184, .iload 5, 2), (186, .iconst 1, 1), (187, .iadd, 1), (188, .iload_n 2, 1), (189, .if_icmp .ne 7, 3), (192, .iconst 0, 1), (193, .goto 7, 3), (196, .iload 5, 2), (198, .iconst 1, 1), (199, .iadd, 1), (200, .istore 6, 2), (202, .iload 4, 2), (204, .aload_n 0, 1), (205, .getfield 16, 3), (208, .iload 5, 2), (210, .iaload, 1), (211, .aload_n 0, 1), (212, .getfield 19, 3), (215, .iload 6, 2), (217, .iaload, 1), (218, .imul, 1), (219, .aload_n 0, 1), (220, .getfield 16, 3), (223, .iload 6, 2), (225, .iaload, 1), (226, .aload_n 0, 1), (227, .getfield 19, 3), (230, .iload 5, 2), (232, .iaload, 1), (233, .imul, 1), (234, .isub, 1), (235, .iadd, 1), (236, .istore 4, 2), (238, .iinc 5 1, 3), (241, .goto (-67), 3), (244, .iload_n 3, 1), (245, .ifCond .eq 8, 3), (248, .iload 4, 2), (250, .ifCond .gt 6, 3), (253, .bipush (-3), 2), (255, .ireturn, 1), (256, .aload_n 0, 1), (257, .iload_n 2, 1), (258, .putfield 74, 3), (261, .iconst 0, 1), (262, .istore 5, 2), (264, .iload 5, 2), (266, .iload_n 2, 1), (267, .if_icmp .ge 37, 3), (270, .aload_n 0, 1), (271, .getfield 7, 3), (274, .iload 5, 2), (276, .aload_n 0, 1), (277, .getfield 16, 3), (280, .iload 5, 2), (282, .iaload, 1), (283, .iastore, 1), (284, .aload_n 0, 1), (285, .getfield 13, 3), (288, .iload 5, 2), (290, .aload_n 0, 1), (291, .getfield 19, 3), (294, .iload 5, 2), (296, .iaload, 1), (297, .iastore, 1), (298, .iinc 5 1, 3), (301, .goto (-37), 3), (304, .aload_n 0, 1), (305, .iconst 0, 1), (306, .putfield 107, 3), (309, .aload_n 0, 1), (310, .iconst 0, 1), (311, .putfield 110, 3), (314, .iload 4, 2), (316, .ireturn, 1)]
def zcX9_corner : List (Nat × Instr × Nat) := [(0, .iload_n 1, 1), (1, .i2l, 1), (2, .lconst 0, 1), (3, .aload_n 0, 1), (4, .getfield 74, 3), (7, .iconst 1, 1), (8, .isub, 1), (9, .i2l, 1), (10, .invokestatic 96, 3), (13, .ifCond .eq 13, 3), (16, .iload_n 2, 1), (17, .i2l, 1), (18, .lconst 0, 1), (19, .lconst 1, 1), (20, .invokestatic 96, 3), (23, .ifCond .ne 7, 3), (26, .sipush (-1000), 3), (29, .ireturn, 1), (30, .iload_n 2, 1), (31, .ifCond .ne 12, 3), (34, .aload_n 0, 1), (35, .getfield 7, 3), (38, .iload_n 1, 1), (39, .iaload, 1), (40, .goto 9, 3), (43, .aload_n 0, 1), (44, .getfield 13, 3), (47, .iload_n 1, 1), (48, .iaload, 1), (49, .ireturn, 1)]
def zcX9_middle : List (Nat × Instr × Nat) := [(0, .iload_n 1, 1), (1, .tableswitch 42 0 2 #[27, 32, 37], 27), (28, .aload_n 0, 1), (29, .invokevirtual 113, 3), (32, .ireturn, 1), (33, .aload_n 0, 1), (34, .invokevirtual 117, 3), (37, .ireturn, 1), (38, .aload_n 0, 1), (39, .invokevirtual 120, 3), (42, .ireturn, 1), (43, .ldc 123, 2), (45, .ireturn, 1)]
def zcX9_place : List (Nat × Instr × Nat) := [(0, .iconst 0, 1), (1, .istore_n 3, 1), (2, .iconst 0, 1), (3, .istore 4, 2), (5, .iload 4, 2), (7, .aload_n 0, 1), (8, .getfield 74, 3), (11, .if_icmp .ge 163, 3), (14, .aload_n 0, 1), (15, .iload 4, 2), (17, .invokevirtual 81, 3), (20, .istore 5, 2), (22, .bipush 8, 2), (24, .aload_n 0, 1), (25, .getfield 7, 3), (28, .iload 4, 2), (30, .iaload, 1), (31, .imul, 1), (32, .iload_n 1, 1), (33, .isub, 1), (34, .istore 6, 2), (36, .bipush 8, 2), (38, .aload_n 0, 1), (39, .getfield 13, 3), (42, .iload 4, 2), (44, .iaload, 1), (45, .imul, 1), (46, .iload_n 2, 1), (47, .isub, 1), (48, .istore 7, 2), (50, .bipush 8, 2), (52, .aload_n 0, 1), (53, .getfield 7, 3), (56, .iload 5, 2), (58, .iaload, 1), (59, .imul, 1), (60, .iload_n 1, 1), (61, .isub, 1), (62, .istore 8, 2), (64, .bipush 8, 2), (66, .aload_n 0, 1), (67, .getfield 13, 3), (70, .iload 5, 2), (72, .iaload, 1), (73, .imul, 1), (74, .iload_n 2, 1), (75, .isub, 1), (76, .istore 9, 2), (78, .iload 6, 2), (80, .iload 9, 2), (82, .imul, 1), (83, .iload 8, 2), (85, .iload 7, 2), (87, .imul, 1), (88, .isub, 1), (89, .istore 10, 2), (91, .iload 10, 2), (93, .ifCond .ne 19, 3), (96, .iload 6, 2), (98, .iload 8, 2), (100, .imul, 1), (101, .iload 7, 2), (103, .iload 9, 2), (105, .imul, 1), (106, .iadd, 1), (107, .ifCond .gt 5, 3), (110, .iconst 2, 1), (111, .ireturn, 1), (112, .iload 7, 2), (114, .ifCond .le 7, 3), (117, .iconst 1, 1), (118, .goto 4, 3), (121, .iconst 0, 1), (122, .iload 9, 2), (124, .ifCond .le 7, 3), (127, .iconst 1, 1), (128, .goto 4, 3), (131, .iconst 0, 1), (132, .if_icmp .eq 36, 3), (135, .iload_n 3, 1), (136, .iload 9, 2), (138, .iload 7, 2), (140, .if_icmp .le 16, 3), (143, .iload 10, 2), (145, .ifCond .le 7, 3), (148, .iconst 1, 1), (149, .goto 17, 3), (152, .iconst 0, 1), (153, .goto 13, 3), (156, .iload 10, 2), (158, .ifCond .ge 7, 3), (161, .iconst 1, 1), (162, .goto 4, 3), (165, .iconst 0, 1), (166, .ixor, 1), (167, .istore_n 3, 1), (168, .iinc 4 1, 3), (171, .goto (-166), 3), (174, .iload_n 3, 1), (175, .ifCond .eq 7, 3), (178, .iconst 1, 1), (179, .goto 4, 3), (182, .iconst 0, 1), (183, .ireturn, 1)]
def zcX9_isPlace : List (Nat × Instr × Nat) := [(0, .iload_n 0, 1), (1, .i2l, 1), (2, .ldc2_w 124, 3), (5, .ldc2_w 126, 3), (8, .invokestatic 96, 3), (11, .ifCond .eq 21, 3), (14, .iload_n 1, 1), (15, .i2l, 1), (16, .ldc2_w 124, 3), (19, .ldc2_w 126, 3), (22, .invokestatic 96, 3), (25, .ifCond .eq 7, 3), (28, .iconst 1, 1), (29, .goto 4, 3), (32, .iconst 0, 1), (33, .ireturn, 1)]
def zcX9_isIn : List (Nat × Instr × Nat) := [(0, .iload_n 1, 1), (1, .iload_n 2, 1), (2, .invokestatic 128, 3), (5, .ifCond .eq 12, 3), (8, .aload_n 0, 1), (9, .iload_n 1, 1), (10, .iload_n 2, 1), (11, .invokevirtual 132, 3), (14, .goto 5, 3), (17, .bipush (-2), 2), (19, .ireturn, 1)]
def zcX9_isStand : List (Nat × Instr × Nat) := [(0, .iload_n 1, 1), (1, .i2l, 1), (2, .lconst 0, 1), (3, .aload_n 0, 1), (4, .getfield 74, 3), (7, .iconst 1, 1), (8, .isub, 1), (9, .i2l, 1), (10, .invokestatic 96, 3), (13, .ifCond .eq 19, 3), (16, .iload_n 2, 1), (17, .i2l, 1), (18, .lconst 0, 1), (19, .ldc2_w 136, 3), (22, .invokestatic 96, 3), (25, .ifCond .eq 7, 3), (28, .iconst 1, 1), (29, .goto 4, 3), (32, .iconst 0, 1), (33, .ireturn, 1)]
def zcX9_isFinger : List (Nat × Instr × Nat) := [(0, .iload_n 1, 1), (1, .i2l, 1), (2, .lconst 0, 1), (3, .aload_n 0, 1), (4, .getfield 107, 3), (7, .iconst 1, 1), (8, .isub, 1), (9, .i2l, 1), (10, .invokestatic 96, 3), (13, .ireturn, 1)]
def zcX9_finger : List (Nat × Instr × Nat) := [(0, .aload_n 0, 1), (1, .iload_n 1, 1), (2, .iload_n 2, 1), (3, .invokevirtual 138, 3), (6, .ifCond .ne 6, 3), (9, .bipush (-2), 2), (11, .ireturn, 1), (12, .aload_n 0, 1), (13, .getfield 107, 3), (16, .bipush 8, 2), (18, .if_icmp .ne 6, 3), (21, .bipush (-4), 2), (23, .ireturn, 1), (24, .aload_n 0, 1), (25, .getfield 22, 3), (28, .aload_n 0, 1), (29, .getfield 107, 3), (32, .iload_n 1, 1), (33, .iastore, 1), (34, .aload_n 0, 1), (35, .getfield 25, 3), (38, .aload_n 0, 1), (39, .getfield 107, 3), (42, .iload_n 2, 1), (43, .iastore, 1), (44, .aload_n 0, 1), (45, .dup, 1), (46, .getfield 107, 3), (49, .iconst 1, 1), (50, .iadd, 1), (51, .putfield 107, 3), (54, .aload_n 0, 1), (55, .getfield 107, 3), (58, .iconst 1, 1), (59, .isub, 1), (60, .ireturn, 1)]
def zcX9_move : List (Nat × Instr × Nat) := [(0, .aload_n 0, 1), (1, .iload_n 1, 1), (2, .invokevirtual 141, 3), (5, .ifCond .eq 12, 3), (8, .aload_n 0, 1), (9, .iload_n 2, 1), (10, .iload_n 3, 1), (11, .invokevirtual 138, 3), (14, .ifCond .ne 6, 3), (17, .bipush (-2), 2), (19, .ireturn, 1), (20, .aload_n 0, 1), (21, .getfield 22, 3), (24, .iload_n 1, 1), (25, .iload_n 2, 1), (26, .iastore, 1), (27, .aload_n 0, 1), (28, .getfield 25, 3), (31, .iload_n 1, 1), (32, .iload_n 3, 1), (33, .iastore, 1), (34, .iconst 1, 1), (35, .ireturn, 1)]
def zcX9_release : List (Nat × Instr × Nat) := [(0, .aload_n 0, 1), (1, .getfield 107, 3), (4, .istore_n 1, 1), (5, .aload_n 0, 1), (6, .iconst 0, 1), (7, .putfield 107, 3), (10, .iload_n 1, 1), (11, .ireturn, 1)]
def zcX9_friction : List (Nat × Instr × Nat) := [(0, .iload_n 1, 1), (1, .i2l, 1), (2, .lconst 0, 1), (3, .ldc2_w 144, 3), (6, .invokestatic 96, 3), (9, .ifCond .ne 6, 3), (12, .bipush (-2), 2), (14, .ireturn, 1), (15, .aload_n 0, 1), (16, .getfield 146, 3), (19, .istore_n 2, 1), (20, .aload_n 0, 1), (21, .iload_n 1, 1), (22, .putfield 146, 3), (25, .iload_n 2, 1), (26, .ireturn, 1)]
def zcX9_lay : List (Nat × Instr × Nat) := [(0, .aload_n 0, 1), (1, .getfield 28, 3), (4, .aload_n 0, 1), (5, .getfield 149, 3), (8, .iload_n 3, 1), (9, .i2l, 1), (10, .lastore, 1), (11, .aload_n 0, 1), (12, .getfield 32, 3), (15, .aload_n 0, 1), (16, .getfield 149, 3), (19, .iload 4, 2), (21, .i2l, 1), (22, .lastore, 1), (23, .aload_n 0, 1), (24, .getfield 35, 3), (27, .aload_n 0, 1), (28, .getfield 149, 3), (31, .iload_n 1, 1), (32, .i2l, 1), (33, .iload 4, 2), (35, .i2l, 1), (36, .lmul, 1), (37, .iload_n 2, 1), (38, .i2l, 1), (39, .iload_n 3, 1), (40, .i2l, 1), (41, .lmul, 1), (42, .lsub, 1), (43, .lastore, 1), (44, .aload_n 0, 1), (45, .dup, 1), (46, .getfield 149, 3), (49, .iconst 1, 1), (50, .iadd, 1), (51, .putfield 149, 3), (54, .return_, 1)]
def zcX9_lays : List (Nat × Instr × Nat) := [(0, .aload_n 0, 1), (1, .getfield 7, 3), (4, .aload_n 0, 1), (5, .iload_n 1, 1), (6, .invokevirtual 81, 3), (9, .iaload, 1), (10, .aload_n 0, 1), (11, .getfield 7, 3), (14, .iload_n 1, 1), (15, .iaload, 1), (16, .isub, 1), (17, .istore_n 3, 1), (18, .aload_n 0, 1), (19, .getfield 13, 3), (22, .aload_n 0, 1), (23, .iload_n 1, 1), (24, .invokevirtual 81, 3), (27, .iaload, 1), (28, .aload_n 0, 1), (29, .getfield 13, 3), (32, .iload_n 1, 1), (33, .iaload, 1), (34, .isub, 1), (35, .istore 4, 2), (37, .bipush 8, 2), (39, .aload_n 0, 1), (40, .getfield 7, 3), (43, .iload_n 1, 1), (44, .iaload, 1), (45, .imul, 1), (46, .iload_n 2, 1), (47, .iload_n 3, 1), (48, .imul, 1), (49, .iadd, 1), (50, .istore 5, 2), (52, .bipush 8, 2), (54, .aload_n 0, 1), (55, .getfield 13, 3), (58, .iload_n 1, 1), (59, .iaload, 1), (60, .imul, 1), (61, .iload_n 2, 1), (62, .iload 4, 2), (64, .imul, 1), (65, .iadd, 1), (66, .istore 6, 2), (68, .aload_n 0, 1), (69, .iload 5, 2), (71, .iload 6, 2), (73, .bipush (-16), 2), (75, .iload 4, 2), (77, .imul, 1), (78, .aload_n 0, 1), (79, .getfield 146, 3), (82, .iload_n 3, 1), (83, .imul, 1), (84, .iadd, 1), (85, .bipush 16, 2), (87, .iload_n 3, 1), (88, .imul, 1), (89, .aload_n 0, 1), (90, .getfield 146, 3), (93, .iload 4, 2), (95, .imul, 1), (96, .iadd, 1), (97, .invokevirtual 152, 3), (100, .aload_n 0, 1), (101, .getfield 146, 3), (104, .ifCond .le 35, 3), (107, .aload_n 0, 1), (108, .iload 5, 2), (110, .iload 6, 2), (112, .bipush (-16), 2), (114, .iload 4, 2), (116, .imul, 1), (117, .aload_n 0, 1), (118, .getfield 146, 3), (121, .iload_n 3, 1), (122, .imul, 1), (123, .isub, 1), (124, .bipush 16, 2), (126, .iload_n 3, 1), (127, .imul, 1), (128, .aload_n 0, 1), (129, .getfield 146, 3), (132, .iload 4, 2), (134, .imul, 1), (135, .isub, 1), (136, .invokevirtual 152, 3), (139, .return_, 1)]
def zcX9_layAll : List (Nat × Instr × Nat) := [(0, .aload_n 0, 1), (1, .iconst 0, 1), (2, .putfield 149, 3), (5, .iconst 0, 1), (6, .istore_n 1, 1), (7, .iload_n 1, 1), (8, .aload_n 0, 1), (9, .getfield 107, 3), (12, .if_icmp .ge 25, 3), (15, .aload_n 0, 1), (16, .aload_n 0, 1), (17, .getfield 22, 3), (20, .iload_n 1, 1), (21, .iaload, 1), (22, .aload_n 0, 1), (23, .getfield 25, 3), (26, .iload_n 1, 1), (27, .iaload, 1), (28, .invokevirtual 156, 3), (31, .iinc 1 1, 3), (34, .goto (-27), 3), (37, .return_, 1)]
def zcX9_crosses : List (Nat × Instr × Nat) := [(0, .aload_n 0, 1), (1, .aload_n 0, 1), (2, .getfield 32, 3), (5, .iload_n 1, 1), (6, .laload, 1), (7, .aload_n 0, 1), (8, .getfield 35, 3), (11, .iload_n 2, 1), (12, .laload, 1), (13, .lmul, 1), (14, .aload_n 0, 1), (15, .getfield 35, 3), (18, .iload_n 1, 1), (19, .laload, 1), (20, .aload_n 0, 1), (21, .getfield 32, 3), (24, .iload_n 2, 1), (25, .laload, 1), (26, .lmul, 1), (27, .lsub, 1), (28, .putfield 160, 3), (31, .aload_n 0, 1), (32, .aload_n 0, 1), (33, .getfield 35, 3), (36, .iload_n 1, 1), (37, .laload, 1), (38, .aload_n 0, 1), (39, .getfield 28, 3), (42, .iload_n 2, 1), (43, .laload, 1), (44, .lmul, 1), (45, .aload_n 0, 1), (46, .getfield 28, 3), (49, .iload_n 1, 1), (50, .laload, 1), (51, .aload_n 0, 1), (52, .getfield 35, 3), (55, .iload_n 2, 1), (56, .laload, 1), (57, .lmul, 1), (58, .lsub, 1), (59, .putfield 164, 3), (62, .aload_n 0, 1), (63, .aload_n 0, 1), (64, .getfield 28, 3), (67, .iload_n 1, 1), (68, .laload, 1), (69, .aload_n 0, 1), (70, .getfield 32, 3), (73, .iload_n 2, 1), (74, .laload, 1), (75, .lmul, 1), (76, .aload_n 0, 1), (77, .getfield 32, 3), (80, .iload_n 1, 1), (81, .laload, 1), (82, .aload_n 0, 1), (83, .getfield 28, 3), (86, .iload_n 2, 1), (87, .laload, 1), (88, .lmul, 1), (89, .lsub, 1), (90, .putfield 167, 3), (93, .aload_n 0, 1), (94, .iconst 0, 1), (95, .putfield 170, 3), (98, .aload_n 0, 1), (99, .iconst 0, 1), (100, .putfield 174, 3), (103, .iconst 0, 1), (104, .istore_n 3, 1), (105, .iload_n 3, 1), (106, .aload_n 0, 1), (107, .getfield 149, 3), (110, .if_icmp .ge 92, 3), (113, .aload_n 0, 1), (114, .getfield 160, 3), (117, .aload_n 0, 1), (118, .getfield 28, 3), (121, .iload_n 3, 1), (122, .laload, 1), (123, .lmul, 1), (124, .aload_n 0, 1), (125, .getfield 164, 3), (128, .aload_n 0, 1), (129, .getfield 32, 3), (132, .iload_n 3, 1), (133, .laload, 1), (134, .lmul, 1), (135, .ladd, 1), (136, .aload_n 0, 1), (137, .getfield 167, 3), (140, .aload_n 0, 1), (141, .getfield 35, 3), (144, .iload_n 3, 1), (145, .laload, 1), (146, .lmul, 1), (147, .ladd, 1), (148, .lstore 4, 2), (150, .aload_n 0, 1), (151, .aload_n 0, 1), (152, .getfield 170, 3), (155, .ifCond .ne 10, 3), (158, .lload 4, 2), (160, .lconst 0, 1), (161, .lcmp, 1), (162, .ifCond .le 7, 3), (165, .iconst 1, 1), (166, .goto 4, 3), (169, .iconst 0, 1), (170, .putfield 170, 3), (173, .aload_n 0, 1), (174, .aload_n 0, 1), (175, .getfield 174, 3), (178, .ifCond .ne 10, 3), (181, .lload 4, 2), (183, .lconst 0, 1), (184, .lcmp, 1), (185, .ifCond .ge 7, 3), (188, .iconst 1, 1), (189, .goto 4, 3), (192, .iconst 0, 1), (193, .putfield 174, 3), (196, .iinc 3 1, 3), (199, .goto (-94), 3), (202, .aload_n 0, 1), (203, .getfield 160, 3), (206, .lconst 0, 1), (207, .lcmp, 1), (208, .ifCond .ne 21, 3), (211, .aload_n 0, 1), (212, .getfield 164, 3), (215, .lconst 0, 1), (216, .lcmp, 1), (217, .ifCond .ne 12, 3), (220, .aload_n 0, 1), (221, .getfield 167, 3), (224, .lconst 0, 1), (225, .lcmp, 1), (226, .ifCond .eq 7, 3), (229, .iconst 1, 1), (230, .goto 4, 3), (233, .iconst 0, 1), (234, .ireturn, 1)]
def zcX9_isFull : List (Nat × Instr × Nat) := [(0, .iconst 0, 1), (1, .istore_n 1, 1), (2, .iconst 0, 1), (3, .istore_n 2, 1), (4, .iload_n 2, 1), (5, .aload_n 0, 1), (6, .getfield 149, 3), (9, .if_icmp .ge 64, 3), (12, .iload_n 1, 1), (13, .ifCond .ne 60, 3), (16, .iload_n 2, 1), (17, .iconst 1, 1), (18, .iadd, 1), (19, .istore_n 3, 1), (20, .iload_n 3, 1), (21, .aload_n 0, 1), (22, .getfield 149, 3), (25, .if_icmp .ge 42, 3), (28, .iload_n 1, 1), (29, .ifCond .ne 38, 3), (32, .aload_n 0, 1), (33, .iload_n 2, 1), (34, .iload_n 3, 1), (35, .invokevirtual 177, 3), (38, .ifCond .eq 21, 3), (41, .aload_n 0, 1), (42, .getfield 170, 3), (45, .ifCond .ne 10, 3), (48, .aload_n 0, 1), (49, .getfield 174, 3), (52, .ifCond .eq 7, 3), (55, .iconst 1, 1), (56, .goto 4, 3), (59, .iconst 0, 1), (60, .istore_n 1, 1), (61, .iinc 3 1, 3), (64, .goto (-44), 3), (67, .iinc 2 1, 3), (70, .goto (-66), 3), (73, .iload_n 1, 1), (74, .ireturn, 1)]
def zcX9_hold : List (Nat × Instr × Nat) := [(0, .aload_n 0, 1), (1, .invokevirtual 180, 3), (4, .ifCond .ne 5, 3), (7, .iconst 0, 1), (8, .ireturn, 1), (9, .iconst 0, 1), (10, .istore_n 1, 1), (11, .iload_n 1, 1), (12, .aload_n 0, 1), (13, .getfield 149, 3), (16, .if_icmp .ge 52, 3), (19, .iload_n 1, 1), (20, .iconst 1, 1), (21, .iadd, 1), (22, .istore_n 2, 1), (23, .iload_n 2, 1), (24, .aload_n 0, 1), (25, .getfield 149, 3), (28, .if_icmp .ge 34, 3), (31, .aload_n 0, 1), (32, .iload_n 1, 1), (33, .iload_n 2, 1), (34, .invokevirtual 177, 3), (37, .ifCond .eq 19, 3), (40, .aload_n 0, 1), (41, .getfield 170, 3), (44, .ifCond .eq 10, 3), (47, .aload_n 0, 1), (48, .getfield 174, 3), (51, .ifCond .ne 5, 3), (54, .iconst 0, 1), (55, .ireturn, 1), (56, .iinc 2 1, 3), (59, .goto (-36), 3), (62, .iinc 1 1, 3), (65, .goto (-54), 3), (68, .iconst 1, 1), (69, .ireturn, 1)]
def zcX9_push : List (Nat × Instr × Nat) := [(0, .aload_n 0, 1), (1, .invokevirtual 184, 3), (4, .iload_n 1, 1), (5, .i2l, 1), (6, .lconst 0, 1), (7, .aload_n 0, 1), (8, .getfield 149, 3), (11, .iconst 1, 1), (12, .isub, 1), (13, .i2l, 1), (14, .invokestatic 96, 3), (17, .ifCond .eq 15, 3), (20, .iload_n 2, 1), (21, .i2l, 1), (22, .lconst 0, 1), (23, .ldc2_w 187, 3), (26, .invokestatic 96, 3), (29, .ifCond .ne 9, 3), (32, .bipush (-2), 2), (34, .invokestatic 189, 3), (37, .lreturn, 1), (38, .iload_n 2, 1), (39, .ifCond .ne 12, 3), (42, .aload_n 0, 1), (43, .getfield 28, 3), (46, .iload_n 1, 1), (47, .laload, 1), (48, .goto 23, 3), (51, .iload_n 2, 1), (52, .iconst 1, 1), (53, .if_icmp .ne 12, 3), (56, .aload_n 0, 1), (57, .getfield 32, 3), (60, .iload_n 1, 1), (61, .laload, 1), (62, .goto 9, 3), (65, .aload_n 0, 1), (66, .getfield 35, 3), (69, .iload_n 1, 1), (70, .laload, 1), (71, .lreturn, 1)]
def zcX9_holds : List (Nat × Instr × Nat) := [(0, .aload_n 0, 1), (1, .invokevirtual 184, 3), (4, .aload_n 0, 1), (5, .invokevirtual 193, 3), (8, .ifCond .eq 7, 3), (11, .iconst 1, 1), (12, .goto 4, 3), (15, .iconst 0, 1), (16, .ireturn, 1)]
def zcX9_witness : List (Nat × Instr × Nat) := [(0, .iload_n 1, 1), (1, .i2l, 1), (2, .lconst 0, 1), (3, .ldc2_w 187, 3), (6, .invokestatic 96, 3), (9, .ifCond .ne 9, 3), (12, .bipush (-2), 2), (14, .invokestatic 189, 3), (17, .lreturn, 1), (18, .aload_n 0, 1), (19, .invokevirtual 184, 3), (22, .aload_n 0, 1), (23, .invokevirtual 180, 3), (26, .ifCond .ne 9, 3), (29, .bipush (-3), 2), (31, .invokestatic 189, 3), (34, .lreturn, 1), (35, .iconst 0, 1), (36, .istore_n 2, 1), (37, .iload_n 2, 1), (38, .aload_n 0, 1), (39, .getfield 149, 3), (42, .if_icmp .ge 95, 3), (45, .iload_n 2, 1), (46, .iconst 1, 1), (47, .iadd, 1), (48, .istore_n 3, 1), (49, .iload_n 3, 1), (50, .aload_n 0, 1), (51, .getfield 149, 3), (54, .if_icmp .ge 77, 3), (57, .aload_n 0, 1), (58, .iload_n 2, 1), (59, .iload_n 3, 1), (60, .invokevirtual 177, 3), (63, .ifCond .eq 62, 3), (66, .aload_n 0, 1), (67, .getfield 170, 3), (70, .ifCond .eq 10, 3), (73, .aload_n 0, 1), (74, .getfield 174, 3), (77, .ifCond .ne 48, 3), (80, .iload_n 1, 1), (81, .ifCond .ne 10, 3), (84, .aload_n 0, 1), (85, .getfield 160, 3), (88, .goto 19, 3), (91, .iload_n 1, 1), (92, .iconst 1, 1), (93, .if_icmp .ne 10, 3), (96, .aload_n 0, 1), (97, .getfield 164, 3), (100, .goto 7, 3), (103, .aload_n 0, 1), (104, .getfield 167, 3), (107, .lstore 4, 2), (109, .aload_n 0, 1), (110, .getfield 174, 3), (113, .ifCond .eq 9, 3), (116, .lload 4, 2), (118, .lneg, 1), (119, .goto 5, 3), (122, .lload 4, 2), (124, .lreturn, 1), (125, .iinc 3 1, 3), (128, .goto (-79), 3), (131, .iinc 2 1, 3), (134, .goto (-97), 3), (137, .bipush (-3), 2), (139, .invokestatic 189, 3), (142, .lreturn, 1)]
def zcX9_free : List (Nat × Instr × Nat) := [(0, .aload_n 0, 1), (1, .iload_n 1, 1), (2, .invokevirtual 141, 3), (5, .ifCond .ne 6, 3), (8, .bipush (-2), 2), (10, .ireturn, 1), (11, .aload_n 0, 1), (12, .getfield 25, 3), (15, .iload_n 1, 1), (16, .iaload, 1), (17, .istore_n 2, 1), (18, .iconst 0, 1), (19, .istore_n 3, 1), (20, .iconst 0, 1), (21, .istore 4, 2), (23, .iload 4, 2), (25, .bipush 9, 2), (27, .if_icmp .ge 39, 3), (30, .aload_n 0, 1), (31, .getfield 25, 3), (34, .iload_n 1, 1), (35, .iload 4, 2), (37, .iastore, 1), (38, .aload_n 0, 1), (39, .invokevirtual 184, 3), (42, .iload_n 3, 1), (43, .aload_n 0, 1), (44, .invokevirtual 193, 3), (47, .ifCond .eq 10, 3), (50, .iconst 1, 1), (51, .iload 4, 2), (53, .ishl, 1), (54, .goto 4, 3), (57, .iconst 0, 1), (58, .ior, 1), (59, .istore_n 3, 1), (60, .iinc 4 1, 3), (63, .goto (-40), 3), (66, .aload_n 0, 1), (67, .getfield 25, 3), (70, .iload_n 1, 1), (71, .iload_n 2, 1), (72, .iastore, 1), (73, .iload_n 3, 1), (74, .ireturn, 1)]
def zcX9_holdBy : List (Nat × Instr × Nat) := [(0, .iconst 1, 1), (1, .istore_n 2, 1), (2, .iconst 0, 1), (3, .istore_n 3, 1), (4, .iload_n 3, 1), (5, .aload_n 0, 1), (6, .getfield 107, 3), (9, .if_icmp .ge 13, 3), (12, .iload_n 2, 1), (13, .iconst 3, 1), (14, .imul, 1), (15, .istore_n 2, 1), (16, .iinc 3 1, 3), (19, .goto (-15), 3), (22, .iconst 0, 1), (23, .istore_n 3, 1), (24, .iload_n 3, 1), (25, .iload_n 2, 1), (26, .if_icmp .ge 102, 3), (29, .iload_n 3, 1), (30, .istore 4, 2), (32, .aload_n 0, 1), (33, .iconst 0, 1), (34, .putfield 149, 3), (37, .iconst 0, 1), (38, .istore 5, 2), (40, .iload 5, 2), (42, .aload_n 0, 1), (43, .getfield 107, 3), (46, .if_icmp .ge 67, 3), (49, .aload_n 0, 1), (50, .getfield 25, 3), (53, .iload 5, 2), (55, .iaload, 1), (56, .iload_n 1, 1), (57, .iload 4, 2), (59, .iconst 3, 1), (60, .irem, 1), (61, .iconst 1, 1), (62, .isub, 1), (63, .imul, 1), (64, .iadd, 1), (65, .istore 6, 2), (67, .aload_n 0, 1), (68, .aload_n 0, 1), (69, .getfield 22, 3), (72, .iload 5, 2), (74, .iaload, 1), (75, .iload 6, 2), (77, .ifCond .ge 7, 3), (80, .iconst 0, 1), (81, .goto 17, 3), (84, .iload 6, 2), (86, .bipush 8, 2), (88, .if_icmp .le 8, 3), (91, .bipush 8, 2), (93, .goto 5, 3), (96, .iload 6, 2), (98, .invokevirtual 156, 3), (101, .iload 4, 2), (103, .iconst 3, 1), (104, .idiv, 1), (105, .istore 4, 2), (107, .iinc 5 1, 3), (110, .goto (-70), 3), (113, .aload_n 0, 1), (114, .invokevirtual 193, 3), (117, .ifCond .ne 5, 3), (120, .iconst 0, 1), (121, .ireturn, 1), (122, .iinc 3 1, 3), (125, .goto (-101), 3), (128, .iconst 1, 1), (129, .ireturn, 1)]
def zcX9_slip : List (Nat × Instr × Nat) := [(0, .aload_n 0, 1), (1, .getfield 107, 3), (4, .iconst 4, 1), (5, .if_icmp .le 6, 3), (8, .bipush (-3), 2), (10, .ireturn, 1), (11, .aload_n 0, 1), (12, .iconst 0, 1), (13, .invokevirtual 196, 3), (16, .ifCond .ne 5, 3), (19, .iconst (-1), 1), (20, .ireturn, 1), (21, .iconst 0, 1), (22, .istore_n 1, 1), (23, .iconst 1, 1), (24, .istore_n 2, 1), (25, .iload_n 2, 1), (26, .bipush 9, 2), (28, .if_icmp .ge 23, 3), (31, .aload_n 0, 1), (32, .iload_n 2, 1), (33, .invokevirtual 196, 3), (36, .ifCond .eq 7, 3), (39, .iload_n 2, 1), (40, .goto 4, 3), (43, .iload_n 1, 1), (44, .istore_n 1, 1), (45, .iinc 2 1, 3), (48, .goto (-23), 3), (51, .iload_n 1, 1), (52, .ireturn, 1)]
def zcX9_spot : List (Nat × Instr × Nat) := [(0, .aload_n 0, 1), (1, .iload_n 1, 1), (2, .iload_n 2, 1), (3, .invokevirtual 138, 3), (6, .ifCond .eq 15, 3), (9, .iload_n 3, 1), (10, .i2l, 1), (11, .lconst 0, 1), (12, .ldc2_w 126, 3), (15, .invokestatic 96, 3), (18, .ifCond .ne 6, 3), (21, .bipush (-2), 2), (23, .ireturn, 1), (24, .aload_n 0, 1), (25, .getfield 110, 3), (28, .bipush 7, 2), (30, .if_icmp .ne 6, 3), (33, .bipush (-4), 2), (35, .ireturn, 1), (36, .aload_n 0, 1), (37, .getfield 38, 3), (40, .aload_n 0, 1), (41, .getfield 110, 3), (44, .iload_n 1, 1), (45, .iastore, 1), (46, .aload_n 0, 1), (47, .getfield 41, 3), (50, .aload_n 0, 1), (51, .getfield 110, 3), (54, .iload_n 2, 1), (55, .iastore, 1), (56, .aload_n 0, 1), (57, .getfield 44, 3), (60, .aload_n 0, 1), (61, .getfield 110, 3), (64, .iload_n 3, 1), (65, .iastore, 1), (66, .aload_n 0, 1), (67, .dup, 1), (68, .getfield 110, 3), (71, .iconst 1, 1), (72, .iadd, 1), (73, .putfield 110, 3), (76, .aload_n 0, 1), (77, .getfield 110, 3), (80, .ireturn, 1)]
def zcX9_priceOf : List (Nat × Instr × Nat) := [(0, .iconst 0, 1), (1, .istore_n 2, 1), (2, .iconst 0, 1), (3, .istore_n 3, 1), (4, .iload_n 3, 1), (5, .aload_n 0, 1), (6, .getfield 110, 3), (9, .if_icmp .ge 31, 3), (12, .iload_n 2, 1), (13, .iload_n 1, 1), (14, .iload_n 3, 1), (15, .ishr, 1), (16, .iconst 1, 1), (17, .iand, 1), (18, .iconst 1, 1), (19, .if_icmp .ne 12, 3), (22, .aload_n 0, 1), (23, .getfield 44, 3), (26, .iload_n 3, 1), (27, .iaload, 1), (28, .goto 4, 3), (31, .iconst 0, 1), (32, .iadd, 1), (33, .istore_n 2, 1), (34, .iinc 3 1, 3), (37, .goto (-33), 3), (40, .iload_n 2, 1), (41, .ireturn, 1)]
def zcX9_cheapest : List (Nat × Instr × Nat) := [(0, .iconst (-1), 1), (1, .istore_n 1, 1), (2, .iconst 0, 1), (3, .istore_n 2, 1), (4, .iconst 0, 1), (5, .istore_n 3, 1), (6, .iconst 0, 1), (7, .istore 4, 2), (9, .iload 4, 2), (11, .iconst 1, 1), (12, .aload_n 0, 1), (13, .getfield 110, 3), (16, .ishl, 1), (17, .if_icmp .ge 114, 3), (20, .aload_n 0, 1), (21, .iconst 0, 1), (22, .putfield 149, 3), (25, .iconst 0, 1), (26, .istore 5, 2), (28, .iconst 0, 1), (29, .istore 6, 2), (31, .iload 6, 2), (33, .aload_n 0, 1), (34, .getfield 110, 3), (37, .if_icmp .ge 41, 3), (40, .iload 4, 2), (42, .iload 6, 2), (44, .ishr, 1), (45, .iconst 1, 1), (46, .iand, 1), (47, .iconst 1, 1), (48, .if_icmp .ne 24, 3), (51, .aload_n 0, 1), (52, .aload_n 0, 1), (53, .getfield 38, 3), (56, .iload 6, 2), (58, .iaload, 1), (59, .aload_n 0, 1), (60, .getfield 41, 3), (63, .iload 6, 2), (65, .iaload, 1), (66, .invokevirtual 156, 3), (69, .iinc 5 1, 3), (72, .iinc 6 1, 3), (75, .goto (-44), 3), (78, .aload_n 0, 1), (79, .iload 4, 2), (81, .invokevirtual 199, 3), (84, .istore 6, 2), (86, .iload_n 1, 1), (87, .iconst (-1), 1), (88, .if_icmp .eq 21, 3), (91, .iload 6, 2), (93, .iload_n 2, 1), (94, .if_icmp .lt 15, 3), (97, .iload 6, 2), (99, .iload_n 2, 1), (100, .if_icmp .ne 25, 3), (103, .iload 5, 2), (105, .iload_n 3, 1), (106, .if_icmp .ge 19, 3), (109, .aload_n 0, 1), (110, .invokevirtual 193, 3), (113, .ifCond .eq 12, 3), (116, .iload 4, 2), (118, .istore_n 1, 1), (119, .iload 6, 2), (121, .istore_n 2, 1), (122, .iload 5, 2), (124, .istore_n 3, 1), (125, .iinc 4 1, 3), (128, .goto (-119), 3), (131, .iload_n 1, 1), (132, .ireturn, 1)]
def zcX9_take : List (Nat × Instr × Nat) := [(0, .aload_n 0, 1), (1, .invokevirtual 202, 3), (4, .istore_n 1, 1), (5, .iload_n 1, 1), (6, .iconst (-1), 1), (7, .if_icmp .ne 6, 3), (10, .bipush (-3), 2), (12, .ireturn, 1), (13, .aload_n 0, 1), (14, .iconst 0, 1), (15, .putfield 107, 3), (18, .iconst 0, 1), (19, .istore_n 2, 1), (20, .iload_n 2, 1), (21, .aload_n 0, 1), (22, .getfield 110, 3), (25, .if_icmp .ge 58, 3), (28, .iload_n 1, 1), (29, .iload_n 2, 1), (30, .ishr, 1), (31, .iconst 1, 1), (32, .iand, 1), (33, .iconst 1, 1), (34, .if_icmp .ne 43, 3), (37, .aload_n 0, 1), (38, .getfield 22, 3), (41, .aload_n 0, 1), (42, .getfield 107, 3), (45, .aload_n 0, 1), (46, .getfield 38, 3), (49, .iload_n 2, 1), (50, .iaload, 1), (51, .iastore, 1), (52, .aload_n 0, 1), (53, .getfield 25, 3), (56, .aload_n 0, 1), (57, .getfield 107, 3), (60, .aload_n 0, 1), (61, .getfield 41, 3), (64, .iload_n 2, 1), (65, .iaload, 1), (66, .iastore, 1), (67, .aload_n 0, 1), (68, .dup, 1), (69, .getfield 107, 3), (72, .iconst 1, 1), (73, .iadd, 1), (74, .putfield 107, 3), (77, .iinc 2 1, 3), (80, .goto (-60), 3), (83, .aload_n 0, 1), (84, .iload_n 1, 1), (85, .invokevirtual 199, 3), (88, .ireturn, 1)]
def zcX9_farSquare : List (Nat × Instr × Nat) := [(0, .ldc2_w 92, 3), (3, .aload_n 0, 1), (4, .invokevirtual 113, 3), (7, .i2l, 1), (8, .lmul, 1), (9, .lstore_n 3, 1), (10, .lload_n 3, 1), (11, .iload_n 1, 1), (12, .i2l, 1), (13, .lmul, 1), (14, .ldc2_w 136, 3), (17, .aload_n 0, 1), (18, .invokevirtual 117, 3), (21, .i2l, 1), (22, .lmul, 1), (23, .lsub, 1), (24, .lstore 5, 2), (26, .lload_n 3, 1), (27, .iload_n 2, 1), (28, .i2l, 1), (29, .lmul, 1), (30, .ldc2_w 136, 3), (33, .aload_n 0, 1), (34, .invokevirtual 120, 3), (37, .i2l, 1), (38, .lmul, 1), (39, .lsub, 1), (40, .lstore 7, 2), (42, .lload 5, 2), (44, .lload 5, 2), (46, .lmul, 1), (47, .lload 7, 2), (49, .lload 7, 2), (51, .lmul, 1), (52, .ladd, 1), (53, .lreturn, 1)]
def zcX9_lifted : List (Nat × Instr × Nat) := [(0, .ldc2_w 92, 3), (3, .aload_n 0, 1), (4, .invokevirtual 113, 3), (7, .i2l, 1), (8, .lmul, 1), (9, .lload 4, 2), (11, .lmul, 1), (12, .lstore 6, 2), (14, .lload 6, 2), (16, .ldc2_w 205, 3), (19, .lcmp, 1), (20, .ifCond .gt 24, 3), (23, .iload_n 3, 1), (24, .i2l, 1), (25, .iload_n 3, 1), (26, .i2l, 1), (27, .lmul, 1), (28, .aload_n 0, 1), (29, .iload_n 1, 1), (30, .iload_n 2, 1), (31, .invokevirtual 207, 3), (34, .lmul, 1), (35, .lload 6, 2), (37, .lload 6, 2), (39, .lmul, 1), (40, .lcmp, 1), (41, .ifCond .gt 7, 3), (44, .iconst 1, 1), (45, .goto 4, 3), (48, .iconst 0, 1), (49, .ireturn, 1)]
def zcX9_lifts : List (Nat × Instr × Nat) := [(0, .iload_n 1, 1), (1, .iload_n 2, 1), (2, .invokestatic 128, 3), (5, .ifCond .eq 28, 3), (8, .iload_n 3, 1), (9, .i2l, 1), (10, .lconst 1, 1), (11, .ldc2_w 211, 3), (14, .invokestatic 96, 3), (17, .ifCond .eq 16, 3), (20, .iload 4, 2), (22, .i2l, 1), (23, .lconst 0, 1), (24, .ldc2_w 213, 3), (27, .invokestatic 96, 3), (30, .ifCond .ne 6, 3), (33, .bipush (-2), 2), (35, .ireturn, 1), (36, .aload_n 0, 1), (37, .iload_n 1, 1), (38, .iload_n 2, 1), (39, .invokevirtual 132, 3), (42, .ifCond .le 20, 3), (45, .aload_n 0, 1), (46, .iload_n 1, 1), (47, .iload_n 2, 1), (48, .iload_n 3, 1), (49, .iload 4, 2), (51, .i2l, 1), (52, .invokevirtual 215, 3), (55, .ifCond .eq 7, 3), (58, .iconst 1, 1), (59, .goto 4, 3), (62, .iconst 0, 1), (63, .ireturn, 1)]
def zcX9_seal : List (Nat × Instr × Nat) := [(0, .iload_n 1, 1), (1, .iload_n 2, 1), (2, .invokestatic 128, 3), (5, .ifCond .eq 15, 3), (8, .iload_n 3, 1), (9, .i2l, 1), (10, .lconst 1, 1), (11, .ldc2_w 211, 3), (14, .invokestatic 96, 3), (17, .ifCond .ne 6, 3), (20, .bipush (-2), 2), (22, .ireturn, 1), (23, .aload_n 0, 1), (24, .iload_n 1, 1), (25, .iload_n 2, 1), (26, .invokevirtual 132, 3), (29, .ifCond .ne 6, 3), (32, .bipush (-3), 2), (34, .ireturn, 1), (35, .iload_n 3, 1), (36, .i2l, 1), (37, .iload_n 3, 1), (38, .i2l, 1), (39, .lmul, 1), (40, .aload_n 0, 1), (41, .iload_n 1, 1), (42, .iload_n 2, 1), (43, .invokevirtual 207, 3), (46, .lmul, 1), (47, .lstore 4, 2), (49, .lconst 0, 1), (50, .lstore 6, 2), (52, .ldc2_w 219, 3), (55, .lstore 8, 2), (57, .lload 6, 2), (59, .lload 8, 2), (61, .lcmp, 1), (62, .ifCond .ge 41, 3), (65, .lload 6, 2), (67, .lload 8, 2), (69, .ladd, 1), (70, .ldc2_w 187, 3), (73, .ldiv, 1), (74, .lstore 10, 2), (76, .lload 10, 2), (78, .lload 10, 2), (80, .lmul, 1), (81, .lload 4, 2), (83, .lcmp, 1), (84, .ifCond .lt 10, 3), (87, .lload 10, 2), (89, .lstore 8, 2), (91, .goto 9, 3), (94, .lload 10, 2), (96, .lconst 1, 1), (97, .ladd, 1), (98, .lstore 6, 2), (100, .goto (-43), 3), (103, .ldc2_w 92, 3), (106, .aload_n 0, 1), (107, .invokevirtual 113, 3), (110, .i2l, 1), (111, .lmul, 1), (112, .lstore 10, 2), (114, .lload 6, 2), (116, .lload 10, 2), (118, .ladd, 1), (119, .lconst 1, 1), (120, .lsub, 1), (121, .lload 10, 2), (123, .ldiv, 1), (124, .l2i, 1), (125, .ireturn, 1)]
def zcX9_probe : List (Nat × Instr × Nat) := [(0, .iload_n 1, 1), (1, .i2l, 1), (2, .ldc2_w 221, 3), (5, .ldc2_w 223, 3), (8, .invokestatic 96, 3), (11, .ifCond .eq 17, 3), (14, .iload_n 2, 1), (15, .i2l, 1), (16, .ldc2_w 221, 3), (19, .ldc2_w 223, 3), (22, .invokestatic 96, 3), (25, .ifCond .ne 6, 3), (28, .bipush (-2), 2), (30, .ireturn, 1), (31, .aload_n 0, 1), (32, .getfield 225, 3), (35, .bipush 20, 2), (37, .if_icmp .ne 6, 3), (40, .bipush (-4), 2), (42, .ireturn, 1), (43, .aload_n 0, 1), (44, .getfield 47, 3), (47, .aload_n 0, 1), (48, .getfield 225, 3), (51, .iload_n 1, 1), (52, .iastore, 1), (53, .aload_n 0, 1), (54, .getfield 50, 3), (57, .aload_n 0, 1), (58, .getfield 225, 3), (61, .iload_n 2, 1), (62, .iastore, 1), (63, .aload_n 0, 1), (64, .dup, 1), (65, .getfield 225, 3), (68, .iconst 1, 1), (69, .iadd, 1), (70, .putfield 225, 3), (73, .aload_n 0, 1), (74, .getfield 225, 3), (77, .ireturn, 1)]
def zcX9_fits : List (Nat × Instr × Nat) := [(0, .iconst 1, 1), (1, .istore_n 3, 1), (2, .iconst 0, 1), (3, .istore 4, 2), (5, .iload 4, 2), (7, .aload_n 0, 1), (8, .getfield 225, 3), (11, .if_icmp .ge 117, 3), (14, .iload_n 3, 1), (15, .ifCond .eq 113, 3), (18, .aload_n 0, 1), (19, .getfield 62, 3), (22, .iconst 0, 1), (23, .iaload, 1), (24, .ifCond .lt 14, 3), (27, .iload 4, 2), (29, .aload_n 0, 1), (30, .getfield 65, 3), (33, .iconst 0, 1), (34, .iaload, 1), (35, .if_icmp .lt 7, 3), (38, .iconst (-1), 1), (39, .goto 10, 3), (42, .aload_n 0, 1), (43, .getfield 68, 3), (46, .iload 4, 2), (48, .iaload, 1), (49, .istore 5, 2), (51, .iload 5, 2), (53, .ifCond .eq 9, 3), (56, .iload 5, 2), (58, .iconst 1, 1), (59, .if_icmp .ne 63, 3), (62, .aload_n 0, 1), (63, .bipush 8, 2), (65, .aload_n 0, 1), (66, .getfield 47, 3), (69, .iload 4, 2), (71, .iaload, 1), (72, .iload_n 1, 1), (73, .isub, 1), (74, .imul, 1), (75, .bipush 8, 2), (77, .aload_n 0, 1), (78, .getfield 50, 3), (81, .iload 4, 2), (83, .iaload, 1), (84, .iload_n 2, 1), (85, .isub, 1), (86, .imul, 1), (87, .invokevirtual 132, 3), (90, .ifCond .le 7, 3), (93, .iconst 1, 1), (94, .goto 4, 3), (97, .iconst 0, 1), (98, .istore 6, 2), (100, .iload 6, 2), (102, .iload 5, 2), (104, .iconst 1, 1), (105, .if_icmp .ne 7, 3), (108, .iconst 1, 1), (109, .goto 4, 3), (112, .iconst 0, 1), (113, .if_icmp .ne 7, 3), (116, .iconst 1, 1), (117, .goto 4, 3), (120, .iconst 0, 1), (121, .istore_n 3, 1), (122, .iinc 4 1, 3), (125, .goto (-120), 3), (128, .iload_n 3, 1), (129, .ireturn, 1)]
def zcX9_poses : List (Nat × Instr × Nat) := [(0, .iconst 0, 1), (1, .istore_n 1, 1), (2, .iconst 0, 1), (3, .istore_n 2, 1), (4, .iload_n 2, 1), (5, .bipush 81, 2), (7, .if_icmp .ge 36, 3), (10, .iload_n 1, 1), (11, .aload_n 0, 1), (12, .iload_n 2, 1), (13, .bipush 9, 2), (15, .idiv, 1), (16, .iconst 4, 1), (17, .isub, 1), (18, .iload_n 2, 1), (19, .bipush 9, 2), (21, .irem, 1), (22, .iconst 4, 1), (23, .isub, 1), (24, .invokevirtual 228, 3), (27, .ifCond .eq 7, 3), (30, .iconst 1, 1), (31, .goto 4, 3), (34, .iconst 0, 1), (35, .iadd, 1), (36, .istore_n 1, 1), (37, .iinc 2 1, 3), (40, .goto (-36), 3), (43, .iload_n 1, 1), (44, .ireturn, 1)]
def zcX9_pose : List (Nat × Instr × Nat) := [(0, .iconst 0, 1), (1, .istore_n 2, 1), (2, .iconst 0, 1), (3, .istore_n 3, 1), (4, .iload_n 3, 1), (5, .bipush 81, 2), (7, .if_icmp .ge 49, 3), (10, .aload_n 0, 1), (11, .iload_n 3, 1), (12, .bipush 9, 2), (14, .idiv, 1), (15, .iconst 4, 1), (16, .isub, 1), (17, .iload_n 3, 1), (18, .bipush 9, 2), (20, .irem, 1), (21, .iconst 4, 1), (22, .isub, 1), (23, .invokevirtual 228, 3), (26, .ifCond .eq 24, 3), (29, .iload_n 2, 1), (30, .iload_n 1, 1), (31, .if_icmp .ne 16, 3), (34, .bipush 10, 2), (36, .iload_n 3, 1), (37, .bipush 9, 2), (39, .idiv, 1), (40, .imul, 1), (41, .iload_n 3, 1), (42, .bipush 9, 2), (44, .irem, 1), (45, .iadd, 1), (46, .ireturn, 1), (47, .iinc 2 1, 3), (50, .iinc 3 1, 3), (53, .goto (-49), 3), (56, .bipush (-2), 2), (58, .ireturn, 1)]
def zcX9_grip : List (Nat × Instr × Nat) := [(0, .aload_n 0, 1), (1, .getfield 231, 3), (4, .bipush 10, 2), (6, .if_icmp .ne 6, 3), (9, .bipush (-4), 2), (11, .ireturn, 1), (12, .aload_n 0, 1), (13, .dup, 1), (14, .getfield 231, 3), (17, .iconst 1, 1), (18, .iadd, 1), (19, .putfield 231, 3), (22, .aload_n 0, 1), (23, .getfield 231, 3), (26, .iconst 1, 1), (27, .isub, 1), (28, .ireturn, 1)]
def zcX9_isGrip : List (Nat × Instr × Nat) := [(0, .iload_n 1, 1), (1, .i2l, 1), (2, .lconst 0, 1), (3, .aload_n 0, 1), (4, .getfield 231, 3), (7, .iconst 1, 1), (8, .isub, 1), (9, .i2l, 1), (10, .invokestatic 96, 3), (13, .ireturn, 1)]
def zcX9_link : List (Nat × Instr × Nat) := [(0, .aload_n 0, 1), (1, .iload_n 1, 1), (2, .invokevirtual 234, 3), (5, .ifCond .eq 28, 3), (8, .aload_n 0, 1), (9, .iload_n 2, 1), (10, .invokevirtual 234, 3), (13, .ifCond .eq 20, 3), (16, .iload_n 1, 1), (17, .iload_n 2, 1), (18, .if_icmp .eq 15, 3), (21, .iload_n 3, 1), (22, .i2l, 1), (23, .lconst 1, 1), (24, .ldc2_w 126, 3), (27, .invokestatic 96, 3), (30, .ifCond .ne 6, 3), (33, .bipush (-2), 2), (35, .ireturn, 1), (36, .aload_n 0, 1), (37, .getfield 53, 3), (40, .bipush 10, 2), (42, .iload_n 1, 1), (43, .imul, 1), (44, .iload_n 2, 1), (45, .iadd, 1), (46, .iload_n 3, 1), (47, .iastore, 1), (48, .aload_n 0, 1), (49, .getfield 53, 3), (52, .bipush 10, 2), (54, .iload_n 2, 1), (55, .imul, 1), (56, .iload_n 1, 1), (57, .iadd, 1), (58, .iload_n 3, 1), (59, .iastore, 1), (60, .iconst 1, 1), (61, .ireturn, 1)]
def zcX9_way : List (Nat × Instr × Nat) := [(0, .aload_n 0, 1), (1, .iload_n 1, 1), (2, .invokevirtual 234, 3), (5, .ifCond .eq 11, 3), (8, .aload_n 0, 1), (9, .iload_n 2, 1), (10, .invokevirtual 234, 3), (13, .ifCond .ne 6, 3), (16, .bipush (-2), 2), (18, .ireturn, 1), (19, .iconst 0, 1), (20, .istore_n 3, 1), (21, .iload_n 3, 1), (22, .bipush 10, 2), (24, .if_icmp .ge 26, 3), (27, .aload_n 0, 1), (28, .getfield 56, 3), (31, .iload_n 3, 1), (32, .iload_n 3, 1), (33, .iload_n 1, 1), (34, .if_icmp .ne 7, 3), (37, .iconst 0, 1), (38, .goto 5, 3), (41, .ldc 78, 2), (43, .iastore, 1), (44, .iinc 3 1, 3), (47, .goto (-26), 3), (50, .iconst 1, 1), (51, .istore_n 3, 1), (52, .iload_n 3, 1), (53, .ifCond .eq 105, 3), (56, .iconst 0, 1), (57, .istore_n 3, 1), (58, .iconst 0, 1), (59, .istore 4, 2), (61, .iload 4, 2), (63, .aload_n 0, 1), (64, .getfield 231, 3), (67, .if_icmp .ge 88, 3), (70, .iconst 0, 1), (71, .istore 5, 2), (73, .iload 5, 2), (75, .aload_n 0, 1), (76, .getfield 231, 3), (79, .if_icmp .ge 70, 3), (82, .aload_n 0, 1), (83, .getfield 56, 3), (86, .iload 4, 2), (88, .iaload, 1), (89, .aload_n 0, 1), (90, .getfield 53, 3), (93, .bipush 10, 2), (95, .iload 4, 2), (97, .imul, 1), (98, .iload 5, 2), (100, .iadd, 1), (101, .iaload, 1), (102, .iadd, 1), (103, .aload_n 0, 1), (104, .getfield 56, 3), (107, .iload 5, 2), (109, .iaload, 1), (110, .if_icmp .ge 33, 3), (113, .aload_n 0, 1), (114, .getfield 56, 3), (117, .iload 5, 2), (119, .aload_n 0, 1), (120, .getfield 56, 3), (123, .iload 4, 2), (125, .iaload, 1), (126, .aload_n 0, 1), (127, .getfield 53, 3), (130, .bipush 10, 2), (132, .iload 4, 2), (134, .imul, 1), (135, .iload 5, 2), (137, .iadd, 1), (138, .iaload, 1), (139, .iadd, 1), (140, .iastore, 1), (141, .iconst 1, 1), (142, .istore_n 3, 1), (143, .iinc 5 1, 3), (146, .goto (-73), 3), (149, .iinc 4 1, 3), (152, .goto (-91), 3), (155, .goto (-103), 3), (158, .aload_n 0, 1), (159, .getfield 56, 3), (162, .iload_n 2, 1), (163, .iaload, 1), (164, .ldc 78, 2), (166, .if_icmp .lt 7, 3), (169, .iconst (-1), 1), (170, .goto 9, 3), (173, .aload_n 0, 1), (174, .getfield 56, 3), (177, .iload_n 2, 1), (178, .iaload, 1), (179, .ireturn, 1)]
def zcX9_drop : List (Nat × Instr × Nat) := [(0, .aload_n 0, 1), (1, .getfield 237, 3), (4, .bipush 12, 2), (6, .if_icmp .ne 6, 3), (9, .bipush (-4), 2), (11, .ireturn, 1), (12, .aload_n 0, 1), (13, .dup, 1), (14, .getfield 240, 3), (17, .iconst 1, 1), (18, .aload_n 0, 1), (19, .getfield 237, 3), (22, .ishl, 1), (23, .ior, 1), (24, .putfield 240, 3), (27, .aload_n 0, 1), (28, .dup, 1), (29, .getfield 237, 3), (32, .iconst 1, 1), (33, .iadd, 1), (34, .putfield 237, 3), (37, .aload_n 0, 1), (38, .getfield 237, 3), (41, .iconst 1, 1), (42, .isub, 1), (43, .ireturn, 1)]
def zcX9_isDropped : List (Nat × Instr × Nat) := [(0, .iload_n 1, 1), (1, .i2l, 1), (2, .lconst 0, 1), (3, .aload_n 0, 1), (4, .getfield 237, 3), (7, .iconst 1, 1), (8, .isub, 1), (9, .i2l, 1), (10, .invokestatic 96, 3), (13, .ireturn, 1)]
def zcX9_on : List (Nat × Instr × Nat) := [(0, .aload_n 0, 1), (1, .iload_n 1, 1), (2, .invokevirtual 243, 3), (5, .ifCond .eq 16, 3), (8, .aload_n 0, 1), (9, .iload_n 2, 1), (10, .invokevirtual 243, 3), (13, .ifCond .eq 8, 3), (16, .iload_n 1, 1), (17, .iload_n 2, 1), (18, .if_icmp .ne 6, 3), (21, .bipush (-2), 2), (23, .ireturn, 1), (24, .aload_n 0, 1), (25, .getfield 59, 3), (28, .iload_n 2, 1), (29, .dup2, 1), (30, .iaload, 1), (31, .iconst 1, 1), (32, .iload_n 1, 1), (33, .ishl, 1), (34, .ior, 1), (35, .iastore, 1), (36, .iconst 1, 1), (37, .ireturn, 1)]
def zcX9_pick : List (Nat × Instr × Nat) := [(0, .aload_n 0, 1), (1, .iload_n 1, 1), (2, .invokevirtual 243, 3), (5, .ifCond .ne 6, 3), (8, .bipush (-2), 2), (10, .ireturn, 1), (11, .aload_n 0, 1), (12, .getfield 240, 3), (15, .iload_n 1, 1), (16, .ishr, 1), (17, .iconst 1, 1), (18, .iand, 1), (19, .ifCond .eq 17, 3), (22, .aload_n 0, 1), (23, .getfield 59, 3), (26, .iload_n 1, 1), (27, .iaload, 1), (28, .aload_n 0, 1), (29, .getfield 240, 3), (32, .iand, 1), (33, .ifCond .eq 6, 3), (36, .bipush (-3), 2), (38, .ireturn, 1), (39, .aload_n 0, 1), (40, .dup, 1), (41, .getfield 240, 3), (44, .iconst 1, 1), (45, .iload_n 1, 1), (46, .ishl, 1), (47, .iconst (-1), 1), (48, .ixor, 1), (49, .iand, 1), (50, .putfield 240, 3), (53, .iconst 1, 1), (54, .ireturn, 1)]
def zcX9_left : List (Nat × Instr × Nat) := [(0, .iload_n 1, 1), (1, .istore_n 2, 1), (2, .iconst 1, 1), (3, .istore_n 3, 1), (4, .iload_n 3, 1), (5, .ifCond .eq 59, 3), (8, .iconst 0, 1), (9, .istore_n 3, 1), (10, .iconst 0, 1), (11, .istore 4, 2), (13, .iload 4, 2), (15, .aload_n 0, 1), (16, .getfield 237, 3), (19, .if_icmp .ge 42, 3), (22, .iload_n 2, 1), (23, .iload 4, 2), (25, .ishr, 1), (26, .iconst 1, 1), (27, .iand, 1), (28, .iconst 1, 1), (29, .if_icmp .ne 26, 3), (32, .aload_n 0, 1), (33, .getfield 59, 3), (36, .iload 4, 2), (38, .iaload, 1), (39, .iload_n 2, 1), (40, .iand, 1), (41, .ifCond .ne 14, 3), (44, .iload_n 2, 1), (45, .iconst 1, 1), (46, .iload 4, 2), (48, .ishl, 1), (49, .iconst (-1), 1), (50, .ixor, 1), (51, .iand, 1), (52, .istore_n 2, 1), (53, .iconst 1, 1), (54, .istore_n 3, 1), (55, .iinc 4 1, 3), (58, .goto (-45), 3), (61, .goto (-57), 3), (64, .iload_n 2, 1), (65, .ireturn, 1)]
def zcX9_reach : List (Nat × Instr × Nat) := [(0, .aload_n 0, 1), (1, .iload_n 1, 1), (2, .invokevirtual 243, 3), (5, .ifCond .ne 6, 3), (8, .bipush (-2), 2), (10, .ireturn, 1), (11, .aload_n 0, 1), (12, .getfield 240, 3), (15, .iload_n 1, 1), (16, .ishr, 1), (17, .iconst 1, 1), (18, .iand, 1), (19, .ifCond .ne 6, 3), (22, .bipush (-3), 2), (24, .ireturn, 1), (25, .iconst 1, 1), (26, .iload_n 1, 1), (27, .ishl, 1), (28, .istore_n 2, 1), (29, .iconst 0, 1), (30, .istore_n 3, 1), (31, .iload_n 3, 1), (32, .aload_n 0, 1), (33, .getfield 237, 3), (36, .if_icmp .ge 56, 3), (39, .iconst 0, 1), (40, .istore 4, 2), (42, .iload 4, 2), (44, .aload_n 0, 1), (45, .getfield 237, 3), (48, .if_icmp .ge 38, 3), (51, .iload_n 2, 1), (52, .iload_n 2, 1), (53, .iload 4, 2), (55, .ishr, 1), (56, .iconst 1, 1), (57, .iand, 1), (58, .iconst 1, 1), (59, .if_icmp .ne 18, 3), (62, .aload_n 0, 1), (63, .getfield 59, 3), (66, .iload 4, 2), (68, .iaload, 1), (69, .aload_n 0, 1), (70, .getfield 240, 3), (73, .iand, 1), (74, .goto 4, 3), (77, .iconst 0, 1), (78, .ior, 1), (79, .istore_n 2, 1), (80, .iinc 4 1, 3), (83, .goto (-41), 3), (86, .iinc 3 1, 3), (89, .goto (-58), 3), (92, .aload_n 0, 1), (93, .iload_n 2, 1), (94, .invokevirtual 246, 3), (97, .ifCond .eq 5, 3), (100, .iconst (-1), 1), (101, .ireturn, 1), (102, .iload_n 2, 1), (103, .invokestatic 249, 3), (106, .ireturn, 1)]
def zcX9_ones : List (Nat × Instr × Nat) := [(0, .iconst 0, 1), (1, .istore_n 1, 1), (2, .iconst 0, 1), (3, .istore_n 2, 1), (4, .iload_n 2, 1), (5, .bipush 12, 2), (7, .if_icmp .ge 17, 3), (10, .iload_n 1, 1), (11, .iload_n 0, 1), (12, .iload_n 2, 1), (13, .ishr, 1), (14, .iconst 1, 1), (15, .iand, 1), (16, .iadd, 1), (17, .istore_n 1, 1), (18, .iinc 2 1, 3), (21, .goto (-17), 3), (24, .iload_n 1, 1), (25, .ireturn, 1)]
def zcX9_stuck : List (Nat × Instr × Nat) := [(0, .aload_n 0, 1), (1, .aload_n 0, 1), (2, .getfield 240, 3), (5, .invokevirtual 246, 3), (8, .ireturn, 1)]
def zcX9_met : List (Nat × Instr × Nat) := [(0, .aload_n 0, 1), (1, .iload_n 1, 1), (2, .putfield 252, 3), (5, .bipush (-10), 2), (7, .iload_n 1, 1), (8, .isub, 1), (9, .ireturn, 1)]
def zcX9_isSheet : List (Nat × Instr × Nat) := [(0, .iload_n 0, 1), (1, .i2l, 1), (2, .lconst 0, 1), (3, .ldc2_w 92, 3), (6, .invokestatic 96, 3), (9, .ireturn, 1)]
def zcX9_sheet : List (Nat × Instr × Nat) := [(0, .iload_n 1, 1), (1, .invokestatic 88, 3), (4, .ifCond .eq 21, 3), (7, .iload_n 2, 1), (8, .i2l, 1), (9, .lconst 0, 1), (10, .ldc2_w 187, 3), (13, .invokestatic 96, 3), (16, .ifCond .eq 9, 3), (19, .iload_n 3, 1), (20, .bipush 60, 2), (22, .if_icmp .le 6, 3), (25, .bipush (-2), 2), (27, .ireturn, 1), (28, .iload_n 3, 1), (29, .ifCond .ge 9, 3), (32, .aload_n 0, 1), (33, .iconst 5, 1), (34, .invokevirtual 100, 3), (37, .ireturn, 1), (38, .aload_n 0, 1), (39, .getfield 62, 3), (42, .iload_n 1, 1), (43, .iload_n 2, 1), (44, .iastore, 1), (45, .aload_n 0, 1), (46, .getfield 65, 3), (49, .iload_n 1, 1), (50, .iload_n 3, 1), (51, .iastore, 1), (52, .iconst 0, 1), (53, .istore 4, 2), (55, .iload 4, 2), (57, .iload_n 3, 1), (58, .if_icmp .ge 22, 3), (61, .aload_n 0, 1), (62, .getfield 68, 3), (65, .bipush 60, 2), (67, .iload_n 1, 1), (68, .imul, 1), (69, .iload 4, 2), (71, .iadd, 1), (72, .iconst 0, 1), (73, .iastore, 1), (74, .iinc 4 1, 3), (77, .goto (-22), 3), (80, .iload_n 3, 1), (81, .ireturn, 1)]
def zcX9_lose : List (Nat × Instr × Nat) := [(0, .iload_n 1, 1), (1, .invokestatic 88, 3), (4, .ifCond .ne 6, 3), (7, .bipush (-2), 2), (9, .ireturn, 1), (10, .aload_n 0, 1), (11, .getfield 62, 3), (14, .iload_n 1, 1), (15, .iaload, 1), (16, .ifCond .ge 9, 3), (19, .aload_n 0, 1), (20, .iconst 1, 1), (21, .invokevirtual 100, 3), (24, .ireturn, 1), (25, .aload_n 0, 1), (26, .getfield 62, 3), (29, .iload_n 1, 1), (30, .iconst (-1), 1), (31, .iastore, 1), (32, .aload_n 0, 1), (33, .getfield 65, 3), (36, .iload_n 1, 1), (37, .iaload, 1), (38, .ireturn, 1)]
def zcX9_lacks : List (Nat × Instr × Nat) := [(0, .aload_n 0, 1), (1, .getfield 62, 3), (4, .iload_n 1, 1), (5, .iaload, 1), (6, .ifCond .ge 9, 3), (9, .aload_n 0, 1), (10, .iconst 1, 1), (11, .invokevirtual 100, 3), (14, .ireturn, 1), (15, .aload_n 0, 1), (16, .getfield 62, 3), (19, .iload_n 1, 1), (20, .iaload, 1), (21, .iload_n 2, 1), (22, .if_icmp .eq 9, 3), (25, .aload_n 0, 1), (26, .iconst 3, 1), (27, .invokevirtual 100, 3), (30, .ireturn, 1), (31, .iload_n 3, 1), (32, .i2l, 1), (33, .lconst 0, 1), (34, .aload_n 0, 1), (35, .getfield 65, 3), (38, .iload_n 1, 1), (39, .iaload, 1), (40, .iconst 1, 1), (41, .isub, 1), (42, .i2l, 1), (43, .invokestatic 96, 3), (46, .ifCond .eq 7, 3), (49, .iconst 0, 1), (50, .goto 8, 3), (53, .aload_n 0, 1), (54, .iconst 2, 1), (55, .invokevirtual 100, 3), (58, .ireturn, 1)]
def zcX9_put : List (Nat × Instr × Nat) := [(0, .iload_n 1, 1), (1, .invokestatic 88, 3), (4, .ifCond .eq 15, 3), (7, .iload_n 2, 1), (8, .i2l, 1), (9, .lconst 0, 1), (10, .ldc2_w 187, 3), (13, .invokestatic 96, 3), (16, .ifCond .ne 6, 3), (19, .bipush (-2), 2), (21, .ireturn, 1), (22, .aload_n 0, 1), (23, .iload_n 1, 1), (24, .iload_n 2, 1), (25, .iload_n 3, 1), (26, .invokevirtual 255, 3), (29, .istore 5, 2), (31, .iload 5, 2), (33, .ifCond .eq 6, 3), (36, .iload 5, 2), (38, .ireturn, 1), (39, .aload_n 0, 1), (40, .getfield 68, 3), (43, .bipush 60, 2), (45, .iload_n 1, 1), (46, .imul, 1), (47, .iload_n 3, 1), (48, .iadd, 1), (49, .iload_n 2, 1), (50, .ifCond .ne 9, 3), (53, .iload 4, 2), (55, .i2b, 1), (56, .goto 16, 3), (59, .iload_n 2, 1), (60, .iconst 1, 1), (61, .if_icmp .ne 9, 3), (64, .iload 4, 2), (66, .i2s, 1), (67, .goto 5, 3), (70, .iload 4, 2), (72, .iastore, 1), (73, .iconst 1, 1), (74, .ireturn, 1)]
def zcX9_get : List (Nat × Instr × Nat) := [(0, .iload_n 1, 1), (1, .invokestatic 88, 3), (4, .ifCond .eq 25, 3), (7, .iload_n 2, 1), (8, .i2l, 1), (9, .lconst 0, 1), (10, .ldc2_w 187, 3), (13, .invokestatic 96, 3), (16, .ifCond .eq 13, 3), (19, .aload_n 0, 1), (20, .iload_n 1, 1), (21, .iload_n 2, 1), (22, .iload_n 3, 1), (23, .invokevirtual 255, 3), (26, .ifCond .eq 7, 3), (29, .ldc_w 259, 3), (32, .ireturn, 1), (33, .aload_n 0, 1), (34, .getfield 68, 3), (37, .bipush 60, 2), (39, .iload_n 1, 1), (40, .imul, 1), (41, .iload_n 3, 1), (42, .iadd, 1), (43, .iaload, 1), (44, .ireturn, 1)]
def zcX9_copy : List (Nat × Instr × Nat) := [(0, .iload_n 1, 1), (1, .invokestatic 88, 3), (4, .ifCond .eq 10, 3), (7, .iload_n 3, 1), (8, .invokestatic 88, 3), (11, .ifCond .ne 6, 3), (14, .bipush (-2), 2), (16, .ireturn, 1), (17, .aload_n 0, 1), (18, .getfield 62, 3), (21, .iload_n 1, 1), (22, .iaload, 1), (23, .ifCond .lt 12, 3), (26, .aload_n 0, 1), (27, .getfield 62, 3), (30, .iload_n 3, 1), (31, .iaload, 1), (32, .ifCond .ge 9, 3), (35, .aload_n 0, 1), (36, .iconst 1, 1), (37, .invokevirtual 100, 3), (40, .ireturn, 1), (41, .aload_n 0, 1), (42, .getfield 62, 3), (45, .iload_n 1, 1), (46, .iaload, 1), (47, .aload_n 0, 1), (48, .getfield 62, 3), (51, .iload_n 3, 1), (52, .iaload, 1), (53, .if_icmp .eq 9, 3), (56, .aload_n 0, 1), (57, .iconst 4, 1), (58, .invokevirtual 100, 3), (61, .ireturn, 1), (62, .iload_n 2, 1), (63, .ifCond .lt 48, 3), (66, .iload 4, 2), (68, .ifCond .lt 43, 3), (71, .iload 5, 2), (73, .ifCond .lt 38, 3), (76, .iload_n 2, 1), (77, .i2l, 1), (78, .iload 5, 2), (80, .i2l, 1), (81, .ladd, 1), (82, .aload_n 0, 1), (83, .getfield 65, 3), (86, .iload_n 1, 1), (87, .iaload, 1), (88, .i2l, 1), (89, .lcmp, 1), (90, .ifCond .gt 21, 3), (93, .iload 4, 2), (95, .i2l, 1), (96, .iload 5, 2), (98, .i2l, 1), (99, .ladd, 1), (100, .aload_n 0, 1), (101, .getfield 65, 3), (104, .iload_n 3, 1), (105, .iaload, 1), (106, .i2l, 1), (107, .lcmp, 1), (108, .ifCond .le 9, 3), (111, .aload_n 0, 1), (112, .iconst 2, 1), (113, .invokevirtual 100, 3), (116, .ireturn, 1), (117, .iconst 0, 1), (118, .istore 6, 2), (120, .iload 6, 2), (122, .iload 5, 2), (124, .if_icmp .ge 30, 3), (127, .aload_n 0, 1), (128, .getfield 71, 3), (131, .iload 6, 2), (133, .aload_n 0, 1), (134, .getfield 68, 3), (137, .bipush 60, 2), (139, .iload_n 1, 1), (140, .imul, 1), (141, .iload_n 2, 1), (142, .iadd, 1), (143, .iload 6, 2), (145, .iadd, 1), (146, .iaload, 1), (147, .iastore, 1), (148, .iinc 6 1, 3), (151, .goto (-31), 3), (154, .iconst 0, 1), (155, .istore 6, 2), (157, .iload 6, 2), (159, .iload 5, 2), (161, .if_icmp .ge 31, 3), (164, .aload_n 0, 1), (165, .getfield 68, 3), (168, .bipush 60, 2), (170, .iload_n 3, 1), (171, .imul, 1), (172, .iload 4, 2), (174, .iadd, 1), (175, .iload 6, 2), (177, .iadd, 1), (178, .aload_n 0, 1), (179, .getfield 71, 3), (182, .iload 6, 2), (184, .iaload, 1), (185, .iastore, 1), (186, .iinc 6 1, 3), (189, .goto (-32), 3), (192, .iconst 1, 1), (193, .ireturn, 1)]
def zcX9_count : List (Nat × Instr × Nat) := [(0, .iload_n 1, 1), (1, .tableswitch 99 0 8 #[51, 56, 61, 66, 71, 76, 81, 86, 94], 51), (52, .aload_n 0, 1), (53, .getfield 74, 3), (56, .ireturn, 1), (57, .aload_n 0, 1), (58, .getfield 107, 3), (61, .ireturn, 1), (62, .aload_n 0, 1), (63, .getfield 146, 3), (66, .ireturn, 1), (67, .aload_n 0, 1), (68, .getfield 110, 3), (71, .ireturn, 1), (72, .aload_n 0, 1), (73, .getfield 225, 3), (76, .ireturn, 1), (77, .aload_n 0, 1), (78, .getfield 231, 3), (81, .ireturn, 1), (82, .aload_n 0, 1), (83, .getfield 252, 3), (86, .ireturn, 1), (87, .aload_n 0, 1), (88, .getfield 240, 3), (91, .invokestatic 249, 3), (94, .ireturn, 1), (95, .aload_n 0, 1), (96, .getfield 237, 3), (99, .ireturn, 1), (100, .bipush (-2), 2), (102, .ireturn, 1)]
def zcX9_digest : List (Nat × Instr × Nat) := [(0, .ldc2_w 260, 3), (3, .lstore_n 1, 1), (4, .iconst 0, 1), (5, .istore_n 3, 1), (6, .iload_n 3, 1), (7, .bipush 9, 2), (9, .if_icmp .ge 32, 3), (12, .iload_n 3, 1), (13, .bipush 6, 2), (15, .if_icmp .ne 7, 3), (18, .lload_n 1, 1), (19, .goto 15, 3), (22, .ldc2_w 262, 3), (25, .lload_n 1, 1), (26, .lmul, 1), (27, .aload_n 0, 1), (28, .iload_n 3, 1), (29, .invokevirtual 264, 3), (32, .i2l, 1), (33, .ladd, 1), (34, .lstore_n 1, 1), (35, .iinc 3 1, 3), (38, .goto (-32), 3), (41, .iconst 0, 1), (42, .istore_n 3, 1), (43, .iload_n 3, 1), (44, .aload_n 0, 1), (45, .getfield 74, 3), (48, .if_icmp .ge 37, 3), (51, .ldc2_w 262, 3), (54, .lload_n 1, 1), (55, .lmul, 1), (56, .aload_n 0, 1), (57, .getfield 7, 3), (60, .iload_n 3, 1), (61, .iaload, 1), (62, .i2l, 1), (63, .ladd, 1), (64, .lstore_n 1, 1), (65, .ldc2_w 262, 3), (68, .lload_n 1, 1), (69, .lmul, 1), (70, .aload_n 0, 1), (71, .getfield 13, 3), (74, .iload_n 3, 1), (75, .iaload, 1), (76, .i2l, 1), (77, .ladd, 1), (78, .lstore_n 1, 1), (79, .iinc 3 1, 3), (82, .goto (-39), 3), (85, .aload_n 0, 1), (86, .invokevirtual 184, 3), (89, .iconst 0, 1), (90, .istore_n 3, 1), (91, .iload_n 3, 1), (92, .aload_n 0, 1), (93, .getfield 149, 3), (96, .if_icmp .ge 48, 3), (99, .ldc2_w 262, 3), (102, .lload_n 1, 1), (103, .lmul, 1), (104, .aload_n 0, 1), (105, .getfield 28, 3), (108, .iload_n 3, 1), (109, .laload, 1), (110, .ladd, 1), (111, .lstore_n 1, 1), (112, .ldc2_w 262, 3), (115, .lload_n 1, 1), (116, .lmul, 1), (117, .aload_n 0, 1), (118, .getfield 32, 3), (121, .iload_n 3, 1), (122, .laload, 1), (123, .ladd, 1), (124, .lstore_n 1, 1), (125, .ldc2_w 262, 3), (128, .lload_n 1, 1), (129, .lmul, 1), (130, .aload_n 0, 1), (131, .getfield 35, 3), (134, .iload_n 3, 1), (135, .laload, 1), (136, .ladd, 1), (137, .lstore_n 1, 1), (138, .iinc 3 1, 3), (141, .goto (-50), 3), (144, .ldc2_w 262, 3), (147, .lload_n 1, 1), (148, .lmul, 1), (149, .aload_n 0, 1), (150, .invokevirtual 193, 3), (153, .ifCond .eq 7, 3), (156, .iconst 1, 1), (157, .goto 4, 3), (160, .iconst 0, 1), (161, .i2l, 1), (162, .ladd, 1), (163, .lstore_n 1, 1), (164, .ldc2_w 262, 3), (167, .lload_n 1, 1), (168, .lmul, 1), (169, .aload_n 0, 1), (170, .invokevirtual 267, 3), (173, .i2l, 1), (174, .ladd, 1), (175, .lstore_n 1, 1), (176, .ldc2_w 262, 3), (179, .lload_n 1, 1), (180, .lmul, 1), (181, .aload_n 0, 1), (182, .invokevirtual 270, 3), (185, .i2l, 1), (186, .ladd, 1), (187, .lreturn, 1)]
def zcJ6_bitCount_0f7a4 : List (Nat × Instr × Nat) := [(0, .iload_n 0, 1), (1, .iload_n 0, 1), (2, .iconst 1, 1), (3, .iushr, 1), (4, .ldc_w 265, 3), (7, .iand, 1), (8, .isub, 1), (9, .istore_n 0, 1), (10, .iload_n 0, 1), (11, .ldc_w 266, 3), (14, .iand, 1), (15, .iload_n 0, 1), (16, .iconst 2, 1), (17, .iushr, 1), (18, .ldc_w 266, 3), (21, .iand, 1), (22, .iadd, 1), (23, .istore_n 0, 1), (24, .iload_n 0, 1), (25, .iload_n 0, 1), (26, .iconst 4, 1), (27, .iushr, 1), (28, .iadd, 1), (29, .ldc_w 267, 3), (32, .iand, 1), (33, .istore_n 0, 1), (34, .iload_n 0, 1), (35, .iload_n 0, 1), (36, .bipush 8, 2), (38, .iushr, 1), (39, .iadd, 1), (40, .istore_n 0, 1), (41, .iload_n 0, 1), (42, .iload_n 0, 1), (43, .bipush 16, 2), (45, .iushr, 1), (46, .iadd, 1), (47, .istore_n 0, 1), (48, .iload_n 0, 1), (49, .bipush 63, 2), (51, .iand, 1), (52, .ireturn, 1)]
def zcJ9_max_7cf53 : List (Nat × Instr × Nat) := [(0, .iload_n 0, 1), (1, .iload_n 1, 1), (2, .if_icmp .lt 7, 3), (5, .iload_n 0, 1), (6, .goto 4, 3), (9, .iload_n 1, 1), (10, .ireturn, 1)]
def zcJ9_min_7cf53 : List (Nat × Instr × Nat) := [(0, .iload_n 0, 1), (1, .iload_n 1, 1), (2, .if_icmp .gt 7, 3), (5, .iload_n 0, 1), (6, .goto 4, 3), (9, .iload_n 1, 1), (10, .ireturn, 1)]
def zcL_law_0 : List (Nat × Instr × Nat) := [(0, .new 7, 3), (3, .dup, 1), (4, .invokespecial 9, 3), (7, .astore_n 1, 1), (8, .new 10, 3), (11, .dup, 1), (12, .invokespecial 12, 3), (15, .astore_n 2, 1), (16, .iconst 0, 1), (17, .istore_n 3, 1), (18, .iload_n 3, 1), (19, .aload_n 0, 1), (20, .arraylength, 1), (21, .bipush 6, 2), (23, .isub, 1), (24, .if_icmp .gt 1205, 3), (27, .aload_n 0, 1), (28, .iload_n 3, 1), (29, .iaload, 1), (30, .bipush 63, 2), (32, .iand, 1), (33, .tableswitch 1190 0 35 #[159, 192, 225, 248, 281, 314, 357, 370, 393, 427, 440, 464, 487, 500, 543, 556, 569, 622, 665, 698, 711, 734, 747, 790, 823, 836, 869, 892, 915, 928, 971, 994, 1047, 1090, 1153, 1176], 159), (192, .aload_n 1, 1), (193, .aload_n 0, 1), (194, .iload_n 3, 1), (195, .iconst 1, 1), (196, .iadd, 1), (197, .iaload, 1), (198, .aload_n 0, 1), (199, .iload_n 3, 1), (200, .iconst 2, 1), (201, .iadd, 1), (202, .iaload, 1), (203, .invokevirtual 13, 3), (206, .aload_n 2, 1), (207, .aload_n 0, 1), (208, .iload_n 3, 1), (209, .iconst 1, 1), (210, .iadd, 1), (211, .iaload, 1), (212, .aload_n 0, 1), (213, .iload_n 3, 1), (214, .iconst 2, 1), (215, .iadd, 1), (216, .iaload, 1), (217, .invokevirtual 17, 3), (220, .if_icmp .eq 1003, 3), (223, .iconst 0, 1), (224, .ireturn, 1), (225, .aload_n 1, 1)]
def zcL_law_1 : List (Nat × Instr × Nat) := [(226, .aload_n 0, 1), (227, .iload_n 3, 1), (228, .iconst 1, 1), (229, .iadd, 1), (230, .iaload, 1), (231, .aload_n 0, 1), (232, .iload_n 3, 1), (233, .iconst 2, 1), (234, .iadd, 1), (235, .iaload, 1), (236, .invokevirtual 18, 3), (239, .aload_n 2, 1), (240, .aload_n 0, 1), (241, .iload_n 3, 1), (242, .iconst 1, 1), (243, .iadd, 1), (244, .iaload, 1), (245, .aload_n 0, 1), (246, .iload_n 3, 1), (247, .iconst 2, 1), (248, .iadd, 1), (249, .iaload, 1), (250, .invokevirtual 21, 3), (253, .if_icmp .eq 970, 3), (256, .iconst 0, 1), (257, .ireturn, 1), (258, .aload_n 1, 1), (259, .aload_n 0, 1), (260, .iload_n 3, 1), (261, .iconst 1, 1), (262, .iadd, 1), (263, .iaload, 1), (264, .invokevirtual 22, 3), (267, .aload_n 2, 1), (268, .aload_n 0, 1), (269, .iload_n 3, 1), (270, .iconst 1, 1), (271, .iadd, 1), (272, .iaload, 1), (273, .invokevirtual 26, 3), (276, .if_icmp .eq 947, 3), (279, .iconst 0, 1), (280, .ireturn, 1), (281, .aload_n 1, 1), (282, .aload_n 0, 1), (283, .iload_n 3, 1), (284, .iconst 1, 1), (285, .iadd, 1), (286, .iaload, 1), (287, .aload_n 0, 1)]
def zcL_law_2 : List (Nat × Instr × Nat) := [(288, .iload_n 3, 1), (289, .iconst 2, 1), (290, .iadd, 1), (291, .iaload, 1), (292, .invokevirtual 27, 3), (295, .aload_n 2, 1), (296, .aload_n 0, 1), (297, .iload_n 3, 1), (298, .iconst 1, 1), (299, .iadd, 1), (300, .iaload, 1), (301, .aload_n 0, 1), (302, .iload_n 3, 1), (303, .iconst 2, 1), (304, .iadd, 1), (305, .iaload, 1), (306, .invokevirtual 30, 3), (309, .if_icmp .eq 914, 3), (312, .iconst 0, 1), (313, .ireturn, 1), (314, .aload_n 1, 1), (315, .aload_n 0, 1), (316, .iload_n 3, 1), (317, .iconst 1, 1), (318, .iadd, 1), (319, .iaload, 1), (320, .aload_n 0, 1), (321, .iload_n 3, 1), (322, .iconst 2, 1), (323, .iadd, 1), (324, .iaload, 1), (325, .invokevirtual 31, 3), (328, .aload_n 2, 1), (329, .aload_n 0, 1), (330, .iload_n 3, 1), (331, .iconst 1, 1), (332, .iadd, 1), (333, .iaload, 1), (334, .aload_n 0, 1), (335, .iload_n 3, 1), (336, .iconst 2, 1), (337, .iadd, 1), (338, .iaload, 1), (339, .invokevirtual 34, 3), (342, .if_icmp .eq 881, 3), (345, .iconst 0, 1), (346, .ireturn, 1), (347, .aload_n 1, 1), (348, .aload_n 0, 1), (349, .iload_n 3, 1)]
def zcL_law_3 : List (Nat × Instr × Nat) := [(350, .iconst 1, 1), (351, .iadd, 1), (352, .iaload, 1), (353, .aload_n 0, 1), (354, .iload_n 3, 1), (355, .iconst 2, 1), (356, .iadd, 1), (357, .iaload, 1), (358, .aload_n 0, 1), (359, .iload_n 3, 1), (360, .iconst 3, 1), (361, .iadd, 1), (362, .iaload, 1), (363, .invokevirtual 35, 3), (366, .aload_n 2, 1), (367, .aload_n 0, 1), (368, .iload_n 3, 1), (369, .iconst 1, 1), (370, .iadd, 1), (371, .iaload, 1), (372, .aload_n 0, 1), (373, .iload_n 3, 1), (374, .iconst 2, 1), (375, .iadd, 1), (376, .iaload, 1), (377, .aload_n 0, 1), (378, .iload_n 3, 1), (379, .iconst 3, 1), (380, .iadd, 1), (381, .iaload, 1), (382, .invokevirtual 39, 3), (385, .if_icmp .eq 838, 3), (388, .iconst 0, 1), (389, .ireturn, 1), (390, .aload_n 1, 1), (391, .invokevirtual 40, 3), (394, .aload_n 2, 1), (395, .invokevirtual 44, 3), (398, .if_icmp .eq 825, 3), (401, .iconst 0, 1), (402, .ireturn, 1), (403, .aload_n 1, 1), (404, .aload_n 0, 1), (405, .iload_n 3, 1), (406, .iconst 1, 1), (407, .iadd, 1), (408, .iaload, 1), (409, .invokevirtual 45, 3), (412, .aload_n 2, 1), (413, .aload_n 0, 1)]
def zcL_law_4 : List (Nat × Instr × Nat) := [(414, .iload_n 3, 1), (415, .iconst 1, 1), (416, .iadd, 1), (417, .iaload, 1), (418, .invokevirtual 48, 3), (421, .if_icmp .eq 802, 3), (424, .iconst 0, 1), (425, .ireturn, 1), (426, .aload_n 1, 1), (427, .aload_n 0, 1), (428, .iload_n 3, 1), (429, .iconst 1, 1), (430, .iadd, 1), (431, .iaload, 1), (432, .aload_n 0, 1), (433, .iload_n 3, 1), (434, .iconst 2, 1), (435, .iadd, 1), (436, .iaload, 1), (437, .invokevirtual 49, 3), (440, .aload_n 2, 1), (441, .aload_n 0, 1), (442, .iload_n 3, 1), (443, .iconst 1, 1), (444, .iadd, 1), (445, .iaload, 1), (446, .aload_n 0, 1), (447, .iload_n 3, 1), (448, .iconst 2, 1), (449, .iadd, 1), (450, .iaload, 1), (451, .invokevirtual 53, 3), (454, .lcmp, 1), (455, .ifCond .eq 768, 3), (458, .iconst 0, 1), (459, .ireturn, 1), (460, .aload_n 1, 1), (461, .invokevirtual 54, 3), (464, .aload_n 2, 1), (465, .invokevirtual 57, 3), (468, .if_icmp .eq 755, 3), (471, .iconst 0, 1), (472, .ireturn, 1), (473, .aload_n 1, 1), (474, .aload_n 0, 1), (475, .iload_n 3, 1), (476, .iconst 1, 1), (477, .iadd, 1), (478, .iaload, 1), (479, .invokevirtual 58, 3)]
def zcL_law_5 : List (Nat × Instr × Nat) := [(482, .aload_n 2, 1), (483, .aload_n 0, 1), (484, .iload_n 3, 1), (485, .iconst 1, 1), (486, .iadd, 1), (487, .iaload, 1), (488, .invokevirtual 62, 3), (491, .lcmp, 1), (492, .ifCond .eq 731, 3), (495, .iconst 0, 1), (496, .ireturn, 1), (497, .aload_n 1, 1), (498, .aload_n 0, 1), (499, .iload_n 3, 1), (500, .iconst 1, 1), (501, .iadd, 1), (502, .iaload, 1), (503, .invokevirtual 63, 3), (506, .aload_n 2, 1), (507, .aload_n 0, 1), (508, .iload_n 3, 1), (509, .iconst 1, 1), (510, .iadd, 1), (511, .iaload, 1), (512, .invokevirtual 66, 3), (515, .if_icmp .eq 708, 3), (518, .iconst 0, 1), (519, .ireturn, 1), (520, .aload_n 1, 1), (521, .invokevirtual 67, 3), (524, .aload_n 2, 1), (525, .invokevirtual 70, 3), (528, .if_icmp .eq 695, 3), (531, .iconst 0, 1), (532, .ireturn, 1), (533, .aload_n 1, 1), (534, .aload_n 0, 1), (535, .iload_n 3, 1), (536, .iconst 1, 1), (537, .iadd, 1), (538, .iaload, 1), (539, .aload_n 0, 1), (540, .iload_n 3, 1), (541, .iconst 2, 1), (542, .iadd, 1), (543, .iaload, 1), (544, .aload_n 0, 1), (545, .iload_n 3, 1), (546, .iconst 3, 1), (547, .iadd, 1)]
def zcL_law_6 : List (Nat × Instr × Nat) := [(548, .iaload, 1), (549, .invokevirtual 71, 3), (552, .aload_n 2, 1), (553, .aload_n 0, 1), (554, .iload_n 3, 1), (555, .iconst 1, 1), (556, .iadd, 1), (557, .iaload, 1), (558, .aload_n 0, 1), (559, .iload_n 3, 1), (560, .iconst 2, 1), (561, .iadd, 1), (562, .iaload, 1), (563, .aload_n 0, 1), (564, .iload_n 3, 1), (565, .iconst 3, 1), (566, .iadd, 1), (567, .iaload, 1), (568, .invokevirtual 74, 3), (571, .if_icmp .eq 652, 3), (574, .iconst 0, 1), (575, .ireturn, 1), (576, .aload_n 1, 1), (577, .invokevirtual 75, 3), (580, .aload_n 2, 1), (581, .invokevirtual 78, 3), (584, .if_icmp .eq 639, 3), (587, .iconst 0, 1), (588, .ireturn, 1), (589, .aload_n 1, 1), (590, .invokevirtual 79, 3), (593, .aload_n 2, 1), (594, .invokevirtual 82, 3), (597, .if_icmp .eq 626, 3), (600, .iconst 0, 1), (601, .ireturn, 1), (602, .aload_n 1, 1), (603, .aload_n 0, 1), (604, .iload_n 3, 1), (605, .iconst 1, 1), (606, .iadd, 1), (607, .iaload, 1), (608, .aload_n 0, 1), (609, .iload_n 3, 1), (610, .iconst 2, 1), (611, .iadd, 1), (612, .iaload, 1), (613, .aload_n 0, 1), (614, .iload_n 3, 1), (615, .iconst 3, 1)]
def zcL_law_7 : List (Nat × Instr × Nat) := [(616, .iadd, 1), (617, .iaload, 1), (618, .aload_n 0, 1), (619, .iload_n 3, 1), (620, .iconst 4, 1), (621, .iadd, 1), (622, .iaload, 1), (623, .invokevirtual 83, 3), (626, .aload_n 2, 1), (627, .aload_n 0, 1), (628, .iload_n 3, 1), (629, .iconst 1, 1), (630, .iadd, 1), (631, .iaload, 1), (632, .aload_n 0, 1), (633, .iload_n 3, 1), (634, .iconst 2, 1), (635, .iadd, 1), (636, .iaload, 1), (637, .aload_n 0, 1), (638, .iload_n 3, 1), (639, .iconst 3, 1), (640, .iadd, 1), (641, .iaload, 1), (642, .aload_n 0, 1), (643, .iload_n 3, 1), (644, .iconst 4, 1), (645, .iadd, 1), (646, .iaload, 1), (647, .invokevirtual 87, 3), (650, .if_icmp .eq 573, 3), (653, .iconst 0, 1), (654, .ireturn, 1), (655, .aload_n 1, 1), (656, .aload_n 0, 1), (657, .iload_n 3, 1), (658, .iconst 1, 1), (659, .iadd, 1), (660, .iaload, 1), (661, .aload_n 0, 1), (662, .iload_n 3, 1), (663, .iconst 2, 1), (664, .iadd, 1), (665, .iaload, 1), (666, .aload_n 0, 1), (667, .iload_n 3, 1), (668, .iconst 3, 1), (669, .iadd, 1), (670, .iaload, 1), (671, .invokevirtual 88, 3)]
def zcL_law_8 : List (Nat × Instr × Nat) := [(674, .aload_n 2, 1), (675, .aload_n 0, 1), (676, .iload_n 3, 1), (677, .iconst 1, 1), (678, .iadd, 1), (679, .iaload, 1), (680, .aload_n 0, 1), (681, .iload_n 3, 1), (682, .iconst 2, 1), (683, .iadd, 1), (684, .iaload, 1), (685, .aload_n 0, 1), (686, .iload_n 3, 1), (687, .iconst 3, 1), (688, .iadd, 1), (689, .iaload, 1), (690, .invokevirtual 91, 3), (693, .if_icmp .eq 530, 3), (696, .iconst 0, 1), (697, .ireturn, 1), (698, .aload_n 1, 1), (699, .aload_n 0, 1), (700, .iload_n 3, 1), (701, .iconst 1, 1), (702, .iadd, 1), (703, .iaload, 1), (704, .aload_n 0, 1), (705, .iload_n 3, 1), (706, .iconst 2, 1), (707, .iadd, 1), (708, .iaload, 1), (709, .invokevirtual 92, 3), (712, .aload_n 2, 1), (713, .aload_n 0, 1), (714, .iload_n 3, 1), (715, .iconst 1, 1), (716, .iadd, 1), (717, .iaload, 1), (718, .aload_n 0, 1), (719, .iload_n 3, 1), (720, .iconst 2, 1), (721, .iadd, 1), (722, .iaload, 1), (723, .invokevirtual 95, 3), (726, .if_icmp .eq 497, 3), (729, .iconst 0, 1), (730, .ireturn, 1), (731, .aload_n 1, 1), (732, .invokevirtual 96, 3), (735, .aload_n 2, 1)]
def zcL_law_9 : List (Nat × Instr × Nat) := [(736, .invokevirtual 99, 3), (739, .if_icmp .eq 484, 3), (742, .iconst 0, 1), (743, .ireturn, 1), (744, .aload_n 1, 1), (745, .aload_n 0, 1), (746, .iload_n 3, 1), (747, .iconst 1, 1), (748, .iadd, 1), (749, .iaload, 1), (750, .invokevirtual 100, 3), (753, .aload_n 2, 1), (754, .aload_n 0, 1), (755, .iload_n 3, 1), (756, .iconst 1, 1), (757, .iadd, 1), (758, .iaload, 1), (759, .invokevirtual 103, 3), (762, .if_icmp .eq 461, 3), (765, .iconst 0, 1), (766, .ireturn, 1), (767, .aload_n 1, 1), (768, .invokevirtual 104, 3), (771, .aload_n 2, 1), (772, .invokevirtual 107, 3), (775, .if_icmp .eq 448, 3), (778, .iconst 0, 1), (779, .ireturn, 1), (780, .aload_n 1, 1), (781, .aload_n 0, 1), (782, .iload_n 3, 1), (783, .iconst 1, 1), (784, .iadd, 1), (785, .iaload, 1), (786, .aload_n 0, 1), (787, .iload_n 3, 1), (788, .iconst 2, 1), (789, .iadd, 1), (790, .iaload, 1), (791, .aload_n 0, 1), (792, .iload_n 3, 1), (793, .iconst 3, 1), (794, .iadd, 1), (795, .iaload, 1), (796, .invokevirtual 108, 3), (799, .aload_n 2, 1), (800, .aload_n 0, 1), (801, .iload_n 3, 1), (802, .iconst 1, 1), (803, .iadd, 1)]
def zcL_law_10 : List (Nat × Instr × Nat) := [(804, .iaload, 1), (805, .aload_n 0, 1), (806, .iload_n 3, 1), (807, .iconst 2, 1), (808, .iadd, 1), (809, .iaload, 1), (810, .aload_n 0, 1), (811, .iload_n 3, 1), (812, .iconst 3, 1), (813, .iadd, 1), (814, .iaload, 1), (815, .invokevirtual 111, 3), (818, .if_icmp .eq 405, 3), (821, .iconst 0, 1), (822, .ireturn, 1), (823, .aload_n 1, 1), (824, .aload_n 0, 1), (825, .iload_n 3, 1), (826, .iconst 1, 1), (827, .iadd, 1), (828, .iaload, 1), (829, .aload_n 0, 1), (830, .iload_n 3, 1), (831, .iconst 2, 1), (832, .iadd, 1), (833, .iaload, 1), (834, .invokevirtual 112, 3), (837, .aload_n 2, 1), (838, .aload_n 0, 1), (839, .iload_n 3, 1), (840, .iconst 1, 1), (841, .iadd, 1), (842, .iaload, 1), (843, .aload_n 0, 1), (844, .iload_n 3, 1), (845, .iconst 2, 1), (846, .iadd, 1), (847, .iaload, 1), (848, .invokevirtual 115, 3), (851, .if_icmp .eq 372, 3), (854, .iconst 0, 1), (855, .ireturn, 1), (856, .aload_n 1, 1), (857, .invokevirtual 116, 3), (860, .aload_n 2, 1), (861, .invokevirtual 119, 3), (864, .if_icmp .eq 359, 3), (867, .iconst 0, 1), (868, .ireturn, 1), (869, .aload_n 1, 1)]
def zcL_law_11 : List (Nat × Instr × Nat) := [(870, .aload_n 0, 1), (871, .iload_n 3, 1), (872, .iconst 1, 1), (873, .iadd, 1), (874, .iaload, 1), (875, .aload_n 0, 1), (876, .iload_n 3, 1), (877, .iconst 2, 1), (878, .iadd, 1), (879, .iaload, 1), (880, .invokevirtual 120, 3), (883, .aload_n 2, 1), (884, .aload_n 0, 1), (885, .iload_n 3, 1), (886, .iconst 1, 1), (887, .iadd, 1), (888, .iaload, 1), (889, .aload_n 0, 1), (890, .iload_n 3, 1), (891, .iconst 2, 1), (892, .iadd, 1), (893, .iaload, 1), (894, .invokevirtual 123, 3), (897, .if_icmp .eq 326, 3), (900, .iconst 0, 1), (901, .ireturn, 1), (902, .aload_n 1, 1), (903, .aload_n 0, 1), (904, .iload_n 3, 1), (905, .iconst 1, 1), (906, .iadd, 1), (907, .iaload, 1), (908, .invokevirtual 124, 3), (911, .aload_n 2, 1), (912, .aload_n 0, 1), (913, .iload_n 3, 1), (914, .iconst 1, 1), (915, .iadd, 1), (916, .iaload, 1), (917, .invokevirtual 127, 3), (920, .if_icmp .eq 303, 3), (923, .iconst 0, 1), (924, .ireturn, 1), (925, .aload_n 1, 1), (926, .aload_n 0, 1), (927, .iload_n 3, 1), (928, .iconst 1, 1), (929, .iadd, 1), (930, .iaload, 1), (931, .invokevirtual 128, 3)]
def zcL_law_12 : List (Nat × Instr × Nat) := [(934, .aload_n 2, 1), (935, .aload_n 0, 1), (936, .iload_n 3, 1), (937, .iconst 1, 1), (938, .iadd, 1), (939, .iaload, 1), (940, .invokevirtual 131, 3), (943, .if_icmp .eq 280, 3), (946, .iconst 0, 1), (947, .ireturn, 1), (948, .aload_n 1, 1), (949, .invokevirtual 132, 3), (952, .aload_n 2, 1), (953, .invokevirtual 135, 3), (956, .if_icmp .eq 267, 3), (959, .iconst 0, 1), (960, .ireturn, 1), (961, .aload_n 1, 1), (962, .aload_n 0, 1), (963, .iload_n 3, 1), (964, .iconst 1, 1), (965, .iadd, 1), (966, .iaload, 1), (967, .aload_n 0, 1), (968, .iload_n 3, 1), (969, .iconst 2, 1), (970, .iadd, 1), (971, .iaload, 1), (972, .aload_n 0, 1), (973, .iload_n 3, 1), (974, .iconst 3, 1), (975, .iadd, 1), (976, .iaload, 1), (977, .invokevirtual 136, 3), (980, .aload_n 2, 1), (981, .aload_n 0, 1), (982, .iload_n 3, 1), (983, .iconst 1, 1), (984, .iadd, 1), (985, .iaload, 1), (986, .aload_n 0, 1), (987, .iload_n 3, 1), (988, .iconst 2, 1), (989, .iadd, 1), (990, .iaload, 1), (991, .aload_n 0, 1), (992, .iload_n 3, 1), (993, .iconst 3, 1), (994, .iadd, 1), (995, .iaload, 1)]
def zcL_law_13 : List (Nat × Instr × Nat) := [(996, .invokevirtual 139, 3), (999, .if_icmp .eq 224, 3), (1002, .iconst 0, 1), (1003, .ireturn, 1), (1004, .aload_n 1, 1), (1005, .aload_n 0, 1), (1006, .iload_n 3, 1), (1007, .iconst 1, 1), (1008, .iadd, 1), (1009, .iaload, 1), (1010, .invokevirtual 140, 3), (1013, .aload_n 2, 1), (1014, .aload_n 0, 1), (1015, .iload_n 3, 1), (1016, .iconst 1, 1), (1017, .iadd, 1), (1018, .iaload, 1), (1019, .invokevirtual 143, 3), (1022, .if_icmp .eq 201, 3), (1025, .iconst 0, 1), (1026, .ireturn, 1), (1027, .aload_n 1, 1), (1028, .aload_n 0, 1), (1029, .iload_n 3, 1), (1030, .iconst 1, 1), (1031, .iadd, 1), (1032, .iaload, 1), (1033, .aload_n 0, 1), (1034, .iload_n 3, 1), (1035, .iconst 2, 1), (1036, .iadd, 1), (1037, .iaload, 1), (1038, .aload_n 0, 1), (1039, .iload_n 3, 1), (1040, .iconst 3, 1), (1041, .iadd, 1), (1042, .iaload, 1), (1043, .aload_n 0, 1), (1044, .iload_n 3, 1), (1045, .iconst 4, 1), (1046, .iadd, 1), (1047, .iaload, 1), (1048, .invokevirtual 144, 3), (1051, .aload_n 2, 1), (1052, .aload_n 0, 1), (1053, .iload_n 3, 1), (1054, .iconst 1, 1), (1055, .iadd, 1), (1056, .iaload, 1), (1057, .aload_n 0, 1)]
def zcL_law_14 : List (Nat × Instr × Nat) := [(1058, .iload_n 3, 1), (1059, .iconst 2, 1), (1060, .iadd, 1), (1061, .iaload, 1), (1062, .aload_n 0, 1), (1063, .iload_n 3, 1), (1064, .iconst 3, 1), (1065, .iadd, 1), (1066, .iaload, 1), (1067, .aload_n 0, 1), (1068, .iload_n 3, 1), (1069, .iconst 4, 1), (1070, .iadd, 1), (1071, .iaload, 1), (1072, .invokevirtual 147, 3), (1075, .if_icmp .eq 148, 3), (1078, .iconst 0, 1), (1079, .ireturn, 1), (1080, .aload_n 1, 1), (1081, .aload_n 0, 1), (1082, .iload_n 3, 1), (1083, .iconst 1, 1), (1084, .iadd, 1), (1085, .iaload, 1), (1086, .aload_n 0, 1), (1087, .iload_n 3, 1), (1088, .iconst 2, 1), (1089, .iadd, 1), (1090, .iaload, 1), (1091, .aload_n 0, 1), (1092, .iload_n 3, 1), (1093, .iconst 3, 1), (1094, .iadd, 1), (1095, .iaload, 1), (1096, .invokevirtual 148, 3), (1099, .aload_n 2, 1), (1100, .aload_n 0, 1), (1101, .iload_n 3, 1), (1102, .iconst 1, 1), (1103, .iadd, 1), (1104, .iaload, 1), (1105, .aload_n 0, 1), (1106, .iload_n 3, 1), (1107, .iconst 2, 1), (1108, .iadd, 1), (1109, .iaload, 1), (1110, .aload_n 0, 1), (1111, .iload_n 3, 1), (1112, .iconst 3, 1), (1113, .iadd, 1)]
def zcL_law_15 : List (Nat × Instr × Nat) := [(1114, .iaload, 1), (1115, .invokevirtual 151, 3), (1118, .if_icmp .eq 105, 3), (1121, .iconst 0, 1), (1122, .ireturn, 1), (1123, .aload_n 1, 1), (1124, .aload_n 0, 1), (1125, .iload_n 3, 1), (1126, .iconst 1, 1), (1127, .iadd, 1), (1128, .iaload, 1), (1129, .aload_n 0, 1), (1130, .iload_n 3, 1), (1131, .iconst 2, 1), (1132, .iadd, 1), (1133, .iaload, 1), (1134, .aload_n 0, 1), (1135, .iload_n 3, 1), (1136, .iconst 3, 1), (1137, .iadd, 1), (1138, .iaload, 1), (1139, .aload_n 0, 1), (1140, .iload_n 3, 1), (1141, .iconst 4, 1), (1142, .iadd, 1), (1143, .iaload, 1), (1144, .aload_n 0, 1), (1145, .iload_n 3, 1), (1146, .iconst 5, 1), (1147, .iadd, 1), (1148, .iaload, 1), (1149, .invokevirtual 152, 3), (1152, .aload_n 2, 1), (1153, .aload_n 0, 1), (1154, .iload_n 3, 1), (1155, .iconst 1, 1), (1156, .iadd, 1), (1157, .iaload, 1), (1158, .aload_n 0, 1), (1159, .iload_n 3, 1), (1160, .iconst 2, 1), (1161, .iadd, 1), (1162, .iaload, 1), (1163, .aload_n 0, 1), (1164, .iload_n 3, 1), (1165, .iconst 3, 1), (1166, .iadd, 1), (1167, .iaload, 1), (1168, .aload_n 0, 1), (1169, .iload_n 3, 1)]
def zcL_law_16 : List (Nat × Instr × Nat) := [(1170, .iconst 4, 1), (1171, .iadd, 1), (1172, .iaload, 1), (1173, .aload_n 0, 1), (1174, .iload_n 3, 1), (1175, .iconst 5, 1), (1176, .iadd, 1), (1177, .iaload, 1), (1178, .invokevirtual 156, 3), (1181, .if_icmp .eq 42, 3), (1184, .iconst 0, 1), (1185, .ireturn, 1), (1186, .aload_n 1, 1), (1187, .aload_n 0, 1), (1188, .iload_n 3, 1), (1189, .iconst 1, 1), (1190, .iadd, 1), (1191, .iaload, 1), (1192, .invokevirtual 157, 3), (1195, .aload_n 2, 1), (1196, .aload_n 0, 1), (1197, .iload_n 3, 1), (1198, .iconst 1, 1), (1199, .iadd, 1), (1200, .iaload, 1), (1201, .invokevirtual 160, 3), (1204, .if_icmp .eq 19, 3), (1207, .iconst 0, 1), (1208, .ireturn, 1), (1209, .aload_n 1, 1), (1210, .invokevirtual 161, 3), (1213, .aload_n 2, 1), (1214, .invokevirtual 165, 3), (1217, .lcmp, 1), (1218, .ifCond .eq 5, 3), (1221, .iconst 0, 1), (1222, .ireturn, 1), (1223, .iinc 3 6, 3), (1226, .goto (-1208), 3), (1229, .iconst 1, 1), (1230, .ireturn, 1)]
def zcL_law : List (Nat × Instr × Nat) := zcL_law_0 ++ (zcL_law_1 ++ (zcL_law_2 ++ (zcL_law_3 ++ (zcL_law_4 ++ (zcL_law_5 ++ (zcL_law_6 ++ (zcL_law_7 ++ (zcL_law_8 ++ (zcL_law_9 ++ (zcL_law_10 ++ (zcL_law_11 ++ (zcL_law_12 ++ (zcL_law_13 ++ (zcL_law_14 ++ (zcL_law_15 ++ (zcL_law_16))))))))))))))))
abbrev zC : List (List (Nat × Instr × Nat)) := [zcX0_init, zcX0_dropped, zcX0_size, zcX0_add, zcX0_lay, zcX0_isInside, zcX0_isCovered, zcX0_remove, zcX0_stuckBits, zcX0_withAllAbove, zcX1_init, zcX1_size, zcX1_add, zcX1_join, zcX1_leastCost, zcX1_goOneMoveFarther, zcX2_init, zcX2_size, zcX2_edge, zcX2_eighth, zcX2_clear, zcX2_add, zcX2_stand, zcX2_become, zcX3_init, zcX3_setCorner, zcX3_close, zcX3_corners, zcX3_area, zcX3_momentX, zcX3_momentY, zcX3_x, zcX3_y, zcX3_next, zcX3_dx, zcX3_dy, zcX3_side, zcX3_pull, zcX3_isSealed, zcX3_leastSeal, zcX4_init, zcX4_size, zcX4_x, zcX4_y, zcX4_add, zcX5_init, zcX5_latestFinding, zcX5_find, zcX5_form, zcX5_length, zcX5_isLost, zcX5_forget, zcX5_renew, zcX5_value, zcX5_hasValue, zcX5_write, zcX5_faultAt, zcX5_hasRun, zcX6_init, zcX6_size, zcX6_clear, zcX6_add, zcX6_price, zcX6_isBetter, zcX6_layOut, zcX7_init, zcX7_size, zcX7_part, zcX7_press, zcX7_add, zcX7_spread, zcX7_turnIfBelow, zcX7_normal, zcX7_cross, zcX7_signs, zcX8_init, zcX8_shape, zcX8_isShape, zcX8_corner, zcX8_middle, zcX8_isIn, zcX8_finger, zcX8_move, zcX8_release, zcX8_friction, zcX8_push, zcX8_holds, zcX8_witness, zcX8_free, zcX8_slip, zcX8_isHeldWithin, zcX8_slide, zcX8_isHeldBy, zcX8_spot, zcX8_cheapest, zcX8_take, zcX8_lifts, zcX8_seal, zcX8_probe, zcX8_poses, zcX8_pose, zcX8_fits, zcX8_grip, zcX8_link, zcX8_way, zcX8_drop, zcX8_on, zcX8_pick, zcX8_reach, zcX8_stuck, zcX8_sheet, zcX8_lose, zcX8_put, zcX8_get, zcX8_copy, zcX8_count, zcX8_digest, zcX8_refusal, zcX8_isWithin, zcX8_isPlace, zcX8_isWeight, zcX8_isTriplePart, zcX8_isSheet, zcX8_isForm, zcX8_isStand, zcX8_isFinger, zcX8_isGrip, zcX8_isDropped, zcX8_item, zcX8_setItem, zcX9_init, zcX9_in, zcX9_no, zcX9_next, zcX9_cross, zcX9_area, zcX9_middleX, zcX9_middleY, zcX9_shape, zcX9_corner, zcX9_middle, zcX9_place, zcX9_isPlace, zcX9_isIn, zcX9_isStand, zcX9_isFinger, zcX9_finger, zcX9_move, zcX9_release, zcX9_friction, zcX9_lay, zcX9_lays, zcX9_layAll, zcX9_crosses, zcX9_isFull, zcX9_hold, zcX9_push, zcX9_holds, zcX9_witness, zcX9_free, zcX9_holdBy, zcX9_slip, zcX9_spot, zcX9_priceOf, zcX9_cheapest, zcX9_take, zcX9_farSquare, zcX9_lifted, zcX9_lifts, zcX9_seal, zcX9_probe, zcX9_fits, zcX9_poses, zcX9_pose, zcX9_grip, zcX9_isGrip, zcX9_link, zcX9_way, zcX9_drop, zcX9_isDropped, zcX9_on, zcX9_pick, zcX9_left, zcX9_reach, zcX9_ones, zcX9_stuck, zcX9_met, zcX9_isSheet, zcX9_sheet, zcX9_lose, zcX9_lacks, zcX9_put, zcX9_get, zcX9_copy, zcX9_count, zcX9_digest, zcJ6_bitCount_0f7a4, zcJ9_max_7cf53, zcJ9_min_7cf53, zcL_law]
abbrev zKD : List (Nat × Nat) := [(0, 8), (0, 3), (1, 10), (1, 10), (0, 2), (1, 8), (1, 8), (0, 2), (1, 8), (1, 8), (0, 7), (1, 16), (1, 16), (1, 16), (0, 6), (1, 7), (1, 7), (1, 7), (0, 4), (1, 20), (1, 20), (0, 1), (1, 100), (1, 10), (0, 0), (1, 12), (0, 5), (1, 4), (1, 4), (1, 240), (0, 9), (1, 10), (1, 10), (1, 10), (1, 10), (1, 8), (1, 8), (2, 16), (2, 16), (2, 16), (1, 7), (1, 7), (1, 7), (1, 20), (1, 20), (1, 100), (1, 10), (1, 12), (1, 4), (1, 4), (1, 240), (1, 60)]
abbrev zNFs : List Nat := [3, 3, 3, 6, 3, 4, 4, 7, 10, 36]
abbrev zNm : List String := [RX0, RX1, RX2, RX3, RX4, RX5, RX6, RX7, RX8, RX9, RJ6, RJ9, RL]
abbrev zFTs : List (List (Nat × (Nat × Nat × Nat))) := [[(9, (0, 0, 111)), (15, (0, 2, 768)), (19, (0, 1, 773))],
  [(9, (1, 0, 106)), (15, (1, 1, 107)), (18, (1, 2, 713))],
  [(9, (2, 0, 84)), (15, (2, 1, 85)), (18, (2, 2, 192))],
  [(9, (3, 0, 51)), (15, (3, 1, 52)), (30, (3, 2, 63)), (34, (3, 3, 64)), (37, (3, 4, 65)), (40, (3, 5, 66))],
  [(9, (4, 0, 101)), (15, (4, 1, 102)), (18, (4, 2, 655))],
  [(9, (5, 0, 116)), (15, (5, 1, 117)), (18, (5, 2, 118)), (25, (5, 3, 170))],
  [(9, (6, 0, 95)), (15, (6, 1, 96)), (18, (6, 2, 97)), (21, (6, 3, 197))],
  [(9, (7, 0, 89)), (15, (7, 1, 90)), (18, (7, 2, 91)), (21, (7, 3, 371)), (74, (7, 4, 448)), (78, (7, 5, 449)), (81, (7, 6, 450))],
  [(10, (8, 0, 15)), (19, (8, 1, 19)), (23, (8, 2, 20)), (29, (8, 3, 24)), (36, (8, 4, 28)), (43, (8, 5, 32)), (50, (8, 6, 36)), (57, (8, 7, 40)), (64, (8, 8, 44)), (68, (8, 9, 45))],
  [(7, (9, 1, 127)), (13, (9, 2, 128)), (16, (9, 3, 129)), (19, (9, 4, 130)), (22, (9, 6, 131)), (25, (9, 7, 132)), (28, (9, 10, 134)), (32, (9, 11, 135)), (35, (9, 12, 136)), (38, (9, 19, 137)), (41, (9, 20, 138)), (44, (9, 21, 139)), (47, (9, 23, 140)), (50, (9, 24, 141)), (53, (9, 26, 142)), (56, (9, 27, 143)), (59, (9, 30, 144)), (62, (9, 31, 145)), (65, (9, 32, 146)), (68, (9, 33, 147)), (71, (9, 34, 148)), (74, (9, 0, 149)), (107, (9, 5, 210)), (110, (9, 18, 211)), (146, (9, 8, 362)), (149, (9, 9, 414)), (160, (9, 13, 477)), (164, (9, 14, 478)), (167, (9, 15, 479)), (170, (9, 16, 467)), (174, (9, 17, 468)), (225, (9, 22, 666)), (231, (9, 25, 722)), (237, (9, 28, 778)), (240, (9, 29, 779)), (252, (9, 35, 222))],
  [],
  [],
  []]
abbrev zCTs : List (List (Nat × (Nat × Nat × Nat))) := [[(3, (0, 3, 110)), (22, (196, 0, 932)), (28, (128, 10, 0)), (32, (129, 10, 1))],
  [(3, (0, 3, 105)), (22, (129, 10, 2)), (27, (15, 1, 752)), (30, (128, 10, 3))],
  [(3, (0, 3, 83)), (22, (128, 10, 4)), (26, (22, 1, 315)), (30, (129, 10, 5)), (34, (20, 1, 500)), (37, (17, 1, 501)), (40, (18, 1, 502)), (44, (19, 1, 503)), (47, (21, 1, 504))],
  [(3, (0, 3, 49)), (18, (25, 1, 53)), (22, (26, 1, 59)), (26, (129, 10, 6)), (43, (33, 1, 67)), (47, (31, 1, 71)), (50, (32, 1, 77)), (53, (128, 10, 7)), (64, (38, 1, 641))],
  [(3, (0, 3, 100)), (22, (128, 10, 8)), (26, (129, 10, 9))],
  [(3, (0, 3, 115)), (21, (51, 1, 119)), (29, (128, 10, 10)), (33, (48, 1, 162)), (37, (129, 10, 11)), (41, (49, 1, 679)), (44, (53, 1, 680)), (48, (50, 1, 884))],
  [(3, (0, 3, 94)), (25, (129, 10, 12)), (29, (128, 10, 13)), (33, (62, 1, 562)), (37, (196, 0, 566)), (42, (20, 1, 577)), (47, (21, 1, 578))],
  [(3, (0, 3, 88)), (25, (128, 10, 14)), (29, (17, 1, 372)), (34, (18, 1, 373)), (38, (19, 1, 377)), (41, (34, 1, 381)), (46, (35, 1, 385)), (49, (31, 1, 389)), (52, (32, 1, 390)), (55, (69, 1, 391)), (59, (129, 10, 15)), (63, (73, 1, 444)), (67, (74, 1, 451)), (70, (71, 1, 455))],
  [(1, (0, 3, 9)), (9, (24, 2, 46)), (18, (16, 12, 16)), (28, (65, 12, 17)), (35, (58, 12, 18)), (42, (40, 12, 19)), (49, (10, 12, 20)), (56, (0, 12, 21)), (63, (45, 2, 112)), (72, (122, 0, 155)), (76, (50, 1, 158)), (79, (47, 1, 166)), (83, (49, 1, 171)), (86, (77, 1, 175)), (90, (53, 1, 179)), (94, (25, 1, 186)), (98, (26, 1, 187)), (102, (20, 1, 188)), (105, (60, 1, 193)), (106, (28, 1, 198)), (110, (118, 0, 183)), (113, (27, 1, 227)), (116, (31, 1, 231)), (119, (32, 1, 232)), (122, (29, 1, 242)), (125, (30, 1, 246)), (129, (119, 0, 279)), (132, (36, 1, 282)), (135, (124, 1, 303)), (138, (17, 1, 307)), (141, (21, 1, 311)), (145, (125, 1, 332)), (148, (22, 1, 336)), (151, (68, 1, 367)), (155, (66, 1, 395)), (156, (121, 0, 399)), (159, (117, 0, 402)), (163, (67, 1, 406)), (166, (92, 1, 436)), (170, (70, 1, 440)), (173, (72, 1, 484)), (176, (23, 1, 496)), (180, (18, 1, 505)), (183, (90, 1, 514)), (186, (91, 1, 518)), (189, (19, 1, 529)), (192, (197, 4, 522)), (197, (198, 5, 526)), (200, (59, 1, 542)), (201, (61, 1, 546)), (203, (63, 1, 558)), (206, (64, 1, 573)), (210, (94, 1, 591)), (213, (62, 1, 592)), (216, (120, 0, 603)), (220, (37, 1, 606)), (224, (38, 1, 612)), (228, (39, 1, 636)), (232, (41, 1, 651)), (233, (44, 1, 656)), (234, (101, 1, 671)), (237, (54, 1, 675)), (241, (42, 1, 681)), (242, (43, 1, 685)), (243, (11, 1, 709)), (244, (12, 1, 714)), (246, (126, 1, 727)), (249, (13, 1, 731)), (252, (14, 1, 747)), (255, (1, 1, 764)), (258, (3, 1, 769)), (259, (127, 1, 784)), (262, (4, 1, 788)), (265, (5, 1, 804)), (268, (6, 1, 808)), (271, (7, 1, 812)), (274, (8, 1, 824)), (277, (9, 1, 828)), (280, (196, 0, 832)), (285, (123, 0, 856)), (288, (52, 1, 859)), (291, (51, 1, 871)), (294, (56, 1, 880)), (298, (55, 1, 885)), (302, (48, 1, 911)), (305, (57, 1, 912)), (308, (46, 1, 924)), (311, (2, 1, 928)), (316, (115, 1, 943)), (319, (86, 1, 944)), (322, (99, 1, 945)), (325, (109, 1, 946))],
  [(1, (0, 3, 126)), (81, (133, 1, 263)), (85, (134, 1, 259)), (88, (187, 0, 212)), (96, (131, 0, 215)), (100, (186, 1, 218)), (113, (135, 1, 255)), (117, (136, 1, 267)), (120, (137, 1, 271)), (128, (142, 0, 290)), (132, (141, 1, 295)), (138, (144, 1, 323)), (141, (145, 1, 341)), (152, (150, 1, 424)), (156, (151, 1, 420)), (177, (153, 1, 473)), (180, (154, 1, 469)), (184, (152, 1, 416)), (189, (132, 0, 428)), (193, (155, 1, 463)), (196, (160, 1, 534)), (199, (163, 1, 583)), (202, (164, 1, 597)), (207, (166, 1, 628)), (215, (167, 1, 623)), (228, (171, 1, 693)), (234, (175, 1, 739)), (243, (179, 1, 796)), (246, (182, 1, 837)), (249, (184, 0, 841)), (255, (190, 1, 893)), (264, (194, 1, 953)), (267, (172, 1, 954)), (270, (185, 1, 955))],
  [],
  [],
  [(9, (75, 2, 6)), (12, (130, 2, 123)), (13, (76, 1, 151)), (17, (138, 1, 202)), (18, (78, 1, 223)), (21, (139, 1, 233)), (22, (79, 1, 237)), (26, (140, 1, 250)), (27, (80, 1, 275)), (30, (143, 1, 286)), (31, (81, 1, 299)), (34, (146, 1, 319)), (35, (82, 1, 328)), (39, (147, 1, 337)), (40, (83, 1, 345)), (44, (148, 1, 349)), (45, (84, 1, 353)), (48, (149, 1, 357)), (49, (85, 1, 363)), (53, (156, 1, 410)), (54, (86, 1, 432)), (57, (157, 1, 459)), (58, (87, 1, 480)), (62, (158, 1, 488)), (63, (88, 1, 492)), (66, (159, 1, 506)), (67, (89, 1, 510)), (70, (161, 1, 530)), (71, (93, 1, 538)), (74, (162, 1, 550)), (75, (94, 1, 554)), (78, (164, 1, 579)), (79, (95, 1, 587)), (82, (165, 1, 593)), (83, (96, 1, 598)), (87, (168, 1, 617)), (88, (97, 1, 632)), (91, (169, 1, 642)), (92, (98, 1, 647)), (95, (170, 1, 660)), (96, (99, 1, 667)), (99, (172, 1, 689)), (100, (100, 1, 697)), (103, (173, 1, 701)), (104, (102, 1, 705)), (107, (174, 1, 718)), (108, (103, 1, 723)), (111, (176, 1, 735)), (112, (104, 1, 743)), (115, (177, 1, 756)), (116, (105, 1, 760)), (119, (178, 1, 774)), (120, (106, 1, 780)), (123, (180, 1, 792)), (124, (107, 1, 800)), (127, (181, 1, 816)), (128, (108, 1, 820)), (131, (183, 1, 833)), (132, (109, 1, 844)), (135, (185, 1, 848)), (136, (110, 1, 852)), (139, (188, 1, 863)), (140, (111, 1, 867)), (143, (189, 1, 872)), (144, (112, 1, 876)), (147, (191, 1, 889)), (148, (113, 1, 897)), (151, (192, 1, 902)), (152, (114, 1, 907)), (156, (193, 1, 916)), (157, (115, 1, 920)), (160, (194, 1, 933)), (161, (116, 1, 937)), (165, (195, 1, 947))]]
abbrev zCLs : List (List (Nat × (Nat × Nat))) := [[],
  [],
  [],
  [],
  [],
  [],
  [],
  [],
  [(7, (3, 12)), (16, (2, 16)), (26, (7, 21)), (33, (6, 25)), (40, (4, 29)), (47, (1, 33)), (54, (0, 37)), (61, (5, 41))],
  [],
  [],
  [],
  [(7, (8, 0)), (10, (9, 3))]]
abbrev zKIs : List (List (Nat × (Int32 × Nat))) := [[],
  [(26, (1048576, 751))],
  [],
  [(63, (1073741824, 640))],
  [],
  [],
  [],
  [],
  [(128, (-1000000, 241)), (219, (100000, 602)), (301, (-2147483648, 901))],
  [(78, (100000000, 150)), (123, (-1000000, 254)), (259, (-2147483648, 906))],
  [(265, (1431655765, 570)), (266, (858993459, 571)), (267, (252645135, 572))],
  [],
  []]
abbrev zKLs : List (List (Nat × (Int64 × Nat))) := [[],
  [],
  [],
  [(57, (3, 610)), (59, (8, 611)), (61, (2000000000, 616))],
  [],
  [],
  [],
  [],
  [(312, (17, 941)), (314, (31, 942)), (330, (-9223372036854775808, 405))],
  [(79, (-9223372036854775808, 431)), (92, (3, 206)), (94, (10, 207)), (103, (-30, 208)), (105, (30, 209)), (124, (-1000, 293)), (126, (1000, 294)), (136, (8, 327)), (144, (16, 361)), (187, (2, 415)), (205, (3000000000, 627)), (211, (20, 621)), (213, (100000, 622)), (219, (2000000000, 646)), (221, (-40, 664)), (223, (40, 665)), (260, (17, 951)), (262, (31, 952))],
  [],
  [],
  []]
abbrev zNS : List (String × Nat × MethodName × String) := [(RX0, 28, yX8_item, RX8), (RX0, 32, yX8_setItem, RX8), (RX1, 22, yX8_setItem, RX8), (RX1, 30, yX8_item, RX8), (RX2, 22, yX8_item, RX8), (RX2, 30, yX8_setItem, RX8), (RX3, 26, yX8_setItem, RX8), (RX3, 53, yX8_item, RX8), (RX4, 22, yX8_item, RX8), (RX4, 26, yX8_setItem, RX8), (RX5, 29, yX8_item, RX8), (RX5, 37, yX8_setItem, RX8), (RX6, 25, yX8_setItem, RX8), (RX6, 29, yX8_item, RX8), (RX7, 25, yX8_item, RX8), (RX7, 59, yX8_setItem, RX8), (RX8, 18, yX2_init, RX8), (RX8, 28, yX7_init, RX8), (RX8, 35, yX6_init, RX8), (RX8, 42, yX4_init, RX8), (RX8, 49, yX1_init, RX8), (RX8, 56, yX0_init, RX8)]
abbrev zMW : List (Nat × Nat × Nat) := [(109, 108, 0), (767, 765, 766), (931, 929, 930), (772, 770, 771), (791, 789, 790), (807, 805, 806), (811, 809, 810), (815, 813, 814), (827, 825, 826), (831, 829, 830), (104, 103, 0), (712, 710, 711), (717, 715, 716), (734, 732, 733), (750, 748, 749), (755, 753, 754), (82, 81, 0), (310, 308, 309), (376, 374, 375), (380, 378, 379), (191, 189, 190), (314, 312, 313), (318, 316, 317), (499, 497, 498), (48, 47, 0), (56, 54, 55), (62, 60, 61), (230, 228, 229), (201, 199, 200), (245, 243, 244), (249, 247, 248), (74, 72, 73), (80, 78, 79), (70, 68, 69), (384, 382, 383), (388, 386, 387), (285, 283, 284), (609, 607, 608), (615, 613, 614), (639, 637, 638), (99, 98, 0), (654, 652, 653), (684, 682, 683), (688, 686, 687), (659, 657, 658), (114, 113, 0), (927, 925, 926), (169, 167, 168), (165, 163, 164), (174, 172, 173), (161, 159, 160), (122, 120, 121), (862, 860, 861), (182, 180, 181), (678, 676, 677), (888, 886, 887), (883, 881, 882), (915, 913, 914), (93, 92, 0), (545, 543, 544), (196, 194, 195), (549, 547, 548), (565, 563, 564), (561, 559, 560), (576, 574, 575), (87, 86, 0), (398, 396, 397), (409, 407, 408), (370, 368, 369), (394, 392, 393), (443, 441, 442), (458, 456, 457), (487, 485, 486), (447, 445, 446), (454, 452, 453), (8, 7, 0), (154, 152, 153), (178, 176, 177), (226, 224, 225), (240, 238, 239), (278, 276, 277), (302, 300, 301), (331, 329, 330), (348, 346, 347), (356, 354, 355), (366, 364, 365), (435, 433, 434), (483, 481, 482), (495, 493, 494), (513, 511, 512), (517, 515, 516), (521, 519, 520), (439, 437, 438), (541, 539, 540), (557, 555, 556), (590, 588, 589), (601, 599, 600), (635, 633, 634), (650, 648, 649), (670, 668, 669), (700, 698, 699), (674, 672, 673), (708, 706, 707), (726, 724, 725), (746, 744, 745), (763, 761, 762), (783, 781, 782), (803, 801, 802), (823, 821, 822), (847, 845, 846), (855, 853, 854), (870, 868, 869), (879, 877, 878), (900, 898, 899), (910, 908, 909), (923, 921, 922), (940, 938, 939), (404, 403, 0), (185, 184, 0), (281, 280, 0), (605, 604, 0), (401, 400, 0), (157, 156, 0), (858, 857, 0), (306, 304, 305), (335, 333, 334), (730, 728, 729), (787, 785, 786), (76, 75, 0), (58, 57, 0), (125, 124, 0), (217, 216, 0), (430, 429, 0), (266, 264, 265), (262, 260, 261), (258, 256, 257), (270, 268, 269), (274, 272, 273), (205, 203, 204), (236, 234, 235), (253, 251, 252), (298, 296, 297), (292, 291, 0), (289, 287, 288), (326, 324, 325), (344, 342, 343), (322, 320, 321), (340, 338, 339), (352, 350, 351), (360, 358, 359), (427, 425, 426), (423, 421, 422), (419, 417, 418), (476, 474, 475), (472, 470, 471), (466, 464, 465), (413, 411, 412), (462, 460, 461), (491, 489, 490), (509, 507, 508), (537, 535, 536), (533, 531, 532), (553, 551, 552), (586, 584, 585), (582, 580, 581), (596, 594, 595), (631, 629, 630), (626, 624, 625), (620, 618, 619), (645, 643, 644), (663, 661, 662), (696, 694, 695), (692, 690, 691), (704, 702, 703), (721, 719, 720), (742, 740, 741), (738, 736, 737), (759, 757, 758), (777, 775, 776), (799, 797, 798), (795, 793, 794), (819, 817, 818), (840, 838, 839), (836, 834, 835), (843, 842, 0), (851, 849, 850), (221, 219, 220), (214, 213, 0), (866, 864, 865), (875, 873, 874), (896, 894, 895), (892, 890, 891), (905, 903, 904), (919, 917, 918), (936, 934, 935), (950, 948, 949), (569, 567, 0), (525, 523, 0), (528, 527, 0), (0, 0, 0)]
abbrev zIW : List Nat := [39, 35, 18, 14, 31, 43, 27, 23, 2, 5, 568, 524, 0]
abbrev zSW : List Nat := [38, 34, 17, 13, 30, 42, 26, 22, 1, 4]
end
section
-- tables
def zY (m : Nat) : MethodName := (zM.getD m (yX0_init, cX0_init, 0, none, 0, 0, 0, 0)).1
def zB (m : Nat) : ByteArray := (zM.getD m (yX0_init, cX0_init, 0, none, 0, 0, 0, 0)).2.1
def zML (m : Nat) : Nat := (zM.getD m (yX0_init, cX0_init, 0, none, 0, 0, 0, 0)).2.2.1
def zRT (m : Nat) : Option FieldType := (zM.getD m (yX0_init, cX0_init, 0, none, 0, 0, 0, 0)).2.2.2.1
def zOw (m : Nat) : Nat := (zM.getD m (yX0_init, cX0_init, 0, none, 0, 0, 0, 0)).2.2.2.2.1
def zAl (m : Nat) : Nat := (zM.getD m (yX0_init, cX0_init, 0, none, 0, 0, 0, 0)).2.2.2.2.2.1
def zNa (m : Nat) : Nat := (zM.getD m (yX0_init, cX0_init, 0, none, 0, 0, 0, 0)).2.2.2.2.2.2.1
def zKi (m : Nat) : Nat := (zM.getD m (yX0_init, cX0_init, 0, none, 0, 0, 0, 0)).2.2.2.2.2.2.2
def zcd (m pc : Nat) : Option (Instr × Nat) := (zC.getD m []).lookup pc
def zkd (a : Nat) : Nat × Nat := zKD.getD a (3, 0)
def zNF (ci : Nat) : Nat := zNFs.getD ci 0
def zNo (o : Nat) : String := zNm.getD o ""
def zTT (ci : Nat) : u_T := match ci with
  | 0 => TX0 | 1 => TX1 | 2 => TX2 | 3 => TX3 | 4 => TX4 | 5 => TX5 | 6 => TX6 | 7 => TX7 | 8 => TX8 | _ => TX9
def zTY (ci : Nat) : Nat → FieldType := match ci with
  | 0 => tyX0 | 1 => tyX1 | 2 => tyX2 | 3 => tyX3 | 4 => tyX4 | 5 => tyX5 | 6 => tyX6 | 7 => tyX7 | 8 => tyX8 | _ => tyX9
def zft (o i : Nat) : Option (Nat × Nat × Nat) := (zFTs.getD o []).lookup i
def zct (o i : Nat) : Option (Nat × Nat × Nat) := (zCTs.getD o []).lookup i
def zcl (o i : Nat) : Option (Nat × Nat) := (zCLs.getD o []).lookup i
def zki (o i : Nat) : Option (Int32 × Nat) := (zKIs.getD o []).lookup i
def zkl (o i : Nat) : Option (Int64 × Nat) := (zKLs.getD o []).lookup i
def zsc : Nat := 1000000
def zlen : Instr → Nat
  | .iload _ => 2 | .lload _ => 2 | .aload _ => 2 | .istore _ => 2 | .lstore _ => 2 | .astore _ => 2
  | .bipush _ => 2 | .sipush _ => 3 | .ldc _ => 2 | .ldc_w _ => 3 | .ldc2_w _ => 3 | .newarray _ => 2
  | .getfield _ => 3 | .putfield _ => 3 | .invokespecial _ => 3 | .invokestatic _ => 3 | .invokevirtual _ => 3 | .new _ => 3
  | .ifCond _ _ => 3 | .if_icmp _ _ => 3 | .ifnull _ => 3 | .goto _ => 3 | .iinc _ _ => 3
  | _ => 1
end
section
abbrev zBG : List Jvm.Cond := wsL_law
theorem zBG_good : GoodIn zBG zBG := fun w h => ⟨h, (wsL_law_good w h).2⟩
def zgd (e : Nat × Instr × Nat) : Bool := (match e.2.1 with
  | .tableswitch _ _ _ _ => true
  | i => e.2.2 == zlen i) && (match e.2.1 with
  | .ifCond _ off => decide (0 ≤ (e.1 : Int) + off)
  | .if_icmp _ off => decide (0 ≤ (e.1 : Int) + off)
  | .goto off => decide (0 ≤ (e.1 : Int) + off)
  | .tableswitch d _ _ _ => decide (0 ≤ (e.1 : Int) + d)
  | _ => true)
def zmP (m : Nat) : Bool := decide (zBG[zIW.getD (zOw m) 0]? = some (.initialized (zY m).cls)) && decide (zBG[(zMW.getD m (0, 0, 0)).2.1]? = some (if zKi m = 0 then .static (zY m) else .instanceMethod (zY m))) &&
  (zKi m != 1 || decide (zBG[(zMW.getD m (0, 0, 0)).2.2]? = some (.selects (zY m).cls (zY m) (zY m)))) && ((zY m).cls != "java/lang/invoke/MethodHandle" && (zY m).cls != "java/lang/invoke/VarHandle") && decide ((parseMethodDescriptor (zY m).desc).map (fun d => d.parameters.length) = some (zNa m)) &&
  Jvm.plainName (zY m).cls && decide (zML m ≤ 15) && (zKi m != 2 || ((zY m).name == "<init>" && zRT m == none)) && (zY m).cls == zNo (zOw m) && decide (zKi m < 3)
set_option maxRecDepth 100000 in
theorem zk_m : (List.range 197).all zmP = true := by decide +kernel
def zfP (o : Nat) (e : Nat × Nat × Nat × Nat) : Bool := decide (zBG[e.2.2.2]? = some (.fieldLink (zNo o) e.1 (zTT e.2.1 e.2.2.1).1 (zTT e.2.1 e.2.2.1).2.1 (zTT e.2.1 e.2.2.1).2.2.1)) && decide (e.2.2.1 < zNF e.2.1) && decide (e.2.1 < 10)
set_option maxRecDepth 100000 in
theorem zk_f : (List.range 13).all (fun o => (zFTs.getD o []).all (zfP o)) = true := by decide +kernel
def zcP (o : Nat) (e : Nat × Nat × Nat × Nat) : Bool := match e.2.2.1 with
  | 3 => decide (zBG[e.2.2.2]? = some (.methodLink (zNo o) e.1 objectInit))
  | 4 => decide (zBG[e.2.2.2]? = some (.methodLink (zNo o) e.1 Lib.Math.max.name))
  | 5 => decide (zBG[e.2.2.2]? = some (.methodLink (zNo o) e.1 Lib.Math.min.name))
  | k => (if k < 10 then decide (zBG[e.2.2.2]? = some (.methodLink (zNo o) e.1 (zY e.2.1))) else decide (zNS[e.2.2.2]? = some (zNo o, e.1, zY e.2.1, RX8))) && decide (zKi e.2.1 = k % 10) && decide (e.2.1 < 197)
set_option maxRecDepth 100000 in
theorem zk_c : (List.range 13).all (fun o => (zCTs.getD o []).all (zcP o)) = true := by decide +kernel
def zlP (o : Nat) (e : Nat × Nat × Nat) : Bool := decide (zBG[e.2.2]? = some (.classLink (zNo o) e.1 (zNo e.2.1))) && decide (e.2.1 < 10)
set_option maxRecDepth 100000 in
theorem zk_l : (List.range 13).all (fun o => (zCLs.getD o []).all (zlP o)) = true := by decide +kernel
set_option maxRecDepth 100000 in
theorem zk_i : (List.range 13).all (fun o => (zKIs.getD o []).all (fun e => decide (zBG[e.2.2]? = some (.constant (zNo o) e.1 e.2.1)))) = true := by decide +kernel
set_option maxRecDepth 100000 in
theorem zk_j : (List.range 13).all (fun o => (zKLs.getD o []).all (fun e => decide (zBG[e.2.2]? = some (.constantLong (zNo o) e.1 e.2.1)))) = true := by decide +kernel
set_option maxRecDepth 100000 in
theorem zk_n : (List.range 10).all (fun ci => decide (zBG[zSW.getD ci 0]? = some (.instantiable (zNo ci) (zNF ci))) && decide (zBG[zIW.getD ci 0]? = some (.initialized (zNo ci)))) = true := by decide +kernel
theorem zk_o : Jvm.Cond.instanceMethod objectInit ∈ zBG ∧ Jvm.Cond.code objectInit ⟨#[0xb1]⟩ 1 none ∈ zBG ∧ Jvm.Cond.arrayClass .int ∈ zBG ∧ Jvm.Cond.arrayClass .long ∈ zBG := ⟨List.mem_of_getElem? (i := 10) (by decide +kernel), List.mem_of_getElem? (i := 11) (by decide +kernel), List.mem_of_getElem? (i := 50) (by decide +kernel), List.mem_of_getElem? (i := 133) (by decide +kernel)⟩
end
section
set_option maxRecDepth 100000 in
theorem zdX0_init : ∀ e ∈ zcX0_init, decode cX0_init e.1 = .ok (e.2.1, e.2.2) ∧ zgd e = true := by decide +kernel
set_option maxRecDepth 100000 in
theorem zwX0_init : zBG[109]? = some (.code yX0_init cX0_init 1 none) := by first | rfl | decide +kernel
set_option maxRecDepth 100000 in
theorem zdX0_dropped : ∀ e ∈ zcX0_dropped, decode cX0_dropped e.1 = .ok (e.2.1, e.2.2) ∧ zgd e = true := by decide +kernel
set_option maxRecDepth 100000 in
theorem zwX0_dropped : zBG[767]? = some (.code yX0_dropped cX0_dropped 1 (some .int)) := by first | rfl | decide +kernel
set_option maxRecDepth 100000 in
theorem zdX0_size : ∀ e ∈ zcX0_size, decode cX0_size e.1 = .ok (e.2.1, e.2.2) ∧ zgd e = true := by decide +kernel
set_option maxRecDepth 100000 in
theorem zwX0_size : zBG[931]? = some (.code yX0_size cX0_size 1 (some .int)) := by first | rfl | decide +kernel
set_option maxRecDepth 100000 in
theorem zdX0_add : ∀ e ∈ zcX0_add, decode cX0_add e.1 = .ok (e.2.1, e.2.2) ∧ zgd e = true := by decide +kernel
set_option maxRecDepth 100000 in
theorem zwX0_add : zBG[772]? = some (.code yX0_add cX0_add 1 none) := by first | rfl | decide +kernel
set_option maxRecDepth 100000 in
theorem zdX0_lay : ∀ e ∈ zcX0_lay, decode cX0_lay e.1 = .ok (e.2.1, e.2.2) ∧ zgd e = true := by decide +kernel
set_option maxRecDepth 100000 in
theorem zwX0_lay : zBG[791]? = some (.code yX0_lay cX0_lay 3 none) := by first | rfl | decide +kernel
set_option maxRecDepth 100000 in
theorem zdX0_isInside : ∀ e ∈ zcX0_isInside, decode cX0_isInside e.1 = .ok (e.2.1, e.2.2) ∧ zgd e = true := by decide +kernel
set_option maxRecDepth 100000 in
theorem zwX0_isInside : zBG[807]? = some (.code yX0_isInside cX0_isInside 2 (some .boolean)) := by first | rfl | decide +kernel
set_option maxRecDepth 100000 in
theorem zdX0_isCovered : ∀ e ∈ zcX0_isCovered, decode cX0_isCovered e.1 = .ok (e.2.1, e.2.2) ∧ zgd e = true := by decide +kernel
set_option maxRecDepth 100000 in
theorem zwX0_isCovered : zBG[811]? = some (.code yX0_isCovered cX0_isCovered 2 (some .boolean)) := by first | rfl | decide +kernel
set_option maxRecDepth 100000 in
theorem zdX0_remove : ∀ e ∈ zcX0_remove, decode cX0_remove e.1 = .ok (e.2.1, e.2.2) ∧ zgd e = true := by decide +kernel
set_option maxRecDepth 100000 in
theorem zwX0_remove : zBG[815]? = some (.code yX0_remove cX0_remove 2 none) := by first | rfl | decide +kernel
set_option maxRecDepth 100000 in
theorem zdX0_stuckBits : ∀ e ∈ zcX0_stuckBits, decode cX0_stuckBits e.1 = .ok (e.2.1, e.2.2) ∧ zgd e = true := by decide +kernel
set_option maxRecDepth 100000 in
theorem zwX0_stuckBits : zBG[827]? = some (.code yX0_stuckBits cX0_stuckBits 4 (some .int)) := by first | rfl | decide +kernel
set_option maxRecDepth 100000 in
theorem zdX0_withAllAbove : ∀ e ∈ zcX0_withAllAbove, decode cX0_withAllAbove e.1 = .ok (e.2.1, e.2.2) ∧ zgd e = true := by decide +kernel
set_option maxRecDepth 100000 in
theorem zwX0_withAllAbove : zBG[831]? = some (.code yX0_withAllAbove cX0_withAllAbove 5 (some .int)) := by first | rfl | decide +kernel
set_option maxRecDepth 100000 in
theorem zdX1_init : ∀ e ∈ zcX1_init, decode cX1_init e.1 = .ok (e.2.1, e.2.2) ∧ zgd e = true := by decide +kernel
set_option maxRecDepth 100000 in
theorem zwX1_init : zBG[104]? = some (.code yX1_init cX1_init 1 none) := by first | rfl | decide +kernel
set_option maxRecDepth 100000 in
theorem zdX1_size : ∀ e ∈ zcX1_size, decode cX1_size e.1 = .ok (e.2.1, e.2.2) ∧ zgd e = true := by decide +kernel
set_option maxRecDepth 100000 in
theorem zwX1_size : zBG[712]? = some (.code yX1_size cX1_size 1 (some .int)) := by first | rfl | decide +kernel
set_option maxRecDepth 100000 in
theorem zdX1_add : ∀ e ∈ zcX1_add, decode cX1_add e.1 = .ok (e.2.1, e.2.2) ∧ zgd e = true := by decide +kernel
set_option maxRecDepth 100000 in
theorem zwX1_add : zBG[717]? = some (.code yX1_add cX1_add 1 none) := by first | rfl | decide +kernel
set_option maxRecDepth 100000 in
theorem zdX1_join : ∀ e ∈ zcX1_join, decode cX1_join e.1 = .ok (e.2.1, e.2.2) ∧ zgd e = true := by decide +kernel
set_option maxRecDepth 100000 in
theorem zwX1_join : zBG[734]? = some (.code yX1_join cX1_join 4 none) := by first | rfl | decide +kernel
set_option maxRecDepth 100000 in
theorem zdX1_leastCost : ∀ e ∈ zcX1_leastCost, decode cX1_leastCost e.1 = .ok (e.2.1, e.2.2) ∧ zgd e = true := by decide +kernel
set_option maxRecDepth 100000 in
theorem zwX1_leastCost : zBG[750]? = some (.code yX1_leastCost cX1_leastCost 4 (some .int)) := by first | rfl | decide +kernel
set_option maxRecDepth 100000 in
theorem zdX1_goOneMoveFarther : ∀ e ∈ zcX1_goOneMoveFarther, decode cX1_goOneMoveFarther e.1 = .ok (e.2.1, e.2.2) ∧ zgd e = true := by decide +kernel
set_option maxRecDepth 100000 in
theorem zwX1_goOneMoveFarther : zBG[755]? = some (.code yX1_goOneMoveFarther cX1_goOneMoveFarther 5 none) := by first | rfl | decide +kernel
set_option maxRecDepth 100000 in
theorem zdX2_init : ∀ e ∈ zcX2_init, decode cX2_init e.1 = .ok (e.2.1, e.2.2) ∧ zgd e = true := by decide +kernel
set_option maxRecDepth 100000 in
theorem zwX2_init : zBG[82]? = some (.code yX2_init cX2_init 1 none) := by first | rfl | decide +kernel
set_option maxRecDepth 100000 in
theorem zdX2_size : ∀ e ∈ zcX2_size, decode cX2_size e.1 = .ok (e.2.1, e.2.2) ∧ zgd e = true := by decide +kernel
set_option maxRecDepth 100000 in
theorem zwX2_size : zBG[310]? = some (.code yX2_size cX2_size 1 (some .int)) := by first | rfl | decide +kernel
set_option maxRecDepth 100000 in
theorem zdX2_edge : ∀ e ∈ zcX2_edge, decode cX2_edge e.1 = .ok (e.2.1, e.2.2) ∧ zgd e = true := by decide +kernel
set_option maxRecDepth 100000 in
theorem zwX2_edge : zBG[376]? = some (.code yX2_edge cX2_edge 2 (some .int)) := by first | rfl | decide +kernel
set_option maxRecDepth 100000 in
theorem zdX2_eighth : ∀ e ∈ zcX2_eighth, decode cX2_eighth e.1 = .ok (e.2.1, e.2.2) ∧ zgd e = true := by decide +kernel
set_option maxRecDepth 100000 in
theorem zwX2_eighth : zBG[380]? = some (.code yX2_eighth cX2_eighth 2 (some .int)) := by first | rfl | decide +kernel
set_option maxRecDepth 100000 in
theorem zdX2_clear : ∀ e ∈ zcX2_clear, decode cX2_clear e.1 = .ok (e.2.1, e.2.2) ∧ zgd e = true := by decide +kernel
set_option maxRecDepth 100000 in
theorem zwX2_clear : zBG[191]? = some (.code yX2_clear cX2_clear 1 none) := by first | rfl | decide +kernel
set_option maxRecDepth 100000 in
theorem zdX2_add : ∀ e ∈ zcX2_add, decode cX2_add e.1 = .ok (e.2.1, e.2.2) ∧ zgd e = true := by decide +kernel
set_option maxRecDepth 100000 in
theorem zwX2_add : zBG[314]? = some (.code yX2_add cX2_add 3 none) := by first | rfl | decide +kernel
set_option maxRecDepth 100000 in
theorem zdX2_stand : ∀ e ∈ zcX2_stand, decode cX2_stand e.1 = .ok (e.2.1, e.2.2) ∧ zgd e = true := by decide +kernel
set_option maxRecDepth 100000 in
theorem zwX2_stand : zBG[318]? = some (.code yX2_stand cX2_stand 4 none) := by first | rfl | decide +kernel
set_option maxRecDepth 100000 in
theorem zdX2_become : ∀ e ∈ zcX2_become, decode cX2_become e.1 = .ok (e.2.1, e.2.2) ∧ zgd e = true := by decide +kernel
set_option maxRecDepth 100000 in
theorem zwX2_become : zBG[499]? = some (.code yX2_become cX2_become 3 none) := by first | rfl | decide +kernel
set_option maxRecDepth 100000 in
theorem zdX3_init : ∀ e ∈ zcX3_init, decode cX3_init e.1 = .ok (e.2.1, e.2.2) ∧ zgd e = true := by decide +kernel
set_option maxRecDepth 100000 in
theorem zwX3_init : zBG[48]? = some (.code yX3_init cX3_init 1 none) := by first | rfl | decide +kernel
set_option maxRecDepth 100000 in
theorem zdX3_setCorner : ∀ e ∈ zcX3_setCorner, decode cX3_setCorner e.1 = .ok (e.2.1, e.2.2) ∧ zgd e = true := by decide +kernel
set_option maxRecDepth 100000 in
theorem zwX3_setCorner : zBG[56]? = some (.code yX3_setCorner cX3_setCorner 4 none) := by first | rfl | decide +kernel
set_option maxRecDepth 100000 in
theorem zdX3_close : ∀ e ∈ zcX3_close, decode cX3_close e.1 = .ok (e.2.1, e.2.2) ∧ zgd e = true := by decide +kernel
set_option maxRecDepth 100000 in
theorem zwX3_close : zBG[62]? = some (.code yX3_close cX3_close 5 none) := by first | rfl | decide +kernel
set_option maxRecDepth 100000 in
theorem zdX3_corners : ∀ e ∈ zcX3_corners, decode cX3_corners e.1 = .ok (e.2.1, e.2.2) ∧ zgd e = true := by decide +kernel
set_option maxRecDepth 100000 in
theorem zwX3_corners : zBG[230]? = some (.code yX3_corners cX3_corners 1 (some .int)) := by first | rfl | decide +kernel
set_option maxRecDepth 100000 in
theorem zdX3_area : ∀ e ∈ zcX3_area, decode cX3_area e.1 = .ok (e.2.1, e.2.2) ∧ zgd e = true := by decide +kernel
set_option maxRecDepth 100000 in
theorem zwX3_area : zBG[201]? = some (.code yX3_area cX3_area 1 (some .int)) := by first | rfl | decide +kernel
set_option maxRecDepth 100000 in
theorem zdX3_momentX : ∀ e ∈ zcX3_momentX, decode cX3_momentX e.1 = .ok (e.2.1, e.2.2) ∧ zgd e = true := by decide +kernel
set_option maxRecDepth 100000 in
theorem zwX3_momentX : zBG[245]? = some (.code yX3_momentX cX3_momentX 1 (some .int)) := by first | rfl | decide +kernel
set_option maxRecDepth 100000 in
theorem zdX3_momentY : ∀ e ∈ zcX3_momentY, decode cX3_momentY e.1 = .ok (e.2.1, e.2.2) ∧ zgd e = true := by decide +kernel
set_option maxRecDepth 100000 in
theorem zwX3_momentY : zBG[249]? = some (.code yX3_momentY cX3_momentY 1 (some .int)) := by first | rfl | decide +kernel
set_option maxRecDepth 100000 in
theorem zdX3_x : ∀ e ∈ zcX3_x, decode cX3_x e.1 = .ok (e.2.1, e.2.2) ∧ zgd e = true := by decide +kernel
set_option maxRecDepth 100000 in
theorem zwX3_x : zBG[74]? = some (.code yX3_x cX3_x 2 (some .int)) := by first | rfl | decide +kernel
set_option maxRecDepth 100000 in
theorem zdX3_y : ∀ e ∈ zcX3_y, decode cX3_y e.1 = .ok (e.2.1, e.2.2) ∧ zgd e = true := by decide +kernel
set_option maxRecDepth 100000 in
theorem zwX3_y : zBG[80]? = some (.code yX3_y cX3_y 2 (some .int)) := by first | rfl | decide +kernel
set_option maxRecDepth 100000 in
theorem zdX3_next : ∀ e ∈ zcX3_next, decode cX3_next e.1 = .ok (e.2.1, e.2.2) ∧ zgd e = true := by decide +kernel
set_option maxRecDepth 100000 in
theorem zwX3_next : zBG[70]? = some (.code yX3_next cX3_next 2 (some .int)) := by first | rfl | decide +kernel
set_option maxRecDepth 100000 in
theorem zdX3_dx : ∀ e ∈ zcX3_dx, decode cX3_dx e.1 = .ok (e.2.1, e.2.2) ∧ zgd e = true := by decide +kernel
set_option maxRecDepth 100000 in
theorem zwX3_dx : zBG[384]? = some (.code yX3_dx cX3_dx 2 (some .int)) := by first | rfl | decide +kernel
set_option maxRecDepth 100000 in
theorem zdX3_dy : ∀ e ∈ zcX3_dy, decode cX3_dy e.1 = .ok (e.2.1, e.2.2) ∧ zgd e = true := by decide +kernel
set_option maxRecDepth 100000 in
theorem zwX3_dy : zBG[388]? = some (.code yX3_dy cX3_dy 2 (some .int)) := by first | rfl | decide +kernel
set_option maxRecDepth 100000 in
theorem zdX3_side : ∀ e ∈ zcX3_side, decode cX3_side e.1 = .ok (e.2.1, e.2.2) ∧ zgd e = true := by decide +kernel
set_option maxRecDepth 100000 in
theorem zwX3_side : zBG[285]? = some (.code yX3_side cX3_side 11 (some .int)) := by first | rfl | decide +kernel
set_option maxRecDepth 100000 in
theorem zdX3_pull : ∀ e ∈ zcX3_pull, decode cX3_pull e.1 = .ok (e.2.1, e.2.2) ∧ zgd e = true := by decide +kernel
set_option maxRecDepth 100000 in
theorem zwX3_pull : zBG[609]? = some (.code yX3_pull cX3_pull 8 (some .long)) := by first | rfl | decide +kernel
set_option maxRecDepth 100000 in
theorem zdX3_isSealed : ∀ e ∈ zcX3_isSealed, decode cX3_isSealed e.1 = .ok (e.2.1, e.2.2) ∧ zgd e = true := by decide +kernel
set_option maxRecDepth 100000 in
theorem zwX3_isSealed : zBG[615]? = some (.code yX3_isSealed cX3_isSealed 6 (some .boolean)) := by first | rfl | decide +kernel
set_option maxRecDepth 100000 in
theorem zdX3_leastSeal : ∀ e ∈ zcX3_leastSeal, decode cX3_leastSeal e.1 = .ok (e.2.1, e.2.2) ∧ zgd e = true := by decide +kernel
set_option maxRecDepth 100000 in
theorem zwX3_leastSeal : zBG[639]? = some (.code yX3_leastSeal cX3_leastSeal 7 (some .int)) := by first | rfl | decide +kernel
set_option maxRecDepth 100000 in
theorem zdX4_init : ∀ e ∈ zcX4_init, decode cX4_init e.1 = .ok (e.2.1, e.2.2) ∧ zgd e = true := by decide +kernel
set_option maxRecDepth 100000 in
theorem zwX4_init : zBG[99]? = some (.code yX4_init cX4_init 1 none) := by first | rfl | decide +kernel
set_option maxRecDepth 100000 in
theorem zdX4_size : ∀ e ∈ zcX4_size, decode cX4_size e.1 = .ok (e.2.1, e.2.2) ∧ zgd e = true := by decide +kernel
set_option maxRecDepth 100000 in
theorem zwX4_size : zBG[654]? = some (.code yX4_size cX4_size 1 (some .int)) := by first | rfl | decide +kernel
set_option maxRecDepth 100000 in
theorem zdX4_x : ∀ e ∈ zcX4_x, decode cX4_x e.1 = .ok (e.2.1, e.2.2) ∧ zgd e = true := by decide +kernel
set_option maxRecDepth 100000 in
theorem zwX4_x : zBG[684]? = some (.code yX4_x cX4_x 2 (some .int)) := by first | rfl | decide +kernel
set_option maxRecDepth 100000 in
theorem zdX4_y : ∀ e ∈ zcX4_y, decode cX4_y e.1 = .ok (e.2.1, e.2.2) ∧ zgd e = true := by decide +kernel
set_option maxRecDepth 100000 in
theorem zwX4_y : zBG[688]? = some (.code yX4_y cX4_y 2 (some .int)) := by first | rfl | decide +kernel
set_option maxRecDepth 100000 in
theorem zdX4_add : ∀ e ∈ zcX4_add, decode cX4_add e.1 = .ok (e.2.1, e.2.2) ∧ zgd e = true := by decide +kernel
set_option maxRecDepth 100000 in
theorem zwX4_add : zBG[659]? = some (.code yX4_add cX4_add 3 none) := by first | rfl | decide +kernel
set_option maxRecDepth 100000 in
theorem zdX5_init : ∀ e ∈ zcX5_init, decode cX5_init e.1 = .ok (e.2.1, e.2.2) ∧ zgd e = true := by decide +kernel
set_option maxRecDepth 100000 in
theorem zwX5_init : zBG[114]? = some (.code yX5_init cX5_init 2 none) := by first | rfl | decide +kernel
set_option maxRecDepth 100000 in
theorem zdX5_latestFinding : ∀ e ∈ zcX5_latestFinding, decode cX5_latestFinding e.1 = .ok (e.2.1, e.2.2) ∧ zgd e = true := by decide +kernel
set_option maxRecDepth 100000 in
theorem zwX5_latestFinding : zBG[927]? = some (.code yX5_latestFinding cX5_latestFinding 1 (some .int)) := by first | rfl | decide +kernel
set_option maxRecDepth 100000 in
theorem zdX5_find : ∀ e ∈ zcX5_find, decode cX5_find e.1 = .ok (e.2.1, e.2.2) ∧ zgd e = true := by decide +kernel
set_option maxRecDepth 100000 in
theorem zwX5_find : zBG[169]? = some (.code yX5_find cX5_find 2 (some .int)) := by first | rfl | decide +kernel
set_option maxRecDepth 100000 in
theorem zdX5_form : ∀ e ∈ zcX5_form, decode cX5_form e.1 = .ok (e.2.1, e.2.2) ∧ zgd e = true := by decide +kernel
set_option maxRecDepth 100000 in
theorem zwX5_form : zBG[165]? = some (.code yX5_form cX5_form 2 (some .int)) := by first | rfl | decide +kernel
set_option maxRecDepth 100000 in
theorem zdX5_length : ∀ e ∈ zcX5_length, decode cX5_length e.1 = .ok (e.2.1, e.2.2) ∧ zgd e = true := by decide +kernel
set_option maxRecDepth 100000 in
theorem zwX5_length : zBG[174]? = some (.code yX5_length cX5_length 2 (some .int)) := by first | rfl | decide +kernel
set_option maxRecDepth 100000 in
theorem zdX5_isLost : ∀ e ∈ zcX5_isLost, decode cX5_isLost e.1 = .ok (e.2.1, e.2.2) ∧ zgd e = true := by decide +kernel
set_option maxRecDepth 100000 in
theorem zwX5_isLost : zBG[161]? = some (.code yX5_isLost cX5_isLost 2 (some .boolean)) := by first | rfl | decide +kernel
set_option maxRecDepth 100000 in
theorem zdX5_forget : ∀ e ∈ zcX5_forget, decode cX5_forget e.1 = .ok (e.2.1, e.2.2) ∧ zgd e = true := by decide +kernel
set_option maxRecDepth 100000 in
theorem zwX5_forget : zBG[122]? = some (.code yX5_forget cX5_forget 2 none) := by first | rfl | decide +kernel
set_option maxRecDepth 100000 in
theorem zdX5_renew : ∀ e ∈ zcX5_renew, decode cX5_renew e.1 = .ok (e.2.1, e.2.2) ∧ zgd e = true := by decide +kernel
set_option maxRecDepth 100000 in
theorem zwX5_renew : zBG[862]? = some (.code yX5_renew cX5_renew 5 none) := by first | rfl | decide +kernel
set_option maxRecDepth 100000 in
theorem zdX5_value : ∀ e ∈ zcX5_value, decode cX5_value e.1 = .ok (e.2.1, e.2.2) ∧ zgd e = true := by decide +kernel
set_option maxRecDepth 100000 in
theorem zwX5_value : zBG[182]? = some (.code yX5_value cX5_value 3 (some .int)) := by first | rfl | decide +kernel
set_option maxRecDepth 100000 in
theorem zdX5_hasValue : ∀ e ∈ zcX5_hasValue, decode cX5_hasValue e.1 = .ok (e.2.1, e.2.2) ∧ zgd e = true := by decide +kernel
set_option maxRecDepth 100000 in
theorem zwX5_hasValue : zBG[678]? = some (.code yX5_hasValue cX5_hasValue 4 (some .boolean)) := by first | rfl | decide +kernel
set_option maxRecDepth 100000 in
theorem zdX5_write : ∀ e ∈ zcX5_write, decode cX5_write e.1 = .ok (e.2.1, e.2.2) ∧ zgd e = true := by decide +kernel
set_option maxRecDepth 100000 in
theorem zwX5_write : zBG[888]? = some (.code yX5_write cX5_write 5 none) := by first | rfl | decide +kernel
set_option maxRecDepth 100000 in
theorem zdX5_faultAt : ∀ e ∈ zcX5_faultAt, decode cX5_faultAt e.1 = .ok (e.2.1, e.2.2) ∧ zgd e = true := by decide +kernel
set_option maxRecDepth 100000 in
theorem zwX5_faultAt : zBG[883]? = some (.code yX5_faultAt cX5_faultAt 4 (some .int)) := by first | rfl | decide +kernel
set_option maxRecDepth 100000 in
theorem zdX5_hasRun : ∀ e ∈ zcX5_hasRun, decode cX5_hasRun e.1 = .ok (e.2.1, e.2.2) ∧ zgd e = true := by decide +kernel
set_option maxRecDepth 100000 in
theorem zwX5_hasRun : zBG[915]? = some (.code yX5_hasRun cX5_hasRun 4 (some .boolean)) := by first | rfl | decide +kernel
set_option maxRecDepth 100000 in
theorem zdX6_init : ∀ e ∈ zcX6_init, decode cX6_init e.1 = .ok (e.2.1, e.2.2) ∧ zgd e = true := by decide +kernel
set_option maxRecDepth 100000 in
theorem zwX6_init : zBG[93]? = some (.code yX6_init cX6_init 1 none) := by first | rfl | decide +kernel
set_option maxRecDepth 100000 in
theorem zdX6_size : ∀ e ∈ zcX6_size, decode cX6_size e.1 = .ok (e.2.1, e.2.2) ∧ zgd e = true := by decide +kernel
set_option maxRecDepth 100000 in
theorem zwX6_size : zBG[545]? = some (.code yX6_size cX6_size 1 (some .int)) := by first | rfl | decide +kernel
set_option maxRecDepth 100000 in
theorem zdX6_clear : ∀ e ∈ zcX6_clear, decode cX6_clear e.1 = .ok (e.2.1, e.2.2) ∧ zgd e = true := by decide +kernel
set_option maxRecDepth 100000 in
theorem zwX6_clear : zBG[196]? = some (.code yX6_clear cX6_clear 1 none) := by first | rfl | decide +kernel
set_option maxRecDepth 100000 in
theorem zdX6_add : ∀ e ∈ zcX6_add, decode cX6_add e.1 = .ok (e.2.1, e.2.2) ∧ zgd e = true := by decide +kernel
set_option maxRecDepth 100000 in
theorem zwX6_add : zBG[549]? = some (.code yX6_add cX6_add 4 none) := by first | rfl | decide +kernel
set_option maxRecDepth 100000 in
theorem zdX6_price : ∀ e ∈ zcX6_price, decode cX6_price e.1 = .ok (e.2.1, e.2.2) ∧ zgd e = true := by decide +kernel
set_option maxRecDepth 100000 in
theorem zwX6_price : zBG[565]? = some (.code yX6_price cX6_price 4 (some .int)) := by first | rfl | decide +kernel
set_option maxRecDepth 100000 in
theorem zdX6_isBetter : ∀ e ∈ zcX6_isBetter, decode cX6_isBetter e.1 = .ok (e.2.1, e.2.2) ∧ zgd e = true := by decide +kernel
set_option maxRecDepth 100000 in
theorem zwX6_isBetter : zBG[561]? = some (.code yX6_isBetter cX6_isBetter 4 (some .boolean)) := by first | rfl | decide +kernel
set_option maxRecDepth 100000 in
theorem zdX6_layOut : ∀ e ∈ zcX6_layOut, decode cX6_layOut e.1 = .ok (e.2.1, e.2.2) ∧ zgd e = true := by decide +kernel
set_option maxRecDepth 100000 in
theorem zwX6_layOut : zBG[576]? = some (.code yX6_layOut cX6_layOut 4 none) := by first | rfl | decide +kernel
set_option maxRecDepth 100000 in
theorem zdX7_init : ∀ e ∈ zcX7_init, decode cX7_init e.1 = .ok (e.2.1, e.2.2) ∧ zgd e = true := by decide +kernel
set_option maxRecDepth 100000 in
theorem zwX7_init : zBG[87]? = some (.code yX7_init cX7_init 1 none) := by first | rfl | decide +kernel
set_option maxRecDepth 100000 in
theorem zdX7_size : ∀ e ∈ zcX7_size, decode cX7_size e.1 = .ok (e.2.1, e.2.2) ∧ zgd e = true := by decide +kernel
set_option maxRecDepth 100000 in
theorem zwX7_size : zBG[398]? = some (.code yX7_size cX7_size 1 (some .int)) := by first | rfl | decide +kernel
set_option maxRecDepth 100000 in
theorem zdX7_part : ∀ e ∈ zcX7_part, decode cX7_part e.1 = .ok (e.2.1, e.2.2) ∧ zgd e = true := by decide +kernel
set_option maxRecDepth 100000 in
theorem zwX7_part : zBG[409]? = some (.code yX7_part cX7_part 3 (some .int)) := by first | rfl | decide +kernel
set_option maxRecDepth 100000 in
theorem zdX7_press : ∀ e ∈ zcX7_press, decode cX7_press e.1 = .ok (e.2.1, e.2.2) ∧ zgd e = true := by decide +kernel
set_option maxRecDepth 100000 in
theorem zwX7_press : zBG[370]? = some (.code yX7_press cX7_press 11 none) := by first | rfl | decide +kernel
set_option maxRecDepth 100000 in
theorem zdX7_add : ∀ e ∈ zcX7_add, decode cX7_add e.1 = .ok (e.2.1, e.2.2) ∧ zgd e = true := by decide +kernel
set_option maxRecDepth 100000 in
theorem zwX7_add : zBG[394]? = some (.code yX7_add cX7_add 5 none) := by first | rfl | decide +kernel
set_option maxRecDepth 100000 in
theorem zdX7_spread : ∀ e ∈ zcX7_spread, decode cX7_spread e.1 = .ok (e.2.1, e.2.2) ∧ zgd e = true := by decide +kernel
set_option maxRecDepth 100000 in
theorem zwX7_spread : zBG[443]? = some (.code yX7_spread cX7_spread 5 (some .int)) := by first | rfl | decide +kernel
set_option maxRecDepth 100000 in
theorem zdX7_turnIfBelow : ∀ e ∈ zcX7_turnIfBelow, decode cX7_turnIfBelow e.1 = .ok (e.2.1, e.2.2) ∧ zgd e = true := by decide +kernel
set_option maxRecDepth 100000 in
theorem zwX7_turnIfBelow : zBG[458]? = some (.code yX7_turnIfBelow cX7_turnIfBelow 2 none) := by first | rfl | decide +kernel
set_option maxRecDepth 100000 in
theorem zdX7_normal : ∀ e ∈ zcX7_normal, decode cX7_normal e.1 = .ok (e.2.1, e.2.2) ∧ zgd e = true := by decide +kernel
set_option maxRecDepth 100000 in
theorem zwX7_normal : zBG[487]? = some (.code yX7_normal cX7_normal 2 (some .long)) := by first | rfl | decide +kernel
set_option maxRecDepth 100000 in
theorem zdX7_cross : ∀ e ∈ zcX7_cross, decode cX7_cross e.1 = .ok (e.2.1, e.2.2) ∧ zgd e = true := by decide +kernel
set_option maxRecDepth 100000 in
theorem zwX7_cross : zBG[447]? = some (.code yX7_cross cX7_cross 15 (some .boolean)) := by first | rfl | decide +kernel
set_option maxRecDepth 100000 in
theorem zdX7_signs : ∀ e ∈ zcX7_signs, decode cX7_signs e.1 = .ok (e.2.1, e.2.2) ∧ zgd e = true := by decide +kernel
set_option maxRecDepth 100000 in
theorem zwX7_signs : zBG[454]? = some (.code yX7_signs cX7_signs 5 (some .int)) := by first | rfl | decide +kernel
set_option maxRecDepth 100000 in
theorem zdX8_init : ∀ e ∈ zcX8_init, decode cX8_init e.1 = .ok (e.2.1, e.2.2) ∧ zgd e = true := by decide +kernel
set_option maxRecDepth 100000 in
theorem zwX8_init : zBG[8]? = some (.code yX8_init cX8_init 1 none) := by first | rfl | decide +kernel
set_option maxRecDepth 100000 in
theorem zdX8_shape : ∀ e ∈ zcX8_shape, decode cX8_shape e.1 = .ok (e.2.1, e.2.2) ∧ zgd e = true := by decide +kernel
set_option maxRecDepth 100000 in
theorem zwX8_shape : zBG[154]? = some (.code yX8_shape cX8_shape 4 (some .int)) := by first | rfl | decide +kernel
set_option maxRecDepth 100000 in
theorem zdX8_isShape : ∀ e ∈ zcX8_isShape, decode cX8_isShape e.1 = .ok (e.2.1, e.2.2) ∧ zgd e = true := by decide +kernel
set_option maxRecDepth 100000 in
theorem zwX8_isShape : zBG[178]? = some (.code yX8_isShape cX8_isShape 6 (some .boolean)) := by first | rfl | decide +kernel
set_option maxRecDepth 100000 in
theorem zdX8_corner : ∀ e ∈ zcX8_corner, decode cX8_corner e.1 = .ok (e.2.1, e.2.2) ∧ zgd e = true := by decide +kernel
set_option maxRecDepth 100000 in
theorem zwX8_corner : zBG[226]? = some (.code yX8_corner cX8_corner 3 (some .int)) := by first | rfl | decide +kernel
set_option maxRecDepth 100000 in
theorem zdX8_middle : ∀ e ∈ zcX8_middle, decode cX8_middle e.1 = .ok (e.2.1, e.2.2) ∧ zgd e = true := by decide +kernel
set_option maxRecDepth 100000 in
theorem zwX8_middle : zBG[240]? = some (.code yX8_middle cX8_middle 2 (some .int)) := by first | rfl | decide +kernel
set_option maxRecDepth 100000 in
theorem zdX8_isIn : ∀ e ∈ zcX8_isIn, decode cX8_isIn e.1 = .ok (e.2.1, e.2.2) ∧ zgd e = true := by decide +kernel
set_option maxRecDepth 100000 in
theorem zwX8_isIn : zBG[278]? = some (.code yX8_isIn cX8_isIn 3 (some .int)) := by first | rfl | decide +kernel
set_option maxRecDepth 100000 in
theorem zdX8_finger : ∀ e ∈ zcX8_finger, decode cX8_finger e.1 = .ok (e.2.1, e.2.2) ∧ zgd e = true := by decide +kernel
set_option maxRecDepth 100000 in
theorem zwX8_finger : zBG[302]? = some (.code yX8_finger cX8_finger 3 (some .int)) := by first | rfl | decide +kernel
set_option maxRecDepth 100000 in
theorem zdX8_move : ∀ e ∈ zcX8_move, decode cX8_move e.1 = .ok (e.2.1, e.2.2) ∧ zgd e = true := by decide +kernel
set_option maxRecDepth 100000 in
theorem zwX8_move : zBG[331]? = some (.code yX8_move cX8_move 4 (some .int)) := by first | rfl | decide +kernel
set_option maxRecDepth 100000 in
theorem zdX8_release : ∀ e ∈ zcX8_release, decode cX8_release e.1 = .ok (e.2.1, e.2.2) ∧ zgd e = true := by decide +kernel
set_option maxRecDepth 100000 in
theorem zwX8_release : zBG[348]? = some (.code yX8_release cX8_release 2 (some .int)) := by first | rfl | decide +kernel
set_option maxRecDepth 100000 in
theorem zdX8_friction : ∀ e ∈ zcX8_friction, decode cX8_friction e.1 = .ok (e.2.1, e.2.2) ∧ zgd e = true := by decide +kernel
set_option maxRecDepth 100000 in
theorem zwX8_friction : zBG[356]? = some (.code yX8_friction cX8_friction 3 (some .int)) := by first | rfl | decide +kernel
set_option maxRecDepth 100000 in
theorem zdX8_push : ∀ e ∈ zcX8_push, decode cX8_push e.1 = .ok (e.2.1, e.2.2) ∧ zgd e = true := by decide +kernel
set_option maxRecDepth 100000 in
theorem zwX8_push : zBG[366]? = some (.code yX8_push cX8_push 3 (some .long)) := by first | rfl | decide +kernel
set_option maxRecDepth 100000 in
theorem zdX8_holds : ∀ e ∈ zcX8_holds, decode cX8_holds e.1 = .ok (e.2.1, e.2.2) ∧ zgd e = true := by decide +kernel
set_option maxRecDepth 100000 in
theorem zwX8_holds : zBG[435]? = some (.code yX8_holds cX8_holds 1 (some .int)) := by first | rfl | decide +kernel
set_option maxRecDepth 100000 in
theorem zdX8_witness : ∀ e ∈ zcX8_witness, decode cX8_witness e.1 = .ok (e.2.1, e.2.2) ∧ zgd e = true := by decide +kernel
set_option maxRecDepth 100000 in
theorem zwX8_witness : zBG[483]? = some (.code yX8_witness cX8_witness 2 (some .long)) := by first | rfl | decide +kernel
set_option maxRecDepth 100000 in
theorem zdX8_free : ∀ e ∈ zcX8_free, decode cX8_free e.1 = .ok (e.2.1, e.2.2) ∧ zgd e = true := by decide +kernel
set_option maxRecDepth 100000 in
theorem zwX8_free : zBG[495]? = some (.code yX8_free cX8_free 4 (some .int)) := by first | rfl | decide +kernel
set_option maxRecDepth 100000 in
theorem zdX8_slip : ∀ e ∈ zcX8_slip, decode cX8_slip e.1 = .ok (e.2.1, e.2.2) ∧ zgd e = true := by decide +kernel
set_option maxRecDepth 100000 in
theorem zwX8_slip : zBG[513]? = some (.code yX8_slip cX8_slip 2 (some .int)) := by first | rfl | decide +kernel
set_option maxRecDepth 100000 in
theorem zdX8_isHeldWithin : ∀ e ∈ zcX8_isHeldWithin, decode cX8_isHeldWithin e.1 = .ok (e.2.1, e.2.2) ∧ zgd e = true := by decide +kernel
set_option maxRecDepth 100000 in
theorem zwX8_isHeldWithin : zBG[517]? = some (.code yX8_isHeldWithin cX8_isHeldWithin 4 (some .boolean)) := by first | rfl | decide +kernel
set_option maxRecDepth 100000 in
theorem zdX8_slide : ∀ e ∈ zcX8_slide, decode cX8_slide e.1 = .ok (e.2.1, e.2.2) ∧ zgd e = true := by decide +kernel
set_option maxRecDepth 100000 in
theorem zwX8_slide : zBG[521]? = some (.code yX8_slide cX8_slide 7 (some .boolean)) := by first | rfl | decide +kernel
set_option maxRecDepth 100000 in
theorem zdX8_isHeldBy : ∀ e ∈ zcX8_isHeldBy, decode cX8_isHeldBy e.1 = .ok (e.2.1, e.2.2) ∧ zgd e = true := by decide +kernel
set_option maxRecDepth 100000 in
theorem zwX8_isHeldBy : zBG[439]? = some (.code yX8_isHeldBy cX8_isHeldBy 2 (some .boolean)) := by first | rfl | decide +kernel
set_option maxRecDepth 100000 in
theorem zdX8_spot : ∀ e ∈ zcX8_spot, decode cX8_spot e.1 = .ok (e.2.1, e.2.2) ∧ zgd e = true := by decide +kernel
set_option maxRecDepth 100000 in
theorem zwX8_spot : zBG[541]? = some (.code yX8_spot cX8_spot 4 (some .int)) := by first | rfl | decide +kernel
set_option maxRecDepth 100000 in
theorem zdX8_cheapest : ∀ e ∈ zcX8_cheapest, decode cX8_cheapest e.1 = .ok (e.2.1, e.2.2) ∧ zgd e = true := by decide +kernel
set_option maxRecDepth 100000 in
theorem zwX8_cheapest : zBG[557]? = some (.code yX8_cheapest cX8_cheapest 3 (some .int)) := by first | rfl | decide +kernel
set_option maxRecDepth 100000 in
theorem zdX8_take : ∀ e ∈ zcX8_take, decode cX8_take e.1 = .ok (e.2.1, e.2.2) ∧ zgd e = true := by decide +kernel
set_option maxRecDepth 100000 in
theorem zwX8_take : zBG[590]? = some (.code yX8_take cX8_take 2 (some .int)) := by first | rfl | decide +kernel
set_option maxRecDepth 100000 in
theorem zdX8_lifts : ∀ e ∈ zcX8_lifts, decode cX8_lifts e.1 = .ok (e.2.1, e.2.2) ∧ zgd e = true := by decide +kernel
set_option maxRecDepth 100000 in
theorem zwX8_lifts : zBG[601]? = some (.code yX8_lifts cX8_lifts 5 (some .int)) := by first | rfl | decide +kernel
set_option maxRecDepth 100000 in
theorem zdX8_seal : ∀ e ∈ zcX8_seal, decode cX8_seal e.1 = .ok (e.2.1, e.2.2) ∧ zgd e = true := by decide +kernel
set_option maxRecDepth 100000 in
theorem zwX8_seal : zBG[635]? = some (.code yX8_seal cX8_seal 4 (some .int)) := by first | rfl | decide +kernel
set_option maxRecDepth 100000 in
theorem zdX8_probe : ∀ e ∈ zcX8_probe, decode cX8_probe e.1 = .ok (e.2.1, e.2.2) ∧ zgd e = true := by decide +kernel
set_option maxRecDepth 100000 in
theorem zwX8_probe : zBG[650]? = some (.code yX8_probe cX8_probe 3 (some .int)) := by first | rfl | decide +kernel
set_option maxRecDepth 100000 in
theorem zdX8_poses : ∀ e ∈ zcX8_poses, decode cX8_poses e.1 = .ok (e.2.1, e.2.2) ∧ zgd e = true := by decide +kernel
set_option maxRecDepth 100000 in
theorem zwX8_poses : zBG[670]? = some (.code yX8_poses cX8_poses 4 (some .int)) := by first | rfl | decide +kernel
set_option maxRecDepth 100000 in
theorem zdX8_pose : ∀ e ∈ zcX8_pose, decode cX8_pose e.1 = .ok (e.2.1, e.2.2) ∧ zgd e = true := by decide +kernel
set_option maxRecDepth 100000 in
theorem zwX8_pose : zBG[700]? = some (.code yX8_pose cX8_pose 5 (some .int)) := by first | rfl | decide +kernel
set_option maxRecDepth 100000 in
theorem zdX8_fits : ∀ e ∈ zcX8_fits, decode cX8_fits e.1 = .ok (e.2.1, e.2.2) ∧ zgd e = true := by decide +kernel
set_option maxRecDepth 100000 in
theorem zwX8_fits : zBG[674]? = some (.code yX8_fits cX8_fits 7 (some .boolean)) := by first | rfl | decide +kernel
set_option maxRecDepth 100000 in
theorem zdX8_grip : ∀ e ∈ zcX8_grip, decode cX8_grip e.1 = .ok (e.2.1, e.2.2) ∧ zgd e = true := by decide +kernel
set_option maxRecDepth 100000 in
theorem zwX8_grip : zBG[708]? = some (.code yX8_grip cX8_grip 1 (some .int)) := by first | rfl | decide +kernel
set_option maxRecDepth 100000 in
theorem zdX8_link : ∀ e ∈ zcX8_link, decode cX8_link e.1 = .ok (e.2.1, e.2.2) ∧ zgd e = true := by decide +kernel
set_option maxRecDepth 100000 in
theorem zwX8_link : zBG[726]? = some (.code yX8_link cX8_link 4 (some .int)) := by first | rfl | decide +kernel
set_option maxRecDepth 100000 in
theorem zdX8_way : ∀ e ∈ zcX8_way, decode cX8_way e.1 = .ok (e.2.1, e.2.2) ∧ zgd e = true := by decide +kernel
set_option maxRecDepth 100000 in
theorem zwX8_way : zBG[746]? = some (.code yX8_way cX8_way 3 (some .int)) := by first | rfl | decide +kernel
set_option maxRecDepth 100000 in
theorem zdX8_drop : ∀ e ∈ zcX8_drop, decode cX8_drop e.1 = .ok (e.2.1, e.2.2) ∧ zgd e = true := by decide +kernel
set_option maxRecDepth 100000 in
theorem zwX8_drop : zBG[763]? = some (.code yX8_drop cX8_drop 1 (some .int)) := by first | rfl | decide +kernel
set_option maxRecDepth 100000 in
theorem zdX8_on : ∀ e ∈ zcX8_on, decode cX8_on e.1 = .ok (e.2.1, e.2.2) ∧ zgd e = true := by decide +kernel
set_option maxRecDepth 100000 in
theorem zwX8_on : zBG[783]? = some (.code yX8_on cX8_on 3 (some .int)) := by first | rfl | decide +kernel
set_option maxRecDepth 100000 in
theorem zdX8_pick : ∀ e ∈ zcX8_pick, decode cX8_pick e.1 = .ok (e.2.1, e.2.2) ∧ zgd e = true := by decide +kernel
set_option maxRecDepth 100000 in
theorem zwX8_pick : zBG[803]? = some (.code yX8_pick cX8_pick 2 (some .int)) := by first | rfl | decide +kernel
set_option maxRecDepth 100000 in
theorem zdX8_reach : ∀ e ∈ zcX8_reach, decode cX8_reach e.1 = .ok (e.2.1, e.2.2) ∧ zgd e = true := by decide +kernel
set_option maxRecDepth 100000 in
theorem zwX8_reach : zBG[823]? = some (.code yX8_reach cX8_reach 2 (some .int)) := by first | rfl | decide +kernel
set_option maxRecDepth 100000 in
theorem zdX8_stuck : ∀ e ∈ zcX8_stuck, decode cX8_stuck e.1 = .ok (e.2.1, e.2.2) ∧ zgd e = true := by decide +kernel
set_option maxRecDepth 100000 in
theorem zwX8_stuck : zBG[847]? = some (.code yX8_stuck cX8_stuck 1 (some .int)) := by first | rfl | decide +kernel
set_option maxRecDepth 100000 in
theorem zdX8_sheet : ∀ e ∈ zcX8_sheet, decode cX8_sheet e.1 = .ok (e.2.1, e.2.2) ∧ zgd e = true := by decide +kernel
set_option maxRecDepth 100000 in
theorem zwX8_sheet : zBG[855]? = some (.code yX8_sheet cX8_sheet 4 (some .int)) := by first | rfl | decide +kernel
set_option maxRecDepth 100000 in
theorem zdX8_lose : ∀ e ∈ zcX8_lose, decode cX8_lose e.1 = .ok (e.2.1, e.2.2) ∧ zgd e = true := by decide +kernel
set_option maxRecDepth 100000 in
theorem zwX8_lose : zBG[870]? = some (.code yX8_lose cX8_lose 3 (some .int)) := by first | rfl | decide +kernel
set_option maxRecDepth 100000 in
theorem zdX8_put : ∀ e ∈ zcX8_put, decode cX8_put e.1 = .ok (e.2.1, e.2.2) ∧ zgd e = true := by decide +kernel
set_option maxRecDepth 100000 in
theorem zwX8_put : zBG[879]? = some (.code yX8_put cX8_put 6 (some .int)) := by first | rfl | decide +kernel
set_option maxRecDepth 100000 in
theorem zdX8_get : ∀ e ∈ zcX8_get, decode cX8_get e.1 = .ok (e.2.1, e.2.2) ∧ zgd e = true := by decide +kernel
set_option maxRecDepth 100000 in
theorem zwX8_get : zBG[900]? = some (.code yX8_get cX8_get 5 (some .int)) := by first | rfl | decide +kernel
set_option maxRecDepth 100000 in
theorem zdX8_copy : ∀ e ∈ zcX8_copy, decode cX8_copy e.1 = .ok (e.2.1, e.2.2) ∧ zgd e = true := by decide +kernel
set_option maxRecDepth 100000 in
theorem zwX8_copy : zBG[910]? = some (.code yX8_copy cX8_copy 8 (some .int)) := by first | rfl | decide +kernel
set_option maxRecDepth 100000 in
theorem zdX8_count : ∀ e ∈ zcX8_count, decode cX8_count e.1 = .ok (e.2.1, e.2.2) ∧ zgd e = true := by decide +kernel
set_option maxRecDepth 100000 in
theorem zwX8_count : zBG[923]? = some (.code yX8_count cX8_count 2 (some .int)) := by first | rfl | decide +kernel
set_option maxRecDepth 100000 in
theorem zdX8_digest : ∀ e ∈ zcX8_digest, decode cX8_digest e.1 = .ok (e.2.1, e.2.2) ∧ zgd e = true := by decide +kernel
set_option maxRecDepth 100000 in
theorem zwX8_digest : zBG[940]? = some (.code yX8_digest cX8_digest 5 (some .long)) := by first | rfl | decide +kernel
set_option maxRecDepth 100000 in
theorem zdX8_refusal : ∀ e ∈ zcX8_refusal, decode cX8_refusal e.1 = .ok (e.2.1, e.2.2) ∧ zgd e = true := by decide +kernel
set_option maxRecDepth 100000 in
theorem zwX8_refusal : zBG[404]? = some (.code yX8_refusal cX8_refusal 1 (some .long)) := by first | rfl | decide +kernel
set_option maxRecDepth 100000 in
theorem zdX8_isWithin : ∀ e ∈ zcX8_isWithin, decode cX8_isWithin e.1 = .ok (e.2.1, e.2.2) ∧ zgd e = true := by decide +kernel
set_option maxRecDepth 100000 in
theorem zwX8_isWithin : zBG[185]? = some (.code yX8_isWithin cX8_isWithin 2 (some .boolean)) := by first | rfl | decide +kernel
set_option maxRecDepth 100000 in
theorem zdX8_isPlace : ∀ e ∈ zcX8_isPlace, decode cX8_isPlace e.1 = .ok (e.2.1, e.2.2) ∧ zgd e = true := by decide +kernel
set_option maxRecDepth 100000 in
theorem zwX8_isPlace : zBG[281]? = some (.code yX8_isPlace cX8_isPlace 2 (some .boolean)) := by first | rfl | decide +kernel
set_option maxRecDepth 100000 in
theorem zdX8_isWeight : ∀ e ∈ zcX8_isWeight, decode cX8_isWeight e.1 = .ok (e.2.1, e.2.2) ∧ zgd e = true := by decide +kernel
set_option maxRecDepth 100000 in
theorem zwX8_isWeight : zBG[605]? = some (.code yX8_isWeight cX8_isWeight 1 (some .boolean)) := by first | rfl | decide +kernel
set_option maxRecDepth 100000 in
theorem zdX8_isTriplePart : ∀ e ∈ zcX8_isTriplePart, decode cX8_isTriplePart e.1 = .ok (e.2.1, e.2.2) ∧ zgd e = true := by decide +kernel
set_option maxRecDepth 100000 in
theorem zwX8_isTriplePart : zBG[401]? = some (.code yX8_isTriplePart cX8_isTriplePart 1 (some .boolean)) := by first | rfl | decide +kernel
set_option maxRecDepth 100000 in
theorem zdX8_isSheet : ∀ e ∈ zcX8_isSheet, decode cX8_isSheet e.1 = .ok (e.2.1, e.2.2) ∧ zgd e = true := by decide +kernel
set_option maxRecDepth 100000 in
theorem zwX8_isSheet : zBG[157]? = some (.code yX8_isSheet cX8_isSheet 1 (some .boolean)) := by first | rfl | decide +kernel
set_option maxRecDepth 100000 in
theorem zdX8_isForm : ∀ e ∈ zcX8_isForm, decode cX8_isForm e.1 = .ok (e.2.1, e.2.2) ∧ zgd e = true := by decide +kernel
set_option maxRecDepth 100000 in
theorem zwX8_isForm : zBG[858]? = some (.code yX8_isForm cX8_isForm 1 (some .boolean)) := by first | rfl | decide +kernel
set_option maxRecDepth 100000 in
theorem zdX8_isStand : ∀ e ∈ zcX8_isStand, decode cX8_isStand e.1 = .ok (e.2.1, e.2.2) ∧ zgd e = true := by decide +kernel
set_option maxRecDepth 100000 in
theorem zwX8_isStand : zBG[306]? = some (.code yX8_isStand cX8_isStand 3 (some .boolean)) := by first | rfl | decide +kernel
set_option maxRecDepth 100000 in
theorem zdX8_isFinger : ∀ e ∈ zcX8_isFinger, decode cX8_isFinger e.1 = .ok (e.2.1, e.2.2) ∧ zgd e = true := by decide +kernel
set_option maxRecDepth 100000 in
theorem zwX8_isFinger : zBG[335]? = some (.code yX8_isFinger cX8_isFinger 2 (some .boolean)) := by first | rfl | decide +kernel
set_option maxRecDepth 100000 in
theorem zdX8_isGrip : ∀ e ∈ zcX8_isGrip, decode cX8_isGrip e.1 = .ok (e.2.1, e.2.2) ∧ zgd e = true := by decide +kernel
set_option maxRecDepth 100000 in
theorem zwX8_isGrip : zBG[730]? = some (.code yX8_isGrip cX8_isGrip 2 (some .boolean)) := by first | rfl | decide +kernel
set_option maxRecDepth 100000 in
theorem zdX8_isDropped : ∀ e ∈ zcX8_isDropped, decode cX8_isDropped e.1 = .ok (e.2.1, e.2.2) ∧ zgd e = true := by decide +kernel
set_option maxRecDepth 100000 in
theorem zwX8_isDropped : zBG[787]? = some (.code yX8_isDropped cX8_isDropped 2 (some .boolean)) := by first | rfl | decide +kernel
set_option maxRecDepth 100000 in
theorem zdX8_item : ∀ e ∈ zcX8_item, decode cX8_item e.1 = .ok (e.2.1, e.2.2) ∧ zgd e = true := by decide +kernel
set_option maxRecDepth 100000 in
theorem zwX8_item : zBG[76]? = some (.code yX8_item cX8_item 2 (some .int)) := by first | rfl | decide +kernel
set_option maxRecDepth 100000 in
theorem zdX8_setItem : ∀ e ∈ zcX8_setItem, decode cX8_setItem e.1 = .ok (e.2.1, e.2.2) ∧ zgd e = true := by decide +kernel
set_option maxRecDepth 100000 in
theorem zwX8_setItem : zBG[58]? = some (.code yX8_setItem cX8_setItem 3 none) := by first | rfl | decide +kernel
set_option maxRecDepth 100000 in
theorem zdX9_init : ∀ e ∈ zcX9_init, decode cX9_init e.1 = .ok (e.2.1, e.2.2) ∧ zgd e = true := by decide +kernel
set_option maxRecDepth 100000 in
theorem zwX9_init : zBG[125]? = some (.code yX9_init cX9_init 2 none) := by first | rfl | decide +kernel
set_option maxRecDepth 100000 in
theorem zdX9_in : ∀ e ∈ zcX9_in, decode cX9_in e.1 = .ok (e.2.1, e.2.2) ∧ zgd e = true := by decide +kernel
set_option maxRecDepth 100000 in
theorem zwX9_in : zBG[217]? = some (.code yX9_in cX9_in 6 (some .boolean)) := by first | rfl | decide +kernel
set_option maxRecDepth 100000 in
theorem zdX9_no : ∀ e ∈ zcX9_no, decode cX9_no e.1 = .ok (e.2.1, e.2.2) ∧ zgd e = true := by decide +kernel
set_option maxRecDepth 100000 in
theorem zwX9_no : zBG[430]? = some (.code yX9_no cX9_no 1 (some .long)) := by first | rfl | decide +kernel
set_option maxRecDepth 100000 in
theorem zdX9_next : ∀ e ∈ zcX9_next, decode cX9_next e.1 = .ok (e.2.1, e.2.2) ∧ zgd e = true := by decide +kernel
set_option maxRecDepth 100000 in
theorem zwX9_next : zBG[266]? = some (.code yX9_next cX9_next 2 (some .int)) := by first | rfl | decide +kernel
set_option maxRecDepth 100000 in
theorem zdX9_cross : ∀ e ∈ zcX9_cross, decode cX9_cross e.1 = .ok (e.2.1, e.2.2) ∧ zgd e = true := by decide +kernel
set_option maxRecDepth 100000 in
theorem zwX9_cross : zBG[262]? = some (.code yX9_cross cX9_cross 2 (some .int)) := by first | rfl | decide +kernel
set_option maxRecDepth 100000 in
theorem zdX9_area : ∀ e ∈ zcX9_area, decode cX9_area e.1 = .ok (e.2.1, e.2.2) ∧ zgd e = true := by decide +kernel
set_option maxRecDepth 100000 in
theorem zwX9_area : zBG[258]? = some (.code yX9_area cX9_area 3 (some .int)) := by first | rfl | decide +kernel
set_option maxRecDepth 100000 in
theorem zdX9_middleX : ∀ e ∈ zcX9_middleX, decode cX9_middleX e.1 = .ok (e.2.1, e.2.2) ∧ zgd e = true := by decide +kernel
set_option maxRecDepth 100000 in
theorem zwX9_middleX : zBG[270]? = some (.code yX9_middleX cX9_middleX 3 (some .int)) := by first | rfl | decide +kernel
set_option maxRecDepth 100000 in
theorem zdX9_middleY : ∀ e ∈ zcX9_middleY, decode cX9_middleY e.1 = .ok (e.2.1, e.2.2) ∧ zgd e = true := by decide +kernel
set_option maxRecDepth 100000 in
theorem zwX9_middleY : zBG[274]? = some (.code yX9_middleY cX9_middleY 3 (some .int)) := by first | rfl | decide +kernel
set_option maxRecDepth 100000 in
theorem zdX9_shape : ∀ e ∈ zcX9_shape, decode cX9_shape e.1 = .ok (e.2.1, e.2.2) ∧ zgd e = true := by decide +kernel
set_option maxRecDepth 100000 in
theorem zwX9_shape : zBG[205]? = some (.code yX9_shape cX9_shape 7 (some .int)) := by first | rfl | decide +kernel
set_option maxRecDepth 100000 in
theorem zdX9_corner : ∀ e ∈ zcX9_corner, decode cX9_corner e.1 = .ok (e.2.1, e.2.2) ∧ zgd e = true := by decide +kernel
set_option maxRecDepth 100000 in
theorem zwX9_corner : zBG[236]? = some (.code yX9_corner cX9_corner 3 (some .int)) := by first | rfl | decide +kernel
set_option maxRecDepth 100000 in
theorem zdX9_middle : ∀ e ∈ zcX9_middle, decode cX9_middle e.1 = .ok (e.2.1, e.2.2) ∧ zgd e = true := by decide +kernel
set_option maxRecDepth 100000 in
theorem zwX9_middle : zBG[253]? = some (.code yX9_middle cX9_middle 2 (some .int)) := by first | rfl | decide +kernel
set_option maxRecDepth 100000 in
theorem zdX9_place : ∀ e ∈ zcX9_place, decode cX9_place e.1 = .ok (e.2.1, e.2.2) ∧ zgd e = true := by decide +kernel
set_option maxRecDepth 100000 in
theorem zwX9_place : zBG[298]? = some (.code yX9_place cX9_place 11 (some .int)) := by first | rfl | decide +kernel
set_option maxRecDepth 100000 in
theorem zdX9_isPlace : ∀ e ∈ zcX9_isPlace, decode cX9_isPlace e.1 = .ok (e.2.1, e.2.2) ∧ zgd e = true := by decide +kernel
set_option maxRecDepth 100000 in
theorem zwX9_isPlace : zBG[292]? = some (.code yX9_isPlace cX9_isPlace 2 (some .boolean)) := by first | rfl | decide +kernel
set_option maxRecDepth 100000 in
theorem zdX9_isIn : ∀ e ∈ zcX9_isIn, decode cX9_isIn e.1 = .ok (e.2.1, e.2.2) ∧ zgd e = true := by decide +kernel
set_option maxRecDepth 100000 in
theorem zwX9_isIn : zBG[289]? = some (.code yX9_isIn cX9_isIn 3 (some .int)) := by first | rfl | decide +kernel
set_option maxRecDepth 100000 in
theorem zdX9_isStand : ∀ e ∈ zcX9_isStand, decode cX9_isStand e.1 = .ok (e.2.1, e.2.2) ∧ zgd e = true := by decide +kernel
set_option maxRecDepth 100000 in
theorem zwX9_isStand : zBG[326]? = some (.code yX9_isStand cX9_isStand 3 (some .boolean)) := by first | rfl | decide +kernel
set_option maxRecDepth 100000 in
theorem zdX9_isFinger : ∀ e ∈ zcX9_isFinger, decode cX9_isFinger e.1 = .ok (e.2.1, e.2.2) ∧ zgd e = true := by decide +kernel
set_option maxRecDepth 100000 in
theorem zwX9_isFinger : zBG[344]? = some (.code yX9_isFinger cX9_isFinger 2 (some .boolean)) := by first | rfl | decide +kernel
set_option maxRecDepth 100000 in
theorem zdX9_finger : ∀ e ∈ zcX9_finger, decode cX9_finger e.1 = .ok (e.2.1, e.2.2) ∧ zgd e = true := by decide +kernel
set_option maxRecDepth 100000 in
theorem zwX9_finger : zBG[322]? = some (.code yX9_finger cX9_finger 3 (some .int)) := by first | rfl | decide +kernel
set_option maxRecDepth 100000 in
theorem zdX9_move : ∀ e ∈ zcX9_move, decode cX9_move e.1 = .ok (e.2.1, e.2.2) ∧ zgd e = true := by decide +kernel
set_option maxRecDepth 100000 in
theorem zwX9_move : zBG[340]? = some (.code yX9_move cX9_move 4 (some .int)) := by first | rfl | decide +kernel
set_option maxRecDepth 100000 in
theorem zdX9_release : ∀ e ∈ zcX9_release, decode cX9_release e.1 = .ok (e.2.1, e.2.2) ∧ zgd e = true := by decide +kernel
set_option maxRecDepth 100000 in
theorem zwX9_release : zBG[352]? = some (.code yX9_release cX9_release 2 (some .int)) := by first | rfl | decide +kernel
set_option maxRecDepth 100000 in
theorem zdX9_friction : ∀ e ∈ zcX9_friction, decode cX9_friction e.1 = .ok (e.2.1, e.2.2) ∧ zgd e = true := by decide +kernel
set_option maxRecDepth 100000 in
theorem zwX9_friction : zBG[360]? = some (.code yX9_friction cX9_friction 3 (some .int)) := by first | rfl | decide +kernel
set_option maxRecDepth 100000 in
theorem zdX9_lay : ∀ e ∈ zcX9_lay, decode cX9_lay e.1 = .ok (e.2.1, e.2.2) ∧ zgd e = true := by decide +kernel
set_option maxRecDepth 100000 in
theorem zwX9_lay : zBG[427]? = some (.code yX9_lay cX9_lay 5 none) := by first | rfl | decide +kernel
set_option maxRecDepth 100000 in
theorem zdX9_lays : ∀ e ∈ zcX9_lays, decode cX9_lays e.1 = .ok (e.2.1, e.2.2) ∧ zgd e = true := by decide +kernel
set_option maxRecDepth 100000 in
theorem zwX9_lays : zBG[423]? = some (.code yX9_lays cX9_lays 7 none) := by first | rfl | decide +kernel
set_option maxRecDepth 100000 in
theorem zdX9_layAll : ∀ e ∈ zcX9_layAll, decode cX9_layAll e.1 = .ok (e.2.1, e.2.2) ∧ zgd e = true := by decide +kernel
set_option maxRecDepth 100000 in
theorem zwX9_layAll : zBG[419]? = some (.code yX9_layAll cX9_layAll 2 none) := by first | rfl | decide +kernel
set_option maxRecDepth 100000 in
theorem zdX9_crosses : ∀ e ∈ zcX9_crosses, decode cX9_crosses e.1 = .ok (e.2.1, e.2.2) ∧ zgd e = true := by decide +kernel
set_option maxRecDepth 100000 in
theorem zwX9_crosses : zBG[476]? = some (.code yX9_crosses cX9_crosses 6 (some .boolean)) := by first | rfl | decide +kernel
set_option maxRecDepth 100000 in
theorem zdX9_isFull : ∀ e ∈ zcX9_isFull, decode cX9_isFull e.1 = .ok (e.2.1, e.2.2) ∧ zgd e = true := by decide +kernel
set_option maxRecDepth 100000 in
theorem zwX9_isFull : zBG[472]? = some (.code yX9_isFull cX9_isFull 4 (some .boolean)) := by first | rfl | decide +kernel
set_option maxRecDepth 100000 in
theorem zdX9_hold : ∀ e ∈ zcX9_hold, decode cX9_hold e.1 = .ok (e.2.1, e.2.2) ∧ zgd e = true := by decide +kernel
set_option maxRecDepth 100000 in
theorem zwX9_hold : zBG[466]? = some (.code yX9_hold cX9_hold 3 (some .boolean)) := by first | rfl | decide +kernel
set_option maxRecDepth 100000 in
theorem zdX9_push : ∀ e ∈ zcX9_push, decode cX9_push e.1 = .ok (e.2.1, e.2.2) ∧ zgd e = true := by decide +kernel
set_option maxRecDepth 100000 in
theorem zwX9_push : zBG[413]? = some (.code yX9_push cX9_push 3 (some .long)) := by first | rfl | decide +kernel
set_option maxRecDepth 100000 in
theorem zdX9_holds : ∀ e ∈ zcX9_holds, decode cX9_holds e.1 = .ok (e.2.1, e.2.2) ∧ zgd e = true := by decide +kernel
set_option maxRecDepth 100000 in
theorem zwX9_holds : zBG[462]? = some (.code yX9_holds cX9_holds 1 (some .int)) := by first | rfl | decide +kernel
set_option maxRecDepth 100000 in
theorem zdX9_witness : ∀ e ∈ zcX9_witness, decode cX9_witness e.1 = .ok (e.2.1, e.2.2) ∧ zgd e = true := by decide +kernel
set_option maxRecDepth 100000 in
theorem zwX9_witness : zBG[491]? = some (.code yX9_witness cX9_witness 6 (some .long)) := by first | rfl | decide +kernel
set_option maxRecDepth 100000 in
theorem zdX9_free : ∀ e ∈ zcX9_free, decode cX9_free e.1 = .ok (e.2.1, e.2.2) ∧ zgd e = true := by decide +kernel
set_option maxRecDepth 100000 in
theorem zwX9_free : zBG[509]? = some (.code yX9_free cX9_free 5 (some .int)) := by first | rfl | decide +kernel
set_option maxRecDepth 100000 in
theorem zdX9_holdBy : ∀ e ∈ zcX9_holdBy, decode cX9_holdBy e.1 = .ok (e.2.1, e.2.2) ∧ zgd e = true := by decide +kernel
set_option maxRecDepth 100000 in
theorem zwX9_holdBy : zBG[537]? = some (.code yX9_holdBy cX9_holdBy 7 (some .boolean)) := by first | rfl | decide +kernel
set_option maxRecDepth 100000 in
theorem zdX9_slip : ∀ e ∈ zcX9_slip, decode cX9_slip e.1 = .ok (e.2.1, e.2.2) ∧ zgd e = true := by decide +kernel
set_option maxRecDepth 100000 in
theorem zwX9_slip : zBG[533]? = some (.code yX9_slip cX9_slip 3 (some .int)) := by first | rfl | decide +kernel
set_option maxRecDepth 100000 in
theorem zdX9_spot : ∀ e ∈ zcX9_spot, decode cX9_spot e.1 = .ok (e.2.1, e.2.2) ∧ zgd e = true := by decide +kernel
set_option maxRecDepth 100000 in
theorem zwX9_spot : zBG[553]? = some (.code yX9_spot cX9_spot 4 (some .int)) := by first | rfl | decide +kernel
set_option maxRecDepth 100000 in
theorem zdX9_priceOf : ∀ e ∈ zcX9_priceOf, decode cX9_priceOf e.1 = .ok (e.2.1, e.2.2) ∧ zgd e = true := by decide +kernel
set_option maxRecDepth 100000 in
theorem zwX9_priceOf : zBG[586]? = some (.code yX9_priceOf cX9_priceOf 4 (some .int)) := by first | rfl | decide +kernel
set_option maxRecDepth 100000 in
theorem zdX9_cheapest : ∀ e ∈ zcX9_cheapest, decode cX9_cheapest e.1 = .ok (e.2.1, e.2.2) ∧ zgd e = true := by decide +kernel
set_option maxRecDepth 100000 in
theorem zwX9_cheapest : zBG[582]? = some (.code yX9_cheapest cX9_cheapest 7 (some .int)) := by first | rfl | decide +kernel
set_option maxRecDepth 100000 in
theorem zdX9_take : ∀ e ∈ zcX9_take, decode cX9_take e.1 = .ok (e.2.1, e.2.2) ∧ zgd e = true := by decide +kernel
set_option maxRecDepth 100000 in
theorem zwX9_take : zBG[596]? = some (.code yX9_take cX9_take 3 (some .int)) := by first | rfl | decide +kernel
set_option maxRecDepth 100000 in
theorem zdX9_farSquare : ∀ e ∈ zcX9_farSquare, decode cX9_farSquare e.1 = .ok (e.2.1, e.2.2) ∧ zgd e = true := by decide +kernel
set_option maxRecDepth 100000 in
theorem zwX9_farSquare : zBG[631]? = some (.code yX9_farSquare cX9_farSquare 9 (some .long)) := by first | rfl | decide +kernel
set_option maxRecDepth 100000 in
theorem zdX9_lifted : ∀ e ∈ zcX9_lifted, decode cX9_lifted e.1 = .ok (e.2.1, e.2.2) ∧ zgd e = true := by decide +kernel
set_option maxRecDepth 100000 in
theorem zwX9_lifted : zBG[626]? = some (.code yX9_lifted cX9_lifted 8 (some .boolean)) := by first | rfl | decide +kernel
set_option maxRecDepth 100000 in
theorem zdX9_lifts : ∀ e ∈ zcX9_lifts, decode cX9_lifts e.1 = .ok (e.2.1, e.2.2) ∧ zgd e = true := by decide +kernel
set_option maxRecDepth 100000 in
theorem zwX9_lifts : zBG[620]? = some (.code yX9_lifts cX9_lifts 5 (some .int)) := by first | rfl | decide +kernel
set_option maxRecDepth 100000 in
theorem zdX9_seal : ∀ e ∈ zcX9_seal, decode cX9_seal e.1 = .ok (e.2.1, e.2.2) ∧ zgd e = true := by decide +kernel
set_option maxRecDepth 100000 in
theorem zwX9_seal : zBG[645]? = some (.code yX9_seal cX9_seal 12 (some .int)) := by first | rfl | decide +kernel
set_option maxRecDepth 100000 in
theorem zdX9_probe : ∀ e ∈ zcX9_probe, decode cX9_probe e.1 = .ok (e.2.1, e.2.2) ∧ zgd e = true := by decide +kernel
set_option maxRecDepth 100000 in
theorem zwX9_probe : zBG[663]? = some (.code yX9_probe cX9_probe 3 (some .int)) := by first | rfl | decide +kernel
set_option maxRecDepth 100000 in
theorem zdX9_fits : ∀ e ∈ zcX9_fits, decode cX9_fits e.1 = .ok (e.2.1, e.2.2) ∧ zgd e = true := by decide +kernel
set_option maxRecDepth 100000 in
theorem zwX9_fits : zBG[696]? = some (.code yX9_fits cX9_fits 7 (some .boolean)) := by first | rfl | decide +kernel
set_option maxRecDepth 100000 in
theorem zdX9_poses : ∀ e ∈ zcX9_poses, decode cX9_poses e.1 = .ok (e.2.1, e.2.2) ∧ zgd e = true := by decide +kernel
set_option maxRecDepth 100000 in
theorem zwX9_poses : zBG[692]? = some (.code yX9_poses cX9_poses 3 (some .int)) := by first | rfl | decide +kernel
set_option maxRecDepth 100000 in
theorem zdX9_pose : ∀ e ∈ zcX9_pose, decode cX9_pose e.1 = .ok (e.2.1, e.2.2) ∧ zgd e = true := by decide +kernel
set_option maxRecDepth 100000 in
theorem zwX9_pose : zBG[704]? = some (.code yX9_pose cX9_pose 4 (some .int)) := by first | rfl | decide +kernel
set_option maxRecDepth 100000 in
theorem zdX9_grip : ∀ e ∈ zcX9_grip, decode cX9_grip e.1 = .ok (e.2.1, e.2.2) ∧ zgd e = true := by decide +kernel
set_option maxRecDepth 100000 in
theorem zwX9_grip : zBG[721]? = some (.code yX9_grip cX9_grip 1 (some .int)) := by first | rfl | decide +kernel
set_option maxRecDepth 100000 in
theorem zdX9_isGrip : ∀ e ∈ zcX9_isGrip, decode cX9_isGrip e.1 = .ok (e.2.1, e.2.2) ∧ zgd e = true := by decide +kernel
set_option maxRecDepth 100000 in
theorem zwX9_isGrip : zBG[742]? = some (.code yX9_isGrip cX9_isGrip 2 (some .boolean)) := by first | rfl | decide +kernel
set_option maxRecDepth 100000 in
theorem zdX9_link : ∀ e ∈ zcX9_link, decode cX9_link e.1 = .ok (e.2.1, e.2.2) ∧ zgd e = true := by decide +kernel
set_option maxRecDepth 100000 in
theorem zwX9_link : zBG[738]? = some (.code yX9_link cX9_link 4 (some .int)) := by first | rfl | decide +kernel
set_option maxRecDepth 100000 in
theorem zdX9_way : ∀ e ∈ zcX9_way, decode cX9_way e.1 = .ok (e.2.1, e.2.2) ∧ zgd e = true := by decide +kernel
set_option maxRecDepth 100000 in
theorem zwX9_way : zBG[759]? = some (.code yX9_way cX9_way 6 (some .int)) := by first | rfl | decide +kernel
set_option maxRecDepth 100000 in
theorem zdX9_drop : ∀ e ∈ zcX9_drop, decode cX9_drop e.1 = .ok (e.2.1, e.2.2) ∧ zgd e = true := by decide +kernel
set_option maxRecDepth 100000 in
theorem zwX9_drop : zBG[777]? = some (.code yX9_drop cX9_drop 1 (some .int)) := by first | rfl | decide +kernel
set_option maxRecDepth 100000 in
theorem zdX9_isDropped : ∀ e ∈ zcX9_isDropped, decode cX9_isDropped e.1 = .ok (e.2.1, e.2.2) ∧ zgd e = true := by decide +kernel
set_option maxRecDepth 100000 in
theorem zwX9_isDropped : zBG[799]? = some (.code yX9_isDropped cX9_isDropped 2 (some .boolean)) := by first | rfl | decide +kernel
set_option maxRecDepth 100000 in
theorem zdX9_on : ∀ e ∈ zcX9_on, decode cX9_on e.1 = .ok (e.2.1, e.2.2) ∧ zgd e = true := by decide +kernel
set_option maxRecDepth 100000 in
theorem zwX9_on : zBG[795]? = some (.code yX9_on cX9_on 3 (some .int)) := by first | rfl | decide +kernel
set_option maxRecDepth 100000 in
theorem zdX9_pick : ∀ e ∈ zcX9_pick, decode cX9_pick e.1 = .ok (e.2.1, e.2.2) ∧ zgd e = true := by decide +kernel
set_option maxRecDepth 100000 in
theorem zwX9_pick : zBG[819]? = some (.code yX9_pick cX9_pick 2 (some .int)) := by first | rfl | decide +kernel
set_option maxRecDepth 100000 in
theorem zdX9_left : ∀ e ∈ zcX9_left, decode cX9_left e.1 = .ok (e.2.1, e.2.2) ∧ zgd e = true := by decide +kernel
set_option maxRecDepth 100000 in
theorem zwX9_left : zBG[840]? = some (.code yX9_left cX9_left 5 (some .int)) := by first | rfl | decide +kernel
set_option maxRecDepth 100000 in
theorem zdX9_reach : ∀ e ∈ zcX9_reach, decode cX9_reach e.1 = .ok (e.2.1, e.2.2) ∧ zgd e = true := by decide +kernel
set_option maxRecDepth 100000 in
theorem zwX9_reach : zBG[836]? = some (.code yX9_reach cX9_reach 5 (some .int)) := by first | rfl | decide +kernel
set_option maxRecDepth 100000 in
theorem zdX9_ones : ∀ e ∈ zcX9_ones, decode cX9_ones e.1 = .ok (e.2.1, e.2.2) ∧ zgd e = true := by decide +kernel
set_option maxRecDepth 100000 in
theorem zwX9_ones : zBG[843]? = some (.code yX9_ones cX9_ones 3 (some .int)) := by first | rfl | decide +kernel
set_option maxRecDepth 100000 in
theorem zdX9_stuck : ∀ e ∈ zcX9_stuck, decode cX9_stuck e.1 = .ok (e.2.1, e.2.2) ∧ zgd e = true := by decide +kernel
set_option maxRecDepth 100000 in
theorem zwX9_stuck : zBG[851]? = some (.code yX9_stuck cX9_stuck 1 (some .int)) := by first | rfl | decide +kernel
set_option maxRecDepth 100000 in
theorem zdX9_met : ∀ e ∈ zcX9_met, decode cX9_met e.1 = .ok (e.2.1, e.2.2) ∧ zgd e = true := by decide +kernel
set_option maxRecDepth 100000 in
theorem zwX9_met : zBG[221]? = some (.code yX9_met cX9_met 2 (some .int)) := by first | rfl | decide +kernel
set_option maxRecDepth 100000 in
theorem zdX9_isSheet : ∀ e ∈ zcX9_isSheet, decode cX9_isSheet e.1 = .ok (e.2.1, e.2.2) ∧ zgd e = true := by decide +kernel
set_option maxRecDepth 100000 in
theorem zwX9_isSheet : zBG[214]? = some (.code yX9_isSheet cX9_isSheet 1 (some .boolean)) := by first | rfl | decide +kernel
set_option maxRecDepth 100000 in
theorem zdX9_sheet : ∀ e ∈ zcX9_sheet, decode cX9_sheet e.1 = .ok (e.2.1, e.2.2) ∧ zgd e = true := by decide +kernel
set_option maxRecDepth 100000 in
theorem zwX9_sheet : zBG[866]? = some (.code yX9_sheet cX9_sheet 5 (some .int)) := by first | rfl | decide +kernel
set_option maxRecDepth 100000 in
theorem zdX9_lose : ∀ e ∈ zcX9_lose, decode cX9_lose e.1 = .ok (e.2.1, e.2.2) ∧ zgd e = true := by decide +kernel
set_option maxRecDepth 100000 in
theorem zwX9_lose : zBG[875]? = some (.code yX9_lose cX9_lose 2 (some .int)) := by first | rfl | decide +kernel
set_option maxRecDepth 100000 in
theorem zdX9_lacks : ∀ e ∈ zcX9_lacks, decode cX9_lacks e.1 = .ok (e.2.1, e.2.2) ∧ zgd e = true := by decide +kernel
set_option maxRecDepth 100000 in
theorem zwX9_lacks : zBG[896]? = some (.code yX9_lacks cX9_lacks 4 (some .int)) := by first | rfl | decide +kernel
set_option maxRecDepth 100000 in
theorem zdX9_put : ∀ e ∈ zcX9_put, decode cX9_put e.1 = .ok (e.2.1, e.2.2) ∧ zgd e = true := by decide +kernel
set_option maxRecDepth 100000 in
theorem zwX9_put : zBG[892]? = some (.code yX9_put cX9_put 6 (some .int)) := by first | rfl | decide +kernel
set_option maxRecDepth 100000 in
theorem zdX9_get : ∀ e ∈ zcX9_get, decode cX9_get e.1 = .ok (e.2.1, e.2.2) ∧ zgd e = true := by decide +kernel
set_option maxRecDepth 100000 in
theorem zwX9_get : zBG[905]? = some (.code yX9_get cX9_get 4 (some .int)) := by first | rfl | decide +kernel
set_option maxRecDepth 100000 in
theorem zdX9_copy : ∀ e ∈ zcX9_copy, decode cX9_copy e.1 = .ok (e.2.1, e.2.2) ∧ zgd e = true := by decide +kernel
set_option maxRecDepth 100000 in
theorem zwX9_copy : zBG[919]? = some (.code yX9_copy cX9_copy 7 (some .int)) := by first | rfl | decide +kernel
set_option maxRecDepth 100000 in
theorem zdX9_count : ∀ e ∈ zcX9_count, decode cX9_count e.1 = .ok (e.2.1, e.2.2) ∧ zgd e = true := by decide +kernel
set_option maxRecDepth 100000 in
theorem zwX9_count : zBG[936]? = some (.code yX9_count cX9_count 2 (some .int)) := by first | rfl | decide +kernel
set_option maxRecDepth 100000 in
theorem zdX9_digest : ∀ e ∈ zcX9_digest, decode cX9_digest e.1 = .ok (e.2.1, e.2.2) ∧ zgd e = true := by decide +kernel
set_option maxRecDepth 100000 in
theorem zwX9_digest : zBG[950]? = some (.code yX9_digest cX9_digest 4 (some .long)) := by first | rfl | decide +kernel
set_option maxRecDepth 100000 in
theorem zdJ6_bitCount_0f7a4 : ∀ e ∈ zcJ6_bitCount_0f7a4, decode cJ6_bitCount_0f7a4 e.1 = .ok (e.2.1, e.2.2) ∧ zgd e = true := by decide +kernel
set_option maxRecDepth 100000 in
theorem zwJ6_bitCount_0f7a4 : zBG[569]? = some (.code yJ6_bitCount_0f7a4 cJ6_bitCount_0f7a4 1 (some .int)) := by first | rfl | decide +kernel
set_option maxRecDepth 100000 in
theorem zdJ9_max_7cf53 : ∀ e ∈ zcJ9_max_7cf53, decode Lib.Math.max.code e.1 = .ok (e.2.1, e.2.2) ∧ zgd e = true := by decide +kernel
set_option maxRecDepth 100000 in
theorem zwJ9_max_7cf53 : zBG[525]? = some (.code Lib.Math.max.name Lib.Math.max.code 2 (some .int)) := by first | rfl | decide +kernel
set_option maxRecDepth 100000 in
theorem zdJ9_min_7cf53 : ∀ e ∈ zcJ9_min_7cf53, decode Lib.Math.min.code e.1 = .ok (e.2.1, e.2.2) ∧ zgd e = true := by decide +kernel
set_option maxRecDepth 100000 in
theorem zwJ9_min_7cf53 : zBG[528]? = some (.code Lib.Math.min.name Lib.Math.min.code 2 (some .int)) := by first | rfl | decide +kernel
set_option maxRecDepth 100000 in
theorem zdL_law_0 : ∀ e ∈ zcL_law_0, decode cL_law e.1 = .ok (e.2.1, e.2.2) ∧ zgd e = true := by decide +kernel
set_option maxRecDepth 100000 in
theorem zdL_law_1 : ∀ e ∈ zcL_law_1, decode cL_law e.1 = .ok (e.2.1, e.2.2) ∧ zgd e = true := by decide +kernel
set_option maxRecDepth 100000 in
theorem zdL_law_2 : ∀ e ∈ zcL_law_2, decode cL_law e.1 = .ok (e.2.1, e.2.2) ∧ zgd e = true := by decide +kernel
set_option maxRecDepth 100000 in
theorem zdL_law_3 : ∀ e ∈ zcL_law_3, decode cL_law e.1 = .ok (e.2.1, e.2.2) ∧ zgd e = true := by decide +kernel
set_option maxRecDepth 100000 in
theorem zdL_law_4 : ∀ e ∈ zcL_law_4, decode cL_law e.1 = .ok (e.2.1, e.2.2) ∧ zgd e = true := by decide +kernel
set_option maxRecDepth 100000 in
theorem zdL_law_5 : ∀ e ∈ zcL_law_5, decode cL_law e.1 = .ok (e.2.1, e.2.2) ∧ zgd e = true := by decide +kernel
set_option maxRecDepth 100000 in
theorem zdL_law_6 : ∀ e ∈ zcL_law_6, decode cL_law e.1 = .ok (e.2.1, e.2.2) ∧ zgd e = true := by decide +kernel
set_option maxRecDepth 100000 in
theorem zdL_law_7 : ∀ e ∈ zcL_law_7, decode cL_law e.1 = .ok (e.2.1, e.2.2) ∧ zgd e = true := by decide +kernel
set_option maxRecDepth 100000 in
theorem zdL_law_8 : ∀ e ∈ zcL_law_8, decode cL_law e.1 = .ok (e.2.1, e.2.2) ∧ zgd e = true := by decide +kernel
set_option maxRecDepth 100000 in
theorem zdL_law_9 : ∀ e ∈ zcL_law_9, decode cL_law e.1 = .ok (e.2.1, e.2.2) ∧ zgd e = true := by decide +kernel
set_option maxRecDepth 100000 in
theorem zdL_law_10 : ∀ e ∈ zcL_law_10, decode cL_law e.1 = .ok (e.2.1, e.2.2) ∧ zgd e = true := by decide +kernel
set_option maxRecDepth 100000 in
theorem zdL_law_11 : ∀ e ∈ zcL_law_11, decode cL_law e.1 = .ok (e.2.1, e.2.2) ∧ zgd e = true := by decide +kernel
set_option maxRecDepth 100000 in
theorem zdL_law_12 : ∀ e ∈ zcL_law_12, decode cL_law e.1 = .ok (e.2.1, e.2.2) ∧ zgd e = true := by decide +kernel
set_option maxRecDepth 100000 in
theorem zdL_law_13 : ∀ e ∈ zcL_law_13, decode cL_law e.1 = .ok (e.2.1, e.2.2) ∧ zgd e = true := by decide +kernel
set_option maxRecDepth 100000 in
theorem zdL_law_14 : ∀ e ∈ zcL_law_14, decode cL_law e.1 = .ok (e.2.1, e.2.2) ∧ zgd e = true := by decide +kernel
set_option maxRecDepth 100000 in
theorem zdL_law_15 : ∀ e ∈ zcL_law_15, decode cL_law e.1 = .ok (e.2.1, e.2.2) ∧ zgd e = true := by decide +kernel
set_option maxRecDepth 100000 in
theorem zdL_law_16 : ∀ e ∈ zcL_law_16, decode cL_law e.1 = .ok (e.2.1, e.2.2) ∧ zgd e = true := by decide +kernel
theorem zdL_law : ∀ e ∈ zcL_law, decode cL_law e.1 = .ok (e.2.1, e.2.2) ∧ zgd e = true := (List.forall_mem_append.mpr ⟨zdL_law_0, (List.forall_mem_append.mpr ⟨zdL_law_1, (List.forall_mem_append.mpr ⟨zdL_law_2, (List.forall_mem_append.mpr ⟨zdL_law_3, (List.forall_mem_append.mpr ⟨zdL_law_4, (List.forall_mem_append.mpr ⟨zdL_law_5, (List.forall_mem_append.mpr ⟨zdL_law_6, (List.forall_mem_append.mpr ⟨zdL_law_7, (List.forall_mem_append.mpr ⟨zdL_law_8, (List.forall_mem_append.mpr ⟨zdL_law_9, (List.forall_mem_append.mpr ⟨zdL_law_10, (List.forall_mem_append.mpr ⟨zdL_law_11, (List.forall_mem_append.mpr ⟨zdL_law_12, (List.forall_mem_append.mpr ⟨zdL_law_13, (List.forall_mem_append.mpr ⟨zdL_law_14, (List.forall_mem_append.mpr ⟨zdL_law_15, zdL_law_16⟩)⟩)⟩)⟩)⟩)⟩)⟩)⟩)⟩)⟩)⟩)⟩)⟩)⟩)⟩)⟩)
end
section
theorem zk_d0 : ∀ m ∈ ([0, 1, 2, 3, 4, 5, 6, 7, 8, 9, 10, 11, 12, 13, 14, 15, 16, 17, 18, 19] : List Nat), (∀ e ∈ zC.getD m [], decode (zB m) e.1 = .ok (e.2.1, e.2.2) ∧ zgd e = true) := (List.forall_mem_cons.mpr ⟨zdX0_init, (List.forall_mem_cons.mpr ⟨zdX0_dropped, (List.forall_mem_cons.mpr ⟨zdX0_size, (List.forall_mem_cons.mpr ⟨zdX0_add, (List.forall_mem_cons.mpr ⟨zdX0_lay, (List.forall_mem_cons.mpr ⟨zdX0_isInside, (List.forall_mem_cons.mpr ⟨zdX0_isCovered, (List.forall_mem_cons.mpr ⟨zdX0_remove, (List.forall_mem_cons.mpr ⟨zdX0_stuckBits, (List.forall_mem_cons.mpr ⟨zdX0_withAllAbove, (List.forall_mem_cons.mpr ⟨zdX1_init, (List.forall_mem_cons.mpr ⟨zdX1_size, (List.forall_mem_cons.mpr ⟨zdX1_add, (List.forall_mem_cons.mpr ⟨zdX1_join, (List.forall_mem_cons.mpr ⟨zdX1_leastCost, (List.forall_mem_cons.mpr ⟨zdX1_goOneMoveFarther, (List.forall_mem_cons.mpr ⟨zdX2_init, (List.forall_mem_cons.mpr ⟨zdX2_size, (List.forall_mem_cons.mpr ⟨zdX2_edge, (List.forall_mem_cons.mpr ⟨zdX2_eighth, (fun _ h => absurd h List.not_mem_nil)⟩)⟩)⟩)⟩)⟩)⟩)⟩)⟩)⟩)⟩)⟩)⟩)⟩)⟩)⟩)⟩)⟩)⟩)⟩)⟩)
theorem zk_w0 : ∀ m ∈ ([0, 1, 2, 3, 4, 5, 6, 7, 8, 9, 10, 11, 12, 13, 14, 15, 16, 17, 18, 19] : List Nat), (.code (zY m) (zB m) (zML m) (zRT m) ∈ zBG) := (List.forall_mem_cons.mpr ⟨List.mem_of_getElem? zwX0_init, (List.forall_mem_cons.mpr ⟨List.mem_of_getElem? zwX0_dropped, (List.forall_mem_cons.mpr ⟨List.mem_of_getElem? zwX0_size, (List.forall_mem_cons.mpr ⟨List.mem_of_getElem? zwX0_add, (List.forall_mem_cons.mpr ⟨List.mem_of_getElem? zwX0_lay, (List.forall_mem_cons.mpr ⟨List.mem_of_getElem? zwX0_isInside, (List.forall_mem_cons.mpr ⟨List.mem_of_getElem? zwX0_isCovered, (List.forall_mem_cons.mpr ⟨List.mem_of_getElem? zwX0_remove, (List.forall_mem_cons.mpr ⟨List.mem_of_getElem? zwX0_stuckBits, (List.forall_mem_cons.mpr ⟨List.mem_of_getElem? zwX0_withAllAbove, (List.forall_mem_cons.mpr ⟨List.mem_of_getElem? zwX1_init, (List.forall_mem_cons.mpr ⟨List.mem_of_getElem? zwX1_size, (List.forall_mem_cons.mpr ⟨List.mem_of_getElem? zwX1_add, (List.forall_mem_cons.mpr ⟨List.mem_of_getElem? zwX1_join, (List.forall_mem_cons.mpr ⟨List.mem_of_getElem? zwX1_leastCost, (List.forall_mem_cons.mpr ⟨List.mem_of_getElem? zwX1_goOneMoveFarther, (List.forall_mem_cons.mpr ⟨List.mem_of_getElem? zwX2_init, (List.forall_mem_cons.mpr ⟨List.mem_of_getElem? zwX2_size, (List.forall_mem_cons.mpr ⟨List.mem_of_getElem? zwX2_edge, (List.forall_mem_cons.mpr ⟨List.mem_of_getElem? zwX2_eighth, (fun _ h => absurd h List.not_mem_nil)⟩)⟩)⟩)⟩)⟩)⟩)⟩)⟩)⟩)⟩)⟩)⟩)⟩)⟩)⟩)⟩)⟩)⟩)⟩)⟩)
theorem zk_d1 : ∀ m ∈ ([20, 21, 22, 23, 24, 25, 26, 27, 28, 29, 30, 31, 32, 33, 34, 35, 36, 37, 38, 39] : List Nat), (∀ e ∈ zC.getD m [], decode (zB m) e.1 = .ok (e.2.1, e.2.2) ∧ zgd e = true) := (List.forall_mem_cons.mpr ⟨zdX2_clear, (List.forall_mem_cons.mpr ⟨zdX2_add, (List.forall_mem_cons.mpr ⟨zdX2_stand, (List.forall_mem_cons.mpr ⟨zdX2_become, (List.forall_mem_cons.mpr ⟨zdX3_init, (List.forall_mem_cons.mpr ⟨zdX3_setCorner, (List.forall_mem_cons.mpr ⟨zdX3_close, (List.forall_mem_cons.mpr ⟨zdX3_corners, (List.forall_mem_cons.mpr ⟨zdX3_area, (List.forall_mem_cons.mpr ⟨zdX3_momentX, (List.forall_mem_cons.mpr ⟨zdX3_momentY, (List.forall_mem_cons.mpr ⟨zdX3_x, (List.forall_mem_cons.mpr ⟨zdX3_y, (List.forall_mem_cons.mpr ⟨zdX3_next, (List.forall_mem_cons.mpr ⟨zdX3_dx, (List.forall_mem_cons.mpr ⟨zdX3_dy, (List.forall_mem_cons.mpr ⟨zdX3_side, (List.forall_mem_cons.mpr ⟨zdX3_pull, (List.forall_mem_cons.mpr ⟨zdX3_isSealed, (List.forall_mem_cons.mpr ⟨zdX3_leastSeal, (fun _ h => absurd h List.not_mem_nil)⟩)⟩)⟩)⟩)⟩)⟩)⟩)⟩)⟩)⟩)⟩)⟩)⟩)⟩)⟩)⟩)⟩)⟩)⟩)⟩)
theorem zk_w1 : ∀ m ∈ ([20, 21, 22, 23, 24, 25, 26, 27, 28, 29, 30, 31, 32, 33, 34, 35, 36, 37, 38, 39] : List Nat), (.code (zY m) (zB m) (zML m) (zRT m) ∈ zBG) := (List.forall_mem_cons.mpr ⟨List.mem_of_getElem? zwX2_clear, (List.forall_mem_cons.mpr ⟨List.mem_of_getElem? zwX2_add, (List.forall_mem_cons.mpr ⟨List.mem_of_getElem? zwX2_stand, (List.forall_mem_cons.mpr ⟨List.mem_of_getElem? zwX2_become, (List.forall_mem_cons.mpr ⟨List.mem_of_getElem? zwX3_init, (List.forall_mem_cons.mpr ⟨List.mem_of_getElem? zwX3_setCorner, (List.forall_mem_cons.mpr ⟨List.mem_of_getElem? zwX3_close, (List.forall_mem_cons.mpr ⟨List.mem_of_getElem? zwX3_corners, (List.forall_mem_cons.mpr ⟨List.mem_of_getElem? zwX3_area, (List.forall_mem_cons.mpr ⟨List.mem_of_getElem? zwX3_momentX, (List.forall_mem_cons.mpr ⟨List.mem_of_getElem? zwX3_momentY, (List.forall_mem_cons.mpr ⟨List.mem_of_getElem? zwX3_x, (List.forall_mem_cons.mpr ⟨List.mem_of_getElem? zwX3_y, (List.forall_mem_cons.mpr ⟨List.mem_of_getElem? zwX3_next, (List.forall_mem_cons.mpr ⟨List.mem_of_getElem? zwX3_dx, (List.forall_mem_cons.mpr ⟨List.mem_of_getElem? zwX3_dy, (List.forall_mem_cons.mpr ⟨List.mem_of_getElem? zwX3_side, (List.forall_mem_cons.mpr ⟨List.mem_of_getElem? zwX3_pull, (List.forall_mem_cons.mpr ⟨List.mem_of_getElem? zwX3_isSealed, (List.forall_mem_cons.mpr ⟨List.mem_of_getElem? zwX3_leastSeal, (fun _ h => absurd h List.not_mem_nil)⟩)⟩)⟩)⟩)⟩)⟩)⟩)⟩)⟩)⟩)⟩)⟩)⟩)⟩)⟩)⟩)⟩)⟩)⟩)⟩)
theorem zk_d2 : ∀ m ∈ ([40, 41, 42, 43, 44, 45, 46, 47, 48, 49, 50, 51, 52, 53, 54, 55, 56, 57, 58, 59] : List Nat), (∀ e ∈ zC.getD m [], decode (zB m) e.1 = .ok (e.2.1, e.2.2) ∧ zgd e = true) := (List.forall_mem_cons.mpr ⟨zdX4_init, (List.forall_mem_cons.mpr ⟨zdX4_size, (List.forall_mem_cons.mpr ⟨zdX4_x, (List.forall_mem_cons.mpr ⟨zdX4_y, (List.forall_mem_cons.mpr ⟨zdX4_add, (List.forall_mem_cons.mpr ⟨zdX5_init, (List.forall_mem_cons.mpr ⟨zdX5_latestFinding, (List.forall_mem_cons.mpr ⟨zdX5_find, (List.forall_mem_cons.mpr ⟨zdX5_form, (List.forall_mem_cons.mpr ⟨zdX5_length, (List.forall_mem_cons.mpr ⟨zdX5_isLost, (List.forall_mem_cons.mpr ⟨zdX5_forget, (List.forall_mem_cons.mpr ⟨zdX5_renew, (List.forall_mem_cons.mpr ⟨zdX5_value, (List.forall_mem_cons.mpr ⟨zdX5_hasValue, (List.forall_mem_cons.mpr ⟨zdX5_write, (List.forall_mem_cons.mpr ⟨zdX5_faultAt, (List.forall_mem_cons.mpr ⟨zdX5_hasRun, (List.forall_mem_cons.mpr ⟨zdX6_init, (List.forall_mem_cons.mpr ⟨zdX6_size, (fun _ h => absurd h List.not_mem_nil)⟩)⟩)⟩)⟩)⟩)⟩)⟩)⟩)⟩)⟩)⟩)⟩)⟩)⟩)⟩)⟩)⟩)⟩)⟩)⟩)
theorem zk_w2 : ∀ m ∈ ([40, 41, 42, 43, 44, 45, 46, 47, 48, 49, 50, 51, 52, 53, 54, 55, 56, 57, 58, 59] : List Nat), (.code (zY m) (zB m) (zML m) (zRT m) ∈ zBG) := (List.forall_mem_cons.mpr ⟨List.mem_of_getElem? zwX4_init, (List.forall_mem_cons.mpr ⟨List.mem_of_getElem? zwX4_size, (List.forall_mem_cons.mpr ⟨List.mem_of_getElem? zwX4_x, (List.forall_mem_cons.mpr ⟨List.mem_of_getElem? zwX4_y, (List.forall_mem_cons.mpr ⟨List.mem_of_getElem? zwX4_add, (List.forall_mem_cons.mpr ⟨List.mem_of_getElem? zwX5_init, (List.forall_mem_cons.mpr ⟨List.mem_of_getElem? zwX5_latestFinding, (List.forall_mem_cons.mpr ⟨List.mem_of_getElem? zwX5_find, (List.forall_mem_cons.mpr ⟨List.mem_of_getElem? zwX5_form, (List.forall_mem_cons.mpr ⟨List.mem_of_getElem? zwX5_length, (List.forall_mem_cons.mpr ⟨List.mem_of_getElem? zwX5_isLost, (List.forall_mem_cons.mpr ⟨List.mem_of_getElem? zwX5_forget, (List.forall_mem_cons.mpr ⟨List.mem_of_getElem? zwX5_renew, (List.forall_mem_cons.mpr ⟨List.mem_of_getElem? zwX5_value, (List.forall_mem_cons.mpr ⟨List.mem_of_getElem? zwX5_hasValue, (List.forall_mem_cons.mpr ⟨List.mem_of_getElem? zwX5_write, (List.forall_mem_cons.mpr ⟨List.mem_of_getElem? zwX5_faultAt, (List.forall_mem_cons.mpr ⟨List.mem_of_getElem? zwX5_hasRun, (List.forall_mem_cons.mpr ⟨List.mem_of_getElem? zwX6_init, (List.forall_mem_cons.mpr ⟨List.mem_of_getElem? zwX6_size, (fun _ h => absurd h List.not_mem_nil)⟩)⟩)⟩)⟩)⟩)⟩)⟩)⟩)⟩)⟩)⟩)⟩)⟩)⟩)⟩)⟩)⟩)⟩)⟩)⟩)
theorem zk_d3 : ∀ m ∈ ([60, 61, 62, 63, 64, 65, 66, 67, 68, 69, 70, 71, 72, 73, 74, 75, 76, 77, 78, 79] : List Nat), (∀ e ∈ zC.getD m [], decode (zB m) e.1 = .ok (e.2.1, e.2.2) ∧ zgd e = true) := (List.forall_mem_cons.mpr ⟨zdX6_clear, (List.forall_mem_cons.mpr ⟨zdX6_add, (List.forall_mem_cons.mpr ⟨zdX6_price, (List.forall_mem_cons.mpr ⟨zdX6_isBetter, (List.forall_mem_cons.mpr ⟨zdX6_layOut, (List.forall_mem_cons.mpr ⟨zdX7_init, (List.forall_mem_cons.mpr ⟨zdX7_size, (List.forall_mem_cons.mpr ⟨zdX7_part, (List.forall_mem_cons.mpr ⟨zdX7_press, (List.forall_mem_cons.mpr ⟨zdX7_add, (List.forall_mem_cons.mpr ⟨zdX7_spread, (List.forall_mem_cons.mpr ⟨zdX7_turnIfBelow, (List.forall_mem_cons.mpr ⟨zdX7_normal, (List.forall_mem_cons.mpr ⟨zdX7_cross, (List.forall_mem_cons.mpr ⟨zdX7_signs, (List.forall_mem_cons.mpr ⟨zdX8_init, (List.forall_mem_cons.mpr ⟨zdX8_shape, (List.forall_mem_cons.mpr ⟨zdX8_isShape, (List.forall_mem_cons.mpr ⟨zdX8_corner, (List.forall_mem_cons.mpr ⟨zdX8_middle, (fun _ h => absurd h List.not_mem_nil)⟩)⟩)⟩)⟩)⟩)⟩)⟩)⟩)⟩)⟩)⟩)⟩)⟩)⟩)⟩)⟩)⟩)⟩)⟩)⟩)
theorem zk_w3 : ∀ m ∈ ([60, 61, 62, 63, 64, 65, 66, 67, 68, 69, 70, 71, 72, 73, 74, 75, 76, 77, 78, 79] : List Nat), (.code (zY m) (zB m) (zML m) (zRT m) ∈ zBG) := (List.forall_mem_cons.mpr ⟨List.mem_of_getElem? zwX6_clear, (List.forall_mem_cons.mpr ⟨List.mem_of_getElem? zwX6_add, (List.forall_mem_cons.mpr ⟨List.mem_of_getElem? zwX6_price, (List.forall_mem_cons.mpr ⟨List.mem_of_getElem? zwX6_isBetter, (List.forall_mem_cons.mpr ⟨List.mem_of_getElem? zwX6_layOut, (List.forall_mem_cons.mpr ⟨List.mem_of_getElem? zwX7_init, (List.forall_mem_cons.mpr ⟨List.mem_of_getElem? zwX7_size, (List.forall_mem_cons.mpr ⟨List.mem_of_getElem? zwX7_part, (List.forall_mem_cons.mpr ⟨List.mem_of_getElem? zwX7_press, (List.forall_mem_cons.mpr ⟨List.mem_of_getElem? zwX7_add, (List.forall_mem_cons.mpr ⟨List.mem_of_getElem? zwX7_spread, (List.forall_mem_cons.mpr ⟨List.mem_of_getElem? zwX7_turnIfBelow, (List.forall_mem_cons.mpr ⟨List.mem_of_getElem? zwX7_normal, (List.forall_mem_cons.mpr ⟨List.mem_of_getElem? zwX7_cross, (List.forall_mem_cons.mpr ⟨List.mem_of_getElem? zwX7_signs, (List.forall_mem_cons.mpr ⟨List.mem_of_getElem? zwX8_init, (List.forall_mem_cons.mpr ⟨List.mem_of_getElem? zwX8_shape, (List.forall_mem_cons.mpr ⟨List.mem_of_getElem? zwX8_isShape, (List.forall_mem_cons.mpr ⟨List.mem_of_getElem? zwX8_corner, (List.forall_mem_cons.mpr ⟨List.mem_of_getElem? zwX8_middle, (fun _ h => absurd h List.not_mem_nil)⟩)⟩)⟩)⟩)⟩)⟩)⟩)⟩)⟩)⟩)⟩)⟩)⟩)⟩)⟩)⟩)⟩)⟩)⟩)⟩)
theorem zk_d4 : ∀ m ∈ ([80, 81, 82, 83, 84, 85, 86, 87, 88, 89, 90, 91, 92, 93, 94, 95, 96, 97, 98, 99] : List Nat), (∀ e ∈ zC.getD m [], decode (zB m) e.1 = .ok (e.2.1, e.2.2) ∧ zgd e = true) := (List.forall_mem_cons.mpr ⟨zdX8_isIn, (List.forall_mem_cons.mpr ⟨zdX8_finger, (List.forall_mem_cons.mpr ⟨zdX8_move, (List.forall_mem_cons.mpr ⟨zdX8_release, (List.forall_mem_cons.mpr ⟨zdX8_friction, (List.forall_mem_cons.mpr ⟨zdX8_push, (List.forall_mem_cons.mpr ⟨zdX8_holds, (List.forall_mem_cons.mpr ⟨zdX8_witness, (List.forall_mem_cons.mpr ⟨zdX8_free, (List.forall_mem_cons.mpr ⟨zdX8_slip, (List.forall_mem_cons.mpr ⟨zdX8_isHeldWithin, (List.forall_mem_cons.mpr ⟨zdX8_slide, (List.forall_mem_cons.mpr ⟨zdX8_isHeldBy, (List.forall_mem_cons.mpr ⟨zdX8_spot, (List.forall_mem_cons.mpr ⟨zdX8_cheapest, (List.forall_mem_cons.mpr ⟨zdX8_take, (List.forall_mem_cons.mpr ⟨zdX8_lifts, (List.forall_mem_cons.mpr ⟨zdX8_seal, (List.forall_mem_cons.mpr ⟨zdX8_probe, (List.forall_mem_cons.mpr ⟨zdX8_poses, (fun _ h => absurd h List.not_mem_nil)⟩)⟩)⟩)⟩)⟩)⟩)⟩)⟩)⟩)⟩)⟩)⟩)⟩)⟩)⟩)⟩)⟩)⟩)⟩)⟩)
theorem zk_w4 : ∀ m ∈ ([80, 81, 82, 83, 84, 85, 86, 87, 88, 89, 90, 91, 92, 93, 94, 95, 96, 97, 98, 99] : List Nat), (.code (zY m) (zB m) (zML m) (zRT m) ∈ zBG) := (List.forall_mem_cons.mpr ⟨List.mem_of_getElem? zwX8_isIn, (List.forall_mem_cons.mpr ⟨List.mem_of_getElem? zwX8_finger, (List.forall_mem_cons.mpr ⟨List.mem_of_getElem? zwX8_move, (List.forall_mem_cons.mpr ⟨List.mem_of_getElem? zwX8_release, (List.forall_mem_cons.mpr ⟨List.mem_of_getElem? zwX8_friction, (List.forall_mem_cons.mpr ⟨List.mem_of_getElem? zwX8_push, (List.forall_mem_cons.mpr ⟨List.mem_of_getElem? zwX8_holds, (List.forall_mem_cons.mpr ⟨List.mem_of_getElem? zwX8_witness, (List.forall_mem_cons.mpr ⟨List.mem_of_getElem? zwX8_free, (List.forall_mem_cons.mpr ⟨List.mem_of_getElem? zwX8_slip, (List.forall_mem_cons.mpr ⟨List.mem_of_getElem? zwX8_isHeldWithin, (List.forall_mem_cons.mpr ⟨List.mem_of_getElem? zwX8_slide, (List.forall_mem_cons.mpr ⟨List.mem_of_getElem? zwX8_isHeldBy, (List.forall_mem_cons.mpr ⟨List.mem_of_getElem? zwX8_spot, (List.forall_mem_cons.mpr ⟨List.mem_of_getElem? zwX8_cheapest, (List.forall_mem_cons.mpr ⟨List.mem_of_getElem? zwX8_take, (List.forall_mem_cons.mpr ⟨List.mem_of_getElem? zwX8_lifts, (List.forall_mem_cons.mpr ⟨List.mem_of_getElem? zwX8_seal, (List.forall_mem_cons.mpr ⟨List.mem_of_getElem? zwX8_probe, (List.forall_mem_cons.mpr ⟨List.mem_of_getElem? zwX8_poses, (fun _ h => absurd h List.not_mem_nil)⟩)⟩)⟩)⟩)⟩)⟩)⟩)⟩)⟩)⟩)⟩)⟩)⟩)⟩)⟩)⟩)⟩)⟩)⟩)⟩)
theorem zk_d5 : ∀ m ∈ ([100, 101, 102, 103, 104, 105, 106, 107, 108, 109, 110, 111, 112, 113, 114, 115, 116, 117, 118, 119] : List Nat), (∀ e ∈ zC.getD m [], decode (zB m) e.1 = .ok (e.2.1, e.2.2) ∧ zgd e = true) := (List.forall_mem_cons.mpr ⟨zdX8_pose, (List.forall_mem_cons.mpr ⟨zdX8_fits, (List.forall_mem_cons.mpr ⟨zdX8_grip, (List.forall_mem_cons.mpr ⟨zdX8_link, (List.forall_mem_cons.mpr ⟨zdX8_way, (List.forall_mem_cons.mpr ⟨zdX8_drop, (List.forall_mem_cons.mpr ⟨zdX8_on, (List.forall_mem_cons.mpr ⟨zdX8_pick, (List.forall_mem_cons.mpr ⟨zdX8_reach, (List.forall_mem_cons.mpr ⟨zdX8_stuck, (List.forall_mem_cons.mpr ⟨zdX8_sheet, (List.forall_mem_cons.mpr ⟨zdX8_lose, (List.forall_mem_cons.mpr ⟨zdX8_put, (List.forall_mem_cons.mpr ⟨zdX8_get, (List.forall_mem_cons.mpr ⟨zdX8_copy, (List.forall_mem_cons.mpr ⟨zdX8_count, (List.forall_mem_cons.mpr ⟨zdX8_digest, (List.forall_mem_cons.mpr ⟨zdX8_refusal, (List.forall_mem_cons.mpr ⟨zdX8_isWithin, (List.forall_mem_cons.mpr ⟨zdX8_isPlace, (fun _ h => absurd h List.not_mem_nil)⟩)⟩)⟩)⟩)⟩)⟩)⟩)⟩)⟩)⟩)⟩)⟩)⟩)⟩)⟩)⟩)⟩)⟩)⟩)⟩)
theorem zk_w5 : ∀ m ∈ ([100, 101, 102, 103, 104, 105, 106, 107, 108, 109, 110, 111, 112, 113, 114, 115, 116, 117, 118, 119] : List Nat), (.code (zY m) (zB m) (zML m) (zRT m) ∈ zBG) := (List.forall_mem_cons.mpr ⟨List.mem_of_getElem? zwX8_pose, (List.forall_mem_cons.mpr ⟨List.mem_of_getElem? zwX8_fits, (List.forall_mem_cons.mpr ⟨List.mem_of_getElem? zwX8_grip, (List.forall_mem_cons.mpr ⟨List.mem_of_getElem? zwX8_link, (List.forall_mem_cons.mpr ⟨List.mem_of_getElem? zwX8_way, (List.forall_mem_cons.mpr ⟨List.mem_of_getElem? zwX8_drop, (List.forall_mem_cons.mpr ⟨List.mem_of_getElem? zwX8_on, (List.forall_mem_cons.mpr ⟨List.mem_of_getElem? zwX8_pick, (List.forall_mem_cons.mpr ⟨List.mem_of_getElem? zwX8_reach, (List.forall_mem_cons.mpr ⟨List.mem_of_getElem? zwX8_stuck, (List.forall_mem_cons.mpr ⟨List.mem_of_getElem? zwX8_sheet, (List.forall_mem_cons.mpr ⟨List.mem_of_getElem? zwX8_lose, (List.forall_mem_cons.mpr ⟨List.mem_of_getElem? zwX8_put, (List.forall_mem_cons.mpr ⟨List.mem_of_getElem? zwX8_get, (List.forall_mem_cons.mpr ⟨List.mem_of_getElem? zwX8_copy, (List.forall_mem_cons.mpr ⟨List.mem_of_getElem? zwX8_count, (List.forall_mem_cons.mpr ⟨List.mem_of_getElem? zwX8_digest, (List.forall_mem_cons.mpr ⟨List.mem_of_getElem? zwX8_refusal, (List.forall_mem_cons.mpr ⟨List.mem_of_getElem? zwX8_isWithin, (List.forall_mem_cons.mpr ⟨List.mem_of_getElem? zwX8_isPlace, (fun _ h => absurd h List.not_mem_nil)⟩)⟩)⟩)⟩)⟩)⟩)⟩)⟩)⟩)⟩)⟩)⟩)⟩)⟩)⟩)⟩)⟩)⟩)⟩)⟩)
theorem zk_d6 : ∀ m ∈ ([120, 121, 122, 123, 124, 125, 126, 127, 128, 129, 130, 131, 132, 133, 134, 135, 136, 137, 138, 139] : List Nat), (∀ e ∈ zC.getD m [], decode (zB m) e.1 = .ok (e.2.1, e.2.2) ∧ zgd e = true) := (List.forall_mem_cons.mpr ⟨zdX8_isWeight, (List.forall_mem_cons.mpr ⟨zdX8_isTriplePart, (List.forall_mem_cons.mpr ⟨zdX8_isSheet, (List.forall_mem_cons.mpr ⟨zdX8_isForm, (List.forall_mem_cons.mpr ⟨zdX8_isStand, (List.forall_mem_cons.mpr ⟨zdX8_isFinger, (List.forall_mem_cons.mpr ⟨zdX8_isGrip, (List.forall_mem_cons.mpr ⟨zdX8_isDropped, (List.forall_mem_cons.mpr ⟨zdX8_item, (List.forall_mem_cons.mpr ⟨zdX8_setItem, (List.forall_mem_cons.mpr ⟨zdX9_init, (List.forall_mem_cons.mpr ⟨zdX9_in, (List.forall_mem_cons.mpr ⟨zdX9_no, (List.forall_mem_cons.mpr ⟨zdX9_next, (List.forall_mem_cons.mpr ⟨zdX9_cross, (List.forall_mem_cons.mpr ⟨zdX9_area, (List.forall_mem_cons.mpr ⟨zdX9_middleX, (List.forall_mem_cons.mpr ⟨zdX9_middleY, (List.forall_mem_cons.mpr ⟨zdX9_shape, (List.forall_mem_cons.mpr ⟨zdX9_corner, (fun _ h => absurd h List.not_mem_nil)⟩)⟩)⟩)⟩)⟩)⟩)⟩)⟩)⟩)⟩)⟩)⟩)⟩)⟩)⟩)⟩)⟩)⟩)⟩)⟩)
theorem zk_w6 : ∀ m ∈ ([120, 121, 122, 123, 124, 125, 126, 127, 128, 129, 130, 131, 132, 133, 134, 135, 136, 137, 138, 139] : List Nat), (.code (zY m) (zB m) (zML m) (zRT m) ∈ zBG) := (List.forall_mem_cons.mpr ⟨List.mem_of_getElem? zwX8_isWeight, (List.forall_mem_cons.mpr ⟨List.mem_of_getElem? zwX8_isTriplePart, (List.forall_mem_cons.mpr ⟨List.mem_of_getElem? zwX8_isSheet, (List.forall_mem_cons.mpr ⟨List.mem_of_getElem? zwX8_isForm, (List.forall_mem_cons.mpr ⟨List.mem_of_getElem? zwX8_isStand, (List.forall_mem_cons.mpr ⟨List.mem_of_getElem? zwX8_isFinger, (List.forall_mem_cons.mpr ⟨List.mem_of_getElem? zwX8_isGrip, (List.forall_mem_cons.mpr ⟨List.mem_of_getElem? zwX8_isDropped, (List.forall_mem_cons.mpr ⟨List.mem_of_getElem? zwX8_item, (List.forall_mem_cons.mpr ⟨List.mem_of_getElem? zwX8_setItem, (List.forall_mem_cons.mpr ⟨List.mem_of_getElem? zwX9_init, (List.forall_mem_cons.mpr ⟨List.mem_of_getElem? zwX9_in, (List.forall_mem_cons.mpr ⟨List.mem_of_getElem? zwX9_no, (List.forall_mem_cons.mpr ⟨List.mem_of_getElem? zwX9_next, (List.forall_mem_cons.mpr ⟨List.mem_of_getElem? zwX9_cross, (List.forall_mem_cons.mpr ⟨List.mem_of_getElem? zwX9_area, (List.forall_mem_cons.mpr ⟨List.mem_of_getElem? zwX9_middleX, (List.forall_mem_cons.mpr ⟨List.mem_of_getElem? zwX9_middleY, (List.forall_mem_cons.mpr ⟨List.mem_of_getElem? zwX9_shape, (List.forall_mem_cons.mpr ⟨List.mem_of_getElem? zwX9_corner, (fun _ h => absurd h List.not_mem_nil)⟩)⟩)⟩)⟩)⟩)⟩)⟩)⟩)⟩)⟩)⟩)⟩)⟩)⟩)⟩)⟩)⟩)⟩)⟩)⟩)
theorem zk_d7 : ∀ m ∈ ([140, 141, 142, 143, 144, 145, 146, 147, 148, 149, 150, 151, 152, 153, 154, 155, 156, 157, 158, 159] : List Nat), (∀ e ∈ zC.getD m [], decode (zB m) e.1 = .ok (e.2.1, e.2.2) ∧ zgd e = true) := (List.forall_mem_cons.mpr ⟨zdX9_middle, (List.forall_mem_cons.mpr ⟨zdX9_place, (List.forall_mem_cons.mpr ⟨zdX9_isPlace, (List.forall_mem_cons.mpr ⟨zdX9_isIn, (List.forall_mem_cons.mpr ⟨zdX9_isStand, (List.forall_mem_cons.mpr ⟨zdX9_isFinger, (List.forall_mem_cons.mpr ⟨zdX9_finger, (List.forall_mem_cons.mpr ⟨zdX9_move, (List.forall_mem_cons.mpr ⟨zdX9_release, (List.forall_mem_cons.mpr ⟨zdX9_friction, (List.forall_mem_cons.mpr ⟨zdX9_lay, (List.forall_mem_cons.mpr ⟨zdX9_lays, (List.forall_mem_cons.mpr ⟨zdX9_layAll, (List.forall_mem_cons.mpr ⟨zdX9_crosses, (List.forall_mem_cons.mpr ⟨zdX9_isFull, (List.forall_mem_cons.mpr ⟨zdX9_hold, (List.forall_mem_cons.mpr ⟨zdX9_push, (List.forall_mem_cons.mpr ⟨zdX9_holds, (List.forall_mem_cons.mpr ⟨zdX9_witness, (List.forall_mem_cons.mpr ⟨zdX9_free, (fun _ h => absurd h List.not_mem_nil)⟩)⟩)⟩)⟩)⟩)⟩)⟩)⟩)⟩)⟩)⟩)⟩)⟩)⟩)⟩)⟩)⟩)⟩)⟩)⟩)
theorem zk_w7 : ∀ m ∈ ([140, 141, 142, 143, 144, 145, 146, 147, 148, 149, 150, 151, 152, 153, 154, 155, 156, 157, 158, 159] : List Nat), (.code (zY m) (zB m) (zML m) (zRT m) ∈ zBG) := (List.forall_mem_cons.mpr ⟨List.mem_of_getElem? zwX9_middle, (List.forall_mem_cons.mpr ⟨List.mem_of_getElem? zwX9_place, (List.forall_mem_cons.mpr ⟨List.mem_of_getElem? zwX9_isPlace, (List.forall_mem_cons.mpr ⟨List.mem_of_getElem? zwX9_isIn, (List.forall_mem_cons.mpr ⟨List.mem_of_getElem? zwX9_isStand, (List.forall_mem_cons.mpr ⟨List.mem_of_getElem? zwX9_isFinger, (List.forall_mem_cons.mpr ⟨List.mem_of_getElem? zwX9_finger, (List.forall_mem_cons.mpr ⟨List.mem_of_getElem? zwX9_move, (List.forall_mem_cons.mpr ⟨List.mem_of_getElem? zwX9_release, (List.forall_mem_cons.mpr ⟨List.mem_of_getElem? zwX9_friction, (List.forall_mem_cons.mpr ⟨List.mem_of_getElem? zwX9_lay, (List.forall_mem_cons.mpr ⟨List.mem_of_getElem? zwX9_lays, (List.forall_mem_cons.mpr ⟨List.mem_of_getElem? zwX9_layAll, (List.forall_mem_cons.mpr ⟨List.mem_of_getElem? zwX9_crosses, (List.forall_mem_cons.mpr ⟨List.mem_of_getElem? zwX9_isFull, (List.forall_mem_cons.mpr ⟨List.mem_of_getElem? zwX9_hold, (List.forall_mem_cons.mpr ⟨List.mem_of_getElem? zwX9_push, (List.forall_mem_cons.mpr ⟨List.mem_of_getElem? zwX9_holds, (List.forall_mem_cons.mpr ⟨List.mem_of_getElem? zwX9_witness, (List.forall_mem_cons.mpr ⟨List.mem_of_getElem? zwX9_free, (fun _ h => absurd h List.not_mem_nil)⟩)⟩)⟩)⟩)⟩)⟩)⟩)⟩)⟩)⟩)⟩)⟩)⟩)⟩)⟩)⟩)⟩)⟩)⟩)⟩)
theorem zk_d8 : ∀ m ∈ ([160, 161, 162, 163, 164, 165, 166, 167, 168, 169, 170, 171, 172, 173, 174, 175, 176, 177, 178, 179] : List Nat), (∀ e ∈ zC.getD m [], decode (zB m) e.1 = .ok (e.2.1, e.2.2) ∧ zgd e = true) := (List.forall_mem_cons.mpr ⟨zdX9_holdBy, (List.forall_mem_cons.mpr ⟨zdX9_slip, (List.forall_mem_cons.mpr ⟨zdX9_spot, (List.forall_mem_cons.mpr ⟨zdX9_priceOf, (List.forall_mem_cons.mpr ⟨zdX9_cheapest, (List.forall_mem_cons.mpr ⟨zdX9_take, (List.forall_mem_cons.mpr ⟨zdX9_farSquare, (List.forall_mem_cons.mpr ⟨zdX9_lifted, (List.forall_mem_cons.mpr ⟨zdX9_lifts, (List.forall_mem_cons.mpr ⟨zdX9_seal, (List.forall_mem_cons.mpr ⟨zdX9_probe, (List.forall_mem_cons.mpr ⟨zdX9_fits, (List.forall_mem_cons.mpr ⟨zdX9_poses, (List.forall_mem_cons.mpr ⟨zdX9_pose, (List.forall_mem_cons.mpr ⟨zdX9_grip, (List.forall_mem_cons.mpr ⟨zdX9_isGrip, (List.forall_mem_cons.mpr ⟨zdX9_link, (List.forall_mem_cons.mpr ⟨zdX9_way, (List.forall_mem_cons.mpr ⟨zdX9_drop, (List.forall_mem_cons.mpr ⟨zdX9_isDropped, (fun _ h => absurd h List.not_mem_nil)⟩)⟩)⟩)⟩)⟩)⟩)⟩)⟩)⟩)⟩)⟩)⟩)⟩)⟩)⟩)⟩)⟩)⟩)⟩)⟩)
theorem zk_w8 : ∀ m ∈ ([160, 161, 162, 163, 164, 165, 166, 167, 168, 169, 170, 171, 172, 173, 174, 175, 176, 177, 178, 179] : List Nat), (.code (zY m) (zB m) (zML m) (zRT m) ∈ zBG) := (List.forall_mem_cons.mpr ⟨List.mem_of_getElem? zwX9_holdBy, (List.forall_mem_cons.mpr ⟨List.mem_of_getElem? zwX9_slip, (List.forall_mem_cons.mpr ⟨List.mem_of_getElem? zwX9_spot, (List.forall_mem_cons.mpr ⟨List.mem_of_getElem? zwX9_priceOf, (List.forall_mem_cons.mpr ⟨List.mem_of_getElem? zwX9_cheapest, (List.forall_mem_cons.mpr ⟨List.mem_of_getElem? zwX9_take, (List.forall_mem_cons.mpr ⟨List.mem_of_getElem? zwX9_farSquare, (List.forall_mem_cons.mpr ⟨List.mem_of_getElem? zwX9_lifted, (List.forall_mem_cons.mpr ⟨List.mem_of_getElem? zwX9_lifts, (List.forall_mem_cons.mpr ⟨List.mem_of_getElem? zwX9_seal, (List.forall_mem_cons.mpr ⟨List.mem_of_getElem? zwX9_probe, (List.forall_mem_cons.mpr ⟨List.mem_of_getElem? zwX9_fits, (List.forall_mem_cons.mpr ⟨List.mem_of_getElem? zwX9_poses, (List.forall_mem_cons.mpr ⟨List.mem_of_getElem? zwX9_pose, (List.forall_mem_cons.mpr ⟨List.mem_of_getElem? zwX9_grip, (List.forall_mem_cons.mpr ⟨List.mem_of_getElem? zwX9_isGrip, (List.forall_mem_cons.mpr ⟨List.mem_of_getElem? zwX9_link, (List.forall_mem_cons.mpr ⟨List.mem_of_getElem? zwX9_way, (List.forall_mem_cons.mpr ⟨List.mem_of_getElem? zwX9_drop, (List.forall_mem_cons.mpr ⟨List.mem_of_getElem? zwX9_isDropped, (fun _ h => absurd h List.not_mem_nil)⟩)⟩)⟩)⟩)⟩)⟩)⟩)⟩)⟩)⟩)⟩)⟩)⟩)⟩)⟩)⟩)⟩)⟩)⟩)⟩)
theorem zk_d9 : ∀ m ∈ ([180, 181, 182, 183, 184, 185, 186, 187, 188, 189, 190, 191, 192, 193, 194, 195, 196, 197, 198, 199] : List Nat), (∀ e ∈ zC.getD m [], decode (zB m) e.1 = .ok (e.2.1, e.2.2) ∧ zgd e = true) := (List.forall_mem_cons.mpr ⟨zdX9_on, (List.forall_mem_cons.mpr ⟨zdX9_pick, (List.forall_mem_cons.mpr ⟨zdX9_left, (List.forall_mem_cons.mpr ⟨zdX9_reach, (List.forall_mem_cons.mpr ⟨zdX9_ones, (List.forall_mem_cons.mpr ⟨zdX9_stuck, (List.forall_mem_cons.mpr ⟨zdX9_met, (List.forall_mem_cons.mpr ⟨zdX9_isSheet, (List.forall_mem_cons.mpr ⟨zdX9_sheet, (List.forall_mem_cons.mpr ⟨zdX9_lose, (List.forall_mem_cons.mpr ⟨zdX9_lacks, (List.forall_mem_cons.mpr ⟨zdX9_put, (List.forall_mem_cons.mpr ⟨zdX9_get, (List.forall_mem_cons.mpr ⟨zdX9_copy, (List.forall_mem_cons.mpr ⟨zdX9_count, (List.forall_mem_cons.mpr ⟨zdX9_digest, (List.forall_mem_cons.mpr ⟨zdJ6_bitCount_0f7a4, (List.forall_mem_cons.mpr ⟨zdJ9_max_7cf53, (List.forall_mem_cons.mpr ⟨zdJ9_min_7cf53, (List.forall_mem_cons.mpr ⟨zdL_law, (fun _ h => absurd h List.not_mem_nil)⟩)⟩)⟩)⟩)⟩)⟩)⟩)⟩)⟩)⟩)⟩)⟩)⟩)⟩)⟩)⟩)⟩)⟩)⟩)⟩)
theorem zk_w9 : ∀ m ∈ ([180, 181, 182, 183, 184, 185, 186, 187, 188, 189, 190, 191, 192, 193, 194, 195, 196, 197, 198] : List Nat), (.code (zY m) (zB m) (zML m) (zRT m) ∈ zBG) := (List.forall_mem_cons.mpr ⟨List.mem_of_getElem? zwX9_on, (List.forall_mem_cons.mpr ⟨List.mem_of_getElem? zwX9_pick, (List.forall_mem_cons.mpr ⟨List.mem_of_getElem? zwX9_left, (List.forall_mem_cons.mpr ⟨List.mem_of_getElem? zwX9_reach, (List.forall_mem_cons.mpr ⟨List.mem_of_getElem? zwX9_ones, (List.forall_mem_cons.mpr ⟨List.mem_of_getElem? zwX9_stuck, (List.forall_mem_cons.mpr ⟨List.mem_of_getElem? zwX9_met, (List.forall_mem_cons.mpr ⟨List.mem_of_getElem? zwX9_isSheet, (List.forall_mem_cons.mpr ⟨List.mem_of_getElem? zwX9_sheet, (List.forall_mem_cons.mpr ⟨List.mem_of_getElem? zwX9_lose, (List.forall_mem_cons.mpr ⟨List.mem_of_getElem? zwX9_lacks, (List.forall_mem_cons.mpr ⟨List.mem_of_getElem? zwX9_put, (List.forall_mem_cons.mpr ⟨List.mem_of_getElem? zwX9_get, (List.forall_mem_cons.mpr ⟨List.mem_of_getElem? zwX9_copy, (List.forall_mem_cons.mpr ⟨List.mem_of_getElem? zwX9_count, (List.forall_mem_cons.mpr ⟨List.mem_of_getElem? zwX9_digest, (List.forall_mem_cons.mpr ⟨List.mem_of_getElem? zwJ6_bitCount_0f7a4, (List.forall_mem_cons.mpr ⟨List.mem_of_getElem? zwJ9_max_7cf53, (List.forall_mem_cons.mpr ⟨List.mem_of_getElem? zwJ9_min_7cf53, (fun _ h => absurd h List.not_mem_nil)⟩)⟩)⟩)⟩)⟩)⟩)⟩)⟩)⟩)⟩)⟩)⟩)⟩)⟩)⟩)⟩)⟩)⟩)⟩)
end
section
/-! the small machine: one store of numbered cells; ints, longs, references, how many cells there are -/
abbrev zSt : Type := (Nat → Nat → Int32) × (Nat → Nat → Int64) × (Nat → Nat → Value) × Nat
abbrev zLo : Type := List (Nat × Value)
def zuI (σ : zSt) (a j : Nat) (v : Int32) : zSt := (fun b => if b = a then upd (σ.1 b) j v else σ.1 b, σ.2)
def zuJ (σ : zSt) (a j : Nat) (v : Int64) : zSt := (σ.1, fun b => if b = a then vp_updL (σ.2.1 b) j v else σ.2.1 b, σ.2.2)
def zuR (σ : zSt) (a j : Nat) (v : Value) : zSt := (σ.1, σ.2.1, fun b => if b = a then va_up (σ.2.2.1 b) j v else σ.2.2.1 b, σ.2.2.2)
def zuN (σ : zSt) : zSt := (fun b => if b = σ.2.2.2 then fun _ => 0 else σ.1 b, fun b => if b = σ.2.2.2 then fun _ => 0 else σ.2.1 b, fun b => if b = σ.2.2.2 then fun _ => .null else σ.2.2.1 b, σ.2.2.2 + 1)
-- stack and locals
def zst1 (L : zLo) (i : Nat) (v : Value) : zLo := (i, v) :: L.filter (fun q => !(q.1 == i) && !(q.1 + 1 == i && q.2.category == 2))
def zst2 (L : zLo) (i : Nat) (v : Value) : zLo := (i, v) :: L.filter (fun q => !(q.1 == i) && (!(q.1 == i + 1) && !(q.1 + 1 == i && q.2.category == 2)))
def zlI (o : Option Value) (G : Int32 → Prop) : Prop := match o with
  | some (.int x) => G x
  | _ => False
def zlJ (o : Option Value) (G : Int64 → Prop) : Prop := match o with
  | some (.long x) => G x
  | _ => False
def zlR (o : Option Value) (G : Nat → Prop) : Prop := match o with
  | some (.ref x) => G x
  | _ => False
def zsI (S : List Value) (G : Int32 → List Value → Prop) : Prop := match S with
  | .int x :: r => G x r
  | _ => False
def zsJ (S : List Value) (G : Int64 → List Value → Prop) : Prop := match S with
  | .long x :: r => G x r
  | _ => False
def zsR (S : List Value) (G : Nat → List Value → Prop) : Prop := match S with
  | .ref x :: r => G x r
  | _ => False
def zsII (S : List Value) (G : Int32 → Int32 → List Value → Prop) : Prop := match S with
  | .int y :: .int x :: r => G x y r
  | _ => False
def zsJJ (S : List Value) (G : Int64 → Int64 → List Value → Prop) : Prop := match S with
  | .long y :: .long x :: r => G x y r
  | _ => False
def zsA (S : List Value) (G : Nat → Int32 → List Value → Prop) : Prop := match S with
  | .int i :: .ref a :: r => G a i r
  | _ => False
def zsAI (S : List Value) (G : Nat → Int32 → Int32 → List Value → Prop) : Prop := match S with
  | .int x :: .int i :: .ref a :: r => G a i x r
  | _ => False
def zsAJ (S : List Value) (G : Nat → Int32 → Int64 → List Value → Prop) : Prop := match S with
  | .long x :: .int i :: .ref a :: r => G a i x r
  | _ => False
def zs1 (S : List Value) (G : Value → List Value → Prop) : Prop := match S with
  | v :: r => G v r
  | _ => False
def zs2 (S : List Value) (G : Value → Value → List Value → Prop) : Prop := match S with
  | v :: w :: r => G v w r
  | _ => False
def zsP (S : List Value) (G : Value → Nat → List Value → Prop) : Prop := match S with
  | v :: .ref a :: r => G v a r
  | _ => False
def zc0 (c : Jvm.ClassFile.Cond) (x : Int32) : Prop := match c with
  | .eq => x = 0 | .ne => ¬ x = 0 | .lt => x < 0 | .ge => 0 ≤ x | .gt => 0 < x | .le => x ≤ 0
def zc2 (c : Jvm.ClassFile.Cond) (x y : Int32) : Prop := match c with
  | .eq => x = y | .ne => ¬ x = y | .lt => x < y | .ge => y ≤ x | .gt => y < x | .le => x ≤ y
def ztg (pc : Nat) (off : Int) : Nat := ((pc : Int) + off).toNat
def zgF (σ : zSt) (a k : Nat) (ty : FieldType) (G : Value → Prop) : Prop := match ty with
  | .int => G (.int (σ.1 a k))
  | .boolean => G (.int (σ.1 a k))
  | .long => G (.long (σ.2.1 a k))
  | _ => ∃ b, σ.2.2.1 a k = .ref b ∧ G (.ref b)
def zpF (σ : zSt) (a k : Nat) (ty : FieldType) (v : Value) (G : zSt → Prop) : Prop := match ty, v with
  | .int, .int x => G (zuI σ a k x)
  | .boolean, .int x => (x = 0 ∨ x = 1) ∧ G (zuI σ a k x)
  | .long, .long x => G (zuJ σ a k x)
  | .array _, .ref b => G (zuR σ a k (.ref b))
  | .object _, .ref b => G (zuR σ a k (.ref b))
  | _, _ => False
def zcs (S : List Value) : Nat := (S.map fun v => v.category).sum
/-- who the call goes to, and what is left on the stack -/
def zrc (σ : zSt) (o m k : Nat) (as : List Value) : Prop := match k with
  | 0 => True
  | 1 => match as with
    | .ref b :: _ => b < σ.2.2.2 ∧ zkd b = (0, zOw m)
    | _ => False
  | _ => match as with
    | .ref _ :: _ => True
    | _ => False
def zna (m k : Nat) : Nat := if k = 0 then zNa m else zNa m + 1
def zkt (k : Nat) : Nat := match k with
  | 0 => 0 | 10 => 0 | 4 => 0 | 5 => 0 | 1 => 1 | 2 => 2 | 12 => 2 | 3 => 2 | _ => 9
def zcall (C : Nat → List Value → zSt → (Option Value → zSt → Prop) → Prop) (lim t o i : Nat) (S : List Value) (σ : zSt) (G : List Value → zSt → Prop) : Prop := match zct o i with
  | some (m, k, _) => match Nat.beq (zkt k) t with
    | false => False
    | true => match k with
      | 3 => zsR S (fun _ r => zcs r ≤ 8 ∧ G r σ)
      | 4 => zsII S (fun x y r => (zcs r ≤ 8 ∧ σ.2.2.2 ≤ lim) ∧ G (.int (if x < y then y else x) :: r) σ)
      | 5 => zsII S (fun x y r => (zcs r ≤ 8 ∧ σ.2.2.2 ≤ lim) ∧ G (.int (if y < x then y else x) :: r) σ)
      | _ => (zcs (S.drop (zna m (k % 10))) ≤ 8 ∧ zna m (k % 10) ≤ S.length ∧ zrc σ o m (k % 10) (S.take (zna m (k % 10))).reverse ∧ σ.2.2.2 + zAl m ≤ lim) ∧
        C m (S.take (zna m (k % 10))).reverse σ (fun r σ' => σ'.2.2.2 = σ.2.2.2 + zAl m → G (r.toList ++ S.drop (zna m (k % 10))) σ')
  | none => False
def zret (m : Nat) (v : Value) : Prop := match zRT m, v with
  | some .int, .int _ => True
  | some .boolean, .int x => x = 0 ∨ x = 1
  | some .long, .long _ => True
  | _, _ => False
/-- one step: what must hold before it, so that V holds behind it -/
def zSI (C : Nat → List Value → zSt → (Option Value → zSt → Prop) → Prop) (X : Nat × (Nat → Int32)) (m lim : Nat) (V : Nat → zLo → List Value → zSt → Prop) (K : Option Value → zSt → Prop) (ins : Instr) (pc : Nat) (L : zLo) (S : List Value) (σ : zSt) : Prop := match ins with
  | .aload_n n => zlR (L.lookup (n : Nat)) (fun a => V (pc + 1) L (.ref a :: S) σ)
  | .iload_n n => zlI (L.lookup (n : Nat)) (fun a => V (pc + 1) L (.int a :: S) σ)
  | .lload_n n => zlJ (L.lookup (n : Nat)) (fun a => V (pc + 1) L (.long a :: S) σ)
  | .iload n => zlI (L.lookup n) (fun a => V (pc + 2) L (.int a :: S) σ)
  | .lload n => zlJ (L.lookup n) (fun a => V (pc + 2) L (.long a :: S) σ)
  | .istore_n n => zsI S (fun x r => n < zML m ∧ V (pc + 1) (zst1 L n (.int x)) r σ)
  | .istore n => zsI S (fun x r => n < zML m ∧ V (pc + 2) (zst1 L n (.int x)) r σ)
  | .lstore_n n => zsJ S (fun x r => n + 1 < zML m ∧ V (pc + 1) (zst2 L n (.long x)) r σ)
  | .lstore n => zsJ S (fun x r => n + 1 < zML m ∧ V (pc + 2) (zst2 L n (.long x)) r σ)
  | .astore_n n => zsR S (fun x r => n < zML m ∧ V (pc + 1) (zst1 L n (.ref x)) r σ)
  | .iinc n k => n < zML m ∧ zlI (L.lookup n) (fun a => V (pc + 3) (zst1 L n (.int (a + Int32.ofInt k))) S σ)
  | .iconst k => V (pc + 1) L (.int (Int32.ofInt k) :: S) σ
  | .bipush k => V (pc + 2) L (.int (Int8.ofInt k).toInt32 :: S) σ
  | .sipush k => V (pc + 3) L (.int (Int16.ofInt k).toInt32 :: S) σ
  | .lconst k => V (pc + 1) L (.long (Int64.ofNat (k : Nat)) :: S) σ
  | .ldc i => match zki (zOw m) i with
    | some (v, _) => V (pc + 2) L (.int v :: S) σ
    | none => False
  | .ldc_w i => match zki (zOw m) i with
    | some (v, _) => V (pc + 3) L (.int v :: S) σ
    | none => False
  | .ldc2_w i => match zkl (zOw m) i with
    | some (v, _) => V (pc + 3) L (.long v :: S) σ
    | none => False
  | .iadd => zsII S (fun x y r => V (pc + 1) L (.int (x + y) :: r) σ)
  | .isub => zsII S (fun x y r => V (pc + 1) L (.int (x - y) :: r) σ)
  | .imul => zsII S (fun x y r => V (pc + 1) L (.int (x * y) :: r) σ)
  | .iand => zsII S (fun x y r => V (pc + 1) L (.int (x &&& y) :: r) σ)
  | .ior => zsII S (fun x y r => V (pc + 1) L (.int (x ||| y) :: r) σ)
  | .ixor => zsII S (fun x y r => V (pc + 1) L (.int (x ^^^ y) :: r) σ)
  | .ishl => zsII S (fun x y r => V (pc + 1) L (.int (x <<< (y &&& 31)) :: r) σ)
  | .ishr => zsII S (fun x y r => V (pc + 1) L (.int (x >>> (y &&& 31)) :: r) σ)
  | .iushr => zsII S (fun x y r => V (pc + 1) L (.int ((x.toUInt32 >>> (y.toUInt32 &&& Int32.toUInt32 31)).toInt32) :: r) σ)
  | .idiv => zsII S (fun x y r => (¬ y = 0) ∧ V (pc + 1) L (.int (x / y) :: r) σ)
  | .irem => zsII S (fun x y r => (¬ y = 0) ∧ V (pc + 1) L (.int (x - x / y * y) :: r) σ)
  | .ineg => zsI S (fun x r => V (pc + 1) L (.int (-x) :: r) σ)
  | .i2l => zsI S (fun x r => V (pc + 1) L (.long x.toInt64 :: r) σ)
  | .i2b => zsI S (fun x r => V (pc + 1) L (.int x.toInt8.toInt32 :: r) σ)
  | .i2s => zsI S (fun x r => V (pc + 1) L (.int x.toInt16.toInt32 :: r) σ)
  | .l2i => zsJ S (fun x r => V (pc + 1) L (.int x.toInt32 :: r) σ)
  | .ladd => zsJJ S (fun x y r => V (pc + 1) L (.long (x + y) :: r) σ)
  | .lsub => zsJJ S (fun x y r => V (pc + 1) L (.long (x - y) :: r) σ)
  | .lmul => zsJJ S (fun x y r => V (pc + 1) L (.long (x * y) :: r) σ)
  | .ldiv => zsJJ S (fun x y r => (¬ y = 0) ∧ V (pc + 1) L (.long (x / y) :: r) σ)
  | .lneg => zsJ S (fun x r => V (pc + 1) L (.long (-x) :: r) σ)
  | .lcmp => zsJJ S (fun x y r => V (pc + 1) L (.int (lg_cmp x y) :: r) σ)
  | .dup => zs1 S (fun v r => v.category = 1 ∧ V (pc + 1) L (v :: v :: r) σ)
  | .dup2 => zs2 S (fun v w r => (v.category = 1 ∧ w.category = 1) ∧ V (pc + 1) L (v :: w :: v :: w :: r) σ)
  | .pop => zs1 S (fun v r => v.category = 1 ∧ V (pc + 1) L r σ)
  | .ifCond c off => zsI S (fun x r => (zc0 c x → V (ztg pc off) L r σ) ∧ (¬ zc0 c x → V (pc + 3) L r σ))
  | .if_icmp c off => zsII S (fun x y r => (zc2 c x y → V (ztg pc off) L r σ) ∧ (¬ zc2 c x y → V (pc + 3) L r σ))
  | .ifnull _ => zsR S (fun _ r => V (pc + 3) L r σ)
  | .goto off => V (ztg pc off) L S σ
  | .tableswitch d lo hi offs => zsI S (fun x r => ((x.toInt < lo ∨ hi < x.toInt) → V (ztg pc d) L r σ) ∧ ((¬ x.toInt < lo ∧ ¬ hi < x.toInt) → ∃ off, offs[(x.toInt - lo).toNat]? = some off ∧ 0 ≤ (pc : Int) + off ∧ V (ztg pc off) L r σ))
  | .getfield i => zsR S (fun a r => match zft (zOw m) i with
    | some (ci, k, _) => (a < σ.2.2.2 ∧ zkd a = (0, ci)) ∧ zgF σ a k (zTY ci k) (fun v => V (pc + 3) L (v :: r) σ)
    | none => False)
  | .putfield i => zsP S (fun v a r => match zft (zOw m) i with
    | some (ci, k, _) => (a < σ.2.2.2 ∧ zkd a = (0, ci) ∧ ((zTT ci k).2.2.2 = false ∨ (zKi m = 2 ∧ ci = zOw m))) ∧ zpF σ a k (zTY ci k) v (fun σ' => V (pc + 3) L r σ')
    | none => False)
  | .iaload => zsA S (fun a i r => match Nat.beq a zsc with
    | true => (m = mL_law ∧ vp_in i X.1) ∧ V (pc + 1) L (.int (X.2 i.toNatClampNeg) :: r) σ
    | false => (a < σ.2.2.2 ∧ (zkd a).1 = 1 ∧ vp_in i (zkd a).2) ∧ V (pc + 1) L (.int (σ.1 a i.toNatClampNeg) :: r) σ)
  | .laload => zsA S (fun a i r => (a < σ.2.2.2 ∧ (zkd a).1 = 2 ∧ vp_in i (zkd a).2) ∧ V (pc + 1) L (.long (σ.2.1 a i.toNatClampNeg) :: r) σ)
  | .iastore => zsAI S (fun a i x r => (a < σ.2.2.2 ∧ (zkd a).1 = 1 ∧ vp_in i (zkd a).2) ∧ V (pc + 1) L r (zuI σ a i.toNatClampNeg x))
  | .lastore => zsAJ S (fun a i x r => (a < σ.2.2.2 ∧ (zkd a).1 = 2 ∧ vp_in i (zkd a).2) ∧ V (pc + 1) L r (zuJ σ a i.toNatClampNeg x))
  | .arraylength => zsR S (fun a r => match Nat.beq a zsc with
    | true => m = mL_law ∧ V (pc + 1) L (.int (Int32.ofNat X.1) :: r) σ
    | false => (a < σ.2.2.2 ∧ (zkd a).1 = 1) ∧ V (pc + 1) L (.int (Int32.ofNat (zkd a).2) :: r) σ)
  | .newarray t => zsI S (fun n r => (zkd σ.2.2.2 = ((if t = .int then 1 else 2), n.toNatClampNeg) ∧ (t = .int ∨ t = .long) ∧ ¬ n < 0 ∧ σ.2.2.2 + 1 ≤ lim) ∧ V (pc + 2) L (.ref σ.2.2.2 :: r) (zuN σ))
  | .new i => match zcl (zOw m) i with
    | some (ci, _) => (zkd σ.2.2.2 = (0, ci) ∧ σ.2.2.2 + 1 ≤ lim) ∧ V (pc + 3) L (.ref σ.2.2.2 :: S) (zuN σ)
    | none => False
  | .invokestatic i => zcall C lim 0 (zOw m) i S σ (fun S' σ' => V (pc + 3) L S' σ')
  | .invokevirtual i => zcall C lim 1 (zOw m) i S σ (fun S' σ' => V (pc + 3) L S' σ')
  | .invokespecial i => zcall C lim 2 (zOw m) i S σ (fun S' σ' => V (pc + 3) L S' σ')
  | .ireturn => S.length = 1 ∧ zsI S (fun x _ => zret m (.int x) ∧ σ.2.2.2 = lim ∧ K (some (.int x)) σ)
  | .lreturn => S.length = 1 ∧ zsJ S (fun x _ => zret m (.long x) ∧ σ.2.2.2 = lim ∧ K (some (.long x)) σ)
  | .return_ => S.length = 0 ∧ zRT m = none ∧ σ.2.2.2 = lim ∧ K none σ
  | _ => False
def zST (C : Nat → List Value → zSt → (Option Value → zSt → Prop) → Prop) (X : Nat × (Nat → Int32)) (m lim : Nat) (V : Nat → zLo → List Value → zSt → Prop) (K : Option Value → zSt → Prop) (pc : Nat) (L : zLo) (S : List Value) (σ : zSt) : Prop := match zcd m pc with
  | some (ins, _) => zSI C X m lim V K ins pc L S σ
  | none => False
/-- what is closed under the steps of a method -/
def zOk (C : Nat → List Value → zSt → (Option Value → zSt → Prop) → Prop) (X : Nat × (Nat → Int32)) (m lim : Nat) (V : Nat → zLo → List Value → zSt → Prop) (K : Option Value → zSt → Prop) : Prop := (∀ pc L S σ, zST C X m lim V K pc L S σ → V pc L S σ) ∧ ∀ (pc : Nat) (L L' : zLo) (S : List Value) (σ : zSt), (∀ q ∈ L', q ∈ L) → V pc L' S σ → V pc L S σ
/-- a call of method m, calls at most d deep: it comes back, and K holds then -/
def zSp : Nat → Nat → List Value → zSt → (Option Value → zSt → Prop) → Prop
  | 0 => fun _ _ _ _ => False
  | d + 1 => fun m as σ K => (m < 197 ∧ (lg_sl as).length ≤ zML m) ∧ ∀ V, zOk (zSp d) (0, fun _ => 0) m (σ.2.2.2 + zAl m) V K → V 0 (lv_args 0 as) [] σ
end
section
abbrev zQ : Type := Nat × Nat × ClassId × ClassId
def zad (Z : zQ) (a : Nat) : Nat := if a = zsc then Z.2.1 else Z.1 + a
def zcv (Z : zQ) (v : Value) : Value := match v with
  | .ref a => .ref (zad Z a)
  | w => w
def zcL (Z : zQ) (L : zLo) : zLo := L.map fun q => (q.1, zcv Z q.2)
def zfv (Z : zQ) (σ : zSt) (a : Nat) (ty : FieldType) (j : Nat) : Value := match ty with
  | .int => .int (σ.1 a j)
  | .boolean => .int (σ.1 a j)
  | .long => .long (σ.2.1 a j)
  | _ => zcv Z (σ.2.2.1 a j)
def zfs (Z : zQ) (σ : zSt) (a ci : Nat) : List Value := (List.range (zNF ci)).map fun j => zfv Z σ a (zTY ci j) j
def zce (Z : zQ) (σ : zSt) (a : Nat) : va_E := match zkd a with
  | (0, ci) => .inr (ci, zfs Z σ a ci)
  | (1, n) => .inl (Z.2.2.1, n, .inl (σ.1 a))
  | (_, n) => .inl (Z.2.2.2, n, .inr (.inl (σ.2.1 a)))
def zw (Z : zQ) (σ : zSt) : va_W := (List.range σ.2.2.2).map fun a => (Z.1 + a, zce Z σ a)
theorem zcv_cat (Z : zQ) (v : Value) : (zcv Z v).category = v.category := by cases v <;> rfl
theorem zw_at {Z : zQ} {σ : zSt} {a : Nat} (h : a < σ.2.2.2) : (zw Z σ)[a]? = some (Z.1 + a, zce Z σ a) := by
  simp [zw, h]
theorem zw_get {Z : zQ} {σ : zSt} {k : Nat} {q : Nat × va_E} (h : (zw Z σ)[k]? = some q) : k < σ.2.2.2 ∧ q = (Z.1 + k, zce Z σ k) := by
  by_cases hk : k < σ.2.2.2
  · rw [zw_at hk] at h
    exact ⟨hk, (Option.some.inj h).symm⟩
  · have hn : (zw Z σ)[k]? = none := List.getElem?_eq_none (by simp [zw]; omega)
    rw [hn] at h
    cases h
theorem zw_D (Z : zQ) (σ : zSt) : va_D (fun q => Z.1 ≤ q) (zw Z σ) := by
  refine ⟨fun i j p q hi hj he => ?_, fun k q h => ?_⟩
  · obtain ⟨_, rfl⟩ := zw_get hi
    obtain ⟨_, rfl⟩ := zw_get hj
    exact Nat.add_left_cancel he
  · obtain ⟨_, rfl⟩ := zw_get h
    exact Nat.le_add_right _ _
theorem zw_set {Z : zQ} {σ σ' : zSt} {a : Nat} {E : va_E} (ha : a < σ.2.2.2) (hn : σ'.2.2.2 = σ.2.2.2) (he : zce Z σ' a = E) (ho : ∀ b, b ≠ a → zce Z σ' b = zce Z σ b) : (zw Z σ).set a (Z.1 + a, E) = zw Z σ' := by
  apply List.ext_getElem?
  intro k
  by_cases hk : k < σ.2.2.2
  · rw [zw_at (σ := σ') (by omega)]
    by_cases hka : k = a
    · subst hka
      rw [List.getElem?_set_self (by simp [zw]; exact hk), he]
    · rw [List.getElem?_set_ne (Ne.symm hka), zw_at hk, ho k hka]
  · rw [List.getElem?_eq_none (by simp [zw]; omega), List.getElem?_eq_none (by simp [zw]; omega)]
theorem zfs_set {Z : zQ} {σ σ' : zSt} {a ci j : Nat} {v : Value} (hj : j < zNF ci) (h1 : zfv Z σ' a (zTY ci j) j = v) (h2 : ∀ k, k ≠ j → zfv Z σ' a (zTY ci k) k = zfv Z σ a (zTY ci k) k) : zfs Z σ' a ci = (zfs Z σ a ci).set j v := by
  apply List.ext_getElem?
  intro k
  by_cases hk : k < zNF ci
  · by_cases hkj : k = j
    · subst hkj
      rw [List.getElem?_set_self (by simp [zfs]; exact hk)]
      simp [zfs, hk, h1]
    · rw [List.getElem?_set_ne (Ne.symm hkj)]
      simp [zfs, hk, h2 k hkj]
  · rw [List.getElem?_eq_none (by simp [zfs]; omega), List.getElem?_eq_none (by simp [zfs]; omega)]
theorem zfs_at {Z : zQ} {σ : zSt} {a ci k : Nat} (hk : k < zNF ci) : (zfs Z σ a ci)[k]? = some (zfv Z σ a (zTY ci k) k) := by
  simp [zfs, hk]
theorem zce_uI {Z : zQ} {σ : zSt} {a j : Nat} {v : Int32} {b : Nat} (h : b ≠ a) : zce Z (zuI σ a j v) b = zce Z σ b := by
  have e : (zuI σ a j v).1 b = σ.1 b := by show (if b = a then _ else _) = _; rw [if_neg h]
  unfold zce
  split
  · unfold zfs; congr 2; apply List.map_congr_left; intro k _; unfold zfv; split <;> first | rfl | (rw [e])
  · rw [e]
  · rfl
theorem zce_uJ {Z : zQ} {σ : zSt} {a j : Nat} {v : Int64} {b : Nat} (h : b ≠ a) : zce Z (zuJ σ a j v) b = zce Z σ b := by
  have e : (zuJ σ a j v).2.1 b = σ.2.1 b := by show (if b = a then _ else _) = _; rw [if_neg h]
  unfold zce
  split
  · unfold zfs; congr 2; apply List.map_congr_left; intro k _; unfold zfv; split <;> first | rfl | (rw [e])
  · rfl
  · rw [e]
theorem zce_uR {Z : zQ} {σ : zSt} {a j : Nat} {v : Value} {b : Nat} (h : b ≠ a) : zce Z (zuR σ a j v) b = zce Z σ b := by
  have e : (zuR σ a j v).2.2.1 b = σ.2.2.1 b := by show (if b = a then _ else _) = _; rw [if_neg h]
  unfold zce
  split
  · unfold zfs; congr 2; apply List.map_congr_left; intro k _; unfold zfv; split <;> first | rfl | (rw [e])
  · rfl
  · rfl
theorem zce_uN {Z : zQ} {σ : zSt} {b : Nat} (h : b ≠ σ.2.2.2) : zce Z (zuN σ) b = zce Z σ b := by
  have e1 : (zuN σ).1 b = σ.1 b := by show (if b = _ then _ else _) = _; rw [if_neg h]
  have e2 : (zuN σ).2.1 b = σ.2.1 b := by show (if b = _ then _ else _) = _; rw [if_neg h]
  have e3 : (zuN σ).2.2.1 b = σ.2.2.1 b := by show (if b = _ then _ else _) = _; rw [if_neg h]
  unfold zce
  split
  · unfold zfs; congr 2; apply List.map_congr_left; intro k _; unfold zfv; rw [e1, e2, e3]
  · rw [e1]
  · rw [e2]
theorem zw_push (Z : zQ) (σ : zSt) : zw Z (zuN σ) = zw Z σ ++ [(Z.1 + σ.2.2.2, zce Z (zuN σ) σ.2.2.2)] := by
  show (List.range (σ.2.2.2 + 1)).map _ = _
  rw [List.range_succ, List.map_append]
  congr 1
  apply List.map_congr_left
  intro k hk
  rw [zce_uN (Nat.ne_of_lt (List.mem_range.mp hk))]
-- sizes
def zsl (a : Nat) : Nat := if (zkd a).1 = 0 then zNF (zkd a).2 else (zkd a).2
def zSS : Nat → Nat
  | 0 => 0
  | n + 1 => zSS n + zsl n
theorem zSS_mono {a b : Nat} (h : a ≤ b) : zSS a ≤ zSS b := by
  induction b with
  | zero => rw [Nat.le_zero.mp h]; exact Nat.le_refl _
  | succ n ih =>
    by_cases hn : a = n + 1
    · rw [hn]; exact Nat.le_refl _
    · exact Nat.le_trans (ih (by omega)) (Nat.le_add_right _ _)
-- the tables' facts, one by one
theorem zmem {α β : Type} [BEq α] [LawfulBEq α] {l : List (α × β)} {a : α} {b : β} (h : l.lookup a = some b) : (a, b) ∈ l := by
  induction l with
  | nil => cases h
  | cons q t ih =>
    obtain ⟨x, y⟩ := q
    rw [List.lookup_cons] at h
    split at h
    · rename_i he
      rw [eq_of_beq he]
      cases h
      exact List.mem_cons_self
    · exact List.mem_cons_of_mem _ (ih h)
theorem zall {P : Nat → Bool} {n : Nat} (h : (List.range n).all P = true) {k : Nat} (hk : k < n) : P k = true := List.all_eq_true.mp h k (List.mem_range.mpr hk)
theorem zgetD {α : Type} {l : List (List α)} {o n : Nat} (hl : l.length ≤ n) {x : α} (h : x ∈ l.getD o []) : o < n := by
  by_cases ho : o < l.length
  · omega
  · rw [List.getD_eq_getElem?_getD, List.getElem?_eq_none (by omega)] at h
    cases h
theorem zf_ok {o i ci k w : Nat} (h : zft o i = some (ci, k, w)) : Jvm.Cond.fieldLink (zNo o) i (zTT ci k).1 (zTT ci k).2.1 (zTT ci k).2.2.1 ∈ zBG ∧ k < zNF ci ∧ ci < 10 := by
  have hm := zmem h
  have h1 := List.all_eq_true.mp (zall zk_f (zgetD (Nat.le_of_ble_eq_true rfl) hm)) _ hm
  simp only [zfP, Bool.and_eq_true, decide_eq_true_eq] at h1
  exact ⟨List.mem_of_getElem? h1.1.1, h1.1.2, h1.2⟩
theorem zi_ok {o i w : Nat} {v : Int32} (h : zki o i = some (v, w)) : Jvm.Cond.constant (zNo o) i v ∈ zBG := by
  have hm := zmem h
  have h1 := List.all_eq_true.mp (zall zk_i (zgetD (Nat.le_of_ble_eq_true rfl) hm)) _ hm
  simp only [decide_eq_true_eq] at h1
  exact List.mem_of_getElem? h1
theorem zj_ok {o i w : Nat} {v : Int64} (h : zkl o i = some (v, w)) : Jvm.Cond.constantLong (zNo o) i v ∈ zBG := by
  have hm := zmem h
  have h1 := List.all_eq_true.mp (zall zk_j (zgetD (Nat.le_of_ble_eq_true rfl) hm)) _ hm
  simp only [decide_eq_true_eq] at h1
  exact List.mem_of_getElem? h1
theorem zl_ok {o i ci w : Nat} (h : zcl o i = some (ci, w)) : Jvm.Cond.classLink (zNo o) i (zNo ci) ∈ zBG ∧ ci < 10 := by
  have hm := zmem h
  have h1 := List.all_eq_true.mp (zall zk_l (zgetD (Nat.le_of_ble_eq_true rfl) hm)) _ hm
  simp only [zlP, Bool.and_eq_true, decide_eq_true_eq] at h1
  exact ⟨List.mem_of_getElem? h1.1, h1.2⟩
theorem zn_ok {ci : Nat} (h : ci < 10) : Jvm.Cond.instantiable (zNo ci) (zNF ci) ∈ zBG ∧ Jvm.Cond.initialized (zNo ci) ∈ zBG := by
  have h1 := zall zk_n h
  simp only [Bool.and_eq_true, decide_eq_true_eq] at h1
  exact ⟨List.mem_of_getElem? h1.1, List.mem_of_getElem? h1.2⟩
theorem zc_ok {o i m k w : Nat} (h : zct o i = some (m, k, w)) : zcP o (i, m, k, w) = true := by
  have hm := zmem h
  exact List.all_eq_true.mp (zall zk_c (zgetD (Nat.le_of_ble_eq_true rfl) hm)) _ hm
theorem zcl_at {ci : Nat} (h : ci < 10) : vwCl[ci]? = some (zNo ci, zTT ci, zNF ci) := by
  rcases (show ci = 0 ∨ ci = 1 ∨ ci = 2 ∨ ci = 3 ∨ ci = 4 ∨ ci = 5 ∨ ci = 6 ∨ ci = 7 ∨ ci = 8 ∨ ci = 9 by omega) with rfl | rfl | rfl | rfl | rfl | rfl | rfl | rfl | rfl | rfl <;> rfl
theorem zin {ci : Nat} (h : ci < 10) : ∀ w ∈ u_ws (zNo ci) (zTT ci) (zNF ci), w ∈ zBG := by
  rcases (show ci = 0 ∨ ci = 1 ∨ ci = 2 ∨ ci = 3 ∨ ci = 4 ∨ ci = 5 ∨ ci = 6 ∨ ci = 7 ∨ ci = 8 ∨ ci = 9 by omega) with rfl | rfl | rfl | rfl | rfl | rfl | rfl | rfl | rfl | rfl
  · exact inlX0
  · exact inlX1
  · exact inlX2
  · exact inlX3
  · exact inlX4
  · exact inlX5
  · exact inlX6
  · exact inlX7
  · exact inlX8
  · exact inlX9
theorem zty_ok {ci : Nat} (h : ci < 10) : ∀ k, k < zNF ci → parseFieldDescriptor (zTT ci k).2.2.1 = some (zTY ci k) := by
  rcases (show ci = 0 ∨ ci = 1 ∨ ci = 2 ∨ ci = 3 ∨ ci = 4 ∨ ci = 5 ∨ ci = 6 ∨ ci = 7 ∨ ci = 8 ∨ ci = 9 by omega) with rfl | rfl | rfl | rfl | rfl | rfl | rfl | rfl | rfl | rfl
  · exact tyX0_ok
  · exact tyX1_ok
  · exact tyX2_ok
  · exact tyX3_ok
  · exact tyX4_ok
  · exact tyX5_ok
  · exact tyX6_ok
  · exact tyX7_ok
  · exact tyX8_ok
  · exact tyX9_ok
theorem znm_ok {ci : Nat} (h : ci < 10) : ∀ a, a < zNF ci → ∀ b, b < zNF ci → a ≠ b → (zTT ci a).2.1 ≠ (zTT ci b).2.1 := by
  rcases (show ci = 0 ∨ ci = 1 ∨ ci = 2 ∨ ci = 3 ∨ ci = 4 ∨ ci = 5 ∨ ci = 6 ∨ ci = 7 ∨ ci = 8 ∨ ci = 9 by omega) with rfl | rfl | rfl | rfl | rfl | rfl | rfl | rfl | rfl | rfl
  · exact nmX0
  · exact nmX1
  · exact nmX2
  · exact nmX3
  · exact nmX4
  · exact nmX5
  · exact nmX6
  · exact nmX7
  · exact nmX8
  · exact nmX9
/-- a field's type is one of those that the machine keeps; a final field is its own declarer's -/
def ztyk (t : FieldType) : Bool := match t with
  | .int => true | .boolean => true | .long => true | .array _ => true | .object _ => true | _ => false
set_option maxRecDepth 100000 in
theorem zk_t : (List.range 10).all (fun ci => (List.range (zNF ci)).all (fun k => ztyk (zTY ci k) && (zTT ci k).1 == zNo ci)) = true := by decide +kernel
theorem zt_ok {ci k : Nat} (h : ci < 10) (hk : k < zNF ci) : ztyk (zTY ci k) = true ∧ (zTT ci k).1 = zNo ci := by
  have h1 := zall (zall zk_t h) hk
  simp only [Bool.and_eq_true, beq_iff_eq] at h1
  exact h1
set_option maxRecDepth 100000 in
theorem zkd_big : ∀ a, a < 52 → (zkd a).1 < 3 := by decide +kernel
theorem zkd_lt {a t n : Nat} (h : zkd a = (t, n)) (ht : t < 3) : a < 52 := by
  by_cases ha : a < 52
  · exact ha
  · have e : zkd a = (3, 0) := by
      unfold zkd
      rw [List.getD_eq_getElem?_getD, List.getElem?_eq_none (by show 52 ≤ a; omega)]
      rfl
    rw [e] at h
    cases h
    omega
end
section
theorem zlI_spec {o : Option Value} {G : Int32 → Prop} (h : zlI o G) : ∃ x, o = some (.int x) ∧ G x := by
  unfold zlI at h; split at h
  · exact ⟨_, rfl, h⟩
  · exact h.elim
theorem zlJ_spec {o : Option Value} {G : Int64 → Prop} (h : zlJ o G) : ∃ x, o = some (.long x) ∧ G x := by
  unfold zlJ at h; split at h
  · exact ⟨_, rfl, h⟩
  · exact h.elim
theorem zlR_spec {o : Option Value} {G : Nat → Prop} (h : zlR o G) : ∃ x, o = some (.ref x) ∧ G x := by
  unfold zlR at h; split at h
  · exact ⟨_, rfl, h⟩
  · exact h.elim
theorem zsI_spec {S : List Value} {G : Int32 → List Value → Prop} (h : zsI S G) : ∃ x r, S = .int x :: r ∧ G x r := by
  unfold zsI at h; split at h
  · exact ⟨_, _, rfl, h⟩
  · exact h.elim
theorem zsJ_spec {S : List Value} {G : Int64 → List Value → Prop} (h : zsJ S G) : ∃ x r, S = .long x :: r ∧ G x r := by
  unfold zsJ at h; split at h
  · exact ⟨_, _, rfl, h⟩
  · exact h.elim
theorem zsR_spec {S : List Value} {G : Nat → List Value → Prop} (h : zsR S G) : ∃ x r, S = .ref x :: r ∧ G x r := by
  unfold zsR at h; split at h
  · exact ⟨_, _, rfl, h⟩
  · exact h.elim
theorem zsII_spec {S : List Value} {G : Int32 → Int32 → List Value → Prop} (h : zsII S G) : ∃ x y r, S = .int y :: .int x :: r ∧ G x y r := by
  unfold zsII at h; split at h
  · exact ⟨_, _, _, rfl, h⟩
  · exact h.elim
theorem zsJJ_spec {S : List Value} {G : Int64 → Int64 → List Value → Prop} (h : zsJJ S G) : ∃ x y r, S = .long y :: .long x :: r ∧ G x y r := by
  unfold zsJJ at h; split at h
  · exact ⟨_, _, _, rfl, h⟩
  · exact h.elim
theorem zsA_spec {S : List Value} {G : Nat → Int32 → List Value → Prop} (h : zsA S G) : ∃ a i r, S = .int i :: .ref a :: r ∧ G a i r := by
  unfold zsA at h; split at h
  · exact ⟨_, _, _, rfl, h⟩
  · exact h.elim
theorem zsAI_spec {S : List Value} {G : Nat → Int32 → Int32 → List Value → Prop} (h : zsAI S G) : ∃ a i x r, S = .int x :: .int i :: .ref a :: r ∧ G a i x r := by
  unfold zsAI at h; split at h
  · exact ⟨_, _, _, _, rfl, h⟩
  · exact h.elim
theorem zsAJ_spec {S : List Value} {G : Nat → Int32 → Int64 → List Value → Prop} (h : zsAJ S G) : ∃ a i x r, S = .long x :: .int i :: .ref a :: r ∧ G a i x r := by
  unfold zsAJ at h; split at h
  · exact ⟨_, _, _, _, rfl, h⟩
  · exact h.elim
theorem zs1_spec {S : List Value} {G : Value → List Value → Prop} (h : zs1 S G) : ∃ v r, S = v :: r ∧ G v r := by
  unfold zs1 at h; split at h
  · exact ⟨_, _, rfl, h⟩
  · exact h.elim
theorem zs2_spec {S : List Value} {G : Value → Value → List Value → Prop} (h : zs2 S G) : ∃ v w r, S = v :: w :: r ∧ G v w r := by
  unfold zs2 at h; split at h
  · exact ⟨_, _, _, rfl, h⟩
  · exact h.elim
theorem zsP_spec {S : List Value} {G : Value → Nat → List Value → Prop} (h : zsP S G) : ∃ v a r, S = v :: .ref a :: r ∧ G v a r := by
  unfold zsP at h; split at h
  · exact ⟨_, _, _, rfl, h⟩
  · exact h.elim
theorem zcL_get {Z : zQ} {L : zLo} {ls : Array Slot} {n i : Nat} {v : Value} (hl : lv_has ls n (zcL Z L)) (h : L.lookup i = some v) : ls[i]? = some (.val (zcv Z v)) :=
  hl.2.2 (i, zcv Z v) (List.mem_map.mpr ⟨(i, v), zmem h, rfl⟩)
theorem zcL_at {Z : zQ} {L : zLo} {i : Nat} {v : Value} (h : L.lookup i = some v) : ∃ k : Nat, (zcL Z L)[k]? = some (i, zcv Z v) := by
  obtain ⟨k, hk⟩ := List.getElem?_of_mem (List.mem_map.mpr ⟨(i, v), zmem h, rfl⟩ : (i, zcv Z v) ∈ zcL Z L)
  exact ⟨k, hk⟩
theorem zcL_1 (Z : zQ) (L : zLo) (i : Nat) (v : Value) : (i, zcv Z v) :: (zcL Z L).filter (fun q => !(q.1 == i) && !(q.1 + 1 == i && q.2.category == 2)) = zcL Z (zst1 L i v) := by
  unfold zcL zst1
  rw [List.map_cons, List.filter_map]
  congr 2
  apply List.filter_congr
  intro q _
  simp only [Function.comp, zcv_cat]
theorem zcL_2 (Z : zQ) (L : zLo) (i : Nat) (v : Value) : (i, zcv Z v) :: (zcL Z L).filter (fun q => !(q.1 == i) && (!(q.1 == i + 1) && !(q.1 + 1 == i && q.2.category == 2))) = zcL Z (zst2 L i v) := by
  unfold zcL zst2
  rw [List.map_cons, List.filter_map]
  congr 2
  apply List.filter_congr
  intro q _
  simp only [Function.comp, zcv_cat]
theorem zcL_args (Z : zQ) (as : List Value) : ∀ i, lv_args i (as.map (zcv Z)) = zcL Z (lv_args i as) := by
  induction as with
  | nil => intro i; rfl
  | cons v t ih =>
    intro i
    show (i, zcv Z v) :: lv_args (if (zcv Z v).category = 2 then i + 2 else i + 1) (t.map (zcv Z)) = (i, zcv Z v) :: zcL Z (lv_args (if v.category = 2 then i + 2 else i + 1) t)
    rw [zcv_cat, ih]
theorem zcs_map (Z : zQ) (S : List Value) : ((S.map (zcv Z)).map fun v => v.category).sum = zcs S := by
  unfold zcs
  rw [List.map_map]
  congr 1
  apply List.map_congr_left
  intro v _
  exact zcv_cat Z v
theorem ztg_ok {pc : Nat} {off : Int} (h : 0 ≤ (pc : Int) + off) : (pc : Int) + off = (ztg pc off : Int) := (Int.toNat_of_nonneg h).symm
theorem zD {b : ByteArray} {pc len : Nat} {ins : Instr} (hd : decode b pc = .ok (ins, len)) (hg : zgd (pc, ins, len) = true) (hn : (match ins with | .tableswitch _ _ _ _ => false | _ => true) = true) : decode b pc = .ok (ins, zlen ins) := by
  have h : len = zlen ins := by
    unfold zgd at hg
    rw [Bool.and_eq_true] at hg
    have h1 := hg.1
    cases ins <;> first | exact eq_of_beq h1 | (simp at hn)
  rw [← h]; exact hd
def zgo (pc : Nat) (ins : Instr) : Bool := match ins with
  | .ifCond _ off => decide (0 ≤ (pc : Int) + off)
  | .if_icmp _ off => decide (0 ≤ (pc : Int) + off)
  | .goto off => decide (0 ≤ (pc : Int) + off)
  | .tableswitch d _ _ _ => decide (0 ≤ (pc : Int) + d)
  | _ => true
theorem zG {pc len : Nat} {ins : Instr} (hg : zgd (pc, ins, len) = true) : zgo pc ins = true := by
  unfold zgd at hg
  rw [Bool.and_eq_true] at hg
  cases ins <;> first | rfl | exact hg.2
/-- the heap holds the cells -/
def zWd (D : va_G) (Z : zQ) (σ : zSt) (H : Heap) : Prop := va_P D vwCl (zw Z σ) H ∧ H.size = Z.1 + σ.2.2.2 ∧ σ.2.2.2 ≤ 52
abbrev ztys (Z : zQ) : List (ClassId × FieldType) := [(Z.2.2.1, .int), (Z.2.2.2, .long)]
/-- what the tables say -/
def zKK (D : va_G) (Z : zQ) (U : State) : Prop := va_K D vwCl (ztys Z) U ∧ ∀ q ∈ zNS, va_Nw (.methodLinkNest q.1 q.2.1 q.2.2.1 q.2.2.2) U
theorem zKK_same {D : va_G} {Z : zQ} {u U : State} (h : u.vm = U.vm) (k : zKK D Z u) : zKK D Z U := ⟨va_K.moved (by rw [h]; exact Vm.Alike.refl U.vm) k.1, fun q hq => va_Nw.same rfl h (k.2 q hq)⟩
theorem zKK_warm {D : va_G} {Z : zQ} {s U : State} (h : s.WarmedH U.vm) (k : zKK D Z s) : zKK D Z U := ⟨va_K.moved h.alike k.1, fun q hq => va_Nw.warmM h (k.2 q hq)⟩
section ZR
variable {p : Program} {l : Launch} {e : Env} {R : Room} {s : State} {m : MethodId} {args : Array Value} {below : List Frame} {meth : Method} {c : Code} {H : Heap} {locs : List Loc} {cells slots : Nat} {Q : State → Prop}
variable {pc : Nat} {ls : Array Slot} {rest : List Value} {D : va_G} {Z : zQ} {σ : zSt} {H0 : Heap}
/-- a field is written, final or not; the heap's size stays -/
theorem zput {cc : ByteArray} (hexec : p.tables.exec = Jvm.exec) (hb : c.code = cc) {own : String} {index ci a k : Nat} (hci : ci < 10) (hts : ∀ w ∈ zBG, w.before args s = true) (hown : s.vm.findClass own = some m.cls) (hK : va_K D vwCl (ztys Z) s) (hP : va_P D vwCl (zw Z σ) H) (hS0 : va_S (fun q => Z.1 ≤ q) H0 H locs) (ha : a < σ.2.2.2) (hz : zkd a = (0, ci)) (hk : k < zNF ci)
    (hlink : Jvm.Cond.fieldLink own index (zTT ci k).1 (zTT ci k).2.1 (zTT ci k).2.2.1 ∈ zBG) (hfin : (zTT ci k).2.2.2 = false ∨ (meth.name = "<init>" ∧ zNo ci = own)) {v : Value} (hn : narrow (zTY ci k) v = v) (hfit : fits (zTY ci k) v = true) (hdg : decode cc pc = .ok (.putfield index, 3))
    (kk : ∀ (H1 : Heap) (locs1 : List Loc), va_P D vwCl ((zw Z σ).set a (Z.1 + a, .inr (ci, (zfs Z σ a ci).set k v))) H1 → H1.size = H.size → va_S (fun q => Z.1 ≤ q) H0 H1 locs1 → W p l e R s m args below meth c H1 locs1 cells slots Q (F0 m (pc + 3) ls rest)) : W p l e R s m args below meth c H locs cells slots Q (F0 m pc ls (v :: .ref (Z.1 + a) :: rest)) := by
  have he : (zw Z σ)[a]? = some (Z.1 + a, .inr (ci, zfs Z σ a ci)) := by rw [zw_at ha]; simp only [zce, hz]
  have hc := zcl_at hci
  have hap := va_apart (own := own) hts (zin hci) (zTY ci) (zty_ok hci) (znm_ok hci) hK hc
  obtain ⟨r, h1, cell, q1, q2, q3, q4⟩ := hP a _ he
  have hr : r = (zNo ci, zTT ci, zNF ci) := Option.some.inj (h1.symm.trans hc)
  subst hr
  obtain ⟨hS, hfc, kC, hkC, hkind⟩ := hK.1 ci _ hc
  obtain ⟨cf, kf, fi, f, hi, hsl⟩ := hS k hk
  have hlay := hts _ (zin hci _ (u_in_lay hk))
  have hst := (u_facts hfc hkC (u_lays hts (zin hci) hk) hi).1
  have hl : k < (zfs Z σ a ci).length := by simp [zfs]; exact hk
  have hlk := hts _ hlink
  have fin : ∀ H' : Heap, H'[Z.1 + a]? = some (cell.setSlot f.slot v) → H'.size = H.size → (∀ q, q ≠ Z.1 + a → H'[q]? = H[q]?) → W p l e R s m args below meth c H' (locs ++ [⟨Z.1 + a, f.slot⟩]) cells slots Q (F0 m (pc + 3) ls rest) := by
    intro H' e1 e2 e3
    rw [hsl] at e1 ⊢
    exact kk H' _ (hP.set (zw_D Z σ) he ⟨_, hc, t_OB.to (V := updV (vp_V (zfs Z σ a ci)) k v) ⟨_, e1, q2, q3, t_set q4 hap hk v⟩ (fun j _ => vp_updV_set hl v j)⟩ e3) e2 (hS0.put e2 e3 (Nat.le_add_right _ _))
  rcases hfin with hfin | ⟨hin2, hdecl⟩
  · unfold u_lay at hlay
    rw [if_neg (by rw [hfin]; decide)] at hlay
    have h6 := u_store hfc hkC hkind hlay hi (zty_ok hci k hk) hn hfit
    exact W.putK hexec hb (f := f) ⟨hown, hlk, ⟨_, _, _, hi⟩, hst⟩ (by rw [q2]; exact h6) q1 q3 (by rw [hsl]; exact k2_hasslot (q4 k hk)) rfl rfl hdg fin
  · by_cases hb2 : (zTT ci k).2.2.2 = true
    · unfold u_lay at hlay
      rw [if_pos hb2] at hlay
      have hcf : m.cls = cf := by
        obtain ⟨_, _, c', _, _, _, -, -, hf', -, -, -, hown2, -⟩ := Cond.laysFinal_spec hlay
        have e1 : c' = cf := by have := hi.symm.trans hf'; simp at this; exact this.1.symm
        rw [(zt_ok hci hk).2, hdecl] at hown2
        rw [← e1]; exact Option.some.inj (hown.symm.trans hown2)
      have h6 := u_fits hfc hkC hkind (Or.inr hlay) hi (zty_ok hci k hk) hn hfit
      exact W.putFinK hexec hb hown hlk hi hst hcf hin2 (by rw [q2]; exact h6) q1 q3 (by rw [hsl]; exact k2_hasslot (q4 k hk)) rfl rfl hdg fin
    · unfold u_lay at hlay
      rw [if_neg hb2] at hlay
      have h6 := u_store hfc hkC hkind hlay hi (zty_ok hci k hk) hn hfit
      exact W.putK hexec hb (f := f) ⟨hown, hlk, ⟨_, _, _, hi⟩, hst⟩ (by rw [q2]; exact h6) q1 q3 (by rw [hsl]; exact k2_hasslot (q4 k hk)) rfl rfl hdg fin
theorem ziast {cc : ByteArray} (hexec : p.tables.exec = Jvm.exec) (hb : c.code = cc) (hK : va_K D vwCl (ztys Z) s) (hP : va_P D vwCl (zw Z σ) H) (hS0 : va_S (fun q => Z.1 ≤ q) H0 H locs) {a n : Nat} (ha : a < σ.2.2.2) (hz : zkd a = (1, n)) {i x : Int32} (hin : vp_in i n) (hdg : decode cc pc = .ok (.iastore, 1))
    (kk : ∀ (H1 : Heap) (locs1 : List Loc), va_P D vwCl ((zw Z σ).set a (Z.1 + a, .inl (Z.2.2.1, n, .inl (upd (σ.1 a) i.toNatClampNeg x)))) H1 → H1.size = H.size → va_S (fun q => Z.1 ≤ q) H0 H1 locs1 → W p l e R s m args below meth c H1 locs1 cells slots Q (F0 m (pc + 1) ls rest)) : W p l e R s m args below meth c H locs cells slots Q (F0 m pc ls (.int x :: .int i :: .ref (Z.1 + a) :: rest)) := by
  have he : (zw Z σ)[a]? = some (Z.1 + a, .inl (Z.2.2.1, n, .inl (σ.1 a))) := by rw [zw_at ha]; simp only [zce, hz]
  refine W.iast hexec hb (hP a _ he) ((hK.2 0 _ rfl).1 n (fun j => .int (σ.1 a j))) (fun q => by cases q) (by show ¬ (i < 0 ∨ (arrV _ _ _).slots.size ≤ _); rw [arrV_size]; exact hin) rfl rfl hdg fun H1 e z oq => ?_
  refine kk H1 _ (hP.set (zw_D Z σ) he ?_ oq) z (hS0.put z oq (Nat.le_add_right _ _))
  show H1[Z.1 + a]? = some (vp_cell _ _)
  rw [e, vp_cell_i, vp_cell_i, arrV_store]
  congr 2
  funext q
  by_cases hq : q = i.toNatClampNeg
  · subst hq; simp [updV, upd]
  · simp [updV, upd, hq]
theorem zlast {cc : ByteArray} (hexec : p.tables.exec = Jvm.exec) (hb : c.code = cc) (hK : va_K D vwCl (ztys Z) s) (hP : va_P D vwCl (zw Z σ) H) (hS0 : va_S (fun q => Z.1 ≤ q) H0 H locs) {a n : Nat} (ha : a < σ.2.2.2) (hz : zkd a = (2, n)) {i : Int32} {x : Int64} (hin : vp_in i n) (hdg : decode cc pc = .ok (.lastore, 1))
    (kk : ∀ (H1 : Heap) (locs1 : List Loc), va_P D vwCl ((zw Z σ).set a (Z.1 + a, .inl (Z.2.2.2, n, .inr (.inl (vp_updL (σ.2.1 a) i.toNatClampNeg x))))) H1 → H1.size = H.size → va_S (fun q => Z.1 ≤ q) H0 H1 locs1 → W p l e R s m args below meth c H1 locs1 cells slots Q (F0 m (pc + 1) ls rest)) : W p l e R s m args below meth c H locs cells slots Q (F0 m pc ls (.long x :: .int i :: .ref (Z.1 + a) :: rest)) := by
  have he : (zw Z σ)[a]? = some (Z.1 + a, .inl (Z.2.2.2, n, .inr (.inl (σ.2.1 a)))) := by rw [zw_at ha]; simp only [zce, hz]
  refine W.last hexec hb (hP a _ he) ((hK.2 1 _ rfl).1 n (fun j => .long (σ.2.1 a j))) (fun q => by cases q) (by show ¬ (i < 0 ∨ (arrV _ _ _).slots.size ≤ _); rw [arrV_size]; exact hin) rfl rfl hdg fun H1 e z oq => ?_
  refine kk H1 _ (hP.set (zw_D Z σ) he ?_ oq) z (hS0.put z oq (Nat.le_add_right _ _))
  show H1[Z.1 + a]? = some (vp_cell _ _)
  rw [e, vp_cell_l, vp_cell_l, arrV_store]
  congr 2
  funext q
  by_cases hq : q = i.toNatClampNeg
  · subst hq; simp [updV, vp_updL]
  · simp [updV, vp_updL, hq]
end ZR
end
section
theorem zkd_240 : ∀ a, a < 52 → (zkd a).2 ≤ 240 := by decide +kernel
theorem zuN_1 (σ : zSt) : (zuN σ).1 σ.2.2.2 = fun _ => 0 := by show (if _ = _ then _ else _) = _; rw [if_pos rfl]
theorem zuN_2 (σ : zSt) : (zuN σ).2.1 σ.2.2.2 = fun _ => 0 := by show (if _ = _ then _ else _) = _; rw [if_pos rfl]
theorem zuN_3 (σ : zSt) : (zuN σ).2.2.1 σ.2.2.2 = fun _ => .null := by show (if _ = _ then _ else _) = _; rw [if_pos rfl]
section ZA
variable {p : Program} {l : Launch} {e : Env} {R : Room} {s : State} {m : MethodId} {args : Array Value} {below : List Frame} {meth : Method} {c : Code} {H : Heap} {locs : List Loc} {cells slots : Nat} {Q : State → Prop}
variable {pc : Nat} {ls : Array Slot} {rest : List Value} {D : va_G} {Z : zQ} {σ : zSt} {H0 : Heap}
theorem zsing {α : Type} {x y : α} {k : Nat} (h : [x][k]? = some y) : y = x := by
  match k, h with
  | 0, h => exact (Option.some.inj h).symm
  | k + 1, h => simp at h
theorem znew {cc : ByteArray} (hexec : p.tables.exec = Jvm.exec) (hb : c.code = cc) {own : String} {index ci : Nat} (hci : ci < 10) (hts : ∀ w ∈ zBG, w.before args s = true) (hown : s.vm.findClass own = some m.cls) (hK : va_K D vwCl (ztys Z) s) (hW : zWd D Z σ H) (hS : va_S (fun q => Z.1 ≤ q) H0 H locs)
    (hcl : Jvm.Cond.classLink own index (zNo ci) ∈ zBG) (hz : zkd σ.2.2.2 = (0, ci)) (hcells : cells + 1 ≤ R.cells) (hslots : slots + zNF ci ≤ R.slots) (hdg : decode cc pc = .ok (.new index, 3))
    (kk : ∀ H1 : Heap, zWd D Z (zuN σ) H1 → va_S (fun q => Z.1 ≤ q) H0 H1 locs → W p l e R s m args below meth c H1 locs (cells + 1) (slots + zNF ci) Q (F0 m (pc + 3) ls (.ref (Z.1 + σ.2.2.2) :: rest))) : W p l e R s m args below meth c H locs cells slots Q (F0 m pc ls rest) := by
  obtain ⟨hP, hz1, hz2⟩ := hW
  have hc := zcl_at hci
  have hKn := hK.1 ci _ hc
  refine W.newcK hexec hb hown (hts _ hcl) (hts _ (zn_ok hci).1) (hts _ (zn_ok hci).2) rfl hdg hcells hslots hKn.2.1 hz1 fun H1 kC hkC e1 z1 o1 => ?_
  have hk : ∀ (k : Nat) (x : Nat × va_E), (zw Z σ)[k]? = some x → H1[x.1]? = H[x.1]? := fun k x hx => o1 x.1 (by rw [← hz1]; exact (hP k x hx).lt)
  have hlt := zkd_lt hz (by omega)
  refine kk H1 ⟨?_, z1, hlt⟩ ⟨Nat.le_trans hS.1 (by omega), fun x h1 h2 => (o1 x (by rw [← hz1]; exact Nat.lt_of_lt_of_le h1 hS.1)).trans (hS.2.1 x h1 h2), hS.2.2⟩
  rw [zw_push]
  refine (hP.kept hk).app (fun k x hx => ?_)
  rw [zsing hx]
  have he : zce Z (zuN σ) σ.2.2.2 = .inr (ci, zfs Z (zuN σ) σ.2.2.2 ci) := by simp only [zce, hz]
  rw [he]
  refine ⟨_, hc, (u_born (zTY ci) hts (zin hci) hKn hkC e1 (zty_ok hci)).to (fun j hj => ?_)⟩
  show defaultValue (zTY ci j) = (zfs Z (zuN σ) σ.2.2.2 ci).getD j .null
  rw [List.getD_eq_getElem?_getD, zfs_at hj]
  show defaultValue (zTY ci j) = zfv Z (zuN σ) σ.2.2.2 (zTY ci j) j
  have ht := (zt_ok hci hj).1
  unfold zfv
  rw [zuN_1, zuN_2, zuN_3]
  generalize zTY ci j = t at ht ⊢
  cases t <;> first | rfl | (simp [ztyk] at ht)
theorem znewI {cc : ByteArray} (hexec : p.tables.exec = Jvm.exec) (hb : c.code = cc) (hts : ∀ w ∈ zBG, w.before args s = true) (hK : va_K D vwCl (ztys Z) s) (hW : zWd D Z σ H) (hS : va_S (fun q => Z.1 ≤ q) H0 H locs) {n : Int32} {N : Nat} (hz : zkd σ.2.2.2 = (1, N)) (hn : ¬ n < 0) (hN : n.toNatClampNeg = N) (hcells : cells + 1 ≤ R.cells) (hslots : slots + N ≤ R.slots) (hdg : decode cc pc = .ok (.newarray .int, 2))
    (kk : ∀ H1 : Heap, zWd D Z (zuN σ) H1 → va_S (fun q => Z.1 ≤ q) H0 H1 locs → W p l e R s m args below meth c H1 locs (cells + 1) (slots + N) Q (F0 m (pc + 2) ls (.ref (Z.1 + σ.2.2.2) :: rest))) : W p l e R s m args below meth c H locs cells slots Q (F0 m pc ls (.int n :: rest)) := by
  obtain ⟨hP, hz1, hz2⟩ := hW
  have hlt := zkd_lt hz (by omega)
  have h240 : N ≤ 240 := by have h := zkd_240 _ hlt; rw [hz] at h; exact h
  refine va_newaK (atype := .int) hexec hb (hts _ zk_o.2.2.1) rfl hdg rfl hn hN (by show N * 4 ≤ 536870912; omega) hcells hslots hz1 fun H1 cA e1 z1 o1 hAr hNm => ?_
  have hcA : cA = Z.2.2.1 := Option.some.inj (hNm.symm.trans (hK.2 0 _ rfl).2)
  subst hcA
  have hk : ∀ (k : Nat) (x : Nat × va_E), (zw Z σ)[k]? = some x → H1[x.1]? = H[x.1]? := fun k x hx => o1 x.1 (by rw [← hz1]; exact (hP k x hx).lt)
  refine kk H1 ⟨?_, z1, hlt⟩ ⟨Nat.le_trans hS.1 (by omega), fun x h1 h2 => (o1 x (by rw [← hz1]; exact Nat.lt_of_lt_of_le h1 hS.1)).trans (hS.2.1 x h1 h2), hS.2.2⟩
  rw [zw_push]
  refine (hP.kept hk).app (fun k x hx => ?_)
  rw [zsing hx]
  have he : zce Z (zuN σ) σ.2.2.2 = .inl (Z.2.2.1, N, .inl (fun _ => 0)) := by simp only [zce, hz, zuN_1]
  rw [he]
  exact e1
theorem znewJ {cc : ByteArray} (hexec : p.tables.exec = Jvm.exec) (hb : c.code = cc) (hts : ∀ w ∈ zBG, w.before args s = true) (hK : va_K D vwCl (ztys Z) s) (hW : zWd D Z σ H) (hS : va_S (fun q => Z.1 ≤ q) H0 H locs) {n : Int32} {N : Nat} (hz : zkd σ.2.2.2 = (2, N)) (hn : ¬ n < 0) (hN : n.toNatClampNeg = N) (hcells : cells + 1 ≤ R.cells) (hslots : slots + N ≤ R.slots) (hdg : decode cc pc = .ok (.newarray .long, 2))
    (kk : ∀ H1 : Heap, zWd D Z (zuN σ) H1 → va_S (fun q => Z.1 ≤ q) H0 H1 locs → W p l e R s m args below meth c H1 locs (cells + 1) (slots + N) Q (F0 m (pc + 2) ls (.ref (Z.1 + σ.2.2.2) :: rest))) : W p l e R s m args below meth c H locs cells slots Q (F0 m pc ls (.int n :: rest)) := by
  obtain ⟨hP, hz1, hz2⟩ := hW
  have hlt := zkd_lt hz (by omega)
  have h240 : N ≤ 240 := by have h := zkd_240 _ hlt; rw [hz] at h; exact h
  refine va_newaK (atype := .long) hexec hb (hts _ zk_o.2.2.2) rfl hdg rfl hn hN (by show N * 8 ≤ 536870912; omega) hcells hslots hz1 fun H1 cA e1 z1 o1 hAr hNm => ?_
  have hcA : cA = Z.2.2.2 := Option.some.inj (hNm.symm.trans (hK.2 1 _ rfl).2)
  subst hcA
  have hk : ∀ (k : Nat) (x : Nat × va_E), (zw Z σ)[k]? = some x → H1[x.1]? = H[x.1]? := fun k x hx => o1 x.1 (by rw [← hz1]; exact (hP k x hx).lt)
  refine kk H1 ⟨?_, z1, hlt⟩ ⟨Nat.le_trans hS.1 (by omega), fun x h1 h2 => (o1 x (by rw [← hz1]; exact Nat.lt_of_lt_of_le h1 hS.1)).trans (hS.2.1 x h1 h2), hS.2.2⟩
  rw [zw_push]
  refine (hP.kept hk).app (fun k x hx => ?_)
  rw [zsing hx]
  have he : zce Z (zuN σ) σ.2.2.2 = .inl (Z.2.2.2, N, .inr (.inl (fun _ => 0))) := by simp only [zce, hz, zuN_2]
  rw [he]
  exact e1
end ZA
end
section
theorem zk_0 (m : Nat) (h : m < 200) : ∀ e ∈ zC.getD m [], decode (zB m) e.1 = .ok (e.2.1, e.2.2) ∧ zgd e = true := by
  have t : ∀ (a : Nat), a ≤ m → m < a + 20 → m ∈ List.range' a 20 := fun a h1 h2 => List.mem_range'_1.mpr ⟨h1, h2⟩
  rcases (show m < 0 + 20 ∨ (20 ≤ m ∧ m < 20 + 20) ∨ (40 ≤ m ∧ m < 40 + 20) ∨ (60 ≤ m ∧ m < 60 + 20) ∨ (80 ≤ m ∧ m < 80 + 20) ∨ (100 ≤ m ∧ m < 100 + 20) ∨ (120 ≤ m ∧ m < 120 + 20) ∨ (140 ≤ m ∧ m < 140 + 20) ∨ (160 ≤ m ∧ m < 160 + 20) ∨ (180 ≤ m ∧ m < 180 + 20) by omega) with q | q | q | q | q | q | q | q | q | q
  · exact zk_d0 m (t 0 (Nat.zero_le _) q)
  · exact zk_d1 m (t 20 q.1 q.2)
  · exact zk_d2 m (t 40 q.1 q.2)
  · exact zk_d3 m (t 60 q.1 q.2)
  · exact zk_d4 m (t 80 q.1 q.2)
  · exact zk_d5 m (t 100 q.1 q.2)
  · exact zk_d6 m (t 120 q.1 q.2)
  · exact zk_d7 m (t 140 q.1 q.2)
  · exact zk_d8 m (t 160 q.1 q.2)
  · exact zk_d9 m (t 180 q.1 q.2)
theorem zcode_ok {m : Nat} (h : m < 197) : .code (zY m) (zB m) (zML m) (zRT m) ∈ zBG := by
  have t : ∀ (a : Nat), a ≤ m → m < a + 20 → m ∈ List.range' a 20 := fun a h1 h2 => List.mem_range'_1.mpr ⟨h1, h2⟩
  rcases (show m < 0 + 20 ∨ (20 ≤ m ∧ m < 20 + 20) ∨ (40 ≤ m ∧ m < 40 + 20) ∨ (60 ≤ m ∧ m < 60 + 20) ∨ (80 ≤ m ∧ m < 80 + 20) ∨ (100 ≤ m ∧ m < 100 + 20) ∨ (120 ≤ m ∧ m < 120 + 20) ∨ (140 ≤ m ∧ m < 140 + 20) ∨ (160 ≤ m ∧ m < 160 + 20) ∨ (180 ≤ m ∧ m < 180 + 19) by omega) with q | q | q | q | q | q | q | q | q | q
  · exact zk_w0 m (t 0 (Nat.zero_le _) q)
  · exact zk_w1 m (t 20 q.1 q.2)
  · exact zk_w2 m (t 40 q.1 q.2)
  · exact zk_w3 m (t 60 q.1 q.2)
  · exact zk_w4 m (t 80 q.1 q.2)
  · exact zk_w5 m (t 100 q.1 q.2)
  · exact zk_w6 m (t 120 q.1 q.2)
  · exact zk_w7 m (t 140 q.1 q.2)
  · exact zk_w8 m (t 160 q.1 q.2)
  · exact zk_w9 m (List.mem_range'_1.mpr q : m ∈ List.range' 180 19)
theorem zdec_ok {mm pc len : Nat} {ins : Instr} (hm : mm < 200) (h : zcd mm pc = some (ins, len)) : decode (zB mm) pc = .ok (ins, len) ∧ zgd (pc, ins, len) = true := by
  have h1 : (pc, (ins, len)) ∈ zC.getD mm [] := zmem (show (zC.getD mm []).lookup pc = some (ins, len) from h)
  have h2 := zk_0 mm hm (pc, ins, len) h1
  exact h2
theorem zm_ok {m : Nat} (h : m < 197) : (.initialized (zY m).cls ∈ zBG ∧ (if zKi m = 0 then Jvm.Cond.static (zY m) else .instanceMethod (zY m)) ∈ zBG ∧ (zKi m = 1 → .selects (zY m).cls (zY m) (zY m) ∈ zBG)) ∧
    ((zY m).cls ≠ "java/lang/invoke/MethodHandle" ∧ (zY m).cls ≠ "java/lang/invoke/VarHandle") ∧ (parseMethodDescriptor (zY m).desc).map (fun d => d.parameters.length) = some (zNa m) ∧ Jvm.plainName (zY m).cls = true ∧ zML m ≤ 15 ∧ (zKi m = 2 → (zY m).name = "<init>" ∧ zRT m = none) ∧ (zY m).cls = zNo (zOw m) := by
  have h1 := zall zk_m h
  simp only [zmP, Bool.and_eq_true, decide_eq_true_eq, Bool.or_eq_true, bne_iff_ne, beq_iff_eq, ne_eq] at h1
  obtain ⟨⟨⟨⟨⟨⟨⟨⟨⟨h1, h2⟩, h3⟩, h4⟩, h5⟩, h6⟩, h7⟩, h8⟩, h9⟩, h10⟩ := h1
  refine ⟨⟨List.mem_of_getElem? h1, List.mem_of_getElem? h2, fun q => ?_⟩, h4, h5, h6, h7, fun q => ?_, h9⟩
  · rcases h3 with h3 | h3
    · exact absurd q h3
    · exact List.mem_of_getElem? h3
  · rcases h8 with h8 | h8
    · exact absurd q h8
    · exact h8
theorem zkd_ci : ∀ a, a < 52 → (zkd a).1 = 0 → (zkd a).2 < 10 := by decide +kernel
abbrev zrm (d mm n : Nat) : Room := { frames := d, cells := zAl mm, slots := zSS (n + zAl mm) - zSS n, locals := 40 * d }
def zws (mm : Nat) : List Jvm.Cond := .code (zY mm) (zB mm) (zML mm) (zRT mm) :: zBG
def zQc (D : va_G) (Z : zQ) (mm : Nat) (K : Option Value → zSt → Prop) (σ : zSt) : Array Value → State → Outcome → State → Prop := fun _ st oc t =>
  (∃ (r : Option Value) (σ' : zSt), oc = .returned (r.map (zcv Z)) ∧ K r σ' ∧ σ'.2.2.2 = σ.2.2.2 + zAl mm ∧ zWd D Z σ' t.heap) ∧ va_F (fun q => Z.1 ≤ q) st t
def zPc (D : va_G) (Z : zQ) (as : List Value) (σ : zSt) : Array Value → State → Prop := va_Pc (as.map (zcv Z)) (fun U => zWd D Z σ U.heap ∧ zKK D Z U)
/-- what a call of a method keeps to, over the machine itself -/
def zMt (d mm : Nat) (as : List Value) (σ : zSt) (K : Option Value → zSt → Prop) : Prop := mm < 197 ∧ ∀ (l : Launch) (D : va_G) (Z : zQ), Met l (zY mm) (zws mm) (zrm d mm σ.2.2.2) (zPc D Z as σ) (zQc D Z mm K σ) (zAl mm) (zSS (σ.2.2.2 + zAl mm) - zSS σ.2.2.2) (fun q => Z.1 ≤ q)
theorem zws_good {mm : Nat} (h : mm < 197) : GoodIn zBG (zws mm) := fun w hw => by
  rcases List.mem_cons.mp hw with rfl | hw
  · exact zBG_good _ (zcode_ok h)
  · exact zBG_good w hw
theorem zPc_blind (D : va_G) (Z : zQ) (as : List Value) (σ : zSt) : FrameBlind (zPc D Z as σ) := fun a U g mk h => ⟨h.1, h.2.1, zKK_same (u := U) (U := U.calling g mk a) rfl h.2.2⟩
theorem zPc_of {D : va_G} {Z : zQ} {as : List Value} {σ : zSt} {s : State} {H : Heap} (hK : zKK D Z s) (hW : zWd D Z σ H) {v : List Value} (hv : v = as.map (zcv Z)) : ∀ U : State, U.heap = H → s.WarmedH U.vm → zPc D Z as σ v.toArray U := fun U hU hWm => ⟨by rw [hv], by rw [hU]; exact hW, zKK_warm hWm hK⟩
def zFx (D : va_G) (Z : zQ) (X : Nat × (Nat → Int32)) (mm d n0 lim : Nat) (p : Program) (R : Room) (s : State) (m : MethodId) (args : Array Value) (meth : Method) (c : Code) : Prop :=
  (p.tables.exec = Jvm.exec ∧ c.code = zB mm ∧ c.maxLocals = zML mm ∧ s.vm.findClass (zNo (zOw mm)) = some m.cls) ∧ (∀ w ∈ zBG, w.before args s = true) ∧ zKK D Z s ∧ (d + 1 ≤ R.frames ∧ 40 * (d + 1) ≤ R.locals) ∧ (zKi mm = 2 → meth.name = "<init>") ∧ (mm = mL_law → va_X Z.2.1 X.1 X.2 s s.heap ∧ Z.2.1 < Z.1 ∧ Z.2.1 < s.heap.size) ∧ (lim ≤ R.cells + n0 ∧ zSS lim ≤ R.slots + zSS n0) ∧ mm < 200
def zV (D : va_G) (Z : zQ) (mm n0 : Nat) (p : Program) (l : Launch) (e : Env) (R : Room) (s : State) (m : MethodId) (args : Array Value) (below : List Frame) (meth : Method) (c : Code) (Q : State → Prop) (pc : Nat) (L : zLo) (S : List Value) (σ : zSt) : Prop :=
  ∀ (H : Heap) (locs : List Loc) (ls : Array Slot) (cells slots : Nat), lv_has ls (zML mm) (zcL Z L) → zWd D Z σ H → va_S (fun q => Z.1 ≤ q) s.heap H locs → cells + n0 = σ.2.2.2 → slots + zSS n0 = zSS σ.2.2.2 → W p l e R s m args below meth c H locs cells slots Q (F0 m pc ls (S.map (zcv Z)))
section ZC
variable {p : Program} {l : Launch} {e : Env} {R : Room} {s : State} {m : MethodId} {args : Array Value} {below : List Frame} {meth : Method} {c : Code} {H : Heap} {locs : List Loc} {cells slots : Nat} {Q : State → Prop}
variable {pc : Nat} {ls : Array Slot} {rest st0 : List Value} {D : va_G} {Z : zQ} {σ : zSt} {a : Array Value} {mc ms : Nat}
theorem zfin {mm : Nat} {K : Option Value → zSt → Prop} (hr : va_Run p l e R s m args below meth c H locs cells slots mc ms (F0 m pc ls st0) rest (zQc D Z mm K σ a) (fun q => Z.1 ≤ q)) (hS : va_S (fun q => Z.1 ≤ q) s.heap H locs)
    (kk : ∀ (r : Option Value) (σ' : zSt) (H1 : Heap) (locs1 : List Loc), K r σ' → σ'.2.2.2 = σ.2.2.2 + zAl mm → zWd D Z σ' H1 → va_S (fun q => Z.1 ≤ q) s.heap H1 locs1 → W p l e R s m args below meth c H1 locs1 (cells + mc) (slots + ms) Q (F0 m (pc + 3) ls ((r.map (zcv Z)).toList ++ rest))) : W p l e R s m args below meth c H locs cells slots Q (F0 m pc ls st0) := by
  intro T hT X
  obtain ⟨v, st₀, t, T', L, h0, X', hL, e1, e2, ⟨⟨r, σ', hv, hK, hn, hW⟩, hz, hk⟩, st⟩ := hr T hT X
  cases hv
  rw [h0] at hz hk
  obtain ⟨t2, a1, b1⟩ := kk r σ' T'.heap (locs ++ L) hK hn (by rw [e1]; exact hW) ⟨Nat.le_trans hS.1 (by rw [e1]; exact hz), fun q h1 h2 => by rw [e1, hk q (Nat.lt_of_lt_of_le h1 hS.1) h2]; exact hS.2.1 q h1 h2, fun q hq => by
      rcases List.mem_append.mp hq with h | h
      · exact hS.2.2 q h
      · exact hL q h⟩ T' rfl X'
  exact ⟨t2, st t2 a1, b1⟩
theorem zstk {S : List Value} {n : Nat} : S.map (zcv Z) = ((S.take n).reverse.map (zcv Z)).reverse ++ (S.drop n).map (zcv Z) := by
  rw [← List.map_reverse, List.reverse_reverse, ← List.map_append, List.take_append_drop]
theorem zgo_on {mm n0 mk : Nat} {K : Option Value → zSt → Prop} {L : zLo} {Sr : List Value} (hS : va_S (fun q => Z.1 ≤ q) s.heap H locs) (hl : lv_has ls (zML mm) (zcL Z L)) (hc : cells + n0 = σ.2.2.2) (hs : slots + zSS n0 = zSS σ.2.2.2)
    (hr : va_Run p l e R s m args below meth c H locs cells slots (zAl mk) (zSS (σ.2.2.2 + zAl mk) - zSS σ.2.2.2) (F0 m pc ls st0) (Sr.map (zcv Z)) (zQc D Z mk K σ a) (fun q => Z.1 ≤ q))
    (kk : ∀ (r : Option Value) (σ' : zSt), K r σ' → σ'.2.2.2 = σ.2.2.2 + zAl mk → zV D Z mm n0 p l e R s m args below meth c Q (pc + 3) L (r.toList ++ Sr) σ') : W p l e R s m args below meth c H locs cells slots Q (F0 m pc ls st0) := by
  refine zfin hr hS (fun r σ' H1 locs1 hK hn hW hS1 => ?_)
  have h := kk r σ' hK hn H1 locs1 ls (cells + zAl mk) (slots + (zSS (σ.2.2.2 + zAl mk) - zSS σ.2.2.2)) hl hW hS1 (by omega) (by have := zSS_mono (Nat.le_add_right σ.2.2.2 (zAl mk)); rw [hn]; omega)
  rw [List.map_append] at h
  cases r <;> exact h
end ZC
end
section
theorem zk_math : (.static Lib.Math.max.name ∈ zBG ∧ .initialized "java/lang/Math" ∈ zBG ∧ .code Lib.Math.max.name Lib.Math.max.code 2 (some .int) ∈ zBG) ∧ .static Lib.Math.min.name ∈ zBG ∧ .code Lib.Math.min.name Lib.Math.min.code 2 (some .int) ∈ zBG :=
  ⟨⟨List.mem_of_getElem? (i := 523) (by decide +kernel), List.mem_of_getElem? (i := 524) (by decide +kernel), List.mem_of_getElem? (i := 525) (by decide +kernel)⟩, List.mem_of_getElem? (i := 527) (by decide +kernel), List.mem_of_getElem? (i := 528) (by decide +kernel)⟩
theorem zkt_spec {k t : Nat} (h : Nat.beq (zkt k) t = true) (ht : t < 3) (h3 : k ≠ 3) (h4 : k ≠ 4) (h5 : k ≠ 5) : (t = 0 ∧ (k = 0 ∨ k = 10)) ∨ (t = 1 ∧ k = 1) ∨ (t = 2 ∧ (k = 2 ∨ k = 12)) := by
  have h1 := Nat.eq_of_beq_eq_true h
  unfold zkt at h1
  split at h1 <;> omega
theorem zad_lt {Z : zQ} {a : Nat} (h : a < 52) : zad Z a = Z.1 + a := by
  unfold zad
  rw [if_neg (by unfold zsc; omega)]
section ZS
variable {p : Program} {l : Launch} {e : Env} {R : Room} {s : State} {m : MethodId} {args : Array Value} {below : List Frame} {meth : Method} {c : Code} {Q : State → Prop}
variable {D : va_G} {Z : zQ} {X : Nat × (Nat → Int32)} {mm d n0 lim : Nat} {C : Nat → List Value → zSt → (Option Value → zSt → Prop) → Prop} {K : Option Value → zSt → Prop}
theorem zcall_sound (F : zFx D Z X mm d n0 lim p R s m args meth c) (hC : ∀ mk as σ K, C mk as σ K → zMt d mk as σ K) {t i pc : Nat} {S : List Value} {σ : zSt} {L : zLo} {ins : Instr} (ht : (t = 0 ∧ ins = .invokestatic i) ∨ (t = 1 ∧ ins = .invokevirtual i) ∨ (t = 2 ∧ ins = .invokespecial i)) (hd : decode (zB mm) pc = .ok (ins, 3))
    (h : zcall C lim t (zOw mm) i S σ (fun S' σ' => zV D Z mm n0 p l e R s m args below meth c Q (pc + 3) L S' σ')) : zV D Z mm n0 p l e R s m args below meth c Q pc L S σ := by
  obtain ⟨⟨hx, hb, hml, hown⟩, hts, hKK, ⟨hfr, hlo⟩, hini, hscr, ⟨hlc, hls⟩, hmm⟩ := F
  have ht3 : t < 3 := by rcases ht with ⟨h, _⟩ | ⟨h, _⟩ | ⟨h, _⟩ <;> omega
  unfold zcall at h
  split at h
  · rename_i mk k w hct
    split at h
    · exact h.elim
    · rename_i hkt
      have hP := zc_ok hct
      split at h
      · -- the empty constructor
        have e2 : 2 = t := Nat.eq_of_beq_eq_true hkt
        subst e2
        obtain ⟨a, r, rfl, hcs, hk⟩ := zsR_spec h
        have hi : ins = .invokespecial i := by rcases ht with ⟨h, _⟩ | ⟨h, _⟩ | ⟨_, h⟩ <;> first | exact h | omega
        subst hi
        intro H locs ls cells slots hl hW hS hc hs
        have hlk := hts _ (List.mem_of_getElem? (of_decide_eq_true (show decide (zBG[w]? = some (.methodLink (zNo (zOw mm)) i objectInit)) = true from hP)))
        exact W.objInit hx hb hown hlk (hts _ zk_o.1) (hts _ zk_o.2.1) rfl (by rw [hml]; exact hl.1) (a := zad Z a) (rest := r.map (zcv Z)) rfl hd (by omega) (by show 2 * 0 + _ + 12 ≤ _; rw [zcs_map]; omega) (hk H locs ls cells slots hl hW hS hc hs)
      · have e2 : 0 = t := Nat.eq_of_beq_eq_true hkt
        subst e2
        obtain ⟨x, y, r, rfl, ⟨hcs, hlm⟩, hk⟩ := zsII_spec h
        have hi : ins = .invokestatic i := by rcases ht with ⟨_, h⟩ | ⟨h, _⟩ | ⟨h, _⟩ <;> first | exact h | omega
        subst hi
        intro H locs ls cells slots hl hW hS hc hs
        have hlk := hts _ (List.mem_of_getElem? (of_decide_eq_true (show decide (zBG[w]? = some (.methodLink (zNo (zOw mm)) i Lib.Math.max.name)) = true from hP)))
        exact va_mmax hx hb (by rw [hml]; exact hl.1.symm) hown hlk (hts _ zk_math.1.1) (hts _ zk_math.1.2.1) (hts _ zk_math.1.2.2) (by omega) (by rw [zcs_map]; omega) (by omega) (by have := zSS_mono hlm; omega) hd (hk H locs ls cells slots hl hW hS hc hs)
      · have e2 : 0 = t := Nat.eq_of_beq_eq_true hkt
        subst e2
        obtain ⟨x, y, r, rfl, ⟨hcs, hlm⟩, hk⟩ := zsII_spec h
        have hi : ins = .invokestatic i := by rcases ht with ⟨_, h⟩ | ⟨h, _⟩ | ⟨h, _⟩ <;> first | exact h | omega
        subst hi
        intro H locs ls cells slots hl hW hS hc hs
        have hlk := hts _ (List.mem_of_getElem? (of_decide_eq_true (show decide (zBG[w]? = some (.methodLink (zNo (zOw mm)) i Lib.Math.min.name)) = true from hP)))
        exact va_mmin hx hb (by rw [hml]; exact hl.1.symm) hown hlk (hts _ zk_math.2.1) (hts _ zk_math.1.2.1) (hts _ zk_math.2.2) (by omega) (by rw [zcs_map]; omega) (by omega) (by have := zSS_mono hlm; omega) hd (hk H locs ls cells slots hl hW hS hc hs)
      · rename_i n3 n4 n5
        obtain ⟨⟨h1, h2, h3, h4⟩, h5⟩ := h
        obtain ⟨hmk, hMet⟩ := hC _ _ _ _ h5
        have hMet := hMet l D Z
        obtain ⟨⟨fi, fs, fse⟩, fcl, fds, fpl, fml, fin, fow⟩ := zm_ok hmk
        have hP2 : ((if k < 10 then decide (zBG[w]? = some (.methodLink (zNo (zOw mm)) i (zY mk))) else decide (zNS[w]? = some (zNo (zOw mm), i, zY mk, RX8))) && decide (zKi mk = k % 10) && decide (mk < 197)) = true := by
          unfold zcP at hP
          split at hP
          · rename_i q; exact absurd q n3
          · rename_i q; exact absurd q n4
          · rename_i q; exact absurd q n5
          · exact hP
        rw [Bool.and_eq_true, Bool.and_eq_true] at hP2
        obtain ⟨⟨hP3, hP4⟩, -⟩ := hP2
        have hKi := of_decide_eq_true hP4
        have hG := zws_good hmk
        have hR : (zrm d mk σ.2.2.2).frames + 1 ≤ R.frames ∧ 8 + (zML mk + 11) + (zrm d mk σ.2.2.2).locals ≤ R.locals := ⟨hfr, by show 8 + (zML mk + 11) + 40 * d ≤ R.locals; omega⟩
        have hd3 : (zY mk).cls ≠ "java/lang/invoke/MethodHandle" ∧ (zY mk).cls ≠ "java/lang/invoke/VarHandle" ∧ (parseMethodDescriptor (zY mk).desc).map (fun d => d.parameters.length) = some (zNa mk) := ⟨fcl.1, fcl.2, fds⟩
        have hn : (S.take (zna mk (k % 10))).length = zna mk (k % 10) := by rw [List.length_take]; omega
        intro H locs ls cells slots hl hW hS hc hs
        have hsz : cells + zAl mk ≤ R.cells ∧ slots + (zSS (σ.2.2.2 + zAl mk) - zSS σ.2.2.2) ≤ R.slots := ⟨by omega, by have := zSS_mono h4; have := zSS_mono (Nat.le_add_right σ.2.2.2 (zAl mk)); omega⟩
        have hfix : CallFix p m c (zB mm) (zML mm) s args zBG (zNo (zOw mm)) := ⟨hx, hb, hml, hown, hts⟩
        have hrm : 2 * (F0 m pc ls (S.map (zcv Z))).monitorRoom + (((S.drop (zna mk (k % 10))).map (zcv Z)).map fun v => v.category).sum ≤ 8 := lv_room (by rw [zcs_map]; exact h1)
        rcases zkt_spec hkt ht3 n3 n4 n5 with ⟨rfl, rfl | rfl⟩ | ⟨rfl, rfl⟩ | ⟨rfl, rfl | rfl⟩
        · have hi : ins = .invokestatic i := by rcases ht with ⟨_, h⟩ | ⟨h, _⟩ | ⟨h, _⟩ <;> first | exact h | omega
          subst hi
          have hlk := List.mem_of_getElem? (of_decide_eq_true hP3)
          rw [if_pos hKi] at fs
          have hT : GoodIn zBG (va_wsS (zNo (zOw mm)) i (zY mk) (zws mk)) := fun w hw => by
            rcases List.mem_append.mp hw with q | q
            · simp only [List.mem_cons, List.not_mem_nil, or_false] at q
              rcases q with rfl | rfl | rfl
              · exact zBG_good _ hlk
              · exact zBG_good _ fs
              · exact zBG_good _ fi
            · exact hG w q
          exact zgo_on hS hl hc hs (va_runS (As := (S.take (zNa mk)).reverse.map (zcv Z)) (rest := (S.drop (zNa mk)).map (zcv Z)) hfix hMet (va_cwS (zNa mk) hts hT rfl rfl rfl hd3 hR) ⟨zPc_blind D Z _ σ, zPc_of hKK hW rfl⟩ rfl (by rw [List.length_map, List.length_reverse]; exact hn) hl.1 zstk hrm hd hsz) (fun r σ' hk hn => hk hn)
        · have hi : ins = .invokestatic i := by rcases ht with ⟨_, h⟩ | ⟨h, _⟩ | ⟨h, _⟩ <;> first | exact h | omega
          subst hi
          have hlk := hKK.2 _ (List.mem_of_getElem? (of_decide_eq_true hP3))
          rw [if_pos hKi] at fs
          exact zgo_on hS hl hc hs (va_runSN (As := (S.take (zNa mk)).reverse.map (zcv Z)) (rest := (S.drop (zNa mk)).map (zcv Z)) hfix hMet ⟨va_cnB (zNa mk) hts hG rfl rfl rfl hlk (hts _ fi) hd3 hR, hts _ fs, trivial⟩ ⟨zPc_blind D Z _ σ, zPc_of hKK hW rfl⟩ rfl (by rw [List.length_map, List.length_reverse]; exact hn) hl.1 zstk hrm hd hsz) (fun r σ' hk hn => hk hn)
        · have hi : ins = .invokevirtual i := by rcases ht with ⟨h, _⟩ | ⟨_, h⟩ | ⟨h, _⟩ <;> first | exact h | omega
          subst hi
          have hlk := List.mem_of_getElem? (of_decide_eq_true hP3)
          rw [if_neg (by rw [hKi]; decide)] at fs
          have fse := fse hKi
          generalize hes : (S.take (zna mk (1 % 10))).reverse = as at h3 h5 hMet
          match as, h3 with
          | .ref b :: u, h3 =>
            obtain ⟨hbn, hbk⟩ := h3
            have hb52 : b < 52 := zkd_lt hbk (by omega)
            have hci : zOw mk < 10 := by have := zkd_ci b hb52 (by rw [hbk]); rw [hbk] at this; exact this
            have hlen : (u.map (zcv Z)).length = zNa mk := by
              have h9 := congrArg List.length hes
              rw [List.length_reverse, hn] at h9
              rw [List.length_map]
              have : zna mk (1 % 10) = zNa mk + 1 := rfl
              rw [this, List.length_cons] at h9
              omega
            have hstk : S.map (zcv Z) = (u.map (zcv Z)).reverse ++ .ref (Z.1 + b) :: (S.drop (zna mk (1 % 10))).map (zcv Z) := by
              rw [zstk (n := zna mk (1 % 10)), hes, List.map_cons, List.reverse_cons, List.append_assoc]
              show _ ++ (Value.ref (zad Z b) :: _) = _
              rw [zad_lt hb52]
              rfl
            have hT : GoodIn zBG (wsV (zNo (zOw mm)) i (zY mk).cls (zY mk) (zws mk)) := fun w hw => by
              rcases List.mem_append.mp hw with q | q
              · simp only [List.mem_cons, List.not_mem_nil, or_false] at q
                rcases q with rfl | rfl | rfl | rfl
                · exact zBG_good _ hlk
                · exact zBG_good _ fs
                · exact zBG_good _ fse
                · exact zBG_good _ fi
              · exact hG w q
            have he : (zw Z σ)[b]? = some (Z.1 + b, .inr (zOw mk, zfs Z σ b (zOw mk))) := by rw [zw_at hbn]; simp only [zce, hbk]
            have hrc := va_recv hKK.1 hW.1 (zcl_at hci) he
            exact zgo_on hS hl hc hs (va_runV (b := Z.1 + b) (As := u.map (zcv Z)) (rest := (S.drop (zna mk (1 % 10))).map (zcv Z)) hfix hMet (cwV (C := (zY mk).cls) (zNa mk) hts hT rfl rfl rfl ⟨rfl, fcl.1, fcl.2, fds⟩ hR) ⟨zPc_blind D Z _ σ, by rw [fow]; exact hrc, zPc_of hKK hW (by rw [List.map_cons]; show _ = Value.ref (zad Z b) :: _; rw [zad_lt hb52])⟩ rfl hlen hl.1 hstk hrm hd hsz) (fun r σ' hk hn => hk hn)
        · have hi : ins = .invokespecial i := by rcases ht with ⟨h, _⟩ | ⟨h, _⟩ | ⟨_, h⟩ <;> first | exact h | omega
          subst hi
          have hlk := hts _ (List.mem_of_getElem? (of_decide_eq_true hP3))
          rw [if_neg (by rw [hKi]; decide)] at fs
          obtain ⟨fnm, frt⟩ := fin hKi
          generalize hes : (S.take (zna mk (2 % 10))).reverse = as at h3 h5 hMet
          match as, h3 with
          | .ref b :: u, h3 =>
            have hlen : (u.map (zcv Z)).length = zNa mk := by
              have h9 := congrArg List.length hes
              rw [List.length_reverse, hn] at h9
              rw [List.length_map]
              have : zna mk (2 % 10) = zNa mk + 1 := rfl
              rw [this, List.length_cons] at h9
              omega
            have hstk : S.map (zcv Z) = (u.map (zcv Z)).reverse ++ .ref (zad Z b) :: (S.drop (zna mk (2 % 10))).map (zcv Z) := by
              rw [zstk (n := zna mk (2 % 10)), hes, List.map_cons, List.reverse_cons, List.append_assoc]
              rfl
            exact zgo_on hS hl hc hs (va_runI (b := zad Z b) (As := u.map (zcv Z)) (rest := (S.drop (zna mk (2 % 10))).map (zcv Z)) hfix hMet (cwI (bytes := zB mk) (maxL := zML mk) (zNa mk) hts hG (by unfold zws; rw [frt]) rfl rfl (hts _ fi) hlk (hts _ fs) fnm hd3 hR) ⟨zPc_blind D Z _ σ, zPc_of hKK hW rfl⟩ rfl hlen hl.1 hstk hrm hd hsz) (fun r σ' hk hn => hk hn)
        · have hi : ins = .invokespecial i := by rcases ht with ⟨h, _⟩ | ⟨h, _⟩ | ⟨_, h⟩ <;> first | exact h | omega
          subst hi
          have hlk := hKK.2 _ (List.mem_of_getElem? (of_decide_eq_true hP3))
          rw [if_neg (by rw [hKi]; decide)] at fs
          obtain ⟨fnm, frt⟩ := fin hKi
          generalize hes : (S.take (zna mk (12 % 10))).reverse = as at h3 h5 hMet
          match as, h3 with
          | .ref b :: u, h3 =>
            have hlen : (u.map (zcv Z)).length = zNa mk := by
              have h9 := congrArg List.length hes
              rw [List.length_reverse, hn] at h9
              rw [List.length_map]
              have : zna mk (12 % 10) = zNa mk + 1 := rfl
              rw [this, List.length_cons] at h9
              omega
            have hstk : S.map (zcv Z) = (u.map (zcv Z)).reverse ++ .ref (zad Z b) :: (S.drop (zna mk (12 % 10))).map (zcv Z) := by
              rw [zstk (n := zna mk (12 % 10)), hes, List.map_cons, List.reverse_cons, List.append_assoc]
              rfl
            exact zgo_on hS hl hc hs (va_runIN (b := zad Z b) (As := u.map (zcv Z)) (rest := (S.drop (zna mk (12 % 10))).map (zcv Z)) hfix hMet ⟨va_cnB (bytes := zB mk) (maxL := zML mk) (ret := none) (zNa mk) hts hG (by unfold zws; rw [frt]) rfl rfl hlk (hts _ fi) hd3 hR, fnm, hts _ fs⟩ ⟨zPc_blind D Z _ σ, zPc_of hKK hW rfl⟩ rfl hlen hl.1 hstk hrm hd hsz) (fun r σ' hk hn => hk hn)
  · exact h.elim
end ZS
end
section
section ZT
variable {p : Program} {l : Launch} {e : Env} {R : Room} {s : State} {m : MethodId} {args : Array Value} {below : List Frame} {meth : Method} {c : Code} {Q : State → Prop}
variable {D : va_G} {Z : zQ} {X : Nat × (Nat → Int32)} {mm d n0 lim : Nat} {C : Nat → List Value → zSt → (Option Value → zSt → Prop) → Prop} {K : Option Value → zSt → Prop}
theorem zobj {σ : zSt} {a ci : Nat} (ha : a < σ.2.2.2) (hz : zkd a = (0, ci)) : (zw Z σ)[a]? = some (Z.1 + a, .inr (ci, zfs Z σ a ci)) := by rw [zw_at ha]; simp only [zce, hz]
theorem zpair {a t : Nat} (h : (zkd a).1 = t) : zkd a = (t, (zkd a).2) := by rw [← h]
set_option maxHeartbeats 4000000 in
theorem zstep (F : zFx D Z X mm d n0 lim p R s m args meth c) (hC : ∀ mk as σ K, C mk as σ K → zMt d mk as σ K)
    (hri : ∀ (x : Int32) (σ : zSt) (pc : Nat) (H : Heap) (locs : List Loc) (ls : Array Slot) (cells slots : Nat), zret mm (.int x) → σ.2.2.2 = lim → K (some (.int x)) σ → decode (zB mm) pc = .ok (.ireturn, 1) → zWd D Z σ H → va_S (fun q => Z.1 ≤ q) s.heap H locs → cells + n0 = σ.2.2.2 → slots + zSS n0 = zSS σ.2.2.2 → W p l e R s m args below meth c H locs cells slots Q (F0 m pc ls [.int x]))
    (hrl : ∀ (x : Int64) (σ : zSt) (pc : Nat) (H : Heap) (locs : List Loc) (ls : Array Slot) (cells slots : Nat), zret mm (.long x) → σ.2.2.2 = lim → K (some (.long x)) σ → decode (zB mm) pc = .ok (.lreturn, 1) → zWd D Z σ H → va_S (fun q => Z.1 ≤ q) s.heap H locs → cells + n0 = σ.2.2.2 → slots + zSS n0 = zSS σ.2.2.2 → W p l e R s m args below meth c H locs cells slots Q (F0 m pc ls [.long x]))
    (hrv : ∀ (σ : zSt) (pc : Nat) (H : Heap) (locs : List Loc) (ls : Array Slot) (cells slots : Nat), zRT mm = none → σ.2.2.2 = lim → K none σ → decode (zB mm) pc = .ok (.return_, 1) → zWd D Z σ H → va_S (fun q => Z.1 ≤ q) s.heap H locs → cells + n0 = σ.2.2.2 → slots + zSS n0 = zSS σ.2.2.2 → W p l e R s m args below meth c H locs cells slots Q (F0 m pc ls []))
    {ins : Instr} {len pc : Nat} {L : zLo} {S : List Value} {σ : zSt} (hcd : zcd mm pc = some (ins, len)) (h : zSI C X mm lim (zV D Z mm n0 p l e R s m args below meth c Q) K ins pc L S σ) : zV D Z mm n0 p l e R s m args below meth c Q pc L S σ := by
  have F0' := F
  obtain ⟨⟨hx, hb, hml, hown⟩, hts, hKK, ⟨hfr, hlo⟩, hini, hscr, ⟨hlc, hls⟩, hmm⟩ := F
  obtain ⟨hd0, hg⟩ := zdec_ok hmm hcd
  have hz := zG hg
  cases ins with
  | aload_n n =>
    obtain ⟨a, h1, k⟩ := zlR_spec h
    intro H locs ls cells slots hl hW hS hc hs
    exact lv_aload_n hx hb (zD hd0 hg rfl) rfl (zcL_get hl h1) (k H locs ls cells slots hl hW hS hc hs)
  | iload_n n =>
    obtain ⟨a, h1, k⟩ := zlI_spec h
    intro H locs ls cells slots hl hW hS hc hs
    exact lv_iload_n hx hb (zD hd0 hg rfl) rfl (zcL_get hl h1) (k H locs ls cells slots hl hW hS hc hs)
  | lload_n n =>
    obtain ⟨a, h1, k⟩ := zlJ_spec h
    intro H locs ls cells slots hl hW hS hc hs
    exact lv_lload_n hx hb (zD hd0 hg rfl) rfl (zcL_get hl h1) (k H locs ls cells slots hl hW hS hc hs)
  | iload n =>
    obtain ⟨a, h1, k⟩ := zlI_spec h
    intro H locs ls cells slots hl hW hS hc hs
    exact lv_iload hx hb (zD hd0 hg rfl) (zcL_get hl h1) (k H locs ls cells slots hl hW hS hc hs)
  | lload n =>
    obtain ⟨a, h1, k⟩ := zlJ_spec h
    intro H locs ls cells slots hl hW hS hc hs
    exact lv_lload hx hb (zD hd0 hg rfl) (zcL_get hl h1) (k H locs ls cells slots hl hW hS hc hs)
  | istore_n n =>
    obtain ⟨x, r, rfl, hn, k⟩ := zsI_spec h
    intro H locs ls cells slots hl hW hS hc hs
    exact lv_istore_n hx hb (zD hd0 hg rfl) rfl hl hn (zcL_1 Z L n (.int x)) (fun ls' hl' => k H locs ls' cells slots hl' hW hS hc hs)
  | istore n =>
    obtain ⟨x, r, rfl, hn, k⟩ := zsI_spec h
    intro H locs ls cells slots hl hW hS hc hs
    exact lv_istore hx hb (zD hd0 hg rfl) hl hn (zcL_1 Z L n (.int x)) (fun ls' hl' => k H locs ls' cells slots hl' hW hS hc hs)
  | lstore_n n =>
    obtain ⟨x, r, rfl, hn, k⟩ := zsJ_spec h
    intro H locs ls cells slots hl hW hS hc hs
    exact lv_lstore_n hx hb (zD hd0 hg rfl) rfl hl hn (zcL_2 Z L n (.long x)) (fun ls' hl' => k H locs ls' cells slots hl' hW hS hc hs)
  | lstore n =>
    obtain ⟨x, r, rfl, hn, k⟩ := zsJ_spec h
    intro H locs ls cells slots hl hW hS hc hs
    exact lv_lstore hx hb (zD hd0 hg rfl) hl hn (zcL_2 Z L n (.long x)) (fun ls' hl' => k H locs ls' cells slots hl' hW hS hc hs)
  | astore_n n =>
    obtain ⟨x, r, rfl, hn, k⟩ := zsR_spec h
    intro H locs ls cells slots hl hW hS hc hs
    exact lv_astore_n hx hb (zD hd0 hg rfl) rfl hl hn (zcL_1 Z L n (.ref x)) (fun ls' hl' => k H locs ls' cells slots hl' hW hS hc hs)
  | iinc n q =>
    obtain ⟨hn, h⟩ := h
    obtain ⟨a, h1, k⟩ := zlI_spec h
    intro H locs ls cells slots hl hW hS hc hs
    obtain ⟨j, hj⟩ := zcL_at (Z := Z) h1
    exact lv_iinc hx hb (zD hd0 hg rfl) hl hj rfl hn (zcL_1 Z L n (.int (a + Int32.ofInt q))) (fun ls' hl' => k H locs ls' cells slots hl' hW hS hc hs)
  | iconst n =>
    intro H locs ls cells slots hl hW hS hc hs
    exact lv_iconst hx hb (zD hd0 hg rfl) rfl (h H locs ls cells slots hl hW hS hc hs)
  | bipush n =>
    intro H locs ls cells slots hl hW hS hc hs
    exact lv_bipush hx hb (zD hd0 hg rfl) rfl (h H locs ls cells slots hl hW hS hc hs)
  | sipush n =>
    intro H locs ls cells slots hl hW hS hc hs
    exact lv_sipush hx hb (zD hd0 hg rfl) rfl (h H locs ls cells slots hl hW hS hc hs)
  | lconst n =>
    intro H locs ls cells slots hl hW hS hc hs
    exact lv_lconst hx hb (zD hd0 hg rfl) rfl (h H locs ls cells slots hl hW hS hc hs)
  | ldc i =>
    intro H locs ls cells slots hl hW hS hc hs
    unfold zSI at h
    dsimp only at h
    split at h
    · rename_i v w hv
      exact lv_ldc hx hb hown (hts _ (zi_ok hv)) (zD hd0 hg rfl) (h H locs ls cells slots hl hW hS hc hs)
    · exact h.elim
  | ldc_w i =>
    intro H locs ls cells slots hl hW hS hc hs
    unfold zSI at h
    dsimp only at h
    split at h
    · rename_i v w hv
      exact lv_ldcw hx hb hown (hts _ (zi_ok hv)) (zD hd0 hg rfl) (h H locs ls cells slots hl hW hS hc hs)
    · exact h.elim
  | ldc2_w i =>
    intro H locs ls cells slots hl hW hS hc hs
    unfold zSI at h
    dsimp only at h
    split at h
    · rename_i v w hv
      exact lv_ldc2 hx hb hown (hts _ (zj_ok hv)) (zD hd0 hg rfl) (h H locs ls cells slots hl hW hS hc hs)
    · exact h.elim
  | iadd =>
    obtain ⟨x, y, r, rfl, k⟩ := zsII_spec h
    intro H locs ls cells slots hl hW hS hc hs
    exact lv_iadd hx hb (zD hd0 hg rfl) (k H locs ls cells slots hl hW hS hc hs)
  | isub =>
    obtain ⟨x, y, r, rfl, k⟩ := zsII_spec h
    intro H locs ls cells slots hl hW hS hc hs
    exact lv_isub hx hb (zD hd0 hg rfl) (k H locs ls cells slots hl hW hS hc hs)
  | imul =>
    obtain ⟨x, y, r, rfl, k⟩ := zsII_spec h
    intro H locs ls cells slots hl hW hS hc hs
    exact lv_imul hx hb (zD hd0 hg rfl) (k H locs ls cells slots hl hW hS hc hs)
  | iand =>
    obtain ⟨x, y, r, rfl, k⟩ := zsII_spec h
    intro H locs ls cells slots hl hW hS hc hs
    exact lv_iand hx hb (zD hd0 hg rfl) (k H locs ls cells slots hl hW hS hc hs)
  | ior =>
    obtain ⟨x, y, r, rfl, k⟩ := zsII_spec h
    intro H locs ls cells slots hl hW hS hc hs
    exact lv_ior hx hb (zD hd0 hg rfl) (k H locs ls cells slots hl hW hS hc hs)
  | ixor =>
    obtain ⟨x, y, r, rfl, k⟩ := zsII_spec h
    intro H locs ls cells slots hl hW hS hc hs
    exact lv_ixor hx hb (zD hd0 hg rfl) (k H locs ls cells slots hl hW hS hc hs)
  | ishl =>
    obtain ⟨x, y, r, rfl, k⟩ := zsII_spec h
    intro H locs ls cells slots hl hW hS hc hs
    exact lv_ishl hx hb (zD hd0 hg rfl) (k H locs ls cells slots hl hW hS hc hs)
  | ishr =>
    obtain ⟨x, y, r, rfl, k⟩ := zsII_spec h
    intro H locs ls cells slots hl hW hS hc hs
    exact lv_ishr hx hb (zD hd0 hg rfl) (k H locs ls cells slots hl hW hS hc hs)
  | iushr =>
    obtain ⟨x, y, r, rfl, k⟩ := zsII_spec h
    intro H locs ls cells slots hl hW hS hc hs
    exact lv_iushr hx hb (zD hd0 hg rfl) rfl (k H locs ls cells slots hl hW hS hc hs)
  | idiv =>
    obtain ⟨x, y, r, rfl, hy, k⟩ := zsII_spec h
    intro H locs ls cells slots hl hW hS hc hs
    exact lv_idiv hx hb (zD hd0 hg rfl) hy (k H locs ls cells slots hl hW hS hc hs)
  | irem =>
    obtain ⟨x, y, r, rfl, hy, k⟩ := zsII_spec h
    intro H locs ls cells slots hl hW hS hc hs
    exact lv_irem hx hb (zD hd0 hg rfl) hy (k H locs ls cells slots hl hW hS hc hs)
  | ineg =>
    obtain ⟨x, r, rfl, k⟩ := zsI_spec h
    intro H locs ls cells slots hl hW hS hc hs
    exact lv_ineg hx hb (zD hd0 hg rfl) (k H locs ls cells slots hl hW hS hc hs)
  | i2l =>
    obtain ⟨x, r, rfl, k⟩ := zsI_spec h
    intro H locs ls cells slots hl hW hS hc hs
    exact lv_i2l hx hb (zD hd0 hg rfl) rfl (k H locs ls cells slots hl hW hS hc hs)
  | i2b =>
    obtain ⟨x, r, rfl, k⟩ := zsI_spec h
    intro H locs ls cells slots hl hW hS hc hs
    exact lv_i2b hx hb (zD hd0 hg rfl) rfl (k H locs ls cells slots hl hW hS hc hs)
  | i2s =>
    obtain ⟨x, r, rfl, k⟩ := zsI_spec h
    intro H locs ls cells slots hl hW hS hc hs
    exact lv_i2s hx hb (zD hd0 hg rfl) rfl (k H locs ls cells slots hl hW hS hc hs)
  | l2i =>
    obtain ⟨x, r, rfl, k⟩ := zsJ_spec h
    intro H locs ls cells slots hl hW hS hc hs
    exact lv_l2i hx hb (zD hd0 hg rfl) rfl (k H locs ls cells slots hl hW hS hc hs)
  | ladd =>
    obtain ⟨x, y, r, rfl, k⟩ := zsJJ_spec h
    intro H locs ls cells slots hl hW hS hc hs
    exact lv_ladd hx hb (zD hd0 hg rfl) (k H locs ls cells slots hl hW hS hc hs)
  | lsub =>
    obtain ⟨x, y, r, rfl, k⟩ := zsJJ_spec h
    intro H locs ls cells slots hl hW hS hc hs
    exact lv_lsub hx hb (zD hd0 hg rfl) (k H locs ls cells slots hl hW hS hc hs)
  | lmul =>
    obtain ⟨x, y, r, rfl, k⟩ := zsJJ_spec h
    intro H locs ls cells slots hl hW hS hc hs
    exact lv_lmul hx hb (zD hd0 hg rfl) (k H locs ls cells slots hl hW hS hc hs)
  | ldiv =>
    obtain ⟨x, y, r, rfl, hy, k⟩ := zsJJ_spec h
    intro H locs ls cells slots hl hW hS hc hs
    exact lv_ldiv hx hb (zD hd0 hg rfl) hy (k H locs ls cells slots hl hW hS hc hs)
  | lneg =>
    obtain ⟨x, r, rfl, k⟩ := zsJ_spec h
    intro H locs ls cells slots hl hW hS hc hs
    exact lv_lneg hx hb (zD hd0 hg rfl) (k H locs ls cells slots hl hW hS hc hs)
  | lcmp =>
    obtain ⟨x, y, r, rfl, k⟩ := zsJJ_spec h
    intro H locs ls cells slots hl hW hS hc hs
    exact W.lcmp hx hb (zD hd0 hg rfl) (k H locs ls cells slots hl hW hS hc hs)
  | dup =>
    obtain ⟨v, r, rfl, hv, k⟩ := zs1_spec h
    intro H locs ls cells slots hl hW hS hc hs
    exact lv_dup hx hb (zD hd0 hg rfl) (by rw [zcv_cat]; exact hv) (k H locs ls cells slots hl hW hS hc hs)
  | dup2 =>
    obtain ⟨v, w, r, rfl, ⟨hv, hw⟩, k⟩ := zs2_spec h
    intro H locs ls cells slots hl hW hS hc hs
    exact lv_dup2_11 hx hb (zD hd0 hg rfl) (by rw [zcv_cat]; exact hv) (by rw [zcv_cat]; exact hw) (k H locs ls cells slots hl hW hS hc hs)
  | pop =>
    obtain ⟨v, r, rfl, hv, k⟩ := zs1_spec h
    intro H locs ls cells slots hl hW hS hc hs
    exact lv_pop hx hb (zD hd0 hg rfl) (by rw [zcv_cat]; exact hv) (k H locs ls cells slots hl hW hS hc hs)
  | ifCond cn off =>
    obtain ⟨x, r, rfl, k1, k2⟩ := zsI_spec h
    intro H locs ls cells slots hl hW hS hc hs
    have ht := ztg_ok (of_decide_eq_true hz)
    cases cn
    · exact lv_if_eq hx hb (zD hd0 hg rfl) ht (fun q => k1 q H locs ls cells slots hl hW hS hc hs) (fun q => k2 q H locs ls cells slots hl hW hS hc hs)
    · exact lv_if_ne hx hb (zD hd0 hg rfl) ht (fun q => k1 q H locs ls cells slots hl hW hS hc hs) (fun q => k2 (fun z => z q) H locs ls cells slots hl hW hS hc hs)
    · exact lv_if_lt hx hb (zD hd0 hg rfl) ht (fun q => k1 q H locs ls cells slots hl hW hS hc hs) (fun q => k2 q H locs ls cells slots hl hW hS hc hs)
    · exact lv_if_ge hx hb (zD hd0 hg rfl) ht (fun q => k1 q H locs ls cells slots hl hW hS hc hs) (fun q => k2 q H locs ls cells slots hl hW hS hc hs)
    · exact lv_if_gt hx hb (zD hd0 hg rfl) ht (fun q => k1 q H locs ls cells slots hl hW hS hc hs) (fun q => k2 q H locs ls cells slots hl hW hS hc hs)
    · exact lv_if_le hx hb (zD hd0 hg rfl) ht (fun q => k1 q H locs ls cells slots hl hW hS hc hs) (fun q => k2 q H locs ls cells slots hl hW hS hc hs)
  | if_icmp cn off =>
    obtain ⟨x, y, r, rfl, k1, k2⟩ := zsII_spec h
    intro H locs ls cells slots hl hW hS hc hs
    have ht := ztg_ok (of_decide_eq_true hz)
    cases cn
    · exact lv_icmp_eq hx hb (zD hd0 hg rfl) ht (fun q => k1 q H locs ls cells slots hl hW hS hc hs) (fun q => k2 q H locs ls cells slots hl hW hS hc hs)
    · exact lv_icmp_ne hx hb (zD hd0 hg rfl) ht (fun q => k1 q H locs ls cells slots hl hW hS hc hs) (fun q => k2 (fun z => z q) H locs ls cells slots hl hW hS hc hs)
    · exact lv_icmp_lt hx hb (zD hd0 hg rfl) ht (fun q => k1 q H locs ls cells slots hl hW hS hc hs) (fun q => k2 q H locs ls cells slots hl hW hS hc hs)
    · exact lv_icmp_ge hx hb (zD hd0 hg rfl) ht (fun q => k1 q H locs ls cells slots hl hW hS hc hs) (fun q => k2 q H locs ls cells slots hl hW hS hc hs)
    · exact lv_icmp_gt hx hb (zD hd0 hg rfl) ht (fun q => k1 q H locs ls cells slots hl hW hS hc hs) (fun q => k2 q H locs ls cells slots hl hW hS hc hs)
    · exact lv_icmp_le hx hb (zD hd0 hg rfl) ht (fun q => k1 q H locs ls cells slots hl hW hS hc hs) (fun q => k2 q H locs ls cells slots hl hW hS hc hs)
  | ifnull off =>
    obtain ⟨a, r, rfl, k⟩ := zsR_spec h
    intro H locs ls cells slots hl hW hS hc hs
    exact lv_ifnull hx hb (zD hd0 hg rfl) (k H locs ls cells slots hl hW hS hc hs)
  | goto off =>
    intro H locs ls cells slots hl hW hS hc hs
    exact lv_goto hx hb (zD hd0 hg rfl) (ztg_ok (of_decide_eq_true hz)) (h H locs ls cells slots hl hW hS hc hs)
  | tableswitch df lo hi offs =>
    obtain ⟨x, r, rfl, k1, k2⟩ := zsI_spec h
    intro H locs ls cells slots hl hW hS hc hs
    by_cases q : x.toInt < lo ∨ hi < x.toInt
    · exact lv_tableOut hx hb hd0 q (ztg_ok (of_decide_eq_true hz)) (k1 q H locs ls cells slots hl hW hS hc hs)
    · have q1 : ¬ x.toInt < lo := fun z => q (Or.inl z)
      have q2 : ¬ hi < x.toInt := fun z => q (Or.inr z)
      obtain ⟨off, h1, h2, k⟩ := k2 ⟨q1, q2⟩
      exact lv_tableIn hx hb hd0 q1 q2 h1 (ztg_ok h2) (k H locs ls cells slots hl hW hS hc hs)
  | getfield i =>
    obtain ⟨a, r, rfl, h2⟩ := zsR_spec h
    clear h
    have h := h2
    clear h2
    intro H locs ls cells slots hl hW hS hc hs
    split at h
    · rename_i ci k w hft
      obtain ⟨⟨ha, hk⟩, h⟩ := h
      obtain ⟨f1, f2, f3⟩ := zf_ok hft
      have ha52 := zkd_lt hk (by omega)
      show W p l e R s m args below meth c H locs cells slots Q (F0 m pc ls (.ref (zad Z a) :: r.map (zcv Z)))
      rw [zad_lt ha52]
      refine va_get hx hb hts (zin f3) hown hKK.1 hW.1 a (zobj ha hk) (zcl_at f3) k f2 (hts _ f1) (fun _ h => h) (zfs_at f2) (zD hd0 hg rfl) ?_
      have ht := (zt_ok f3 f2).1
      unfold zgF at h
      unfold zfv
      generalize zTY ci k = ty at ht h ⊢
      cases ty with
      | int => exact h H locs ls cells slots hl hW hS hc hs
      | boolean => exact h H locs ls cells slots hl hW hS hc hs
      | long => exact h H locs ls cells slots hl hW hS hc hs
      | array t =>
        obtain ⟨b, hb1, h⟩ := h
        have h2 := h H locs ls cells slots hl hW hS hc hs
        show W p l e R s m args below meth c H locs cells slots Q (F0 m (pc + 3) ls (zcv Z (σ.2.2.1 a k) :: r.map (zcv Z)))
        rw [hb1]
        exact h2
      | object t =>
        obtain ⟨b, hb1, h⟩ := h
        have h2 := h H locs ls cells slots hl hW hS hc hs
        show W p l e R s m args below meth c H locs cells slots Q (F0 m (pc + 3) ls (zcv Z (σ.2.2.1 a k) :: r.map (zcv Z)))
        rw [hb1]
        exact h2
      | _ => cases ht
    · exact h.elim
  | putfield i =>
    obtain ⟨v, a, r, rfl, h2⟩ := zsP_spec h
    clear h
    have h := h2
    clear h2
    intro H locs ls cells slots hl hW hS hc hs
    split at h
    · rename_i ci k w hft
      obtain ⟨⟨ha, hk, hfin⟩, h⟩ := h
      obtain ⟨f1, f2, f3⟩ := zf_ok hft
      have ha52 := zkd_lt hk (by omega)
      have hfin2 : (zTT ci k).2.2.2 = false ∨ (meth.name = "<init>" ∧ zNo ci = zNo (zOw mm)) := by
        rcases hfin with q | ⟨q1, q2⟩
        · exact Or.inl q
        · exact Or.inr ⟨hini q1, by rw [q2]⟩
      have ht := (zt_ok f3 f2).1
      show W p l e R s m args below meth c H locs cells slots Q (F0 m pc ls (zcv Z v :: .ref (zad Z a) :: r.map (zcv Z)))
      rw [zad_lt ha52]
      have key : ∀ (σ' : zSt), narrow (zTY ci k) (zcv Z v) = zcv Z v → fits (zTY ci k) (zcv Z v) = true → σ'.2.2.2 = σ.2.2.2 → zfv Z σ' a (zTY ci k) k = zcv Z v → (∀ j, j ≠ k → zfv Z σ' a (zTY ci j) j = zfv Z σ a (zTY ci j) j) → (∀ b, b ≠ a → zce Z σ' b = zce Z σ b) → zV D Z mm n0 p l e R s m args below meth c Q (pc + 3) L r σ' → W p l e R s m args below meth c H locs cells slots Q (F0 m pc ls (zcv Z v :: .ref (Z.1 + a) :: r.map (zcv Z))) := by
        intro σ' hn hf hn' g1 g2 g3 k9
        refine zput hx hb f3 hts hown hKK.1 hW.1 hS ha hk f2 f1 hfin2 hn hf (zD hd0 hg rfl) (fun H1 locs1 hP1 hz1 hS1 => ?_)
        have he : zce Z σ' a = .inr (ci, (zfs Z σ a ci).set k (zcv Z v)) := by
          rw [← zfs_set f2 g1 g2]; simp only [zce, hk]
        rw [zw_set ha hn' he g3] at hP1
        exact k9 H1 locs1 ls cells slots hl ⟨hP1, by rw [hz1, hn']; exact hW.2.1, by rw [hn']; exact hW.2.2⟩ hS1 (by rw [hn']; exact hc) (by rw [hn']; exact hs)
      unfold zpF at h
      have hI : ∀ x : Int32, zfv Z (zuI σ a k x) a .int k = .int x := fun x => by
        show Value.int ((if a = a then upd (σ.1 a) k x else σ.1 a) k) = _
        rw [if_pos rfl]; unfold upd; rw [if_pos rfl]
      have hIo : ∀ (x : Int32) (j : Nat), j ≠ k → ∀ t, zfv Z (zuI σ a k x) a t j = zfv Z σ a t j := fun x j hj t => by
        have e1 : (zuI σ a k x).1 a j = σ.1 a j := by
          show (if a = a then upd (σ.1 a) k x else σ.1 a) j = _
          rw [if_pos rfl]; unfold upd; rw [if_neg hj]
        unfold zfv
        cases t <;> first | rfl | (dsimp only; rw [e1])
      have hJ : ∀ x : Int64, zfv Z (zuJ σ a k x) a .long k = .long x := fun x => by
        show Value.long ((if a = a then vp_updL (σ.2.1 a) k x else σ.2.1 a) k) = _
        rw [if_pos rfl]; unfold vp_updL; rw [if_pos rfl]
      have hJo : ∀ (x : Int64) (j : Nat), j ≠ k → ∀ t, zfv Z (zuJ σ a k x) a t j = zfv Z σ a t j := fun x j hj t => by
        have e1 : (zuJ σ a k x).2.1 a j = σ.2.1 a j := by
          show (if a = a then vp_updL (σ.2.1 a) k x else σ.2.1 a) j = _
          rw [if_pos rfl]; unfold vp_updL; rw [if_neg hj]
        unfold zfv
        cases t <;> first | rfl | (dsimp only; rw [e1])
      have hRo : ∀ (x : Value) (j : Nat), j ≠ k → ∀ t, zfv Z (zuR σ a k x) a t j = zfv Z σ a t j := fun x j hj t => by
        have e1 : (zuR σ a k x).2.2.1 a j = σ.2.2.1 a j := by
          show (if a = a then va_up (σ.2.2.1 a) k x else σ.2.2.1 a) j = _
          rw [if_pos rfl]; unfold va_up; rw [if_neg hj]
        unfold zfv
        cases t <;> first | rfl | (dsimp only; rw [e1])
      have hR : ∀ x : Value, (zuR σ a k x).2.2.1 a k = x := fun x => by
        show (if a = a then va_up (σ.2.2.1 a) k x else σ.2.2.1 a) k = _
        rw [if_pos rfl]; unfold va_up; rw [if_pos rfl]
      generalize htt : zTY ci k = ty at ht h key
      split at h
      · rename_i x
        exact key (zuI σ a k x) rfl rfl rfl (hI x) (fun j hj => hIo x j hj _) (fun b hb => zce_uI hb) h
      · rename_i x
        obtain ⟨h01, h⟩ := h
        exact key (zuI σ a k x) (by rcases h01 with rfl | rfl <;> rfl) (by rcases h01 with rfl | rfl <;> rfl) rfl (hI x) (fun j hj => hIo x j hj _) (fun b hb => zce_uI hb) h
      · rename_i x
        exact key (zuJ σ a k x) rfl rfl rfl (hJ x) (fun j hj => hJo x j hj _) (fun b hb => zce_uJ hb) h
      · rename_i t b
        exact key (zuR σ a k (.ref b)) rfl rfl rfl (by show zcv Z _ = _; rw [hR]) (fun j hj => hRo _ j hj _) (fun b hb => zce_uR hb) h
      · rename_i t b
        exact key (zuR σ a k (.ref b)) rfl rfl rfl (by show zcv Z _ = _; rw [hR]) (fun j hj => hRo _ j hj _) (fun b hb => zce_uR hb) h
      · exact h.elim
    · exact h.elim
  | iaload =>
    obtain ⟨a, i, r, rfl, h2⟩ := zsA_spec h
    clear h
    have h := h2
    clear h2
    intro H locs ls cells slots hl hW hS hc hs
    split at h
    · rename_i hq
      obtain ⟨⟨hlaw, hin⟩, k⟩ := h
      obtain ⟨hX, hb1, hb2⟩ := hscr hlaw
      have ha : a = zsc := Nat.eq_of_beq_eq_true hq
      have e1 : zad Z a = Z.2.1 := by unfold zad; rw [if_pos ha]
      show W p l e R s m args below meth c H locs cells slots Q (F0 m pc ls (.int i :: .ref (zad Z a) :: r.map (zcv Z)))
      rw [e1]
      exact va_sld hx hb hX hb2 (Nat.not_le.mpr hb1) hS hin (zD hd0 hg rfl) (k H locs ls cells slots hl hW hS hc hs)
    · obtain ⟨⟨ha, hk, hin⟩, k⟩ := h
      obtain ⟨n, hk2⟩ : ∃ n, zkd a = (1, n) := ⟨_, zpair hk⟩
      rw [hk2] at hin
      have ha52 := zkd_lt hk2 (by omega)
      show W p l e R s m args below meth c H locs cells slots Q (F0 m pc ls (.int i :: .ref (zad Z a) :: r.map (zcv Z)))
      rw [zad_lt ha52]
      have he : (zw Z σ)[a]? = some (Z.1 + a, .inl (Z.2.2.1, n, .inl (σ.1 a))) := by rw [zw_at ha]; simp only [zce, hk2]
      exact va_iald hx hb hKK.1 hW.1 a 0 he rfl hin (zD hd0 hg rfl) (k H locs ls cells slots hl hW hS hc hs)
  | laload =>
    obtain ⟨a, i, r, rfl, ⟨ha, hk, hin⟩, k⟩ := zsA_spec h
    intro H locs ls cells slots hl hW hS hc hs
    obtain ⟨n, hk2⟩ : ∃ n, zkd a = (2, n) := ⟨_, zpair hk⟩
    rw [hk2] at hin
    have ha52 := zkd_lt hk2 (by omega)
    show W p l e R s m args below meth c H locs cells slots Q (F0 m pc ls (.int i :: .ref (zad Z a) :: r.map (zcv Z)))
    rw [zad_lt ha52]
    have he : (zw Z σ)[a]? = some (Z.1 + a, .inl (Z.2.2.2, n, .inr (.inl (σ.2.1 a)))) := by rw [zw_at ha]; simp only [zce, hk2]
    exact va_lald hx hb hKK.1 hW.1 a 1 he rfl hin (zD hd0 hg rfl) (k H locs ls cells slots hl hW hS hc hs)
  | iastore =>
    obtain ⟨a, i, x, r, rfl, ⟨ha, hk, hin⟩, k⟩ := zsAI_spec h
    intro H locs ls cells slots hl hW hS hc hs
    obtain ⟨n, hk2⟩ : ∃ n, zkd a = (1, n) := ⟨_, zpair hk⟩
    rw [hk2] at hin
    have ha52 := zkd_lt hk2 (by omega)
    show W p l e R s m args below meth c H locs cells slots Q (F0 m pc ls (.int x :: .int i :: .ref (zad Z a) :: r.map (zcv Z)))
    rw [zad_lt ha52]
    refine ziast hx hb hKK.1 hW.1 hS ha hk2 hin (zD hd0 hg rfl) (fun H1 locs1 hP1 hz1 hS1 => ?_)
    have he : zce Z (zuI σ a i.toNatClampNeg x) a = .inl (Z.2.2.1, n, .inl (upd (σ.1 a) i.toNatClampNeg x)) := by
      have e1 : (zuI σ a i.toNatClampNeg x).1 a = upd (σ.1 a) i.toNatClampNeg x := by show (if a = a then _ else _) = _; rw [if_pos rfl]
      simp only [zce, hk2, e1]
    rw [zw_set (σ' := zuI σ a i.toNatClampNeg x) ha rfl he (fun b hb => zce_uI hb)] at hP1
    exact k H1 locs1 ls cells slots hl ⟨hP1, hz1.trans hW.2.1, hW.2.2⟩ hS1 hc hs
  | lastore =>
    obtain ⟨a, i, x, r, rfl, ⟨ha, hk, hin⟩, k⟩ := zsAJ_spec h
    intro H locs ls cells slots hl hW hS hc hs
    obtain ⟨n, hk2⟩ : ∃ n, zkd a = (2, n) := ⟨_, zpair hk⟩
    rw [hk2] at hin
    have ha52 := zkd_lt hk2 (by omega)
    show W p l e R s m args below meth c H locs cells slots Q (F0 m pc ls (.long x :: .int i :: .ref (zad Z a) :: r.map (zcv Z)))
    rw [zad_lt ha52]
    refine zlast hx hb hKK.1 hW.1 hS ha hk2 hin (zD hd0 hg rfl) (fun H1 locs1 hP1 hz1 hS1 => ?_)
    have he : zce Z (zuJ σ a i.toNatClampNeg x) a = .inl (Z.2.2.2, n, .inr (.inl (vp_updL (σ.2.1 a) i.toNatClampNeg x))) := by
      have e1 : (zuJ σ a i.toNatClampNeg x).2.1 a = vp_updL (σ.2.1 a) i.toNatClampNeg x := by show (if a = a then _ else _) = _; rw [if_pos rfl]
      simp only [zce, hk2, e1]
    rw [zw_set (σ' := zuJ σ a i.toNatClampNeg x) ha rfl he (fun b hb => zce_uJ hb)] at hP1
    exact k H1 locs1 ls cells slots hl ⟨hP1, hz1.trans hW.2.1, hW.2.2⟩ hS1 hc hs
  | arraylength =>
    obtain ⟨a, r, rfl, h2⟩ := zsR_spec h
    clear h
    have h := h2
    clear h2
    intro H locs ls cells slots hl hW hS hc hs
    split at h
    · rename_i hq
      obtain ⟨hlaw, k⟩ := h
      obtain ⟨hX, hb1, hb2⟩ := hscr hlaw
      have ha : a = zsc := Nat.eq_of_beq_eq_true hq
      have e1 : zad Z a = Z.2.1 := by unfold zad; rw [if_pos ha]
      show W p l e R s m args below meth c H locs cells slots Q (F0 m pc ls (.ref (zad Z a) :: r.map (zcv Z)))
      rw [e1]
      exact va_slen hx hb hX hb2 (Nat.not_le.mpr hb1) hS (zD hd0 hg rfl) (k H locs ls cells slots hl hW hS hc hs)
    · obtain ⟨⟨ha, hk⟩, k⟩ := h
      obtain ⟨n, hk2⟩ : ∃ n, zkd a = (1, n) := ⟨_, zpair hk⟩
      rw [hk2] at k
      have ha52 := zkd_lt hk2 (by omega)
      show W p l e R s m args below meth c H locs cells slots Q (F0 m pc ls (.ref (zad Z a) :: r.map (zcv Z)))
      rw [zad_lt ha52]
      have he : (zw Z σ)[a]? = some (Z.1 + a, .inl (Z.2.2.1, n, .inl (σ.1 a))) := by rw [zw_at ha]; simp only [zce, hk2]
      exact va_alen hx hb hKK.1 hW.1 a 0 he rfl rfl (zD hd0 hg rfl) (k H locs ls cells slots hl hW hS hc hs)
  | newarray t =>
    obtain ⟨n, r, rfl, ⟨hk, ht, hn, hlim⟩, k⟩ := zsI_spec h
    intro H locs ls cells slots hl hW hS hc hs
    have hSS : zSS (σ.2.2.2 + 1) = zSS σ.2.2.2 + zsl σ.2.2.2 := rfl
    have hm := zSS_mono hlim
    rcases ht with rfl | rfl
    · have hsl : zsl σ.2.2.2 = n.toNatClampNeg := by unfold zsl; rw [hk]; rfl
      refine znewI hx hb hts hKK.1 hW hS hk hn rfl (by omega) (by omega) (zD hd0 hg rfl) (fun H1 hW1 hS1 => ?_)
      have h52 := zkd_lt hk (by decide)
      have h9 := k H1 locs ls (cells + 1) (slots + n.toNatClampNeg) hl hW1 hS1 (by show _ = σ.2.2.2 + 1; omega) (by show _ = zSS (σ.2.2.2 + 1); omega)
      have e9 : (Value.ref σ.2.2.2 :: r).map (zcv Z) = Value.ref (Z.1 + σ.2.2.2) :: r.map (zcv Z) := by rw [List.map_cons]; show Value.ref (zad Z _) :: _ = _; rw [zad_lt h52]
      rw [e9] at h9
      exact h9
    · have hsl : zsl σ.2.2.2 = n.toNatClampNeg := by unfold zsl; rw [hk]; rfl
      refine znewJ hx hb hts hKK.1 hW hS hk hn rfl (by omega) (by omega) (zD hd0 hg rfl) (fun H1 hW1 hS1 => ?_)
      have h52 := zkd_lt hk (by decide)
      have h9 := k H1 locs ls (cells + 1) (slots + n.toNatClampNeg) hl hW1 hS1 (by show _ = σ.2.2.2 + 1; omega) (by show _ = zSS (σ.2.2.2 + 1); omega)
      have e9 : (Value.ref σ.2.2.2 :: r).map (zcv Z) = Value.ref (Z.1 + σ.2.2.2) :: r.map (zcv Z) := by rw [List.map_cons]; show Value.ref (zad Z _) :: _ = _; rw [zad_lt h52]
      rw [e9] at h9
      exact h9
  | new i =>
    intro H locs ls cells slots hl hW hS hc hs
    unfold zSI at h
    dsimp only at h
    split at h
    · rename_i ci w hcl
      obtain ⟨⟨hk, hlim⟩, k⟩ := h
      obtain ⟨f1, f2⟩ := zl_ok hcl
      have hSS : zSS (σ.2.2.2 + 1) = zSS σ.2.2.2 + zsl σ.2.2.2 := rfl
      have hm := zSS_mono hlim
      have hsl : zsl σ.2.2.2 = zNF ci := by unfold zsl; rw [hk]; rfl
      refine znew hx hb f2 hts hown hKK.1 hW hS f1 hk (by omega) (by omega) (zD hd0 hg rfl) (fun H1 hW1 hS1 => ?_)
      have h52 := zkd_lt hk (by decide)
      have h9 := k H1 locs ls (cells + 1) (slots + zNF ci) hl hW1 hS1 (by show _ = σ.2.2.2 + 1; omega) (by show _ = zSS (σ.2.2.2 + 1); omega)
      have e9 : (Value.ref σ.2.2.2 :: S).map (zcv Z) = Value.ref (Z.1 + σ.2.2.2) :: S.map (zcv Z) := by rw [List.map_cons]; show Value.ref (zad Z _) :: _ = _; rw [zad_lt h52]
      rw [e9] at h9
      exact h9
    · exact h.elim
  | invokestatic i => exact zcall_sound F0' hC (t := 0) (Or.inl ⟨rfl, rfl⟩) (zD hd0 hg rfl) h
  | invokevirtual i => exact zcall_sound F0' hC (t := 1) (Or.inr (Or.inl ⟨rfl, rfl⟩)) (zD hd0 hg rfl) h
  | invokespecial i => exact zcall_sound F0' hC (t := 2) (Or.inr (Or.inr ⟨rfl, rfl⟩)) (zD hd0 hg rfl) h
  | ireturn =>
    obtain ⟨h1, h⟩ := h
    obtain ⟨x, r, rfl, hr, hn, k⟩ := zsI_spec h
    have hr0 : r = [] := List.eq_nil_of_length_eq_zero (by simpa using h1)
    subst hr0
    intro H locs ls cells slots hl hW hS hc hs
    exact hri x σ pc H locs ls cells slots hr hn k (zD hd0 hg rfl) hW hS hc hs
  | lreturn =>
    obtain ⟨h1, h⟩ := h
    obtain ⟨x, r, rfl, hr, hn, k⟩ := zsJ_spec h
    have hr0 : r = [] := List.eq_nil_of_length_eq_zero (by simpa using h1)
    subst hr0
    intro H locs ls cells slots hl hW hS hc hs
    exact hrl x σ pc H locs ls cells slots hr hn k (zD hd0 hg rfl) hW hS hc hs
  | return_ =>
    obtain ⟨h1, hr, hn, k⟩ := h
    have hr0 : S = [] := List.eq_nil_of_length_eq_zero h1
    subst hr0
    intro H locs ls cells slots hl hW hS hc hs
    exact hrv σ pc H locs ls cells slots hr hn k (zD hd0 hg rfl) hW hS hc hs
  | _ => exact False.elim h
end ZT
end
section
theorem lg_sl_cv (Z : zQ) (as : List Value) : (lg_sl (as.map (zcv Z))).length = (lg_sl as).length := by
  induction as with
  | nil => rfl
  | cons v t ih =>
    have e : ∀ (w : Value) (u : List Value), (lg_sl (w :: u)).length = (if w.category = 2 then 2 else 1) + (lg_sl u).length := by
      intro w u
      rcases lv_cat w with h | h <;> simp [lg_sl, h] <;> omega
    rw [List.map_cons, e, e, ih, zcv_cat]
theorem zV_weak {D : va_G} {Z : zQ} {mm n0 : Nat} {p : Program} {l : Launch} {e : Env} {R : Room} {s : State} {m : MethodId} {args : Array Value} {below : List Frame} {meth : Method} {c : Code} {Q : State → Prop} {pc : Nat} {L L' : zLo} {S : List Value} {σ : zSt} (hq : ∀ q ∈ L', q ∈ L) (h : zV D Z mm n0 p l e R s m args below meth c Q pc L' S σ) : zV D Z mm n0 p l e R s m args below meth c Q pc L S σ := fun H locs ls cells slots hl hW hS hc hs => h H locs ls cells slots ⟨hl.1, hl.2.1, fun q h1 => by
  obtain ⟨x, hx, rfl⟩ := List.mem_map.mp h1
  exact hl.2.2 _ (List.mem_map.mpr ⟨x, hq x hx, rfl⟩)⟩ hW hS hc hs
theorem zmet : ∀ (d mm : Nat) (as : List Value) (σ : zSt) (K : Option Value → zSt → Prop), zSp d mm as σ K → zMt d mm as σ K := by
  intro d
  induction d with
  | zero => intro mm as σ K h; exact h.elim
  | succ d ih =>
    intro mm as σ K h
    obtain ⟨⟨hm, hlen⟩, hV⟩ := h
    refine ⟨hm, fun l D Z => ?_⟩
    obtain ⟨-, -, -, fpl, -, fin, fow⟩ := zm_ok hm
    refine Met.ofW (cc := zB mm) (maxL := zML mm) (ret := zRT mm) fpl rfl ?_
    intro p e s m args below meth c s₁ B hml hv
    obtain ⟨rfl, hW, hK⟩ := hv
    have hlocks := B.notSynchronized
    have hts := atoms_spec (ws := zws mm) B.pre
    have hmono := zSS_mono (Nat.le_add_right σ.2.2.2 (zAl mm))
    have F : zFx D Z (0, fun _ => 0) mm d σ.2.2.2 (σ.2.2.2 + zAl mm) p (headSpec (zws mm) (zrm (d + 1) mm σ.2.2.2)).room s m (as.map (zcv Z)).toArray meth c :=
      ⟨⟨B.exec, B.bytes, hml, by rw [← fow]; exact findClass_of_methodNamed B.named⟩, fun w hw => hts w (List.mem_cons_of_mem _ hw), hK, ⟨Nat.le_refl _, Nat.le_refl _⟩, fun q => by rw [(name_of_methodNamed B.named B.method).1]; exact (fin q).1, fun q => absurd q (by intro q; rw [q] at hm; exact absurd hm (by decide)), ⟨by show _ ≤ zAl mm + _; omega, by show _ ≤ (zSS (σ.2.2.2 + zAl mm) - zSS σ.2.2.2) + _; omega⟩, by omega⟩
    have h1 := hV (zV D Z mm σ.2.2.2 p l e (headSpec (zws mm) (zrm (d + 1) mm σ.2.2.2)).room s m (as.map (zcv Z)).toArray below meth c (MQ below (zQc D Z mm K σ) (as.map (zcv Z)).toArray s (zAl mm) (zSS (σ.2.2.2 + zAl mm) - zSS σ.2.2.2) (fun q => Z.1 ≤ q))) ⟨(fun pc L S σ' hst => by
      unfold zST at hst
      split at hst
      · rename_i ins len hcd
        refine zstep F ih ?_ ?_ ?_ hcd hst
        · intro x τ pc H locs ls cells slots hr hn k hd hW' hS hc hs
          have e1 : cells = zAl mm := by omega
          have e2 : slots = zSS (σ.2.2.2 + zAl mm) - zSS σ.2.2.2 := by rw [← hn]; omega
          subst e1
          subst e2
          have hq : ∀ t : State, t.heap = H → s.WarmedH t.vm → zQc D Z mm K σ (as.map (zcv Z)).toArray s (.returned (some (.int x))) t := fun t ht _ => ⟨⟨some (.int x), τ, rfl, k, hn, by rw [ht]; exact hW'⟩, hS.F ht⟩
          unfold zret at hr
          split at hr
          · rename_i hrt _
            exact W.iret B.exec B.bytes (B.returns.trans hrt) hq hS.2.2 hd
          · rename_i hrt hx
            cases hx
            exact W.zret B.exec B.bytes (B.returns.trans hrt) (by rcases hr with rfl | rfl <;> rfl) hq hS.2.2 hd
          · rename_i hx
            cases hx
          · exact hr.elim
        · intro x τ pc H locs ls cells slots hr hn k hd hW' hS hc hs
          have e1 : cells = zAl mm := by omega
          have e2 : slots = zSS (σ.2.2.2 + zAl mm) - zSS σ.2.2.2 := by rw [← hn]; omega
          subst e1
          subst e2
          have hq : ∀ t : State, t.heap = H → s.WarmedH t.vm → zQc D Z mm K σ (as.map (zcv Z)).toArray s (.returned (some (.long x))) t := fun t ht _ => ⟨⟨some (.long x), τ, rfl, k, hn, by rw [ht]; exact hW'⟩, hS.F ht⟩
          unfold zret at hr
          split at hr
          · rename_i hx
            cases hx
          · rename_i hx
            cases hx
          · rename_i hrt _
            exact W.lret B.exec B.bytes (B.returns.trans hrt) hq hS.2.2 hd
          · exact hr.elim
        · intro τ pc H locs ls cells slots hr hn k hd hW' hS hc hs
          have e1 : cells = zAl mm := by omega
          have e2 : slots = zSS (σ.2.2.2 + zAl mm) - zSS σ.2.2.2 := by rw [← hn]; omega
          subst e1
          subst e2
          have hq : ∀ t : State, t.heap = H → s.WarmedH t.vm → zQc D Z mm K σ (as.map (zcv Z)).toArray s (.returned none) t := fun t ht _ => ⟨⟨none, τ, rfl, k, hn, by rw [ht]; exact hW'⟩, hS.F ht⟩
          exact W.vret B.exec B.bytes (B.returns.trans hr) hq hS.2.2 hd
      · exact hst.elim), fun _ _ _ _ _ hq hv => zV_weak hq hv⟩
    rw [lg_entry_eq]
    exact h1 s.heap [] _ 0 0 (by rw [← zcL_args]; exact lv_entry _ (by rw [lg_sl_cv]; exact hlen)) hW va_S.rf (by omega) (by omega)
end
section
def z0 : zSt := (fun _ _ => 0, fun _ _ => 0, fun _ _ => .null, 0)
/-- the law over the small machine -/
def zLaw (X : Nat × (Nat → Int32)) : Prop := ∀ V, zOk (zSp 7) X mL_law 52 V (fun r _ => r = some (.int 1)) → V 0 [(0, .ref zsc)] [] z0
theorem zNS_in : ∀ q ∈ zNS, Jvm.Cond.methodLinkNest q.1 q.2.1 q.2.2.1 q.2.2.2 ∈ lw_tbl := by decide +kernel
theorem zSS_52 : zSS 52 = 1208 := by decide +kernel
end
section
/-! the small machine once more, where the cells that a method knows are there and hold the references that they always hold -/
def zRs : List ((Nat × Nat) × Nat) := [((0, 0), 1), ((0, 1), 4), ((0, 2), 7), ((0, 3), 10), ((0, 4), 14), ((0, 5), 18), ((0, 6), 21), ((0, 7), 24), ((0, 8), 26), ((1, 0), 2), ((1, 1), 3), ((4, 0), 5), ((4, 1), 6), ((7, 0), 8), ((7, 1), 9), ((10, 0), 11), ((10, 1), 12), ((10, 2), 13), ((14, 0), 15), ((14, 1), 16), ((14, 2), 17), ((18, 0), 19), ((18, 1), 20), ((21, 0), 22), ((21, 1), 23), ((24, 0), 25), ((26, 0), 27), ((26, 1), 28), ((26, 2), 29),
  ((30, 1), 31), ((30, 2), 32), ((30, 3), 33), ((30, 4), 34), ((30, 6), 35), ((30, 7), 36), ((30, 10), 37), ((30, 11), 38), ((30, 12), 39), ((30, 19), 40), ((30, 20), 41), ((30, 21), 42), ((30, 23), 43), ((30, 24), 44), ((30, 26), 45), ((30, 27), 46), ((30, 30), 47), ((30, 31), 48), ((30, 32), 49), ((30, 33), 50), ((30, 34), 51)]
def zRr (a k : Nat) : Option Nat := match (zRs.find? fun q => Nat.beq q.1.1 a && Nat.beq q.1.2 k) with
  | some q => some q.2
  | none => none
/-- the cells of Kn are there, with their references -/
def zQI (Kn : Nat → Bool) (q : (Nat → Nat → Value) × Nat) : Prop := ∀ a, Kn a = true → a < q.2 ∧ ∀ k b, zRr a k = some b → q.1 a k = .ref b
theorem zQI_sub {Kn Kn' : Nat → Bool} {q : (Nat → Nat → Value) × Nat} (h : zQI Kn q) (hs : ∀ a, a < 52 → Kn' a = true → Kn a = true) (hb : ∀ a, Kn' a = true → a < 52) : zQI Kn' q := fun a ha => h a (hs a (hb a ha) ha)
def zgT (σ : zSt) (a k : Nat) (ty : FieldType) (G : Value → Prop) : Prop := match ty with
  | .int => G (.int (σ.1 a k))
  | .boolean => G (.int (σ.1 a k))
  | .long => G (.long (σ.2.1 a k))
  | _ => match zRr a k with
    | some b => G (.ref b)
    | none => False
def zpT (σ : zSt) (a k : Nat) (ty : FieldType) (v : Value) (G : zSt → Prop) : Prop := match ty, v with
  | .int, .int x => G (zuI σ a k x)
  | .boolean, .int x => (x = 0 ∨ x = 1) ∧ G (zuI σ a k x)
  | .long, .long x => G (zuJ σ a k x)
  | _, _ => False
def zcT (C : Nat → List Value → zSt → (Option Value → zSt → Prop) → Prop) (Kn : Nat → Bool) (t o i : Nat) (S : List Value) (σ : zSt) (G G0 : List Value → zSt → Prop) : Prop := match zct o i with
  | some (m, k, _) => match Nat.beq (zkt k) t with
    | false => False
    | true => match k with
      | 3 => False
      | 4 => zsII S (fun x y r => match Nat.ble (zcs r) 8 with
        | true => G (.int (if x < y then y else x) :: r) σ
        | false => False)
      | 5 => zsII S (fun x y r => match Nat.ble (zcs r) 8 with
        | true => G (.int (if y < x then y else x) :: r) σ
        | false => False)
      | _ => match Nat.ble (zcs (S.drop (zna m (k % 10)))) 8 && Nat.ble (zna m (k % 10)) S.length && Nat.beq (zAl m) 0 && (match k % 10 with
          | 0 => true
          | 1 => match (S.take (zna m (k % 10))).reverse with
            | .ref b :: _ => Kn b && (Nat.beq (zkd b).1 0 && Nat.beq (zkd b).2 (zOw m))
            | _ => false
          | _ => false) with
        | true => C m (S.take (zna m (k % 10))).reverse σ (fun r σ' => σ'.2.2.2 = σ.2.2.2 + zAl m → G0 (r.toList ++ S.drop (zna m (k % 10))) σ')
        | false => False
  | none => False
def zrT (m : Nat) (v : Value) (G : Prop) : Prop := match zRT m, v with
  | some .int, .int _ => G
  | some .boolean, .int x => (x = 0 ∨ x = 1) ∧ G
  | some .long, .long _ => G
  | _, _ => False
def zTI (C : Nat → List Value → zSt → (Option Value → zSt → Prop) → Prop) (X : Nat × (Nat → Int32)) (m : Nat) (Kn : Nat → Bool) (V V0 : Nat → zLo → List Value → zSt → Prop) (K : Option Value → zSt → Prop) (ins : Instr) (pc : Nat) (L : zLo) (S : List Value) (σ : zSt) : Prop := match ins with
  | .getfield i => zsR S (fun a r => match zft (zOw m) i with
    | some (ci, k, _) => match Kn a && (Nat.beq (zkd a).1 0 && Nat.beq (zkd a).2 ci) with
      | true => zgT σ a k (zTY ci k) (fun v => V (pc + 3) L (v :: r) σ)
      | false => False
    | none => False)
  | .putfield i => zsP S (fun v a r => match zft (zOw m) i with
    | some (ci, k, _) => match Kn a && (Nat.beq (zkd a).1 0 && Nat.beq (zkd a).2 ci) && !(zTT ci k).2.2.2 with
      | true => zpT σ a k (zTY ci k) v (fun σ' => V (pc + 3) L r σ')
      | false => False
    | none => False)
  | .iaload => zsA S (fun a i r => match Nat.beq a zsc with
    | true => False
    | false => match Kn a && Nat.beq (zkd a).1 1 with
      | true => vp_in i (zkd a).2 ∧ V (pc + 1) L (.int (σ.1 a i.toNatClampNeg) :: r) σ
      | false => False)
  | .laload => zsA S (fun a i r => match Kn a && Nat.beq (zkd a).1 2 with
      | true => vp_in i (zkd a).2 ∧ V (pc + 1) L (.long (σ.2.1 a i.toNatClampNeg) :: r) σ
      | false => False)
  | .iastore => zsAI S (fun a i x r => match Kn a && Nat.beq (zkd a).1 1 with
      | true => vp_in i (zkd a).2 ∧ V (pc + 1) L r (zuI σ a i.toNatClampNeg x)
      | false => False)
  | .lastore => zsAJ S (fun a i x r => match Kn a && Nat.beq (zkd a).1 2 with
      | true => vp_in i (zkd a).2 ∧ V (pc + 1) L r (zuJ σ a i.toNatClampNeg x)
      | false => False)
  | .arraylength => zsR S (fun a r => match Nat.beq a zsc with
    | true => False
    | false => match Kn a && Nat.beq (zkd a).1 1 with
      | true => V (pc + 1) L (.int (Int32.ofNat (zkd a).2) :: r) σ
      | false => False)
  | .newarray _ => False
  | .new _ => False
  | .istore_n n => match Nat.blt n (zML m) with
    | true => zsI S (fun x r => V (pc + 1) (zst1 L n (.int x)) r σ)
    | false => False
  | .istore n => match Nat.blt n (zML m) with
    | true => zsI S (fun x r => V (pc + 2) (zst1 L n (.int x)) r σ)
    | false => False
  | .lstore_n n => match Nat.blt (n + 1) (zML m) with
    | true => zsJ S (fun x r => V (pc + 1) (zst2 L n (.long x)) r σ)
    | false => False
  | .lstore n => match Nat.blt (n + 1) (zML m) with
    | true => zsJ S (fun x r => V (pc + 2) (zst2 L n (.long x)) r σ)
    | false => False
  | .iinc n k => match Nat.blt n (zML m) with
    | true => zlI (L.lookup n) (fun a => V (pc + 3) (zst1 L n (.int (a + Int32.ofInt k))) S σ)
    | false => False
  | .dup => zs1 S (fun v r => match Nat.beq v.category 1 with
    | true => V (pc + 1) L (v :: v :: r) σ
    | false => False)
  | .dup2 => zs2 S (fun v w r => match Nat.beq v.category 1 && Nat.beq w.category 1 with
    | true => V (pc + 1) L (v :: w :: v :: w :: r) σ
    | false => False)
  | .pop => zs1 S (fun v r => match Nat.beq v.category 1 with
    | true => V (pc + 1) L r σ
    | false => False)
  | .invokestatic i => zcT C Kn 0 (zOw m) i S σ (fun S' σ' => V (pc + 3) L S' σ') (fun S' σ' => V0 (pc + 3) L S' σ')
  | .invokevirtual i => zcT C Kn 1 (zOw m) i S σ (fun S' σ' => V (pc + 3) L S' σ') (fun S' σ' => V0 (pc + 3) L S' σ')
  | .invokespecial _ => False
  | .ireturn => match S with
    | [.int x] => zrT m (.int x) (K (some (.int x)) σ)
    | _ => False
  | .lreturn => match S with
    | [.long x] => zrT m (.long x) (K (some (.long x)) σ)
    | _ => False
  | .return_ => match S, zRT m with
    | [], none => K none σ
    | _, _ => False
  | i => zSI C X m 0 V K i pc L S σ
def zTT' (C : Nat → List Value → zSt → (Option Value → zSt → Prop) → Prop) (X : Nat × (Nat → Int32)) (m : Nat) (Kn : Nat → Bool) (V V0 : Nat → zLo → List Value → zSt → Prop) (K : Option Value → zSt → Prop) (pc : Nat) (L : zLo) (S : List Value) (σ : zSt) : Prop := match zcd m pc with
  | some (ins, _) => zTI C X m Kn V V0 K ins pc L S σ
  | none => False
/-- k steps -/
def zev (C : Nat → List Value → zSt → (Option Value → zSt → Prop) → Prop) (X : Nat × (Nat → Int32)) (m : Nat) (Kn : Nat → Bool) (V0 : Nat → zLo → List Value → zSt → Prop) (K : Option Value → zSt → Prop) : Nat → Nat → zLo → List Value → zSt → Prop
  | 0 => V0
  | k + 1 => zTT' C X m Kn (zev C X m Kn V0 K k) V0 K
end
section
section ZF
variable {C : Nat → List Value → zSt → (Option Value → zSt → Prop) → Prop} {X : Nat × (Nat → Int32)} {m lim : Nat} {Kn : Nat → Bool} {V V0 : Nat → zLo → List Value → zSt → Prop} {K : Option Value → zSt → Prop}
theorem zRr_spec {o : Option Nat} {G : Value → Prop} (h : match o with
    | some b => G (.ref b)
    | none => False) : ∃ b, o = some b ∧ G (.ref b) := by
  split at h
  · exact ⟨_, rfl, h⟩
  · exact h.elim
theorem zkd_of {a t n : Nat} (h : (Nat.beq (zkd a).1 t && Nat.beq (zkd a).2 n) = true) : zkd a = (t, n) := by
  rw [Bool.and_eq_true] at h
  rw [← Nat.eq_of_beq_eq_true h.1, ← Nat.eq_of_beq_eq_true h.2]
theorem zcT_ok {t o i : Nat} {S : List Value} {σ : zSt} {G G' G0 : List Value → zSt → Prop} (hI : zQI Kn σ.2.2) (hn : σ.2.2.2 = lim) (hk : ∀ S', G S' σ → G0 S' σ) (h : zcT C Kn t o i S σ G G0) : zcall C lim t o i S σ G0 := by
  unfold zcT at h
  unfold zcall
  split at h
  · rename_i mk k w hct
    rw [hct]
    dsimp only
    split at h
    · exact h.elim
    · rename_i hkt
      rw [hkt]
      dsimp only
      split at h
      · exact h.elim
      · obtain ⟨x, y, r, rfl, h2⟩ := zsII_spec h
        clear h
        have h := h2
        clear h2
        split at h
        · rename_i hc
          exact ⟨⟨Nat.le_of_ble_eq_true hc, Nat.le_of_eq hn⟩, hk _ h⟩
        · exact h.elim
      · obtain ⟨x, y, r, rfl, h2⟩ := zsII_spec h
        clear h
        have h := h2
        clear h2
        split at h
        · rename_i hc
          exact ⟨⟨Nat.le_of_ble_eq_true hc, Nat.le_of_eq hn⟩, hk _ h⟩
        · exact h.elim
      · rename_i n3 n4 n5
        split at h
        · rename_i hc
          rw [Bool.and_eq_true, Bool.and_eq_true, Bool.and_eq_true] at hc
          obtain ⟨⟨⟨c1, c2⟩, c3⟩, c4⟩ := hc
          have h9 : (zcs (S.drop (zna mk (k % 10))) ≤ 8 ∧ zna mk (k % 10) ≤ S.length ∧ zrc σ o mk (k % 10) (S.take (zna mk (k % 10))).reverse ∧ σ.2.2.2 + zAl mk ≤ lim) := by
            refine ⟨Nat.le_of_ble_eq_true c1, Nat.le_of_ble_eq_true c2, ?_, by rw [Nat.eq_of_beq_eq_true c3]; omega⟩
            generalize hes : (S.take (zna mk (k % 10))).reverse = as at c4 ⊢
            unfold zrc
            split at c4
            · rename_i e
              rw [e]
              trivial
            · rename_i e
              rw [e]
              split at c4
              · rename_i b u
                rw [Bool.and_eq_true] at c4
                exact ⟨(hI b c4.1).1, zkd_of c4.2⟩
              · cases c4
            · cases c4
          split
          · exact absurd rfl n3
          · exact absurd rfl n4
          · exact absurd rfl n5
          · exact ⟨h9, h⟩
        · exact h.elim
  · exact h.elim
set_option maxHeartbeats 4000000 in
theorem zTI_ok (hk : ∀ pc L S σ', zQI Kn σ'.2.2 → σ'.2.2.2 = lim → V pc L S σ' → V0 pc L S σ') {ins : Instr} {pc : Nat} {L : zLo} {S : List Value} {σ : zSt} (hI : zQI Kn σ.2.2) (hn : σ.2.2.2 = lim) (h : zTI C X m Kn V V0 K ins pc L S σ) : zSI C X m lim V0 K ins pc L S σ := by
  cases ins with
  | aload_n n =>
    obtain ⟨a, h1, k⟩ := zlR_spec h
    show zlR _ _
    rw [h1]
    exact hk _ _ _ _ hI hn k
  | iload_n n =>
    obtain ⟨a, h1, k⟩ := zlI_spec h
    show zlI _ _
    rw [h1]
    exact hk _ _ _ _ hI hn k
  | lload_n n =>
    obtain ⟨a, h1, k⟩ := zlJ_spec h
    show zlJ _ _
    rw [h1]
    exact hk _ _ _ _ hI hn k
  | iload n =>
    obtain ⟨a, h1, k⟩ := zlI_spec h
    show zlI _ _
    rw [h1]
    exact hk _ _ _ _ hI hn k
  | lload n =>
    obtain ⟨a, h1, k⟩ := zlJ_spec h
    show zlJ _ _
    rw [h1]
    exact hk _ _ _ _ hI hn k
  | istore_n n =>
    unfold zTI at h
    dsimp only at h
    split at h
    · rename_i hb
      obtain ⟨x, r, rfl, k⟩ := zsI_spec h
      exact ⟨Nat.le_of_ble_eq_true hb, hk _ _ _ _ hI hn k⟩
    · exact h.elim
  | istore n =>
    unfold zTI at h
    dsimp only at h
    split at h
    · rename_i hb
      obtain ⟨x, r, rfl, k⟩ := zsI_spec h
      exact ⟨Nat.le_of_ble_eq_true hb, hk _ _ _ _ hI hn k⟩
    · exact h.elim
  | lstore_n n =>
    unfold zTI at h
    dsimp only at h
    split at h
    · rename_i hb
      obtain ⟨x, r, rfl, k⟩ := zsJ_spec h
      exact ⟨Nat.le_of_ble_eq_true hb, hk _ _ _ _ hI hn k⟩
    · exact h.elim
  | lstore n =>
    unfold zTI at h
    dsimp only at h
    split at h
    · rename_i hb
      obtain ⟨x, r, rfl, k⟩ := zsJ_spec h
      exact ⟨Nat.le_of_ble_eq_true hb, hk _ _ _ _ hI hn k⟩
    · exact h.elim
  | astore_n n =>
    obtain ⟨x, r, rfl, h1, k⟩ := zsR_spec h
    exact ⟨h1, hk _ _ _ _ hI hn k⟩
  | iinc n q =>
    unfold zTI at h
    dsimp only at h
    split at h
    · rename_i hb
      obtain ⟨x, h1, k⟩ := zlI_spec h
      refine ⟨Nat.le_of_ble_eq_true hb, ?_⟩
      show zlI _ _
      rw [h1]
      exact hk _ _ _ _ hI hn k
    · exact h.elim
  | iconst n =>
    exact hk _ _ _ _ hI hn h
  | bipush n =>
    exact hk _ _ _ _ hI hn h
  | sipush n =>
    exact hk _ _ _ _ hI hn h
  | lconst n =>
    exact hk _ _ _ _ hI hn h
  | goto n =>
    exact hk _ _ _ _ hI hn h
  | ldc n =>
    unfold zTI zSI at h
    unfold zSI
    dsimp only at h ⊢
    split at h
    · exact hk _ _ _ _ hI hn h
    · exact h.elim
  | ldc_w n =>
    unfold zTI zSI at h
    unfold zSI
    dsimp only at h ⊢
    split at h
    · exact hk _ _ _ _ hI hn h
    · exact h.elim
  | ldc2_w n =>
    unfold zTI zSI at h
    unfold zSI
    dsimp only at h ⊢
    split at h
    · exact hk _ _ _ _ hI hn h
    · exact h.elim
  | iadd =>
    obtain ⟨x, y, r, rfl, k⟩ := zsII_spec h
    exact hk _ _ _ _ hI hn k
  | isub =>
    obtain ⟨x, y, r, rfl, k⟩ := zsII_spec h
    exact hk _ _ _ _ hI hn k
  | imul =>
    obtain ⟨x, y, r, rfl, k⟩ := zsII_spec h
    exact hk _ _ _ _ hI hn k
  | iand =>
    obtain ⟨x, y, r, rfl, k⟩ := zsII_spec h
    exact hk _ _ _ _ hI hn k
  | ior =>
    obtain ⟨x, y, r, rfl, k⟩ := zsII_spec h
    exact hk _ _ _ _ hI hn k
  | ixor =>
    obtain ⟨x, y, r, rfl, k⟩ := zsII_spec h
    exact hk _ _ _ _ hI hn k
  | ishl =>
    obtain ⟨x, y, r, rfl, k⟩ := zsII_spec h
    exact hk _ _ _ _ hI hn k
  | ishr =>
    obtain ⟨x, y, r, rfl, k⟩ := zsII_spec h
    exact hk _ _ _ _ hI hn k
  | iushr =>
    obtain ⟨x, y, r, rfl, k⟩ := zsII_spec h
    exact hk _ _ _ _ hI hn k
  | idiv =>
    obtain ⟨x, y, r, rfl, h1, k⟩ := zsII_spec h
    exact ⟨h1, hk _ _ _ _ hI hn k⟩
  | irem =>
    obtain ⟨x, y, r, rfl, h1, k⟩ := zsII_spec h
    exact ⟨h1, hk _ _ _ _ hI hn k⟩
  | ineg =>
    obtain ⟨x, r, rfl, k⟩ := zsI_spec h
    exact hk _ _ _ _ hI hn k
  | i2l =>
    obtain ⟨x, r, rfl, k⟩ := zsI_spec h
    exact hk _ _ _ _ hI hn k
  | i2b =>
    obtain ⟨x, r, rfl, k⟩ := zsI_spec h
    exact hk _ _ _ _ hI hn k
  | i2s =>
    obtain ⟨x, r, rfl, k⟩ := zsI_spec h
    exact hk _ _ _ _ hI hn k
  | l2i =>
    obtain ⟨x, r, rfl, k⟩ := zsJ_spec h
    exact hk _ _ _ _ hI hn k
  | lneg =>
    obtain ⟨x, r, rfl, k⟩ := zsJ_spec h
    exact hk _ _ _ _ hI hn k
  | ladd =>
    obtain ⟨x, y, r, rfl, k⟩ := zsJJ_spec h
    exact hk _ _ _ _ hI hn k
  | lsub =>
    obtain ⟨x, y, r, rfl, k⟩ := zsJJ_spec h
    exact hk _ _ _ _ hI hn k
  | lmul =>
    obtain ⟨x, y, r, rfl, k⟩ := zsJJ_spec h
    exact hk _ _ _ _ hI hn k
  | lcmp =>
    obtain ⟨x, y, r, rfl, k⟩ := zsJJ_spec h
    exact hk _ _ _ _ hI hn k
  | ldiv =>
    obtain ⟨x, y, r, rfl, h1, k⟩ := zsJJ_spec h
    exact ⟨h1, hk _ _ _ _ hI hn k⟩
  | dup =>
    obtain ⟨v, r, rfl, h2⟩ := zs1_spec h
    clear h
    have h := h2
    clear h2
    split at h
    · rename_i hb
      exact ⟨Nat.eq_of_beq_eq_true hb, hk _ _ _ _ hI hn h⟩
    · exact h.elim
  | pop =>
    obtain ⟨v, r, rfl, h2⟩ := zs1_spec h
    clear h
    have h := h2
    clear h2
    split at h
    · rename_i hb
      exact ⟨Nat.eq_of_beq_eq_true hb, hk _ _ _ _ hI hn h⟩
    · exact h.elim
  | dup2 =>
    obtain ⟨v, w, r, rfl, h2⟩ := zs2_spec h
    clear h
    have h := h2
    clear h2
    split at h
    · rename_i hb
      rw [Bool.and_eq_true] at hb
      exact ⟨⟨Nat.eq_of_beq_eq_true hb.1, Nat.eq_of_beq_eq_true hb.2⟩, hk _ _ _ _ hI hn h⟩
    · exact h.elim
  | ifCond c off =>
    obtain ⟨x, r, rfl, k1, k2⟩ := zsI_spec h
    exact ⟨fun q => hk _ _ _ _ hI hn (k1 q), fun q => hk _ _ _ _ hI hn (k2 q)⟩
  | if_icmp c off =>
    obtain ⟨x, y, r, rfl, k1, k2⟩ := zsII_spec h
    exact ⟨fun q => hk _ _ _ _ hI hn (k1 q), fun q => hk _ _ _ _ hI hn (k2 q)⟩
  | ifnull off =>
    obtain ⟨x, r, rfl, k⟩ := zsR_spec h
    exact hk _ _ _ _ hI hn k
  | tableswitch d lo hi offs =>
    obtain ⟨x, r, rfl, k1, k2⟩ := zsI_spec h
    refine ⟨fun q => hk _ _ _ _ hI hn (k1 q), fun q => ?_⟩
    obtain ⟨off, q1, q2, q3⟩ := k2 q
    exact ⟨off, q1, q2, hk _ _ _ _ hI hn q3⟩
  | getfield i =>
    obtain ⟨a, r, rfl, h2⟩ := zsR_spec h
    clear h
    have h := h2
    clear h2
    show (match zft (zOw m) i with | some (ci, k, _) => (a < σ.2.2.2 ∧ zkd a = (0, ci)) ∧ zgF σ a k (zTY ci k) (fun v => V0 (pc + 3) L (v :: r) σ) | none => False)
    split at h
    · rename_i ci k w hft
      rw [hft]
      dsimp only
      split at h
      · rename_i hb
        rw [Bool.and_eq_true] at hb
        refine ⟨⟨(hI a hb.1).1, zkd_of hb.2⟩, ?_⟩
        unfold zgT at h
        unfold zgF
        generalize zTY ci k = ty at h ⊢
        cases ty <;> dsimp only at h ⊢ <;> first | exact hk _ _ _ _ hI hn h | (obtain ⟨b, hr, h⟩ := zRr_spec (o := zRr a k) (G := fun v => V (pc + 3) L (v :: r) σ) h; exact ⟨b, (hI a hb.1).2 k b hr, hk _ _ _ _ hI hn h⟩)
      · exact h.elim
    · exact h.elim
  | putfield i =>
    obtain ⟨v, a, r, rfl, h2⟩ := zsP_spec h
    clear h
    have h := h2
    clear h2
    show (match zft (zOw m) i with | some (ci, k, _) => (a < σ.2.2.2 ∧ zkd a = (0, ci) ∧ ((zTT ci k).2.2.2 = false ∨ (zKi m = 2 ∧ ci = zOw m))) ∧ zpF σ a k (zTY ci k) v (fun σ' => V0 (pc + 3) L r σ') | none => False)
    split at h
    · rename_i ci k w hft
      rw [hft]
      dsimp only
      split at h
      · rename_i hb
        rw [Bool.and_eq_true, Bool.and_eq_true] at hb
        refine ⟨⟨(hI a hb.1.1).1, zkd_of hb.1.2, Or.inl (by simpa using hb.2)⟩, ?_⟩
        unfold zpT at h
        unfold zpF
        generalize zTY ci k = ty at h ⊢
        split at h
        · exact hk _ _ _ (zuI σ a k _) hI hn h
        · exact ⟨h.1, hk _ _ _ (zuI σ a k _) hI hn h.2⟩
        · exact hk _ _ _ (zuJ σ a k _) hI hn h
        · exact h.elim
      · exact h.elim
    · exact h.elim
  | iaload =>
    obtain ⟨a, i, r, rfl, h2⟩ := zsA_spec h
    clear h
    have h := h2
    clear h2
    show (match Nat.beq a zsc with | true => (m = mL_law ∧ vp_in i X.1) ∧ V0 (pc + 1) L (.int (X.2 i.toNatClampNeg) :: r) σ | false => (a < σ.2.2.2 ∧ (zkd a).1 = 1 ∧ vp_in i (zkd a).2) ∧ V0 (pc + 1) L (.int (σ.1 a i.toNatClampNeg) :: r) σ)
    split at h
    · exact h.elim
    · rename_i hq
      rw [hq]
      dsimp only
      split at h
      · rename_i hb
        rw [Bool.and_eq_true] at hb
        exact ⟨⟨(hI a hb.1).1, Nat.eq_of_beq_eq_true hb.2, h.1⟩, hk _ _ _ _ hI hn h.2⟩
      · exact h.elim
  | arraylength =>
    obtain ⟨a, r, rfl, h2⟩ := zsR_spec h
    clear h
    have h := h2
    clear h2
    show (match Nat.beq a zsc with | true => m = mL_law ∧ V0 (pc + 1) L (.int (Int32.ofNat X.1) :: r) σ | false => (a < σ.2.2.2 ∧ (zkd a).1 = 1) ∧ V0 (pc + 1) L (.int (Int32.ofNat (zkd a).2) :: r) σ)
    split at h
    · exact h.elim
    · rename_i hq
      rw [hq]
      dsimp only
      split at h
      · rename_i hb
        rw [Bool.and_eq_true] at hb
        exact ⟨⟨(hI a hb.1).1, Nat.eq_of_beq_eq_true hb.2⟩, hk _ _ _ _ hI hn h⟩
      · exact h.elim
  | laload =>
    obtain ⟨a, i, r, rfl, h2⟩ := zsA_spec h
    clear h
    have h := h2
    clear h2
    split at h
    · rename_i hb
      rw [Bool.and_eq_true] at hb
      exact ⟨⟨(hI a hb.1).1, Nat.eq_of_beq_eq_true hb.2, h.1⟩, hk _ _ _ _ hI hn h.2⟩
    · exact h.elim
  | iastore =>
    obtain ⟨a, i, x, r, rfl, h2⟩ := zsAI_spec h
    clear h
    have h := h2
    clear h2
    split at h
    · rename_i hb
      rw [Bool.and_eq_true] at hb
      exact ⟨⟨(hI a hb.1).1, Nat.eq_of_beq_eq_true hb.2, h.1⟩, hk _ _ _ (zuI σ a i.toNatClampNeg x) hI hn h.2⟩
    · exact h.elim
  | lastore =>
    obtain ⟨a, i, x, r, rfl, h2⟩ := zsAJ_spec h
    clear h
    have h := h2
    clear h2
    split at h
    · rename_i hb
      rw [Bool.and_eq_true] at hb
      exact ⟨⟨(hI a hb.1).1, Nat.eq_of_beq_eq_true hb.2, h.1⟩, hk _ _ _ (zuJ σ a i.toNatClampNeg x) hI hn h.2⟩
    · exact h.elim
  | invokestatic i =>
    exact zcT_ok (G' := fun _ _ => True) hI hn (fun S' k => hk _ _ _ _ hI hn k) h
  | invokevirtual i =>
    exact zcT_ok (G' := fun _ _ => True) hI hn (fun S' k => hk _ _ _ _ hI hn k) h
  | ireturn =>
    unfold zTI at h
    dsimp only at h
    split at h
    · rename_i x
      refine ⟨rfl, ?_⟩
      show zret m (.int x) ∧ σ.2.2.2 = lim ∧ K (some (.int x)) σ
      unfold zrT at h
      unfold zret
      generalize zRT m = rt at h ⊢
      split at h
      · exact ⟨trivial, hn, h⟩
      · rename_i q
        cases q
        exact ⟨h.1, hn, h.2⟩
      · rename_i q; cases q
      · exact h.elim
    · exact h.elim
  | lreturn =>
    unfold zTI at h
    dsimp only at h
    split at h
    · rename_i x
      refine ⟨rfl, ?_⟩
      show zret m (.long x) ∧ σ.2.2.2 = lim ∧ K (some (.long x)) σ
      unfold zrT at h
      unfold zret
      generalize zRT m = rt at h ⊢
      split at h
      · rename_i q; cases q
      · rename_i q; cases q
      · exact ⟨trivial, hn, h⟩
      · exact h.elim
    · exact h.elim
  | return_ =>
    unfold zTI at h
    dsimp only at h
    split at h
    · rename_i q
      exact ⟨rfl, q, hn, h⟩
    · exact h.elim
  | _ => exact False.elim h
theorem zrun (hV : zOk C X m lim V0 K) : ∀ (k pc : Nat) (L : zLo) (S : List Value) (σ : zSt), zQI Kn σ.2.2 → σ.2.2.2 = lim → zev C X m Kn V0 K k pc L S σ → V0 pc L S σ := by
  intro k
  induction k with
  | zero => intro pc L S σ _ _ h; exact h
  | succ k ih =>
    intro pc L S σ hI hn h
    refine hV.1 pc L S σ ?_
    unfold zST
    have h : zTT' C X m Kn (zev C X m Kn V0 K k) V0 K pc L S σ := h
    unfold zTT' at h
    split at h
    · rename_i ins w hcd
      rw [hcd]
      exact zTI_ok (fun pc L S σ' h1 h2 h3 => ih pc L S σ' h1 h2 h3) hI hn h
    · exact h.elim
theorem zq (hV : zOk C X m lim V0 K) {σ : zSt} (hI : zQI Kn σ.2.2) (hn : σ.2.2.2 = lim) (k : Nat) {pc : Nat} {L : zLo} {S : List Value} (h : zev C X m Kn V0 K k pc L S σ) : V0 pc L S σ := zrun hV k pc L S σ hI hn h
theorem zwk (hV : zOk C X m lim V0 K) (ks : List Nat) {pc : Nat} {L L' : zLo} {S : List Value} {σ : zSt} (h : ks.filterMap (fun k => L[k]?) = L') (k : V0 pc L' S σ) : V0 pc L S σ := hV.2 pc L L' S σ (fun q hq => by
  rw [← h] at hq
  obtain ⟨j, -, hj⟩ := List.mem_filterMap.mp hq
  exact List.mem_of_getElem? hj) k
end ZF
end
section
theorem zlt (a b : Int32) : a < b ↔ a.toInt < b.toInt := Int32.lt_iff_toInt_lt
theorem zle (a b : Int32) : a ≤ b ↔ a.toInt ≤ b.toInt := Int32.le_iff_toInt_le
theorem zeq (a b : Int32) : a = b ↔ a.toInt = b.toInt := Int32.toInt_inj.symm
theorem zlt64 (a b : Int64) : a < b ↔ a.toInt < b.toInt := Int64.lt_iff_toInt_lt
theorem zle64 (a b : Int64) : a ≤ b ↔ a.toInt ≤ b.toInt := Int64.le_iff_toInt_le
theorem zeq64 (a b : Int64) : a = b ↔ a.toInt = b.toInt := Int64.toInt_inj.symm
theorem zadd {x y : Int32} (h : -2147483648 ≤ x.toInt + y.toInt ∧ x.toInt + y.toInt ≤ 2147483647) : (x + y).toInt = x.toInt + y.toInt := by
  rw [Int32.toInt_add]; exact Int.bmod_eq_of_le (by omega) (by omega)
theorem zsub {x y : Int32} (h : -2147483648 ≤ x.toInt - y.toInt ∧ x.toInt - y.toInt ≤ 2147483647) : (x - y).toInt = x.toInt - y.toInt := by
  rw [Int32.toInt_sub]; exact Int.bmod_eq_of_le (by omega) (by omega)
theorem zmul {x y : Int32} (h : -2147483648 ≤ x.toInt * y.toInt ∧ x.toInt * y.toInt ≤ 2147483647) : (x * y).toInt = x.toInt * y.toInt := by
  rw [Int32.toInt_mul]; exact Int.bmod_eq_of_le (by omega) (by omega)
theorem zadd64 {x y : Int64} (h : -9223372036854775808 ≤ x.toInt + y.toInt ∧ x.toInt + y.toInt ≤ 9223372036854775807) : (x + y).toInt = x.toInt + y.toInt := by
  rw [Int64.toInt_add]; exact Int.bmod_eq_of_le (by omega) (by omega)
theorem zsub64 {x y : Int64} (h : -9223372036854775808 ≤ x.toInt - y.toInt ∧ x.toInt - y.toInt ≤ 9223372036854775807) : (x - y).toInt = x.toInt - y.toInt := by
  rw [Int64.toInt_sub]; exact Int.bmod_eq_of_le (by omega) (by omega)
theorem zmul64 {x y : Int64} (h : -9223372036854775808 ≤ x.toInt * y.toInt ∧ x.toInt * y.toInt ≤ 9223372036854775807) : (x * y).toInt = x.toInt * y.toInt := by
  rw [Int64.toInt_mul]; exact Int.bmod_eq_of_le (by omega) (by omega)
theorem zL (x : Int32) : x.toInt64.toInt = x.toInt := Int32.toInt_toInt64 x
theorem zR32 (x : Int32) : -2147483648 ≤ x.toInt ∧ x.toInt ≤ 2147483647 := ⟨Int32.le_toInt x, by have := Int32.toInt_lt x; omega⟩
theorem zR64 (x : Int64) : -9223372036854775808 ≤ x.toInt ∧ x.toInt ≤ 9223372036854775807 := ⟨Int64.le_toInt x, by have := Int64.toInt_lt x; omega⟩
/-- a number that is told by an int from 0 on -/
theorem zNat {x : Int32} (h : 0 ≤ x.toInt) : ∃ k : Nat, x = nI k ∧ (k : Int) = x.toInt ∧ k < 2 ^ 31 := by
  have h2 := (zR32 x).2
  refine ⟨x.toInt.toNat, ?_, Int.toNat_of_nonneg h, by omega⟩
  rw [zeq, nI_toInt (by omega), Int.toNat_of_nonneg h]
theorem zT_lits : (0 : Int32).toInt = 0 ∧ (1 : Int32).toInt = 1 ∧ (2 : Int32).toInt = 2 ∧ (3 : Int32).toInt = 3 ∧ (8 : Int32).toInt = 8 ∧ (16 : Int32).toInt = 16 := by decide
theorem zcmp_lt {x y : Int64} : lg_cmp x y < 0 ↔ x < y := by
  rw [zlt64]; unfold lg_cmp
  split
  · rename_i h; rw [gt_iff_lt, zlt64] at h; constructor
    · intro q; exact absurd q (by decide)
    · intro q; omega
  · rename_i h; split
    · rename_i h2; rw [h2]; constructor
      · intro q; exact absurd q (by decide)
      · intro q; omega
    · rename_i h2; rw [gt_iff_lt, zlt64] at h; rw [zeq64] at h2; constructor
      · intro _; omega
      · intro _; decide
theorem zcmp_gt {x y : Int64} : 0 < lg_cmp x y ↔ y < x := by
  rw [zlt64]; unfold lg_cmp
  split
  · rename_i h; rw [gt_iff_lt, zlt64] at h; constructor
    · intro _; exact h
    · intro _; decide
  · rename_i h; rw [gt_iff_lt, zlt64] at h; split
    · rename_i h2; rw [h2]; constructor
      · intro q; exact absurd q (by decide)
      · intro q; omega
    · constructor
      · intro q; exact absurd q (by decide)
      · intro q; omega
theorem zcmp_eq {x y : Int64} : lg_cmp x y = 0 ↔ x = y := by
  unfold lg_cmp
  split
  · rename_i h; rw [gt_iff_lt, zlt64] at h; constructor
    · intro q; exact absurd q (by decide)
    · intro q; rw [q] at h; omega
  · split
    · rename_i h2; exact ⟨fun _ => h2, fun _ => rfl⟩
    · rename_i h2; constructor
      · intro q; exact absurd q (by decide)
      · intro q; exact absurd q h2
theorem zcmp_ge {x y : Int64} : 0 ≤ lg_cmp x y ↔ y ≤ x := by
  have h := @zcmp_lt x y
  rw [zlt64] at h; rw [zle64]
  rw [zle]; rw [zlt] at h
  have := zT_lits.1
  omega
theorem zcmp_le {x y : Int64} : lg_cmp x y ≤ 0 ↔ x ≤ y := by
  have h := @zcmp_gt x y
  rw [zlt64] at h; rw [zle64]
  rw [zle]; rw [zlt] at h
  have := zT_lits.1
  omega
theorem ztest1 {e : Int32} (h : ¬ e < 0) (h2 : ¬ 8 < e) : 0 ≤ e.toInt ∧ e.toInt ≤ 8 := by
  simp only [zlt, zle, zeq] at h h2
  simp at h h2
  omega
theorem ztest2 {e : Int32} (h : ¬ e < -30) (h2 : ¬ 100000 < e) : -30 ≤ e.toInt ∧ e.toInt ≤ 100000 := by
  simp only [zlt, zle, zeq] at h h2
  simp at h h2
  omega
end
section
def zb (o : Bool) : Int32 := match o with
  | true => 1
  | false => 0
def zNx (n i : Nat) : Nat := if i + 1 < n then i + 1 else 0
theorem zNx_lt {n i : Nat} (h : i < n) : zNx n i < n := by unfold zNx; split <;> omega
def zTu (n : Nat) (X Y : Nat → Int32) (i : Nat) : Int32 := X i * Y (zNx n i) - Y i * X (zNx n i)
def zAr (n : Nat) (X Y : Nat → Int32) : Nat → Int32
  | 0 => 0
  | i + 1 => zAr n X Y i + zTu n X Y i
def zMx (n : Nat) (X Y : Nat → Int32) : Nat → Int32
  | 0 => 0
  | i + 1 => zMx n X Y i + (X i + X (zNx n i)) * zTu n X Y i
def zMy (n : Nat) (X Y : Nat → Int32) : Nat → Int32
  | 0 => 0
  | i + 1 => zMy n X Y i + (Y i + Y (zNx n i)) * zTu n X Y i
def zfx (X : Nat → Int32) (px : Int32) (i : Nat) : Int32 := 8 * X i - px
def zTn (X Y : Nat → Int32) (px py : Int32) (i j : Nat) : Int32 := zfx X px i * zfx Y py j - zfx Y py i * zfx X px j
def zCr (fy ty t : Int32) : Bool := decide ((0 < ty ∧ fy ≤ 0 ∧ 0 < t) ∨ (ty ≤ 0 ∧ 0 < fy ∧ t < 0))
def zOn (fx fy tx ty t : Int32) : Bool := decide (t = 0 ∧ fx * tx ≤ 0 ∧ fy * ty ≤ 0)
def zSd (n : Nat) (X Y : Nat → Int32) (px py : Int32) : Nat → Nat → Bool → Int32
  | 0, _, o => zb o
  | k + 1, i, o => match zOn (zfx X px i) (zfx Y py i) (zfx X px (zNx n i)) (zfx Y py (zNx n i)) (zTn X Y px py i (zNx n i)) with
    | true => 2
    | false => zSd n X Y px py k (i + 1) (match zCr (zfx Y py i) (zfx Y py (zNx n i)) (zTn X Y px py i (zNx n i)) with
      | true => !o
      | false => o)
/-- a place in eighths: 0 out, 1 in, 2 on the rim -/
def zSide (n : Nat) (X Y : Nat → Int32) (px py : Int32) : Int32 := zSd n X Y px py n 0 false
/-- which ints may have changed -/
def zOnly (f : Nat → Nat → Bool) (σ τ : zSt) : Prop := (∀ a j, f a j = false → τ.1 a j = σ.1 a j) ∧ (∀ a j, f a j = false → τ.2.1 a j = σ.2.1 a j) ∧ τ.2.2 = σ.2.2
theorem zOnly.rf {f : Nat → Nat → Bool} {σ : zSt} : zOnly f σ σ := ⟨fun _ _ _ => rfl, fun _ _ _ => rfl, rfl⟩
theorem zOnly.tr {f : Nat → Nat → Bool} {σ τ υ : zSt} (h : zOnly f σ τ) (h2 : zOnly f τ υ) : zOnly f σ υ := ⟨fun a j q => (h2.1 a j q).trans (h.1 a j q), fun a j q => (h2.2.1 a j q).trans (h.2.1 a j q), h2.2.2.trans h.2.2⟩
theorem zOnly.wk {f g : Nat → Nat → Bool} {σ τ : zSt} (h : zOnly f σ τ) (hg : ∀ a j, g a j = false → f a j = false) : zOnly g σ τ := ⟨fun a j q => h.1 a j (hg a j q), fun a j q => h.2.1 a j (hg a j q), h.2.2⟩
theorem zuI_get (σ : zSt) (a j : Nat) (v : Int32) (b k : Nat) : (zuI σ a j v).1 b k = if b = a ∧ k = j then v else σ.1 b k := by
  show (if b = a then upd (σ.1 b) j v else σ.1 b) k = _
  by_cases h : b = a
  · rw [if_pos h]; unfold upd
    by_cases h2 : k = j
    · rw [if_pos h2, if_pos ⟨h, h2⟩]
    · rw [if_neg h2, if_neg (fun q => h2 q.2)]
  · rw [if_neg h, if_neg (fun q => h q.1)]
theorem zuJ_get (σ : zSt) (a j : Nat) (v : Int64) (b k : Nat) : (zuJ σ a j v).2.1 b k = if b = a ∧ k = j then v else σ.2.1 b k := by
  show (if b = a then vp_updL (σ.2.1 b) j v else σ.2.1 b) k = _
  by_cases h : b = a
  · rw [if_pos h]; unfold vp_updL
    by_cases h2 : k = j
    · rw [if_pos h2, if_pos ⟨h, h2⟩]
    · rw [if_neg h2, if_neg (fun q => h2 q.2)]
  · rw [if_neg h, if_neg (fun q => h q.1)]
theorem zOnly.uI {f : Nat → Nat → Bool} {σ τ : zSt} (h : zOnly f σ τ) {a j : Nat} {v : Int32} (ha : f a j = true) : zOnly f σ (zuI τ a j v) := ⟨fun b k q => by
  rw [zuI_get, if_neg (by rintro ⟨rfl, rfl⟩; rw [ha] at q; cases q)]; exact h.1 b k q, h.2.1, h.2.2⟩
theorem zOnly.uJ {f : Nat → Nat → Bool} {σ τ : zSt} (h : zOnly f σ τ) {a j : Nat} {v : Int64} (ha : f a j = true) : zOnly f σ (zuJ τ a j v) := ⟨h.1, fun b k q => by
  rw [zuJ_get, if_neg (by rintro ⟨rfl, rfl⟩; rw [ha] at q; cases q)]; exact h.2.1 b k q, h.2.2⟩
theorem zSt_ext {σ τ : zSt} (h1 : ∀ a j, σ.1 a j = τ.1 a j) (h2 : ∀ a j, σ.2.1 a j = τ.2.1 a j) (h3 : σ.2.2 = τ.2.2) : σ = τ :=
  Prod.ext (funext fun a => funext fun j => h1 a j) (Prod.ext (funext fun a => funext fun j => h2 a j) h3)
theorem zQI_eq {Kn : Nat → Bool} {q q' : (Nat → Nat → Value) × Nat} (h : zQI Kn q) (e : q' = q) : zQI Kn q' := by rw [e]; exact h
end
section
def kA (a : Nat) : Nat → Bool := fun b => Nat.beq b a
def kR (lo hi : Nat) : Nat → Bool := fun b => Nat.ble lo b && Nat.blt b hi
theorem zA_of {Kn : Nat → Bool} {q : (Nat → Nat → Value) × Nat} {a : Nat} (h : zQI Kn q) (ha : Kn a = true) : zQI (kA a) q := fun b hb => by
  rw [Nat.eq_of_beq_eq_true hb]; exact h a ha
theorem zR_of {lo hi lo' hi' : Nat} {q : (Nat → Nat → Value) × Nat} (h : zQI (kR lo hi) q) (h1 : Nat.ble lo lo' = true) (h2 : Nat.ble hi' hi = true) : zQI (kR lo' hi') q := fun b hb => by
  refine h b ?_
  unfold kR at hb ⊢
  rw [Bool.and_eq_true] at hb ⊢
  exact ⟨Nat.ble_eq.mpr (Nat.le_trans (Nat.le_of_ble_eq_true h1) (Nat.le_of_ble_eq_true hb.1)), Nat.ble_eq.mpr (Nat.le_trans (Nat.le_of_ble_eq_true hb.2) (Nat.le_of_ble_eq_true h2))⟩
theorem zix {i : Int32} {k n : Nat} (e : i = nI k) (hk : k < n) (hn : n < 2 ^ 31) : vp_in i n := by rw [e]; exact vp_in_nI hk hn
theorem zcl_k {i : Int32} {k : Nat} (e : i = nI k) (hk : k < 2 ^ 31) : i.toNatClampNeg = k := by rw [e]; exact nI_clamp hk
set_option maxRecDepth 4000 in
theorem item_2 {d : Nat} {σ : zSt} {i : Int32} {k : Nat} {K : Option Value → zSt → Prop} (hI : zQI (kA 2) σ.2.2) (e : i = nI k) (hk : k < 10) (hK : K (some (.int (σ.1 2 k))) σ) : zSp (d + 1) mX8_item [.ref 2, .int i] σ K := by
  refine ⟨⟨by decide, Nat.le_of_ble_eq_true rfl⟩, fun V hV => ?_⟩
  subst e
  refine zq (σ := σ) hV hI rfl 4 ?_
  show ((nI k) < 0 → V 20 [(0, .ref 2), (1, .int (nI k))] [] σ) ∧ (¬ (nI k) < 0 → V 8 [(0, .ref 2), (1, .int (nI k))] [] σ)
  refine ⟨fun hc => absurd hc (nI_pos (by omega)), fun _ => ?_⟩
  refine zq (σ := σ) hV hI rfl 4 ?_
  show (10 ≤ (nI k) → V 20 [(0, .ref 2), (1, .int (nI k))] [] σ) ∧ (¬ 10 ≤ (nI k) → V 14 [(0, .ref 2), (1, .int (nI k))] [] σ)
  refine ⟨fun hc => absurd hc (show ¬ nI 10 ≤ nI k from nI_ge hk (by decide)), fun _ => ?_⟩
  refine zq (σ := σ) hV hI rfl 3 ?_
  show vp_in (nI k) 10 ∧ V 17 [(0, .ref 2), (1, .int (nI k))] [.int (σ.1 2 (Int32.toNatClampNeg (nI k)))] σ
  refine ⟨vp_in_nI hk (by decide), ?_⟩
  refine zq (σ := σ) hV hI rfl 2 ?_
  show K (some (.int (σ.1 2 (Int32.toNatClampNeg (nI k))))) σ
  rw [nI_clamp (by omega)]
  exact hK
set_option maxRecDepth 4000 in
theorem setItem_2 {d : Nat} {σ : zSt} {i v : Int32} {k : Nat} {K : Option Value → zSt → Prop} (hI : zQI (kA 2) σ.2.2) (e : i = nI k) (hk : k < 10) (hK : K none (zuI σ 2 k v)) : zSp (d + 1) mX8_setItem [.ref 2, .int i, .int v] σ K := by
  refine ⟨⟨by decide, Nat.le_of_ble_eq_true rfl⟩, fun V hV => ?_⟩
  subst e
  refine zq (σ := σ) hV hI rfl 4 ?_
  show ((nI k) < 0 → V 18 [(0, .ref 2), (1, .int (nI k)), (2, .int v)] [] σ) ∧ (¬ (nI k) < 0 → V 8 [(0, .ref 2), (1, .int (nI k)), (2, .int v)] [] σ)
  refine ⟨fun hc => absurd hc (nI_pos (by omega)), fun _ => ?_⟩
  refine zq (σ := σ) hV hI rfl 4 ?_
  show (10 ≤ (nI k) → V 18 [(0, .ref 2), (1, .int (nI k)), (2, .int v)] [] σ) ∧ (¬ 10 ≤ (nI k) → V 14 [(0, .ref 2), (1, .int (nI k)), (2, .int v)] [] σ)
  refine ⟨fun hc => absurd hc (show ¬ nI 10 ≤ nI k from nI_ge hk (by decide)), fun _ => ?_⟩
  refine zq (σ := σ) hV hI rfl 4 ?_
  show vp_in (nI k) 10 ∧ V 18 [(0, .ref 2), (1, .int (nI k)), (2, .int v)] [] (zuI σ 2 (Int32.toNatClampNeg (nI k)) v)
  refine ⟨vp_in_nI hk (by decide), ?_⟩
  refine zq (σ := (zuI σ 2 (Int32.toNatClampNeg (nI k)) v)) hV hI rfl 1 ?_
  show K none (zuI σ 2 (Int32.toNatClampNeg (nI k)) v)
  rw [nI_clamp (by omega)]
  exact hK
set_option maxRecDepth 4000 in
theorem item_3 {d : Nat} {σ : zSt} {i : Int32} {k : Nat} {K : Option Value → zSt → Prop} (hI : zQI (kA 3) σ.2.2) (e : i = nI k) (hk : k < 10) (hK : K (some (.int (σ.1 3 k))) σ) : zSp (d + 1) mX8_item [.ref 3, .int i] σ K := by
  refine ⟨⟨by decide, Nat.le_of_ble_eq_true rfl⟩, fun V hV => ?_⟩
  subst e
  refine zq (σ := σ) hV hI rfl 4 ?_
  show ((nI k) < 0 → V 20 [(0, .ref 3), (1, .int (nI k))] [] σ) ∧ (¬ (nI k) < 0 → V 8 [(0, .ref 3), (1, .int (nI k))] [] σ)
  refine ⟨fun hc => absurd hc (nI_pos (by omega)), fun _ => ?_⟩
  refine zq (σ := σ) hV hI rfl 4 ?_
  show (10 ≤ (nI k) → V 20 [(0, .ref 3), (1, .int (nI k))] [] σ) ∧ (¬ 10 ≤ (nI k) → V 14 [(0, .ref 3), (1, .int (nI k))] [] σ)
  refine ⟨fun hc => absurd hc (show ¬ nI 10 ≤ nI k from nI_ge hk (by decide)), fun _ => ?_⟩
  refine zq (σ := σ) hV hI rfl 3 ?_
  show vp_in (nI k) 10 ∧ V 17 [(0, .ref 3), (1, .int (nI k))] [.int (σ.1 3 (Int32.toNatClampNeg (nI k)))] σ
  refine ⟨vp_in_nI hk (by decide), ?_⟩
  refine zq (σ := σ) hV hI rfl 2 ?_
  show K (some (.int (σ.1 3 (Int32.toNatClampNeg (nI k))))) σ
  rw [nI_clamp (by omega)]
  exact hK
set_option maxRecDepth 4000 in
theorem setItem_3 {d : Nat} {σ : zSt} {i v : Int32} {k : Nat} {K : Option Value → zSt → Prop} (hI : zQI (kA 3) σ.2.2) (e : i = nI k) (hk : k < 10) (hK : K none (zuI σ 3 k v)) : zSp (d + 1) mX8_setItem [.ref 3, .int i, .int v] σ K := by
  refine ⟨⟨by decide, Nat.le_of_ble_eq_true rfl⟩, fun V hV => ?_⟩
  subst e
  refine zq (σ := σ) hV hI rfl 4 ?_
  show ((nI k) < 0 → V 18 [(0, .ref 3), (1, .int (nI k)), (2, .int v)] [] σ) ∧ (¬ (nI k) < 0 → V 8 [(0, .ref 3), (1, .int (nI k)), (2, .int v)] [] σ)
  refine ⟨fun hc => absurd hc (nI_pos (by omega)), fun _ => ?_⟩
  refine zq (σ := σ) hV hI rfl 4 ?_
  show (10 ≤ (nI k) → V 18 [(0, .ref 3), (1, .int (nI k)), (2, .int v)] [] σ) ∧ (¬ 10 ≤ (nI k) → V 14 [(0, .ref 3), (1, .int (nI k)), (2, .int v)] [] σ)
  refine ⟨fun hc => absurd hc (show ¬ nI 10 ≤ nI k from nI_ge hk (by decide)), fun _ => ?_⟩
  refine zq (σ := σ) hV hI rfl 4 ?_
  show vp_in (nI k) 10 ∧ V 18 [(0, .ref 3), (1, .int (nI k)), (2, .int v)] [] (zuI σ 3 (Int32.toNatClampNeg (nI k)) v)
  refine ⟨vp_in_nI hk (by decide), ?_⟩
  refine zq (σ := (zuI σ 3 (Int32.toNatClampNeg (nI k)) v)) hV hI rfl 1 ?_
  show K none (zuI σ 3 (Int32.toNatClampNeg (nI k)) v)
  rw [nI_clamp (by omega)]
  exact hK
set_option maxRecDepth 4000 in
theorem item_5 {d : Nat} {σ : zSt} {i : Int32} {k : Nat} {K : Option Value → zSt → Prop} (hI : zQI (kA 5) σ.2.2) (e : i = nI k) (hk : k < 8) (hK : K (some (.int (σ.1 5 k))) σ) : zSp (d + 1) mX8_item [.ref 5, .int i] σ K := by
  refine ⟨⟨by decide, Nat.le_of_ble_eq_true rfl⟩, fun V hV => ?_⟩
  subst e
  refine zq (σ := σ) hV hI rfl 4 ?_
  show ((nI k) < 0 → V 20 [(0, .ref 5), (1, .int (nI k))] [] σ) ∧ (¬ (nI k) < 0 → V 8 [(0, .ref 5), (1, .int (nI k))] [] σ)
  refine ⟨fun hc => absurd hc (nI_pos (by omega)), fun _ => ?_⟩
  refine zq (σ := σ) hV hI rfl 4 ?_
  show (8 ≤ (nI k) → V 20 [(0, .ref 5), (1, .int (nI k))] [] σ) ∧ (¬ 8 ≤ (nI k) → V 14 [(0, .ref 5), (1, .int (nI k))] [] σ)
  refine ⟨fun hc => absurd hc (show ¬ nI 8 ≤ nI k from nI_ge hk (by decide)), fun _ => ?_⟩
  refine zq (σ := σ) hV hI rfl 3 ?_
  show vp_in (nI k) 8 ∧ V 17 [(0, .ref 5), (1, .int (nI k))] [.int (σ.1 5 (Int32.toNatClampNeg (nI k)))] σ
  refine ⟨vp_in_nI hk (by decide), ?_⟩
  refine zq (σ := σ) hV hI rfl 2 ?_
  show K (some (.int (σ.1 5 (Int32.toNatClampNeg (nI k))))) σ
  rw [nI_clamp (by omega)]
  exact hK
set_option maxRecDepth 4000 in
theorem setItem_5 {d : Nat} {σ : zSt} {i v : Int32} {k : Nat} {K : Option Value → zSt → Prop} (hI : zQI (kA 5) σ.2.2) (e : i = nI k) (hk : k < 8) (hK : K none (zuI σ 5 k v)) : zSp (d + 1) mX8_setItem [.ref 5, .int i, .int v] σ K := by
  refine ⟨⟨by decide, Nat.le_of_ble_eq_true rfl⟩, fun V hV => ?_⟩
  subst e
  refine zq (σ := σ) hV hI rfl 4 ?_
  show ((nI k) < 0 → V 18 [(0, .ref 5), (1, .int (nI k)), (2, .int v)] [] σ) ∧ (¬ (nI k) < 0 → V 8 [(0, .ref 5), (1, .int (nI k)), (2, .int v)] [] σ)
  refine ⟨fun hc => absurd hc (nI_pos (by omega)), fun _ => ?_⟩
  refine zq (σ := σ) hV hI rfl 4 ?_
  show (8 ≤ (nI k) → V 18 [(0, .ref 5), (1, .int (nI k)), (2, .int v)] [] σ) ∧ (¬ 8 ≤ (nI k) → V 14 [(0, .ref 5), (1, .int (nI k)), (2, .int v)] [] σ)
  refine ⟨fun hc => absurd hc (show ¬ nI 8 ≤ nI k from nI_ge hk (by decide)), fun _ => ?_⟩
  refine zq (σ := σ) hV hI rfl 4 ?_
  show vp_in (nI k) 8 ∧ V 18 [(0, .ref 5), (1, .int (nI k)), (2, .int v)] [] (zuI σ 5 (Int32.toNatClampNeg (nI k)) v)
  refine ⟨vp_in_nI hk (by decide), ?_⟩
  refine zq (σ := (zuI σ 5 (Int32.toNatClampNeg (nI k)) v)) hV hI rfl 1 ?_
  show K none (zuI σ 5 (Int32.toNatClampNeg (nI k)) v)
  rw [nI_clamp (by omega)]
  exact hK
set_option maxRecDepth 4000 in
theorem item_6 {d : Nat} {σ : zSt} {i : Int32} {k : Nat} {K : Option Value → zSt → Prop} (hI : zQI (kA 6) σ.2.2) (e : i = nI k) (hk : k < 8) (hK : K (some (.int (σ.1 6 k))) σ) : zSp (d + 1) mX8_item [.ref 6, .int i] σ K := by
  refine ⟨⟨by decide, Nat.le_of_ble_eq_true rfl⟩, fun V hV => ?_⟩
  subst e
  refine zq (σ := σ) hV hI rfl 4 ?_
  show ((nI k) < 0 → V 20 [(0, .ref 6), (1, .int (nI k))] [] σ) ∧ (¬ (nI k) < 0 → V 8 [(0, .ref 6), (1, .int (nI k))] [] σ)
  refine ⟨fun hc => absurd hc (nI_pos (by omega)), fun _ => ?_⟩
  refine zq (σ := σ) hV hI rfl 4 ?_
  show (8 ≤ (nI k) → V 20 [(0, .ref 6), (1, .int (nI k))] [] σ) ∧ (¬ 8 ≤ (nI k) → V 14 [(0, .ref 6), (1, .int (nI k))] [] σ)
  refine ⟨fun hc => absurd hc (show ¬ nI 8 ≤ nI k from nI_ge hk (by decide)), fun _ => ?_⟩
  refine zq (σ := σ) hV hI rfl 3 ?_
  show vp_in (nI k) 8 ∧ V 17 [(0, .ref 6), (1, .int (nI k))] [.int (σ.1 6 (Int32.toNatClampNeg (nI k)))] σ
  refine ⟨vp_in_nI hk (by decide), ?_⟩
  refine zq (σ := σ) hV hI rfl 2 ?_
  show K (some (.int (σ.1 6 (Int32.toNatClampNeg (nI k))))) σ
  rw [nI_clamp (by omega)]
  exact hK
set_option maxRecDepth 4000 in
theorem setItem_6 {d : Nat} {σ : zSt} {i v : Int32} {k : Nat} {K : Option Value → zSt → Prop} (hI : zQI (kA 6) σ.2.2) (e : i = nI k) (hk : k < 8) (hK : K none (zuI σ 6 k v)) : zSp (d + 1) mX8_setItem [.ref 6, .int i, .int v] σ K := by
  refine ⟨⟨by decide, Nat.le_of_ble_eq_true rfl⟩, fun V hV => ?_⟩
  subst e
  refine zq (σ := σ) hV hI rfl 4 ?_
  show ((nI k) < 0 → V 18 [(0, .ref 6), (1, .int (nI k)), (2, .int v)] [] σ) ∧ (¬ (nI k) < 0 → V 8 [(0, .ref 6), (1, .int (nI k)), (2, .int v)] [] σ)
  refine ⟨fun hc => absurd hc (nI_pos (by omega)), fun _ => ?_⟩
  refine zq (σ := σ) hV hI rfl 4 ?_
  show (8 ≤ (nI k) → V 18 [(0, .ref 6), (1, .int (nI k)), (2, .int v)] [] σ) ∧ (¬ 8 ≤ (nI k) → V 14 [(0, .ref 6), (1, .int (nI k)), (2, .int v)] [] σ)
  refine ⟨fun hc => absurd hc (show ¬ nI 8 ≤ nI k from nI_ge hk (by decide)), fun _ => ?_⟩
  refine zq (σ := σ) hV hI rfl 4 ?_
  show vp_in (nI k) 8 ∧ V 18 [(0, .ref 6), (1, .int (nI k)), (2, .int v)] [] (zuI σ 6 (Int32.toNatClampNeg (nI k)) v)
  refine ⟨vp_in_nI hk (by decide), ?_⟩
  refine zq (σ := (zuI σ 6 (Int32.toNatClampNeg (nI k)) v)) hV hI rfl 1 ?_
  show K none (zuI σ 6 (Int32.toNatClampNeg (nI k)) v)
  rw [nI_clamp (by omega)]
  exact hK
set_option maxRecDepth 4000 in
theorem item_8 {d : Nat} {σ : zSt} {i : Int32} {k : Nat} {K : Option Value → zSt → Prop} (hI : zQI (kA 8) σ.2.2) (e : i = nI k) (hk : k < 8) (hK : K (some (.int (σ.1 8 k))) σ) : zSp (d + 1) mX8_item [.ref 8, .int i] σ K := by
  refine ⟨⟨by decide, Nat.le_of_ble_eq_true rfl⟩, fun V hV => ?_⟩
  subst e
  refine zq (σ := σ) hV hI rfl 4 ?_
  show ((nI k) < 0 → V 20 [(0, .ref 8), (1, .int (nI k))] [] σ) ∧ (¬ (nI k) < 0 → V 8 [(0, .ref 8), (1, .int (nI k))] [] σ)
  refine ⟨fun hc => absurd hc (nI_pos (by omega)), fun _ => ?_⟩
  refine zq (σ := σ) hV hI rfl 4 ?_
  show (8 ≤ (nI k) → V 20 [(0, .ref 8), (1, .int (nI k))] [] σ) ∧ (¬ 8 ≤ (nI k) → V 14 [(0, .ref 8), (1, .int (nI k))] [] σ)
  refine ⟨fun hc => absurd hc (show ¬ nI 8 ≤ nI k from nI_ge hk (by decide)), fun _ => ?_⟩
  refine zq (σ := σ) hV hI rfl 3 ?_
  show vp_in (nI k) 8 ∧ V 17 [(0, .ref 8), (1, .int (nI k))] [.int (σ.1 8 (Int32.toNatClampNeg (nI k)))] σ
  refine ⟨vp_in_nI hk (by decide), ?_⟩
  refine zq (σ := σ) hV hI rfl 2 ?_
  show K (some (.int (σ.1 8 (Int32.toNatClampNeg (nI k))))) σ
  rw [nI_clamp (by omega)]
  exact hK
set_option maxRecDepth 4000 in
theorem setItem_8 {d : Nat} {σ : zSt} {i v : Int32} {k : Nat} {K : Option Value → zSt → Prop} (hI : zQI (kA 8) σ.2.2) (e : i = nI k) (hk : k < 8) (hK : K none (zuI σ 8 k v)) : zSp (d + 1) mX8_setItem [.ref 8, .int i, .int v] σ K := by
  refine ⟨⟨by decide, Nat.le_of_ble_eq_true rfl⟩, fun V hV => ?_⟩
  subst e
  refine zq (σ := σ) hV hI rfl 4 ?_
  show ((nI k) < 0 → V 18 [(0, .ref 8), (1, .int (nI k)), (2, .int v)] [] σ) ∧ (¬ (nI k) < 0 → V 8 [(0, .ref 8), (1, .int (nI k)), (2, .int v)] [] σ)
  refine ⟨fun hc => absurd hc (nI_pos (by omega)), fun _ => ?_⟩
  refine zq (σ := σ) hV hI rfl 4 ?_
  show (8 ≤ (nI k) → V 18 [(0, .ref 8), (1, .int (nI k)), (2, .int v)] [] σ) ∧ (¬ 8 ≤ (nI k) → V 14 [(0, .ref 8), (1, .int (nI k)), (2, .int v)] [] σ)
  refine ⟨fun hc => absurd hc (show ¬ nI 8 ≤ nI k from nI_ge hk (by decide)), fun _ => ?_⟩
  refine zq (σ := σ) hV hI rfl 4 ?_
  show vp_in (nI k) 8 ∧ V 18 [(0, .ref 8), (1, .int (nI k)), (2, .int v)] [] (zuI σ 8 (Int32.toNatClampNeg (nI k)) v)
  refine ⟨vp_in_nI hk (by decide), ?_⟩
  refine zq (σ := (zuI σ 8 (Int32.toNatClampNeg (nI k)) v)) hV hI rfl 1 ?_
  show K none (zuI σ 8 (Int32.toNatClampNeg (nI k)) v)
  rw [nI_clamp (by omega)]
  exact hK
set_option maxRecDepth 4000 in
theorem item_9 {d : Nat} {σ : zSt} {i : Int32} {k : Nat} {K : Option Value → zSt → Prop} (hI : zQI (kA 9) σ.2.2) (e : i = nI k) (hk : k < 8) (hK : K (some (.int (σ.1 9 k))) σ) : zSp (d + 1) mX8_item [.ref 9, .int i] σ K := by
  refine ⟨⟨by decide, Nat.le_of_ble_eq_true rfl⟩, fun V hV => ?_⟩
  subst e
  refine zq (σ := σ) hV hI rfl 4 ?_
  show ((nI k) < 0 → V 20 [(0, .ref 9), (1, .int (nI k))] [] σ) ∧ (¬ (nI k) < 0 → V 8 [(0, .ref 9), (1, .int (nI k))] [] σ)
  refine ⟨fun hc => absurd hc (nI_pos (by omega)), fun _ => ?_⟩
  refine zq (σ := σ) hV hI rfl 4 ?_
  show (8 ≤ (nI k) → V 20 [(0, .ref 9), (1, .int (nI k))] [] σ) ∧ (¬ 8 ≤ (nI k) → V 14 [(0, .ref 9), (1, .int (nI k))] [] σ)
  refine ⟨fun hc => absurd hc (show ¬ nI 8 ≤ nI k from nI_ge hk (by decide)), fun _ => ?_⟩
  refine zq (σ := σ) hV hI rfl 3 ?_
  show vp_in (nI k) 8 ∧ V 17 [(0, .ref 9), (1, .int (nI k))] [.int (σ.1 9 (Int32.toNatClampNeg (nI k)))] σ
  refine ⟨vp_in_nI hk (by decide), ?_⟩
  refine zq (σ := σ) hV hI rfl 2 ?_
  show K (some (.int (σ.1 9 (Int32.toNatClampNeg (nI k))))) σ
  rw [nI_clamp (by omega)]
  exact hK
set_option maxRecDepth 4000 in
theorem setItem_9 {d : Nat} {σ : zSt} {i v : Int32} {k : Nat} {K : Option Value → zSt → Prop} (hI : zQI (kA 9) σ.2.2) (e : i = nI k) (hk : k < 8) (hK : K none (zuI σ 9 k v)) : zSp (d + 1) mX8_setItem [.ref 9, .int i, .int v] σ K := by
  refine ⟨⟨by decide, Nat.le_of_ble_eq_true rfl⟩, fun V hV => ?_⟩
  subst e
  refine zq (σ := σ) hV hI rfl 4 ?_
  show ((nI k) < 0 → V 18 [(0, .ref 9), (1, .int (nI k)), (2, .int v)] [] σ) ∧ (¬ (nI k) < 0 → V 8 [(0, .ref 9), (1, .int (nI k)), (2, .int v)] [] σ)
  refine ⟨fun hc => absurd hc (nI_pos (by omega)), fun _ => ?_⟩
  refine zq (σ := σ) hV hI rfl 4 ?_
  show (8 ≤ (nI k) → V 18 [(0, .ref 9), (1, .int (nI k)), (2, .int v)] [] σ) ∧ (¬ 8 ≤ (nI k) → V 14 [(0, .ref 9), (1, .int (nI k)), (2, .int v)] [] σ)
  refine ⟨fun hc => absurd hc (show ¬ nI 8 ≤ nI k from nI_ge hk (by decide)), fun _ => ?_⟩
  refine zq (σ := σ) hV hI rfl 4 ?_
  show vp_in (nI k) 8 ∧ V 18 [(0, .ref 9), (1, .int (nI k)), (2, .int v)] [] (zuI σ 9 (Int32.toNatClampNeg (nI k)) v)
  refine ⟨vp_in_nI hk (by decide), ?_⟩
  refine zq (σ := (zuI σ 9 (Int32.toNatClampNeg (nI k)) v)) hV hI rfl 1 ?_
  show K none (zuI σ 9 (Int32.toNatClampNeg (nI k)) v)
  rw [nI_clamp (by omega)]
  exact hK
set_option maxRecDepth 4000 in
theorem item_11 {d : Nat} {σ : zSt} {i : Int32} {k : Nat} {K : Option Value → zSt → Prop} (hI : zQI (kA 11) σ.2.2) (e : i = nI k) (hk : k < 16) (hK : K (some (.int (σ.1 11 k))) σ) : zSp (d + 1) mX8_item [.ref 11, .int i] σ K := by
  refine ⟨⟨by decide, Nat.le_of_ble_eq_true rfl⟩, fun V hV => ?_⟩
  subst e
  refine zq (σ := σ) hV hI rfl 4 ?_
  show ((nI k) < 0 → V 20 [(0, .ref 11), (1, .int (nI k))] [] σ) ∧ (¬ (nI k) < 0 → V 8 [(0, .ref 11), (1, .int (nI k))] [] σ)
  refine ⟨fun hc => absurd hc (nI_pos (by omega)), fun _ => ?_⟩
  refine zq (σ := σ) hV hI rfl 4 ?_
  show (16 ≤ (nI k) → V 20 [(0, .ref 11), (1, .int (nI k))] [] σ) ∧ (¬ 16 ≤ (nI k) → V 14 [(0, .ref 11), (1, .int (nI k))] [] σ)
  refine ⟨fun hc => absurd hc (show ¬ nI 16 ≤ nI k from nI_ge hk (by decide)), fun _ => ?_⟩
  refine zq (σ := σ) hV hI rfl 3 ?_
  show vp_in (nI k) 16 ∧ V 17 [(0, .ref 11), (1, .int (nI k))] [.int (σ.1 11 (Int32.toNatClampNeg (nI k)))] σ
  refine ⟨vp_in_nI hk (by decide), ?_⟩
  refine zq (σ := σ) hV hI rfl 2 ?_
  show K (some (.int (σ.1 11 (Int32.toNatClampNeg (nI k))))) σ
  rw [nI_clamp (by omega)]
  exact hK
set_option maxRecDepth 4000 in
theorem setItem_11 {d : Nat} {σ : zSt} {i v : Int32} {k : Nat} {K : Option Value → zSt → Prop} (hI : zQI (kA 11) σ.2.2) (e : i = nI k) (hk : k < 16) (hK : K none (zuI σ 11 k v)) : zSp (d + 1) mX8_setItem [.ref 11, .int i, .int v] σ K := by
  refine ⟨⟨by decide, Nat.le_of_ble_eq_true rfl⟩, fun V hV => ?_⟩
  subst e
  refine zq (σ := σ) hV hI rfl 4 ?_
  show ((nI k) < 0 → V 18 [(0, .ref 11), (1, .int (nI k)), (2, .int v)] [] σ) ∧ (¬ (nI k) < 0 → V 8 [(0, .ref 11), (1, .int (nI k)), (2, .int v)] [] σ)
  refine ⟨fun hc => absurd hc (nI_pos (by omega)), fun _ => ?_⟩
  refine zq (σ := σ) hV hI rfl 4 ?_
  show (16 ≤ (nI k) → V 18 [(0, .ref 11), (1, .int (nI k)), (2, .int v)] [] σ) ∧ (¬ 16 ≤ (nI k) → V 14 [(0, .ref 11), (1, .int (nI k)), (2, .int v)] [] σ)
  refine ⟨fun hc => absurd hc (show ¬ nI 16 ≤ nI k from nI_ge hk (by decide)), fun _ => ?_⟩
  refine zq (σ := σ) hV hI rfl 4 ?_
  show vp_in (nI k) 16 ∧ V 18 [(0, .ref 11), (1, .int (nI k)), (2, .int v)] [] (zuI σ 11 (Int32.toNatClampNeg (nI k)) v)
  refine ⟨vp_in_nI hk (by decide), ?_⟩
  refine zq (σ := (zuI σ 11 (Int32.toNatClampNeg (nI k)) v)) hV hI rfl 1 ?_
  show K none (zuI σ 11 (Int32.toNatClampNeg (nI k)) v)
  rw [nI_clamp (by omega)]
  exact hK
set_option maxRecDepth 4000 in
theorem item_12 {d : Nat} {σ : zSt} {i : Int32} {k : Nat} {K : Option Value → zSt → Prop} (hI : zQI (kA 12) σ.2.2) (e : i = nI k) (hk : k < 16) (hK : K (some (.int (σ.1 12 k))) σ) : zSp (d + 1) mX8_item [.ref 12, .int i] σ K := by
  refine ⟨⟨by decide, Nat.le_of_ble_eq_true rfl⟩, fun V hV => ?_⟩
  subst e
  refine zq (σ := σ) hV hI rfl 4 ?_
  show ((nI k) < 0 → V 20 [(0, .ref 12), (1, .int (nI k))] [] σ) ∧ (¬ (nI k) < 0 → V 8 [(0, .ref 12), (1, .int (nI k))] [] σ)
  refine ⟨fun hc => absurd hc (nI_pos (by omega)), fun _ => ?_⟩
  refine zq (σ := σ) hV hI rfl 4 ?_
  show (16 ≤ (nI k) → V 20 [(0, .ref 12), (1, .int (nI k))] [] σ) ∧ (¬ 16 ≤ (nI k) → V 14 [(0, .ref 12), (1, .int (nI k))] [] σ)
  refine ⟨fun hc => absurd hc (show ¬ nI 16 ≤ nI k from nI_ge hk (by decide)), fun _ => ?_⟩
  refine zq (σ := σ) hV hI rfl 3 ?_
  show vp_in (nI k) 16 ∧ V 17 [(0, .ref 12), (1, .int (nI k))] [.int (σ.1 12 (Int32.toNatClampNeg (nI k)))] σ
  refine ⟨vp_in_nI hk (by decide), ?_⟩
  refine zq (σ := σ) hV hI rfl 2 ?_
  show K (some (.int (σ.1 12 (Int32.toNatClampNeg (nI k))))) σ
  rw [nI_clamp (by omega)]
  exact hK
set_option maxRecDepth 4000 in
theorem setItem_12 {d : Nat} {σ : zSt} {i v : Int32} {k : Nat} {K : Option Value → zSt → Prop} (hI : zQI (kA 12) σ.2.2) (e : i = nI k) (hk : k < 16) (hK : K none (zuI σ 12 k v)) : zSp (d + 1) mX8_setItem [.ref 12, .int i, .int v] σ K := by
  refine ⟨⟨by decide, Nat.le_of_ble_eq_true rfl⟩, fun V hV => ?_⟩
  subst e
  refine zq (σ := σ) hV hI rfl 4 ?_
  show ((nI k) < 0 → V 18 [(0, .ref 12), (1, .int (nI k)), (2, .int v)] [] σ) ∧ (¬ (nI k) < 0 → V 8 [(0, .ref 12), (1, .int (nI k)), (2, .int v)] [] σ)
  refine ⟨fun hc => absurd hc (nI_pos (by omega)), fun _ => ?_⟩
  refine zq (σ := σ) hV hI rfl 4 ?_
  show (16 ≤ (nI k) → V 18 [(0, .ref 12), (1, .int (nI k)), (2, .int v)] [] σ) ∧ (¬ 16 ≤ (nI k) → V 14 [(0, .ref 12), (1, .int (nI k)), (2, .int v)] [] σ)
  refine ⟨fun hc => absurd hc (show ¬ nI 16 ≤ nI k from nI_ge hk (by decide)), fun _ => ?_⟩
  refine zq (σ := σ) hV hI rfl 4 ?_
  show vp_in (nI k) 16 ∧ V 18 [(0, .ref 12), (1, .int (nI k)), (2, .int v)] [] (zuI σ 12 (Int32.toNatClampNeg (nI k)) v)
  refine ⟨vp_in_nI hk (by decide), ?_⟩
  refine zq (σ := (zuI σ 12 (Int32.toNatClampNeg (nI k)) v)) hV hI rfl 1 ?_
  show K none (zuI σ 12 (Int32.toNatClampNeg (nI k)) v)
  rw [nI_clamp (by omega)]
  exact hK
set_option maxRecDepth 4000 in
theorem item_13 {d : Nat} {σ : zSt} {i : Int32} {k : Nat} {K : Option Value → zSt → Prop} (hI : zQI (kA 13) σ.2.2) (e : i = nI k) (hk : k < 16) (hK : K (some (.int (σ.1 13 k))) σ) : zSp (d + 1) mX8_item [.ref 13, .int i] σ K := by
  refine ⟨⟨by decide, Nat.le_of_ble_eq_true rfl⟩, fun V hV => ?_⟩
  subst e
  refine zq (σ := σ) hV hI rfl 4 ?_
  show ((nI k) < 0 → V 20 [(0, .ref 13), (1, .int (nI k))] [] σ) ∧ (¬ (nI k) < 0 → V 8 [(0, .ref 13), (1, .int (nI k))] [] σ)
  refine ⟨fun hc => absurd hc (nI_pos (by omega)), fun _ => ?_⟩
  refine zq (σ := σ) hV hI rfl 4 ?_
  show (16 ≤ (nI k) → V 20 [(0, .ref 13), (1, .int (nI k))] [] σ) ∧ (¬ 16 ≤ (nI k) → V 14 [(0, .ref 13), (1, .int (nI k))] [] σ)
  refine ⟨fun hc => absurd hc (show ¬ nI 16 ≤ nI k from nI_ge hk (by decide)), fun _ => ?_⟩
  refine zq (σ := σ) hV hI rfl 3 ?_
  show vp_in (nI k) 16 ∧ V 17 [(0, .ref 13), (1, .int (nI k))] [.int (σ.1 13 (Int32.toNatClampNeg (nI k)))] σ
  refine ⟨vp_in_nI hk (by decide), ?_⟩
  refine zq (σ := σ) hV hI rfl 2 ?_
  show K (some (.int (σ.1 13 (Int32.toNatClampNeg (nI k))))) σ
  rw [nI_clamp (by omega)]
  exact hK
set_option maxRecDepth 4000 in
theorem setItem_13 {d : Nat} {σ : zSt} {i v : Int32} {k : Nat} {K : Option Value → zSt → Prop} (hI : zQI (kA 13) σ.2.2) (e : i = nI k) (hk : k < 16) (hK : K none (zuI σ 13 k v)) : zSp (d + 1) mX8_setItem [.ref 13, .int i, .int v] σ K := by
  refine ⟨⟨by decide, Nat.le_of_ble_eq_true rfl⟩, fun V hV => ?_⟩
  subst e
  refine zq (σ := σ) hV hI rfl 4 ?_
  show ((nI k) < 0 → V 18 [(0, .ref 13), (1, .int (nI k)), (2, .int v)] [] σ) ∧ (¬ (nI k) < 0 → V 8 [(0, .ref 13), (1, .int (nI k)), (2, .int v)] [] σ)
  refine ⟨fun hc => absurd hc (nI_pos (by omega)), fun _ => ?_⟩
  refine zq (σ := σ) hV hI rfl 4 ?_
  show (16 ≤ (nI k) → V 18 [(0, .ref 13), (1, .int (nI k)), (2, .int v)] [] σ) ∧ (¬ 16 ≤ (nI k) → V 14 [(0, .ref 13), (1, .int (nI k)), (2, .int v)] [] σ)
  refine ⟨fun hc => absurd hc (show ¬ nI 16 ≤ nI k from nI_ge hk (by decide)), fun _ => ?_⟩
  refine zq (σ := σ) hV hI rfl 4 ?_
  show vp_in (nI k) 16 ∧ V 18 [(0, .ref 13), (1, .int (nI k)), (2, .int v)] [] (zuI σ 13 (Int32.toNatClampNeg (nI k)) v)
  refine ⟨vp_in_nI hk (by decide), ?_⟩
  refine zq (σ := (zuI σ 13 (Int32.toNatClampNeg (nI k)) v)) hV hI rfl 1 ?_
  show K none (zuI σ 13 (Int32.toNatClampNeg (nI k)) v)
  rw [nI_clamp (by omega)]
  exact hK
set_option maxRecDepth 4000 in
theorem item_15 {d : Nat} {σ : zSt} {i : Int32} {k : Nat} {K : Option Value → zSt → Prop} (hI : zQI (kA 15) σ.2.2) (e : i = nI k) (hk : k < 7) (hK : K (some (.int (σ.1 15 k))) σ) : zSp (d + 1) mX8_item [.ref 15, .int i] σ K := by
  refine ⟨⟨by decide, Nat.le_of_ble_eq_true rfl⟩, fun V hV => ?_⟩
  subst e
  refine zq (σ := σ) hV hI rfl 4 ?_
  show ((nI k) < 0 → V 20 [(0, .ref 15), (1, .int (nI k))] [] σ) ∧ (¬ (nI k) < 0 → V 8 [(0, .ref 15), (1, .int (nI k))] [] σ)
  refine ⟨fun hc => absurd hc (nI_pos (by omega)), fun _ => ?_⟩
  refine zq (σ := σ) hV hI rfl 4 ?_
  show (7 ≤ (nI k) → V 20 [(0, .ref 15), (1, .int (nI k))] [] σ) ∧ (¬ 7 ≤ (nI k) → V 14 [(0, .ref 15), (1, .int (nI k))] [] σ)
  refine ⟨fun hc => absurd hc (show ¬ nI 7 ≤ nI k from nI_ge hk (by decide)), fun _ => ?_⟩
  refine zq (σ := σ) hV hI rfl 3 ?_
  show vp_in (nI k) 7 ∧ V 17 [(0, .ref 15), (1, .int (nI k))] [.int (σ.1 15 (Int32.toNatClampNeg (nI k)))] σ
  refine ⟨vp_in_nI hk (by decide), ?_⟩
  refine zq (σ := σ) hV hI rfl 2 ?_
  show K (some (.int (σ.1 15 (Int32.toNatClampNeg (nI k))))) σ
  rw [nI_clamp (by omega)]
  exact hK
set_option maxRecDepth 4000 in
theorem setItem_15 {d : Nat} {σ : zSt} {i v : Int32} {k : Nat} {K : Option Value → zSt → Prop} (hI : zQI (kA 15) σ.2.2) (e : i = nI k) (hk : k < 7) (hK : K none (zuI σ 15 k v)) : zSp (d + 1) mX8_setItem [.ref 15, .int i, .int v] σ K := by
  refine ⟨⟨by decide, Nat.le_of_ble_eq_true rfl⟩, fun V hV => ?_⟩
  subst e
  refine zq (σ := σ) hV hI rfl 4 ?_
  show ((nI k) < 0 → V 18 [(0, .ref 15), (1, .int (nI k)), (2, .int v)] [] σ) ∧ (¬ (nI k) < 0 → V 8 [(0, .ref 15), (1, .int (nI k)), (2, .int v)] [] σ)
  refine ⟨fun hc => absurd hc (nI_pos (by omega)), fun _ => ?_⟩
  refine zq (σ := σ) hV hI rfl 4 ?_
  show (7 ≤ (nI k) → V 18 [(0, .ref 15), (1, .int (nI k)), (2, .int v)] [] σ) ∧ (¬ 7 ≤ (nI k) → V 14 [(0, .ref 15), (1, .int (nI k)), (2, .int v)] [] σ)
  refine ⟨fun hc => absurd hc (show ¬ nI 7 ≤ nI k from nI_ge hk (by decide)), fun _ => ?_⟩
  refine zq (σ := σ) hV hI rfl 4 ?_
  show vp_in (nI k) 7 ∧ V 18 [(0, .ref 15), (1, .int (nI k)), (2, .int v)] [] (zuI σ 15 (Int32.toNatClampNeg (nI k)) v)
  refine ⟨vp_in_nI hk (by decide), ?_⟩
  refine zq (σ := (zuI σ 15 (Int32.toNatClampNeg (nI k)) v)) hV hI rfl 1 ?_
  show K none (zuI σ 15 (Int32.toNatClampNeg (nI k)) v)
  rw [nI_clamp (by omega)]
  exact hK
set_option maxRecDepth 4000 in
theorem item_16 {d : Nat} {σ : zSt} {i : Int32} {k : Nat} {K : Option Value → zSt → Prop} (hI : zQI (kA 16) σ.2.2) (e : i = nI k) (hk : k < 7) (hK : K (some (.int (σ.1 16 k))) σ) : zSp (d + 1) mX8_item [.ref 16, .int i] σ K := by
  refine ⟨⟨by decide, Nat.le_of_ble_eq_true rfl⟩, fun V hV => ?_⟩
  subst e
  refine zq (σ := σ) hV hI rfl 4 ?_
  show ((nI k) < 0 → V 20 [(0, .ref 16), (1, .int (nI k))] [] σ) ∧ (¬ (nI k) < 0 → V 8 [(0, .ref 16), (1, .int (nI k))] [] σ)
  refine ⟨fun hc => absurd hc (nI_pos (by omega)), fun _ => ?_⟩
  refine zq (σ := σ) hV hI rfl 4 ?_
  show (7 ≤ (nI k) → V 20 [(0, .ref 16), (1, .int (nI k))] [] σ) ∧ (¬ 7 ≤ (nI k) → V 14 [(0, .ref 16), (1, .int (nI k))] [] σ)
  refine ⟨fun hc => absurd hc (show ¬ nI 7 ≤ nI k from nI_ge hk (by decide)), fun _ => ?_⟩
  refine zq (σ := σ) hV hI rfl 3 ?_
  show vp_in (nI k) 7 ∧ V 17 [(0, .ref 16), (1, .int (nI k))] [.int (σ.1 16 (Int32.toNatClampNeg (nI k)))] σ
  refine ⟨vp_in_nI hk (by decide), ?_⟩
  refine zq (σ := σ) hV hI rfl 2 ?_
  show K (some (.int (σ.1 16 (Int32.toNatClampNeg (nI k))))) σ
  rw [nI_clamp (by omega)]
  exact hK
set_option maxRecDepth 4000 in
theorem setItem_16 {d : Nat} {σ : zSt} {i v : Int32} {k : Nat} {K : Option Value → zSt → Prop} (hI : zQI (kA 16) σ.2.2) (e : i = nI k) (hk : k < 7) (hK : K none (zuI σ 16 k v)) : zSp (d + 1) mX8_setItem [.ref 16, .int i, .int v] σ K := by
  refine ⟨⟨by decide, Nat.le_of_ble_eq_true rfl⟩, fun V hV => ?_⟩
  subst e
  refine zq (σ := σ) hV hI rfl 4 ?_
  show ((nI k) < 0 → V 18 [(0, .ref 16), (1, .int (nI k)), (2, .int v)] [] σ) ∧ (¬ (nI k) < 0 → V 8 [(0, .ref 16), (1, .int (nI k)), (2, .int v)] [] σ)
  refine ⟨fun hc => absurd hc (nI_pos (by omega)), fun _ => ?_⟩
  refine zq (σ := σ) hV hI rfl 4 ?_
  show (7 ≤ (nI k) → V 18 [(0, .ref 16), (1, .int (nI k)), (2, .int v)] [] σ) ∧ (¬ 7 ≤ (nI k) → V 14 [(0, .ref 16), (1, .int (nI k)), (2, .int v)] [] σ)
  refine ⟨fun hc => absurd hc (show ¬ nI 7 ≤ nI k from nI_ge hk (by decide)), fun _ => ?_⟩
  refine zq (σ := σ) hV hI rfl 4 ?_
  show vp_in (nI k) 7 ∧ V 18 [(0, .ref 16), (1, .int (nI k)), (2, .int v)] [] (zuI σ 16 (Int32.toNatClampNeg (nI k)) v)
  refine ⟨vp_in_nI hk (by decide), ?_⟩
  refine zq (σ := (zuI σ 16 (Int32.toNatClampNeg (nI k)) v)) hV hI rfl 1 ?_
  show K none (zuI σ 16 (Int32.toNatClampNeg (nI k)) v)
  rw [nI_clamp (by omega)]
  exact hK
set_option maxRecDepth 4000 in
theorem item_17 {d : Nat} {σ : zSt} {i : Int32} {k : Nat} {K : Option Value → zSt → Prop} (hI : zQI (kA 17) σ.2.2) (e : i = nI k) (hk : k < 7) (hK : K (some (.int (σ.1 17 k))) σ) : zSp (d + 1) mX8_item [.ref 17, .int i] σ K := by
  refine ⟨⟨by decide, Nat.le_of_ble_eq_true rfl⟩, fun V hV => ?_⟩
  subst e
  refine zq (σ := σ) hV hI rfl 4 ?_
  show ((nI k) < 0 → V 20 [(0, .ref 17), (1, .int (nI k))] [] σ) ∧ (¬ (nI k) < 0 → V 8 [(0, .ref 17), (1, .int (nI k))] [] σ)
  refine ⟨fun hc => absurd hc (nI_pos (by omega)), fun _ => ?_⟩
  refine zq (σ := σ) hV hI rfl 4 ?_
  show (7 ≤ (nI k) → V 20 [(0, .ref 17), (1, .int (nI k))] [] σ) ∧ (¬ 7 ≤ (nI k) → V 14 [(0, .ref 17), (1, .int (nI k))] [] σ)
  refine ⟨fun hc => absurd hc (show ¬ nI 7 ≤ nI k from nI_ge hk (by decide)), fun _ => ?_⟩
  refine zq (σ := σ) hV hI rfl 3 ?_
  show vp_in (nI k) 7 ∧ V 17 [(0, .ref 17), (1, .int (nI k))] [.int (σ.1 17 (Int32.toNatClampNeg (nI k)))] σ
  refine ⟨vp_in_nI hk (by decide), ?_⟩
  refine zq (σ := σ) hV hI rfl 2 ?_
  show K (some (.int (σ.1 17 (Int32.toNatClampNeg (nI k))))) σ
  rw [nI_clamp (by omega)]
  exact hK
set_option maxRecDepth 4000 in
theorem setItem_17 {d : Nat} {σ : zSt} {i v : Int32} {k : Nat} {K : Option Value → zSt → Prop} (hI : zQI (kA 17) σ.2.2) (e : i = nI k) (hk : k < 7) (hK : K none (zuI σ 17 k v)) : zSp (d + 1) mX8_setItem [.ref 17, .int i, .int v] σ K := by
  refine ⟨⟨by decide, Nat.le_of_ble_eq_true rfl⟩, fun V hV => ?_⟩
  subst e
  refine zq (σ := σ) hV hI rfl 4 ?_
  show ((nI k) < 0 → V 18 [(0, .ref 17), (1, .int (nI k)), (2, .int v)] [] σ) ∧ (¬ (nI k) < 0 → V 8 [(0, .ref 17), (1, .int (nI k)), (2, .int v)] [] σ)
  refine ⟨fun hc => absurd hc (nI_pos (by omega)), fun _ => ?_⟩
  refine zq (σ := σ) hV hI rfl 4 ?_
  show (7 ≤ (nI k) → V 18 [(0, .ref 17), (1, .int (nI k)), (2, .int v)] [] σ) ∧ (¬ 7 ≤ (nI k) → V 14 [(0, .ref 17), (1, .int (nI k)), (2, .int v)] [] σ)
  refine ⟨fun hc => absurd hc (show ¬ nI 7 ≤ nI k from nI_ge hk (by decide)), fun _ => ?_⟩
  refine zq (σ := σ) hV hI rfl 4 ?_
  show vp_in (nI k) 7 ∧ V 18 [(0, .ref 17), (1, .int (nI k)), (2, .int v)] [] (zuI σ 17 (Int32.toNatClampNeg (nI k)) v)
  refine ⟨vp_in_nI hk (by decide), ?_⟩
  refine zq (σ := (zuI σ 17 (Int32.toNatClampNeg (nI k)) v)) hV hI rfl 1 ?_
  show K none (zuI σ 17 (Int32.toNatClampNeg (nI k)) v)
  rw [nI_clamp (by omega)]
  exact hK
set_option maxRecDepth 4000 in
theorem item_19 {d : Nat} {σ : zSt} {i : Int32} {k : Nat} {K : Option Value → zSt → Prop} (hI : zQI (kA 19) σ.2.2) (e : i = nI k) (hk : k < 20) (hK : K (some (.int (σ.1 19 k))) σ) : zSp (d + 1) mX8_item [.ref 19, .int i] σ K := by
  refine ⟨⟨by decide, Nat.le_of_ble_eq_true rfl⟩, fun V hV => ?_⟩
  subst e
  refine zq (σ := σ) hV hI rfl 4 ?_
  show ((nI k) < 0 → V 20 [(0, .ref 19), (1, .int (nI k))] [] σ) ∧ (¬ (nI k) < 0 → V 8 [(0, .ref 19), (1, .int (nI k))] [] σ)
  refine ⟨fun hc => absurd hc (nI_pos (by omega)), fun _ => ?_⟩
  refine zq (σ := σ) hV hI rfl 4 ?_
  show (20 ≤ (nI k) → V 20 [(0, .ref 19), (1, .int (nI k))] [] σ) ∧ (¬ 20 ≤ (nI k) → V 14 [(0, .ref 19), (1, .int (nI k))] [] σ)
  refine ⟨fun hc => absurd hc (show ¬ nI 20 ≤ nI k from nI_ge hk (by decide)), fun _ => ?_⟩
  refine zq (σ := σ) hV hI rfl 3 ?_
  show vp_in (nI k) 20 ∧ V 17 [(0, .ref 19), (1, .int (nI k))] [.int (σ.1 19 (Int32.toNatClampNeg (nI k)))] σ
  refine ⟨vp_in_nI hk (by decide), ?_⟩
  refine zq (σ := σ) hV hI rfl 2 ?_
  show K (some (.int (σ.1 19 (Int32.toNatClampNeg (nI k))))) σ
  rw [nI_clamp (by omega)]
  exact hK
set_option maxRecDepth 4000 in
theorem setItem_19 {d : Nat} {σ : zSt} {i v : Int32} {k : Nat} {K : Option Value → zSt → Prop} (hI : zQI (kA 19) σ.2.2) (e : i = nI k) (hk : k < 20) (hK : K none (zuI σ 19 k v)) : zSp (d + 1) mX8_setItem [.ref 19, .int i, .int v] σ K := by
  refine ⟨⟨by decide, Nat.le_of_ble_eq_true rfl⟩, fun V hV => ?_⟩
  subst e
  refine zq (σ := σ) hV hI rfl 4 ?_
  show ((nI k) < 0 → V 18 [(0, .ref 19), (1, .int (nI k)), (2, .int v)] [] σ) ∧ (¬ (nI k) < 0 → V 8 [(0, .ref 19), (1, .int (nI k)), (2, .int v)] [] σ)
  refine ⟨fun hc => absurd hc (nI_pos (by omega)), fun _ => ?_⟩
  refine zq (σ := σ) hV hI rfl 4 ?_
  show (20 ≤ (nI k) → V 18 [(0, .ref 19), (1, .int (nI k)), (2, .int v)] [] σ) ∧ (¬ 20 ≤ (nI k) → V 14 [(0, .ref 19), (1, .int (nI k)), (2, .int v)] [] σ)
  refine ⟨fun hc => absurd hc (show ¬ nI 20 ≤ nI k from nI_ge hk (by decide)), fun _ => ?_⟩
  refine zq (σ := σ) hV hI rfl 4 ?_
  show vp_in (nI k) 20 ∧ V 18 [(0, .ref 19), (1, .int (nI k)), (2, .int v)] [] (zuI σ 19 (Int32.toNatClampNeg (nI k)) v)
  refine ⟨vp_in_nI hk (by decide), ?_⟩
  refine zq (σ := (zuI σ 19 (Int32.toNatClampNeg (nI k)) v)) hV hI rfl 1 ?_
  show K none (zuI σ 19 (Int32.toNatClampNeg (nI k)) v)
  rw [nI_clamp (by omega)]
  exact hK
set_option maxRecDepth 4000 in
theorem item_20 {d : Nat} {σ : zSt} {i : Int32} {k : Nat} {K : Option Value → zSt → Prop} (hI : zQI (kA 20) σ.2.2) (e : i = nI k) (hk : k < 20) (hK : K (some (.int (σ.1 20 k))) σ) : zSp (d + 1) mX8_item [.ref 20, .int i] σ K := by
  refine ⟨⟨by decide, Nat.le_of_ble_eq_true rfl⟩, fun V hV => ?_⟩
  subst e
  refine zq (σ := σ) hV hI rfl 4 ?_
  show ((nI k) < 0 → V 20 [(0, .ref 20), (1, .int (nI k))] [] σ) ∧ (¬ (nI k) < 0 → V 8 [(0, .ref 20), (1, .int (nI k))] [] σ)
  refine ⟨fun hc => absurd hc (nI_pos (by omega)), fun _ => ?_⟩
  refine zq (σ := σ) hV hI rfl 4 ?_
  show (20 ≤ (nI k) → V 20 [(0, .ref 20), (1, .int (nI k))] [] σ) ∧ (¬ 20 ≤ (nI k) → V 14 [(0, .ref 20), (1, .int (nI k))] [] σ)
  refine ⟨fun hc => absurd hc (show ¬ nI 20 ≤ nI k from nI_ge hk (by decide)), fun _ => ?_⟩
  refine zq (σ := σ) hV hI rfl 3 ?_
  show vp_in (nI k) 20 ∧ V 17 [(0, .ref 20), (1, .int (nI k))] [.int (σ.1 20 (Int32.toNatClampNeg (nI k)))] σ
  refine ⟨vp_in_nI hk (by decide), ?_⟩
  refine zq (σ := σ) hV hI rfl 2 ?_
  show K (some (.int (σ.1 20 (Int32.toNatClampNeg (nI k))))) σ
  rw [nI_clamp (by omega)]
  exact hK
set_option maxRecDepth 4000 in
theorem setItem_20 {d : Nat} {σ : zSt} {i v : Int32} {k : Nat} {K : Option Value → zSt → Prop} (hI : zQI (kA 20) σ.2.2) (e : i = nI k) (hk : k < 20) (hK : K none (zuI σ 20 k v)) : zSp (d + 1) mX8_setItem [.ref 20, .int i, .int v] σ K := by
  refine ⟨⟨by decide, Nat.le_of_ble_eq_true rfl⟩, fun V hV => ?_⟩
  subst e
  refine zq (σ := σ) hV hI rfl 4 ?_
  show ((nI k) < 0 → V 18 [(0, .ref 20), (1, .int (nI k)), (2, .int v)] [] σ) ∧ (¬ (nI k) < 0 → V 8 [(0, .ref 20), (1, .int (nI k)), (2, .int v)] [] σ)
  refine ⟨fun hc => absurd hc (nI_pos (by omega)), fun _ => ?_⟩
  refine zq (σ := σ) hV hI rfl 4 ?_
  show (20 ≤ (nI k) → V 18 [(0, .ref 20), (1, .int (nI k)), (2, .int v)] [] σ) ∧ (¬ 20 ≤ (nI k) → V 14 [(0, .ref 20), (1, .int (nI k)), (2, .int v)] [] σ)
  refine ⟨fun hc => absurd hc (show ¬ nI 20 ≤ nI k from nI_ge hk (by decide)), fun _ => ?_⟩
  refine zq (σ := σ) hV hI rfl 4 ?_
  show vp_in (nI k) 20 ∧ V 18 [(0, .ref 20), (1, .int (nI k)), (2, .int v)] [] (zuI σ 20 (Int32.toNatClampNeg (nI k)) v)
  refine ⟨vp_in_nI hk (by decide), ?_⟩
  refine zq (σ := (zuI σ 20 (Int32.toNatClampNeg (nI k)) v)) hV hI rfl 1 ?_
  show K none (zuI σ 20 (Int32.toNatClampNeg (nI k)) v)
  rw [nI_clamp (by omega)]
  exact hK
set_option maxRecDepth 4000 in
theorem item_22 {d : Nat} {σ : zSt} {i : Int32} {k : Nat} {K : Option Value → zSt → Prop} (hI : zQI (kA 22) σ.2.2) (e : i = nI k) (hk : k < 100) (hK : K (some (.int (σ.1 22 k))) σ) : zSp (d + 1) mX8_item [.ref 22, .int i] σ K := by
  refine ⟨⟨by decide, Nat.le_of_ble_eq_true rfl⟩, fun V hV => ?_⟩
  subst e
  refine zq (σ := σ) hV hI rfl 4 ?_
  show ((nI k) < 0 → V 20 [(0, .ref 22), (1, .int (nI k))] [] σ) ∧ (¬ (nI k) < 0 → V 8 [(0, .ref 22), (1, .int (nI k))] [] σ)
  refine ⟨fun hc => absurd hc (nI_pos (by omega)), fun _ => ?_⟩
  refine zq (σ := σ) hV hI rfl 4 ?_
  show (100 ≤ (nI k) → V 20 [(0, .ref 22), (1, .int (nI k))] [] σ) ∧ (¬ 100 ≤ (nI k) → V 14 [(0, .ref 22), (1, .int (nI k))] [] σ)
  refine ⟨fun hc => absurd hc (show ¬ nI 100 ≤ nI k from nI_ge hk (by decide)), fun _ => ?_⟩
  refine zq (σ := σ) hV hI rfl 3 ?_
  show vp_in (nI k) 100 ∧ V 17 [(0, .ref 22), (1, .int (nI k))] [.int (σ.1 22 (Int32.toNatClampNeg (nI k)))] σ
  refine ⟨vp_in_nI hk (by decide), ?_⟩
  refine zq (σ := σ) hV hI rfl 2 ?_
  show K (some (.int (σ.1 22 (Int32.toNatClampNeg (nI k))))) σ
  rw [nI_clamp (by omega)]
  exact hK
set_option maxRecDepth 4000 in
theorem setItem_22 {d : Nat} {σ : zSt} {i v : Int32} {k : Nat} {K : Option Value → zSt → Prop} (hI : zQI (kA 22) σ.2.2) (e : i = nI k) (hk : k < 100) (hK : K none (zuI σ 22 k v)) : zSp (d + 1) mX8_setItem [.ref 22, .int i, .int v] σ K := by
  refine ⟨⟨by decide, Nat.le_of_ble_eq_true rfl⟩, fun V hV => ?_⟩
  subst e
  refine zq (σ := σ) hV hI rfl 4 ?_
  show ((nI k) < 0 → V 18 [(0, .ref 22), (1, .int (nI k)), (2, .int v)] [] σ) ∧ (¬ (nI k) < 0 → V 8 [(0, .ref 22), (1, .int (nI k)), (2, .int v)] [] σ)
  refine ⟨fun hc => absurd hc (nI_pos (by omega)), fun _ => ?_⟩
  refine zq (σ := σ) hV hI rfl 4 ?_
  show (100 ≤ (nI k) → V 18 [(0, .ref 22), (1, .int (nI k)), (2, .int v)] [] σ) ∧ (¬ 100 ≤ (nI k) → V 14 [(0, .ref 22), (1, .int (nI k)), (2, .int v)] [] σ)
  refine ⟨fun hc => absurd hc (show ¬ nI 100 ≤ nI k from nI_ge hk (by decide)), fun _ => ?_⟩
  refine zq (σ := σ) hV hI rfl 4 ?_
  show vp_in (nI k) 100 ∧ V 18 [(0, .ref 22), (1, .int (nI k)), (2, .int v)] [] (zuI σ 22 (Int32.toNatClampNeg (nI k)) v)
  refine ⟨vp_in_nI hk (by decide), ?_⟩
  refine zq (σ := (zuI σ 22 (Int32.toNatClampNeg (nI k)) v)) hV hI rfl 1 ?_
  show K none (zuI σ 22 (Int32.toNatClampNeg (nI k)) v)
  rw [nI_clamp (by omega)]
  exact hK
set_option maxRecDepth 4000 in
theorem item_23 {d : Nat} {σ : zSt} {i : Int32} {k : Nat} {K : Option Value → zSt → Prop} (hI : zQI (kA 23) σ.2.2) (e : i = nI k) (hk : k < 10) (hK : K (some (.int (σ.1 23 k))) σ) : zSp (d + 1) mX8_item [.ref 23, .int i] σ K := by
  refine ⟨⟨by decide, Nat.le_of_ble_eq_true rfl⟩, fun V hV => ?_⟩
  subst e
  refine zq (σ := σ) hV hI rfl 4 ?_
  show ((nI k) < 0 → V 20 [(0, .ref 23), (1, .int (nI k))] [] σ) ∧ (¬ (nI k) < 0 → V 8 [(0, .ref 23), (1, .int (nI k))] [] σ)
  refine ⟨fun hc => absurd hc (nI_pos (by omega)), fun _ => ?_⟩
  refine zq (σ := σ) hV hI rfl 4 ?_
  show (10 ≤ (nI k) → V 20 [(0, .ref 23), (1, .int (nI k))] [] σ) ∧ (¬ 10 ≤ (nI k) → V 14 [(0, .ref 23), (1, .int (nI k))] [] σ)
  refine ⟨fun hc => absurd hc (show ¬ nI 10 ≤ nI k from nI_ge hk (by decide)), fun _ => ?_⟩
  refine zq (σ := σ) hV hI rfl 3 ?_
  show vp_in (nI k) 10 ∧ V 17 [(0, .ref 23), (1, .int (nI k))] [.int (σ.1 23 (Int32.toNatClampNeg (nI k)))] σ
  refine ⟨vp_in_nI hk (by decide), ?_⟩
  refine zq (σ := σ) hV hI rfl 2 ?_
  show K (some (.int (σ.1 23 (Int32.toNatClampNeg (nI k))))) σ
  rw [nI_clamp (by omega)]
  exact hK
set_option maxRecDepth 4000 in
theorem setItem_23 {d : Nat} {σ : zSt} {i v : Int32} {k : Nat} {K : Option Value → zSt → Prop} (hI : zQI (kA 23) σ.2.2) (e : i = nI k) (hk : k < 10) (hK : K none (zuI σ 23 k v)) : zSp (d + 1) mX8_setItem [.ref 23, .int i, .int v] σ K := by
  refine ⟨⟨by decide, Nat.le_of_ble_eq_true rfl⟩, fun V hV => ?_⟩
  subst e
  refine zq (σ := σ) hV hI rfl 4 ?_
  show ((nI k) < 0 → V 18 [(0, .ref 23), (1, .int (nI k)), (2, .int v)] [] σ) ∧ (¬ (nI k) < 0 → V 8 [(0, .ref 23), (1, .int (nI k)), (2, .int v)] [] σ)
  refine ⟨fun hc => absurd hc (nI_pos (by omega)), fun _ => ?_⟩
  refine zq (σ := σ) hV hI rfl 4 ?_
  show (10 ≤ (nI k) → V 18 [(0, .ref 23), (1, .int (nI k)), (2, .int v)] [] σ) ∧ (¬ 10 ≤ (nI k) → V 14 [(0, .ref 23), (1, .int (nI k)), (2, .int v)] [] σ)
  refine ⟨fun hc => absurd hc (show ¬ nI 10 ≤ nI k from nI_ge hk (by decide)), fun _ => ?_⟩
  refine zq (σ := σ) hV hI rfl 4 ?_
  show vp_in (nI k) 10 ∧ V 18 [(0, .ref 23), (1, .int (nI k)), (2, .int v)] [] (zuI σ 23 (Int32.toNatClampNeg (nI k)) v)
  refine ⟨vp_in_nI hk (by decide), ?_⟩
  refine zq (σ := (zuI σ 23 (Int32.toNatClampNeg (nI k)) v)) hV hI rfl 1 ?_
  show K none (zuI σ 23 (Int32.toNatClampNeg (nI k)) v)
  rw [nI_clamp (by omega)]
  exact hK
set_option maxRecDepth 4000 in
theorem item_25 {d : Nat} {σ : zSt} {i : Int32} {k : Nat} {K : Option Value → zSt → Prop} (hI : zQI (kA 25) σ.2.2) (e : i = nI k) (hk : k < 12) (hK : K (some (.int (σ.1 25 k))) σ) : zSp (d + 1) mX8_item [.ref 25, .int i] σ K := by
  refine ⟨⟨by decide, Nat.le_of_ble_eq_true rfl⟩, fun V hV => ?_⟩
  subst e
  refine zq (σ := σ) hV hI rfl 4 ?_
  show ((nI k) < 0 → V 20 [(0, .ref 25), (1, .int (nI k))] [] σ) ∧ (¬ (nI k) < 0 → V 8 [(0, .ref 25), (1, .int (nI k))] [] σ)
  refine ⟨fun hc => absurd hc (nI_pos (by omega)), fun _ => ?_⟩
  refine zq (σ := σ) hV hI rfl 4 ?_
  show (12 ≤ (nI k) → V 20 [(0, .ref 25), (1, .int (nI k))] [] σ) ∧ (¬ 12 ≤ (nI k) → V 14 [(0, .ref 25), (1, .int (nI k))] [] σ)
  refine ⟨fun hc => absurd hc (show ¬ nI 12 ≤ nI k from nI_ge hk (by decide)), fun _ => ?_⟩
  refine zq (σ := σ) hV hI rfl 3 ?_
  show vp_in (nI k) 12 ∧ V 17 [(0, .ref 25), (1, .int (nI k))] [.int (σ.1 25 (Int32.toNatClampNeg (nI k)))] σ
  refine ⟨vp_in_nI hk (by decide), ?_⟩
  refine zq (σ := σ) hV hI rfl 2 ?_
  show K (some (.int (σ.1 25 (Int32.toNatClampNeg (nI k))))) σ
  rw [nI_clamp (by omega)]
  exact hK
set_option maxRecDepth 4000 in
theorem setItem_25 {d : Nat} {σ : zSt} {i v : Int32} {k : Nat} {K : Option Value → zSt → Prop} (hI : zQI (kA 25) σ.2.2) (e : i = nI k) (hk : k < 12) (hK : K none (zuI σ 25 k v)) : zSp (d + 1) mX8_setItem [.ref 25, .int i, .int v] σ K := by
  refine ⟨⟨by decide, Nat.le_of_ble_eq_true rfl⟩, fun V hV => ?_⟩
  subst e
  refine zq (σ := σ) hV hI rfl 4 ?_
  show ((nI k) < 0 → V 18 [(0, .ref 25), (1, .int (nI k)), (2, .int v)] [] σ) ∧ (¬ (nI k) < 0 → V 8 [(0, .ref 25), (1, .int (nI k)), (2, .int v)] [] σ)
  refine ⟨fun hc => absurd hc (nI_pos (by omega)), fun _ => ?_⟩
  refine zq (σ := σ) hV hI rfl 4 ?_
  show (12 ≤ (nI k) → V 18 [(0, .ref 25), (1, .int (nI k)), (2, .int v)] [] σ) ∧ (¬ 12 ≤ (nI k) → V 14 [(0, .ref 25), (1, .int (nI k)), (2, .int v)] [] σ)
  refine ⟨fun hc => absurd hc (show ¬ nI 12 ≤ nI k from nI_ge hk (by decide)), fun _ => ?_⟩
  refine zq (σ := σ) hV hI rfl 4 ?_
  show vp_in (nI k) 12 ∧ V 18 [(0, .ref 25), (1, .int (nI k)), (2, .int v)] [] (zuI σ 25 (Int32.toNatClampNeg (nI k)) v)
  refine ⟨vp_in_nI hk (by decide), ?_⟩
  refine zq (σ := (zuI σ 25 (Int32.toNatClampNeg (nI k)) v)) hV hI rfl 1 ?_
  show K none (zuI σ 25 (Int32.toNatClampNeg (nI k)) v)
  rw [nI_clamp (by omega)]
  exact hK
set_option maxRecDepth 4000 in
theorem item_27 {d : Nat} {σ : zSt} {i : Int32} {k : Nat} {K : Option Value → zSt → Prop} (hI : zQI (kA 27) σ.2.2) (e : i = nI k) (hk : k < 4) (hK : K (some (.int (σ.1 27 k))) σ) : zSp (d + 1) mX8_item [.ref 27, .int i] σ K := by
  refine ⟨⟨by decide, Nat.le_of_ble_eq_true rfl⟩, fun V hV => ?_⟩
  subst e
  refine zq (σ := σ) hV hI rfl 4 ?_
  show ((nI k) < 0 → V 20 [(0, .ref 27), (1, .int (nI k))] [] σ) ∧ (¬ (nI k) < 0 → V 8 [(0, .ref 27), (1, .int (nI k))] [] σ)
  refine ⟨fun hc => absurd hc (nI_pos (by omega)), fun _ => ?_⟩
  refine zq (σ := σ) hV hI rfl 4 ?_
  show (4 ≤ (nI k) → V 20 [(0, .ref 27), (1, .int (nI k))] [] σ) ∧ (¬ 4 ≤ (nI k) → V 14 [(0, .ref 27), (1, .int (nI k))] [] σ)
  refine ⟨fun hc => absurd hc (show ¬ nI 4 ≤ nI k from nI_ge hk (by decide)), fun _ => ?_⟩
  refine zq (σ := σ) hV hI rfl 3 ?_
  show vp_in (nI k) 4 ∧ V 17 [(0, .ref 27), (1, .int (nI k))] [.int (σ.1 27 (Int32.toNatClampNeg (nI k)))] σ
  refine ⟨vp_in_nI hk (by decide), ?_⟩
  refine zq (σ := σ) hV hI rfl 2 ?_
  show K (some (.int (σ.1 27 (Int32.toNatClampNeg (nI k))))) σ
  rw [nI_clamp (by omega)]
  exact hK
set_option maxRecDepth 4000 in
theorem setItem_27 {d : Nat} {σ : zSt} {i v : Int32} {k : Nat} {K : Option Value → zSt → Prop} (hI : zQI (kA 27) σ.2.2) (e : i = nI k) (hk : k < 4) (hK : K none (zuI σ 27 k v)) : zSp (d + 1) mX8_setItem [.ref 27, .int i, .int v] σ K := by
  refine ⟨⟨by decide, Nat.le_of_ble_eq_true rfl⟩, fun V hV => ?_⟩
  subst e
  refine zq (σ := σ) hV hI rfl 4 ?_
  show ((nI k) < 0 → V 18 [(0, .ref 27), (1, .int (nI k)), (2, .int v)] [] σ) ∧ (¬ (nI k) < 0 → V 8 [(0, .ref 27), (1, .int (nI k)), (2, .int v)] [] σ)
  refine ⟨fun hc => absurd hc (nI_pos (by omega)), fun _ => ?_⟩
  refine zq (σ := σ) hV hI rfl 4 ?_
  show (4 ≤ (nI k) → V 18 [(0, .ref 27), (1, .int (nI k)), (2, .int v)] [] σ) ∧ (¬ 4 ≤ (nI k) → V 14 [(0, .ref 27), (1, .int (nI k)), (2, .int v)] [] σ)
  refine ⟨fun hc => absurd hc (show ¬ nI 4 ≤ nI k from nI_ge hk (by decide)), fun _ => ?_⟩
  refine zq (σ := σ) hV hI rfl 4 ?_
  show vp_in (nI k) 4 ∧ V 18 [(0, .ref 27), (1, .int (nI k)), (2, .int v)] [] (zuI σ 27 (Int32.toNatClampNeg (nI k)) v)
  refine ⟨vp_in_nI hk (by decide), ?_⟩
  refine zq (σ := (zuI σ 27 (Int32.toNatClampNeg (nI k)) v)) hV hI rfl 1 ?_
  show K none (zuI σ 27 (Int32.toNatClampNeg (nI k)) v)
  rw [nI_clamp (by omega)]
  exact hK
set_option maxRecDepth 4000 in
theorem item_28 {d : Nat} {σ : zSt} {i : Int32} {k : Nat} {K : Option Value → zSt → Prop} (hI : zQI (kA 28) σ.2.2) (e : i = nI k) (hk : k < 4) (hK : K (some (.int (σ.1 28 k))) σ) : zSp (d + 1) mX8_item [.ref 28, .int i] σ K := by
  refine ⟨⟨by decide, Nat.le_of_ble_eq_true rfl⟩, fun V hV => ?_⟩
  subst e
  refine zq (σ := σ) hV hI rfl 4 ?_
  show ((nI k) < 0 → V 20 [(0, .ref 28), (1, .int (nI k))] [] σ) ∧ (¬ (nI k) < 0 → V 8 [(0, .ref 28), (1, .int (nI k))] [] σ)
  refine ⟨fun hc => absurd hc (nI_pos (by omega)), fun _ => ?_⟩
  refine zq (σ := σ) hV hI rfl 4 ?_
  show (4 ≤ (nI k) → V 20 [(0, .ref 28), (1, .int (nI k))] [] σ) ∧ (¬ 4 ≤ (nI k) → V 14 [(0, .ref 28), (1, .int (nI k))] [] σ)
  refine ⟨fun hc => absurd hc (show ¬ nI 4 ≤ nI k from nI_ge hk (by decide)), fun _ => ?_⟩
  refine zq (σ := σ) hV hI rfl 3 ?_
  show vp_in (nI k) 4 ∧ V 17 [(0, .ref 28), (1, .int (nI k))] [.int (σ.1 28 (Int32.toNatClampNeg (nI k)))] σ
  refine ⟨vp_in_nI hk (by decide), ?_⟩
  refine zq (σ := σ) hV hI rfl 2 ?_
  show K (some (.int (σ.1 28 (Int32.toNatClampNeg (nI k))))) σ
  rw [nI_clamp (by omega)]
  exact hK
set_option maxRecDepth 4000 in
theorem setItem_28 {d : Nat} {σ : zSt} {i v : Int32} {k : Nat} {K : Option Value → zSt → Prop} (hI : zQI (kA 28) σ.2.2) (e : i = nI k) (hk : k < 4) (hK : K none (zuI σ 28 k v)) : zSp (d + 1) mX8_setItem [.ref 28, .int i, .int v] σ K := by
  refine ⟨⟨by decide, Nat.le_of_ble_eq_true rfl⟩, fun V hV => ?_⟩
  subst e
  refine zq (σ := σ) hV hI rfl 4 ?_
  show ((nI k) < 0 → V 18 [(0, .ref 28), (1, .int (nI k)), (2, .int v)] [] σ) ∧ (¬ (nI k) < 0 → V 8 [(0, .ref 28), (1, .int (nI k)), (2, .int v)] [] σ)
  refine ⟨fun hc => absurd hc (nI_pos (by omega)), fun _ => ?_⟩
  refine zq (σ := σ) hV hI rfl 4 ?_
  show (4 ≤ (nI k) → V 18 [(0, .ref 28), (1, .int (nI k)), (2, .int v)] [] σ) ∧ (¬ 4 ≤ (nI k) → V 14 [(0, .ref 28), (1, .int (nI k)), (2, .int v)] [] σ)
  refine ⟨fun hc => absurd hc (show ¬ nI 4 ≤ nI k from nI_ge hk (by decide)), fun _ => ?_⟩
  refine zq (σ := σ) hV hI rfl 4 ?_
  show vp_in (nI k) 4 ∧ V 18 [(0, .ref 28), (1, .int (nI k)), (2, .int v)] [] (zuI σ 28 (Int32.toNatClampNeg (nI k)) v)
  refine ⟨vp_in_nI hk (by decide), ?_⟩
  refine zq (σ := (zuI σ 28 (Int32.toNatClampNeg (nI k)) v)) hV hI rfl 1 ?_
  show K none (zuI σ 28 (Int32.toNatClampNeg (nI k)) v)
  rw [nI_clamp (by omega)]
  exact hK
set_option maxRecDepth 4000 in
theorem item_29 {d : Nat} {σ : zSt} {i : Int32} {k : Nat} {K : Option Value → zSt → Prop} (hI : zQI (kA 29) σ.2.2) (e : i = nI k) (hk : k < 240) (hK : K (some (.int (σ.1 29 k))) σ) : zSp (d + 1) mX8_item [.ref 29, .int i] σ K := by
  refine ⟨⟨by decide, Nat.le_of_ble_eq_true rfl⟩, fun V hV => ?_⟩
  subst e
  refine zq (σ := σ) hV hI rfl 4 ?_
  show ((nI k) < 0 → V 20 [(0, .ref 29), (1, .int (nI k))] [] σ) ∧ (¬ (nI k) < 0 → V 8 [(0, .ref 29), (1, .int (nI k))] [] σ)
  refine ⟨fun hc => absurd hc (nI_pos (by omega)), fun _ => ?_⟩
  refine zq (σ := σ) hV hI rfl 4 ?_
  show (240 ≤ (nI k) → V 20 [(0, .ref 29), (1, .int (nI k))] [] σ) ∧ (¬ 240 ≤ (nI k) → V 14 [(0, .ref 29), (1, .int (nI k))] [] σ)
  refine ⟨fun hc => absurd hc (show ¬ nI 240 ≤ nI k from nI_ge hk (by decide)), fun _ => ?_⟩
  refine zq (σ := σ) hV hI rfl 3 ?_
  show vp_in (nI k) 240 ∧ V 17 [(0, .ref 29), (1, .int (nI k))] [.int (σ.1 29 (Int32.toNatClampNeg (nI k)))] σ
  refine ⟨vp_in_nI hk (by decide), ?_⟩
  refine zq (σ := σ) hV hI rfl 2 ?_
  show K (some (.int (σ.1 29 (Int32.toNatClampNeg (nI k))))) σ
  rw [nI_clamp (by omega)]
  exact hK
set_option maxRecDepth 4000 in
theorem setItem_29 {d : Nat} {σ : zSt} {i v : Int32} {k : Nat} {K : Option Value → zSt → Prop} (hI : zQI (kA 29) σ.2.2) (e : i = nI k) (hk : k < 240) (hK : K none (zuI σ 29 k v)) : zSp (d + 1) mX8_setItem [.ref 29, .int i, .int v] σ K := by
  refine ⟨⟨by decide, Nat.le_of_ble_eq_true rfl⟩, fun V hV => ?_⟩
  subst e
  refine zq (σ := σ) hV hI rfl 4 ?_
  show ((nI k) < 0 → V 18 [(0, .ref 29), (1, .int (nI k)), (2, .int v)] [] σ) ∧ (¬ (nI k) < 0 → V 8 [(0, .ref 29), (1, .int (nI k)), (2, .int v)] [] σ)
  refine ⟨fun hc => absurd hc (nI_pos (by omega)), fun _ => ?_⟩
  refine zq (σ := σ) hV hI rfl 4 ?_
  show (240 ≤ (nI k) → V 18 [(0, .ref 29), (1, .int (nI k)), (2, .int v)] [] σ) ∧ (¬ 240 ≤ (nI k) → V 14 [(0, .ref 29), (1, .int (nI k)), (2, .int v)] [] σ)
  refine ⟨fun hc => absurd hc (show ¬ nI 240 ≤ nI k from nI_ge hk (by decide)), fun _ => ?_⟩
  refine zq (σ := σ) hV hI rfl 4 ?_
  show vp_in (nI k) 240 ∧ V 18 [(0, .ref 29), (1, .int (nI k)), (2, .int v)] [] (zuI σ 29 (Int32.toNatClampNeg (nI k)) v)
  refine ⟨vp_in_nI hk (by decide), ?_⟩
  refine zq (σ := (zuI σ 29 (Int32.toNatClampNeg (nI k)) v)) hV hI rfl 1 ?_
  show K none (zuI σ 29 (Int32.toNatClampNeg (nI k)) v)
  rw [nI_clamp (by omega)]
  exact hK
end
section
set_option maxRecDepth 8000 in
set_option maxHeartbeats 4000000 in
theorem x_ok {d : Nat} {σ : zSt} {K : Option Value → zSt → Prop} {i : Int32} {k : Nat} (hI : zQI (kR 1 4) σ.2.2) (e : i = nI k) (hk : k < 10) (hK : K (some (.int (σ.1 2 k))) σ) : zSp (d + 2) mX3_x [.ref 1, .int i] σ K := by
  refine ⟨⟨by decide, Nat.le_of_ble_eq_true rfl⟩, fun V hV => ?_⟩
  subst e
  refine zq (σ := σ) hV hI rfl 4 ?_
  show zSp _ 128 [.ref 2, .int (nI k)] σ (fun r σ' => σ'.2.2.2 = σ.2.2.2 + zAl 128 → V 8 [(0, .ref 1), (1, .int (nI k))] (r.toList ++ []) σ')
  refine item_2 (zA_of hI rfl) rfl (by omega) (fun _ => ?_)
  refine zq (σ := σ) hV hI rfl 1 ?_
  show K (some (.int (σ.1 2 k))) σ
  exact hK
set_option maxRecDepth 8000 in
set_option maxHeartbeats 4000000 in
theorem y_ok {d : Nat} {σ : zSt} {K : Option Value → zSt → Prop} {i : Int32} {k : Nat} (hI : zQI (kR 1 4) σ.2.2) (e : i = nI k) (hk : k < 10) (hK : K (some (.int (σ.1 3 k))) σ) : zSp (d + 2) mX3_y [.ref 1, .int i] σ K := by
  refine ⟨⟨by decide, Nat.le_of_ble_eq_true rfl⟩, fun V hV => ?_⟩
  subst e
  refine zq (σ := σ) hV hI rfl 4 ?_
  show zSp _ 128 [.ref 3, .int (nI k)] σ (fun r σ' => σ'.2.2.2 = σ.2.2.2 + zAl 128 → V 8 [(0, .ref 1), (1, .int (nI k))] (r.toList ++ []) σ')
  refine item_3 (zA_of hI rfl) rfl (by omega) (fun _ => ?_)
  refine zq (σ := σ) hV hI rfl 1 ?_
  show K (some (.int (σ.1 3 k))) σ
  exact hK
set_option maxRecDepth 8000 in
set_option maxHeartbeats 4000000 in
theorem corners_ok {d : Nat} {σ : zSt} {K : Option Value → zSt → Prop} (hI : zQI (kR 1 4) σ.2.2) (hK : K (some (.int (σ.1 1 2))) σ) : zSp (d + 1) mX3_corners [.ref 1] σ K := by
  refine ⟨⟨by decide, Nat.le_of_ble_eq_true rfl⟩, fun V hV => ?_⟩
  refine zq (σ := σ) hV hI rfl 3 ?_
  show K (some (.int (σ.1 1 2))) σ
  exact hK
set_option maxRecDepth 8000 in
set_option maxHeartbeats 4000000 in
theorem area_ok {d : Nat} {σ : zSt} {K : Option Value → zSt → Prop} (hI : zQI (kR 1 4) σ.2.2) (hK : K (some (.int (σ.1 1 3))) σ) : zSp (d + 1) mX3_area [.ref 1] σ K := by
  refine ⟨⟨by decide, Nat.le_of_ble_eq_true rfl⟩, fun V hV => ?_⟩
  refine zq (σ := σ) hV hI rfl 3 ?_
  show K (some (.int (σ.1 1 3))) σ
  exact hK
set_option maxRecDepth 8000 in
set_option maxHeartbeats 4000000 in
theorem momentX_ok {d : Nat} {σ : zSt} {K : Option Value → zSt → Prop} (hI : zQI (kR 1 4) σ.2.2) (hK : K (some (.int (σ.1 1 4))) σ) : zSp (d + 1) mX3_momentX [.ref 1] σ K := by
  refine ⟨⟨by decide, Nat.le_of_ble_eq_true rfl⟩, fun V hV => ?_⟩
  refine zq (σ := σ) hV hI rfl 3 ?_
  show K (some (.int (σ.1 1 4))) σ
  exact hK
set_option maxRecDepth 8000 in
set_option maxHeartbeats 4000000 in
theorem momentY_ok {d : Nat} {σ : zSt} {K : Option Value → zSt → Prop} (hI : zQI (kR 1 4) σ.2.2) (hK : K (some (.int (σ.1 1 5))) σ) : zSp (d + 1) mX3_momentY [.ref 1] σ K := by
  refine ⟨⟨by decide, Nat.le_of_ble_eq_true rfl⟩, fun V hV => ?_⟩
  refine zq (σ := σ) hV hI rfl 3 ?_
  show K (some (.int (σ.1 1 5))) σ
  exact hK
set_option maxRecDepth 8000 in
set_option maxHeartbeats 4000000 in
theorem next_ok {d : Nat} {σ : zSt} {K : Option Value → zSt → Prop} {i : Int32} {n k : Nat} (hI : zQI (kR 1 4) σ.2.2) (hn : σ.1 1 2 = nI n) (hn10 : n ≤ 10) (e : i = nI k) (hk : k < n) (hK : K (some (.int (nI (zNx n k)))) σ) : zSp (d + 1) mX3_next [.ref 1, .int i] σ K := by
  refine ⟨⟨by decide, Nat.le_of_ble_eq_true rfl⟩, fun V hV => ?_⟩
  subst e
  refine zq (σ := σ) hV hI rfl 6 ?_
  show ((σ.1 1 2) ≤ ((nI k) + 1) → V 16 [(0, .ref 1), (1, .int (nI k))] [] σ) ∧ (¬ (σ.1 1 2) ≤ ((nI k) + 1) → V 10 [(0, .ref 1), (1, .int (nI k))] [] σ)
  refine ⟨fun h_7 => ?_, fun h_7 => ?_⟩
  · skip
    refine zq (σ := σ) hV hI rfl 2 ?_
    show K (some (.int 0)) σ
    rw [hn, nI_1, nI_leI (by omega) (by omega)] at h_7
    have e : zNx n k = 0 := by unfold zNx; rw [if_neg (by omega)]
    rw [e] at hK
    exact hK
  · skip
    refine zq (σ := σ) hV hI rfl 5 ?_
    show K (some (.int ((nI k) + 1))) σ
    rw [hn, nI_1, nI_leI (by omega) (by omega)] at h_7
    have e : zNx n k = k + 1 := by unfold zNx; rw [if_pos (by omega)]
    rw [e] at hK
    rw [nI_1]
    exact hK
set_option maxRecDepth 8000 in
set_option maxHeartbeats 4000000 in
theorem dx_ok {d : Nat} {σ : zSt} {K : Option Value → zSt → Prop} {i : Int32} {n k : Nat} (hI : zQI (kR 1 4) σ.2.2) (hn : σ.1 1 2 = nI n) (hn10 : n ≤ 10) (e : i = nI k) (hk : k < n) (hK : K (some (.int (σ.1 2 (zNx n k) - σ.1 2 k))) σ) : zSp (d + 2) mX3_dx [.ref 1, .int i] σ K := by
  refine ⟨⟨by decide, Nat.le_of_ble_eq_true rfl⟩, fun V hV => ?_⟩
  subst e
  have hj := zNx_lt hk
  refine zq (σ := σ) hV hI rfl 5 ?_
  show zSp _ 33 [.ref 1, .int (nI k)] σ (fun r σ' => σ'.2.2.2 = σ.2.2.2 + zAl 33 → V 9 [(0, .ref 1), (1, .int (nI k))] (r.toList ++ [.ref 2]) σ')
  refine next_ok (zR_of hI rfl rfl) hn (by omega) rfl (by omega) (fun _ => ?_)
  refine zq (σ := σ) hV hI rfl 1 ?_
  show zSp _ 128 [.ref 2, .int (nI (zNx n k))] σ (fun r σ' => σ'.2.2.2 = σ.2.2.2 + zAl 128 → V 12 [(0, .ref 1), (1, .int (nI k))] (r.toList ++ []) σ')
  refine item_2 (zA_of hI rfl) rfl (by omega) (fun _ => ?_)
  refine zq (σ := σ) hV hI rfl 4 ?_
  show zSp _ 128 [.ref 2, .int (nI k)] σ (fun r σ' => σ'.2.2.2 = σ.2.2.2 + zAl 128 → V 20 [(0, .ref 1), (1, .int (nI k))] (r.toList ++ [.int (σ.1 2 (zNx n k))]) σ')
  refine item_2 (zA_of hI rfl) rfl (by omega) (fun _ => ?_)
  refine zq (σ := σ) hV hI rfl 2 ?_
  show K (some (.int ((σ.1 2 (zNx n k)) - (σ.1 2 k)))) σ
  exact hK
set_option maxRecDepth 8000 in
set_option maxHeartbeats 4000000 in
theorem dy_ok {d : Nat} {σ : zSt} {K : Option Value → zSt → Prop} {i : Int32} {n k : Nat} (hI : zQI (kR 1 4) σ.2.2) (hn : σ.1 1 2 = nI n) (hn10 : n ≤ 10) (e : i = nI k) (hk : k < n) (hK : K (some (.int (σ.1 3 (zNx n k) - σ.1 3 k))) σ) : zSp (d + 2) mX3_dy [.ref 1, .int i] σ K := by
  refine ⟨⟨by decide, Nat.le_of_ble_eq_true rfl⟩, fun V hV => ?_⟩
  subst e
  have hj := zNx_lt hk
  refine zq (σ := σ) hV hI rfl 5 ?_
  show zSp _ 33 [.ref 1, .int (nI k)] σ (fun r σ' => σ'.2.2.2 = σ.2.2.2 + zAl 33 → V 9 [(0, .ref 1), (1, .int (nI k))] (r.toList ++ [.ref 3]) σ')
  refine next_ok (zR_of hI rfl rfl) hn (by omega) rfl (by omega) (fun _ => ?_)
  refine zq (σ := σ) hV hI rfl 1 ?_
  show zSp _ 128 [.ref 3, .int (nI (zNx n k))] σ (fun r σ' => σ'.2.2.2 = σ.2.2.2 + zAl 128 → V 12 [(0, .ref 1), (1, .int (nI k))] (r.toList ++ []) σ')
  refine item_3 (zA_of hI rfl) rfl (by omega) (fun _ => ?_)
  refine zq (σ := σ) hV hI rfl 4 ?_
  show zSp _ 128 [.ref 3, .int (nI k)] σ (fun r σ' => σ'.2.2.2 = σ.2.2.2 + zAl 128 → V 20 [(0, .ref 1), (1, .int (nI k))] (r.toList ++ [.int (σ.1 3 (zNx n k))]) σ')
  refine item_3 (zA_of hI rfl) rfl (by omega) (fun _ => ?_)
  refine zq (σ := σ) hV hI rfl 2 ?_
  show K (some (.int ((σ.1 3 (zNx n k)) - (σ.1 3 k)))) σ
  exact hK
set_option maxRecDepth 8000 in
set_option maxHeartbeats 4000000 in
theorem setCorner_ok {d : Nat} {σ : zSt} {K : Option Value → zSt → Prop} {i x y : Int32} {k : Nat} (hI : zQI (kR 1 4) σ.2.2) (e : i = nI k) (hk : k < 10) (hK : K none (zuI (zuI σ 2 k x) 3 k y)) : zSp (d + 2) mX3_setCorner [.ref 1, .int i, .int x, .int y] σ K := by
  refine ⟨⟨by decide, Nat.le_of_ble_eq_true rfl⟩, fun V hV => ?_⟩
  subst e
  refine zq (σ := σ) hV hI rfl 5 ?_
  show zSp _ 129 [.ref 2, .int (nI k), .int x] σ (fun r σ' => σ'.2.2.2 = σ.2.2.2 + zAl 129 → V 9 [(0, .ref 1), (1, .int (nI k)), (2, .int x), (3, .int y)] (r.toList ++ []) σ')
  refine setItem_2 (zA_of hI rfl) rfl (by omega) (fun _ => ?_)
  refine zq (σ := (zuI σ 2 k x)) hV hI rfl 5 ?_
  show zSp _ 129 [.ref 3, .int (nI k), .int y] (zuI σ 2 k x) (fun r σ' => σ'.2.2.2 = (zuI σ 2 k x).2.2.2 + zAl 129 → V 18 [(0, .ref 1), (1, .int (nI k)), (2, .int x), (3, .int y)] (r.toList ++ []) σ')
  refine setItem_3 (zA_of hI rfl) rfl (by omega) (fun _ => ?_)
  refine zq (σ := (zuI (zuI σ 2 k x) 3 k y)) hV hI rfl 1 ?_
  show K none (zuI (zuI σ 2 k x) 3 k y)
  exact hK
def zPull (ar mx my px py w : Int32) : Int64 := (((Int32.toInt64 w) * (Int32.toInt64 w)) * (((((3 * (Int32.toInt64 ar)) * (Int32.toInt64 px)) - (8 * (Int32.toInt64 mx))) * (((3 * (Int32.toInt64 ar)) * (Int32.toInt64 px)) - (8 * (Int32.toInt64 mx)))) + ((((3 * (Int32.toInt64 ar)) * (Int32.toInt64 py)) - (8 * (Int32.toInt64 my))) * (((3 * (Int32.toInt64 ar)) * (Int32.toInt64 py)) - (8 * (Int32.toInt64 my))))))
set_option maxRecDepth 8000 in
set_option maxHeartbeats 4000000 in
theorem pull_ok {d : Nat} {σ : zSt} {K : Option Value → zSt → Prop} {px py w : Int32} (hI : zQI (kR 1 4) σ.2.2) (hK : K (some (.long (zPull (σ.1 1 3) (σ.1 1 4) (σ.1 1 5) px py w))) σ) : zSp (d + 1) mX3_pull [.ref 1, .int px, .int py, .int w] σ K := by
  refine ⟨⟨by decide, Nat.le_of_ble_eq_true rfl⟩, fun V hV => ?_⟩
  refine zq (σ := σ) hV hI rfl 44 ?_
  show K (some (.long (((Int32.toInt64 w) * (Int32.toInt64 w)) * (((((3 * (Int32.toInt64 (σ.1 1 3))) * (Int32.toInt64 px)) - (8 * (Int32.toInt64 (σ.1 1 4)))) * (((3 * (Int32.toInt64 (σ.1 1 3))) * (Int32.toInt64 px)) - (8 * (Int32.toInt64 (σ.1 1 4))))) + ((((3 * (Int32.toInt64 (σ.1 1 3))) * (Int32.toInt64 py)) - (8 * (Int32.toInt64 (σ.1 1 5)))) * (((3 * (Int32.toInt64 (σ.1 1 3))) * (Int32.toInt64 py)) - (8 * (Int32.toInt64 (σ.1 1 5))))))))) σ
  exact hK
def zStr (ar s : Int32) : Int64 := 3 * (Int32.toInt64 ar) * (Int32.toInt64 s)
def zSld (ar : Int32) (q : Int64) (s : Int32) : Prop := 2000000000 ≤ zStr ar s ∨ q ≤ zStr ar s * zStr ar s
set_option maxRecDepth 8000 in
set_option maxHeartbeats 4000000 in
theorem isSealed_ok {d : Nat} {σ : zSt} {K : Option Value → zSt → Prop} {q : Int64} {s : Int32} (hI : zQI (kR 1 4) σ.2.2) (h1 : zSld (σ.1 1 3) q s → K (some (.int 1)) σ) (h0 : ¬ zSld (σ.1 1 3) q s → K (some (.int 0)) σ) : zSp (d + 1) mX3_isSealed [.ref 1, .long q, .int s] σ K := by
  refine ⟨⟨by decide, Nat.le_of_ble_eq_true rfl⟩, fun V hV => ?_⟩
  refine zq (σ := σ) hV hI rfl 13 ?_
  show (0 ≤ (lg_cmp ((3 * (Int32.toInt64 (σ.1 1 3))) * (Int32.toInt64 s)) 2000000000) → V 33 [(4, .long ((3 * (Int32.toInt64 (σ.1 1 3))) * (Int32.toInt64 s))), (0, .ref 1), (1, .long q), (3, .int s)] [] σ) ∧ (¬ 0 ≤ (lg_cmp ((3 * (Int32.toInt64 (σ.1 1 3))) * (Int32.toInt64 s)) 2000000000) → V 23 [(4, .long ((3 * (Int32.toInt64 (σ.1 1 3))) * (Int32.toInt64 s))), (0, .ref 1), (1, .long q), (3, .int s)] [] σ)
  refine ⟨fun h_20 => ?_, fun h_20 => ?_⟩
  · skip
    refine zq (σ := σ) hV hI rfl 3 ?_
    show ((1 : Int32) = 0 ∨ (1 : Int32) = 1) ∧ K (some (.int 1)) σ
    refine ⟨by decide, ?_⟩
    first | exact h1 (Or.inl (zcmp_ge.mp h_20)) | exact h1 (Or.inr (Int64.not_lt.mp (fun hq => h_30 (zcmp_lt.mpr hq))))
  · skip
    refine zq (σ := σ) hV hI rfl 6 ?_
    show ((lg_cmp (((3 * (Int32.toInt64 (σ.1 1 3))) * (Int32.toInt64 s)) * ((3 * (Int32.toInt64 (σ.1 1 3))) * (Int32.toInt64 s))) q) < 0 → V 37 [(4, .long ((3 * (Int32.toInt64 (σ.1 1 3))) * (Int32.toInt64 s))), (0, .ref 1), (1, .long q), (3, .int s)] [] σ) ∧ (¬ (lg_cmp (((3 * (Int32.toInt64 (σ.1 1 3))) * (Int32.toInt64 s)) * ((3 * (Int32.toInt64 (σ.1 1 3))) * (Int32.toInt64 s))) q) < 0 → V 33 [(4, .long ((3 * (Int32.toInt64 (σ.1 1 3))) * (Int32.toInt64 s))), (0, .ref 1), (1, .long q), (3, .int s)] [] σ)
    refine ⟨fun h_30 => ?_, fun h_30 => ?_⟩
    · skip
      refine zq (σ := σ) hV hI rfl 2 ?_
      show ((0 : Int32) = 0 ∨ (0 : Int32) = 1) ∧ K (some (.int 0)) σ
      refine ⟨by decide, ?_⟩
      exact h0 (fun hq => hq.elim (fun hq => h_20 (zcmp_ge.mpr hq)) (fun hq => Int64.not_lt.mpr hq (zcmp_lt.mp h_30)))
    · skip
      refine zq (σ := σ) hV hI rfl 3 ?_
      show ((1 : Int32) = 0 ∨ (1 : Int32) = 1) ∧ K (some (.int 1)) σ
      refine ⟨by decide, ?_⟩
      first | exact h1 (Or.inl (zcmp_ge.mp h_20)) | exact h1 (Or.inr (Int64.not_lt.mp (fun hq => h_30 (zcmp_lt.mpr hq))))
theorem zSld_dec (ar : Int32) (q : Int64) (s : Int32) : zSld ar q s ∨ ¬ zSld ar q s := Classical.em _
/-- the search by halves, m rounds left -/
def zLs (ar : Int32) (q : Int64) : Nat → Int32 → Int32 → Int32
  | 0, _, hi => hi
  | m + 1, lo, hi => if hi ≤ lo then hi else if 2000000000 ≤ zStr ar (lo + (hi - lo) / 2) ∨ q ≤ zStr ar (lo + (hi - lo) / 2) * zStr ar (lo + (hi - lo) / 2) then zLs ar q m lo (lo + (hi - lo) / 2) else zLs ar q m (lo + (hi - lo) / 2 + 1) hi
set_option maxRecDepth 8000 in
set_option maxHeartbeats 4000000 in
theorem leastSeal_ok {d : Nat} {σ : zSt} {K : Option Value → zSt → Prop} {q : Int64} (hI : zQI (kR 1 4) σ.2.2) (hK : K (some (.int (zLs (σ.1 1 3) q 31 0 1073741824))) σ) : zSp (d + 2) mX3_leastSeal [.ref 1, .long q] σ K := by
  refine ⟨⟨by decide, Nat.le_of_ble_eq_true rfl⟩, fun V hV => ?_⟩
  refine zq (σ := σ) hV hI rfl 6 ?_
  show V 9 [(5, .int 0), (4, .int 1073741824), (3, .int 0), (0, .ref 1), (1, .long q)] [] σ
  refine zwk hV [3, 4, 2, 1, 0] rfl ?_
  have H : ∀ (m i : Nat) (lo hi : Int32), i + m = 31 → K (some (.int (zLs (σ.1 1 3) q m lo hi))) σ → V 9 [(0, .ref 1), (1, .long q), (3, .int lo), (4, .int hi), (5, .int (nI i))] [] σ := by
    intro m
    induction m with
    | zero =>
      intro i lo hi hi31 hK
      refine zq (σ := σ) hV hI rfl 3 ?_
      show (31 ≤ (nI i) → V 60 [(0, .ref 1), (1, .long q), (3, .int lo), (4, .int hi), (5, .int (nI i))] [] σ) ∧ (¬ 31 ≤ (nI i) → V 16 [(0, .ref 1), (1, .long q), (3, .int lo), (4, .int hi), (5, .int (nI i))] [] σ)
      refine ⟨fun _ => ?_, fun hc => absurd (show (31 : Int32) ≤ nI i by rw [show i = 31 by omega]; decide) hc⟩
      refine zq (σ := σ) hV hI rfl 2 ?_
      show K (some (.int hi)) σ
      exact hK
    | succ m ih =>
      intro i lo hi hi31 hK
      refine zq (σ := σ) hV hI rfl 3 ?_
      show (31 ≤ (nI i) → V 60 [(0, .ref 1), (1, .long q), (3, .int lo), (4, .int hi), (5, .int (nI i))] [] σ) ∧ (¬ 31 ≤ (nI i) → V 16 [(0, .ref 1), (1, .long q), (3, .int lo), (4, .int hi), (5, .int (nI i))] [] σ)
      refine ⟨fun hc => absurd hc (show ¬ nI 31 ≤ nI i from nI_ge (by omega) (by decide)), fun _ => ?_⟩
      refine zq (σ := σ) hV hI rfl 3 ?_
      show (hi ≤ lo → V 60 [(0, .ref 1), (1, .long q), (3, .int lo), (4, .int hi), (5, .int (nI i))] [] σ) ∧ (¬ hi ≤ lo → V 22 [(0, .ref 1), (1, .long q), (3, .int lo), (4, .int hi), (5, .int (nI i))] [] σ)
      refine ⟨fun h_19 => ?_, fun h_19 => ?_⟩
      · skip
        refine zq (σ := σ) hV hI rfl 2 ?_
        show K (some (.int hi)) σ
        unfold zLs at hK
        rw [if_pos h_19] at hK
        exact hK
      · skip
        refine zq (σ := σ) hV hI rfl 6 ?_
        show (¬ (2 : Int32) = 0) ∧ V 29 [(0, .ref 1), (1, .long q), (3, .int lo), (4, .int hi), (5, .int (nI i))] [.int ((hi - lo) / 2), .int lo] σ
        refine ⟨by decide, ?_⟩
        refine zq (σ := σ) hV hI rfl 6 ?_
        show zSp _ 38 [.ref 1, .long q, .int (lo + ((hi - lo) / 2))] σ (fun r σ' => σ'.2.2.2 = σ.2.2.2 + zAl 38 → V 39 [(6, .int (lo + ((hi - lo) / 2))), (0, .ref 1), (1, .long q), (3, .int lo), (4, .int hi), (5, .int (nI i))] (r.toList ++ []) σ')
        refine isSealed_ok (zR_of hI rfl rfl) (fun hb1 _ => ?_) (fun hb1 _ => ?_)
        · skip
          refine zq (σ := σ) hV hI rfl 1 ?_
          show ((1 : Int32) = 0 → V 49 [(6, .int (lo + ((hi - lo) / 2))), (0, .ref 1), (1, .long q), (3, .int lo), (4, .int hi), (5, .int (nI i))] [] σ) ∧ (¬ (1 : Int32) = 0 → V 42 [(6, .int (lo + ((hi - lo) / 2))), (0, .ref 1), (1, .long q), (3, .int lo), (4, .int hi), (5, .int (nI i))] [] σ)
          refine ⟨fun hc => absurd hc (by decide), fun _ => ?_⟩
          refine zq (σ := σ) hV hI rfl 5 ?_
          show V 9 [(5, .int ((nI i) + 1)), (4, .int (lo + ((hi - lo) / 2))), (6, .int (lo + ((hi - lo) / 2))), (0, .ref 1), (1, .long q), (3, .int lo)] [] σ
          refine zwk hV [3, 4, 5, 1, 0] rfl ?_
          rw [nI_1]
          refine ih (i + 1) _ _ (by omega) ?_
          unfold zLs at hK
          rw [if_neg h_19] at hK
          unfold zSld at hb1
          first | (rw [if_pos hb1] at hK; exact hK) | (rw [if_neg hb1] at hK; exact hK)
        · skip
          refine zq (σ := σ) hV hI rfl 1 ?_
          show ((0 : Int32) = 0 → V 49 [(6, .int (lo + ((hi - lo) / 2))), (0, .ref 1), (1, .long q), (3, .int lo), (4, .int hi), (5, .int (nI i))] [] σ) ∧ (¬ (0 : Int32) = 0 → V 42 [(6, .int (lo + ((hi - lo) / 2))), (0, .ref 1), (1, .long q), (3, .int lo), (4, .int hi), (5, .int (nI i))] [] σ)
          refine ⟨fun _ => ?_, fun hc => absurd (by decide) hc⟩
          refine zq (σ := σ) hV hI rfl 6 ?_
          show V 9 [(5, .int ((nI i) + 1)), (3, .int ((lo + ((hi - lo) / 2)) + 1)), (6, .int (lo + ((hi - lo) / 2))), (0, .ref 1), (1, .long q), (4, .int hi)] [] σ
          refine zwk hV [3, 4, 1, 5, 0] rfl ?_
          rw [nI_1]
          refine ih (i + 1) _ _ (by omega) ?_
          unfold zLs at hK
          rw [if_neg h_19] at hK
          unfold zSld at hb1
          first | (rw [if_pos hb1] at hK; exact hK) | (rw [if_neg hb1] at hK; exact hK)
  exact H 31 0 0 1073741824 rfl hK
set_option maxRecDepth 8000 in
set_option maxHeartbeats 4000000 in
theorem side_ok {d : Nat} {σ : zSt} {K : Option Value → zSt → Prop} {px py : Int32} {n : Nat} (hI : zQI (kR 1 4) σ.2.2) (hn : σ.1 1 2 = nI n) (hn10 : n ≤ 10) (hK : K (some (.int (zSide n (σ.1 2) (σ.1 3) px py))) σ) : zSp (d + 3) mX3_side [.ref 1, .int px, .int py] σ K := by
  refine ⟨⟨by decide, Nat.le_of_ble_eq_true rfl⟩, fun V hV => ?_⟩
  refine zq (σ := σ) hV hI rfl 4 ?_
  show V 5 [(4, .int 0), (3, .int 0), (0, .ref 1), (1, .int px), (2, .int py)] [] σ
  refine zwk hV [2, 3, 4, 1, 0] rfl ?_
  have H : ∀ (m i : Nat) (o : Bool), i + m = n → K (some (.int (zSd n (σ.1 2) (σ.1 3) px py m i o))) σ → V 5 [(0, .ref 1), (1, .int px), (2, .int py), (3, .int (zb o)), (4, .int (nI i))] [] σ := by
    intro m
    induction m with
    | zero =>
      intro i o hin hK
      cases o
      · skip
        refine zq (σ := σ) hV hI rfl 4 ?_
        show ((σ.1 1 2) ≤ (nI i) → V 154 [(0, .ref 1), (1, .int px), (2, .int py), (3, .int 0), (4, .int (nI i))] [] σ) ∧ (¬ (σ.1 1 2) ≤ (nI i) → V 14 [(0, .ref 1), (1, .int px), (2, .int py), (3, .int 0), (4, .int (nI i))] [] σ)
        refine ⟨fun _ => ?_, fun hc => absurd (show σ.1 1 2 ≤ nI i by rw [hn, show i = n by omega]; exact Int32.le_refl _) hc⟩
        refine zq (σ := σ) hV hI rfl 2 ?_
        show ((0 : Int32) = 0 → V 162 [(0, .ref 1), (1, .int px), (2, .int py), (3, .int 0), (4, .int (nI i))] [] σ) ∧ (¬ (0 : Int32) = 0 → V 158 [(0, .ref 1), (1, .int px), (2, .int py), (3, .int 0), (4, .int (nI i))] [] σ)
        refine ⟨fun _ => ?_, fun hc => absurd (by decide) hc⟩
        refine zq (σ := σ) hV hI rfl 2 ?_
        show K (some (.int 0)) σ
        exact hK
      · skip
        refine zq (σ := σ) hV hI rfl 4 ?_
        show ((σ.1 1 2) ≤ (nI i) → V 154 [(0, .ref 1), (1, .int px), (2, .int py), (3, .int 1), (4, .int (nI i))] [] σ) ∧ (¬ (σ.1 1 2) ≤ (nI i) → V 14 [(0, .ref 1), (1, .int px), (2, .int py), (3, .int 1), (4, .int (nI i))] [] σ)
        refine ⟨fun _ => ?_, fun hc => absurd (show σ.1 1 2 ≤ nI i by rw [hn, show i = n by omega]; exact Int32.le_refl _) hc⟩
        refine zq (σ := σ) hV hI rfl 2 ?_
        show ((1 : Int32) = 0 → V 162 [(0, .ref 1), (1, .int px), (2, .int py), (3, .int 1), (4, .int (nI i))] [] σ) ∧ (¬ (1 : Int32) = 0 → V 158 [(0, .ref 1), (1, .int px), (2, .int py), (3, .int 1), (4, .int (nI i))] [] σ)
        refine ⟨fun hc => absurd hc (by decide), fun _ => ?_⟩
        refine zq (σ := σ) hV hI rfl 3 ?_
        show K (some (.int 1)) σ
        exact hK
    | succ m ih =>
      intro i o hin hK
      have hin2 : i < n := by omega
      have hj := zNx_lt hin2
      refine zq (σ := σ) hV hI rfl 4 ?_
      show ((σ.1 1 2) ≤ (nI i) → V 154 [(0, .ref 1), (1, .int px), (2, .int py), (3, .int (zb o)), (4, .int (nI i))] [] σ) ∧ (¬ (σ.1 1 2) ≤ (nI i) → V 14 [(0, .ref 1), (1, .int px), (2, .int py), (3, .int (zb o)), (4, .int (nI i))] [] σ)
      refine ⟨fun hc => absurd hc (show ¬ σ.1 1 2 ≤ nI i by rw [hn]; exact nI_ge hin2 (by omega)), fun _ => ?_⟩
      refine zq (σ := σ) hV hI rfl 3 ?_
      show zSp _ 33 [.ref 1, .int (nI i)] σ (fun r σ' => σ'.2.2.2 = σ.2.2.2 + zAl 33 → V 20 [(0, .ref 1), (1, .int px), (2, .int py), (3, .int (zb o)), (4, .int (nI i))] (r.toList ++ []) σ')
      refine next_ok (zR_of hI rfl rfl) hn (by omega) rfl (by omega) (fun _ => ?_)
      refine zq (σ := σ) hV hI rfl 5 ?_
      show zSp _ 31 [.ref 1, .int (nI i)] σ (fun r σ' => σ'.2.2.2 = σ.2.2.2 + zAl 31 → V 30 [(5, .int (nI (zNx n i))), (0, .ref 1), (1, .int px), (2, .int py), (3, .int (zb o)), (4, .int (nI i))] (r.toList ++ [.int 8]) σ')
      refine x_ok (zR_of hI rfl rfl) rfl (by omega) (fun _ => ?_)
      refine zq (σ := σ) hV hI rfl 8 ?_
      show zSp _ 32 [.ref 1, .int (nI i)] σ (fun r σ' => σ'.2.2.2 = σ.2.2.2 + zAl 32 → V 43 [(6, .int ((8 * (σ.1 2 i)) - px)), (5, .int (nI (zNx n i))), (0, .ref 1), (1, .int px), (2, .int py), (3, .int (zb o)), (4, .int (nI i))] (r.toList ++ [.int 8]) σ')
      refine y_ok (zR_of hI rfl rfl) rfl (by omega) (fun _ => ?_)
      refine zq (σ := σ) hV hI rfl 8 ?_
      show zSp _ 31 [.ref 1, .int (nI (zNx n i))] σ (fun r σ' => σ'.2.2.2 = σ.2.2.2 + zAl 31 → V 56 [(7, .int ((8 * (σ.1 3 i)) - py)), (6, .int ((8 * (σ.1 2 i)) - px)), (5, .int (nI (zNx n i))), (0, .ref 1), (1, .int px), (2, .int py), (3, .int (zb o)), (4, .int (nI i))] (r.toList ++ [.int 8]) σ')
      refine x_ok (zR_of hI rfl rfl) rfl (by omega) (fun _ => ?_)
      refine zq (σ := σ) hV hI rfl 8 ?_
      show zSp _ 32 [.ref 1, .int (nI (zNx n i))] σ (fun r σ' => σ'.2.2.2 = σ.2.2.2 + zAl 32 → V 69 [(8, .int ((8 * (σ.1 2 (zNx n i))) - px)), (7, .int ((8 * (σ.1 3 i)) - py)), (6, .int ((8 * (σ.1 2 i)) - px)), (5, .int (nI (zNx n i))), (0, .ref 1), (1, .int px), (2, .int py), (3, .int (zb o)), (4, .int (nI i))] (r.toList ++ [.int 8]) σ')
      refine y_ok (zR_of hI rfl rfl) rfl (by omega) (fun _ => ?_)
      refine zq (σ := σ) hV hI rfl 12 ?_
      show V 87 [(10, .int ((((8 * (σ.1 2 i)) - px) * ((8 * (σ.1 3 (zNx n i))) - py)) - (((8 * (σ.1 3 i)) - py) * ((8 * (σ.1 2 (zNx n i))) - px)))), (9, .int ((8 * (σ.1 3 (zNx n i))) - py)), (8, .int ((8 * (σ.1 2 (zNx n i))) - px)), (7, .int ((8 * (σ.1 3 i)) - py)), (6, .int ((8 * (σ.1 2 i)) - px)), (5, .int (nI (zNx n i))), (0, .ref 1), (1, .int px), (2, .int py), (3, .int (zb o)), (4, .int (nI i))] [] σ
      refine zwk hV [6, 7, 8, 9, 10, 4, 3, 2, 1, 0] rfl ?_
      show V 87 [(0, .ref 1), (1, .int px), (2, .int py), (3, .int (zb o)), (4, .int (nI i)), (6, .int (zfx (σ.1 2) px i)), (7, .int (zfx (σ.1 3) py i)), (8, .int (zfx (σ.1 2) px (zNx n i))), (9, .int (zfx (σ.1 3) py (zNx n i))), (10, .int (zTn (σ.1 2) (σ.1 3) px py i (zNx n i)))] [] σ
      have HE : ∀ o2, K (some (.int (zSd n (σ.1 2) (σ.1 3) px py m (i + 1) o2))) σ → V 148 [(0, .ref 1), (1, .int px), (2, .int py), (3, .int (zb o2)), (4, .int (nI i)), (6, .int (zfx (σ.1 2) px i)), (7, .int (zfx (σ.1 3) py i)), (8, .int (zfx (σ.1 2) px (zNx n i))), (9, .int (zfx (σ.1 3) py (zNx n i))), (10, .int (zTn (σ.1 2) (σ.1 3) px py i (zNx n i)))] [] σ := by
        intro o2 hK2
        refine zq (σ := σ) hV hI rfl 2 ?_
        show V 5 [(4, .int ((nI i) + 1)), (0, .ref 1), (1, .int px), (2, .int py), (3, .int (zb o2)), (6, .int (zfx (σ.1 2) px i)), (7, .int (zfx (σ.1 3) py i)), (8, .int (zfx (σ.1 2) px (zNx n i))), (9, .int (zfx (σ.1 3) py (zNx n i))), (10, .int (zTn (σ.1 2) (σ.1 3) px py i (zNx n i)))] [] σ
        refine zwk hV [1, 2, 3, 4, 0] rfl ?_
        rw [nI_1]
        exact ih (i + 1) o2 (by omega) hK2
      have HC : zOn (zfx (σ.1 2) px i) (zfx (σ.1 3) py i) (zfx (σ.1 2) px (zNx n i)) (zfx (σ.1 3) py (zNx n i)) (zTn (σ.1 2) (σ.1 3) px py i (zNx n i)) = false → V 110 [(0, .ref 1), (1, .int px), (2, .int py), (3, .int (zb o)), (4, .int (nI i)), (6, .int (zfx (σ.1 2) px i)), (7, .int (zfx (σ.1 3) py i)), (8, .int (zfx (σ.1 2) px (zNx n i))), (9, .int (zfx (σ.1 3) py (zNx n i))), (10, .int (zTn (σ.1 2) (σ.1 3) px py i (zNx n i)))] [] σ := by
        intro hon
        rw [zSd, hon] at hK
        replace hK : K (some (.int (zSd n (σ.1 2) (σ.1 3) px py m (i + 1) (match zCr (zfx (σ.1 3) py i) (zfx (σ.1 3) py (zNx n i)) (zTn (σ.1 2) (σ.1 3) px py i (zNx n i)) with | true => !o | false => o)))) σ := hK
        refine zq (σ := σ) hV hI rfl 2 ?_
        show ((zfx (σ.1 3) py (zNx n i)) ≤ 0 → V 128 [(0, .ref 1), (1, .int px), (2, .int py), (3, .int (zb o)), (4, .int (nI i)), (6, .int (zfx (σ.1 2) px i)), (7, .int (zfx (σ.1 3) py i)), (8, .int (zfx (σ.1 2) px (zNx n i))), (9, .int (zfx (σ.1 3) py (zNx n i))), (10, .int (zTn (σ.1 2) (σ.1 3) px py i (zNx n i)))] [] σ) ∧ (¬ (zfx (σ.1 3) py (zNx n i)) ≤ 0 → V 115 [(0, .ref 1), (1, .int px), (2, .int py), (3, .int (zb o)), (4, .int (nI i)), (6, .int (zfx (σ.1 2) px i)), (7, .int (zfx (σ.1 3) py i)), (8, .int (zfx (σ.1 2) px (zNx n i))), (9, .int (zfx (σ.1 3) py (zNx n i))), (10, .int (zTn (σ.1 2) (σ.1 3) px py i (zNx n i)))] [] σ)
        refine ⟨fun h_112 => ?_, fun h_112 => ?_⟩
        · skip
          refine zq (σ := σ) hV hI rfl 2 ?_
          show ((zfx (σ.1 3) py i) ≤ 0 → V 148 [(0, .ref 1), (1, .int px), (2, .int py), (3, .int (zb o)), (4, .int (nI i)), (6, .int (zfx (σ.1 2) px i)), (7, .int (zfx (σ.1 3) py i)), (8, .int (zfx (σ.1 2) px (zNx n i))), (9, .int (zfx (σ.1 3) py (zNx n i))), (10, .int (zTn (σ.1 2) (σ.1 3) px py i (zNx n i)))] [] σ) ∧ (¬ (zfx (σ.1 3) py i) ≤ 0 → V 133 [(0, .ref 1), (1, .int px), (2, .int py), (3, .int (zb o)), (4, .int (nI i)), (6, .int (zfx (σ.1 2) px i)), (7, .int (zfx (σ.1 3) py i)), (8, .int (zfx (σ.1 2) px (zNx n i))), (9, .int (zfx (σ.1 3) py (zNx n i))), (10, .int (zTn (σ.1 2) (σ.1 3) px py i (zNx n i)))] [] σ)
          refine ⟨fun h_130 => ?_, fun h_130 => ?_⟩
          · skip
            refine zwk hV [0, 1, 2, 3, 4, 5, 6, 7, 8, 9] rfl ?_
            have hcr : zCr (zfx (σ.1 3) py i) (zfx (σ.1 3) py (zNx n i)) (zTn (σ.1 2) (σ.1 3) px py i (zNx n i)) = false := by
              unfold zCr
              refine decide_eq_false (fun hq => ?_)
              simp only [zlt, zle] at *
              omega
            rw [hcr] at hK
            exact HE _ hK
          · skip
            refine zq (σ := σ) hV hI rfl 2 ?_
            show (0 ≤ (zTn (σ.1 2) (σ.1 3) px py i (zNx n i)) → V 148 [(0, .ref 1), (1, .int px), (2, .int py), (3, .int (zb o)), (4, .int (nI i)), (6, .int (zfx (σ.1 2) px i)), (7, .int (zfx (σ.1 3) py i)), (8, .int (zfx (σ.1 2) px (zNx n i))), (9, .int (zfx (σ.1 3) py (zNx n i))), (10, .int (zTn (σ.1 2) (σ.1 3) px py i (zNx n i)))] [] σ) ∧ (¬ 0 ≤ (zTn (σ.1 2) (σ.1 3) px py i (zNx n i)) → V 138 [(0, .ref 1), (1, .int px), (2, .int py), (3, .int (zb o)), (4, .int (nI i)), (6, .int (zfx (σ.1 2) px i)), (7, .int (zfx (σ.1 3) py i)), (8, .int (zfx (σ.1 2) px (zNx n i))), (9, .int (zfx (σ.1 3) py (zNx n i))), (10, .int (zTn (σ.1 2) (σ.1 3) px py i (zNx n i)))] [] σ)
            refine ⟨fun h_135 => ?_, fun h_135 => ?_⟩
            · skip
              refine zwk hV [0, 1, 2, 3, 4, 5, 6, 7, 8, 9] rfl ?_
              have hcr : zCr (zfx (σ.1 3) py i) (zfx (σ.1 3) py (zNx n i)) (zTn (σ.1 2) (σ.1 3) px py i (zNx n i)) = false := by
                unfold zCr
                refine decide_eq_false (fun hq => ?_)
                simp only [zlt, zle] at *
                omega
              rw [hcr] at hK
              exact HE _ hK
            · skip
              refine zwk hV [0, 1, 2, 3, 4, 5, 6, 7, 8, 9] rfl ?_
              have hcr : zCr (zfx (σ.1 3) py i) (zfx (σ.1 3) py (zNx n i)) (zTn (σ.1 2) (σ.1 3) px py i (zNx n i)) = true := by
                unfold zCr
                first | exact decide_eq_true (Or.inl ⟨Int32.not_le.mp h_112, Int32.not_lt.mp h_117, Int32.not_le.mp h_122⟩) | exact decide_eq_true (Or.inr ⟨h_112, Int32.not_le.mp h_130, Int32.not_le.mp h_135⟩)
              rw [hcr] at hK
              cases o
              · skip
                refine zq (σ := σ) hV hI rfl 2 ?_
                show (¬ (0 : Int32) = 0 → V 146 [(0, .ref 1), (1, .int px), (2, .int py), (3, .int 0), (4, .int (nI i)), (6, .int (zfx (σ.1 2) px i)), (7, .int (zfx (σ.1 3) py i)), (8, .int (zfx (σ.1 2) px (zNx n i))), (9, .int (zfx (σ.1 3) py (zNx n i))), (10, .int (zTn (σ.1 2) (σ.1 3) px py i (zNx n i)))] [] σ) ∧ (¬ (¬ (0 : Int32) = 0) → V 142 [(0, .ref 1), (1, .int px), (2, .int py), (3, .int 0), (4, .int (nI i)), (6, .int (zfx (σ.1 2) px i)), (7, .int (zfx (σ.1 3) py i)), (8, .int (zfx (σ.1 2) px (zNx n i))), (9, .int (zfx (σ.1 3) py (zNx n i))), (10, .int (zTn (σ.1 2) (σ.1 3) px py i (zNx n i)))] [] σ)
                refine ⟨fun hc => absurd hc (by decide), fun _ => ?_⟩
                refine zq (σ := σ) hV hI rfl 3 ?_
                show V 148 [(3, .int 1), (0, .ref 1), (1, .int px), (2, .int py), (4, .int (nI i)), (6, .int (zfx (σ.1 2) px i)), (7, .int (zfx (σ.1 3) py i)), (8, .int (zfx (σ.1 2) px (zNx n i))), (9, .int (zfx (σ.1 3) py (zNx n i))), (10, .int (zTn (σ.1 2) (σ.1 3) px py i (zNx n i)))] [] σ
                refine zwk hV [1, 2, 3, 0, 4, 5, 6, 7, 8, 9] rfl ?_
                exact HE _ hK
              · skip
                refine zq (σ := σ) hV hI rfl 2 ?_
                show (¬ (1 : Int32) = 0 → V 146 [(0, .ref 1), (1, .int px), (2, .int py), (3, .int 1), (4, .int (nI i)), (6, .int (zfx (σ.1 2) px i)), (7, .int (zfx (σ.1 3) py i)), (8, .int (zfx (σ.1 2) px (zNx n i))), (9, .int (zfx (σ.1 3) py (zNx n i))), (10, .int (zTn (σ.1 2) (σ.1 3) px py i (zNx n i)))] [] σ) ∧ (¬ (¬ (1 : Int32) = 0) → V 142 [(0, .ref 1), (1, .int px), (2, .int py), (3, .int 1), (4, .int (nI i)), (6, .int (zfx (σ.1 2) px i)), (7, .int (zfx (σ.1 3) py i)), (8, .int (zfx (σ.1 2) px (zNx n i))), (9, .int (zfx (σ.1 3) py (zNx n i))), (10, .int (zTn (σ.1 2) (σ.1 3) px py i (zNx n i)))] [] σ)
                refine ⟨fun _ => ?_, fun hc => absurd (by decide) hc⟩
                refine zq (σ := σ) hV hI rfl 2 ?_
                show V 148 [(3, .int 0), (0, .ref 1), (1, .int px), (2, .int py), (4, .int (nI i)), (6, .int (zfx (σ.1 2) px i)), (7, .int (zfx (σ.1 3) py i)), (8, .int (zfx (σ.1 2) px (zNx n i))), (9, .int (zfx (σ.1 3) py (zNx n i))), (10, .int (zTn (σ.1 2) (σ.1 3) px py i (zNx n i)))] [] σ
                refine zwk hV [1, 2, 3, 0, 4, 5, 6, 7, 8, 9] rfl ?_
                exact HE _ hK
        · skip
          refine zq (σ := σ) hV hI rfl 2 ?_
          show (0 < (zfx (σ.1 3) py i) → V 148 [(0, .ref 1), (1, .int px), (2, .int py), (3, .int (zb o)), (4, .int (nI i)), (6, .int (zfx (σ.1 2) px i)), (7, .int (zfx (σ.1 3) py i)), (8, .int (zfx (σ.1 2) px (zNx n i))), (9, .int (zfx (σ.1 3) py (zNx n i))), (10, .int (zTn (σ.1 2) (σ.1 3) px py i (zNx n i)))] [] σ) ∧ (¬ 0 < (zfx (σ.1 3) py i) → V 120 [(0, .ref 1), (1, .int px), (2, .int py), (3, .int (zb o)), (4, .int (nI i)), (6, .int (zfx (σ.1 2) px i)), (7, .int (zfx (σ.1 3) py i)), (8, .int (zfx (σ.1 2) px (zNx n i))), (9, .int (zfx (σ.1 3) py (zNx n i))), (10, .int (zTn (σ.1 2) (σ.1 3) px py i (zNx n i)))] [] σ)
          refine ⟨fun h_117 => ?_, fun h_117 => ?_⟩
          · skip
            refine zwk hV [0, 1, 2, 3, 4, 5, 6, 7, 8, 9] rfl ?_
            have hcr : zCr (zfx (σ.1 3) py i) (zfx (σ.1 3) py (zNx n i)) (zTn (σ.1 2) (σ.1 3) px py i (zNx n i)) = false := by
              unfold zCr
              refine decide_eq_false (fun hq => ?_)
              simp only [zlt, zle] at *
              omega
            rw [hcr] at hK
            exact HE _ hK
          · skip
            refine zq (σ := σ) hV hI rfl 2 ?_
            show ((zTn (σ.1 2) (σ.1 3) px py i (zNx n i)) ≤ 0 → V 148 [(0, .ref 1), (1, .int px), (2, .int py), (3, .int (zb o)), (4, .int (nI i)), (6, .int (zfx (σ.1 2) px i)), (7, .int (zfx (σ.1 3) py i)), (8, .int (zfx (σ.1 2) px (zNx n i))), (9, .int (zfx (σ.1 3) py (zNx n i))), (10, .int (zTn (σ.1 2) (σ.1 3) px py i (zNx n i)))] [] σ) ∧ (¬ (zTn (σ.1 2) (σ.1 3) px py i (zNx n i)) ≤ 0 → V 125 [(0, .ref 1), (1, .int px), (2, .int py), (3, .int (zb o)), (4, .int (nI i)), (6, .int (zfx (σ.1 2) px i)), (7, .int (zfx (σ.1 3) py i)), (8, .int (zfx (σ.1 2) px (zNx n i))), (9, .int (zfx (σ.1 3) py (zNx n i))), (10, .int (zTn (σ.1 2) (σ.1 3) px py i (zNx n i)))] [] σ)
            refine ⟨fun h_122 => ?_, fun h_122 => ?_⟩
            · skip
              refine zwk hV [0, 1, 2, 3, 4, 5, 6, 7, 8, 9] rfl ?_
              have hcr : zCr (zfx (σ.1 3) py i) (zfx (σ.1 3) py (zNx n i)) (zTn (σ.1 2) (σ.1 3) px py i (zNx n i)) = false := by
                unfold zCr
                refine decide_eq_false (fun hq => ?_)
                simp only [zlt, zle] at *
                omega
              rw [hcr] at hK
              exact HE _ hK
            · skip
              refine zq (σ := σ) hV hI rfl 1 ?_
              show V 138 [(0, .ref 1), (1, .int px), (2, .int py), (3, .int (zb o)), (4, .int (nI i)), (6, .int (zfx (σ.1 2) px i)), (7, .int (zfx (σ.1 3) py i)), (8, .int (zfx (σ.1 2) px (zNx n i))), (9, .int (zfx (σ.1 3) py (zNx n i))), (10, .int (zTn (σ.1 2) (σ.1 3) px py i (zNx n i)))] [] σ
              refine zwk hV [0, 1, 2, 3, 4, 5, 6, 7, 8, 9] rfl ?_
              have hcr : zCr (zfx (σ.1 3) py i) (zfx (σ.1 3) py (zNx n i)) (zTn (σ.1 2) (σ.1 3) px py i (zNx n i)) = true := by
                unfold zCr
                first | exact decide_eq_true (Or.inl ⟨Int32.not_le.mp h_112, Int32.not_lt.mp h_117, Int32.not_le.mp h_122⟩) | exact decide_eq_true (Or.inr ⟨h_112, Int32.not_le.mp h_130, Int32.not_le.mp h_135⟩)
              rw [hcr] at hK
              cases o
              · skip
                refine zq (σ := σ) hV hI rfl 2 ?_
                show (¬ (0 : Int32) = 0 → V 146 [(0, .ref 1), (1, .int px), (2, .int py), (3, .int 0), (4, .int (nI i)), (6, .int (zfx (σ.1 2) px i)), (7, .int (zfx (σ.1 3) py i)), (8, .int (zfx (σ.1 2) px (zNx n i))), (9, .int (zfx (σ.1 3) py (zNx n i))), (10, .int (zTn (σ.1 2) (σ.1 3) px py i (zNx n i)))] [] σ) ∧ (¬ (¬ (0 : Int32) = 0) → V 142 [(0, .ref 1), (1, .int px), (2, .int py), (3, .int 0), (4, .int (nI i)), (6, .int (zfx (σ.1 2) px i)), (7, .int (zfx (σ.1 3) py i)), (8, .int (zfx (σ.1 2) px (zNx n i))), (9, .int (zfx (σ.1 3) py (zNx n i))), (10, .int (zTn (σ.1 2) (σ.1 3) px py i (zNx n i)))] [] σ)
                refine ⟨fun hc => absurd hc (by decide), fun _ => ?_⟩
                refine zq (σ := σ) hV hI rfl 3 ?_
                show V 148 [(3, .int 1), (0, .ref 1), (1, .int px), (2, .int py), (4, .int (nI i)), (6, .int (zfx (σ.1 2) px i)), (7, .int (zfx (σ.1 3) py i)), (8, .int (zfx (σ.1 2) px (zNx n i))), (9, .int (zfx (σ.1 3) py (zNx n i))), (10, .int (zTn (σ.1 2) (σ.1 3) px py i (zNx n i)))] [] σ
                refine zwk hV [1, 2, 3, 0, 4, 5, 6, 7, 8, 9] rfl ?_
                exact HE _ hK
              · skip
                refine zq (σ := σ) hV hI rfl 2 ?_
                show (¬ (1 : Int32) = 0 → V 146 [(0, .ref 1), (1, .int px), (2, .int py), (3, .int 1), (4, .int (nI i)), (6, .int (zfx (σ.1 2) px i)), (7, .int (zfx (σ.1 3) py i)), (8, .int (zfx (σ.1 2) px (zNx n i))), (9, .int (zfx (σ.1 3) py (zNx n i))), (10, .int (zTn (σ.1 2) (σ.1 3) px py i (zNx n i)))] [] σ) ∧ (¬ (¬ (1 : Int32) = 0) → V 142 [(0, .ref 1), (1, .int px), (2, .int py), (3, .int 1), (4, .int (nI i)), (6, .int (zfx (σ.1 2) px i)), (7, .int (zfx (σ.1 3) py i)), (8, .int (zfx (σ.1 2) px (zNx n i))), (9, .int (zfx (σ.1 3) py (zNx n i))), (10, .int (zTn (σ.1 2) (σ.1 3) px py i (zNx n i)))] [] σ)
                refine ⟨fun _ => ?_, fun hc => absurd (by decide) hc⟩
                refine zq (σ := σ) hV hI rfl 2 ?_
                show V 148 [(3, .int 0), (0, .ref 1), (1, .int px), (2, .int py), (4, .int (nI i)), (6, .int (zfx (σ.1 2) px i)), (7, .int (zfx (σ.1 3) py i)), (8, .int (zfx (σ.1 2) px (zNx n i))), (9, .int (zfx (σ.1 3) py (zNx n i))), (10, .int (zTn (σ.1 2) (σ.1 3) px py i (zNx n i)))] [] σ
                refine zwk hV [1, 2, 3, 0, 4, 5, 6, 7, 8, 9] rfl ?_
                exact HE _ hK
      refine zq (σ := σ) hV hI rfl 2 ?_
      show (¬ (zTn (σ.1 2) (σ.1 3) px py i (zNx n i)) = 0 → V 110 [(0, .ref 1), (1, .int px), (2, .int py), (3, .int (zb o)), (4, .int (nI i)), (6, .int (zfx (σ.1 2) px i)), (7, .int (zfx (σ.1 3) py i)), (8, .int (zfx (σ.1 2) px (zNx n i))), (9, .int (zfx (σ.1 3) py (zNx n i))), (10, .int (zTn (σ.1 2) (σ.1 3) px py i (zNx n i)))] [] σ) ∧ (¬ (¬ (zTn (σ.1 2) (σ.1 3) px py i (zNx n i)) = 0) → V 92 [(0, .ref 1), (1, .int px), (2, .int py), (3, .int (zb o)), (4, .int (nI i)), (6, .int (zfx (σ.1 2) px i)), (7, .int (zfx (σ.1 3) py i)), (8, .int (zfx (σ.1 2) px (zNx n i))), (9, .int (zfx (σ.1 3) py (zNx n i))), (10, .int (zTn (σ.1 2) (σ.1 3) px py i (zNx n i)))] [] σ)
      refine ⟨fun h_89 => ?_, fun h_89 => ?_⟩
      · skip
        refine HC ?_
        unfold zOn
        first | exact decide_eq_false (fun hq => h_89 hq.1) | exact decide_eq_false (fun hq => Int32.not_lt.mpr hq.2.1 h_97) | exact decide_eq_false (fun hq => Int32.not_lt.mpr hq.2.2 h_105)
      · skip
        have h_89 := Classical.not_not.mp h_89
        refine zq (σ := σ) hV hI rfl 4 ?_
        show (0 < ((zfx (σ.1 2) px i) * (zfx (σ.1 2) px (zNx n i))) → V 110 [(0, .ref 1), (1, .int px), (2, .int py), (3, .int (zb o)), (4, .int (nI i)), (6, .int (zfx (σ.1 2) px i)), (7, .int (zfx (σ.1 3) py i)), (8, .int (zfx (σ.1 2) px (zNx n i))), (9, .int (zfx (σ.1 3) py (zNx n i))), (10, .int (zTn (σ.1 2) (σ.1 3) px py i (zNx n i)))] [] σ) ∧ (¬ 0 < ((zfx (σ.1 2) px i) * (zfx (σ.1 2) px (zNx n i))) → V 100 [(0, .ref 1), (1, .int px), (2, .int py), (3, .int (zb o)), (4, .int (nI i)), (6, .int (zfx (σ.1 2) px i)), (7, .int (zfx (σ.1 3) py i)), (8, .int (zfx (σ.1 2) px (zNx n i))), (9, .int (zfx (σ.1 3) py (zNx n i))), (10, .int (zTn (σ.1 2) (σ.1 3) px py i (zNx n i)))] [] σ)
        refine ⟨fun h_97 => ?_, fun h_97 => ?_⟩
        · skip
          refine HC ?_
          unfold zOn
          first | exact decide_eq_false (fun hq => h_89 hq.1) | exact decide_eq_false (fun hq => Int32.not_lt.mpr hq.2.1 h_97) | exact decide_eq_false (fun hq => Int32.not_lt.mpr hq.2.2 h_105)
        · skip
          refine zq (σ := σ) hV hI rfl 4 ?_
          show (0 < ((zfx (σ.1 3) py i) * (zfx (σ.1 3) py (zNx n i))) → V 110 [(0, .ref 1), (1, .int px), (2, .int py), (3, .int (zb o)), (4, .int (nI i)), (6, .int (zfx (σ.1 2) px i)), (7, .int (zfx (σ.1 3) py i)), (8, .int (zfx (σ.1 2) px (zNx n i))), (9, .int (zfx (σ.1 3) py (zNx n i))), (10, .int (zTn (σ.1 2) (σ.1 3) px py i (zNx n i)))] [] σ) ∧ (¬ 0 < ((zfx (σ.1 3) py i) * (zfx (σ.1 3) py (zNx n i))) → V 108 [(0, .ref 1), (1, .int px), (2, .int py), (3, .int (zb o)), (4, .int (nI i)), (6, .int (zfx (σ.1 2) px i)), (7, .int (zfx (σ.1 3) py i)), (8, .int (zfx (σ.1 2) px (zNx n i))), (9, .int (zfx (σ.1 3) py (zNx n i))), (10, .int (zTn (σ.1 2) (σ.1 3) px py i (zNx n i)))] [] σ)
          refine ⟨fun h_105 => ?_, fun h_105 => ?_⟩
          · skip
            refine HC ?_
            unfold zOn
            first | exact decide_eq_false (fun hq => h_89 hq.1) | exact decide_eq_false (fun hq => Int32.not_lt.mpr hq.2.1 h_97) | exact decide_eq_false (fun hq => Int32.not_lt.mpr hq.2.2 h_105)
          · skip
            refine zq (σ := σ) hV hI rfl 2 ?_
            show K (some (.int 2)) σ
            have hon : zOn (zfx (σ.1 2) px i) (zfx (σ.1 3) py i) (zfx (σ.1 2) px (zNx n i)) (zfx (σ.1 3) py (zNx n i)) (zTn (σ.1 2) (σ.1 3) px py i (zNx n i)) = true := decide_eq_true ⟨h_89, Int32.not_lt.mp h_97, Int32.not_lt.mp h_105⟩
            rw [zSd, hon] at hK
            exact hK
  exact H n 0 false (by omega) hK
end
section
def zfPo (a j : Nat) : Bool := Nat.beq a 1 && Nat.ble 2 j
set_option maxRecDepth 8000 in
set_option maxHeartbeats 4000000 in
theorem close_ok {d : Nat} {σ : zSt} {K : Option Value → zSt → Prop} {n : Nat} (hI : zQI (kR 1 4) σ.2.2) (h10 : n ≤ 10) (hK : ∀ τ, zOnly zfPo σ τ → τ.1 1 2 = nI n → τ.1 1 3 = zAr n (σ.1 2) (σ.1 3) n → τ.1 1 4 = zMx n (σ.1 2) (σ.1 3) n → τ.1 1 5 = zMy n (σ.1 2) (σ.1 3) n → K none τ) : zSp (d + 3) mX3_close [.ref 1, .int (nI n)] σ K := by
  refine ⟨⟨by decide, Nat.le_of_ble_eq_true rfl⟩, fun V hV => ?_⟩
  refine zq (σ := σ) hV hI rfl 14 ?_
  show V 22 [(2, .int 0), (0, .ref 1), (1, .int (nI n))] [] (zuI (zuI (zuI (zuI σ 1 2 (nI n)) 1 3 0) 1 4 0) 1 5 0)
  refine zwk hV [1, 2, 0] rfl ?_
  have H : ∀ (m i : Nat) (τ : zSt), i + m = n → zOnly zfPo σ τ → τ.1 1 2 = nI n → τ.1 1 3 = zAr n (σ.1 2) (σ.1 3) i → τ.1 1 4 = zMx n (σ.1 2) (σ.1 3) i → τ.1 1 5 = zMy n (σ.1 2) (σ.1 3) i → V 22 [(0, .ref 1), (1, .int (nI n)), (2, .int (nI i))] [] τ := by
    intro m
    induction m with
    | zero =>
      intro i τ hin ht hn h3 h4 h5
      have hIt := zQI_eq hI ht.2.2
      have hnt : τ.2.2.2 = σ.2.2.2 := congrArg Prod.snd ht.2.2
      refine zq (σ := τ) hV hIt hnt 3 ?_
      show ((nI n) ≤ (nI i) → V 121 [(0, .ref 1), (1, .int (nI n)), (2, .int (nI i))] [] τ) ∧ (¬ (nI n) ≤ (nI i) → V 27 [(0, .ref 1), (1, .int (nI n)), (2, .int (nI i))] [] τ)
      refine ⟨fun _ => ?_, fun hc => absurd (show nI n ≤ nI i by rw [show i = n by omega]; exact Int32.le_refl _) hc⟩
      refine zq (σ := τ) hV hIt hnt 1 ?_
      show K none τ
      obtain rfl : i = n := by omega
      exact hK τ ht hn h3 h4 h5
    | succ m ih =>
      intro i τ hin ht hn h3 h4 h5
      have hIt := zQI_eq hI ht.2.2
      have hnt : τ.2.2.2 = σ.2.2.2 := congrArg Prod.snd ht.2.2
      have hin2 : i < n := by omega
      have hj := zNx_lt hin2
      have hX : τ.1 2 = σ.1 2 := funext fun j => ht.1 2 j rfl
      have hY : τ.1 3 = σ.1 3 := funext fun j => ht.1 3 j rfl
      refine zq (σ := τ) hV hIt hnt 3 ?_
      show ((nI n) ≤ (nI i) → V 121 [(0, .ref 1), (1, .int (nI n)), (2, .int (nI i))] [] τ) ∧ (¬ (nI n) ≤ (nI i) → V 27 [(0, .ref 1), (1, .int (nI n)), (2, .int (nI i))] [] τ)
      refine ⟨fun hc => absurd hc (show ¬ nI n ≤ nI i from nI_ge hin2 (by omega)), fun _ => ?_⟩
      refine zq (σ := τ) hV hIt hnt 3 ?_
      show zSp _ 33 [.ref 1, .int (nI i)] τ (fun r σ' => σ'.2.2.2 = τ.2.2.2 + zAl 33 → V 32 [(0, .ref 1), (1, .int (nI n)), (2, .int (nI i))] (r.toList ++ []) σ')
      refine next_ok (zR_of hIt rfl rfl) hn (by omega) rfl (by omega) (fun _ => ?_)
      refine zq (σ := τ) hV hIt hnt 4 ?_
      show zSp _ 31 [.ref 1, .int (nI i)] τ (fun r σ' => σ'.2.2.2 = τ.2.2.2 + zAl 31 → V 38 [(3, .int (nI (zNx n i))), (0, .ref 1), (1, .int (nI n)), (2, .int (nI i))] (r.toList ++ []) σ')
      refine x_ok (zR_of hIt rfl rfl) rfl (by omega) (fun _ => ?_)
      refine zq (σ := τ) hV hIt hnt 3 ?_
      show zSp _ 32 [.ref 1, .int (nI (zNx n i))] τ (fun r σ' => σ'.2.2.2 = τ.2.2.2 + zAl 32 → V 43 [(3, .int (nI (zNx n i))), (0, .ref 1), (1, .int (nI n)), (2, .int (nI i))] (r.toList ++ [.int (τ.1 2 i)]) σ')
      refine y_ok (zR_of hIt rfl rfl) rfl (by omega) (fun _ => ?_)
      refine zq (σ := τ) hV hIt hnt 4 ?_
      show zSp _ 32 [.ref 1, .int (nI i)] τ (fun r σ' => σ'.2.2.2 = τ.2.2.2 + zAl 32 → V 49 [(3, .int (nI (zNx n i))), (0, .ref 1), (1, .int (nI n)), (2, .int (nI i))] (r.toList ++ [.int ((τ.1 2 i) * (τ.1 3 (zNx n i)))]) σ')
      refine y_ok (zR_of hIt rfl rfl) rfl (by omega) (fun _ => ?_)
      refine zq (σ := τ) hV hIt hnt 3 ?_
      show zSp _ 31 [.ref 1, .int (nI (zNx n i))] τ (fun r σ' => σ'.2.2.2 = τ.2.2.2 + zAl 31 → V 54 [(3, .int (nI (zNx n i))), (0, .ref 1), (1, .int (nI n)), (2, .int (nI i))] (r.toList ++ [.int (τ.1 3 i), .int ((τ.1 2 i) * (τ.1 3 (zNx n i)))]) σ')
      refine x_ok (zR_of hIt rfl rfl) rfl (by omega) (fun _ => ?_)
      refine zq (σ := τ) hV hIt hnt 15 ?_
      show zSp _ 31 [.ref 1, .int (nI i)] (zuI τ 1 3 ((τ.1 1 3) + (((τ.1 2 i) * (τ.1 3 (zNx n i))) - ((τ.1 3 i) * (τ.1 2 (zNx n i)))))) (fun r σ' => σ'.2.2.2 = (zuI τ 1 3 ((τ.1 1 3) + (((τ.1 2 i) * (τ.1 3 (zNx n i))) - ((τ.1 3 i) * (τ.1 2 (zNx n i)))))).2.2.2 + zAl 31 → V 79 [(4, .int (((τ.1 2 i) * (τ.1 3 (zNx n i))) - ((τ.1 3 i) * (τ.1 2 (zNx n i))))), (3, .int (nI (zNx n i))), (0, .ref 1), (1, .int (nI n)), (2, .int (nI i))] (r.toList ++ [.int (τ.1 1 4), .ref 1]) σ')
      refine x_ok (zR_of hIt rfl rfl) rfl (by omega) (fun _ => ?_)
      refine zq (σ := (zuI τ 1 3 ((τ.1 1 3) + (((τ.1 2 i) * (τ.1 3 (zNx n i))) - ((τ.1 3 i) * (τ.1 2 (zNx n i))))))) hV hIt hnt 3 ?_
      show zSp _ 31 [.ref 1, .int (nI (zNx n i))] (zuI τ 1 3 ((τ.1 1 3) + (((τ.1 2 i) * (τ.1 3 (zNx n i))) - ((τ.1 3 i) * (τ.1 2 (zNx n i)))))) (fun r σ' => σ'.2.2.2 = (zuI τ 1 3 ((τ.1 1 3) + (((τ.1 2 i) * (τ.1 3 (zNx n i))) - ((τ.1 3 i) * (τ.1 2 (zNx n i)))))).2.2.2 + zAl 31 → V 84 [(4, .int (((τ.1 2 i) * (τ.1 3 (zNx n i))) - ((τ.1 3 i) * (τ.1 2 (zNx n i))))), (3, .int (nI (zNx n i))), (0, .ref 1), (1, .int (nI n)), (2, .int (nI i))] (r.toList ++ [.int (τ.1 2 i), .int (τ.1 1 4), .ref 1]) σ')
      refine x_ok (zR_of hIt rfl rfl) rfl (by omega) (fun _ => ?_)
      refine zq (σ := (zuI τ 1 3 ((τ.1 1 3) + (((τ.1 2 i) * (τ.1 3 (zNx n i))) - ((τ.1 3 i) * (τ.1 2 (zNx n i))))))) hV hIt hnt 11 ?_
      show zSp _ 32 [.ref 1, .int (nI i)] (zuI (zuI τ 1 3 ((τ.1 1 3) + (((τ.1 2 i) * (τ.1 3 (zNx n i))) - ((τ.1 3 i) * (τ.1 2 (zNx n i)))))) 1 4 ((τ.1 1 4) + (((τ.1 2 i) + (τ.1 2 (zNx n i))) * (((τ.1 2 i) * (τ.1 3 (zNx n i))) - ((τ.1 3 i) * (τ.1 2 (zNx n i))))))) (fun r σ' => σ'.2.2.2 = (zuI (zuI τ 1 3 ((τ.1 1 3) + (((τ.1 2 i) * (τ.1 3 (zNx n i))) - ((τ.1 3 i) * (τ.1 2 (zNx n i)))))) 1 4 ((τ.1 1 4) + (((τ.1 2 i) + (τ.1 2 (zNx n i))) * (((τ.1 2 i) * (τ.1 3 (zNx n i))) - ((τ.1 3 i) * (τ.1 2 (zNx n i))))))).2.2.2 + zAl 32 → V 102 [(4, .int (((τ.1 2 i) * (τ.1 3 (zNx n i))) - ((τ.1 3 i) * (τ.1 2 (zNx n i))))), (3, .int (nI (zNx n i))), (0, .ref 1), (1, .int (nI n)), (2, .int (nI i))] (r.toList ++ [.int (τ.1 1 5), .ref 1]) σ')
      refine y_ok (zR_of hIt rfl rfl) rfl (by omega) (fun _ => ?_)
      refine zq (σ := (zuI (zuI τ 1 3 ((τ.1 1 3) + (((τ.1 2 i) * (τ.1 3 (zNx n i))) - ((τ.1 3 i) * (τ.1 2 (zNx n i)))))) 1 4 ((τ.1 1 4) + (((τ.1 2 i) + (τ.1 2 (zNx n i))) * (((τ.1 2 i) * (τ.1 3 (zNx n i))) - ((τ.1 3 i) * (τ.1 2 (zNx n i)))))))) hV hIt hnt 3 ?_
      show zSp _ 32 [.ref 1, .int (nI (zNx n i))] (zuI (zuI τ 1 3 ((τ.1 1 3) + (((τ.1 2 i) * (τ.1 3 (zNx n i))) - ((τ.1 3 i) * (τ.1 2 (zNx n i)))))) 1 4 ((τ.1 1 4) + (((τ.1 2 i) + (τ.1 2 (zNx n i))) * (((τ.1 2 i) * (τ.1 3 (zNx n i))) - ((τ.1 3 i) * (τ.1 2 (zNx n i))))))) (fun r σ' => σ'.2.2.2 = (zuI (zuI τ 1 3 ((τ.1 1 3) + (((τ.1 2 i) * (τ.1 3 (zNx n i))) - ((τ.1 3 i) * (τ.1 2 (zNx n i)))))) 1 4 ((τ.1 1 4) + (((τ.1 2 i) + (τ.1 2 (zNx n i))) * (((τ.1 2 i) * (τ.1 3 (zNx n i))) - ((τ.1 3 i) * (τ.1 2 (zNx n i))))))).2.2.2 + zAl 32 → V 107 [(4, .int (((τ.1 2 i) * (τ.1 3 (zNx n i))) - ((τ.1 3 i) * (τ.1 2 (zNx n i))))), (3, .int (nI (zNx n i))), (0, .ref 1), (1, .int (nI n)), (2, .int (nI i))] (r.toList ++ [.int (τ.1 3 i), .int (τ.1 1 5), .ref 1]) σ')
      refine y_ok (zR_of hIt rfl rfl) rfl (by omega) (fun _ => ?_)
      refine zq (σ := (zuI (zuI τ 1 3 ((τ.1 1 3) + (((τ.1 2 i) * (τ.1 3 (zNx n i))) - ((τ.1 3 i) * (τ.1 2 (zNx n i)))))) 1 4 ((τ.1 1 4) + (((τ.1 2 i) + (τ.1 2 (zNx n i))) * (((τ.1 2 i) * (τ.1 3 (zNx n i))) - ((τ.1 3 i) * (τ.1 2 (zNx n i)))))))) hV hIt hnt 7 ?_
      show V 22 [(2, .int ((nI i) + 1)), (4, .int (((τ.1 2 i) * (τ.1 3 (zNx n i))) - ((τ.1 3 i) * (τ.1 2 (zNx n i))))), (3, .int (nI (zNx n i))), (0, .ref 1), (1, .int (nI n))] [] (zuI (zuI (zuI τ 1 3 ((τ.1 1 3) + (((τ.1 2 i) * (τ.1 3 (zNx n i))) - ((τ.1 3 i) * (τ.1 2 (zNx n i)))))) 1 4 ((τ.1 1 4) + (((τ.1 2 i) + (τ.1 2 (zNx n i))) * (((τ.1 2 i) * (τ.1 3 (zNx n i))) - ((τ.1 3 i) * (τ.1 2 (zNx n i))))))) 1 5 ((τ.1 1 5) + (((τ.1 3 i) + (τ.1 3 (zNx n i))) * (((τ.1 2 i) * (τ.1 3 (zNx n i))) - ((τ.1 3 i) * (τ.1 2 (zNx n i)))))))
      refine zwk hV [3, 4, 0] rfl ?_
      rw [nI_1]
      refine ih (i + 1) _ (by omega) (((ht.uI rfl).uI rfl).uI rfl) hn ?_ ?_ ?_
      · rw [zAr, ← h3]; simp only [zTu, ← hX, ← hY]; rfl
      · rw [zMx, ← h4]; simp only [zTu, ← hX, ← hY]; rfl
      · rw [zMy, ← h5]; simp only [zTu, ← hX, ← hY]; rfl
  refine H n 0 _ (by omega) ?_ rfl rfl rfl rfl
  exact (((zOnly.rf.uI rfl).uI rfl).uI rfl).uI rfl
set_option maxRecDepth 8000 in
set_option maxHeartbeats 4000000 in
theorem hsize_4 {d : Nat} {σ : zSt} {K : Option Value → zSt → Prop} (hI : zQI (kR 4 7) σ.2.2) (hK : K (some (.int (σ.1 4 2))) σ) : zSp (d + 1) mX2_size [.ref 4] σ K := by
  refine ⟨⟨by decide, Nat.le_of_ble_eq_true rfl⟩, fun V hV => ?_⟩
  refine zq (σ := σ) hV hI rfl 3 ?_
  show K (some (.int (σ.1 4 2))) σ
  exact hK
set_option maxRecDepth 8000 in
set_option maxHeartbeats 4000000 in
theorem hedge_4 {d : Nat} {σ : zSt} {K : Option Value → zSt → Prop} {i : Int32} {k : Nat} (hI : zQI (kR 4 7) σ.2.2) (e : i = nI k) (hk : k < 8) (hK : K (some (.int (σ.1 5 k))) σ) : zSp (d + 2) mX2_edge [.ref 4, .int i] σ K := by
  refine ⟨⟨by decide, Nat.le_of_ble_eq_true rfl⟩, fun V hV => ?_⟩
  subst e
  refine zq (σ := σ) hV hI rfl 4 ?_
  show zSp _ 128 [.ref 5, .int (nI k)] σ (fun r σ' => σ'.2.2.2 = σ.2.2.2 + zAl 128 → V 8 [(0, .ref 4), (1, .int (nI k))] (r.toList ++ []) σ')
  refine item_5 (zA_of hI rfl) rfl (by omega) (fun _ => ?_)
  refine zq (σ := σ) hV hI rfl 1 ?_
  show K (some (.int (σ.1 5 k))) σ
  exact hK
set_option maxRecDepth 8000 in
set_option maxHeartbeats 4000000 in
theorem heighth_4 {d : Nat} {σ : zSt} {K : Option Value → zSt → Prop} {i : Int32} {k : Nat} (hI : zQI (kR 4 7) σ.2.2) (e : i = nI k) (hk : k < 8) (hK : K (some (.int (σ.1 6 k))) σ) : zSp (d + 2) mX2_eighth [.ref 4, .int i] σ K := by
  refine ⟨⟨by decide, Nat.le_of_ble_eq_true rfl⟩, fun V hV => ?_⟩
  subst e
  refine zq (σ := σ) hV hI rfl 4 ?_
  show zSp _ 128 [.ref 6, .int (nI k)] σ (fun r σ' => σ'.2.2.2 = σ.2.2.2 + zAl 128 → V 8 [(0, .ref 4), (1, .int (nI k))] (r.toList ++ []) σ')
  refine item_6 (zA_of hI rfl) rfl (by omega) (fun _ => ?_)
  refine zq (σ := σ) hV hI rfl 1 ?_
  show K (some (.int (σ.1 6 k))) σ
  exact hK
set_option maxRecDepth 8000 in
set_option maxHeartbeats 4000000 in
theorem hclear_4 {d : Nat} {σ : zSt} {K : Option Value → zSt → Prop} (hI : zQI (kR 4 7) σ.2.2) (hK : K none (zuI σ 4 2 0)) : zSp (d + 1) mX2_clear [.ref 4] σ K := by
  refine ⟨⟨by decide, Nat.le_of_ble_eq_true rfl⟩, fun V hV => ?_⟩
  refine zq (σ := σ) hV hI rfl 4 ?_
  show K none (zuI σ 4 2 0)
  exact hK
set_option maxRecDepth 8000 in
set_option maxHeartbeats 4000000 in
theorem hstand_4 {d : Nat} {σ : zSt} {K : Option Value → zSt → Prop} {i ed s : Int32} {k : Nat} (hI : zQI (kR 4 7) σ.2.2) (e : i = nI k) (hk : k < 8) (hK : K none (zuI (zuI σ 5 k ed) 6 k s)) : zSp (d + 2) mX2_stand [.ref 4, .int i, .int ed, .int s] σ K := by
  refine ⟨⟨by decide, Nat.le_of_ble_eq_true rfl⟩, fun V hV => ?_⟩
  subst e
  refine zq (σ := σ) hV hI rfl 5 ?_
  show zSp _ 129 [.ref 5, .int (nI k), .int ed] σ (fun r σ' => σ'.2.2.2 = σ.2.2.2 + zAl 129 → V 9 [(0, .ref 4), (1, .int (nI k)), (2, .int ed), (3, .int s)] (r.toList ++ []) σ')
  refine setItem_5 (zA_of hI rfl) rfl (by omega) (fun _ => ?_)
  refine zq (σ := (zuI σ 5 k ed)) hV hI rfl 5 ?_
  show zSp _ 129 [.ref 6, .int (nI k), .int s] (zuI σ 5 k ed) (fun r σ' => σ'.2.2.2 = (zuI σ 5 k ed).2.2.2 + zAl 129 → V 18 [(0, .ref 4), (1, .int (nI k)), (2, .int ed), (3, .int s)] (r.toList ++ []) σ')
  refine setItem_6 (zA_of hI rfl) rfl (by omega) (fun _ => ?_)
  refine zq (σ := (zuI (zuI σ 5 k ed) 6 k s)) hV hI rfl 1 ?_
  show K none (zuI (zuI σ 5 k ed) 6 k s)
  exact hK
set_option maxRecDepth 8000 in
set_option maxHeartbeats 4000000 in
theorem hadd_4 {d : Nat} {σ : zSt} {K : Option Value → zSt → Prop} {ed s : Int32} {m : Nat} (hI : zQI (kR 4 7) σ.2.2) (hs : σ.1 4 2 = nI m) (hm : m < 8) (hK : K none (zuI (zuI (zuI σ 5 m ed) 6 m s) 4 2 (nI (m + 1)))) : zSp (d + 3) mX2_add [.ref 4, .int ed, .int s] σ K := by
  refine ⟨⟨by decide, Nat.le_of_ble_eq_true rfl⟩, fun V hV => ?_⟩
  refine zq (σ := σ) hV hI rfl 6 ?_
  show zSp _ 22 [.ref 4, .int (σ.1 4 2), .int ed, .int s] σ (fun r σ' => σ'.2.2.2 = σ.2.2.2 + zAl 22 → V 10 [(0, .ref 4), (1, .int ed), (2, .int s)] (r.toList ++ []) σ')
  refine hstand_4 (zR_of hI rfl rfl) hs (by omega) (fun _ => ?_)
  refine zq (σ := (zuI (zuI σ 5 m ed) 6 m s)) hV hI rfl 7 ?_
  show K none (zuI (zuI (zuI σ 5 m ed) 6 m s) 4 2 ((σ.1 4 2) + 1))
  rw [show (σ.1 4 2) + 1 = nI (m + 1) by rw [hs, nI_1]]
  exact hK
set_option maxRecDepth 8000 in
set_option maxHeartbeats 4000000 in
theorem hsize_7 {d : Nat} {σ : zSt} {K : Option Value → zSt → Prop} (hI : zQI (kR 7 10) σ.2.2) (hK : K (some (.int (σ.1 7 2))) σ) : zSp (d + 1) mX2_size [.ref 7] σ K := by
  refine ⟨⟨by decide, Nat.le_of_ble_eq_true rfl⟩, fun V hV => ?_⟩
  refine zq (σ := σ) hV hI rfl 3 ?_
  show K (some (.int (σ.1 7 2))) σ
  exact hK
set_option maxRecDepth 8000 in
set_option maxHeartbeats 4000000 in
theorem hedge_7 {d : Nat} {σ : zSt} {K : Option Value → zSt → Prop} {i : Int32} {k : Nat} (hI : zQI (kR 7 10) σ.2.2) (e : i = nI k) (hk : k < 8) (hK : K (some (.int (σ.1 8 k))) σ) : zSp (d + 2) mX2_edge [.ref 7, .int i] σ K := by
  refine ⟨⟨by decide, Nat.le_of_ble_eq_true rfl⟩, fun V hV => ?_⟩
  subst e
  refine zq (σ := σ) hV hI rfl 4 ?_
  show zSp _ 128 [.ref 8, .int (nI k)] σ (fun r σ' => σ'.2.2.2 = σ.2.2.2 + zAl 128 → V 8 [(0, .ref 7), (1, .int (nI k))] (r.toList ++ []) σ')
  refine item_8 (zA_of hI rfl) rfl (by omega) (fun _ => ?_)
  refine zq (σ := σ) hV hI rfl 1 ?_
  show K (some (.int (σ.1 8 k))) σ
  exact hK
set_option maxRecDepth 8000 in
set_option maxHeartbeats 4000000 in
theorem heighth_7 {d : Nat} {σ : zSt} {K : Option Value → zSt → Prop} {i : Int32} {k : Nat} (hI : zQI (kR 7 10) σ.2.2) (e : i = nI k) (hk : k < 8) (hK : K (some (.int (σ.1 9 k))) σ) : zSp (d + 2) mX2_eighth [.ref 7, .int i] σ K := by
  refine ⟨⟨by decide, Nat.le_of_ble_eq_true rfl⟩, fun V hV => ?_⟩
  subst e
  refine zq (σ := σ) hV hI rfl 4 ?_
  show zSp _ 128 [.ref 9, .int (nI k)] σ (fun r σ' => σ'.2.2.2 = σ.2.2.2 + zAl 128 → V 8 [(0, .ref 7), (1, .int (nI k))] (r.toList ++ []) σ')
  refine item_9 (zA_of hI rfl) rfl (by omega) (fun _ => ?_)
  refine zq (σ := σ) hV hI rfl 1 ?_
  show K (some (.int (σ.1 9 k))) σ
  exact hK
set_option maxRecDepth 8000 in
set_option maxHeartbeats 4000000 in
theorem hclear_7 {d : Nat} {σ : zSt} {K : Option Value → zSt → Prop} (hI : zQI (kR 7 10) σ.2.2) (hK : K none (zuI σ 7 2 0)) : zSp (d + 1) mX2_clear [.ref 7] σ K := by
  refine ⟨⟨by decide, Nat.le_of_ble_eq_true rfl⟩, fun V hV => ?_⟩
  refine zq (σ := σ) hV hI rfl 4 ?_
  show K none (zuI σ 7 2 0)
  exact hK
set_option maxRecDepth 8000 in
set_option maxHeartbeats 4000000 in
theorem hstand_7 {d : Nat} {σ : zSt} {K : Option Value → zSt → Prop} {i ed s : Int32} {k : Nat} (hI : zQI (kR 7 10) σ.2.2) (e : i = nI k) (hk : k < 8) (hK : K none (zuI (zuI σ 8 k ed) 9 k s)) : zSp (d + 2) mX2_stand [.ref 7, .int i, .int ed, .int s] σ K := by
  refine ⟨⟨by decide, Nat.le_of_ble_eq_true rfl⟩, fun V hV => ?_⟩
  subst e
  refine zq (σ := σ) hV hI rfl 5 ?_
  show zSp _ 129 [.ref 8, .int (nI k), .int ed] σ (fun r σ' => σ'.2.2.2 = σ.2.2.2 + zAl 129 → V 9 [(0, .ref 7), (1, .int (nI k)), (2, .int ed), (3, .int s)] (r.toList ++ []) σ')
  refine setItem_8 (zA_of hI rfl) rfl (by omega) (fun _ => ?_)
  refine zq (σ := (zuI σ 8 k ed)) hV hI rfl 5 ?_
  show zSp _ 129 [.ref 9, .int (nI k), .int s] (zuI σ 8 k ed) (fun r σ' => σ'.2.2.2 = (zuI σ 8 k ed).2.2.2 + zAl 129 → V 18 [(0, .ref 7), (1, .int (nI k)), (2, .int ed), (3, .int s)] (r.toList ++ []) σ')
  refine setItem_9 (zA_of hI rfl) rfl (by omega) (fun _ => ?_)
  refine zq (σ := (zuI (zuI σ 8 k ed) 9 k s)) hV hI rfl 1 ?_
  show K none (zuI (zuI σ 8 k ed) 9 k s)
  exact hK
set_option maxRecDepth 8000 in
set_option maxHeartbeats 4000000 in
theorem hadd_7 {d : Nat} {σ : zSt} {K : Option Value → zSt → Prop} {ed s : Int32} {m : Nat} (hI : zQI (kR 7 10) σ.2.2) (hs : σ.1 7 2 = nI m) (hm : m < 8) (hK : K none (zuI (zuI (zuI σ 8 m ed) 9 m s) 7 2 (nI (m + 1)))) : zSp (d + 3) mX2_add [.ref 7, .int ed, .int s] σ K := by
  refine ⟨⟨by decide, Nat.le_of_ble_eq_true rfl⟩, fun V hV => ?_⟩
  refine zq (σ := σ) hV hI rfl 6 ?_
  show zSp _ 22 [.ref 7, .int (σ.1 7 2), .int ed, .int s] σ (fun r σ' => σ'.2.2.2 = σ.2.2.2 + zAl 22 → V 10 [(0, .ref 7), (1, .int ed), (2, .int s)] (r.toList ++ []) σ')
  refine hstand_7 (zR_of hI rfl rfl) hs (by omega) (fun _ => ?_)
  refine zq (σ := (zuI (zuI σ 8 m ed) 9 m s)) hV hI rfl 7 ?_
  show K none (zuI (zuI (zuI σ 8 m ed) 9 m s) 7 2 ((σ.1 7 2) + 1))
  rw [show (σ.1 7 2) + 1 = nI (m + 1) by rw [hs, nI_1]]
  exact hK
def zf7 (a _ : Nat) : Bool := Nat.ble 7 a && Nat.ble a 9
set_option maxRecDepth 8000 in
set_option maxHeartbeats 4000000 in
theorem become_ok {d : Nat} {σ : zSt} {K : Option Value → zSt → Prop} {n : Nat} (hI : zQI (kR 4 10) σ.2.2) (hs : σ.1 4 2 = nI n) (h8 : n ≤ 8) (hK : ∀ τ, zOnly zf7 σ τ → τ.1 7 2 = nI n → (∀ j, j < n → τ.1 8 j = σ.1 5 j ∧ τ.1 9 j = σ.1 6 j) → K none τ) : zSp (d + 4) mX2_become [.ref 7, .ref 4] σ K := by
  refine ⟨⟨by decide, Nat.le_of_ble_eq_true rfl⟩, fun V hV => ?_⟩
  refine zq (σ := σ) hV hI rfl 2 ?_
  show zSp _ 20 [.ref 7] σ (fun r σ' => σ'.2.2.2 = σ.2.2.2 + zAl 20 → V 4 [(0, .ref 7), (1, .ref 4)] (r.toList ++ []) σ')
  refine hclear_7 (zR_of hI rfl rfl) (fun _ => ?_)
  refine zq (σ := (zuI σ 7 2 0)) hV hI rfl 2 ?_
  show V 6 [(2, .int 0), (0, .ref 7), (1, .ref 4)] [] (zuI σ 7 2 0)
  refine zwk hV [1, 2, 0] rfl ?_
  have H : ∀ (m i : Nat) (τ : zSt), i + m = n → zOnly zf7 σ τ → τ.1 7 2 = nI i → (∀ j, j < i → τ.1 8 j = σ.1 5 j ∧ τ.1 9 j = σ.1 6 j) → V 6 [(0, .ref 7), (1, .ref 4), (2, .int (nI i))] [] τ := by
    intro m
    induction m with
    | zero =>
      intro i τ hin ht h7 hj
      have hIt := zQI_eq hI ht.2.2
      have hnt : τ.2.2.2 = σ.2.2.2 := congrArg Prod.snd ht.2.2
      have h4 : τ.1 4 2 = nI n := (ht.1 4 2 rfl).trans hs
      refine zq (σ := τ) hV hIt hnt 3 ?_
      show zSp _ 17 [.ref 4] τ (fun r σ' => σ'.2.2.2 = τ.2.2.2 + zAl 17 → V 11 [(0, .ref 7), (1, .ref 4), (2, .int (nI i))] (r.toList ++ [.int (nI i)]) σ')
      refine hsize_4 (zR_of hIt rfl rfl) (fun _ => ?_)
      refine zq (σ := τ) hV hIt hnt 1 ?_
      show ((τ.1 4 2) ≤ (nI i) → V 34 [(0, .ref 7), (1, .ref 4), (2, .int (nI i))] [] τ) ∧ (¬ (τ.1 4 2) ≤ (nI i) → V 14 [(0, .ref 7), (1, .ref 4), (2, .int (nI i))] [] τ)
      refine ⟨fun _ => ?_, fun hc => absurd (show τ.1 4 2 ≤ nI i by rw [h4, show i = n by omega]; exact Int32.le_refl _) hc⟩
      refine zq (σ := τ) hV hIt hnt 1 ?_
      show K none τ
      obtain rfl : i = n := by omega
      exact hK τ ht h7 hj
    | succ m ih =>
      intro i τ hin ht h7 hj
      have hIt := zQI_eq hI ht.2.2
      have hnt : τ.2.2.2 = σ.2.2.2 := congrArg Prod.snd ht.2.2
      have h4 : τ.1 4 2 = nI n := (ht.1 4 2 rfl).trans hs
      refine zq (σ := τ) hV hIt hnt 3 ?_
      show zSp _ 17 [.ref 4] τ (fun r σ' => σ'.2.2.2 = τ.2.2.2 + zAl 17 → V 11 [(0, .ref 7), (1, .ref 4), (2, .int (nI i))] (r.toList ++ [.int (nI i)]) σ')
      refine hsize_4 (zR_of hIt rfl rfl) (fun _ => ?_)
      refine zq (σ := τ) hV hIt hnt 1 ?_
      show ((τ.1 4 2) ≤ (nI i) → V 34 [(0, .ref 7), (1, .ref 4), (2, .int (nI i))] [] τ) ∧ (¬ (τ.1 4 2) ≤ (nI i) → V 14 [(0, .ref 7), (1, .ref 4), (2, .int (nI i))] [] τ)
      refine ⟨fun hc => absurd hc (show ¬ τ.1 4 2 ≤ nI i by rw [h4]; exact nI_ge (by omega) (by omega)), fun _ => ?_⟩
      refine zq (σ := τ) hV hIt hnt 4 ?_
      show zSp _ 18 [.ref 4, .int (nI i)] τ (fun r σ' => σ'.2.2.2 = τ.2.2.2 + zAl 18 → V 20 [(0, .ref 7), (1, .ref 4), (2, .int (nI i))] (r.toList ++ [.ref 7]) σ')
      refine hedge_4 (zR_of hIt rfl rfl) rfl (by omega) (fun _ => ?_)
      refine zq (σ := τ) hV hIt hnt 3 ?_
      show zSp _ 19 [.ref 4, .int (nI i)] τ (fun r σ' => σ'.2.2.2 = τ.2.2.2 + zAl 19 → V 25 [(0, .ref 7), (1, .ref 4), (2, .int (nI i))] (r.toList ++ [.int (τ.1 5 i), .ref 7]) σ')
      refine heighth_4 (zR_of hIt rfl rfl) rfl (by omega) (fun _ => ?_)
      refine zq (σ := τ) hV hIt hnt 1 ?_
      show zSp _ 21 [.ref 7, .int (τ.1 5 i), .int (τ.1 6 i)] τ (fun r σ' => σ'.2.2.2 = τ.2.2.2 + zAl 21 → V 28 [(0, .ref 7), (1, .ref 4), (2, .int (nI i))] (r.toList ++ []) σ')
      refine hadd_7 (zR_of hIt rfl rfl) (m := i) h7 (by omega) (fun _ => ?_)
      refine zq (σ := (zuI (zuI (zuI τ 8 i (τ.1 5 i)) 9 i (τ.1 6 i)) 7 2 (nI (i + 1)))) hV hIt hnt 2 ?_
      show V 6 [(2, .int ((nI i) + 1)), (0, .ref 7), (1, .ref 4)] [] (zuI (zuI (zuI τ 8 i (τ.1 5 i)) 9 i (τ.1 6 i)) 7 2 (nI (i + 1)))
      refine zwk hV [1, 2, 0] rfl ?_
      rw [nI_1]
      refine ih (i + 1) _ (by omega) (((ht.uI rfl).uI rfl).uI rfl) rfl (fun j q => ?_)
      have e5 := ht.1 5 i rfl
      have e6 := ht.1 6 i rfl
      simp only [zuI_get]
      by_cases hji : j = i
      · subst hji; simp [e5, e6]
      · have := hj j (by omega); simp [hji, this]
  refine H n 0 _ (by omega) (zOnly.rf.uI rfl) rfl (fun j q => absurd q (Nat.not_lt_zero j))
set_option maxRecDepth 8000 in
set_option maxHeartbeats 4000000 in
theorem tsize_ok {d : Nat} {σ : zSt} {K : Option Value → zSt → Prop} (hI : zQI (kR 10 14) σ.2.2) (hK : K (some (.int (σ.1 10 3))) σ) : zSp (d + 1) mX7_size [.ref 10] σ K := by
  refine ⟨⟨by decide, Nat.le_of_ble_eq_true rfl⟩, fun V hV => ?_⟩
  refine zq (σ := σ) hV hI rfl 3 ?_
  show K (some (.int (σ.1 10 3))) σ
  exact hK
set_option maxRecDepth 8000 in
set_option maxHeartbeats 4000000 in
theorem tadd_ok {d : Nat} {σ : zSt} {K : Option Value → zSt → Prop} {x y pp q : Int32} {m : Nat} (hI : zQI (kR 10 14) σ.2.2) (hs : σ.1 10 3 = nI m) (hm : m < 16) (hK : K none (zuI (zuI (zuI (zuI σ 11 m pp) 12 m q) 13 m (x * q - y * pp)) 10 3 (nI (m + 1)))) : zSp (d + 2) mX7_add [.ref 10, .int x, .int y, .int pp, .int q] σ K := by
  refine ⟨⟨by decide, Nat.le_of_ble_eq_true rfl⟩, fun V hV => ?_⟩
  refine zq (σ := σ) hV hI rfl 6 ?_
  show zSp _ 129 [.ref 11, .int (σ.1 10 3), .int pp] σ (fun r σ' => σ'.2.2.2 = σ.2.2.2 + zAl 129 → V 12 [(0, .ref 10), (1, .int x), (2, .int y), (3, .int pp), (4, .int q)] (r.toList ++ []) σ')
  refine setItem_11 (zA_of hI rfl) hs (by omega) (fun _ => ?_)
  refine zq (σ := (zuI σ 11 m pp)) hV hI rfl 6 ?_
  show zSp _ 129 [.ref 12, .int (σ.1 10 3), .int q] (zuI σ 11 m pp) (fun r σ' => σ'.2.2.2 = (zuI σ 11 m pp).2.2.2 + zAl 129 → V 25 [(0, .ref 10), (1, .int x), (2, .int y), (3, .int pp), (4, .int q)] (r.toList ++ []) σ')
  refine setItem_12 (zA_of hI rfl) hs (by omega) (fun _ => ?_)
  refine zq (σ := (zuI (zuI σ 11 m pp) 12 m q)) hV hI rfl 12 ?_
  show zSp _ 129 [.ref 13, .int (σ.1 10 3), .int ((x * q) - (y * pp))] (zuI (zuI σ 11 m pp) 12 m q) (fun r σ' => σ'.2.2.2 = (zuI (zuI σ 11 m pp) 12 m q).2.2.2 + zAl 129 → V 44 [(0, .ref 10), (1, .int x), (2, .int y), (3, .int pp), (4, .int q)] (r.toList ++ []) σ')
  refine setItem_13 (zA_of hI rfl) hs (by omega) (fun _ => ?_)
  refine zq (σ := (zuI (zuI (zuI σ 11 m pp) 12 m q) 13 m ((x * q) - (y * pp)))) hV hI rfl 7 ?_
  show K none (zuI (zuI (zuI (zuI σ 11 m pp) 12 m q) 13 m ((x * q) - (y * pp))) 10 3 ((σ.1 10 3) + 1))
  rw [show (σ.1 10 3) + 1 = nI (m + 1) by rw [hs, nI_1]]
  exact hK
set_option maxRecDepth 8000 in
set_option maxHeartbeats 4000000 in
theorem tpart_ok {d : Nat} {σ : zSt} {K : Option Value → zSt → Prop} {t w : Int32} {k : Nat} (hI : zQI (kR 10 14) σ.2.2) (e : t = nI k) (hk : k < 16) (hK : K (some (.int (if w = 0 then σ.1 11 k else if w = 1 then σ.1 12 k else σ.1 13 k))) σ) : zSp (d + 2) mX7_part [.ref 10, .int t, .int w] σ K := by
  refine ⟨⟨by decide, Nat.le_of_ble_eq_true rfl⟩, fun V hV => ?_⟩
  subst e
  refine zq (σ := σ) hV hI rfl 2 ?_
  show (¬ w = 0 → V 15 [(0, .ref 10), (1, .int (nI k)), (2, .int w)] [] σ) ∧ (¬ (¬ w = 0) → V 4 [(0, .ref 10), (1, .int (nI k)), (2, .int w)] [] σ)
  refine ⟨fun h_1 => ?_, fun h_1 => ?_⟩
  · skip
    refine zq (σ := σ) hV hI rfl 3 ?_
    show (¬ w = 1 → V 31 [(0, .ref 10), (1, .int (nI k)), (2, .int w)] [] σ) ∧ (¬ (¬ w = 1) → V 20 [(0, .ref 10), (1, .int (nI k)), (2, .int w)] [] σ)
    refine ⟨fun h_17 => ?_, fun h_17 => ?_⟩
    · skip
      refine zq (σ := σ) hV hI rfl 4 ?_
      show zSp _ 128 [.ref 13, .int (nI k)] σ (fun r σ' => σ'.2.2.2 = σ.2.2.2 + zAl 128 → V 39 [(0, .ref 10), (1, .int (nI k)), (2, .int w)] (r.toList ++ []) σ')
      refine item_13 (zA_of hI rfl) rfl (by omega) (fun _ => ?_)
      refine zq (σ := σ) hV hI rfl 1 ?_
      show K (some (.int (σ.1 13 k))) σ
      first | (rw [if_pos h_1] at hK; exact hK) | (rw [if_neg h_1, if_pos h_17] at hK; exact hK) | (rw [if_neg h_1, if_neg h_17] at hK; exact hK)
    · skip
      have h_17 := Classical.not_not.mp h_17
      refine zq (σ := σ) hV hI rfl 4 ?_
      show zSp _ 128 [.ref 12, .int (nI k)] σ (fun r σ' => σ'.2.2.2 = σ.2.2.2 + zAl 128 → V 28 [(0, .ref 10), (1, .int (nI k)), (2, .int w)] (r.toList ++ []) σ')
      refine item_12 (zA_of hI rfl) rfl (by omega) (fun _ => ?_)
      refine zq (σ := σ) hV hI rfl 2 ?_
      show K (some (.int (σ.1 12 k))) σ
      first | (rw [if_pos h_1] at hK; exact hK) | (rw [if_neg h_1, if_pos h_17] at hK; exact hK) | (rw [if_neg h_1, if_neg h_17] at hK; exact hK)
  · skip
    have h_1 := Classical.not_not.mp h_1
    refine zq (σ := σ) hV hI rfl 4 ?_
    show zSp _ 128 [.ref 11, .int (nI k)] σ (fun r σ' => σ'.2.2.2 = σ.2.2.2 + zAl 128 → V 12 [(0, .ref 10), (1, .int (nI k)), (2, .int w)] (r.toList ++ []) σ')
    refine item_11 (zA_of hI rfl) rfl (by omega) (fun _ => ?_)
    refine zq (σ := σ) hV hI rfl 2 ?_
    show K (some (.int (σ.1 11 k))) σ
    first | (rw [if_pos h_1] at hK; exact hK) | (rw [if_neg h_1, if_pos h_17] at hK; exact hK) | (rw [if_neg h_1, if_neg h_17] at hK; exact hK)
set_option maxRecDepth 8000 in
set_option maxHeartbeats 4000000 in
theorem tnormal_ok {d : Nat} {σ : zSt} {K : Option Value → zSt → Prop} {w : Int32} (hI : zQI (kR 10 14) σ.2.2) (hK : K (some (.long (if w = 0 then σ.2.1 10 4 else if w = 1 then σ.2.1 10 5 else σ.2.1 10 6))) σ) : zSp (d + 1) mX7_normal [.ref 10, .int w] σ K := by
  refine ⟨⟨by decide, Nat.le_of_ble_eq_true rfl⟩, fun V hV => ?_⟩
  refine zq (σ := σ) hV hI rfl 2 ?_
  show (¬ w = 0 → V 11 [(0, .ref 10), (1, .int w)] [] σ) ∧ (¬ (¬ w = 0) → V 4 [(0, .ref 10), (1, .int w)] [] σ)
  refine ⟨fun h_1 => ?_, fun h_1 => ?_⟩
  · skip
    refine zq (σ := σ) hV hI rfl 3 ?_
    show (¬ w = 1 → V 23 [(0, .ref 10), (1, .int w)] [] σ) ∧ (¬ (¬ w = 1) → V 16 [(0, .ref 10), (1, .int w)] [] σ)
    refine ⟨fun h_13 => ?_, fun h_13 => ?_⟩
    · skip
      refine zq (σ := σ) hV hI rfl 3 ?_
      show K (some (.long (σ.2.1 10 6))) σ
      first | (rw [if_pos h_1] at hK; exact hK) | (rw [if_neg h_1, if_pos h_13] at hK; exact hK) | (rw [if_neg h_1, if_neg h_13] at hK; exact hK)
    · skip
      have h_13 := Classical.not_not.mp h_13
      refine zq (σ := σ) hV hI rfl 4 ?_
      show K (some (.long (σ.2.1 10 5))) σ
      first | (rw [if_pos h_1] at hK; exact hK) | (rw [if_neg h_1, if_pos h_13] at hK; exact hK) | (rw [if_neg h_1, if_neg h_13] at hK; exact hK)
  · skip
    have h_1 := Classical.not_not.mp h_1
    refine zq (σ := σ) hV hI rfl 4 ?_
    show K (some (.long (σ.2.1 10 4))) σ
    first | (rw [if_pos h_1] at hK; exact hK) | (rw [if_neg h_1, if_pos h_13] at hK; exact hK) | (rw [if_neg h_1, if_neg h_13] at hK; exact hK)
def zX1 (A B C : Nat → Int64) (u v : Nat) : Int64 := B u * C v - C u * B v
def zX2 (A B C : Nat → Int64) (u v : Nat) : Int64 := C u * A v - A u * C v
def zX3 (A B C : Nat → Int64) (u v : Nat) : Int64 := A u * B v - B u * A v
def zNz (A B C : Nat → Int64) (u v : Nat) : Prop := zX1 A B C u v ≠ 0 ∨ zX2 A B C u v ≠ 0 ∨ zX3 A B C u v ≠ 0
abbrev zl (f : Nat → Int32) : Nat → Int64 := fun t => Int32.toInt64 (f t)
abbrev zA11 (σ : zSt) : Nat → Int64 := zl (σ.1 11)
abbrev zA12 (σ : zSt) : Nat → Int64 := zl (σ.1 12)
abbrev zA13 (σ : zSt) : Nat → Int64 := zl (σ.1 13)
def zCx (σ : zSt) (u v : Nat) : zSt := zuJ (zuJ (zuJ σ 10 4 (zX1 (zA11 σ) (zA12 σ) (zA13 σ) u v)) 10 5 (zX2 (zA11 σ) (zA12 σ) (zA13 σ) u v)) 10 6 (zX3 (zA11 σ) (zA12 σ) (zA13 σ) u v)
set_option maxRecDepth 8000 in
set_option maxHeartbeats 4000000 in
theorem cross_ok {d : Nat} {σ : zSt} {K : Option Value → zSt → Prop} {a b : Int32} {u v : Nat} (hI : zQI (kR 10 14) σ.2.2) (ea : a = nI u) (hu : u < 16) (eb : b = nI v) (hv : v < 16) (h1 : zNz (zA11 σ) (zA12 σ) (zA13 σ) u v → K (some (.int 1)) (zCx σ u v)) (h0 : ¬ zNz (zA11 σ) (zA12 σ) (zA13 σ) u v → K (some (.int 0)) (zCx σ u v)) : zSp (d + 2) mX7_cross [.ref 10, .int a, .int b] σ K := by
  refine ⟨⟨by decide, Nat.le_of_ble_eq_true rfl⟩, fun V hV => ?_⟩
  subst ea
  subst eb
  refine zq (σ := σ) hV hI rfl 4 ?_
  show zSp _ 128 [.ref 11, .int (nI u)] σ (fun r σ' => σ'.2.2.2 = σ.2.2.2 + zAl 128 → V 8 [(0, .ref 10), (1, .int (nI u)), (2, .int (nI v))] (r.toList ++ []) σ')
  refine item_11 (zA_of hI rfl) rfl (by omega) (fun _ => ?_)
  refine zq (σ := σ) hV hI rfl 6 ?_
  show zSp _ 128 [.ref 12, .int (nI u)] σ (fun r σ' => σ'.2.2.2 = σ.2.2.2 + zAl 128 → V 18 [(3, .long (Int32.toInt64 (σ.1 11 u))), (0, .ref 10), (1, .int (nI u)), (2, .int (nI v))] (r.toList ++ []) σ')
  refine item_12 (zA_of hI rfl) rfl (by omega) (fun _ => ?_)
  refine zq (σ := σ) hV hI rfl 6 ?_
  show zSp _ 128 [.ref 13, .int (nI u)] σ (fun r σ' => σ'.2.2.2 = σ.2.2.2 + zAl 128 → V 29 [(5, .long (Int32.toInt64 (σ.1 12 u))), (3, .long (Int32.toInt64 (σ.1 11 u))), (0, .ref 10), (1, .int (nI u)), (2, .int (nI v))] (r.toList ++ []) σ')
  refine item_13 (zA_of hI rfl) rfl (by omega) (fun _ => ?_)
  refine zq (σ := σ) hV hI rfl 6 ?_
  show zSp _ 128 [.ref 11, .int (nI v)] σ (fun r σ' => σ'.2.2.2 = σ.2.2.2 + zAl 128 → V 40 [(7, .long (Int32.toInt64 (σ.1 13 u))), (5, .long (Int32.toInt64 (σ.1 12 u))), (3, .long (Int32.toInt64 (σ.1 11 u))), (0, .ref 10), (1, .int (nI u)), (2, .int (nI v))] (r.toList ++ []) σ')
  refine item_11 (zA_of hI rfl) rfl (by omega) (fun _ => ?_)
  refine zq (σ := σ) hV hI rfl 6 ?_
  show zSp _ 128 [.ref 12, .int (nI v)] σ (fun r σ' => σ'.2.2.2 = σ.2.2.2 + zAl 128 → V 51 [(9, .long (Int32.toInt64 (σ.1 11 v))), (7, .long (Int32.toInt64 (σ.1 13 u))), (5, .long (Int32.toInt64 (σ.1 12 u))), (3, .long (Int32.toInt64 (σ.1 11 u))), (0, .ref 10), (1, .int (nI u)), (2, .int (nI v))] (r.toList ++ []) σ')
  refine item_12 (zA_of hI rfl) rfl (by omega) (fun _ => ?_)
  refine zq (σ := σ) hV hI rfl 6 ?_
  show zSp _ 128 [.ref 13, .int (nI v)] σ (fun r σ' => σ'.2.2.2 = σ.2.2.2 + zAl 128 → V 62 [(11, .long (Int32.toInt64 (σ.1 12 v))), (9, .long (Int32.toInt64 (σ.1 11 v))), (7, .long (Int32.toInt64 (σ.1 13 u))), (5, .long (Int32.toInt64 (σ.1 12 u))), (3, .long (Int32.toInt64 (σ.1 11 u))), (0, .ref 10), (1, .int (nI u)), (2, .int (nI v))] (r.toList ++ []) σ')
  refine item_13 (zA_of hI rfl) rfl (by omega) (fun _ => ?_)
  refine zq (σ := σ) hV hI rfl 34 ?_
  show (¬ (lg_cmp (((Int32.toInt64 (σ.1 12 u)) * (Int32.toInt64 (σ.1 13 v))) - ((Int32.toInt64 (σ.1 13 u)) * (Int32.toInt64 (σ.1 12 v)))) 0) = 0 → V 135 [(13, .long (Int32.toInt64 (σ.1 13 v))), (11, .long (Int32.toInt64 (σ.1 12 v))), (9, .long (Int32.toInt64 (σ.1 11 v))), (7, .long (Int32.toInt64 (σ.1 13 u))), (5, .long (Int32.toInt64 (σ.1 12 u))), (3, .long (Int32.toInt64 (σ.1 11 u))), (0, .ref 10), (1, .int (nI u)), (2, .int (nI v))] [] (zuJ (zuJ (zuJ σ 10 4 (((Int32.toInt64 (σ.1 12 u)) * (Int32.toInt64 (σ.1 13 v))) - ((Int32.toInt64 (σ.1 13 u)) * (Int32.toInt64 (σ.1 12 v))))) 10 5 (((Int32.toInt64 (σ.1 13 u)) * (Int32.toInt64 (σ.1 11 v))) - ((Int32.toInt64 (σ.1 11 u)) * (Int32.toInt64 (σ.1 13 v))))) 10 6 (((Int32.toInt64 (σ.1 11 u)) * (Int32.toInt64 (σ.1 12 v))) - ((Int32.toInt64 (σ.1 12 u)) * (Int32.toInt64 (σ.1 11 v)))))) ∧ (¬ (¬ (lg_cmp (((Int32.toInt64 (σ.1 12 u)) * (Int32.toInt64 (σ.1 13 v))) - ((Int32.toInt64 (σ.1 13 u)) * (Int32.toInt64 (σ.1 12 v)))) 0) = 0) → V 117 [(13, .long (Int32.toInt64 (σ.1 13 v))), (11, .long (Int32.toInt64 (σ.1 12 v))), (9, .long (Int32.toInt64 (σ.1 11 v))), (7, .long (Int32.toInt64 (σ.1 13 u))), (5, .long (Int32.toInt64 (σ.1 12 u))), (3, .long (Int32.toInt64 (σ.1 11 u))), (0, .ref 10), (1, .int (nI u)), (2, .int (nI v))] [] (zuJ (zuJ (zuJ σ 10 4 (((Int32.toInt64 (σ.1 12 u)) * (Int32.toInt64 (σ.1 13 v))) - ((Int32.toInt64 (σ.1 13 u)) * (Int32.toInt64 (σ.1 12 v))))) 10 5 (((Int32.toInt64 (σ.1 13 u)) * (Int32.toInt64 (σ.1 11 v))) - ((Int32.toInt64 (σ.1 11 u)) * (Int32.toInt64 (σ.1 13 v))))) 10 6 (((Int32.toInt64 (σ.1 11 u)) * (Int32.toInt64 (σ.1 12 v))) - ((Int32.toInt64 (σ.1 12 u)) * (Int32.toInt64 (σ.1 11 v))))))
  refine ⟨fun h_114 => ?_, fun h_114 => ?_⟩
  · skip
    refine zq (σ := (zuJ (zuJ (zuJ σ 10 4 (((Int32.toInt64 (σ.1 12 u)) * (Int32.toInt64 (σ.1 13 v))) - ((Int32.toInt64 (σ.1 13 u)) * (Int32.toInt64 (σ.1 12 v))))) 10 5 (((Int32.toInt64 (σ.1 13 u)) * (Int32.toInt64 (σ.1 11 v))) - ((Int32.toInt64 (σ.1 11 u)) * (Int32.toInt64 (σ.1 13 v))))) 10 6 (((Int32.toInt64 (σ.1 11 u)) * (Int32.toInt64 (σ.1 12 v))) - ((Int32.toInt64 (σ.1 12 u)) * (Int32.toInt64 (σ.1 11 v)))))) hV hI rfl 3 ?_
    show ((1 : Int32) = 0 ∨ (1 : Int32) = 1) ∧ K (some (.int 1)) (zuJ (zuJ (zuJ σ 10 4 (((Int32.toInt64 (σ.1 12 u)) * (Int32.toInt64 (σ.1 13 v))) - ((Int32.toInt64 (σ.1 13 u)) * (Int32.toInt64 (σ.1 12 v))))) 10 5 (((Int32.toInt64 (σ.1 13 u)) * (Int32.toInt64 (σ.1 11 v))) - ((Int32.toInt64 (σ.1 11 u)) * (Int32.toInt64 (σ.1 13 v))))) 10 6 (((Int32.toInt64 (σ.1 11 u)) * (Int32.toInt64 (σ.1 12 v))) - ((Int32.toInt64 (σ.1 12 u)) * (Int32.toInt64 (σ.1 11 v)))))
    refine ⟨by decide, ?_⟩
    first | exact h1 (Or.inl (fun q => h_114 (zcmp_eq.mpr q))) | exact h1 (Or.inr (Or.inl (fun q => h_123 (zcmp_eq.mpr q)))) | exact h1 (Or.inr (Or.inr (fun q => h_132 (zcmp_eq.mpr q))))
  · skip
    have h_114 := Classical.not_not.mp h_114
    refine zq (σ := (zuJ (zuJ (zuJ σ 10 4 (((Int32.toInt64 (σ.1 12 u)) * (Int32.toInt64 (σ.1 13 v))) - ((Int32.toInt64 (σ.1 13 u)) * (Int32.toInt64 (σ.1 12 v))))) 10 5 (((Int32.toInt64 (σ.1 13 u)) * (Int32.toInt64 (σ.1 11 v))) - ((Int32.toInt64 (σ.1 11 u)) * (Int32.toInt64 (σ.1 13 v))))) 10 6 (((Int32.toInt64 (σ.1 11 u)) * (Int32.toInt64 (σ.1 12 v))) - ((Int32.toInt64 (σ.1 12 u)) * (Int32.toInt64 (σ.1 11 v)))))) hV hI rfl 5 ?_
    show (¬ (lg_cmp (((Int32.toInt64 (σ.1 13 u)) * (Int32.toInt64 (σ.1 11 v))) - ((Int32.toInt64 (σ.1 11 u)) * (Int32.toInt64 (σ.1 13 v)))) 0) = 0 → V 135 [(13, .long (Int32.toInt64 (σ.1 13 v))), (11, .long (Int32.toInt64 (σ.1 12 v))), (9, .long (Int32.toInt64 (σ.1 11 v))), (7, .long (Int32.toInt64 (σ.1 13 u))), (5, .long (Int32.toInt64 (σ.1 12 u))), (3, .long (Int32.toInt64 (σ.1 11 u))), (0, .ref 10), (1, .int (nI u)), (2, .int (nI v))] [] (zuJ (zuJ (zuJ σ 10 4 (((Int32.toInt64 (σ.1 12 u)) * (Int32.toInt64 (σ.1 13 v))) - ((Int32.toInt64 (σ.1 13 u)) * (Int32.toInt64 (σ.1 12 v))))) 10 5 (((Int32.toInt64 (σ.1 13 u)) * (Int32.toInt64 (σ.1 11 v))) - ((Int32.toInt64 (σ.1 11 u)) * (Int32.toInt64 (σ.1 13 v))))) 10 6 (((Int32.toInt64 (σ.1 11 u)) * (Int32.toInt64 (σ.1 12 v))) - ((Int32.toInt64 (σ.1 12 u)) * (Int32.toInt64 (σ.1 11 v)))))) ∧ (¬ (¬ (lg_cmp (((Int32.toInt64 (σ.1 13 u)) * (Int32.toInt64 (σ.1 11 v))) - ((Int32.toInt64 (σ.1 11 u)) * (Int32.toInt64 (σ.1 13 v)))) 0) = 0) → V 126 [(13, .long (Int32.toInt64 (σ.1 13 v))), (11, .long (Int32.toInt64 (σ.1 12 v))), (9, .long (Int32.toInt64 (σ.1 11 v))), (7, .long (Int32.toInt64 (σ.1 13 u))), (5, .long (Int32.toInt64 (σ.1 12 u))), (3, .long (Int32.toInt64 (σ.1 11 u))), (0, .ref 10), (1, .int (nI u)), (2, .int (nI v))] [] (zuJ (zuJ (zuJ σ 10 4 (((Int32.toInt64 (σ.1 12 u)) * (Int32.toInt64 (σ.1 13 v))) - ((Int32.toInt64 (σ.1 13 u)) * (Int32.toInt64 (σ.1 12 v))))) 10 5 (((Int32.toInt64 (σ.1 13 u)) * (Int32.toInt64 (σ.1 11 v))) - ((Int32.toInt64 (σ.1 11 u)) * (Int32.toInt64 (σ.1 13 v))))) 10 6 (((Int32.toInt64 (σ.1 11 u)) * (Int32.toInt64 (σ.1 12 v))) - ((Int32.toInt64 (σ.1 12 u)) * (Int32.toInt64 (σ.1 11 v))))))
    refine ⟨fun h_123 => ?_, fun h_123 => ?_⟩
    · skip
      refine zq (σ := (zuJ (zuJ (zuJ σ 10 4 (((Int32.toInt64 (σ.1 12 u)) * (Int32.toInt64 (σ.1 13 v))) - ((Int32.toInt64 (σ.1 13 u)) * (Int32.toInt64 (σ.1 12 v))))) 10 5 (((Int32.toInt64 (σ.1 13 u)) * (Int32.toInt64 (σ.1 11 v))) - ((Int32.toInt64 (σ.1 11 u)) * (Int32.toInt64 (σ.1 13 v))))) 10 6 (((Int32.toInt64 (σ.1 11 u)) * (Int32.toInt64 (σ.1 12 v))) - ((Int32.toInt64 (σ.1 12 u)) * (Int32.toInt64 (σ.1 11 v)))))) hV hI rfl 3 ?_
      show ((1 : Int32) = 0 ∨ (1 : Int32) = 1) ∧ K (some (.int 1)) (zuJ (zuJ (zuJ σ 10 4 (((Int32.toInt64 (σ.1 12 u)) * (Int32.toInt64 (σ.1 13 v))) - ((Int32.toInt64 (σ.1 13 u)) * (Int32.toInt64 (σ.1 12 v))))) 10 5 (((Int32.toInt64 (σ.1 13 u)) * (Int32.toInt64 (σ.1 11 v))) - ((Int32.toInt64 (σ.1 11 u)) * (Int32.toInt64 (σ.1 13 v))))) 10 6 (((Int32.toInt64 (σ.1 11 u)) * (Int32.toInt64 (σ.1 12 v))) - ((Int32.toInt64 (σ.1 12 u)) * (Int32.toInt64 (σ.1 11 v)))))
      refine ⟨by decide, ?_⟩
      first | exact h1 (Or.inl (fun q => h_114 (zcmp_eq.mpr q))) | exact h1 (Or.inr (Or.inl (fun q => h_123 (zcmp_eq.mpr q)))) | exact h1 (Or.inr (Or.inr (fun q => h_132 (zcmp_eq.mpr q))))
    · skip
      have h_123 := Classical.not_not.mp h_123
      refine zq (σ := (zuJ (zuJ (zuJ σ 10 4 (((Int32.toInt64 (σ.1 12 u)) * (Int32.toInt64 (σ.1 13 v))) - ((Int32.toInt64 (σ.1 13 u)) * (Int32.toInt64 (σ.1 12 v))))) 10 5 (((Int32.toInt64 (σ.1 13 u)) * (Int32.toInt64 (σ.1 11 v))) - ((Int32.toInt64 (σ.1 11 u)) * (Int32.toInt64 (σ.1 13 v))))) 10 6 (((Int32.toInt64 (σ.1 11 u)) * (Int32.toInt64 (σ.1 12 v))) - ((Int32.toInt64 (σ.1 12 u)) * (Int32.toInt64 (σ.1 11 v)))))) hV hI rfl 5 ?_
      show ((lg_cmp (((Int32.toInt64 (σ.1 11 u)) * (Int32.toInt64 (σ.1 12 v))) - ((Int32.toInt64 (σ.1 12 u)) * (Int32.toInt64 (σ.1 11 v)))) 0) = 0 → V 139 [(13, .long (Int32.toInt64 (σ.1 13 v))), (11, .long (Int32.toInt64 (σ.1 12 v))), (9, .long (Int32.toInt64 (σ.1 11 v))), (7, .long (Int32.toInt64 (σ.1 13 u))), (5, .long (Int32.toInt64 (σ.1 12 u))), (3, .long (Int32.toInt64 (σ.1 11 u))), (0, .ref 10), (1, .int (nI u)), (2, .int (nI v))] [] (zuJ (zuJ (zuJ σ 10 4 (((Int32.toInt64 (σ.1 12 u)) * (Int32.toInt64 (σ.1 13 v))) - ((Int32.toInt64 (σ.1 13 u)) * (Int32.toInt64 (σ.1 12 v))))) 10 5 (((Int32.toInt64 (σ.1 13 u)) * (Int32.toInt64 (σ.1 11 v))) - ((Int32.toInt64 (σ.1 11 u)) * (Int32.toInt64 (σ.1 13 v))))) 10 6 (((Int32.toInt64 (σ.1 11 u)) * (Int32.toInt64 (σ.1 12 v))) - ((Int32.toInt64 (σ.1 12 u)) * (Int32.toInt64 (σ.1 11 v)))))) ∧ (¬ (lg_cmp (((Int32.toInt64 (σ.1 11 u)) * (Int32.toInt64 (σ.1 12 v))) - ((Int32.toInt64 (σ.1 12 u)) * (Int32.toInt64 (σ.1 11 v)))) 0) = 0 → V 135 [(13, .long (Int32.toInt64 (σ.1 13 v))), (11, .long (Int32.toInt64 (σ.1 12 v))), (9, .long (Int32.toInt64 (σ.1 11 v))), (7, .long (Int32.toInt64 (σ.1 13 u))), (5, .long (Int32.toInt64 (σ.1 12 u))), (3, .long (Int32.toInt64 (σ.1 11 u))), (0, .ref 10), (1, .int (nI u)), (2, .int (nI v))] [] (zuJ (zuJ (zuJ σ 10 4 (((Int32.toInt64 (σ.1 12 u)) * (Int32.toInt64 (σ.1 13 v))) - ((Int32.toInt64 (σ.1 13 u)) * (Int32.toInt64 (σ.1 12 v))))) 10 5 (((Int32.toInt64 (σ.1 13 u)) * (Int32.toInt64 (σ.1 11 v))) - ((Int32.toInt64 (σ.1 11 u)) * (Int32.toInt64 (σ.1 13 v))))) 10 6 (((Int32.toInt64 (σ.1 11 u)) * (Int32.toInt64 (σ.1 12 v))) - ((Int32.toInt64 (σ.1 12 u)) * (Int32.toInt64 (σ.1 11 v))))))
      refine ⟨fun h_132 => ?_, fun h_132 => ?_⟩
      · skip
        refine zq (σ := (zuJ (zuJ (zuJ σ 10 4 (((Int32.toInt64 (σ.1 12 u)) * (Int32.toInt64 (σ.1 13 v))) - ((Int32.toInt64 (σ.1 13 u)) * (Int32.toInt64 (σ.1 12 v))))) 10 5 (((Int32.toInt64 (σ.1 13 u)) * (Int32.toInt64 (σ.1 11 v))) - ((Int32.toInt64 (σ.1 11 u)) * (Int32.toInt64 (σ.1 13 v))))) 10 6 (((Int32.toInt64 (σ.1 11 u)) * (Int32.toInt64 (σ.1 12 v))) - ((Int32.toInt64 (σ.1 12 u)) * (Int32.toInt64 (σ.1 11 v)))))) hV hI rfl 2 ?_
        show ((0 : Int32) = 0 ∨ (0 : Int32) = 1) ∧ K (some (.int 0)) (zuJ (zuJ (zuJ σ 10 4 (((Int32.toInt64 (σ.1 12 u)) * (Int32.toInt64 (σ.1 13 v))) - ((Int32.toInt64 (σ.1 13 u)) * (Int32.toInt64 (σ.1 12 v))))) 10 5 (((Int32.toInt64 (σ.1 13 u)) * (Int32.toInt64 (σ.1 11 v))) - ((Int32.toInt64 (σ.1 11 u)) * (Int32.toInt64 (σ.1 13 v))))) 10 6 (((Int32.toInt64 (σ.1 11 u)) * (Int32.toInt64 (σ.1 12 v))) - ((Int32.toInt64 (σ.1 12 u)) * (Int32.toInt64 (σ.1 11 v)))))
        refine ⟨by decide, ?_⟩
        exact h0 (fun q => q.elim (fun q => q (zcmp_eq.mp h_114)) (fun q => q.elim (fun q => q (zcmp_eq.mp h_123)) (fun q => q (zcmp_eq.mp h_132))))
      · skip
        refine zq (σ := (zuJ (zuJ (zuJ σ 10 4 (((Int32.toInt64 (σ.1 12 u)) * (Int32.toInt64 (σ.1 13 v))) - ((Int32.toInt64 (σ.1 13 u)) * (Int32.toInt64 (σ.1 12 v))))) 10 5 (((Int32.toInt64 (σ.1 13 u)) * (Int32.toInt64 (σ.1 11 v))) - ((Int32.toInt64 (σ.1 11 u)) * (Int32.toInt64 (σ.1 13 v))))) 10 6 (((Int32.toInt64 (σ.1 11 u)) * (Int32.toInt64 (σ.1 12 v))) - ((Int32.toInt64 (σ.1 12 u)) * (Int32.toInt64 (σ.1 11 v)))))) hV hI rfl 3 ?_
        show ((1 : Int32) = 0 ∨ (1 : Int32) = 1) ∧ K (some (.int 1)) (zuJ (zuJ (zuJ σ 10 4 (((Int32.toInt64 (σ.1 12 u)) * (Int32.toInt64 (σ.1 13 v))) - ((Int32.toInt64 (σ.1 13 u)) * (Int32.toInt64 (σ.1 12 v))))) 10 5 (((Int32.toInt64 (σ.1 13 u)) * (Int32.toInt64 (σ.1 11 v))) - ((Int32.toInt64 (σ.1 11 u)) * (Int32.toInt64 (σ.1 13 v))))) 10 6 (((Int32.toInt64 (σ.1 11 u)) * (Int32.toInt64 (σ.1 12 v))) - ((Int32.toInt64 (σ.1 12 u)) * (Int32.toInt64 (σ.1 11 v)))))
        refine ⟨by decide, ?_⟩
        first | exact h1 (Or.inl (fun q => h_114 (zcmp_eq.mpr q))) | exact h1 (Or.inr (Or.inl (fun q => h_123 (zcmp_eq.mpr q)))) | exact h1 (Or.inr (Or.inr (fun q => h_132 (zcmp_eq.mpr q))))
set_option maxRecDepth 8000 in
set_option maxHeartbeats 4000000 in
theorem turn_1 {d : Nat} {σ : zSt} {K : Option Value → zSt → Prop} (hI : zQI (kR 10 14) σ.2.2) (hK : K none (zuJ (zuJ (zuJ σ 10 4 (-σ.2.1 10 4)) 10 5 (-σ.2.1 10 5)) 10 6 (-σ.2.1 10 6))) : zSp (d + 1) mX7_turnIfBelow [.ref 10, .int 1] σ K := by
  refine ⟨⟨by decide, Nat.le_of_ble_eq_true rfl⟩, fun V hV => ?_⟩
  refine zq (σ := σ) hV hI rfl 3 ?_
  show (¬ (1 : Int32) = 1 → V 32 [(0, .ref 10), (1, .int 1)] [] σ) ∧ (¬ (¬ (1 : Int32) = 1) → V 5 [(0, .ref 10), (1, .int 1)] [] σ)
  refine ⟨fun hc => absurd hc (by decide), fun _ => ?_⟩
  refine zq (σ := σ) hV hI rfl 16 ?_
  show K none (zuJ (zuJ (zuJ σ 10 4 (-(σ.2.1 10 4))) 10 5 (-(σ.2.1 10 5))) 10 6 (-(σ.2.1 10 6)))
  exact hK
set_option maxRecDepth 8000 in
set_option maxHeartbeats 4000000 in
theorem turn_0 {d : Nat} {σ : zSt} {K : Option Value → zSt → Prop} (hI : zQI (kR 10 14) σ.2.2) (hK : K none σ) : zSp (d + 1) mX7_turnIfBelow [.ref 10, .int 0] σ K := by
  refine ⟨⟨by decide, Nat.le_of_ble_eq_true rfl⟩, fun V hV => ?_⟩
  refine zq (σ := σ) hV hI rfl 3 ?_
  show (¬ (0 : Int32) = 1 → V 32 [(0, .ref 10), (1, .int 0)] [] σ) ∧ (¬ (¬ (0 : Int32) = 1) → V 5 [(0, .ref 10), (1, .int 0)] [] σ)
  refine ⟨fun _ => ?_, fun hc => absurd (by decide) hc⟩
  refine zq (σ := σ) hV hI rfl 1 ?_
  show K none σ
  exact hK
set_option maxRecDepth 8000 in
set_option maxHeartbeats 4000000 in
theorem turn_2 {d : Nat} {σ : zSt} {K : Option Value → zSt → Prop} (hI : zQI (kR 10 14) σ.2.2) (hK : K none σ) : zSp (d + 1) mX7_turnIfBelow [.ref 10, .int 2] σ K := by
  refine ⟨⟨by decide, Nat.le_of_ble_eq_true rfl⟩, fun V hV => ?_⟩
  refine zq (σ := σ) hV hI rfl 3 ?_
  show (¬ (2 : Int32) = 1 → V 32 [(0, .ref 10), (1, .int 2)] [] σ) ∧ (¬ (¬ (2 : Int32) = 1) → V 5 [(0, .ref 10), (1, .int 2)] [] σ)
  refine ⟨fun _ => ?_, fun hc => absurd (by decide) hc⟩
  refine zq (σ := σ) hV hI rfl 1 ?_
  show K none σ
  exact hK
end
section
def zDX (n : Nat) (X : Nat → Int32) (e : Nat) : Int32 := X (zNx n e) - X e
def zPX (n : Nat) (X : Nat → Int32) (e : Nat) (s : Int32) : Int32 := 8 * X e + s * zDX n X e
def zTi (f : Int32) (t : Nat) : Nat := if f = 0 then t else t / 2
def zEd (E : Nat → Int32) (i : Nat) : Nat := (E i).toNatClampNeg
def zT1 (n : Nat) (X Y : Nat → Int32) (f : Int32) (E : Nat → Int32) (t : Nat) : Int32 := if f = 0 ∨ t % 2 = 0 then (-16) * zDX n Y (zEd E (zTi f t)) + f * zDX n X (zEd E (zTi f t)) else (-16) * zDX n Y (zEd E (zTi f t)) - f * zDX n X (zEd E (zTi f t))
def zT2 (n : Nat) (X Y : Nat → Int32) (f : Int32) (E : Nat → Int32) (t : Nat) : Int32 := if f = 0 ∨ t % 2 = 0 then 16 * zDX n X (zEd E (zTi f t)) + f * zDX n Y (zEd E (zTi f t)) else 16 * zDX n X (zEd E (zTi f t)) - f * zDX n Y (zEd E (zTi f t))
def zT3 (n : Nat) (X Y : Nat → Int32) (f : Int32) (E S : Nat → Int32) (t : Nat) : Int32 := zPX n X (zEd E (zTi f t)) (S (zTi f t)) * zT2 n X Y f E t - zPX n Y (zEd E (zTi f t)) (S (zTi f t)) * zT1 n X Y f E t
/-- how many triples the first i fingers have -/
def zMl (f : Int32) (i : Nat) : Nat := if f = 0 then i else 2 * i
theorem zMl_0 {f : Int32} (h : f = 0) (i : Nat) : zMl f i = i := if_pos h
theorem zMl_1 {f : Int32} (h : ¬ f = 0) (i : Nat) : zMl f i = 2 * i := if_neg h
theorem zMl_le {f : Int32} {i : Nat} (h : i ≤ 8) : zMl f i ≤ 16 := by unfold zMl; split <;> omega
def zfT (a j : Nat) : Bool := (Nat.beq a 10 && Nat.beq j 3) || (Nat.ble 11 a && Nat.ble a 13)
def zTok (n : Nat) (X Y : Nat → Int32) (f : Int32) (E S : Nat → Int32) (m : Nat) (τ : zSt) : Prop := ∀ t, t < m → τ.1 11 t = zT1 n X Y f E t ∧ τ.1 12 t = zT2 n X Y f E t ∧ τ.1 13 t = zT3 n X Y f E S t
theorem zT_0 {n : Nat} {X Y : Nat → Int32} {f : Int32} {E S : Nat → Int32} {i e : Nat} (hf : f = 0) (hZ : zEd E i = e) :
    zT1 n X Y f E i = (-16) * (Y (zNx n e) - Y e) + f * (X (zNx n e) - X e) ∧ zT2 n X Y f E i = 16 * (X (zNx n e) - X e) + f * (Y (zNx n e) - Y e) ∧
    zT3 n X Y f E S i = (8 * X e + S i * (X (zNx n e) - X e)) * (16 * (X (zNx n e) - X e) + f * (Y (zNx n e) - Y e)) - (8 * Y e + S i * (Y (zNx n e) - Y e)) * ((-16) * (Y (zNx n e) - Y e) + f * (X (zNx n e) - X e)) := by
  have h1 : zTi f i = i := if_pos hf
  have h2 : (f = 0 ∨ i % 2 = 0) := Or.inl hf
  simp only [zT3, zT1, zT2, zPX, zDX, h1, hZ, if_pos h2, and_self]
theorem zT_1 {n : Nat} {X Y : Nat → Int32} {f : Int32} {E S : Nat → Int32} {i e : Nat} (hf : ¬ f = 0) (hZ : zEd E i = e) :
    (zT1 n X Y f E (2 * i) = (-16) * (Y (zNx n e) - Y e) + f * (X (zNx n e) - X e) ∧ zT2 n X Y f E (2 * i) = 16 * (X (zNx n e) - X e) + f * (Y (zNx n e) - Y e) ∧
    zT3 n X Y f E S (2 * i) = (8 * X e + S i * (X (zNx n e) - X e)) * (16 * (X (zNx n e) - X e) + f * (Y (zNx n e) - Y e)) - (8 * Y e + S i * (Y (zNx n e) - Y e)) * ((-16) * (Y (zNx n e) - Y e) + f * (X (zNx n e) - X e))) ∧
    zT1 n X Y f E (2 * i + 1) = (-16) * (Y (zNx n e) - Y e) - f * (X (zNx n e) - X e) ∧ zT2 n X Y f E (2 * i + 1) = 16 * (X (zNx n e) - X e) - f * (Y (zNx n e) - Y e) ∧
    zT3 n X Y f E S (2 * i + 1) = (8 * X e + S i * (X (zNx n e) - X e)) * (16 * (X (zNx n e) - X e) - f * (Y (zNx n e) - Y e)) - (8 * Y e + S i * (Y (zNx n e) - Y e)) * ((-16) * (Y (zNx n e) - Y e) - f * (X (zNx n e) - X e)) := by
  have h1 : zTi f (2 * i) = i := by unfold zTi; rw [if_neg hf]; omega
  have h1' : zTi f (2 * i + 1) = i := by unfold zTi; rw [if_neg hf]; omega
  have h2 : (f = 0 ∨ (2 * i) % 2 = 0) := Or.inr (by omega)
  have h2' : ¬ (f = 0 ∨ (2 * i + 1) % 2 = 0) := by rintro (h | h); exact hf h; omega
  simp only [zT3, zT1, zT2, zPX, zDX, h1, h1', hZ, if_pos h2, if_neg h2', and_self]
set_option maxRecDepth 8000 in
set_option maxHeartbeats 4000000 in
theorem press_4 {d : Nat} {σ : zSt} {K : Option Value → zSt → Prop} {f : Int32} {n m : Nat} (hI : zQI (kR 1 14) σ.2.2) (hn : σ.1 1 2 = nI n) (hn10 : n ≤ 10) (hs : σ.1 4 2 = nI m) (hm : m ≤ 8) (hE : ∀ i, i < m → ∃ e, σ.1 5 i = nI e ∧ e < n) (hK : ∀ τ, zOnly zfT σ τ → τ.1 10 3 = nI (zMl f m) → zTok n (σ.1 2) (σ.1 3) f (σ.1 5) (σ.1 6) (zMl f m) τ → K none τ) : zSp (d + 3) mX7_press [.ref 10, .ref 4, .ref 1, .int f] σ K := by
  refine ⟨⟨by decide, Nat.le_of_ble_eq_true rfl⟩, fun V hV => ?_⟩
  refine zq (σ := σ) hV hI rfl 5 ?_
  show V 8 [(4, .int 0), (0, .ref 10), (1, .ref 4), (2, .ref 1), (3, .int f)] [] (zuI σ 10 3 0)
  refine zwk hV [1, 2, 3, 4, 0] rfl ?_
  have H : ∀ (r i : Nat) (τ : zSt), i + r = m → zOnly zfT σ τ → τ.1 10 3 = nI (zMl f i) → zTok n (σ.1 2) (σ.1 3) f (σ.1 5) (σ.1 6) (zMl f i) τ → V 8 [(0, .ref 10), (1, .ref 4), (2, .ref 1), (3, .int f), (4, .int (nI i))] [] τ := by
    intro r
    induction r with
    | zero =>
      intro i τ hin ht h10 hj
      have hIt := zQI_eq hI ht.2.2
      have hnt : τ.2.2.2 = σ.2.2.2 := congrArg Prod.snd ht.2.2
      have hst : τ.1 4 2 = nI m := (ht.1 4 2 rfl).trans hs
      refine zq (σ := τ) hV hIt hnt 3 ?_
      show zSp _ 17 [.ref 4] τ (fun r σ' => σ'.2.2.2 = τ.2.2.2 + zAl 17 → V 14 [(0, .ref 10), (1, .ref 4), (2, .ref 1), (3, .int f), (4, .int (nI i))] (r.toList ++ [.int (nI i)]) σ')
      refine hsize_4 (zR_of hIt rfl rfl) (fun _ => ?_)
      refine zq (σ := τ) hV hIt hnt 1 ?_
      show ((τ.1 4 2) ≤ (nI i) → V 149 [(0, .ref 10), (1, .ref 4), (2, .ref 1), (3, .int f), (4, .int (nI i))] [] τ) ∧ (¬ (τ.1 4 2) ≤ (nI i) → V 17 [(0, .ref 10), (1, .ref 4), (2, .ref 1), (3, .int f), (4, .int (nI i))] [] τ)
      refine ⟨fun _ => ?_, fun hc => absurd (show τ.1 4 2 ≤ nI i by rw [hst, show i = m by omega]; exact Int32.le_refl _) hc⟩
      refine zq (σ := τ) hV hIt hnt 1 ?_
      show K none τ
      obtain rfl : i = m := by omega
      exact hK τ ht h10 hj
    | succ r ih =>
      intro i τ hin ht h10 hj
      have hIt := zQI_eq hI ht.2.2
      have hnt : τ.2.2.2 = σ.2.2.2 := congrArg Prod.snd ht.2.2
      have hst : τ.1 4 2 = nI m := (ht.1 4 2 rfl).trans hs
      have hmi : i < m := by omega
      have hml := @zMl_le f (i + 1) (by omega)
      obtain ⟨e, he0, hen⟩ := hE i hmi
      have he : τ.1 5 i = nI e := (ht.1 5 i rfl).trans he0
      have hZ : zEd (σ.1 5) i = e := by unfold zEd; rw [he0]; exact nI_clamp (by omega)
      have hX : τ.1 2 = σ.1 2 := funext fun j => ht.1 2 j rfl
      have hY : τ.1 3 = σ.1 3 := funext fun j => ht.1 3 j rfl
      have hSt : τ.1 6 i = σ.1 6 i := ht.1 6 i rfl
      replace hn : τ.1 1 2 = nI n := (ht.1 1 2 rfl).trans hn
      have hze := zNx_lt hen
      have hm1 : zMl f i < 16 ∧ (¬ f = 0 → zMl f i + 1 < 16) := by unfold zMl at hml ⊢; split <;> rename_i q <;> simp only [q, if_true, if_false] at hml <;> omega
      refine zq (σ := τ) hV hIt hnt 3 ?_
      show zSp _ 17 [.ref 4] τ (fun r σ' => σ'.2.2.2 = τ.2.2.2 + zAl 17 → V 14 [(0, .ref 10), (1, .ref 4), (2, .ref 1), (3, .int f), (4, .int (nI i))] (r.toList ++ [.int (nI i)]) σ')
      refine hsize_4 (zR_of hIt rfl rfl) (fun _ => ?_)
      refine zq (σ := τ) hV hIt hnt 1 ?_
      show ((τ.1 4 2) ≤ (nI i) → V 149 [(0, .ref 10), (1, .ref 4), (2, .ref 1), (3, .int f), (4, .int (nI i))] [] τ) ∧ (¬ (τ.1 4 2) ≤ (nI i) → V 17 [(0, .ref 10), (1, .ref 4), (2, .ref 1), (3, .int f), (4, .int (nI i))] [] τ)
      refine ⟨fun hc => absurd hc (show ¬ τ.1 4 2 ≤ nI i by rw [hst]; exact nI_ge hmi (by omega)), fun _ => ?_⟩
      refine zq (σ := τ) hV hIt hnt 3 ?_
      show zSp _ 18 [.ref 4, .int (nI i)] τ (fun r σ' => σ'.2.2.2 = τ.2.2.2 + zAl 18 → V 23 [(0, .ref 10), (1, .ref 4), (2, .ref 1), (3, .int f), (4, .int (nI i))] (r.toList ++ []) σ')
      refine hedge_4 (zR_of hIt rfl rfl) rfl (by omega) (fun _ => ?_)
      refine zq (σ := τ) hV hIt hnt 4 ?_
      show zSp _ 19 [.ref 4, .int (nI i)] τ (fun r σ' => σ'.2.2.2 = τ.2.2.2 + zAl 19 → V 31 [(5, .int (τ.1 5 i)), (0, .ref 10), (1, .ref 4), (2, .ref 1), (3, .int f), (4, .int (nI i))] (r.toList ++ []) σ')
      refine heighth_4 (zR_of hIt rfl rfl) rfl (by omega) (fun _ => ?_)
      refine zq (σ := τ) hV hIt hnt 4 ?_
      show zSp _ 34 [.ref 1, .int (τ.1 5 i)] τ (fun r σ' => σ'.2.2.2 = τ.2.2.2 + zAl 34 → V 39 [(6, .int (τ.1 6 i)), (5, .int (τ.1 5 i)), (0, .ref 10), (1, .ref 4), (2, .ref 1), (3, .int f), (4, .int (nI i))] (r.toList ++ []) σ')
      refine dx_ok (zR_of hIt rfl rfl) hn (by omega) he (by omega) (fun _ => ?_)
      refine zq (σ := τ) hV hIt hnt 4 ?_
      show zSp _ 35 [.ref 1, .int (τ.1 5 i)] τ (fun r σ' => σ'.2.2.2 = τ.2.2.2 + zAl 35 → V 47 [(7, .int ((τ.1 2 (zNx n e)) - (τ.1 2 e))), (6, .int (τ.1 6 i)), (5, .int (τ.1 5 i)), (0, .ref 10), (1, .ref 4), (2, .ref 1), (3, .int f), (4, .int (nI i))] (r.toList ++ []) σ')
      refine dy_ok (zR_of hIt rfl rfl) hn (by omega) he (by omega) (fun _ => ?_)
      refine zq (σ := τ) hV hIt hnt 5 ?_
      show zSp _ 31 [.ref 1, .int (τ.1 5 i)] τ (fun r σ' => σ'.2.2.2 = τ.2.2.2 + zAl 31 → V 57 [(8, .int ((τ.1 3 (zNx n e)) - (τ.1 3 e))), (7, .int ((τ.1 2 (zNx n e)) - (τ.1 2 e))), (6, .int (τ.1 6 i)), (5, .int (τ.1 5 i)), (0, .ref 10), (1, .ref 4), (2, .ref 1), (3, .int f), (4, .int (nI i))] (r.toList ++ [.int 8]) σ')
      refine x_ok (zR_of hIt rfl rfl) he (by omega) (fun _ => ?_)
      refine zq (σ := τ) hV hIt hnt 10 ?_
      show zSp _ 32 [.ref 1, .int (τ.1 5 i)] τ (fun r σ' => σ'.2.2.2 = τ.2.2.2 + zAl 32 → V 74 [(9, .int ((8 * (τ.1 2 e)) + ((τ.1 6 i) * ((τ.1 2 (zNx n e)) - (τ.1 2 e))))), (8, .int ((τ.1 3 (zNx n e)) - (τ.1 3 e))), (7, .int ((τ.1 2 (zNx n e)) - (τ.1 2 e))), (6, .int (τ.1 6 i)), (5, .int (τ.1 5 i)), (0, .ref 10), (1, .ref 4), (2, .ref 1), (3, .int f), (4, .int (nI i))] (r.toList ++ [.int 8]) σ')
      refine y_ok (zR_of hIt rfl rfl) he (by omega) (fun _ => ?_)
      refine zq (σ := τ) hV hIt hnt 24 ?_
      show zSp _ 69 [.ref 10, .int ((8 * (τ.1 2 e)) + ((τ.1 6 i) * ((τ.1 2 (zNx n e)) - (τ.1 2 e)))), .int ((8 * (τ.1 3 e)) + ((τ.1 6 i) * ((τ.1 3 (zNx n e)) - (τ.1 3 e)))), .int (((-16) * ((τ.1 3 (zNx n e)) - (τ.1 3 e))) + (f * ((τ.1 2 (zNx n e)) - (τ.1 2 e)))), .int ((16 * ((τ.1 2 (zNx n e)) - (τ.1 2 e))) + (f * ((τ.1 3 (zNx n e)) - (τ.1 3 e))))] τ (fun r σ' => σ'.2.2.2 = τ.2.2.2 + zAl 69 → V 111 [(10, .int ((8 * (τ.1 3 e)) + ((τ.1 6 i) * ((τ.1 3 (zNx n e)) - (τ.1 3 e))))), (9, .int ((8 * (τ.1 2 e)) + ((τ.1 6 i) * ((τ.1 2 (zNx n e)) - (τ.1 2 e))))), (8, .int ((τ.1 3 (zNx n e)) - (τ.1 3 e))), (7, .int ((τ.1 2 (zNx n e)) - (τ.1 2 e))), (6, .int (τ.1 6 i)), (5, .int (τ.1 5 i)), (0, .ref 10), (1, .ref 4), (2, .ref 1), (3, .int f), (4, .int (nI i))] (r.toList ++ []) σ')
      refine tadd_ok (zR_of hIt rfl rfl) (m := (zMl f i)) h10 hm1.1 (fun _ => ?_)
      refine zq (σ := (zuI (zuI (zuI (zuI τ 11 (zMl f i) (((-16) * ((τ.1 3 (zNx n e)) - (τ.1 3 e))) + (f * ((τ.1 2 (zNx n e)) - (τ.1 2 e))))) 12 (zMl f i) ((16 * ((τ.1 2 (zNx n e)) - (τ.1 2 e))) + (f * ((τ.1 3 (zNx n e)) - (τ.1 3 e))))) 13 (zMl f i) (((8 * (τ.1 2 e)) + ((τ.1 6 i) * ((τ.1 2 (zNx n e)) - (τ.1 2 e)))) * ((16 * ((τ.1 2 (zNx n e)) - (τ.1 2 e))) + (f * ((τ.1 3 (zNx n e)) - (τ.1 3 e)))) - ((8 * (τ.1 3 e)) + ((τ.1 6 i) * ((τ.1 3 (zNx n e)) - (τ.1 3 e)))) * (((-16) * ((τ.1 3 (zNx n e)) - (τ.1 3 e))) + (f * ((τ.1 2 (zNx n e)) - (τ.1 2 e)))))) 10 3 (nI ((zMl f i) + 1)))) hV hIt hnt 2 ?_
      show (f = 0 → V 143 [(10, .int ((8 * (τ.1 3 e)) + ((τ.1 6 i) * ((τ.1 3 (zNx n e)) - (τ.1 3 e))))), (9, .int ((8 * (τ.1 2 e)) + ((τ.1 6 i) * ((τ.1 2 (zNx n e)) - (τ.1 2 e))))), (8, .int ((τ.1 3 (zNx n e)) - (τ.1 3 e))), (7, .int ((τ.1 2 (zNx n e)) - (τ.1 2 e))), (6, .int (τ.1 6 i)), (5, .int (τ.1 5 i)), (0, .ref 10), (1, .ref 4), (2, .ref 1), (3, .int f), (4, .int (nI i))] [] (zuI (zuI (zuI (zuI τ 11 (zMl f i) (((-16) * ((τ.1 3 (zNx n e)) - (τ.1 3 e))) + (f * ((τ.1 2 (zNx n e)) - (τ.1 2 e))))) 12 (zMl f i) ((16 * ((τ.1 2 (zNx n e)) - (τ.1 2 e))) + (f * ((τ.1 3 (zNx n e)) - (τ.1 3 e))))) 13 (zMl f i) (((8 * (τ.1 2 e)) + ((τ.1 6 i) * ((τ.1 2 (zNx n e)) - (τ.1 2 e)))) * ((16 * ((τ.1 2 (zNx n e)) - (τ.1 2 e))) + (f * ((τ.1 3 (zNx n e)) - (τ.1 3 e)))) - ((8 * (τ.1 3 e)) + ((τ.1 6 i) * ((τ.1 3 (zNx n e)) - (τ.1 3 e)))) * (((-16) * ((τ.1 3 (zNx n e)) - (τ.1 3 e))) + (f * ((τ.1 2 (zNx n e)) - (τ.1 2 e)))))) 10 3 (nI ((zMl f i) + 1)))) ∧ (¬ f = 0 → V 115 [(10, .int ((8 * (τ.1 3 e)) + ((τ.1 6 i) * ((τ.1 3 (zNx n e)) - (τ.1 3 e))))), (9, .int ((8 * (τ.1 2 e)) + ((τ.1 6 i) * ((τ.1 2 (zNx n e)) - (τ.1 2 e))))), (8, .int ((τ.1 3 (zNx n e)) - (τ.1 3 e))), (7, .int ((τ.1 2 (zNx n e)) - (τ.1 2 e))), (6, .int (τ.1 6 i)), (5, .int (τ.1 5 i)), (0, .ref 10), (1, .ref 4), (2, .ref 1), (3, .int f), (4, .int (nI i))] [] (zuI (zuI (zuI (zuI τ 11 (zMl f i) (((-16) * ((τ.1 3 (zNx n e)) - (τ.1 3 e))) + (f * ((τ.1 2 (zNx n e)) - (τ.1 2 e))))) 12 (zMl f i) ((16 * ((τ.1 2 (zNx n e)) - (τ.1 2 e))) + (f * ((τ.1 3 (zNx n e)) - (τ.1 3 e))))) 13 (zMl f i) (((8 * (τ.1 2 e)) + ((τ.1 6 i) * ((τ.1 2 (zNx n e)) - (τ.1 2 e)))) * ((16 * ((τ.1 2 (zNx n e)) - (τ.1 2 e))) + (f * ((τ.1 3 (zNx n e)) - (τ.1 3 e)))) - ((8 * (τ.1 3 e)) + ((τ.1 6 i) * ((τ.1 3 (zNx n e)) - (τ.1 3 e)))) * (((-16) * ((τ.1 3 (zNx n e)) - (τ.1 3 e))) + (f * ((τ.1 2 (zNx n e)) - (τ.1 2 e)))))) 10 3 (nI ((zMl f i) + 1))))
      refine ⟨fun h_112 => ?_, fun h_112 => ?_⟩
      · skip
        refine zq (σ := (zuI (zuI (zuI (zuI τ 11 (zMl f i) (((-16) * ((τ.1 3 (zNx n e)) - (τ.1 3 e))) + (f * ((τ.1 2 (zNx n e)) - (τ.1 2 e))))) 12 (zMl f i) ((16 * ((τ.1 2 (zNx n e)) - (τ.1 2 e))) + (f * ((τ.1 3 (zNx n e)) - (τ.1 3 e))))) 13 (zMl f i) (((8 * (τ.1 2 e)) + ((τ.1 6 i) * ((τ.1 2 (zNx n e)) - (τ.1 2 e)))) * ((16 * ((τ.1 2 (zNx n e)) - (τ.1 2 e))) + (f * ((τ.1 3 (zNx n e)) - (τ.1 3 e)))) - ((8 * (τ.1 3 e)) + ((τ.1 6 i) * ((τ.1 3 (zNx n e)) - (τ.1 3 e)))) * (((-16) * ((τ.1 3 (zNx n e)) - (τ.1 3 e))) + (f * ((τ.1 2 (zNx n e)) - (τ.1 2 e)))))) 10 3 (nI ((zMl f i) + 1)))) hV hIt hnt 2 ?_
        show V 8 [(4, .int ((nI i) + 1)), (10, .int ((8 * (τ.1 3 e)) + ((τ.1 6 i) * ((τ.1 3 (zNx n e)) - (τ.1 3 e))))), (9, .int ((8 * (τ.1 2 e)) + ((τ.1 6 i) * ((τ.1 2 (zNx n e)) - (τ.1 2 e))))), (8, .int ((τ.1 3 (zNx n e)) - (τ.1 3 e))), (7, .int ((τ.1 2 (zNx n e)) - (τ.1 2 e))), (6, .int (τ.1 6 i)), (5, .int (τ.1 5 i)), (0, .ref 10), (1, .ref 4), (2, .ref 1), (3, .int f)] [] (zuI (zuI (zuI (zuI τ 11 (zMl f i) (((-16) * ((τ.1 3 (zNx n e)) - (τ.1 3 e))) + (f * ((τ.1 2 (zNx n e)) - (τ.1 2 e))))) 12 (zMl f i) ((16 * ((τ.1 2 (zNx n e)) - (τ.1 2 e))) + (f * ((τ.1 3 (zNx n e)) - (τ.1 3 e))))) 13 (zMl f i) (((8 * (τ.1 2 e)) + ((τ.1 6 i) * ((τ.1 2 (zNx n e)) - (τ.1 2 e)))) * ((16 * ((τ.1 2 (zNx n e)) - (τ.1 2 e))) + (f * ((τ.1 3 (zNx n e)) - (τ.1 3 e)))) - ((8 * (τ.1 3 e)) + ((τ.1 6 i) * ((τ.1 3 (zNx n e)) - (τ.1 3 e)))) * (((-16) * ((τ.1 3 (zNx n e)) - (τ.1 3 e))) + (f * ((τ.1 2 (zNx n e)) - (τ.1 2 e)))))) 10 3 (nI ((zMl f i) + 1)))
        refine zwk hV [7, 8, 9, 10, 0] rfl ?_
        rw [nI_1]
        refine ih (i + 1) _ (by omega) ((((ht.uI rfl).uI rfl).uI rfl).uI rfl) ?_ (fun t q => ?_)
        · show nI (zMl f i + 1) = _
          rw [zMl_0 h_112, zMl_0 h_112]
        · rw [zMl_0 h_112] at q
          have hs3 := @zT_0 n (σ.1 2) (σ.1 3) f (σ.1 5) (σ.1 6) i e h_112 hZ
          simp only [zuI_get, zMl_0 h_112, hX, hY, hSt]
          by_cases hti : t = i
          · subst hti; simp [hs3.1, hs3.2.1, hs3.2.2]
          · have := hj t (by rw [zMl_0 h_112]; omega); simp [hti, this.1, this.2.1, this.2.2]
      · skip
        refine zq (σ := (zuI (zuI (zuI (zuI τ 11 (zMl f i) (((-16) * ((τ.1 3 (zNx n e)) - (τ.1 3 e))) + (f * ((τ.1 2 (zNx n e)) - (τ.1 2 e))))) 12 (zMl f i) ((16 * ((τ.1 2 (zNx n e)) - (τ.1 2 e))) + (f * ((τ.1 3 (zNx n e)) - (τ.1 3 e))))) 13 (zMl f i) (((8 * (τ.1 2 e)) + ((τ.1 6 i) * ((τ.1 2 (zNx n e)) - (τ.1 2 e)))) * ((16 * ((τ.1 2 (zNx n e)) - (τ.1 2 e))) + (f * ((τ.1 3 (zNx n e)) - (τ.1 3 e)))) - ((8 * (τ.1 3 e)) + ((τ.1 6 i) * ((τ.1 3 (zNx n e)) - (τ.1 3 e)))) * (((-16) * ((τ.1 3 (zNx n e)) - (τ.1 3 e))) + (f * ((τ.1 2 (zNx n e)) - (τ.1 2 e)))))) 10 3 (nI ((zMl f i) + 1)))) hV hIt hnt 18 ?_
        show zSp _ 69 [.ref 10, .int ((8 * (τ.1 2 e)) + ((τ.1 6 i) * ((τ.1 2 (zNx n e)) - (τ.1 2 e)))), .int ((8 * (τ.1 3 e)) + ((τ.1 6 i) * ((τ.1 3 (zNx n e)) - (τ.1 3 e)))), .int (((-16) * ((τ.1 3 (zNx n e)) - (τ.1 3 e))) - (f * ((τ.1 2 (zNx n e)) - (τ.1 2 e)))), .int ((16 * ((τ.1 2 (zNx n e)) - (τ.1 2 e))) - (f * ((τ.1 3 (zNx n e)) - (τ.1 3 e))))] (zuI (zuI (zuI (zuI τ 11 (zMl f i) (((-16) * ((τ.1 3 (zNx n e)) - (τ.1 3 e))) + (f * ((τ.1 2 (zNx n e)) - (τ.1 2 e))))) 12 (zMl f i) ((16 * ((τ.1 2 (zNx n e)) - (τ.1 2 e))) + (f * ((τ.1 3 (zNx n e)) - (τ.1 3 e))))) 13 (zMl f i) (((8 * (τ.1 2 e)) + ((τ.1 6 i) * ((τ.1 2 (zNx n e)) - (τ.1 2 e)))) * ((16 * ((τ.1 2 (zNx n e)) - (τ.1 2 e))) + (f * ((τ.1 3 (zNx n e)) - (τ.1 3 e)))) - ((8 * (τ.1 3 e)) + ((τ.1 6 i) * ((τ.1 3 (zNx n e)) - (τ.1 3 e)))) * (((-16) * ((τ.1 3 (zNx n e)) - (τ.1 3 e))) + (f * ((τ.1 2 (zNx n e)) - (τ.1 2 e)))))) 10 3 (nI ((zMl f i) + 1))) (fun r σ' => σ'.2.2.2 = (zuI (zuI (zuI (zuI τ 11 (zMl f i) (((-16) * ((τ.1 3 (zNx n e)) - (τ.1 3 e))) + (f * ((τ.1 2 (zNx n e)) - (τ.1 2 e))))) 12 (zMl f i) ((16 * ((τ.1 2 (zNx n e)) - (τ.1 2 e))) + (f * ((τ.1 3 (zNx n e)) - (τ.1 3 e))))) 13 (zMl f i) (((8 * (τ.1 2 e)) + ((τ.1 6 i) * ((τ.1 2 (zNx n e)) - (τ.1 2 e)))) * ((16 * ((τ.1 2 (zNx n e)) - (τ.1 2 e))) + (f * ((τ.1 3 (zNx n e)) - (τ.1 3 e)))) - ((8 * (τ.1 3 e)) + ((τ.1 6 i) * ((τ.1 3 (zNx n e)) - (τ.1 3 e)))) * (((-16) * ((τ.1 3 (zNx n e)) - (τ.1 3 e))) + (f * ((τ.1 2 (zNx n e)) - (τ.1 2 e)))))) 10 3 (nI ((zMl f i) + 1))).2.2.2 + zAl 69 → V 143 [(10, .int ((8 * (τ.1 3 e)) + ((τ.1 6 i) * ((τ.1 3 (zNx n e)) - (τ.1 3 e))))), (9, .int ((8 * (τ.1 2 e)) + ((τ.1 6 i) * ((τ.1 2 (zNx n e)) - (τ.1 2 e))))), (8, .int ((τ.1 3 (zNx n e)) - (τ.1 3 e))), (7, .int ((τ.1 2 (zNx n e)) - (τ.1 2 e))), (6, .int (τ.1 6 i)), (5, .int (τ.1 5 i)), (0, .ref 10), (1, .ref 4), (2, .ref 1), (3, .int f), (4, .int (nI i))] (r.toList ++ []) σ')
        refine tadd_ok (zR_of hIt rfl rfl) (m := (zMl f i + 1)) rfl (hm1.2 h_112) (fun _ => ?_)
        refine zq (σ := (zuI (zuI (zuI (zuI (zuI (zuI (zuI (zuI τ 11 (zMl f i) (((-16) * ((τ.1 3 (zNx n e)) - (τ.1 3 e))) + (f * ((τ.1 2 (zNx n e)) - (τ.1 2 e))))) 12 (zMl f i) ((16 * ((τ.1 2 (zNx n e)) - (τ.1 2 e))) + (f * ((τ.1 3 (zNx n e)) - (τ.1 3 e))))) 13 (zMl f i) (((8 * (τ.1 2 e)) + ((τ.1 6 i) * ((τ.1 2 (zNx n e)) - (τ.1 2 e)))) * ((16 * ((τ.1 2 (zNx n e)) - (τ.1 2 e))) + (f * ((τ.1 3 (zNx n e)) - (τ.1 3 e)))) - ((8 * (τ.1 3 e)) + ((τ.1 6 i) * ((τ.1 3 (zNx n e)) - (τ.1 3 e)))) * (((-16) * ((τ.1 3 (zNx n e)) - (τ.1 3 e))) + (f * ((τ.1 2 (zNx n e)) - (τ.1 2 e)))))) 10 3 (nI ((zMl f i) + 1))) 11 (zMl f i + 1) (((-16) * ((τ.1 3 (zNx n e)) - (τ.1 3 e))) - (f * ((τ.1 2 (zNx n e)) - (τ.1 2 e))))) 12 (zMl f i + 1) ((16 * ((τ.1 2 (zNx n e)) - (τ.1 2 e))) - (f * ((τ.1 3 (zNx n e)) - (τ.1 3 e))))) 13 (zMl f i + 1) (((8 * (τ.1 2 e)) + ((τ.1 6 i) * ((τ.1 2 (zNx n e)) - (τ.1 2 e)))) * ((16 * ((τ.1 2 (zNx n e)) - (τ.1 2 e))) - (f * ((τ.1 3 (zNx n e)) - (τ.1 3 e)))) - ((8 * (τ.1 3 e)) + ((τ.1 6 i) * ((τ.1 3 (zNx n e)) - (τ.1 3 e)))) * (((-16) * ((τ.1 3 (zNx n e)) - (τ.1 3 e))) - (f * ((τ.1 2 (zNx n e)) - (τ.1 2 e)))))) 10 3 (nI ((zMl f i + 1) + 1)))) hV hIt hnt 2 ?_
        show V 8 [(4, .int ((nI i) + 1)), (10, .int ((8 * (τ.1 3 e)) + ((τ.1 6 i) * ((τ.1 3 (zNx n e)) - (τ.1 3 e))))), (9, .int ((8 * (τ.1 2 e)) + ((τ.1 6 i) * ((τ.1 2 (zNx n e)) - (τ.1 2 e))))), (8, .int ((τ.1 3 (zNx n e)) - (τ.1 3 e))), (7, .int ((τ.1 2 (zNx n e)) - (τ.1 2 e))), (6, .int (τ.1 6 i)), (5, .int (τ.1 5 i)), (0, .ref 10), (1, .ref 4), (2, .ref 1), (3, .int f)] [] (zuI (zuI (zuI (zuI (zuI (zuI (zuI (zuI τ 11 (zMl f i) (((-16) * ((τ.1 3 (zNx n e)) - (τ.1 3 e))) + (f * ((τ.1 2 (zNx n e)) - (τ.1 2 e))))) 12 (zMl f i) ((16 * ((τ.1 2 (zNx n e)) - (τ.1 2 e))) + (f * ((τ.1 3 (zNx n e)) - (τ.1 3 e))))) 13 (zMl f i) (((8 * (τ.1 2 e)) + ((τ.1 6 i) * ((τ.1 2 (zNx n e)) - (τ.1 2 e)))) * ((16 * ((τ.1 2 (zNx n e)) - (τ.1 2 e))) + (f * ((τ.1 3 (zNx n e)) - (τ.1 3 e)))) - ((8 * (τ.1 3 e)) + ((τ.1 6 i) * ((τ.1 3 (zNx n e)) - (τ.1 3 e)))) * (((-16) * ((τ.1 3 (zNx n e)) - (τ.1 3 e))) + (f * ((τ.1 2 (zNx n e)) - (τ.1 2 e)))))) 10 3 (nI ((zMl f i) + 1))) 11 (zMl f i + 1) (((-16) * ((τ.1 3 (zNx n e)) - (τ.1 3 e))) - (f * ((τ.1 2 (zNx n e)) - (τ.1 2 e))))) 12 (zMl f i + 1) ((16 * ((τ.1 2 (zNx n e)) - (τ.1 2 e))) - (f * ((τ.1 3 (zNx n e)) - (τ.1 3 e))))) 13 (zMl f i + 1) (((8 * (τ.1 2 e)) + ((τ.1 6 i) * ((τ.1 2 (zNx n e)) - (τ.1 2 e)))) * ((16 * ((τ.1 2 (zNx n e)) - (τ.1 2 e))) - (f * ((τ.1 3 (zNx n e)) - (τ.1 3 e)))) - ((8 * (τ.1 3 e)) + ((τ.1 6 i) * ((τ.1 3 (zNx n e)) - (τ.1 3 e)))) * (((-16) * ((τ.1 3 (zNx n e)) - (τ.1 3 e))) - (f * ((τ.1 2 (zNx n e)) - (τ.1 2 e)))))) 10 3 (nI ((zMl f i + 1) + 1)))
        refine zwk hV [7, 8, 9, 10, 0] rfl ?_
        rw [nI_1]
        refine ih (i + 1) _ (by omega) ((((((((ht.uI rfl).uI rfl).uI rfl).uI rfl).uI rfl).uI rfl).uI rfl).uI rfl) ?_ (fun t q => ?_)
        · show nI (zMl f i + 1 + 1) = _
          rw [zMl_1 h_112, zMl_1 h_112]; rfl
        · rw [zMl_1 h_112] at q
          have hs3 := @zT_1 n (σ.1 2) (σ.1 3) f (σ.1 5) (σ.1 6) i e h_112 hZ
          simp only [zuI_get, zMl_1 h_112, hX, hY, hSt]
          by_cases hti : t = 2 * i
          · subst hti; simp [hs3.1.1, hs3.1.2.1, hs3.1.2.2]
          · by_cases hti2 : t = 2 * i + 1
            · subst hti2; simp [hs3.2.1, hs3.2.2.1, hs3.2.2.2]
            · have := hj t (by rw [zMl_1 h_112]; omega); simp [hti, hti2, this.1, this.2.1, this.2.2]
  refine H m 0 _ (by omega) (zOnly.rf.uI rfl) ?_ (fun t q => absurd q (by unfold zMl; split <;> omega))
  show nI 0 = _
  unfold zMl; split <;> rfl
set_option maxRecDepth 8000 in
set_option maxHeartbeats 4000000 in
theorem press_7 {d : Nat} {σ : zSt} {K : Option Value → zSt → Prop} {f : Int32} {n m : Nat} (hI : zQI (kR 1 14) σ.2.2) (hn : σ.1 1 2 = nI n) (hn10 : n ≤ 10) (hs : σ.1 7 2 = nI m) (hm : m ≤ 8) (hE : ∀ i, i < m → ∃ e, σ.1 8 i = nI e ∧ e < n) (hK : ∀ τ, zOnly zfT σ τ → τ.1 10 3 = nI (zMl f m) → zTok n (σ.1 2) (σ.1 3) f (σ.1 8) (σ.1 9) (zMl f m) τ → K none τ) : zSp (d + 3) mX7_press [.ref 10, .ref 7, .ref 1, .int f] σ K := by
  refine ⟨⟨by decide, Nat.le_of_ble_eq_true rfl⟩, fun V hV => ?_⟩
  refine zq (σ := σ) hV hI rfl 5 ?_
  show V 8 [(4, .int 0), (0, .ref 10), (1, .ref 7), (2, .ref 1), (3, .int f)] [] (zuI σ 10 3 0)
  refine zwk hV [1, 2, 3, 4, 0] rfl ?_
  have H : ∀ (r i : Nat) (τ : zSt), i + r = m → zOnly zfT σ τ → τ.1 10 3 = nI (zMl f i) → zTok n (σ.1 2) (σ.1 3) f (σ.1 8) (σ.1 9) (zMl f i) τ → V 8 [(0, .ref 10), (1, .ref 7), (2, .ref 1), (3, .int f), (4, .int (nI i))] [] τ := by
    intro r
    induction r with
    | zero =>
      intro i τ hin ht h10 hj
      have hIt := zQI_eq hI ht.2.2
      have hnt : τ.2.2.2 = σ.2.2.2 := congrArg Prod.snd ht.2.2
      have hst : τ.1 7 2 = nI m := (ht.1 7 2 rfl).trans hs
      refine zq (σ := τ) hV hIt hnt 3 ?_
      show zSp _ 17 [.ref 7] τ (fun r σ' => σ'.2.2.2 = τ.2.2.2 + zAl 17 → V 14 [(0, .ref 10), (1, .ref 7), (2, .ref 1), (3, .int f), (4, .int (nI i))] (r.toList ++ [.int (nI i)]) σ')
      refine hsize_7 (zR_of hIt rfl rfl) (fun _ => ?_)
      refine zq (σ := τ) hV hIt hnt 1 ?_
      show ((τ.1 7 2) ≤ (nI i) → V 149 [(0, .ref 10), (1, .ref 7), (2, .ref 1), (3, .int f), (4, .int (nI i))] [] τ) ∧ (¬ (τ.1 7 2) ≤ (nI i) → V 17 [(0, .ref 10), (1, .ref 7), (2, .ref 1), (3, .int f), (4, .int (nI i))] [] τ)
      refine ⟨fun _ => ?_, fun hc => absurd (show τ.1 7 2 ≤ nI i by rw [hst, show i = m by omega]; exact Int32.le_refl _) hc⟩
      refine zq (σ := τ) hV hIt hnt 1 ?_
      show K none τ
      obtain rfl : i = m := by omega
      exact hK τ ht h10 hj
    | succ r ih =>
      intro i τ hin ht h10 hj
      have hIt := zQI_eq hI ht.2.2
      have hnt : τ.2.2.2 = σ.2.2.2 := congrArg Prod.snd ht.2.2
      have hst : τ.1 7 2 = nI m := (ht.1 7 2 rfl).trans hs
      have hmi : i < m := by omega
      have hml := @zMl_le f (i + 1) (by omega)
      obtain ⟨e, he0, hen⟩ := hE i hmi
      have he : τ.1 8 i = nI e := (ht.1 8 i rfl).trans he0
      have hZ : zEd (σ.1 8) i = e := by unfold zEd; rw [he0]; exact nI_clamp (by omega)
      have hX : τ.1 2 = σ.1 2 := funext fun j => ht.1 2 j rfl
      have hY : τ.1 3 = σ.1 3 := funext fun j => ht.1 3 j rfl
      have hSt : τ.1 9 i = σ.1 9 i := ht.1 9 i rfl
      replace hn : τ.1 1 2 = nI n := (ht.1 1 2 rfl).trans hn
      have hze := zNx_lt hen
      have hm1 : zMl f i < 16 ∧ (¬ f = 0 → zMl f i + 1 < 16) := by unfold zMl at hml ⊢; split <;> rename_i q <;> simp only [q, if_true, if_false] at hml <;> omega
      refine zq (σ := τ) hV hIt hnt 3 ?_
      show zSp _ 17 [.ref 7] τ (fun r σ' => σ'.2.2.2 = τ.2.2.2 + zAl 17 → V 14 [(0, .ref 10), (1, .ref 7), (2, .ref 1), (3, .int f), (4, .int (nI i))] (r.toList ++ [.int (nI i)]) σ')
      refine hsize_7 (zR_of hIt rfl rfl) (fun _ => ?_)
      refine zq (σ := τ) hV hIt hnt 1 ?_
      show ((τ.1 7 2) ≤ (nI i) → V 149 [(0, .ref 10), (1, .ref 7), (2, .ref 1), (3, .int f), (4, .int (nI i))] [] τ) ∧ (¬ (τ.1 7 2) ≤ (nI i) → V 17 [(0, .ref 10), (1, .ref 7), (2, .ref 1), (3, .int f), (4, .int (nI i))] [] τ)
      refine ⟨fun hc => absurd hc (show ¬ τ.1 7 2 ≤ nI i by rw [hst]; exact nI_ge hmi (by omega)), fun _ => ?_⟩
      refine zq (σ := τ) hV hIt hnt 3 ?_
      show zSp _ 18 [.ref 7, .int (nI i)] τ (fun r σ' => σ'.2.2.2 = τ.2.2.2 + zAl 18 → V 23 [(0, .ref 10), (1, .ref 7), (2, .ref 1), (3, .int f), (4, .int (nI i))] (r.toList ++ []) σ')
      refine hedge_7 (zR_of hIt rfl rfl) rfl (by omega) (fun _ => ?_)
      refine zq (σ := τ) hV hIt hnt 4 ?_
      show zSp _ 19 [.ref 7, .int (nI i)] τ (fun r σ' => σ'.2.2.2 = τ.2.2.2 + zAl 19 → V 31 [(5, .int (τ.1 8 i)), (0, .ref 10), (1, .ref 7), (2, .ref 1), (3, .int f), (4, .int (nI i))] (r.toList ++ []) σ')
      refine heighth_7 (zR_of hIt rfl rfl) rfl (by omega) (fun _ => ?_)
      refine zq (σ := τ) hV hIt hnt 4 ?_
      show zSp _ 34 [.ref 1, .int (τ.1 8 i)] τ (fun r σ' => σ'.2.2.2 = τ.2.2.2 + zAl 34 → V 39 [(6, .int (τ.1 9 i)), (5, .int (τ.1 8 i)), (0, .ref 10), (1, .ref 7), (2, .ref 1), (3, .int f), (4, .int (nI i))] (r.toList ++ []) σ')
      refine dx_ok (zR_of hIt rfl rfl) hn (by omega) he (by omega) (fun _ => ?_)
      refine zq (σ := τ) hV hIt hnt 4 ?_
      show zSp _ 35 [.ref 1, .int (τ.1 8 i)] τ (fun r σ' => σ'.2.2.2 = τ.2.2.2 + zAl 35 → V 47 [(7, .int ((τ.1 2 (zNx n e)) - (τ.1 2 e))), (6, .int (τ.1 9 i)), (5, .int (τ.1 8 i)), (0, .ref 10), (1, .ref 7), (2, .ref 1), (3, .int f), (4, .int (nI i))] (r.toList ++ []) σ')
      refine dy_ok (zR_of hIt rfl rfl) hn (by omega) he (by omega) (fun _ => ?_)
      refine zq (σ := τ) hV hIt hnt 5 ?_
      show zSp _ 31 [.ref 1, .int (τ.1 8 i)] τ (fun r σ' => σ'.2.2.2 = τ.2.2.2 + zAl 31 → V 57 [(8, .int ((τ.1 3 (zNx n e)) - (τ.1 3 e))), (7, .int ((τ.1 2 (zNx n e)) - (τ.1 2 e))), (6, .int (τ.1 9 i)), (5, .int (τ.1 8 i)), (0, .ref 10), (1, .ref 7), (2, .ref 1), (3, .int f), (4, .int (nI i))] (r.toList ++ [.int 8]) σ')
      refine x_ok (zR_of hIt rfl rfl) he (by omega) (fun _ => ?_)
      refine zq (σ := τ) hV hIt hnt 10 ?_
      show zSp _ 32 [.ref 1, .int (τ.1 8 i)] τ (fun r σ' => σ'.2.2.2 = τ.2.2.2 + zAl 32 → V 74 [(9, .int ((8 * (τ.1 2 e)) + ((τ.1 9 i) * ((τ.1 2 (zNx n e)) - (τ.1 2 e))))), (8, .int ((τ.1 3 (zNx n e)) - (τ.1 3 e))), (7, .int ((τ.1 2 (zNx n e)) - (τ.1 2 e))), (6, .int (τ.1 9 i)), (5, .int (τ.1 8 i)), (0, .ref 10), (1, .ref 7), (2, .ref 1), (3, .int f), (4, .int (nI i))] (r.toList ++ [.int 8]) σ')
      refine y_ok (zR_of hIt rfl rfl) he (by omega) (fun _ => ?_)
      refine zq (σ := τ) hV hIt hnt 24 ?_
      show zSp _ 69 [.ref 10, .int ((8 * (τ.1 2 e)) + ((τ.1 9 i) * ((τ.1 2 (zNx n e)) - (τ.1 2 e)))), .int ((8 * (τ.1 3 e)) + ((τ.1 9 i) * ((τ.1 3 (zNx n e)) - (τ.1 3 e)))), .int (((-16) * ((τ.1 3 (zNx n e)) - (τ.1 3 e))) + (f * ((τ.1 2 (zNx n e)) - (τ.1 2 e)))), .int ((16 * ((τ.1 2 (zNx n e)) - (τ.1 2 e))) + (f * ((τ.1 3 (zNx n e)) - (τ.1 3 e))))] τ (fun r σ' => σ'.2.2.2 = τ.2.2.2 + zAl 69 → V 111 [(10, .int ((8 * (τ.1 3 e)) + ((τ.1 9 i) * ((τ.1 3 (zNx n e)) - (τ.1 3 e))))), (9, .int ((8 * (τ.1 2 e)) + ((τ.1 9 i) * ((τ.1 2 (zNx n e)) - (τ.1 2 e))))), (8, .int ((τ.1 3 (zNx n e)) - (τ.1 3 e))), (7, .int ((τ.1 2 (zNx n e)) - (τ.1 2 e))), (6, .int (τ.1 9 i)), (5, .int (τ.1 8 i)), (0, .ref 10), (1, .ref 7), (2, .ref 1), (3, .int f), (4, .int (nI i))] (r.toList ++ []) σ')
      refine tadd_ok (zR_of hIt rfl rfl) (m := (zMl f i)) h10 hm1.1 (fun _ => ?_)
      refine zq (σ := (zuI (zuI (zuI (zuI τ 11 (zMl f i) (((-16) * ((τ.1 3 (zNx n e)) - (τ.1 3 e))) + (f * ((τ.1 2 (zNx n e)) - (τ.1 2 e))))) 12 (zMl f i) ((16 * ((τ.1 2 (zNx n e)) - (τ.1 2 e))) + (f * ((τ.1 3 (zNx n e)) - (τ.1 3 e))))) 13 (zMl f i) (((8 * (τ.1 2 e)) + ((τ.1 9 i) * ((τ.1 2 (zNx n e)) - (τ.1 2 e)))) * ((16 * ((τ.1 2 (zNx n e)) - (τ.1 2 e))) + (f * ((τ.1 3 (zNx n e)) - (τ.1 3 e)))) - ((8 * (τ.1 3 e)) + ((τ.1 9 i) * ((τ.1 3 (zNx n e)) - (τ.1 3 e)))) * (((-16) * ((τ.1 3 (zNx n e)) - (τ.1 3 e))) + (f * ((τ.1 2 (zNx n e)) - (τ.1 2 e)))))) 10 3 (nI ((zMl f i) + 1)))) hV hIt hnt 2 ?_
      show (f = 0 → V 143 [(10, .int ((8 * (τ.1 3 e)) + ((τ.1 9 i) * ((τ.1 3 (zNx n e)) - (τ.1 3 e))))), (9, .int ((8 * (τ.1 2 e)) + ((τ.1 9 i) * ((τ.1 2 (zNx n e)) - (τ.1 2 e))))), (8, .int ((τ.1 3 (zNx n e)) - (τ.1 3 e))), (7, .int ((τ.1 2 (zNx n e)) - (τ.1 2 e))), (6, .int (τ.1 9 i)), (5, .int (τ.1 8 i)), (0, .ref 10), (1, .ref 7), (2, .ref 1), (3, .int f), (4, .int (nI i))] [] (zuI (zuI (zuI (zuI τ 11 (zMl f i) (((-16) * ((τ.1 3 (zNx n e)) - (τ.1 3 e))) + (f * ((τ.1 2 (zNx n e)) - (τ.1 2 e))))) 12 (zMl f i) ((16 * ((τ.1 2 (zNx n e)) - (τ.1 2 e))) + (f * ((τ.1 3 (zNx n e)) - (τ.1 3 e))))) 13 (zMl f i) (((8 * (τ.1 2 e)) + ((τ.1 9 i) * ((τ.1 2 (zNx n e)) - (τ.1 2 e)))) * ((16 * ((τ.1 2 (zNx n e)) - (τ.1 2 e))) + (f * ((τ.1 3 (zNx n e)) - (τ.1 3 e)))) - ((8 * (τ.1 3 e)) + ((τ.1 9 i) * ((τ.1 3 (zNx n e)) - (τ.1 3 e)))) * (((-16) * ((τ.1 3 (zNx n e)) - (τ.1 3 e))) + (f * ((τ.1 2 (zNx n e)) - (τ.1 2 e)))))) 10 3 (nI ((zMl f i) + 1)))) ∧ (¬ f = 0 → V 115 [(10, .int ((8 * (τ.1 3 e)) + ((τ.1 9 i) * ((τ.1 3 (zNx n e)) - (τ.1 3 e))))), (9, .int ((8 * (τ.1 2 e)) + ((τ.1 9 i) * ((τ.1 2 (zNx n e)) - (τ.1 2 e))))), (8, .int ((τ.1 3 (zNx n e)) - (τ.1 3 e))), (7, .int ((τ.1 2 (zNx n e)) - (τ.1 2 e))), (6, .int (τ.1 9 i)), (5, .int (τ.1 8 i)), (0, .ref 10), (1, .ref 7), (2, .ref 1), (3, .int f), (4, .int (nI i))] [] (zuI (zuI (zuI (zuI τ 11 (zMl f i) (((-16) * ((τ.1 3 (zNx n e)) - (τ.1 3 e))) + (f * ((τ.1 2 (zNx n e)) - (τ.1 2 e))))) 12 (zMl f i) ((16 * ((τ.1 2 (zNx n e)) - (τ.1 2 e))) + (f * ((τ.1 3 (zNx n e)) - (τ.1 3 e))))) 13 (zMl f i) (((8 * (τ.1 2 e)) + ((τ.1 9 i) * ((τ.1 2 (zNx n e)) - (τ.1 2 e)))) * ((16 * ((τ.1 2 (zNx n e)) - (τ.1 2 e))) + (f * ((τ.1 3 (zNx n e)) - (τ.1 3 e)))) - ((8 * (τ.1 3 e)) + ((τ.1 9 i) * ((τ.1 3 (zNx n e)) - (τ.1 3 e)))) * (((-16) * ((τ.1 3 (zNx n e)) - (τ.1 3 e))) + (f * ((τ.1 2 (zNx n e)) - (τ.1 2 e)))))) 10 3 (nI ((zMl f i) + 1))))
      refine ⟨fun h_112 => ?_, fun h_112 => ?_⟩
      · skip
        refine zq (σ := (zuI (zuI (zuI (zuI τ 11 (zMl f i) (((-16) * ((τ.1 3 (zNx n e)) - (τ.1 3 e))) + (f * ((τ.1 2 (zNx n e)) - (τ.1 2 e))))) 12 (zMl f i) ((16 * ((τ.1 2 (zNx n e)) - (τ.1 2 e))) + (f * ((τ.1 3 (zNx n e)) - (τ.1 3 e))))) 13 (zMl f i) (((8 * (τ.1 2 e)) + ((τ.1 9 i) * ((τ.1 2 (zNx n e)) - (τ.1 2 e)))) * ((16 * ((τ.1 2 (zNx n e)) - (τ.1 2 e))) + (f * ((τ.1 3 (zNx n e)) - (τ.1 3 e)))) - ((8 * (τ.1 3 e)) + ((τ.1 9 i) * ((τ.1 3 (zNx n e)) - (τ.1 3 e)))) * (((-16) * ((τ.1 3 (zNx n e)) - (τ.1 3 e))) + (f * ((τ.1 2 (zNx n e)) - (τ.1 2 e)))))) 10 3 (nI ((zMl f i) + 1)))) hV hIt hnt 2 ?_
        show V 8 [(4, .int ((nI i) + 1)), (10, .int ((8 * (τ.1 3 e)) + ((τ.1 9 i) * ((τ.1 3 (zNx n e)) - (τ.1 3 e))))), (9, .int ((8 * (τ.1 2 e)) + ((τ.1 9 i) * ((τ.1 2 (zNx n e)) - (τ.1 2 e))))), (8, .int ((τ.1 3 (zNx n e)) - (τ.1 3 e))), (7, .int ((τ.1 2 (zNx n e)) - (τ.1 2 e))), (6, .int (τ.1 9 i)), (5, .int (τ.1 8 i)), (0, .ref 10), (1, .ref 7), (2, .ref 1), (3, .int f)] [] (zuI (zuI (zuI (zuI τ 11 (zMl f i) (((-16) * ((τ.1 3 (zNx n e)) - (τ.1 3 e))) + (f * ((τ.1 2 (zNx n e)) - (τ.1 2 e))))) 12 (zMl f i) ((16 * ((τ.1 2 (zNx n e)) - (τ.1 2 e))) + (f * ((τ.1 3 (zNx n e)) - (τ.1 3 e))))) 13 (zMl f i) (((8 * (τ.1 2 e)) + ((τ.1 9 i) * ((τ.1 2 (zNx n e)) - (τ.1 2 e)))) * ((16 * ((τ.1 2 (zNx n e)) - (τ.1 2 e))) + (f * ((τ.1 3 (zNx n e)) - (τ.1 3 e)))) - ((8 * (τ.1 3 e)) + ((τ.1 9 i) * ((τ.1 3 (zNx n e)) - (τ.1 3 e)))) * (((-16) * ((τ.1 3 (zNx n e)) - (τ.1 3 e))) + (f * ((τ.1 2 (zNx n e)) - (τ.1 2 e)))))) 10 3 (nI ((zMl f i) + 1)))
        refine zwk hV [7, 8, 9, 10, 0] rfl ?_
        rw [nI_1]
        refine ih (i + 1) _ (by omega) ((((ht.uI rfl).uI rfl).uI rfl).uI rfl) ?_ (fun t q => ?_)
        · show nI (zMl f i + 1) = _
          rw [zMl_0 h_112, zMl_0 h_112]
        · rw [zMl_0 h_112] at q
          have hs3 := @zT_0 n (σ.1 2) (σ.1 3) f (σ.1 8) (σ.1 9) i e h_112 hZ
          simp only [zuI_get, zMl_0 h_112, hX, hY, hSt]
          by_cases hti : t = i
          · subst hti; simp [hs3.1, hs3.2.1, hs3.2.2]
          · have := hj t (by rw [zMl_0 h_112]; omega); simp [hti, this.1, this.2.1, this.2.2]
      · skip
        refine zq (σ := (zuI (zuI (zuI (zuI τ 11 (zMl f i) (((-16) * ((τ.1 3 (zNx n e)) - (τ.1 3 e))) + (f * ((τ.1 2 (zNx n e)) - (τ.1 2 e))))) 12 (zMl f i) ((16 * ((τ.1 2 (zNx n e)) - (τ.1 2 e))) + (f * ((τ.1 3 (zNx n e)) - (τ.1 3 e))))) 13 (zMl f i) (((8 * (τ.1 2 e)) + ((τ.1 9 i) * ((τ.1 2 (zNx n e)) - (τ.1 2 e)))) * ((16 * ((τ.1 2 (zNx n e)) - (τ.1 2 e))) + (f * ((τ.1 3 (zNx n e)) - (τ.1 3 e)))) - ((8 * (τ.1 3 e)) + ((τ.1 9 i) * ((τ.1 3 (zNx n e)) - (τ.1 3 e)))) * (((-16) * ((τ.1 3 (zNx n e)) - (τ.1 3 e))) + (f * ((τ.1 2 (zNx n e)) - (τ.1 2 e)))))) 10 3 (nI ((zMl f i) + 1)))) hV hIt hnt 18 ?_
        show zSp _ 69 [.ref 10, .int ((8 * (τ.1 2 e)) + ((τ.1 9 i) * ((τ.1 2 (zNx n e)) - (τ.1 2 e)))), .int ((8 * (τ.1 3 e)) + ((τ.1 9 i) * ((τ.1 3 (zNx n e)) - (τ.1 3 e)))), .int (((-16) * ((τ.1 3 (zNx n e)) - (τ.1 3 e))) - (f * ((τ.1 2 (zNx n e)) - (τ.1 2 e)))), .int ((16 * ((τ.1 2 (zNx n e)) - (τ.1 2 e))) - (f * ((τ.1 3 (zNx n e)) - (τ.1 3 e))))] (zuI (zuI (zuI (zuI τ 11 (zMl f i) (((-16) * ((τ.1 3 (zNx n e)) - (τ.1 3 e))) + (f * ((τ.1 2 (zNx n e)) - (τ.1 2 e))))) 12 (zMl f i) ((16 * ((τ.1 2 (zNx n e)) - (τ.1 2 e))) + (f * ((τ.1 3 (zNx n e)) - (τ.1 3 e))))) 13 (zMl f i) (((8 * (τ.1 2 e)) + ((τ.1 9 i) * ((τ.1 2 (zNx n e)) - (τ.1 2 e)))) * ((16 * ((τ.1 2 (zNx n e)) - (τ.1 2 e))) + (f * ((τ.1 3 (zNx n e)) - (τ.1 3 e)))) - ((8 * (τ.1 3 e)) + ((τ.1 9 i) * ((τ.1 3 (zNx n e)) - (τ.1 3 e)))) * (((-16) * ((τ.1 3 (zNx n e)) - (τ.1 3 e))) + (f * ((τ.1 2 (zNx n e)) - (τ.1 2 e)))))) 10 3 (nI ((zMl f i) + 1))) (fun r σ' => σ'.2.2.2 = (zuI (zuI (zuI (zuI τ 11 (zMl f i) (((-16) * ((τ.1 3 (zNx n e)) - (τ.1 3 e))) + (f * ((τ.1 2 (zNx n e)) - (τ.1 2 e))))) 12 (zMl f i) ((16 * ((τ.1 2 (zNx n e)) - (τ.1 2 e))) + (f * ((τ.1 3 (zNx n e)) - (τ.1 3 e))))) 13 (zMl f i) (((8 * (τ.1 2 e)) + ((τ.1 9 i) * ((τ.1 2 (zNx n e)) - (τ.1 2 e)))) * ((16 * ((τ.1 2 (zNx n e)) - (τ.1 2 e))) + (f * ((τ.1 3 (zNx n e)) - (τ.1 3 e)))) - ((8 * (τ.1 3 e)) + ((τ.1 9 i) * ((τ.1 3 (zNx n e)) - (τ.1 3 e)))) * (((-16) * ((τ.1 3 (zNx n e)) - (τ.1 3 e))) + (f * ((τ.1 2 (zNx n e)) - (τ.1 2 e)))))) 10 3 (nI ((zMl f i) + 1))).2.2.2 + zAl 69 → V 143 [(10, .int ((8 * (τ.1 3 e)) + ((τ.1 9 i) * ((τ.1 3 (zNx n e)) - (τ.1 3 e))))), (9, .int ((8 * (τ.1 2 e)) + ((τ.1 9 i) * ((τ.1 2 (zNx n e)) - (τ.1 2 e))))), (8, .int ((τ.1 3 (zNx n e)) - (τ.1 3 e))), (7, .int ((τ.1 2 (zNx n e)) - (τ.1 2 e))), (6, .int (τ.1 9 i)), (5, .int (τ.1 8 i)), (0, .ref 10), (1, .ref 7), (2, .ref 1), (3, .int f), (4, .int (nI i))] (r.toList ++ []) σ')
        refine tadd_ok (zR_of hIt rfl rfl) (m := (zMl f i + 1)) rfl (hm1.2 h_112) (fun _ => ?_)
        refine zq (σ := (zuI (zuI (zuI (zuI (zuI (zuI (zuI (zuI τ 11 (zMl f i) (((-16) * ((τ.1 3 (zNx n e)) - (τ.1 3 e))) + (f * ((τ.1 2 (zNx n e)) - (τ.1 2 e))))) 12 (zMl f i) ((16 * ((τ.1 2 (zNx n e)) - (τ.1 2 e))) + (f * ((τ.1 3 (zNx n e)) - (τ.1 3 e))))) 13 (zMl f i) (((8 * (τ.1 2 e)) + ((τ.1 9 i) * ((τ.1 2 (zNx n e)) - (τ.1 2 e)))) * ((16 * ((τ.1 2 (zNx n e)) - (τ.1 2 e))) + (f * ((τ.1 3 (zNx n e)) - (τ.1 3 e)))) - ((8 * (τ.1 3 e)) + ((τ.1 9 i) * ((τ.1 3 (zNx n e)) - (τ.1 3 e)))) * (((-16) * ((τ.1 3 (zNx n e)) - (τ.1 3 e))) + (f * ((τ.1 2 (zNx n e)) - (τ.1 2 e)))))) 10 3 (nI ((zMl f i) + 1))) 11 (zMl f i + 1) (((-16) * ((τ.1 3 (zNx n e)) - (τ.1 3 e))) - (f * ((τ.1 2 (zNx n e)) - (τ.1 2 e))))) 12 (zMl f i + 1) ((16 * ((τ.1 2 (zNx n e)) - (τ.1 2 e))) - (f * ((τ.1 3 (zNx n e)) - (τ.1 3 e))))) 13 (zMl f i + 1) (((8 * (τ.1 2 e)) + ((τ.1 9 i) * ((τ.1 2 (zNx n e)) - (τ.1 2 e)))) * ((16 * ((τ.1 2 (zNx n e)) - (τ.1 2 e))) - (f * ((τ.1 3 (zNx n e)) - (τ.1 3 e)))) - ((8 * (τ.1 3 e)) + ((τ.1 9 i) * ((τ.1 3 (zNx n e)) - (τ.1 3 e)))) * (((-16) * ((τ.1 3 (zNx n e)) - (τ.1 3 e))) - (f * ((τ.1 2 (zNx n e)) - (τ.1 2 e)))))) 10 3 (nI ((zMl f i + 1) + 1)))) hV hIt hnt 2 ?_
        show V 8 [(4, .int ((nI i) + 1)), (10, .int ((8 * (τ.1 3 e)) + ((τ.1 9 i) * ((τ.1 3 (zNx n e)) - (τ.1 3 e))))), (9, .int ((8 * (τ.1 2 e)) + ((τ.1 9 i) * ((τ.1 2 (zNx n e)) - (τ.1 2 e))))), (8, .int ((τ.1 3 (zNx n e)) - (τ.1 3 e))), (7, .int ((τ.1 2 (zNx n e)) - (τ.1 2 e))), (6, .int (τ.1 9 i)), (5, .int (τ.1 8 i)), (0, .ref 10), (1, .ref 7), (2, .ref 1), (3, .int f)] [] (zuI (zuI (zuI (zuI (zuI (zuI (zuI (zuI τ 11 (zMl f i) (((-16) * ((τ.1 3 (zNx n e)) - (τ.1 3 e))) + (f * ((τ.1 2 (zNx n e)) - (τ.1 2 e))))) 12 (zMl f i) ((16 * ((τ.1 2 (zNx n e)) - (τ.1 2 e))) + (f * ((τ.1 3 (zNx n e)) - (τ.1 3 e))))) 13 (zMl f i) (((8 * (τ.1 2 e)) + ((τ.1 9 i) * ((τ.1 2 (zNx n e)) - (τ.1 2 e)))) * ((16 * ((τ.1 2 (zNx n e)) - (τ.1 2 e))) + (f * ((τ.1 3 (zNx n e)) - (τ.1 3 e)))) - ((8 * (τ.1 3 e)) + ((τ.1 9 i) * ((τ.1 3 (zNx n e)) - (τ.1 3 e)))) * (((-16) * ((τ.1 3 (zNx n e)) - (τ.1 3 e))) + (f * ((τ.1 2 (zNx n e)) - (τ.1 2 e)))))) 10 3 (nI ((zMl f i) + 1))) 11 (zMl f i + 1) (((-16) * ((τ.1 3 (zNx n e)) - (τ.1 3 e))) - (f * ((τ.1 2 (zNx n e)) - (τ.1 2 e))))) 12 (zMl f i + 1) ((16 * ((τ.1 2 (zNx n e)) - (τ.1 2 e))) - (f * ((τ.1 3 (zNx n e)) - (τ.1 3 e))))) 13 (zMl f i + 1) (((8 * (τ.1 2 e)) + ((τ.1 9 i) * ((τ.1 2 (zNx n e)) - (τ.1 2 e)))) * ((16 * ((τ.1 2 (zNx n e)) - (τ.1 2 e))) - (f * ((τ.1 3 (zNx n e)) - (τ.1 3 e)))) - ((8 * (τ.1 3 e)) + ((τ.1 9 i) * ((τ.1 3 (zNx n e)) - (τ.1 3 e)))) * (((-16) * ((τ.1 3 (zNx n e)) - (τ.1 3 e))) - (f * ((τ.1 2 (zNx n e)) - (τ.1 2 e)))))) 10 3 (nI ((zMl f i + 1) + 1)))
        refine zwk hV [7, 8, 9, 10, 0] rfl ?_
        rw [nI_1]
        refine ih (i + 1) _ (by omega) ((((((((ht.uI rfl).uI rfl).uI rfl).uI rfl).uI rfl).uI rfl).uI rfl).uI rfl) ?_ (fun t q => ?_)
        · show nI (zMl f i + 1 + 1) = _
          rw [zMl_1 h_112, zMl_1 h_112]; rfl
        · rw [zMl_1 h_112] at q
          have hs3 := @zT_1 n (σ.1 2) (σ.1 3) f (σ.1 8) (σ.1 9) i e h_112 hZ
          simp only [zuI_get, zMl_1 h_112, hX, hY, hSt]
          by_cases hti : t = 2 * i
          · subst hti; simp [hs3.1.1, hs3.1.2.1, hs3.1.2.2]
          · by_cases hti2 : t = 2 * i + 1
            · subst hti2; simp [hs3.2.1, hs3.2.2.1, hs3.2.2.2]
            · have := hj t (by rw [zMl_1 h_112]; omega); simp [hti, hti2, this.1, this.2.1, this.2.2]
  refine H m 0 _ (by omega) (zOnly.rf.uI rfl) ?_ (fun t q => absurd q (by unfold zMl; split <;> omega))
  show nI 0 = _
  unfold zMl; split <;> rfl
def zPr (A B C : Nat → Int64) (c1 c2 c3 : Int64) (t : Nat) : Int64 := c1 * A t + c2 * B t + c3 * C t
def zBl (A B C : Nat → Int64) (c1 c2 c3 : Int64) : Nat → Bool
  | 0 => false
  | t + 1 => zBl A B C c1 c2 c3 t || decide (zPr A B C c1 c2 c3 t < 0)
def zAb (A B C : Nat → Int64) (c1 c2 c3 : Int64) : Nat → Bool
  | 0 => false
  | t + 1 => zAb A B C c1 c2 c3 t || decide (0 < zPr A B C c1 c2 c3 t)
theorem zBl_mono {A B C : Nat → Int64} {c1 c2 c3 : Int64} {t m : Nat} (h : zBl A B C c1 c2 c3 t = true) (hm : t ≤ m) : zBl A B C c1 c2 c3 m = true := by
  induction m with
  | zero => rw [← Nat.le_zero.mp hm]; exact h
  | succ m ih =>
    by_cases q : t = m + 1
    · rw [← q]; exact h
    · rw [zBl, ih (by omega)]; rfl
theorem zAb_mono {A B C : Nat → Int64} {c1 c2 c3 : Int64} {t m : Nat} (h : zAb A B C c1 c2 c3 t = true) (hm : t ≤ m) : zAb A B C c1 c2 c3 m = true := by
  induction m with
  | zero => rw [← Nat.le_zero.mp hm]; exact h
  | succ m ih =>
    by_cases q : t = m + 1
    · rw [← q]; exact h
    · rw [zAb, ih (by omega)]; rfl
def zsg (b a : Bool) : Int32 := match b, a with
  | false, false => 0
  | true, false => 1
  | false, true => 2
  | true, true => 3
end
section
set_option maxRecDepth 8000 in
set_option maxHeartbeats 4000000 in
theorem signs_ok {d : Nat} {σ : zSt} {K : Option Value → zSt → Prop} {m : Nat} (hI : zQI (kR 10 14) σ.2.2) (hs : σ.1 10 3 = nI m) (hm : m ≤ 16) (hK : K (some (.int (zsg (zBl (zA11 σ) (zA12 σ) (zA13 σ) (σ.2.1 10 4) (σ.2.1 10 5) (σ.2.1 10 6) m) (zAb (zA11 σ) (zA12 σ) (zA13 σ) (σ.2.1 10 4) (σ.2.1 10 5) (σ.2.1 10 6) m)))) σ) : zSp (d + 2) mX7_signs [.ref 10] σ K := by
  refine ⟨⟨by decide, Nat.le_of_ble_eq_true rfl⟩, fun V hV => ?_⟩
  refine zq (σ := σ) hV hI rfl 4 ?_
  show V 4 [(2, .int 0), (1, .int 0), (0, .ref 10)] [] σ
  refine zwk hV [2, 1, 0] rfl ?_
  have H : ∀ (r t : Nat) (x : Int32), t + r = m → x = zsg (zBl (zA11 σ) (zA12 σ) (zA13 σ) (σ.2.1 10 4) (σ.2.1 10 5) (σ.2.1 10 6) t) (zAb (zA11 σ) (zA12 σ) (zA13 σ) (σ.2.1 10 4) (σ.2.1 10 5) (σ.2.1 10 6) t) → V 4 [(0, .ref 10), (1, .int x), (2, .int (nI t))] [] σ := by
    intro r
    induction r with
    | zero =>
      intro t x htm hx
      obtain rfl : t = m := by omega
      refine zq (σ := σ) hV hI rfl 4 ?_
      show ((σ.1 10 3) ≤ (nI t) → V 91 [(0, .ref 10), (1, .int x), (2, .int (nI t))] [] σ) ∧ (¬ (σ.1 10 3) ≤ (nI t) → V 12 [(0, .ref 10), (1, .int x), (2, .int (nI t))] [] σ)
      refine ⟨fun _ => ?_, fun hc => absurd (show σ.1 10 3 ≤ nI t by rw [hs]; exact Int32.le_refl _) hc⟩
      refine zq (σ := σ) hV hI rfl 2 ?_
      show K (some (.int x)) σ
      subst hx
      exact hK
    | succ r ih =>
      intro t x htm hx
      cases hb : zBl (zA11 σ) (zA12 σ) (zA13 σ) (σ.2.1 10 4) (σ.2.1 10 5) (σ.2.1 10 6) t <;> cases ha : zAb (zA11 σ) (zA12 σ) (zA13 σ) (σ.2.1 10 4) (σ.2.1 10 5) (σ.2.1 10 6) t
      · skip
        rw [hb, ha] at hx
        replace hx : x = 0 := hx
        subst hx
        refine zq (σ := σ) hV hI rfl 4 ?_
        show ((σ.1 10 3) ≤ (nI t) → V 91 [(0, .ref 10), (1, .int 0), (2, .int (nI t))] [] σ) ∧ (¬ (σ.1 10 3) ≤ (nI t) → V 12 [(0, .ref 10), (1, .int 0), (2, .int (nI t))] [] σ)
        refine ⟨fun hc => absurd hc (show ¬ σ.1 10 3 ≤ nI t by rw [hs]; exact nI_ge (by omega) (by omega)), fun _ => ?_⟩
        refine zq (σ := σ) hV hI rfl 3 ?_
        show ((0 : Int32) = 3 → V 91 [(0, .ref 10), (1, .int 0), (2, .int (nI t))] [] σ) ∧ (¬ (0 : Int32) = 3 → V 17 [(0, .ref 10), (1, .int 0), (2, .int (nI t))] [] σ)
        refine ⟨fun hc => absurd hc (by decide), fun _ => ?_⟩
        refine zq (σ := σ) hV hI rfl 6 ?_
        show zSp _ 128 [.ref 11, .int (nI t)] σ (fun r σ' => σ'.2.2.2 = σ.2.2.2 + zAl 128 → V 29 [(0, .ref 10), (1, .int 0), (2, .int (nI t))] (r.toList ++ [.long (σ.2.1 10 4)]) σ')
        refine item_11 (zA_of hI rfl) rfl (by omega) (fun _ => ?_)
        refine zq (σ := σ) hV hI rfl 8 ?_
        show zSp _ 128 [.ref 12, .int (nI t)] σ (fun r σ' => σ'.2.2.2 = σ.2.2.2 + zAl 128 → V 43 [(0, .ref 10), (1, .int 0), (2, .int (nI t))] (r.toList ++ [.long (σ.2.1 10 5), .long ((σ.2.1 10 4) * (Int32.toInt64 (σ.1 11 t)))]) σ')
        refine item_12 (zA_of hI rfl) rfl (by omega) (fun _ => ?_)
        refine zq (σ := σ) hV hI rfl 9 ?_
        show zSp _ 128 [.ref 13, .int (nI t)] σ (fun r σ' => σ'.2.2.2 = σ.2.2.2 + zAl 128 → V 58 [(0, .ref 10), (1, .int 0), (2, .int (nI t))] (r.toList ++ [.long (σ.2.1 10 6), .long (((σ.2.1 10 4) * (Int32.toInt64 (σ.1 11 t))) + ((σ.2.1 10 5) * (Int32.toInt64 (σ.1 12 t))))]) σ')
        refine item_13 (zA_of hI rfl) rfl (by omega) (fun _ => ?_)
        refine zq (σ := σ) hV hI rfl 8 ?_
        show (0 ≤ (lg_cmp ((((σ.2.1 10 4) * (Int32.toInt64 (σ.1 11 t))) + ((σ.2.1 10 5) * (Int32.toInt64 (σ.1 12 t)))) + ((σ.2.1 10 6) * (Int32.toInt64 (σ.1 13 t)))) 0) → V 75 [(3, .long ((((σ.2.1 10 4) * (Int32.toInt64 (σ.1 11 t))) + ((σ.2.1 10 5) * (Int32.toInt64 (σ.1 12 t)))) + ((σ.2.1 10 6) * (Int32.toInt64 (σ.1 13 t))))), (0, .ref 10), (1, .int 0), (2, .int (nI t))] [] σ) ∧ (¬ 0 ≤ (lg_cmp ((((σ.2.1 10 4) * (Int32.toInt64 (σ.1 11 t))) + ((σ.2.1 10 5) * (Int32.toInt64 (σ.1 12 t)))) + ((σ.2.1 10 6) * (Int32.toInt64 (σ.1 13 t)))) 0) → V 68 [(3, .long ((((σ.2.1 10 4) * (Int32.toInt64 (σ.1 11 t))) + ((σ.2.1 10 5) * (Int32.toInt64 (σ.1 12 t)))) + ((σ.2.1 10 6) * (Int32.toInt64 (σ.1 13 t))))), (0, .ref 10), (1, .int 0), (2, .int (nI t))] [] σ)
        refine ⟨fun h_65 => ?_, fun h_65 => ?_⟩
        · skip
          refine zq (σ := σ) hV hI rfl 4 ?_
          show ((lg_cmp ((((σ.2.1 10 4) * (Int32.toInt64 (σ.1 11 t))) + ((σ.2.1 10 5) * (Int32.toInt64 (σ.1 12 t)))) + ((σ.2.1 10 6) * (Int32.toInt64 (σ.1 13 t)))) 0) ≤ 0 → V 85 [(3, .long ((((σ.2.1 10 4) * (Int32.toInt64 (σ.1 11 t))) + ((σ.2.1 10 5) * (Int32.toInt64 (σ.1 12 t)))) + ((σ.2.1 10 6) * (Int32.toInt64 (σ.1 13 t))))), (0, .ref 10), (1, .int 0), (2, .int (nI t))] [] σ) ∧ (¬ (lg_cmp ((((σ.2.1 10 4) * (Int32.toInt64 (σ.1 11 t))) + ((σ.2.1 10 5) * (Int32.toInt64 (σ.1 12 t)))) + ((σ.2.1 10 6) * (Int32.toInt64 (σ.1 13 t)))) 0) ≤ 0 → V 81 [(3, .long ((((σ.2.1 10 4) * (Int32.toInt64 (σ.1 11 t))) + ((σ.2.1 10 5) * (Int32.toInt64 (σ.1 12 t)))) + ((σ.2.1 10 6) * (Int32.toInt64 (σ.1 13 t))))), (0, .ref 10), (1, .int 0), (2, .int (nI t))] [] σ)
          refine ⟨fun h_78 => ?_, fun h_78 => ?_⟩
          · skip
            refine zq (σ := σ) hV hI rfl 2 ?_
            show V 4 [(2, .int ((nI t) + 1)), (3, .long ((((σ.2.1 10 4) * (Int32.toInt64 (σ.1 11 t))) + ((σ.2.1 10 5) * (Int32.toInt64 (σ.1 12 t)))) + ((σ.2.1 10 6) * (Int32.toInt64 (σ.1 13 t))))), (0, .ref 10), (1, .int 0)] [] σ
            refine zwk hV [2, 3, 0] rfl ?_
            rw [nI_1]
            refine ih (t + 1) _ (by omega) ?_
            have hp : 0 ≤ zPr (zA11 σ) (zA12 σ) (zA13 σ) (σ.2.1 10 4) (σ.2.1 10 5) (σ.2.1 10 6) t ∧ zPr (zA11 σ) (zA12 σ) (zA13 σ) (σ.2.1 10 4) (σ.2.1 10 5) (σ.2.1 10 6) t ≤ 0 := ⟨zcmp_ge.mp h_65, zcmp_le.mp h_78⟩
            have d1 : decide (zPr (zA11 σ) (zA12 σ) (zA13 σ) (σ.2.1 10 4) (σ.2.1 10 5) (σ.2.1 10 6) t < 0) = false := by refine decide_eq_false ?_; simp only [zlt64, zle64] at hp ⊢; omega
            have d2 : decide (0 < zPr (zA11 σ) (zA12 σ) (zA13 σ) (σ.2.1 10 4) (σ.2.1 10 5) (σ.2.1 10 6) t) = false := by refine decide_eq_false ?_; simp only [zlt64, zle64] at hp ⊢; omega
            rw [zBl, zAb, hb, ha, d1, d2]
            decide
          · skip
            refine zq (σ := σ) hV hI rfl 6 ?_
            show V 4 [(2, .int ((nI t) + 1)), (1, .int (0 ||| 2)), (3, .long ((((σ.2.1 10 4) * (Int32.toInt64 (σ.1 11 t))) + ((σ.2.1 10 5) * (Int32.toInt64 (σ.1 12 t)))) + ((σ.2.1 10 6) * (Int32.toInt64 (σ.1 13 t))))), (0, .ref 10)] [] σ
            refine zwk hV [3, 1, 0] rfl ?_
            rw [nI_1]
            refine ih (t + 1) _ (by omega) ?_
            have hp : 0 < zPr (zA11 σ) (zA12 σ) (zA13 σ) (σ.2.1 10 4) (σ.2.1 10 5) (σ.2.1 10 6) t := Int64.not_le.mp (fun q => h_78 (zcmp_le.mpr q))
            have d1 : decide (zPr (zA11 σ) (zA12 σ) (zA13 σ) (σ.2.1 10 4) (σ.2.1 10 5) (σ.2.1 10 6) t < 0) = false := by refine decide_eq_false ?_; simp only [zlt64, zle64] at hp ⊢; omega
            have d2 : decide (0 < zPr (zA11 σ) (zA12 σ) (zA13 σ) (σ.2.1 10 4) (σ.2.1 10 5) (σ.2.1 10 6) t) = true := by refine decide_eq_true ?_; simp only [zlt64, zle64] at hp ⊢; omega
            rw [zBl, zAb, hb, ha, d1, d2]
            decide
        · skip
          refine zq (σ := σ) hV hI rfl 7 ?_
          show V 4 [(2, .int ((nI t) + 1)), (1, .int (0 ||| 1)), (3, .long ((((σ.2.1 10 4) * (Int32.toInt64 (σ.1 11 t))) + ((σ.2.1 10 5) * (Int32.toInt64 (σ.1 12 t)))) + ((σ.2.1 10 6) * (Int32.toInt64 (σ.1 13 t))))), (0, .ref 10)] [] σ
          refine zwk hV [3, 1, 0] rfl ?_
          rw [nI_1]
          refine ih (t + 1) _ (by omega) ?_
          have hp : zPr (zA11 σ) (zA12 σ) (zA13 σ) (σ.2.1 10 4) (σ.2.1 10 5) (σ.2.1 10 6) t < 0 := Int64.not_le.mp (fun q => h_65 (zcmp_ge.mpr q))
          have d1 : decide (zPr (zA11 σ) (zA12 σ) (zA13 σ) (σ.2.1 10 4) (σ.2.1 10 5) (σ.2.1 10 6) t < 0) = true := by refine decide_eq_true ?_; simp only [zlt64, zle64] at hp ⊢; omega
          have d2 : decide (0 < zPr (zA11 σ) (zA12 σ) (zA13 σ) (σ.2.1 10 4) (σ.2.1 10 5) (σ.2.1 10 6) t) = false := by refine decide_eq_false ?_; simp only [zlt64, zle64] at hp ⊢; omega
          rw [zBl, zAb, hb, ha, d1, d2]
          decide
      · skip
        rw [hb, ha] at hx
        replace hx : x = 2 := hx
        subst hx
        refine zq (σ := σ) hV hI rfl 4 ?_
        show ((σ.1 10 3) ≤ (nI t) → V 91 [(0, .ref 10), (1, .int 2), (2, .int (nI t))] [] σ) ∧ (¬ (σ.1 10 3) ≤ (nI t) → V 12 [(0, .ref 10), (1, .int 2), (2, .int (nI t))] [] σ)
        refine ⟨fun hc => absurd hc (show ¬ σ.1 10 3 ≤ nI t by rw [hs]; exact nI_ge (by omega) (by omega)), fun _ => ?_⟩
        refine zq (σ := σ) hV hI rfl 3 ?_
        show ((2 : Int32) = 3 → V 91 [(0, .ref 10), (1, .int 2), (2, .int (nI t))] [] σ) ∧ (¬ (2 : Int32) = 3 → V 17 [(0, .ref 10), (1, .int 2), (2, .int (nI t))] [] σ)
        refine ⟨fun hc => absurd hc (by decide), fun _ => ?_⟩
        refine zq (σ := σ) hV hI rfl 6 ?_
        show zSp _ 128 [.ref 11, .int (nI t)] σ (fun r σ' => σ'.2.2.2 = σ.2.2.2 + zAl 128 → V 29 [(0, .ref 10), (1, .int 2), (2, .int (nI t))] (r.toList ++ [.long (σ.2.1 10 4)]) σ')
        refine item_11 (zA_of hI rfl) rfl (by omega) (fun _ => ?_)
        refine zq (σ := σ) hV hI rfl 8 ?_
        show zSp _ 128 [.ref 12, .int (nI t)] σ (fun r σ' => σ'.2.2.2 = σ.2.2.2 + zAl 128 → V 43 [(0, .ref 10), (1, .int 2), (2, .int (nI t))] (r.toList ++ [.long (σ.2.1 10 5), .long ((σ.2.1 10 4) * (Int32.toInt64 (σ.1 11 t)))]) σ')
        refine item_12 (zA_of hI rfl) rfl (by omega) (fun _ => ?_)
        refine zq (σ := σ) hV hI rfl 9 ?_
        show zSp _ 128 [.ref 13, .int (nI t)] σ (fun r σ' => σ'.2.2.2 = σ.2.2.2 + zAl 128 → V 58 [(0, .ref 10), (1, .int 2), (2, .int (nI t))] (r.toList ++ [.long (σ.2.1 10 6), .long (((σ.2.1 10 4) * (Int32.toInt64 (σ.1 11 t))) + ((σ.2.1 10 5) * (Int32.toInt64 (σ.1 12 t))))]) σ')
        refine item_13 (zA_of hI rfl) rfl (by omega) (fun _ => ?_)
        refine zq (σ := σ) hV hI rfl 8 ?_
        show (0 ≤ (lg_cmp ((((σ.2.1 10 4) * (Int32.toInt64 (σ.1 11 t))) + ((σ.2.1 10 5) * (Int32.toInt64 (σ.1 12 t)))) + ((σ.2.1 10 6) * (Int32.toInt64 (σ.1 13 t)))) 0) → V 75 [(3, .long ((((σ.2.1 10 4) * (Int32.toInt64 (σ.1 11 t))) + ((σ.2.1 10 5) * (Int32.toInt64 (σ.1 12 t)))) + ((σ.2.1 10 6) * (Int32.toInt64 (σ.1 13 t))))), (0, .ref 10), (1, .int 2), (2, .int (nI t))] [] σ) ∧ (¬ 0 ≤ (lg_cmp ((((σ.2.1 10 4) * (Int32.toInt64 (σ.1 11 t))) + ((σ.2.1 10 5) * (Int32.toInt64 (σ.1 12 t)))) + ((σ.2.1 10 6) * (Int32.toInt64 (σ.1 13 t)))) 0) → V 68 [(3, .long ((((σ.2.1 10 4) * (Int32.toInt64 (σ.1 11 t))) + ((σ.2.1 10 5) * (Int32.toInt64 (σ.1 12 t)))) + ((σ.2.1 10 6) * (Int32.toInt64 (σ.1 13 t))))), (0, .ref 10), (1, .int 2), (2, .int (nI t))] [] σ)
        refine ⟨fun h_65 => ?_, fun h_65 => ?_⟩
        · skip
          refine zq (σ := σ) hV hI rfl 4 ?_
          show ((lg_cmp ((((σ.2.1 10 4) * (Int32.toInt64 (σ.1 11 t))) + ((σ.2.1 10 5) * (Int32.toInt64 (σ.1 12 t)))) + ((σ.2.1 10 6) * (Int32.toInt64 (σ.1 13 t)))) 0) ≤ 0 → V 85 [(3, .long ((((σ.2.1 10 4) * (Int32.toInt64 (σ.1 11 t))) + ((σ.2.1 10 5) * (Int32.toInt64 (σ.1 12 t)))) + ((σ.2.1 10 6) * (Int32.toInt64 (σ.1 13 t))))), (0, .ref 10), (1, .int 2), (2, .int (nI t))] [] σ) ∧ (¬ (lg_cmp ((((σ.2.1 10 4) * (Int32.toInt64 (σ.1 11 t))) + ((σ.2.1 10 5) * (Int32.toInt64 (σ.1 12 t)))) + ((σ.2.1 10 6) * (Int32.toInt64 (σ.1 13 t)))) 0) ≤ 0 → V 81 [(3, .long ((((σ.2.1 10 4) * (Int32.toInt64 (σ.1 11 t))) + ((σ.2.1 10 5) * (Int32.toInt64 (σ.1 12 t)))) + ((σ.2.1 10 6) * (Int32.toInt64 (σ.1 13 t))))), (0, .ref 10), (1, .int 2), (2, .int (nI t))] [] σ)
          refine ⟨fun h_78 => ?_, fun h_78 => ?_⟩
          · skip
            refine zq (σ := σ) hV hI rfl 2 ?_
            show V 4 [(2, .int ((nI t) + 1)), (3, .long ((((σ.2.1 10 4) * (Int32.toInt64 (σ.1 11 t))) + ((σ.2.1 10 5) * (Int32.toInt64 (σ.1 12 t)))) + ((σ.2.1 10 6) * (Int32.toInt64 (σ.1 13 t))))), (0, .ref 10), (1, .int 2)] [] σ
            refine zwk hV [2, 3, 0] rfl ?_
            rw [nI_1]
            refine ih (t + 1) _ (by omega) ?_
            have hp : 0 ≤ zPr (zA11 σ) (zA12 σ) (zA13 σ) (σ.2.1 10 4) (σ.2.1 10 5) (σ.2.1 10 6) t ∧ zPr (zA11 σ) (zA12 σ) (zA13 σ) (σ.2.1 10 4) (σ.2.1 10 5) (σ.2.1 10 6) t ≤ 0 := ⟨zcmp_ge.mp h_65, zcmp_le.mp h_78⟩
            have d1 : decide (zPr (zA11 σ) (zA12 σ) (zA13 σ) (σ.2.1 10 4) (σ.2.1 10 5) (σ.2.1 10 6) t < 0) = false := by refine decide_eq_false ?_; simp only [zlt64, zle64] at hp ⊢; omega
            have d2 : decide (0 < zPr (zA11 σ) (zA12 σ) (zA13 σ) (σ.2.1 10 4) (σ.2.1 10 5) (σ.2.1 10 6) t) = false := by refine decide_eq_false ?_; simp only [zlt64, zle64] at hp ⊢; omega
            rw [zBl, zAb, hb, ha, d1, d2]
            decide
          · skip
            refine zq (σ := σ) hV hI rfl 6 ?_
            show V 4 [(2, .int ((nI t) + 1)), (1, .int (2 ||| 2)), (3, .long ((((σ.2.1 10 4) * (Int32.toInt64 (σ.1 11 t))) + ((σ.2.1 10 5) * (Int32.toInt64 (σ.1 12 t)))) + ((σ.2.1 10 6) * (Int32.toInt64 (σ.1 13 t))))), (0, .ref 10)] [] σ
            refine zwk hV [3, 1, 0] rfl ?_
            rw [nI_1]
            refine ih (t + 1) _ (by omega) ?_
            have hp : 0 < zPr (zA11 σ) (zA12 σ) (zA13 σ) (σ.2.1 10 4) (σ.2.1 10 5) (σ.2.1 10 6) t := Int64.not_le.mp (fun q => h_78 (zcmp_le.mpr q))
            have d1 : decide (zPr (zA11 σ) (zA12 σ) (zA13 σ) (σ.2.1 10 4) (σ.2.1 10 5) (σ.2.1 10 6) t < 0) = false := by refine decide_eq_false ?_; simp only [zlt64, zle64] at hp ⊢; omega
            have d2 : decide (0 < zPr (zA11 σ) (zA12 σ) (zA13 σ) (σ.2.1 10 4) (σ.2.1 10 5) (σ.2.1 10 6) t) = true := by refine decide_eq_true ?_; simp only [zlt64, zle64] at hp ⊢; omega
            rw [zBl, zAb, hb, ha, d1, d2]
            decide
        · skip
          refine zq (σ := σ) hV hI rfl 7 ?_
          show V 4 [(2, .int ((nI t) + 1)), (1, .int (2 ||| 1)), (3, .long ((((σ.2.1 10 4) * (Int32.toInt64 (σ.1 11 t))) + ((σ.2.1 10 5) * (Int32.toInt64 (σ.1 12 t)))) + ((σ.2.1 10 6) * (Int32.toInt64 (σ.1 13 t))))), (0, .ref 10)] [] σ
          refine zwk hV [3, 1, 0] rfl ?_
          rw [nI_1]
          refine ih (t + 1) _ (by omega) ?_
          have hp : zPr (zA11 σ) (zA12 σ) (zA13 σ) (σ.2.1 10 4) (σ.2.1 10 5) (σ.2.1 10 6) t < 0 := Int64.not_le.mp (fun q => h_65 (zcmp_ge.mpr q))
          have d1 : decide (zPr (zA11 σ) (zA12 σ) (zA13 σ) (σ.2.1 10 4) (σ.2.1 10 5) (σ.2.1 10 6) t < 0) = true := by refine decide_eq_true ?_; simp only [zlt64, zle64] at hp ⊢; omega
          have d2 : decide (0 < zPr (zA11 σ) (zA12 σ) (zA13 σ) (σ.2.1 10 4) (σ.2.1 10 5) (σ.2.1 10 6) t) = false := by refine decide_eq_false ?_; simp only [zlt64, zle64] at hp ⊢; omega
          rw [zBl, zAb, hb, ha, d1, d2]
          decide
      · skip
        rw [hb, ha] at hx
        replace hx : x = 1 := hx
        subst hx
        refine zq (σ := σ) hV hI rfl 4 ?_
        show ((σ.1 10 3) ≤ (nI t) → V 91 [(0, .ref 10), (1, .int 1), (2, .int (nI t))] [] σ) ∧ (¬ (σ.1 10 3) ≤ (nI t) → V 12 [(0, .ref 10), (1, .int 1), (2, .int (nI t))] [] σ)
        refine ⟨fun hc => absurd hc (show ¬ σ.1 10 3 ≤ nI t by rw [hs]; exact nI_ge (by omega) (by omega)), fun _ => ?_⟩
        refine zq (σ := σ) hV hI rfl 3 ?_
        show ((1 : Int32) = 3 → V 91 [(0, .ref 10), (1, .int 1), (2, .int (nI t))] [] σ) ∧ (¬ (1 : Int32) = 3 → V 17 [(0, .ref 10), (1, .int 1), (2, .int (nI t))] [] σ)
        refine ⟨fun hc => absurd hc (by decide), fun _ => ?_⟩
        refine zq (σ := σ) hV hI rfl 6 ?_
        show zSp _ 128 [.ref 11, .int (nI t)] σ (fun r σ' => σ'.2.2.2 = σ.2.2.2 + zAl 128 → V 29 [(0, .ref 10), (1, .int 1), (2, .int (nI t))] (r.toList ++ [.long (σ.2.1 10 4)]) σ')
        refine item_11 (zA_of hI rfl) rfl (by omega) (fun _ => ?_)
        refine zq (σ := σ) hV hI rfl 8 ?_
        show zSp _ 128 [.ref 12, .int (nI t)] σ (fun r σ' => σ'.2.2.2 = σ.2.2.2 + zAl 128 → V 43 [(0, .ref 10), (1, .int 1), (2, .int (nI t))] (r.toList ++ [.long (σ.2.1 10 5), .long ((σ.2.1 10 4) * (Int32.toInt64 (σ.1 11 t)))]) σ')
        refine item_12 (zA_of hI rfl) rfl (by omega) (fun _ => ?_)
        refine zq (σ := σ) hV hI rfl 9 ?_
        show zSp _ 128 [.ref 13, .int (nI t)] σ (fun r σ' => σ'.2.2.2 = σ.2.2.2 + zAl 128 → V 58 [(0, .ref 10), (1, .int 1), (2, .int (nI t))] (r.toList ++ [.long (σ.2.1 10 6), .long (((σ.2.1 10 4) * (Int32.toInt64 (σ.1 11 t))) + ((σ.2.1 10 5) * (Int32.toInt64 (σ.1 12 t))))]) σ')
        refine item_13 (zA_of hI rfl) rfl (by omega) (fun _ => ?_)
        refine zq (σ := σ) hV hI rfl 8 ?_
        show (0 ≤ (lg_cmp ((((σ.2.1 10 4) * (Int32.toInt64 (σ.1 11 t))) + ((σ.2.1 10 5) * (Int32.toInt64 (σ.1 12 t)))) + ((σ.2.1 10 6) * (Int32.toInt64 (σ.1 13 t)))) 0) → V 75 [(3, .long ((((σ.2.1 10 4) * (Int32.toInt64 (σ.1 11 t))) + ((σ.2.1 10 5) * (Int32.toInt64 (σ.1 12 t)))) + ((σ.2.1 10 6) * (Int32.toInt64 (σ.1 13 t))))), (0, .ref 10), (1, .int 1), (2, .int (nI t))] [] σ) ∧ (¬ 0 ≤ (lg_cmp ((((σ.2.1 10 4) * (Int32.toInt64 (σ.1 11 t))) + ((σ.2.1 10 5) * (Int32.toInt64 (σ.1 12 t)))) + ((σ.2.1 10 6) * (Int32.toInt64 (σ.1 13 t)))) 0) → V 68 [(3, .long ((((σ.2.1 10 4) * (Int32.toInt64 (σ.1 11 t))) + ((σ.2.1 10 5) * (Int32.toInt64 (σ.1 12 t)))) + ((σ.2.1 10 6) * (Int32.toInt64 (σ.1 13 t))))), (0, .ref 10), (1, .int 1), (2, .int (nI t))] [] σ)
        refine ⟨fun h_65 => ?_, fun h_65 => ?_⟩
        · skip
          refine zq (σ := σ) hV hI rfl 4 ?_
          show ((lg_cmp ((((σ.2.1 10 4) * (Int32.toInt64 (σ.1 11 t))) + ((σ.2.1 10 5) * (Int32.toInt64 (σ.1 12 t)))) + ((σ.2.1 10 6) * (Int32.toInt64 (σ.1 13 t)))) 0) ≤ 0 → V 85 [(3, .long ((((σ.2.1 10 4) * (Int32.toInt64 (σ.1 11 t))) + ((σ.2.1 10 5) * (Int32.toInt64 (σ.1 12 t)))) + ((σ.2.1 10 6) * (Int32.toInt64 (σ.1 13 t))))), (0, .ref 10), (1, .int 1), (2, .int (nI t))] [] σ) ∧ (¬ (lg_cmp ((((σ.2.1 10 4) * (Int32.toInt64 (σ.1 11 t))) + ((σ.2.1 10 5) * (Int32.toInt64 (σ.1 12 t)))) + ((σ.2.1 10 6) * (Int32.toInt64 (σ.1 13 t)))) 0) ≤ 0 → V 81 [(3, .long ((((σ.2.1 10 4) * (Int32.toInt64 (σ.1 11 t))) + ((σ.2.1 10 5) * (Int32.toInt64 (σ.1 12 t)))) + ((σ.2.1 10 6) * (Int32.toInt64 (σ.1 13 t))))), (0, .ref 10), (1, .int 1), (2, .int (nI t))] [] σ)
          refine ⟨fun h_78 => ?_, fun h_78 => ?_⟩
          · skip
            refine zq (σ := σ) hV hI rfl 2 ?_
            show V 4 [(2, .int ((nI t) + 1)), (3, .long ((((σ.2.1 10 4) * (Int32.toInt64 (σ.1 11 t))) + ((σ.2.1 10 5) * (Int32.toInt64 (σ.1 12 t)))) + ((σ.2.1 10 6) * (Int32.toInt64 (σ.1 13 t))))), (0, .ref 10), (1, .int 1)] [] σ
            refine zwk hV [2, 3, 0] rfl ?_
            rw [nI_1]
            refine ih (t + 1) _ (by omega) ?_
            have hp : 0 ≤ zPr (zA11 σ) (zA12 σ) (zA13 σ) (σ.2.1 10 4) (σ.2.1 10 5) (σ.2.1 10 6) t ∧ zPr (zA11 σ) (zA12 σ) (zA13 σ) (σ.2.1 10 4) (σ.2.1 10 5) (σ.2.1 10 6) t ≤ 0 := ⟨zcmp_ge.mp h_65, zcmp_le.mp h_78⟩
            have d1 : decide (zPr (zA11 σ) (zA12 σ) (zA13 σ) (σ.2.1 10 4) (σ.2.1 10 5) (σ.2.1 10 6) t < 0) = false := by refine decide_eq_false ?_; simp only [zlt64, zle64] at hp ⊢; omega
            have d2 : decide (0 < zPr (zA11 σ) (zA12 σ) (zA13 σ) (σ.2.1 10 4) (σ.2.1 10 5) (σ.2.1 10 6) t) = false := by refine decide_eq_false ?_; simp only [zlt64, zle64] at hp ⊢; omega
            rw [zBl, zAb, hb, ha, d1, d2]
            decide
          · skip
            refine zq (σ := σ) hV hI rfl 6 ?_
            show V 4 [(2, .int ((nI t) + 1)), (1, .int (1 ||| 2)), (3, .long ((((σ.2.1 10 4) * (Int32.toInt64 (σ.1 11 t))) + ((σ.2.1 10 5) * (Int32.toInt64 (σ.1 12 t)))) + ((σ.2.1 10 6) * (Int32.toInt64 (σ.1 13 t))))), (0, .ref 10)] [] σ
            refine zwk hV [3, 1, 0] rfl ?_
            rw [nI_1]
            refine ih (t + 1) _ (by omega) ?_
            have hp : 0 < zPr (zA11 σ) (zA12 σ) (zA13 σ) (σ.2.1 10 4) (σ.2.1 10 5) (σ.2.1 10 6) t := Int64.not_le.mp (fun q => h_78 (zcmp_le.mpr q))
            have d1 : decide (zPr (zA11 σ) (zA12 σ) (zA13 σ) (σ.2.1 10 4) (σ.2.1 10 5) (σ.2.1 10 6) t < 0) = false := by refine decide_eq_false ?_; simp only [zlt64, zle64] at hp ⊢; omega
            have d2 : decide (0 < zPr (zA11 σ) (zA12 σ) (zA13 σ) (σ.2.1 10 4) (σ.2.1 10 5) (σ.2.1 10 6) t) = true := by refine decide_eq_true ?_; simp only [zlt64, zle64] at hp ⊢; omega
            rw [zBl, zAb, hb, ha, d1, d2]
            decide
        · skip
          refine zq (σ := σ) hV hI rfl 7 ?_
          show V 4 [(2, .int ((nI t) + 1)), (1, .int (1 ||| 1)), (3, .long ((((σ.2.1 10 4) * (Int32.toInt64 (σ.1 11 t))) + ((σ.2.1 10 5) * (Int32.toInt64 (σ.1 12 t)))) + ((σ.2.1 10 6) * (Int32.toInt64 (σ.1 13 t))))), (0, .ref 10)] [] σ
          refine zwk hV [3, 1, 0] rfl ?_
          rw [nI_1]
          refine ih (t + 1) _ (by omega) ?_
          have hp : zPr (zA11 σ) (zA12 σ) (zA13 σ) (σ.2.1 10 4) (σ.2.1 10 5) (σ.2.1 10 6) t < 0 := Int64.not_le.mp (fun q => h_65 (zcmp_ge.mpr q))
          have d1 : decide (zPr (zA11 σ) (zA12 σ) (zA13 σ) (σ.2.1 10 4) (σ.2.1 10 5) (σ.2.1 10 6) t < 0) = true := by refine decide_eq_true ?_; simp only [zlt64, zle64] at hp ⊢; omega
          have d2 : decide (0 < zPr (zA11 σ) (zA12 σ) (zA13 σ) (σ.2.1 10 4) (σ.2.1 10 5) (σ.2.1 10 6) t) = false := by refine decide_eq_false ?_; simp only [zlt64, zle64] at hp ⊢; omega
          rw [zBl, zAb, hb, ha, d1, d2]
          decide
      · skip
        rw [hb, ha] at hx
        replace hx : x = 3 := hx
        subst hx
        refine zq (σ := σ) hV hI rfl 4 ?_
        show ((σ.1 10 3) ≤ (nI t) → V 91 [(0, .ref 10), (1, .int 3), (2, .int (nI t))] [] σ) ∧ (¬ (σ.1 10 3) ≤ (nI t) → V 12 [(0, .ref 10), (1, .int 3), (2, .int (nI t))] [] σ)
        refine ⟨fun hc => absurd hc (show ¬ σ.1 10 3 ≤ nI t by rw [hs]; exact nI_ge (by omega) (by omega)), fun _ => ?_⟩
        refine zq (σ := σ) hV hI rfl 3 ?_
        show ((3 : Int32) = 3 → V 91 [(0, .ref 10), (1, .int 3), (2, .int (nI t))] [] σ) ∧ (¬ (3 : Int32) = 3 → V 17 [(0, .ref 10), (1, .int 3), (2, .int (nI t))] [] σ)
        refine ⟨fun _ => ?_, fun hc => absurd (by decide) hc⟩
        refine zq (σ := σ) hV hI rfl 2 ?_
        show K (some (.int 3)) σ
        rw [zBl_mono hb (m := m) (by omega), zAb_mono ha (m := m) (by omega)] at hK
        exact hK
  exact H m 0 0 (by omega) rfl
def zBe (A B C : Nat → Int64) (m u v : Nat) : Bool := zBl A B C (zX1 A B C u v) (zX2 A B C u v) (zX3 A B C u v) m
def zAe (A B C : Nat → Int64) (m u v : Nat) : Bool := zAb A B C (zX1 A B C u v) (zX2 A B C u v) (zX3 A B C u v) m
/-- a pair that has a cross product has triples on both its sides -/
def zGd (A B C : Nat → Int64) (m u v : Nat) : Prop := zNz A B C u v → zBe A B C m u v = true ∧ zAe A B C m u v = true
def zBf (u' v' u v : Nat) : Prop := u' < u ∨ (u' = u ∧ v' < v)
def zHold (A B C : Nat → Int64) (m : Nat) : Prop := (∃ u v, u < v ∧ v < m ∧ zNz A B C u v) ∧ ∀ u v, u < v → v < m → zGd A B C m u v
/-- the first pair whose cross product has not both sides -/
def zFst (A B C : Nat → Int64) (m u v : Nat) : Prop := (u < v ∧ v < m ∧ zNz A B C u v ∧ ¬ (zBe A B C m u v = true ∧ zAe A B C m u v = true)) ∧ ∀ u' v', u' < v' → v' < m → zBf u' v' u v → zGd A B C m u' v'
def zfJ (a j : Nat) : Bool := Nat.beq a 10 && Nat.ble 4 j
def zIv (A B C : Nat → Int64) (m u v : Nat) (x : Int32) : Prop := (∀ u' v', u' < v' → v' < m → zBf u' v' u v → zGd A B C m u' v') ∧
  ((x = 2 ∧ ∃ u' v', u' < v' ∧ v' < m ∧ zNz A B C u' v') ∨ (x = 0 ∧ ∀ u' v', u' < v' → v' < m → zBf u' v' u v → ¬ zNz A B C u' v'))
theorem zIv_next {A B C : Nat → Int64} {m u v : Nat} {x : Int32} (h : zIv A B C m u v x) (hn : ¬ zNz A B C u v) : zIv A B C m u (v + 1) x := by
  refine ⟨fun u' v' h1 h2 h3 => ?_, h.2.imp id (fun q => ⟨q.1, fun u' v' h1 h2 h3 => ?_⟩)⟩
  · by_cases e : u' = u ∧ v' = v
    · rw [e.1, e.2]; exact fun q => absurd q hn
    · exact h.1 u' v' h1 h2 (by unfold zBf at h3 ⊢; omega)
  · by_cases e : u' = u ∧ v' = v
    · rw [e.1, e.2]; exact hn
    · exact q.2 u' v' h1 h2 (by unfold zBf at h3 ⊢; omega)
theorem zIv_both {A B C : Nat → Int64} {m u v : Nat} {x : Int32} (h : zIv A B C m u v x) (hu : u < v) (hv : v < m) (hn : zNz A B C u v) (hb : zBe A B C m u v = true) (ha : zAe A B C m u v = true) : zIv A B C m u (v + 1) 2 := by
  refine ⟨fun u' v' h1 h2 h3 => ?_, Or.inl ⟨rfl, u, v, hu, hv, hn⟩⟩
  by_cases e : u' = u ∧ v' = v
  · rw [e.1, e.2]; exact fun _ => ⟨hb, ha⟩
  · exact h.1 u' v' h1 h2 (by unfold zBf at h3 ⊢; omega)
theorem zIv_row {A B C : Nat → Int64} {m u v : Nat} {x : Int32} (h : zIv A B C m u v x) (hv : m ≤ v) : zIv A B C m (u + 1) (u + 1 + 1) x := by
  refine ⟨fun u' v' h1 h2 h3 => h.1 u' v' h1 h2 (by unfold zBf at h3 ⊢; omega), h.2.imp id (fun q => ⟨q.1, fun u' v' h1 h2 h3 => q.2 u' v' h1 h2 (by unfold zBf at h3 ⊢; omega)⟩)⟩
theorem zIv_end {A B C : Nat → Int64} {m u v : Nat} {x : Int32} (h : zIv A B C m u v x) (hu : m ≤ u) : (x = 2 ∧ zHold A B C m) ∨ (x = 0 ∧ ∀ u' v', u' < v' → v' < m → ¬ zNz A B C u' v') := by
  have h1 : ∀ u' v', u' < v' → v' < m → zGd A B C m u' v' := fun u' v' q1 q2 => h.1 u' v' q1 q2 (Or.inl (by omega))
  rcases h.2 with ⟨q, q2⟩ | ⟨q, q2⟩
  · exact Or.inl ⟨q, q2, h1⟩
  · exact Or.inr ⟨q, fun u' v' q3 q4 => q2 u' v' q3 q4 (Or.inl (by omega))⟩
theorem zBf_0 (A B C : Nat → Int64) (m : Nat) : zIv A B C m 0 (0 + 1) 0 := ⟨fun u' v' h1 _ h3 => by unfold zBf at h3; omega, Or.inr ⟨rfl, fun u' v' h1 _ h3 => by unfold zBf at h3; omega⟩⟩
def zsn (b : Bool) (x : Int64) : Int64 := match b with
  | true => -x
  | false => x
set_option maxRecDepth 8000 in
set_option maxHeartbeats 4000000 in
theorem spread_ok {d : Nat} {σ : zSt} {K : Option Value → zSt → Prop} {m : Nat} (hI : zQI (kR 10 14) σ.2.2) (hs : σ.1 10 3 = nI m) (hm : m ≤ 16) (hW : ∀ τ, zOnly zfJ σ τ → zHold (zA11 σ) (zA12 σ) (zA13 σ) m → K (some (.int 2)) τ) (hF : ∀ τ, zOnly zfJ σ τ → (∀ u v, u < v → v < m → ¬ zNz (zA11 σ) (zA12 σ) (zA13 σ) u v) → K (some (.int 0)) τ)
    (hH : ∀ τ u v, zOnly zfJ σ τ → zFst (zA11 σ) (zA12 σ) (zA13 σ) m u v → τ.2.1 10 4 = zsn (zBe (zA11 σ) (zA12 σ) (zA13 σ) m u v) (zX1 (zA11 σ) (zA12 σ) (zA13 σ) u v) → τ.2.1 10 5 = zsn (zBe (zA11 σ) (zA12 σ) (zA13 σ) m u v) (zX2 (zA11 σ) (zA12 σ) (zA13 σ) u v) → τ.2.1 10 6 = zsn (zBe (zA11 σ) (zA12 σ) (zA13 σ) m u v) (zX3 (zA11 σ) (zA12 σ) (zA13 σ) u v) → K (some (.int (zb (zBe (zA11 σ) (zA12 σ) (zA13 σ) m u v || zAe (zA11 σ) (zA12 σ) (zA13 σ) m u v)))) τ) : zSp (d + 3) mX7_spread [.ref 10] σ K := by
  refine ⟨⟨by decide, Nat.le_of_ble_eq_true rfl⟩, fun V hV => ?_⟩
  refine zq (σ := σ) hV hI rfl 4 ?_
  show V 4 [(2, .int 0), (1, .int 0), (0, .ref 10)] [] σ
  refine zwk hV [2, 1, 0] rfl ?_
  have H : ∀ (r u : Nat) (x : Int32) (τ : zSt), u + r = m → zOnly zfJ σ τ → zIv (zA11 σ) (zA12 σ) (zA13 σ) m u (u + 1) x → V 4 [(0, .ref 10), (1, .int x), (2, .int (nI u))] [] τ := by
    intro r
    induction r with
    | zero =>
      intro u x τ hum ht hx
      have hIt := zQI_eq hI ht.2.2
      have hnt : τ.2.2.2 = σ.2.2.2 := congrArg Prod.snd ht.2.2
      have hst : τ.1 10 3 = nI m := (ht.1 10 3 rfl).trans hs
      have e1 : zA11 τ = zA11 σ := funext fun j => congrArg Int32.toInt64 (ht.1 11 j rfl)
      have e2 : zA12 τ = zA12 σ := funext fun j => congrArg Int32.toInt64 (ht.1 12 j rfl)
      have e3 : zA13 τ = zA13 σ := funext fun j => congrArg Int32.toInt64 (ht.1 13 j rfl)
      refine zq (σ := τ) hV hIt hnt 4 ?_
      show ((τ.1 10 3) ≤ (nI u) → V 76 [(0, .ref 10), (1, .int x), (2, .int (nI u))] [] τ) ∧ (¬ (τ.1 10 3) ≤ (nI u) → V 12 [(0, .ref 10), (1, .int x), (2, .int (nI u))] [] τ)
      refine ⟨fun _ => ?_, fun hc => absurd (show τ.1 10 3 ≤ nI u by rw [hst, show u = m by omega]; exact Int32.le_refl _) hc⟩
      refine zq (σ := τ) hV hIt hnt 2 ?_
      show K (some (.int x)) τ
      rcases zIv_end hx (by omega) with ⟨rfl, q⟩ | ⟨rfl, q⟩
      · exact hW τ ht q
      · exact hF τ ht q
    | succ r ih =>
      intro u x τ hum ht hx
      have hIt := zQI_eq hI ht.2.2
      have hnt : τ.2.2.2 = σ.2.2.2 := congrArg Prod.snd ht.2.2
      have hst : τ.1 10 3 = nI m := (ht.1 10 3 rfl).trans hs
      have e1 : zA11 τ = zA11 σ := funext fun j => congrArg Int32.toInt64 (ht.1 11 j rfl)
      have e2 : zA12 τ = zA12 σ := funext fun j => congrArg Int32.toInt64 (ht.1 12 j rfl)
      have e3 : zA13 τ = zA13 σ := funext fun j => congrArg Int32.toInt64 (ht.1 13 j rfl)
      refine zq (σ := τ) hV hIt hnt 4 ?_
      show ((τ.1 10 3) ≤ (nI u) → V 76 [(0, .ref 10), (1, .int x), (2, .int (nI u))] [] τ) ∧ (¬ (τ.1 10 3) ≤ (nI u) → V 12 [(0, .ref 10), (1, .int x), (2, .int (nI u))] [] τ)
      refine ⟨fun hc => absurd hc (show ¬ τ.1 10 3 ≤ nI u by rw [hst]; exact nI_ge (by omega) (by omega)), fun _ => ?_⟩
      refine zq (σ := τ) hV hIt hnt 4 ?_
      show V 16 [(3, .int ((nI u) + 1)), (0, .ref 10), (1, .int x), (2, .int (nI u))] [] τ
      refine zwk hV [1, 2, 3, 0] rfl ?_
      rw [nI_1]
      clear hIt hnt hst e1 e2 e3
      revert x τ
      have H2 : ∀ (k v : Nat) (x : Int32) (τ : zSt), v + k = m → u < v → zOnly zfJ σ τ → zIv (zA11 σ) (zA12 σ) (zA13 σ) m u v x → V 16 [(0, .ref 10), (1, .int x), (2, .int (nI u)), (3, .int (nI v))] [] τ := by
        intro k
        induction k with
        | zero =>
          intro v x τ hvm huv ht hx
          have hIt := zQI_eq hI ht.2.2
          have hnt : τ.2.2.2 = σ.2.2.2 := congrArg Prod.snd ht.2.2
          have hst : τ.1 10 3 = nI m := (ht.1 10 3 rfl).trans hs
          have e1 : zA11 τ = zA11 σ := funext fun j => congrArg Int32.toInt64 (ht.1 11 j rfl)
          have e2 : zA12 τ = zA12 σ := funext fun j => congrArg Int32.toInt64 (ht.1 12 j rfl)
          have e3 : zA13 τ = zA13 σ := funext fun j => congrArg Int32.toInt64 (ht.1 13 j rfl)
          refine zq (σ := τ) hV hIt hnt 4 ?_
          show ((τ.1 10 3) ≤ (nI v) → V 70 [(0, .ref 10), (1, .int x), (2, .int (nI u)), (3, .int (nI v))] [] τ) ∧ (¬ (τ.1 10 3) ≤ (nI v) → V 24 [(0, .ref 10), (1, .int x), (2, .int (nI u)), (3, .int (nI v))] [] τ)
          refine ⟨fun _ => ?_, fun hc => absurd (show τ.1 10 3 ≤ nI v by rw [hst, show v = m by omega]; exact Int32.le_refl _) hc⟩
          refine zq (σ := τ) hV hIt hnt 2 ?_
          show V 4 [(2, .int ((nI u) + 1)), (0, .ref 10), (1, .int x), (3, .int (nI v))] [] τ
          refine zwk hV [1, 2, 0] rfl ?_
          rw [nI_1]
          exact ih (u + 1) _ _ (by omega) ht (zIv_row hx (by omega))
        | succ k ih2 =>
          intro v x τ hvm huv ht hx
          have hIt := zQI_eq hI ht.2.2
          have hnt : τ.2.2.2 = σ.2.2.2 := congrArg Prod.snd ht.2.2
          have hst : τ.1 10 3 = nI m := (ht.1 10 3 rfl).trans hs
          have e1 : zA11 τ = zA11 σ := funext fun j => congrArg Int32.toInt64 (ht.1 11 j rfl)
          have e2 : zA12 τ = zA12 σ := funext fun j => congrArg Int32.toInt64 (ht.1 12 j rfl)
          have e3 : zA13 τ = zA13 σ := funext fun j => congrArg Int32.toInt64 (ht.1 13 j rfl)
          refine zq (σ := τ) hV hIt hnt 4 ?_
          show ((τ.1 10 3) ≤ (nI v) → V 70 [(0, .ref 10), (1, .int x), (2, .int (nI u)), (3, .int (nI v))] [] τ) ∧ (¬ (τ.1 10 3) ≤ (nI v) → V 24 [(0, .ref 10), (1, .int x), (2, .int (nI u)), (3, .int (nI v))] [] τ)
          refine ⟨fun hc => absurd hc (show ¬ τ.1 10 3 ≤ nI v by rw [hst]; exact nI_ge (by omega) (by omega)), fun _ => ?_⟩
          refine zq (σ := τ) hV hIt hnt 4 ?_
          show zSp _ 73 [.ref 10, .int (nI u), .int (nI v)] τ (fun r σ' => σ'.2.2.2 = τ.2.2.2 + zAl 73 → V 30 [(0, .ref 10), (1, .int x), (2, .int (nI u)), (3, .int (nI v))] (r.toList ++ []) σ')
          refine cross_ok (zR_of hIt rfl rfl) (u := u) rfl (by omega) (v := v) rfl (by omega) (fun hz _ => ?_) (fun hz _ => ?_)
          · skip
            rw [e1, e2, e3] at hz
            have htc : zOnly zfJ σ (zCx τ u v) := ((ht.uJ rfl).uJ rfl).uJ rfl
            refine zq (σ := (zCx τ u v)) hV hIt hnt 1 ?_
            show ((1 : Int32) = 0 → V 64 [(0, .ref 10), (1, .int x), (2, .int (nI u)), (3, .int (nI v))] [] (zCx τ u v)) ∧ (¬ (1 : Int32) = 0 → V 33 [(0, .ref 10), (1, .int x), (2, .int (nI u)), (3, .int (nI v))] [] (zCx τ u v))
            refine ⟨fun hc => absurd hc (by decide), fun _ => ?_⟩
            refine zq (σ := (zCx τ u v)) hV hIt hnt 2 ?_
            show zSp _ 74 [.ref 10] (zCx τ u v) (fun r σ' => σ'.2.2.2 = (zCx τ u v).2.2.2 + zAl 74 → V 37 [(0, .ref 10), (1, .int x), (2, .int (nI u)), (3, .int (nI v))] (r.toList ++ []) σ')
            refine signs_ok (zR_of hIt rfl rfl) (m := m) hst (by omega) (fun _ => ?_)
            have eb : ∀ f, zBl (zA11 (zCx τ u v)) (zA12 (zCx τ u v)) (zA13 (zCx τ u v)) ((zCx τ u v).2.1 10 4) ((zCx τ u v).2.1 10 5) ((zCx τ u v).2.1 10 6) f = zBl (zA11 σ) (zA12 σ) (zA13 σ) (zX1 (zA11 σ) (zA12 σ) (zA13 σ) u v) (zX2 (zA11 σ) (zA12 σ) (zA13 σ) u v) (zX3 (zA11 σ) (zA12 σ) (zA13 σ) u v) f := fun f => by rw [← e1, ← e2, ← e3]; rfl
            have ea : ∀ f, zAb (zA11 (zCx τ u v)) (zA12 (zCx τ u v)) (zA13 (zCx τ u v)) ((zCx τ u v).2.1 10 4) ((zCx τ u v).2.1 10 5) ((zCx τ u v).2.1 10 6) f = zAb (zA11 σ) (zA12 σ) (zA13 σ) (zX1 (zA11 σ) (zA12 σ) (zA13 σ) u v) (zX2 (zA11 σ) (zA12 σ) (zA13 σ) u v) (zX3 (zA11 σ) (zA12 σ) (zA13 σ) u v) f := fun f => by rw [← e1, ← e2, ← e3]; rfl
            rw [eb, ea]
            have j4 : (zCx τ u v).2.1 10 4 = zX1 (zA11 σ) (zA12 σ) (zA13 σ) u v := by rw [← e1, ← e2, ← e3]; rfl
            have j5 : (zCx τ u v).2.1 10 5 = zX2 (zA11 σ) (zA12 σ) (zA13 σ) u v := by rw [← e1, ← e2, ← e3]; rfl
            have j6 : (zCx τ u v).2.1 10 6 = zX3 (zA11 σ) (zA12 σ) (zA13 σ) u v := by rw [← e1, ← e2, ← e3]; rfl
            cases hb : zBe (zA11 σ) (zA12 σ) (zA13 σ) m u v <;> cases ha : zAe (zA11 σ) (zA12 σ) (zA13 σ) m u v
            · skip
              unfold zBe at hb
              unfold zAe at ha
              rw [hb, ha]
              refine zq (σ := (zCx τ u v)) hV hIt hnt 4 ?_
              show ((0 : Int32) = 3 → V 62 [(4, .int 0), (0, .ref 10), (1, .int x), (2, .int (nI u)), (3, .int (nI v))] [] (zCx τ u v)) ∧ (¬ (0 : Int32) = 3 → V 45 [(4, .int 0), (0, .ref 10), (1, .int x), (2, .int (nI u)), (3, .int (nI v))] [] (zCx τ u v))
              refine ⟨fun hc => absurd hc (by decide), fun _ => ?_⟩
              refine zq (σ := (zCx τ u v)) hV hIt hnt 3 ?_
              show zSp _ 71 [.ref 10, .int 0] (zCx τ u v) (fun r σ' => σ'.2.2.2 = (zCx τ u v).2.2.2 + zAl 71 → V 51 [(4, .int 0), (0, .ref 10), (1, .int x), (2, .int (nI u)), (3, .int (nI v))] (r.toList ++ []) σ')
              refine turn_0 (zR_of hIt rfl rfl) (fun _ => ?_)
              refine zq (σ := (zCx τ u v)) hV hIt hnt 2 ?_
              show (¬ (0 : Int32) = 0 → V 60 [(4, .int 0), (0, .ref 10), (1, .int x), (2, .int (nI u)), (3, .int (nI v))] [] (zCx τ u v)) ∧ (¬ (¬ (0 : Int32) = 0) → V 56 [(4, .int 0), (0, .ref 10), (1, .int x), (2, .int (nI u)), (3, .int (nI v))] [] (zCx τ u v))
              refine ⟨fun hc => absurd hc (by decide), fun _ => ?_⟩
              refine zq (σ := (zCx τ u v)) hV hIt hnt 3 ?_
              show K (some (.int 0)) (zCx τ u v)
              have hfst : zFst (zA11 σ) (zA12 σ) (zA13 σ) m u v := ⟨⟨huv, by omega, hz, fun q => by unfold zBe zAe at q; rw [hb, ha] at q; simp at q⟩, hx.1⟩
              have hbe : zBe (zA11 σ) (zA12 σ) (zA13 σ) m u v = false := hb
              have hae : zAe (zA11 σ) (zA12 σ) (zA13 σ) m u v = false := ha
              have hk := hH (zCx τ u v) u v htc hfst (by rw [hbe]; exact j4) (by rw [hbe]; exact j5) (by rw [hbe]; exact j6)
              rw [hbe, hae] at hk
              exact hk
            · skip
              unfold zBe at hb
              unfold zAe at ha
              rw [hb, ha]
              refine zq (σ := (zCx τ u v)) hV hIt hnt 4 ?_
              show ((2 : Int32) = 3 → V 62 [(4, .int 2), (0, .ref 10), (1, .int x), (2, .int (nI u)), (3, .int (nI v))] [] (zCx τ u v)) ∧ (¬ (2 : Int32) = 3 → V 45 [(4, .int 2), (0, .ref 10), (1, .int x), (2, .int (nI u)), (3, .int (nI v))] [] (zCx τ u v))
              refine ⟨fun hc => absurd hc (by decide), fun _ => ?_⟩
              refine zq (σ := (zCx τ u v)) hV hIt hnt 3 ?_
              show zSp _ 71 [.ref 10, .int 2] (zCx τ u v) (fun r σ' => σ'.2.2.2 = (zCx τ u v).2.2.2 + zAl 71 → V 51 [(4, .int 2), (0, .ref 10), (1, .int x), (2, .int (nI u)), (3, .int (nI v))] (r.toList ++ []) σ')
              refine turn_2 (zR_of hIt rfl rfl) (fun _ => ?_)
              refine zq (σ := (zCx τ u v)) hV hIt hnt 2 ?_
              show (¬ (2 : Int32) = 0 → V 60 [(4, .int 2), (0, .ref 10), (1, .int x), (2, .int (nI u)), (3, .int (nI v))] [] (zCx τ u v)) ∧ (¬ (¬ (2 : Int32) = 0) → V 56 [(4, .int 2), (0, .ref 10), (1, .int x), (2, .int (nI u)), (3, .int (nI v))] [] (zCx τ u v))
              refine ⟨fun _ => ?_, fun hc => absurd (by decide) hc⟩
              refine zq (σ := (zCx τ u v)) hV hIt hnt 2 ?_
              show K (some (.int 1)) (zCx τ u v)
              have hfst : zFst (zA11 σ) (zA12 σ) (zA13 σ) m u v := ⟨⟨huv, by omega, hz, fun q => by unfold zBe zAe at q; rw [hb, ha] at q; simp at q⟩, hx.1⟩
              have hbe : zBe (zA11 σ) (zA12 σ) (zA13 σ) m u v = false := hb
              have hae : zAe (zA11 σ) (zA12 σ) (zA13 σ) m u v = true := ha
              have hk := hH (zCx τ u v) u v htc hfst (by rw [hbe]; exact j4) (by rw [hbe]; exact j5) (by rw [hbe]; exact j6)
              rw [hbe, hae] at hk
              exact hk
            · skip
              unfold zBe at hb
              unfold zAe at ha
              rw [hb, ha]
              refine zq (σ := (zCx τ u v)) hV hIt hnt 4 ?_
              show ((1 : Int32) = 3 → V 62 [(4, .int 1), (0, .ref 10), (1, .int x), (2, .int (nI u)), (3, .int (nI v))] [] (zCx τ u v)) ∧ (¬ (1 : Int32) = 3 → V 45 [(4, .int 1), (0, .ref 10), (1, .int x), (2, .int (nI u)), (3, .int (nI v))] [] (zCx τ u v))
              refine ⟨fun hc => absurd hc (by decide), fun _ => ?_⟩
              refine zq (σ := (zCx τ u v)) hV hIt hnt 3 ?_
              show zSp _ 71 [.ref 10, .int 1] (zCx τ u v) (fun r σ' => σ'.2.2.2 = (zCx τ u v).2.2.2 + zAl 71 → V 51 [(4, .int 1), (0, .ref 10), (1, .int x), (2, .int (nI u)), (3, .int (nI v))] (r.toList ++ []) σ')
              refine turn_1 (zR_of hIt rfl rfl) (fun _ => ?_)
              refine zq (σ := (zuJ (zuJ (zuJ (zCx τ u v) 10 4 (-(zCx τ u v).2.1 10 4)) 10 5 (-(zCx τ u v).2.1 10 5)) 10 6 (-(zCx τ u v).2.1 10 6))) hV hIt hnt 2 ?_
              show (¬ (1 : Int32) = 0 → V 60 [(4, .int 1), (0, .ref 10), (1, .int x), (2, .int (nI u)), (3, .int (nI v))] [] (zuJ (zuJ (zuJ (zCx τ u v) 10 4 (-(zCx τ u v).2.1 10 4)) 10 5 (-(zCx τ u v).2.1 10 5)) 10 6 (-(zCx τ u v).2.1 10 6))) ∧ (¬ (¬ (1 : Int32) = 0) → V 56 [(4, .int 1), (0, .ref 10), (1, .int x), (2, .int (nI u)), (3, .int (nI v))] [] (zuJ (zuJ (zuJ (zCx τ u v) 10 4 (-(zCx τ u v).2.1 10 4)) 10 5 (-(zCx τ u v).2.1 10 5)) 10 6 (-(zCx τ u v).2.1 10 6)))
              refine ⟨fun _ => ?_, fun hc => absurd (by decide) hc⟩
              refine zq (σ := (zuJ (zuJ (zuJ (zCx τ u v) 10 4 (-(zCx τ u v).2.1 10 4)) 10 5 (-(zCx τ u v).2.1 10 5)) 10 6 (-(zCx τ u v).2.1 10 6))) hV hIt hnt 2 ?_
              show K (some (.int 1)) (zuJ (zuJ (zuJ (zCx τ u v) 10 4 (-(zCx τ u v).2.1 10 4)) 10 5 (-(zCx τ u v).2.1 10 5)) 10 6 (-(zCx τ u v).2.1 10 6))
              have hfst : zFst (zA11 σ) (zA12 σ) (zA13 σ) m u v := ⟨⟨huv, by omega, hz, fun q => by unfold zBe zAe at q; rw [hb, ha] at q; simp at q⟩, hx.1⟩
              have hbe : zBe (zA11 σ) (zA12 σ) (zA13 σ) m u v = true := hb
              have hae : zAe (zA11 σ) (zA12 σ) (zA13 σ) m u v = false := ha
              have hk := hH (zuJ (zuJ (zuJ (zCx τ u v) 10 4 (-(zCx τ u v).2.1 10 4)) 10 5 (-(zCx τ u v).2.1 10 5)) 10 6 (-(zCx τ u v).2.1 10 6)) u v (((htc.uJ rfl).uJ rfl).uJ rfl) hfst (by rw [hbe]; exact congrArg (fun z => -z) j4) (by rw [hbe]; exact congrArg (fun z => -z) j5) (by rw [hbe]; exact congrArg (fun z => -z) j6)
              rw [hbe, hae] at hk
              exact hk
            · skip
              unfold zBe at hb
              unfold zAe at ha
              rw [hb, ha]
              refine zq (σ := (zCx τ u v)) hV hIt hnt 4 ?_
              show ((3 : Int32) = 3 → V 62 [(4, .int 3), (0, .ref 10), (1, .int x), (2, .int (nI u)), (3, .int (nI v))] [] (zCx τ u v)) ∧ (¬ (3 : Int32) = 3 → V 45 [(4, .int 3), (0, .ref 10), (1, .int x), (2, .int (nI u)), (3, .int (nI v))] [] (zCx τ u v))
              refine ⟨fun _ => ?_, fun hc => absurd (by decide) hc⟩
              refine zq (σ := (zCx τ u v)) hV hIt hnt 4 ?_
              show V 16 [(3, .int ((nI v) + 1)), (1, .int 2), (4, .int 3), (0, .ref 10), (2, .int (nI u))] [] (zCx τ u v)
              refine zwk hV [3, 1, 4, 0] rfl ?_
              rw [nI_1]
              exact ih2 (v + 1) _ _ (by omega) (by omega) htc (zIv_both hx huv (by omega) hz hb ha)
          · skip
            rw [e1, e2, e3] at hz
            have htc : zOnly zfJ σ (zCx τ u v) := ((ht.uJ rfl).uJ rfl).uJ rfl
            refine zq (σ := (zCx τ u v)) hV hIt hnt 1 ?_
            show ((0 : Int32) = 0 → V 64 [(0, .ref 10), (1, .int x), (2, .int (nI u)), (3, .int (nI v))] [] (zCx τ u v)) ∧ (¬ (0 : Int32) = 0 → V 33 [(0, .ref 10), (1, .int x), (2, .int (nI u)), (3, .int (nI v))] [] (zCx τ u v))
            refine ⟨fun _ => ?_, fun hc => absurd (by decide) hc⟩
            refine zq (σ := (zCx τ u v)) hV hIt hnt 2 ?_
            show V 16 [(3, .int ((nI v) + 1)), (0, .ref 10), (1, .int x), (2, .int (nI u))] [] (zCx τ u v)
            refine zwk hV [1, 2, 3, 0] rfl ?_
            rw [nI_1]
            exact ih2 (v + 1) _ _ (by omega) (by omega) htc (zIv_next hx hz)
      intro x τ ht hx _
      exact H2 (m - (u + 1)) (u + 1) x τ (by omega) (by omega) ht hx
  exact H m 0 0 σ (by omega) zOnly.rf (zBf_0 _ _ _ m)
end
section
theorem zNz_congr {A B C A' B' C' : Nat → Int64} {m : Nat} (h : ∀ t, t < m → A t = A' t ∧ B t = B' t ∧ C t = C' t) {u v : Nat} (hu : u < m) (hv : v < m) : zX1 A B C u v = zX1 A' B' C' u v ∧ zX2 A B C u v = zX2 A' B' C' u v ∧ zX3 A B C u v = zX3 A' B' C' u v := by
  obtain ⟨a1, a2, a3⟩ := h u hu
  obtain ⟨b1, b2, b3⟩ := h v hv
  simp only [zX1, zX2, zX3, a1, a2, a3, b1, b2, b3, and_self]
theorem zBl_congr {A B C A' B' C' : Nat → Int64} {m : Nat} (h : ∀ t, t < m → A t = A' t ∧ B t = B' t ∧ C t = C' t) (c1 c2 c3 : Int64) : ∀ t, t ≤ m → zBl A B C c1 c2 c3 t = zBl A' B' C' c1 c2 c3 t ∧ zAb A B C c1 c2 c3 t = zAb A' B' C' c1 c2 c3 t := by
  intro t
  induction t with
  | zero => intro _; exact ⟨rfl, rfl⟩
  | succ t ih =>
    intro ht
    obtain ⟨i1, i2⟩ := ih (by omega)
    obtain ⟨a1, a2, a3⟩ := h t (by omega)
    have e : zPr A B C c1 c2 c3 t = zPr A' B' C' c1 c2 c3 t := by unfold zPr; rw [a1, a2, a3]
    simp only [zBl, zAb, i1, i2, e, and_self]
theorem zBe_congr {A B C A' B' C' : Nat → Int64} {m : Nat} (h : ∀ t, t < m → A t = A' t ∧ B t = B' t ∧ C t = C' t) {u v : Nat} (hu : u < m) (hv : v < m) : zBe A B C m u v = zBe A' B' C' m u v ∧ zAe A B C m u v = zAe A' B' C' m u v := by
  obtain ⟨e1, e2, e3⟩ := zNz_congr h hu hv
  unfold zBe zAe
  rw [e1, e2, e3]
  exact ⟨(zBl_congr h _ _ _ m (Nat.le_refl _)).1, (zBl_congr h _ _ _ m (Nat.le_refl _)).2⟩
theorem zGd_congr {A B C A' B' C' : Nat → Int64} {m : Nat} (h : ∀ t, t < m → A t = A' t ∧ B t = B' t ∧ C t = C' t) {u v : Nat} (hu : u < m) (hv : v < m) : (zNz A B C u v ↔ zNz A' B' C' u v) ∧ (zGd A B C m u v ↔ zGd A' B' C' m u v) := by
  obtain ⟨e1, e2, e3⟩ := zNz_congr h hu hv
  obtain ⟨f1, f2⟩ := zBe_congr h hu hv
  unfold zGd zNz
  rw [e1, e2, e3, f1, f2]
  exact ⟨Iff.rfl, Iff.rfl⟩
theorem zHold_congr {A B C A' B' C' : Nat → Int64} {m : Nat} (h : ∀ t, t < m → A t = A' t ∧ B t = B' t ∧ C t = C' t) : zHold A B C m ↔ zHold A' B' C' m := by
  unfold zHold
  constructor
  · rintro ⟨⟨u, v, h1, h2, h3⟩, h4⟩
    exact ⟨⟨u, v, h1, h2, (zGd_congr h (by omega) h2).1.mp h3⟩, fun u v q1 q2 => (zGd_congr h (by omega) q2).2.mp (h4 u v q1 q2)⟩
  · rintro ⟨⟨u, v, h1, h2, h3⟩, h4⟩
    exact ⟨⟨u, v, h1, h2, (zGd_congr h (by omega) h2).1.mpr h3⟩, fun u v q1 q2 => (zGd_congr h (by omega) q2).2.mpr (h4 u v q1 q2)⟩
theorem zFst_congr {A B C A' B' C' : Nat → Int64} {m : Nat} (h : ∀ t, t < m → A t = A' t ∧ B t = B' t ∧ C t = C' t) {u v : Nat} : zFst A B C m u v ↔ zFst A' B' C' m u v := by
  unfold zFst
  constructor
  · rintro ⟨⟨h1, h2, h3, h4⟩, h5⟩
    obtain ⟨f1, f2⟩ := zBe_congr h (u := u) (v := v) (by omega) h2
    exact ⟨⟨h1, h2, (zGd_congr h (by omega) h2).1.mp h3, by rw [← f1, ← f2]; exact h4⟩, fun u' v' q1 q2 q3 => (zGd_congr h (by omega) q2).2.mp (h5 u' v' q1 q2 q3)⟩
  · rintro ⟨⟨h1, h2, h3, h4⟩, h5⟩
    obtain ⟨f1, f2⟩ := zBe_congr h (u := u) (v := v) (by omega) h2
    exact ⟨⟨h1, h2, (zGd_congr h (by omega) h2).1.mpr h3, by rw [f1, f2]; exact h4⟩, fun u' v' q1 q2 q3 => (zGd_congr h (by omega) q2).2.mpr (h5 u' v' q1 q2 q3)⟩
theorem zFst_one {A B C : Nat → Int64} {m u v u' v' : Nat} (h : zFst A B C m u v) (h' : zFst A B C m u' v') : u = u' ∧ v = v' := by
  have k1 : ¬ zBf u v u' v' := fun q => h.1.2.2.2 (h'.2 u v h.1.1 h.1.2.1 q h.1.2.2.1)
  have k2 : ¬ zBf u' v' u v := fun q => h'.1.2.2.2 (h.2 u' v' h'.1.1 h'.1.2.1 q h'.1.2.2.1)
  unfold zBf at k1 k2
  omega
theorem zHold_nF {A B C : Nat → Int64} {m u v : Nat} (h : zHold A B C m) (h' : zFst A B C m u v) : False := h'.1.2.2.2 (h.2 u v h'.1.1 h'.1.2.1 h'.1.2.2.1)
/-- whether fingers hold that stand so -/
def zHo (n : Nat) (X Y : Nat → Int32) (f : Int32) (E S : Nat → Int32) (m : Nat) : Prop := zHold (zl (zT1 n X Y f E)) (zl (zT2 n X Y f E)) (zl (zT3 n X Y f E S)) (zMl f m)
theorem zTok_l {n : Nat} {X Y : Nat → Int32} {f : Int32} {E S : Nat → Int32} {M : Nat} {τ : zSt} (h : zTok n X Y f E S M τ) : ∀ t, t < M → zA11 τ t = zl (zT1 n X Y f E) t ∧ zA12 τ t = zl (zT2 n X Y f E) t ∧ zA13 τ t = zl (zT3 n X Y f E S) t := fun t ht => by
  obtain ⟨h1, h2, h3⟩ := h t ht
  exact ⟨congrArg Int32.toInt64 h1, congrArg Int32.toInt64 h2, congrArg Int32.toInt64 h3⟩
def zfW (a j : Nat) : Bool := (Nat.beq a 10 && Nat.ble 3 j) || (Nat.ble 11 a && Nat.ble a 13)
theorem zfT_W (a j : Nat) (h : zfW a j = false) : zfT a j = false := by
  unfold zfW at h; unfold zfT
  rw [Bool.or_eq_false_iff] at h ⊢
  refine ⟨?_, h.2⟩
  rw [Bool.and_eq_false_iff] at h ⊢
  rcases h.1 with h | h
  · exact Or.inl h
  · refine Or.inr ?_
    by_cases q : j = 3
    · subst q; exact absurd h (by decide)
    · rw [← Bool.not_eq_true]; exact fun e => q (Nat.eq_of_beq_eq_true e)
theorem zfJ_W (a j : Nat) (h : zfW a j = false) : zfJ a j = false := by
  unfold zfW at h; unfold zfJ
  rw [Bool.or_eq_false_iff] at h
  rw [Bool.and_eq_false_iff] at h ⊢
  rcases h.1 with h | h
  · exact Or.inl h
  · refine Or.inr ?_
    rw [← Bool.not_eq_true] at h ⊢
    exact fun e => h (Nat.ble_eq.mpr (Nat.le_trans (by decide) (Nat.le_of_ble_eq_true e)))
theorem zQI_0 {q : (Nat → Nat → Value) × Nat} : zQI (fun _ => false) q := fun a h => Bool.noConfusion h
def zBt (lo hi : Int) (v : Int32) : Prop := lo ≤ v.toInt ∧ v.toInt ≤ hi
theorem zneg_nI {q : Nat} (h : q < 2 ^ 30) : (-(nI q)).toInt = -(q : Int) := by
  rw [Int32.toInt_neg, nI_toInt (by omega)]
  exact Int.bmod_eq_of_le (by omega) (by omega)
set_option maxRecDepth 8000 in
set_option maxHeartbeats 4000000 in
theorem isWithin_ok {d : Nat} {σ : zSt} {K : Option Value → zSt → Prop} {v q : Int32} {k : Nat} (e : q = nI k) (hk : k < 2 ^ 30) (h1 : zBt (-(k : Int)) k v → K (some (.int 1)) σ) (h0 : ¬ zBt (-(k : Int)) k v → K (some (.int 0)) σ) : zSp (d + 1) mX8_isWithin [.int v, .int q] σ K := by
  refine ⟨⟨by decide, Nat.le_of_ble_eq_true rfl⟩, fun V hV => ?_⟩
  subst e
  refine zq (σ := σ) hV zQI_0 rfl 4 ?_
  show (v < (-(nI k)) → V 15 [(0, .int v), (1, .int (nI k))] [] σ) ∧ (¬ v < (-(nI k)) → V 6 [(0, .int v), (1, .int (nI k))] [] σ)
  refine ⟨fun h_3 => ?_, fun h_3 => ?_⟩
  · skip
    refine zq (σ := σ) hV zQI_0 rfl 2 ?_
    show ((0 : Int32) = 0 ∨ (0 : Int32) = 1) ∧ K (some (.int 0)) σ
    refine ⟨by decide, ?_⟩
    refine h0 (by
      simp only [zlt, zneg_nI hk, nI_toInt (show k < 2 ^ 31 by omega)] at h_3
      unfold zBt
      omega)
  · skip
    refine zq (σ := σ) hV zQI_0 rfl 3 ?_
    show ((nI k) < v → V 15 [(0, .int v), (1, .int (nI k))] [] σ) ∧ (¬ (nI k) < v → V 11 [(0, .int v), (1, .int (nI k))] [] σ)
    refine ⟨fun h_8 => ?_, fun h_8 => ?_⟩
    · skip
      refine zq (σ := σ) hV zQI_0 rfl 2 ?_
      show ((0 : Int32) = 0 ∨ (0 : Int32) = 1) ∧ K (some (.int 0)) σ
      refine ⟨by decide, ?_⟩
      refine h0 (by
        simp only [zlt, zneg_nI hk, nI_toInt (show k < 2 ^ 31 by omega)] at h_3 h_8
        unfold zBt
        omega)
    · skip
      refine zq (σ := σ) hV zQI_0 rfl 3 ?_
      show ((1 : Int32) = 0 ∨ (1 : Int32) = 1) ∧ K (some (.int 1)) σ
      refine ⟨by decide, ?_⟩
      refine h1 (by
        simp only [zlt, zneg_nI hk, nI_toInt (show k < 2 ^ 31 by omega)] at h_3 h_8
        unfold zBt
        omega)
set_option maxRecDepth 8000 in
set_option maxHeartbeats 4000000 in
theorem isPlace_ok {d : Nat} {σ : zSt} {K : Option Value → zSt → Prop} {x y : Int32} (h1 : zBt (-1000) 1000 x ∧ zBt (-1000) 1000 y → K (some (.int 1)) σ) (h0 : ¬ (zBt (-1000) 1000 x ∧ zBt (-1000) 1000 y) → K (some (.int 0)) σ) : zSp (d + 2) mX8_isPlace [.int x, .int y] σ K := by
  refine ⟨⟨by decide, Nat.le_of_ble_eq_true rfl⟩, fun V hV => ?_⟩
  refine zq (σ := σ) hV zQI_0 rfl 3 ?_
  show zSp _ 118 [.int x, .int 1000] σ (fun r σ' => σ'.2.2.2 = σ.2.2.2 + zAl 118 → V 7 [(0, .int x), (1, .int y)] (r.toList ++ []) σ')
  refine isWithin_ok (k := 1000) rfl (by decide) (fun hw0 _ => ?_) (fun hw0 _ => ?_)
  · skip
    refine zq (σ := σ) hV zQI_0 rfl 1 ?_
    show ((1 : Int32) = 0 → V 24 [(0, .int x), (1, .int y)] [] σ) ∧ (¬ (1 : Int32) = 0 → V 10 [(0, .int x), (1, .int y)] [] σ)
    refine ⟨fun hc => absurd hc (by decide), fun _ => ?_⟩
    refine zq (σ := σ) hV zQI_0 rfl 3 ?_
    show zSp _ 118 [.int y, .int 1000] σ (fun r σ' => σ'.2.2.2 = σ.2.2.2 + zAl 118 → V 17 [(0, .int x), (1, .int y)] (r.toList ++ []) σ')
    refine isWithin_ok (k := 1000) rfl (by decide) (fun hw1 _ => ?_) (fun hw1 _ => ?_)
    · skip
      refine zq (σ := σ) hV zQI_0 rfl 1 ?_
      show ((1 : Int32) = 0 → V 24 [(0, .int x), (1, .int y)] [] σ) ∧ (¬ (1 : Int32) = 0 → V 20 [(0, .int x), (1, .int y)] [] σ)
      refine ⟨fun hc => absurd hc (by decide), fun _ => ?_⟩
      refine zq (σ := σ) hV zQI_0 rfl 3 ?_
      show ((1 : Int32) = 0 ∨ (1 : Int32) = 1) ∧ K (some (.int 1)) σ
      refine ⟨by decide, ?_⟩
      refine h1 (by
        simp at hw0 hw1
        first | exact ⟨hw0, hw1⟩ | exact fun q => hw0 q.1 | exact fun q => hw1 q.2)
    · skip
      refine zq (σ := σ) hV zQI_0 rfl 1 ?_
      show ((0 : Int32) = 0 → V 24 [(0, .int x), (1, .int y)] [] σ) ∧ (¬ (0 : Int32) = 0 → V 20 [(0, .int x), (1, .int y)] [] σ)
      refine ⟨fun _ => ?_, fun hc => absurd (by decide) hc⟩
      refine zq (σ := σ) hV zQI_0 rfl 2 ?_
      show ((0 : Int32) = 0 ∨ (0 : Int32) = 1) ∧ K (some (.int 0)) σ
      refine ⟨by decide, ?_⟩
      refine h0 (by
        simp at hw0 hw1
        first | exact ⟨hw0, hw1⟩ | exact fun q => hw0 q.1 | exact fun q => hw1 q.2)
  · skip
    refine zq (σ := σ) hV zQI_0 rfl 1 ?_
    show ((0 : Int32) = 0 → V 24 [(0, .int x), (1, .int y)] [] σ) ∧ (¬ (0 : Int32) = 0 → V 10 [(0, .int x), (1, .int y)] [] σ)
    refine ⟨fun _ => ?_, fun hc => absurd (by decide) hc⟩
    refine zq (σ := σ) hV zQI_0 rfl 2 ?_
    show ((0 : Int32) = 0 ∨ (0 : Int32) = 1) ∧ K (some (.int 0)) σ
    refine ⟨by decide, ?_⟩
    refine h0 (by
      simp at hw0
      first | exact ⟨hw0, hw1⟩ | exact fun q => hw0 q.1 | exact fun q => hw1 q.2)
set_option maxRecDepth 8000 in
set_option maxHeartbeats 4000000 in
theorem isWeight_ok {d : Nat} {σ : zSt} {K : Option Value → zSt → Prop} {v : Int32} (h1 : zBt 1 20 v → K (some (.int 1)) σ) (h0 : ¬ (zBt 1 20 v) → K (some (.int 0)) σ) : zSp (d + 1) mX8_isWeight [.int v] σ K := by
  refine ⟨⟨by decide, Nat.le_of_ble_eq_true rfl⟩, fun V hV => ?_⟩
  refine zq (σ := σ) hV zQI_0 rfl 3 ?_
  show (v < 1 → V 15 [(0, .int v)] [] σ) ∧ (¬ v < 1 → V 5 [(0, .int v)] [] σ)
  refine ⟨fun h_2 => ?_, fun h_2 => ?_⟩
  · skip
    refine zq (σ := σ) hV zQI_0 rfl 2 ?_
    show ((0 : Int32) = 0 ∨ (0 : Int32) = 1) ∧ K (some (.int 0)) σ
    refine ⟨by decide, ?_⟩
    refine h0 (by
      simp only [zlt, zle] at h_2
      unfold zBt
      simp at h_2 ⊢
      omega)
  · skip
    refine zq (σ := σ) hV zQI_0 rfl 3 ?_
    show (20 < v → V 15 [(0, .int v)] [] σ) ∧ (¬ 20 < v → V 11 [(0, .int v)] [] σ)
    refine ⟨fun h_8 => ?_, fun h_8 => ?_⟩
    · skip
      refine zq (σ := σ) hV zQI_0 rfl 2 ?_
      show ((0 : Int32) = 0 ∨ (0 : Int32) = 1) ∧ K (some (.int 0)) σ
      refine ⟨by decide, ?_⟩
      refine h0 (by
        simp only [zlt, zle] at h_2 h_8
        unfold zBt
        simp at h_2 h_8 ⊢
        omega)
    · skip
      refine zq (σ := σ) hV zQI_0 rfl 3 ?_
      show ((1 : Int32) = 0 ∨ (1 : Int32) = 1) ∧ K (some (.int 1)) σ
      refine ⟨by decide, ?_⟩
      refine h1 (by
        simp only [zlt, zle] at h_2 h_8
        unfold zBt
        simp at h_2 h_8 ⊢
        omega)
set_option maxRecDepth 8000 in
set_option maxHeartbeats 4000000 in
theorem isTriplePart_ok {d : Nat} {σ : zSt} {K : Option Value → zSt → Prop} {v : Int32} (h1 : zBt 0 2 v → K (some (.int 1)) σ) (h0 : ¬ (zBt 0 2 v) → K (some (.int 0)) σ) : zSp (d + 1) mX8_isTriplePart [.int v] σ K := by
  refine ⟨⟨by decide, Nat.le_of_ble_eq_true rfl⟩, fun V hV => ?_⟩
  refine zq (σ := σ) hV zQI_0 rfl 2 ?_
  show (v < 0 → V 13 [(0, .int v)] [] σ) ∧ (¬ v < 0 → V 4 [(0, .int v)] [] σ)
  refine ⟨fun h_1 => ?_, fun h_1 => ?_⟩
  · skip
    refine zq (σ := σ) hV zQI_0 rfl 2 ?_
    show ((0 : Int32) = 0 ∨ (0 : Int32) = 1) ∧ K (some (.int 0)) σ
    refine ⟨by decide, ?_⟩
    refine h0 (by
      simp only [zlt, zle] at h_1
      unfold zBt
      simp at h_1 ⊢
      omega)
  · skip
    refine zq (σ := σ) hV zQI_0 rfl 3 ?_
    show (2 < v → V 13 [(0, .int v)] [] σ) ∧ (¬ 2 < v → V 9 [(0, .int v)] [] σ)
    refine ⟨fun h_6 => ?_, fun h_6 => ?_⟩
    · skip
      refine zq (σ := σ) hV zQI_0 rfl 2 ?_
      show ((0 : Int32) = 0 ∨ (0 : Int32) = 1) ∧ K (some (.int 0)) σ
      refine ⟨by decide, ?_⟩
      refine h0 (by
        simp only [zlt, zle] at h_1 h_6
        unfold zBt
        simp at h_1 h_6 ⊢
        omega)
    · skip
      refine zq (σ := σ) hV zQI_0 rfl 3 ?_
      show ((1 : Int32) = 0 ∨ (1 : Int32) = 1) ∧ K (some (.int 1)) σ
      refine ⟨by decide, ?_⟩
      refine h1 (by
        simp only [zlt, zle] at h_1 h_6
        unfold zBt
        simp at h_1 h_6 ⊢
        omega)
set_option maxRecDepth 8000 in
set_option maxHeartbeats 4000000 in
theorem isSheet_ok {d : Nat} {σ : zSt} {K : Option Value → zSt → Prop} {v : Int32} (h1 : zBt 0 3 v → K (some (.int 1)) σ) (h0 : ¬ (zBt 0 3 v) → K (some (.int 0)) σ) : zSp (d + 1) mX8_isSheet [.int v] σ K := by
  refine ⟨⟨by decide, Nat.le_of_ble_eq_true rfl⟩, fun V hV => ?_⟩
  refine zq (σ := σ) hV zQI_0 rfl 2 ?_
  show (v < 0 → V 13 [(0, .int v)] [] σ) ∧ (¬ v < 0 → V 4 [(0, .int v)] [] σ)
  refine ⟨fun h_1 => ?_, fun h_1 => ?_⟩
  · skip
    refine zq (σ := σ) hV zQI_0 rfl 2 ?_
    show ((0 : Int32) = 0 ∨ (0 : Int32) = 1) ∧ K (some (.int 0)) σ
    refine ⟨by decide, ?_⟩
    refine h0 (by
      simp only [zlt, zle] at h_1
      unfold zBt
      simp at h_1 ⊢
      omega)
  · skip
    refine zq (σ := σ) hV zQI_0 rfl 3 ?_
    show (4 ≤ v → V 13 [(0, .int v)] [] σ) ∧ (¬ 4 ≤ v → V 9 [(0, .int v)] [] σ)
    refine ⟨fun h_6 => ?_, fun h_6 => ?_⟩
    · skip
      refine zq (σ := σ) hV zQI_0 rfl 2 ?_
      show ((0 : Int32) = 0 ∨ (0 : Int32) = 1) ∧ K (some (.int 0)) σ
      refine ⟨by decide, ?_⟩
      refine h0 (by
        simp only [zlt, zle] at h_1 h_6
        unfold zBt
        simp at h_1 h_6 ⊢
        omega)
    · skip
      refine zq (σ := σ) hV zQI_0 rfl 3 ?_
      show ((1 : Int32) = 0 ∨ (1 : Int32) = 1) ∧ K (some (.int 1)) σ
      refine ⟨by decide, ?_⟩
      refine h1 (by
        simp only [zlt, zle] at h_1 h_6
        unfold zBt
        simp at h_1 h_6 ⊢
        omega)
set_option maxRecDepth 8000 in
set_option maxHeartbeats 4000000 in
theorem isForm_ok {d : Nat} {σ : zSt} {K : Option Value → zSt → Prop} {v : Int32} (h1 : zBt 0 2 v → K (some (.int 1)) σ) (h0 : ¬ (zBt 0 2 v) → K (some (.int 0)) σ) : zSp (d + 1) mX8_isForm [.int v] σ K := by
  refine ⟨⟨by decide, Nat.le_of_ble_eq_true rfl⟩, fun V hV => ?_⟩
  refine zq (σ := σ) hV zQI_0 rfl 2 ?_
  show (v < 0 → V 13 [(0, .int v)] [] σ) ∧ (¬ v < 0 → V 4 [(0, .int v)] [] σ)
  refine ⟨fun h_1 => ?_, fun h_1 => ?_⟩
  · skip
    refine zq (σ := σ) hV zQI_0 rfl 2 ?_
    show ((0 : Int32) = 0 ∨ (0 : Int32) = 1) ∧ K (some (.int 0)) σ
    refine ⟨by decide, ?_⟩
    refine h0 (by
      simp only [zlt, zle] at h_1
      unfold zBt
      simp at h_1 ⊢
      omega)
  · skip
    refine zq (σ := σ) hV zQI_0 rfl 3 ?_
    show (2 < v → V 13 [(0, .int v)] [] σ) ∧ (¬ 2 < v → V 9 [(0, .int v)] [] σ)
    refine ⟨fun h_6 => ?_, fun h_6 => ?_⟩
    · skip
      refine zq (σ := σ) hV zQI_0 rfl 2 ?_
      show ((0 : Int32) = 0 ∨ (0 : Int32) = 1) ∧ K (some (.int 0)) σ
      refine ⟨by decide, ?_⟩
      refine h0 (by
        simp only [zlt, zle] at h_1 h_6
        unfold zBt
        simp at h_1 h_6 ⊢
        omega)
    · skip
      refine zq (σ := σ) hV zQI_0 rfl 3 ?_
      show ((1 : Int32) = 0 ∨ (1 : Int32) = 1) ∧ K (some (.int 1)) σ
      refine ⟨by decide, ?_⟩
      refine h1 (by
        simp only [zlt, zle] at h_1 h_6
        unfold zBt
        simp at h_1 h_6 ⊢
        omega)
end
section
set_option maxRecDepth 8000 in
set_option maxHeartbeats 4000000 in
theorem isStand_ok {d : Nat} {σ : zSt} {K : Option Value → zSt → Prop} {e k : Int32} {n : Nat} (hI : zQI (kR 0 30) σ.2.2) (hn : σ.1 1 2 = nI n) (hn10 : n ≤ 10) (h1 : (zBt 0 (n - 1) e ∧ zBt 0 8 k) → K (some (.int 1)) σ) (h0 : ¬ (zBt 0 (n - 1) e ∧ zBt 0 8 k) → K (some (.int 0)) σ) : zSp (d + 2) mX8_isStand [.ref 0, .int e, .int k] σ K := by
  refine ⟨⟨by decide, Nat.le_of_ble_eq_true rfl⟩, fun V hV => ?_⟩
  have hni := nI_toInt (show n < 2 ^ 31 by omega)
  refine zq (σ := σ) hV hI rfl 2 ?_
  show (e < 0 → V 29 [(0, .ref 0), (1, .int e), (2, .int k)] [] σ) ∧ (¬ e < 0 → V 4 [(0, .ref 0), (1, .int e), (2, .int k)] [] σ)
  refine ⟨fun h_1 => ?_, fun h_1 => ?_⟩
  · skip
    refine zq (σ := σ) hV hI rfl 2 ?_
    show ((0 : Int32) = 0 ∨ (0 : Int32) = 1) ∧ K (some (.int 0)) σ
    refine ⟨by decide, ?_⟩
    refine h0 (by
      simp only [zlt, zle, hn, hni] at h_1
      unfold zBt
      simp at h_1 ⊢
      omega)
  · skip
    refine zq (σ := σ) hV hI rfl 4 ?_
    show zSp _ 27 [.ref 1] σ (fun r σ' => σ'.2.2.2 = σ.2.2.2 + zAl 27 → V 12 [(0, .ref 0), (1, .int e), (2, .int k)] (r.toList ++ [.int e]) σ')
    refine corners_ok (zR_of hI rfl rfl) (fun _ => ?_)
    refine zq (σ := σ) hV hI rfl 1 ?_
    show ((σ.1 1 2) ≤ e → V 29 [(0, .ref 0), (1, .int e), (2, .int k)] [] σ) ∧ (¬ (σ.1 1 2) ≤ e → V 15 [(0, .ref 0), (1, .int e), (2, .int k)] [] σ)
    refine ⟨fun h_12 => ?_, fun h_12 => ?_⟩
    · skip
      refine zq (σ := σ) hV hI rfl 2 ?_
      show ((0 : Int32) = 0 ∨ (0 : Int32) = 1) ∧ K (some (.int 0)) σ
      refine ⟨by decide, ?_⟩
      refine h0 (by
        simp only [zlt, zle, hn, hni] at h_1 h_12
        unfold zBt
        simp at h_1 h_12 ⊢
        omega)
    · skip
      refine zq (σ := σ) hV hI rfl 2 ?_
      show (k < 0 → V 29 [(0, .ref 0), (1, .int e), (2, .int k)] [] σ) ∧ (¬ k < 0 → V 19 [(0, .ref 0), (1, .int e), (2, .int k)] [] σ)
      refine ⟨fun h_16 => ?_, fun h_16 => ?_⟩
      · skip
        refine zq (σ := σ) hV hI rfl 2 ?_
        show ((0 : Int32) = 0 ∨ (0 : Int32) = 1) ∧ K (some (.int 0)) σ
        refine ⟨by decide, ?_⟩
        refine h0 (by
          simp only [zlt, zle, hn, hni] at h_1 h_12 h_16
          unfold zBt
          simp at h_1 h_12 h_16 ⊢
          omega)
      · skip
        refine zq (σ := σ) hV hI rfl 3 ?_
        show (8 < k → V 29 [(0, .ref 0), (1, .int e), (2, .int k)] [] σ) ∧ (¬ 8 < k → V 25 [(0, .ref 0), (1, .int e), (2, .int k)] [] σ)
        refine ⟨fun h_22 => ?_, fun h_22 => ?_⟩
        · skip
          refine zq (σ := σ) hV hI rfl 2 ?_
          show ((0 : Int32) = 0 ∨ (0 : Int32) = 1) ∧ K (some (.int 0)) σ
          refine ⟨by decide, ?_⟩
          refine h0 (by
            simp only [zlt, zle, hn, hni] at h_1 h_12 h_16 h_22
            unfold zBt
            simp at h_1 h_12 h_16 h_22 ⊢
            omega)
        · skip
          refine zq (σ := σ) hV hI rfl 3 ?_
          show ((1 : Int32) = 0 ∨ (1 : Int32) = 1) ∧ K (some (.int 1)) σ
          refine ⟨by decide, ?_⟩
          refine h1 (by
            simp only [zlt, zle, hn, hni] at h_1 h_12 h_16 h_22
            unfold zBt
            simp at h_1 h_12 h_16 h_22 ⊢
            omega)
set_option maxRecDepth 8000 in
set_option maxHeartbeats 4000000 in
theorem gsize_ok {d : Nat} {σ : zSt} {K : Option Value → zSt → Prop} (hI : zQI (kR 21 24) σ.2.2) (hK : K (some (.int (σ.1 21 2))) σ) : zSp (d + 1) mX1_size [.ref 21] σ K := by
  refine ⟨⟨by decide, Nat.le_of_ble_eq_true rfl⟩, fun V hV => ?_⟩
  refine zq (σ := σ) hV hI rfl 3 ?_
  show K (some (.int (σ.1 21 2))) σ
  exact hK
set_option maxRecDepth 8000 in
set_option maxHeartbeats 4000000 in
theorem bdropped_ok {d : Nat} {σ : zSt} {K : Option Value → zSt → Prop} (hI : zQI (kR 24 26) σ.2.2) (hK : K (some (.int (σ.1 24 2))) σ) : zSp (d + 1) mX0_dropped [.ref 24] σ K := by
  refine ⟨⟨by decide, Nat.le_of_ble_eq_true rfl⟩, fun V hV => ?_⟩
  refine zq (σ := σ) hV hI rfl 3 ?_
  show K (some (.int (σ.1 24 2))) σ
  exact hK
set_option maxRecDepth 8000 in
set_option maxHeartbeats 4000000 in
theorem isFinger_ok {d : Nat} {σ : zSt} {K : Option Value → zSt → Prop} {v : Int32} {m : Nat} (hI : zQI (kR 0 30) σ.2.2) (hs : σ.1 4 2 = nI m) (hm : m ≤ 16) (h1 : zBt 0 (m - 1) v → K (some (.int 1)) σ) (h0 : ¬ zBt 0 (m - 1) v → K (some (.int 0)) σ) : zSp (d + 2) mX8_isFinger [.ref 0, .int v] σ K := by
  refine ⟨⟨by decide, Nat.le_of_ble_eq_true rfl⟩, fun V hV => ?_⟩
  have hni := nI_toInt (show m < 2 ^ 31 by omega)
  refine zq (σ := σ) hV hI rfl 2 ?_
  show (v < 0 → V 19 [(0, .ref 0), (1, .int v)] [] σ) ∧ (¬ v < 0 → V 4 [(0, .ref 0), (1, .int v)] [] σ)
  refine ⟨fun h_1 => ?_, fun h_1 => ?_⟩
  · skip
    refine zq (σ := σ) hV hI rfl 2 ?_
    show ((0 : Int32) = 0 ∨ (0 : Int32) = 1) ∧ K (some (.int 0)) σ
    refine ⟨by decide, ?_⟩
    refine h0 (by
      simp only [zlt, zle, hs, hni] at h_1
      unfold zBt
      simp at h_1 ⊢
      omega)
  · skip
    refine zq (σ := σ) hV hI rfl 4 ?_
    show zSp _ 17 [.ref 4] σ (fun r σ' => σ'.2.2.2 = σ.2.2.2 + zAl 17 → V 12 [(0, .ref 0), (1, .int v)] (r.toList ++ [.int v]) σ')
    refine hsize_4 (zR_of hI rfl rfl) (fun _ => ?_)
    refine zq (σ := σ) hV hI rfl 1 ?_
    show ((σ.1 4 2) ≤ v → V 19 [(0, .ref 0), (1, .int v)] [] σ) ∧ (¬ (σ.1 4 2) ≤ v → V 15 [(0, .ref 0), (1, .int v)] [] σ)
    refine ⟨fun h_12 => ?_, fun h_12 => ?_⟩
    · skip
      refine zq (σ := σ) hV hI rfl 2 ?_
      show ((0 : Int32) = 0 ∨ (0 : Int32) = 1) ∧ K (some (.int 0)) σ
      refine ⟨by decide, ?_⟩
      refine h0 (by
        simp only [zlt, zle, hs, hni] at h_1 h_12
        unfold zBt
        simp at h_1 h_12 ⊢
        omega)
    · skip
      refine zq (σ := σ) hV hI rfl 3 ?_
      show ((1 : Int32) = 0 ∨ (1 : Int32) = 1) ∧ K (some (.int 1)) σ
      refine ⟨by decide, ?_⟩
      refine h1 (by
        simp only [zlt, zle, hs, hni] at h_1 h_12
        unfold zBt
        simp at h_1 h_12 ⊢
        omega)
set_option maxRecDepth 8000 in
set_option maxHeartbeats 4000000 in
theorem isGrip_ok {d : Nat} {σ : zSt} {K : Option Value → zSt → Prop} {v : Int32} {m : Nat} (hI : zQI (kR 0 30) σ.2.2) (hs : σ.1 21 2 = nI m) (hm : m ≤ 16) (h1 : zBt 0 (m - 1) v → K (some (.int 1)) σ) (h0 : ¬ zBt 0 (m - 1) v → K (some (.int 0)) σ) : zSp (d + 2) mX8_isGrip [.ref 0, .int v] σ K := by
  refine ⟨⟨by decide, Nat.le_of_ble_eq_true rfl⟩, fun V hV => ?_⟩
  have hni := nI_toInt (show m < 2 ^ 31 by omega)
  refine zq (σ := σ) hV hI rfl 2 ?_
  show (v < 0 → V 19 [(0, .ref 0), (1, .int v)] [] σ) ∧ (¬ v < 0 → V 4 [(0, .ref 0), (1, .int v)] [] σ)
  refine ⟨fun h_1 => ?_, fun h_1 => ?_⟩
  · skip
    refine zq (σ := σ) hV hI rfl 2 ?_
    show ((0 : Int32) = 0 ∨ (0 : Int32) = 1) ∧ K (some (.int 0)) σ
    refine ⟨by decide, ?_⟩
    refine h0 (by
      simp only [zlt, zle, hs, hni] at h_1
      unfold zBt
      simp at h_1 ⊢
      omega)
  · skip
    refine zq (σ := σ) hV hI rfl 4 ?_
    show zSp _ 11 [.ref 21] σ (fun r σ' => σ'.2.2.2 = σ.2.2.2 + zAl 11 → V 12 [(0, .ref 0), (1, .int v)] (r.toList ++ [.int v]) σ')
    refine gsize_ok (zR_of hI rfl rfl) (fun _ => ?_)
    refine zq (σ := σ) hV hI rfl 1 ?_
    show ((σ.1 21 2) ≤ v → V 19 [(0, .ref 0), (1, .int v)] [] σ) ∧ (¬ (σ.1 21 2) ≤ v → V 15 [(0, .ref 0), (1, .int v)] [] σ)
    refine ⟨fun h_12 => ?_, fun h_12 => ?_⟩
    · skip
      refine zq (σ := σ) hV hI rfl 2 ?_
      show ((0 : Int32) = 0 ∨ (0 : Int32) = 1) ∧ K (some (.int 0)) σ
      refine ⟨by decide, ?_⟩
      refine h0 (by
        simp only [zlt, zle, hs, hni] at h_1 h_12
        unfold zBt
        simp at h_1 h_12 ⊢
        omega)
    · skip
      refine zq (σ := σ) hV hI rfl 3 ?_
      show ((1 : Int32) = 0 ∨ (1 : Int32) = 1) ∧ K (some (.int 1)) σ
      refine ⟨by decide, ?_⟩
      refine h1 (by
        simp only [zlt, zle, hs, hni] at h_1 h_12
        unfold zBt
        simp at h_1 h_12 ⊢
        omega)
set_option maxRecDepth 8000 in
set_option maxHeartbeats 4000000 in
theorem isDropped_ok {d : Nat} {σ : zSt} {K : Option Value → zSt → Prop} {v : Int32} {m : Nat} (hI : zQI (kR 0 30) σ.2.2) (hs : σ.1 24 2 = nI m) (hm : m ≤ 16) (h1 : zBt 0 (m - 1) v → K (some (.int 1)) σ) (h0 : ¬ zBt 0 (m - 1) v → K (some (.int 0)) σ) : zSp (d + 2) mX8_isDropped [.ref 0, .int v] σ K := by
  refine ⟨⟨by decide, Nat.le_of_ble_eq_true rfl⟩, fun V hV => ?_⟩
  have hni := nI_toInt (show m < 2 ^ 31 by omega)
  refine zq (σ := σ) hV hI rfl 2 ?_
  show (v < 0 → V 19 [(0, .ref 0), (1, .int v)] [] σ) ∧ (¬ v < 0 → V 4 [(0, .ref 0), (1, .int v)] [] σ)
  refine ⟨fun h_1 => ?_, fun h_1 => ?_⟩
  · skip
    refine zq (σ := σ) hV hI rfl 2 ?_
    show ((0 : Int32) = 0 ∨ (0 : Int32) = 1) ∧ K (some (.int 0)) σ
    refine ⟨by decide, ?_⟩
    refine h0 (by
      simp only [zlt, zle, hs, hni] at h_1
      unfold zBt
      simp at h_1 ⊢
      omega)
  · skip
    refine zq (σ := σ) hV hI rfl 4 ?_
    show zSp _ 1 [.ref 24] σ (fun r σ' => σ'.2.2.2 = σ.2.2.2 + zAl 1 → V 12 [(0, .ref 0), (1, .int v)] (r.toList ++ [.int v]) σ')
    refine bdropped_ok (zR_of hI rfl rfl) (fun _ => ?_)
    refine zq (σ := σ) hV hI rfl 1 ?_
    show ((σ.1 24 2) ≤ v → V 19 [(0, .ref 0), (1, .int v)] [] σ) ∧ (¬ (σ.1 24 2) ≤ v → V 15 [(0, .ref 0), (1, .int v)] [] σ)
    refine ⟨fun h_12 => ?_, fun h_12 => ?_⟩
    · skip
      refine zq (σ := σ) hV hI rfl 2 ?_
      show ((0 : Int32) = 0 ∨ (0 : Int32) = 1) ∧ K (some (.int 0)) σ
      refine ⟨by decide, ?_⟩
      refine h0 (by
        simp only [zlt, zle, hs, hni] at h_1 h_12
        unfold zBt
        simp at h_1 h_12 ⊢
        omega)
    · skip
      refine zq (σ := σ) hV hI rfl 3 ?_
      show ((1 : Int32) = 0 ∨ (1 : Int32) = 1) ∧ K (some (.int 1)) σ
      refine ⟨by decide, ?_⟩
      refine h1 (by
        simp only [zlt, zle, hs, hni] at h_1 h_12
        unfold zBt
        simp at h_1 h_12 ⊢
        omega)
set_option maxRecDepth 8000 in
set_option maxHeartbeats 4000000 in
theorem isHeldBy_4 {d : Nat} {σ : zSt} {K : Option Value → zSt → Prop} {n m : Nat} (hI : zQI (kR 0 30) σ.2.2) (hn : σ.1 1 2 = nI n) (hn10 : n ≤ 10) (hs : σ.1 4 2 = nI m) (hm : m ≤ 8) (hE : ∀ i, i < m → ∃ e, σ.1 5 i = nI e ∧ e < n) (h1 : ∀ τ, zOnly zfW σ τ → zHo n (σ.1 2) (σ.1 3) (σ.1 0 9) (σ.1 5) (σ.1 6) m → K (some (.int 1)) τ) (h0 : ∀ τ, zOnly zfW σ τ → ¬ zHo n (σ.1 2) (σ.1 3) (σ.1 0 9) (σ.1 5) (σ.1 6) m → K (some (.int 0)) τ) : zSp (d + 4) mX8_isHeldBy [.ref 0, .ref 4] σ K := by
  refine ⟨⟨by decide, Nat.le_of_ble_eq_true rfl⟩, fun V hV => ?_⟩
  refine zq (σ := σ) hV hI rfl 8 ?_
  show zSp _ 68 [.ref 10, .ref 4, .ref 1, .int (σ.1 0 9)] σ (fun r σ' => σ'.2.2.2 = σ.2.2.2 + zAl 68 → V 16 [(0, .ref 0), (1, .ref 4)] (r.toList ++ []) σ')
  refine press_4 (zR_of hI rfl rfl) hn hn10 hs hm hE (fun τ ht h10 hT _ => ?_)
  have hIt := zQI_eq hI ht.2.2
  have hnt : τ.2.2.2 = σ.2.2.2 := congrArg Prod.snd ht.2.2
  refine zq (σ := τ) hV hIt hnt 3 ?_
  show zSp _ 70 [.ref 10] τ (fun r σ' => σ'.2.2.2 = τ.2.2.2 + zAl 70 → V 23 [(0, .ref 0), (1, .ref 4)] (r.toList ++ []) σ')
  refine spread_ok (zR_of hIt rfl rfl) (m := zMl (σ.1 0 9) m) h10 (zMl_le hm) (fun υ hu hq _ => ?_) (fun υ hu hq _ => ?_) (fun υ u v hu hq j4 j5 j6 _ => ?_)
  · skip
    have hto : zOnly zfW σ υ := (ht.wk zfT_W).tr (hu.wk zfJ_W)
    have hIu := zQI_eq hI hto.2.2
    have hnu : υ.2.2.2 = σ.2.2.2 := congrArg Prod.snd hto.2.2
    refine zq (σ := υ) hV hIu hnu 2 ?_
    show (¬ (2 : Int32) = 2 → V 31 [(0, .ref 0), (1, .ref 4)] [] υ) ∧ (¬ (¬ (2 : Int32) = 2) → V 27 [(0, .ref 0), (1, .ref 4)] [] υ)
    refine ⟨fun hc => absurd hc (by decide), fun _ => ?_⟩
    refine zq (σ := υ) hV hIu hnu 3 ?_
    show ((1 : Int32) = 0 ∨ (1 : Int32) = 1) ∧ K (some (.int 1)) υ
    refine ⟨by decide, ?_⟩
    exact h1 υ hto ((zHold_congr (zTok_l hT)).mp hq)
  · skip
    have hto : zOnly zfW σ υ := (ht.wk zfT_W).tr (hu.wk zfJ_W)
    have hIu := zQI_eq hI hto.2.2
    have hnu : υ.2.2.2 = σ.2.2.2 := congrArg Prod.snd hto.2.2
    refine zq (σ := υ) hV hIu hnu 2 ?_
    show (¬ (0 : Int32) = 2 → V 31 [(0, .ref 0), (1, .ref 4)] [] υ) ∧ (¬ (¬ (0 : Int32) = 2) → V 27 [(0, .ref 0), (1, .ref 4)] [] υ)
    refine ⟨fun _ => ?_, fun hc => absurd (by decide) hc⟩
    refine zq (σ := υ) hV hIu hnu 2 ?_
    show ((0 : Int32) = 0 ∨ (0 : Int32) = 1) ∧ K (some (.int 0)) υ
    refine ⟨by decide, ?_⟩
    exact h0 υ hto (fun q => by
      obtain ⟨⟨u, v, a, b, c⟩, _⟩ := (zHold_congr (zTok_l hT)).mpr q
      exact hq u v a b c)
  · skip
    have hto : zOnly zfW σ υ := (ht.wk zfT_W).tr (hu.wk zfJ_W)
    have hIu := zQI_eq hI hto.2.2
    have hnu : υ.2.2.2 = σ.2.2.2 := congrArg Prod.snd hto.2.2
    cases hbo : (zBe (zA11 τ) (zA12 τ) (zA13 τ) (zMl (σ.1 0 9) m) u v || zAe (zA11 τ) (zA12 τ) (zA13 τ) (zMl (σ.1 0 9) m) u v)
    · skip
      refine zq (σ := υ) hV hIu hnu 2 ?_
      show (¬ (0 : Int32) = 2 → V 31 [(0, .ref 0), (1, .ref 4)] [] υ) ∧ (¬ (¬ (0 : Int32) = 2) → V 27 [(0, .ref 0), (1, .ref 4)] [] υ)
      refine ⟨fun _ => ?_, fun hc => absurd (by decide) hc⟩
      refine zq (σ := υ) hV hIu hnu 2 ?_
      show ((0 : Int32) = 0 ∨ (0 : Int32) = 1) ∧ K (some (.int 0)) υ
      refine ⟨by decide, ?_⟩
      exact h0 υ hto (fun q => zHold_nF ((zHold_congr (zTok_l hT)).mpr q) hq)
    · skip
      refine zq (σ := υ) hV hIu hnu 2 ?_
      show (¬ (1 : Int32) = 2 → V 31 [(0, .ref 0), (1, .ref 4)] [] υ) ∧ (¬ (¬ (1 : Int32) = 2) → V 27 [(0, .ref 0), (1, .ref 4)] [] υ)
      refine ⟨fun _ => ?_, fun hc => absurd (by decide) hc⟩
      refine zq (σ := υ) hV hIu hnu 2 ?_
      show ((0 : Int32) = 0 ∨ (0 : Int32) = 1) ∧ K (some (.int 0)) υ
      refine ⟨by decide, ?_⟩
      exact h0 υ hto (fun q => zHold_nF ((zHold_congr (zTok_l hT)).mpr q) hq)
set_option maxRecDepth 8000 in
set_option maxHeartbeats 4000000 in
theorem isHeldBy_7 {d : Nat} {σ : zSt} {K : Option Value → zSt → Prop} {n m : Nat} (hI : zQI (kR 0 30) σ.2.2) (hn : σ.1 1 2 = nI n) (hn10 : n ≤ 10) (hs : σ.1 7 2 = nI m) (hm : m ≤ 8) (hE : ∀ i, i < m → ∃ e, σ.1 8 i = nI e ∧ e < n) (h1 : ∀ τ, zOnly zfW σ τ → zHo n (σ.1 2) (σ.1 3) (σ.1 0 9) (σ.1 8) (σ.1 9) m → K (some (.int 1)) τ) (h0 : ∀ τ, zOnly zfW σ τ → ¬ zHo n (σ.1 2) (σ.1 3) (σ.1 0 9) (σ.1 8) (σ.1 9) m → K (some (.int 0)) τ) : zSp (d + 4) mX8_isHeldBy [.ref 0, .ref 7] σ K := by
  refine ⟨⟨by decide, Nat.le_of_ble_eq_true rfl⟩, fun V hV => ?_⟩
  refine zq (σ := σ) hV hI rfl 8 ?_
  show zSp _ 68 [.ref 10, .ref 7, .ref 1, .int (σ.1 0 9)] σ (fun r σ' => σ'.2.2.2 = σ.2.2.2 + zAl 68 → V 16 [(0, .ref 0), (1, .ref 7)] (r.toList ++ []) σ')
  refine press_7 (zR_of hI rfl rfl) hn hn10 hs hm hE (fun τ ht h10 hT _ => ?_)
  have hIt := zQI_eq hI ht.2.2
  have hnt : τ.2.2.2 = σ.2.2.2 := congrArg Prod.snd ht.2.2
  refine zq (σ := τ) hV hIt hnt 3 ?_
  show zSp _ 70 [.ref 10] τ (fun r σ' => σ'.2.2.2 = τ.2.2.2 + zAl 70 → V 23 [(0, .ref 0), (1, .ref 7)] (r.toList ++ []) σ')
  refine spread_ok (zR_of hIt rfl rfl) (m := zMl (σ.1 0 9) m) h10 (zMl_le hm) (fun υ hu hq _ => ?_) (fun υ hu hq _ => ?_) (fun υ u v hu hq j4 j5 j6 _ => ?_)
  · skip
    have hto : zOnly zfW σ υ := (ht.wk zfT_W).tr (hu.wk zfJ_W)
    have hIu := zQI_eq hI hto.2.2
    have hnu : υ.2.2.2 = σ.2.2.2 := congrArg Prod.snd hto.2.2
    refine zq (σ := υ) hV hIu hnu 2 ?_
    show (¬ (2 : Int32) = 2 → V 31 [(0, .ref 0), (1, .ref 7)] [] υ) ∧ (¬ (¬ (2 : Int32) = 2) → V 27 [(0, .ref 0), (1, .ref 7)] [] υ)
    refine ⟨fun hc => absurd hc (by decide), fun _ => ?_⟩
    refine zq (σ := υ) hV hIu hnu 3 ?_
    show ((1 : Int32) = 0 ∨ (1 : Int32) = 1) ∧ K (some (.int 1)) υ
    refine ⟨by decide, ?_⟩
    exact h1 υ hto ((zHold_congr (zTok_l hT)).mp hq)
  · skip
    have hto : zOnly zfW σ υ := (ht.wk zfT_W).tr (hu.wk zfJ_W)
    have hIu := zQI_eq hI hto.2.2
    have hnu : υ.2.2.2 = σ.2.2.2 := congrArg Prod.snd hto.2.2
    refine zq (σ := υ) hV hIu hnu 2 ?_
    show (¬ (0 : Int32) = 2 → V 31 [(0, .ref 0), (1, .ref 7)] [] υ) ∧ (¬ (¬ (0 : Int32) = 2) → V 27 [(0, .ref 0), (1, .ref 7)] [] υ)
    refine ⟨fun _ => ?_, fun hc => absurd (by decide) hc⟩
    refine zq (σ := υ) hV hIu hnu 2 ?_
    show ((0 : Int32) = 0 ∨ (0 : Int32) = 1) ∧ K (some (.int 0)) υ
    refine ⟨by decide, ?_⟩
    exact h0 υ hto (fun q => by
      obtain ⟨⟨u, v, a, b, c⟩, _⟩ := (zHold_congr (zTok_l hT)).mpr q
      exact hq u v a b c)
  · skip
    have hto : zOnly zfW σ υ := (ht.wk zfT_W).tr (hu.wk zfJ_W)
    have hIu := zQI_eq hI hto.2.2
    have hnu : υ.2.2.2 = σ.2.2.2 := congrArg Prod.snd hto.2.2
    cases hbo : (zBe (zA11 τ) (zA12 τ) (zA13 τ) (zMl (σ.1 0 9) m) u v || zAe (zA11 τ) (zA12 τ) (zA13 τ) (zMl (σ.1 0 9) m) u v)
    · skip
      refine zq (σ := υ) hV hIu hnu 2 ?_
      show (¬ (0 : Int32) = 2 → V 31 [(0, .ref 0), (1, .ref 7)] [] υ) ∧ (¬ (¬ (0 : Int32) = 2) → V 27 [(0, .ref 0), (1, .ref 7)] [] υ)
      refine ⟨fun _ => ?_, fun hc => absurd (by decide) hc⟩
      refine zq (σ := υ) hV hIu hnu 2 ?_
      show ((0 : Int32) = 0 ∨ (0 : Int32) = 1) ∧ K (some (.int 0)) υ
      refine ⟨by decide, ?_⟩
      exact h0 υ hto (fun q => zHold_nF ((zHold_congr (zTok_l hT)).mpr q) hq)
    · skip
      refine zq (σ := υ) hV hIu hnu 2 ?_
      show (¬ (1 : Int32) = 2 → V 31 [(0, .ref 0), (1, .ref 7)] [] υ) ∧ (¬ (¬ (1 : Int32) = 2) → V 27 [(0, .ref 0), (1, .ref 7)] [] υ)
      refine ⟨fun _ => ?_, fun hc => absurd (by decide) hc⟩
      refine zq (σ := υ) hV hIu hnu 2 ?_
      show ((0 : Int32) = 0 ∨ (0 : Int32) = 1) ∧ K (some (.int 0)) υ
      refine ⟨by decide, ?_⟩
      exact h0 υ hto (fun q => zHold_nF ((zHold_congr (zTok_l hT)).mpr q) hq)
set_option maxRecDepth 8000 in
set_option maxHeartbeats 4000000 in
theorem holds_C {d : Nat} {σ : zSt} {K : Option Value → zSt → Prop} {n m : Nat} (hI : zQI (kR 0 30) σ.2.2) (hn : σ.1 1 2 = nI n) (hn10 : n ≤ 10) (hs : σ.1 4 2 = nI m) (hm : m ≤ 8) (hE : ∀ i, i < m → ∃ e, σ.1 5 i = nI e ∧ e < n) (h1 : ∀ τ, zOnly zfW σ τ → zHo n (σ.1 2) (σ.1 3) (σ.1 0 9) (σ.1 5) (σ.1 6) m → K (some (.int 1)) τ) (h0 : ∀ τ, zOnly zfW σ τ → ¬ zHo n (σ.1 2) (σ.1 3) (σ.1 0 9) (σ.1 5) (σ.1 6) m → K (some (.int 0)) τ) : zSp (d + 5) mX8_holds [.ref 0] σ K := by
  refine ⟨⟨by decide, Nat.le_of_ble_eq_true rfl⟩, fun V hV => ?_⟩
  refine zq (σ := σ) hV hI rfl 4 ?_
  show zSp _ 92 [.ref 0, .ref 4] σ (fun r σ' => σ'.2.2.2 = σ.2.2.2 + zAl 92 → V 8 [(0, .ref 0)] (r.toList ++ []) σ')
  refine isHeldBy_4 (zR_of hI rfl rfl) hn hn10 hs hm hE (fun υ hu hq _ => ?_) (fun υ hu hq _ => ?_)
  · skip
    have hIu := zQI_eq hI hu.2.2
    have hnu : υ.2.2.2 = σ.2.2.2 := (congrArg Prod.snd hu.2.2).trans rfl
    refine zq (σ := υ) hV hIu hnu 1 ?_
    show ((1 : Int32) = 0 → V 15 [(0, .ref 0)] [] υ) ∧ (¬ (1 : Int32) = 0 → V 11 [(0, .ref 0)] [] υ)
    refine ⟨fun hc => absurd hc (by decide), fun _ => ?_⟩
    refine zq (σ := υ) hV hIu hnu 3 ?_
    show K (some (.int 1)) υ
    exact h1 υ hu hq
  · skip
    have hIu := zQI_eq hI hu.2.2
    have hnu : υ.2.2.2 = σ.2.2.2 := (congrArg Prod.snd hu.2.2).trans rfl
    refine zq (σ := υ) hV hIu hnu 1 ?_
    show ((0 : Int32) = 0 → V 15 [(0, .ref 0)] [] υ) ∧ (¬ (0 : Int32) = 0 → V 11 [(0, .ref 0)] [] υ)
    refine ⟨fun _ => ?_, fun hc => absurd (by decide) hc⟩
    refine zq (σ := υ) hV hIu hnu 2 ?_
    show K (some (.int 0)) υ
    exact h0 υ hu hq
def zRf (c : Int32) : Int64 := -9223372036854775808 - Int32.toInt64 c
set_option maxRecDepth 8000 in
set_option maxHeartbeats 4000000 in
theorem refusal_ok {d : Nat} {σ : zSt} {K : Option Value → zSt → Prop} {c : Int32} (hK : K (some (.long (zRf c))) σ) : zSp (d + 1) mX8_refusal [.int c] σ K := by
  refine ⟨⟨by decide, Nat.le_of_ble_eq_true rfl⟩, fun V hV => ?_⟩
  refine zq (σ := σ) hV zQI_0 rfl 5 ?_
  show K (some (.long ((-9223372036854775808) - (Int32.toInt64 c)))) σ
  exact hK
set_option maxRecDepth 8000 in
set_option maxHeartbeats 4000000 in
theorem push_C {d : Nat} {σ : zSt} {K : Option Value → zSt → Prop} {t w : Int32} {n m : Nat} (hI : zQI (kR 0 30) σ.2.2) (hn : σ.1 1 2 = nI n) (hn10 : n ≤ 10) (hs : σ.1 4 2 = nI m) (hm : m ≤ 8) (hE : ∀ i, i < m → ∃ e, σ.1 5 i = nI e ∧ e < n) (hBad : ∀ τ, zOnly zfW σ τ → ¬ (zBt 0 (zMl (σ.1 0 9) m - 1) t ∧ zBt 0 2 w) → K (some (.long (zRf (-2)))) τ) (hOk : ∀ τ k, zOnly zfW σ τ → t = nI k → k < zMl (σ.1 0 9) m → zBt 0 2 w → K (some (.long (Int32.toInt64 (if w = 0 then zT1 n (σ.1 2) (σ.1 3) (σ.1 0 9) (σ.1 5) k else if w = 1 then zT2 n (σ.1 2) (σ.1 3) (σ.1 0 9) (σ.1 5) k else zT3 n (σ.1 2) (σ.1 3) (σ.1 0 9) (σ.1 5) (σ.1 6) k)))) τ) : zSp (d + 4) mX8_push [.ref 0, .int t, .int w] σ K := by
  refine ⟨⟨by decide, Nat.le_of_ble_eq_true rfl⟩, fun V hV => ?_⟩
  refine zq (σ := σ) hV hI rfl 9 ?_
  show zSp _ 68 [.ref 10, .ref 4, .ref 1, .int (σ.1 0 9)] σ (fun r σ' => σ'.2.2.2 = σ.2.2.2 + zAl 68 → V 19 [(0, .ref 0), (1, .int t), (2, .int w)] (r.toList ++ []) σ')
  refine press_4 (zR_of hI rfl rfl) hn hn10 hs hm hE (fun τ ht h10 hT _ => ?_)
  have hIt := zQI_eq hI ht.2.2
  have hnt : τ.2.2.2 = σ.2.2.2 := congrArg Prod.snd ht.2.2
  refine zq (σ := τ) hV hIt hnt 2 ?_
  show (t < 0 → V 41 [(0, .ref 0), (1, .int t), (2, .int w)] [] τ) ∧ (¬ t < 0 → V 23 [(0, .ref 0), (1, .int t), (2, .int w)] [] τ)
  refine ⟨fun h_20 => ?_, fun h_20 => ?_⟩
  · skip
    refine zq (σ := τ) hV hIt hnt 2 ?_
    show zSp _ 117 [.int (-2)] τ (fun r σ' => σ'.2.2.2 = τ.2.2.2 + zAl 117 → V 46 [(0, .ref 0), (1, .int t), (2, .int w)] (r.toList ++ []) σ')
    refine refusal_ok  (fun _ => ?_)
    refine zq (σ := τ) hV hIt hnt 1 ?_
    show K (some (.long (zRf (-2)))) τ
    have hto := ht.wk zfT_W
    refine hBad τ hto (fun q => ?_)
    obtain ⟨⟨q1, q2⟩, q3⟩ := q
    have hml := @zMl_le (σ.1 0 9) m hm
    simp only [zlt, zle, h10, nI_toInt (show zMl (σ.1 0 9) m < 2 ^ 31 by omega)] at h_20
    simp at h_20
    omega
  · skip
    refine zq (σ := τ) hV hIt hnt 4 ?_
    show zSp _ 66 [.ref 10] τ (fun r σ' => σ'.2.2.2 = τ.2.2.2 + zAl 66 → V 31 [(0, .ref 0), (1, .int t), (2, .int w)] (r.toList ++ [.int t]) σ')
    refine tsize_ok (zR_of hIt rfl rfl) (fun _ => ?_)
    refine zq (σ := τ) hV hIt hnt 1 ?_
    show ((τ.1 10 3) ≤ t → V 41 [(0, .ref 0), (1, .int t), (2, .int w)] [] τ) ∧ (¬ (τ.1 10 3) ≤ t → V 34 [(0, .ref 0), (1, .int t), (2, .int w)] [] τ)
    refine ⟨fun h_31 => ?_, fun h_31 => ?_⟩
    · skip
      refine zq (σ := τ) hV hIt hnt 2 ?_
      show zSp _ 117 [.int (-2)] τ (fun r σ' => σ'.2.2.2 = τ.2.2.2 + zAl 117 → V 46 [(0, .ref 0), (1, .int t), (2, .int w)] (r.toList ++ []) σ')
      refine refusal_ok  (fun _ => ?_)
      refine zq (σ := τ) hV hIt hnt 1 ?_
      show K (some (.long (zRf (-2)))) τ
      have hto := ht.wk zfT_W
      refine hBad τ hto (fun q => ?_)
      obtain ⟨⟨q1, q2⟩, q3⟩ := q
      have hml := @zMl_le (σ.1 0 9) m hm
      simp only [zlt, zle, h10, nI_toInt (show zMl (σ.1 0 9) m < 2 ^ 31 by omega)] at h_20 h_31
      simp at h_20 h_31
      omega
    · skip
      refine zq (σ := τ) hV hIt hnt 2 ?_
      show zSp _ 121 [.int w] τ (fun r σ' => σ'.2.2.2 = τ.2.2.2 + zAl 121 → V 38 [(0, .ref 0), (1, .int t), (2, .int w)] (r.toList ++ []) σ')
      refine isTriplePart_ok (fun hb1 _ => ?_) (fun hb1 _ => ?_)
      · skip
        refine zq (σ := τ) hV hIt hnt 1 ?_
        show (¬ (1 : Int32) = 0 → V 47 [(0, .ref 0), (1, .int t), (2, .int w)] [] τ) ∧ (¬ (¬ (1 : Int32) = 0) → V 41 [(0, .ref 0), (1, .int t), (2, .int w)] [] τ)
        refine ⟨fun _ => ?_, fun hc => absurd (by decide) hc⟩
        refine zq (σ := τ) hV hIt hnt 5 ?_
        show zSp _ 67 [.ref 10, .int t, .int w] τ (fun r σ' => σ'.2.2.2 = τ.2.2.2 + zAl 67 → V 56 [(0, .ref 0), (1, .int t), (2, .int w)] (r.toList ++ []) σ')
        obtain ⟨k, hk, hk2, _⟩ := zNat (x := t) (by simp only [zlt] at h_20; simp at h_20; omega)
        have hkm : k < zMl (σ.1 0 9) m := by rw [h10, hk, nI_leI (by have := @zMl_le (σ.1 0 9) m hm; omega) (by omega)] at h_31; omega
        have hml := @zMl_le (σ.1 0 9) m hm
        refine tpart_ok (zR_of hIt rfl rfl) hk (by omega) (fun _ => ?_)
        rw [(hT k hkm).1, (hT k hkm).2.1, (hT k hkm).2.2]
        refine zq (σ := τ) hV hIt hnt 2 ?_
        show K (some (.long (Int32.toInt64 (if w = 0 then zT1 n (σ.1 2) (σ.1 3) (σ.1 0 9) (σ.1 5) k else if w = 1 then zT2 n (σ.1 2) (σ.1 3) (σ.1 0 9) (σ.1 5) k else zT3 n (σ.1 2) (σ.1 3) (σ.1 0 9) (σ.1 5) (σ.1 6) k)))) τ
        have hto := ht.wk zfT_W
        exact hOk τ k hto hk hkm hb1
      · skip
        refine zq (σ := τ) hV hIt hnt 1 ?_
        show (¬ (0 : Int32) = 0 → V 47 [(0, .ref 0), (1, .int t), (2, .int w)] [] τ) ∧ (¬ (¬ (0 : Int32) = 0) → V 41 [(0, .ref 0), (1, .int t), (2, .int w)] [] τ)
        refine ⟨fun hc => absurd hc (by decide), fun _ => ?_⟩
        refine zq (σ := τ) hV hIt hnt 2 ?_
        show zSp _ 117 [.int (-2)] τ (fun r σ' => σ'.2.2.2 = τ.2.2.2 + zAl 117 → V 46 [(0, .ref 0), (1, .int t), (2, .int w)] (r.toList ++ []) σ')
        refine refusal_ok  (fun _ => ?_)
        refine zq (σ := τ) hV hIt hnt 1 ?_
        show K (some (.long (zRf (-2)))) τ
        have hto := ht.wk zfT_W
        refine hBad τ hto (fun q => ?_)
        obtain ⟨⟨q1, q2⟩, q3⟩ := q
        exact hb1 q3
set_option maxRecDepth 8000 in
set_option maxHeartbeats 4000000 in
theorem witness_C {d : Nat} {σ : zSt} {K : Option Value → zSt → Prop} {w : Int32} {n m : Nat} (hI : zQI (kR 0 30) σ.2.2) (hn : σ.1 1 2 = nI n) (hn10 : n ≤ 10) (hs : σ.1 4 2 = nI m) (hm : m ≤ 8) (hE : ∀ i, i < m → ∃ e, σ.1 5 i = nI e ∧ e < n) (hBad : ¬ zBt 0 2 w → K (some (.long (zRf (-2)))) σ)
    (hVal : ∀ τ u v, zOnly zfW σ τ → zBt 0 2 w → zFst (zl (zT1 n (σ.1 2) (σ.1 3) (σ.1 0 9) (σ.1 5))) (zl (zT2 n (σ.1 2) (σ.1 3) (σ.1 0 9) (σ.1 5))) (zl (zT3 n (σ.1 2) (σ.1 3) (σ.1 0 9) (σ.1 5) (σ.1 6))) (zMl (σ.1 0 9) m) u v → (zBe (zl (zT1 n (σ.1 2) (σ.1 3) (σ.1 0 9) (σ.1 5))) (zl (zT2 n (σ.1 2) (σ.1 3) (σ.1 0 9) (σ.1 5))) (zl (zT3 n (σ.1 2) (σ.1 3) (σ.1 0 9) (σ.1 5) (σ.1 6))) (zMl (σ.1 0 9) m) u v || zAe (zl (zT1 n (σ.1 2) (σ.1 3) (σ.1 0 9) (σ.1 5))) (zl (zT2 n (σ.1 2) (σ.1 3) (σ.1 0 9) (σ.1 5))) (zl (zT3 n (σ.1 2) (σ.1 3) (σ.1 0 9) (σ.1 5) (σ.1 6))) (zMl (σ.1 0 9) m) u v) = true → K (some (.long (if w = 0 then zsn (zBe (zl (zT1 n (σ.1 2) (σ.1 3) (σ.1 0 9) (σ.1 5))) (zl (zT2 n (σ.1 2) (σ.1 3) (σ.1 0 9) (σ.1 5))) (zl (zT3 n (σ.1 2) (σ.1 3) (σ.1 0 9) (σ.1 5) (σ.1 6))) (zMl (σ.1 0 9) m) u v) (zX1 (zl (zT1 n (σ.1 2) (σ.1 3) (σ.1 0 9) (σ.1 5))) (zl (zT2 n (σ.1 2) (σ.1 3) (σ.1 0 9) (σ.1 5))) (zl (zT3 n (σ.1 2) (σ.1 3) (σ.1 0 9) (σ.1 5) (σ.1 6))) u v) else if w = 1 then zsn (zBe (zl (zT1 n (σ.1 2) (σ.1 3) (σ.1 0 9) (σ.1 5))) (zl (zT2 n (σ.1 2) (σ.1 3) (σ.1 0 9) (σ.1 5))) (zl (zT3 n (σ.1 2) (σ.1 3) (σ.1 0 9) (σ.1 5) (σ.1 6))) (zMl (σ.1 0 9) m) u v) (zX2 (zl (zT1 n (σ.1 2) (σ.1 3) (σ.1 0 9) (σ.1 5))) (zl (zT2 n (σ.1 2) (σ.1 3) (σ.1 0 9) (σ.1 5))) (zl (zT3 n (σ.1 2) (σ.1 3) (σ.1 0 9) (σ.1 5) (σ.1 6))) u v) else zsn (zBe (zl (zT1 n (σ.1 2) (σ.1 3) (σ.1 0 9) (σ.1 5))) (zl (zT2 n (σ.1 2) (σ.1 3) (σ.1 0 9) (σ.1 5))) (zl (zT3 n (σ.1 2) (σ.1 3) (σ.1 0 9) (σ.1 5) (σ.1 6))) (zMl (σ.1 0 9) m) u v) (zX3 (zl (zT1 n (σ.1 2) (σ.1 3) (σ.1 0 9) (σ.1 5))) (zl (zT2 n (σ.1 2) (σ.1 3) (σ.1 0 9) (σ.1 5))) (zl (zT3 n (σ.1 2) (σ.1 3) (σ.1 0 9) (σ.1 5) (σ.1 6))) u v)))) τ)
    (hNo : ∀ τ, zOnly zfW σ τ → zBt 0 2 w → (∀ u v, zFst (zl (zT1 n (σ.1 2) (σ.1 3) (σ.1 0 9) (σ.1 5))) (zl (zT2 n (σ.1 2) (σ.1 3) (σ.1 0 9) (σ.1 5))) (zl (zT3 n (σ.1 2) (σ.1 3) (σ.1 0 9) (σ.1 5) (σ.1 6))) (zMl (σ.1 0 9) m) u v → (zBe (zl (zT1 n (σ.1 2) (σ.1 3) (σ.1 0 9) (σ.1 5))) (zl (zT2 n (σ.1 2) (σ.1 3) (σ.1 0 9) (σ.1 5))) (zl (zT3 n (σ.1 2) (σ.1 3) (σ.1 0 9) (σ.1 5) (σ.1 6))) (zMl (σ.1 0 9) m) u v || zAe (zl (zT1 n (σ.1 2) (σ.1 3) (σ.1 0 9) (σ.1 5))) (zl (zT2 n (σ.1 2) (σ.1 3) (σ.1 0 9) (σ.1 5))) (zl (zT3 n (σ.1 2) (σ.1 3) (σ.1 0 9) (σ.1 5) (σ.1 6))) (zMl (σ.1 0 9) m) u v) = false) → K (some (.long (zRf (-3)))) τ) : zSp (d + 4) mX8_witness [.ref 0, .int w] σ K := by
  refine ⟨⟨by decide, Nat.le_of_ble_eq_true rfl⟩, fun V hV => ?_⟩
  refine zq (σ := σ) hV hI rfl 2 ?_
  show zSp _ 121 [.int w] σ (fun r σ' => σ'.2.2.2 = σ.2.2.2 + zAl 121 → V 4 [(0, .ref 0), (1, .int w)] (r.toList ++ []) σ')
  refine isTriplePart_ok (fun hb1 _ => ?_) (fun hb1 _ => ?_)
  · skip
    refine zq (σ := σ) hV hI rfl 1 ?_
    show (¬ (1 : Int32) = 0 → V 13 [(0, .ref 0), (1, .int w)] [] σ) ∧ (¬ (¬ (1 : Int32) = 0) → V 7 [(0, .ref 0), (1, .int w)] [] σ)
    refine ⟨fun _ => ?_, fun hc => absurd (by decide) hc⟩
    refine zq (σ := σ) hV hI rfl 9 ?_
    show zSp _ 68 [.ref 10, .ref 4, .ref 1, .int (σ.1 0 9)] σ (fun r σ' => σ'.2.2.2 = σ.2.2.2 + zAl 68 → V 32 [(0, .ref 0), (1, .int w)] (r.toList ++ []) σ')
    refine press_4 (zR_of hI rfl rfl) hn hn10 hs hm hE (fun τ ht h10 hT _ => ?_)
    have hIt := zQI_eq hI ht.2.2
    have hnt : τ.2.2.2 = σ.2.2.2 := congrArg Prod.snd ht.2.2
    refine zq (σ := τ) hV hIt hnt 3 ?_
    show zSp _ 70 [.ref 10] τ (fun r σ' => σ'.2.2.2 = τ.2.2.2 + zAl 70 → V 39 [(0, .ref 0), (1, .int w)] (r.toList ++ []) σ')
    refine spread_ok (zR_of hIt rfl rfl) (m := zMl (σ.1 0 9) m) h10 (zMl_le hm) (fun υ hu hq _ => ?_) (fun υ hu hq _ => ?_) (fun υ u v hu hq j4 j5 j6 _ => ?_)
    · skip
      have hto : zOnly zfW σ υ := (ht.wk zfT_W).tr (hu.wk zfJ_W)
      have hIu := zQI_eq hI hto.2.2
      have hnu : υ.2.2.2 = σ.2.2.2 := congrArg Prod.snd hto.2.2
      refine zq (σ := υ) hV hIu hnu 2 ?_
      show (¬ (2 : Int32) = 1 → V 54 [(0, .ref 0), (1, .int w)] [] υ) ∧ (¬ (¬ (2 : Int32) = 1) → V 43 [(0, .ref 0), (1, .int w)] [] υ)
      refine ⟨fun _ => ?_, fun hc => absurd (by decide) hc⟩
      refine zq (σ := υ) hV hIu hnu 2 ?_
      show zSp _ 117 [.int (-3)] υ (fun r σ' => σ'.2.2.2 = υ.2.2.2 + zAl 117 → V 59 [(0, .ref 0), (1, .int w)] (r.toList ++ []) σ')
      refine refusal_ok  (fun _ => ?_)
      refine zq (σ := υ) hV hIu hnu 1 ?_
      show K (some (.long (zRf (-3)))) υ
      refine hNo υ hto hb1 (fun u1 v1 q => ?_)
      have q2 := (zFst_congr (zTok_l hT)).mpr q
      exact (zHold_nF hq q2).elim
    · skip
      have hto : zOnly zfW σ υ := (ht.wk zfT_W).tr (hu.wk zfJ_W)
      have hIu := zQI_eq hI hto.2.2
      have hnu : υ.2.2.2 = σ.2.2.2 := congrArg Prod.snd hto.2.2
      refine zq (σ := υ) hV hIu hnu 2 ?_
      show (¬ (0 : Int32) = 1 → V 54 [(0, .ref 0), (1, .int w)] [] υ) ∧ (¬ (¬ (0 : Int32) = 1) → V 43 [(0, .ref 0), (1, .int w)] [] υ)
      refine ⟨fun _ => ?_, fun hc => absurd (by decide) hc⟩
      refine zq (σ := υ) hV hIu hnu 2 ?_
      show zSp _ 117 [.int (-3)] υ (fun r σ' => σ'.2.2.2 = υ.2.2.2 + zAl 117 → V 59 [(0, .ref 0), (1, .int w)] (r.toList ++ []) σ')
      refine refusal_ok  (fun _ => ?_)
      refine zq (σ := υ) hV hIu hnu 1 ?_
      show K (some (.long (zRf (-3)))) υ
      refine hNo υ hto hb1 (fun u1 v1 q => ?_)
      have q2 := (zFst_congr (zTok_l hT)).mpr q
      exact absurd q2.1.2.2.1 (hq u1 v1 q2.1.1 q2.1.2.1)
    · skip
      have hto : zOnly zfW σ υ := (ht.wk zfT_W).tr (hu.wk zfJ_W)
      have hIu := zQI_eq hI hto.2.2
      have hnu : υ.2.2.2 = σ.2.2.2 := congrArg Prod.snd hto.2.2
      cases hbo : (zBe (zA11 τ) (zA12 τ) (zA13 τ) (zMl (σ.1 0 9) m) u v || zAe (zA11 τ) (zA12 τ) (zA13 τ) (zMl (σ.1 0 9) m) u v)
      · skip
        refine zq (σ := υ) hV hIu hnu 2 ?_
        show (¬ (0 : Int32) = 1 → V 54 [(0, .ref 0), (1, .int w)] [] υ) ∧ (¬ (¬ (0 : Int32) = 1) → V 43 [(0, .ref 0), (1, .int w)] [] υ)
        refine ⟨fun _ => ?_, fun hc => absurd (by decide) hc⟩
        refine zq (σ := υ) hV hIu hnu 2 ?_
        show zSp _ 117 [.int (-3)] υ (fun r σ' => σ'.2.2.2 = υ.2.2.2 + zAl 117 → V 59 [(0, .ref 0), (1, .int w)] (r.toList ++ []) σ')
        refine refusal_ok  (fun _ => ?_)
        refine zq (σ := υ) hV hIu hnu 1 ?_
        show K (some (.long (zRf (-3)))) υ
        refine hNo υ hto hb1 (fun u1 v1 q => ?_)
        have q2 := (zFst_congr (zTok_l hT)).mpr q
        obtain ⟨rfl, rfl⟩ := zFst_one hq q2
        obtain ⟨f1, f2⟩ := zBe_congr (zTok_l hT) (u := u) (v := v) (by have := hq.1.1; have := hq.1.2.1; omega) hq.1.2.1
        rw [f1, f2] at hbo
        exact hbo
      · skip
        refine zq (σ := υ) hV hIu hnu 2 ?_
        show (¬ (1 : Int32) = 1 → V 54 [(0, .ref 0), (1, .int w)] [] υ) ∧ (¬ (¬ (1 : Int32) = 1) → V 43 [(0, .ref 0), (1, .int w)] [] υ)
        refine ⟨fun hc => absurd hc (by decide), fun _ => ?_⟩
        refine zq (σ := υ) hV hIu hnu 4 ?_
        show zSp _ 72 [.ref 10, .int w] υ (fun r σ' => σ'.2.2.2 = υ.2.2.2 + zAl 72 → V 51 [(0, .ref 0), (1, .int w)] (r.toList ++ []) σ')
        refine tnormal_ok (zR_of hIu rfl rfl) (fun _ => ?_)
        refine zq (σ := υ) hV hIu hnu 2 ?_
        show K (some (.long (if w = 0 then υ.2.1 10 4 else if w = 1 then υ.2.1 10 5 else υ.2.1 10 6))) υ
        have hq2 := (zFst_congr (zTok_l hT)).mp hq
        obtain ⟨f1, f2⟩ := zBe_congr (zTok_l hT) (u := u) (v := v) (by have := hq.1.1; have := hq.1.2.1; omega) hq.1.2.1
        obtain ⟨x1, x2, x3⟩ := zNz_congr (zTok_l hT) (u := u) (v := v) (by have := hq.1.1; have := hq.1.2.1; omega) hq.1.2.1
        rw [f1, f2] at hbo
        rw [f1] at j4 j5 j6
        rw [x1] at j4
        rw [x2] at j5
        rw [x3] at j6
        rw [j4, j5, j6]
        exact hVal υ u v hto hb1 hq2 hbo
  · skip
    refine zq (σ := σ) hV hI rfl 1 ?_
    show (¬ (0 : Int32) = 0 → V 13 [(0, .ref 0), (1, .int w)] [] σ) ∧ (¬ (¬ (0 : Int32) = 0) → V 7 [(0, .ref 0), (1, .int w)] [] σ)
    refine ⟨fun hc => absurd hc (by decide), fun _ => ?_⟩
    refine zq (σ := σ) hV hI rfl 2 ?_
    show zSp _ 117 [.int (-2)] σ (fun r σ' => σ'.2.2.2 = σ.2.2.2 + zAl 117 → V 12 [(0, .ref 0), (1, .int w)] (r.toList ++ []) σ')
    refine refusal_ok  (fun _ => ?_)
    refine zq (σ := σ) hV hI rfl 1 ?_
    show K (some (.long (zRf (-2)))) σ
    exact hBad hb1
end
section
set_option maxRecDepth 8000 in
set_option maxHeartbeats 4000000 in
theorem finger_C {d : Nat} {σ : zSt} {K : Option Value → zSt → Prop} {e k : Int32} {n m : Nat} (hI : zQI (kR 0 30) σ.2.2) (hn : σ.1 1 2 = nI n) (hn10 : n ≤ 10) (hs : σ.1 4 2 = nI m) (hm : m ≤ 8) (hBad : ¬ (zBt 0 (n - 1) e ∧ zBt 0 8 k) → K (some (.int (-2))) σ) (hFull : (zBt 0 (n - 1) e ∧ zBt 0 8 k) → m = 8 → K (some (.int (-4))) σ) (hOk : (zBt 0 (n - 1) e ∧ zBt 0 8 k) → m < 8 → K (some (.int (nI m))) (zuI (zuI (zuI σ 5 m e) 6 m k) 4 2 (nI (m + 1)))) : zSp (d + 4) mX8_finger [.ref 0, .int e, .int k] σ K := by
  refine ⟨⟨by decide, Nat.le_of_ble_eq_true rfl⟩, fun V hV => ?_⟩
  have hmi := nI_toInt (show m < 2 ^ 31 by omega)
  refine zq (σ := σ) hV hI rfl 4 ?_
  show zSp _ 124 [.ref 0, .int e, .int k] σ (fun r σ' => σ'.2.2.2 = σ.2.2.2 + zAl 124 → V 6 [(0, .ref 0), (1, .int e), (2, .int k)] (r.toList ++ []) σ')
  refine isStand_ok (zR_of hI rfl rfl) hn (by omega) (fun hb1 _ => ?_) (fun hb1 _ => ?_)
  · skip
    refine zq (σ := σ) hV hI rfl 1 ?_
    show (¬ (1 : Int32) = 0 → V 12 [(0, .ref 0), (1, .int e), (2, .int k)] [] σ) ∧ (¬ (¬ (1 : Int32) = 0) → V 9 [(0, .ref 0), (1, .int e), (2, .int k)] [] σ)
    refine ⟨fun _ => ?_, fun hc => absurd (by decide) hc⟩
    refine zq (σ := σ) hV hI rfl 3 ?_
    show zSp _ 17 [.ref 4] σ (fun r σ' => σ'.2.2.2 = σ.2.2.2 + zAl 17 → V 19 [(0, .ref 0), (1, .int e), (2, .int k)] (r.toList ++ []) σ')
    refine hsize_4 (zR_of hI rfl rfl) (fun _ => ?_)
    refine zq (σ := σ) hV hI rfl 2 ?_
    show ((σ.1 4 2) < 8 → V 27 [(0, .ref 0), (1, .int e), (2, .int k)] [] σ) ∧ (¬ (σ.1 4 2) < 8 → V 24 [(0, .ref 0), (1, .int e), (2, .int k)] [] σ)
    refine ⟨fun h_21 => ?_, fun h_21 => ?_⟩
    · skip
      have h8 : m < 8 := by
        simp only [zlt, hs, hmi] at h_21
        simp at h_21
        omega
      refine zq (σ := σ) hV hI rfl 5 ?_
      show zSp _ 21 [.ref 4, .int e, .int k] σ (fun r σ' => σ'.2.2.2 = σ.2.2.2 + zAl 21 → V 36 [(0, .ref 0), (1, .int e), (2, .int k)] (r.toList ++ []) σ')
      refine hadd_4 (zR_of hI rfl rfl) (m := m) hs (by omega) (fun _ => ?_)
      refine zq (σ := (zuI (zuI (zuI σ 5 m e) 6 m k) 4 2 (nI (m + 1)))) hV hI rfl 3 ?_
      show zSp _ 17 [.ref 4] (zuI (zuI (zuI σ 5 m e) 6 m k) 4 2 (nI (m + 1))) (fun r σ' => σ'.2.2.2 = (zuI (zuI (zuI σ 5 m e) 6 m k) 4 2 (nI (m + 1))).2.2.2 + zAl 17 → V 43 [(0, .ref 0), (1, .int e), (2, .int k)] (r.toList ++ []) σ')
      refine hsize_4 (zR_of hI rfl rfl) (fun _ => ?_)
      refine zq (σ := (zuI (zuI (zuI σ 5 m e) 6 m k) 4 2 (nI (m + 1)))) hV hI rfl 3 ?_
      show K (some (.int ((nI (m + 1)) - 1))) (zuI (zuI (zuI σ 5 m e) 6 m k) 4 2 (nI (m + 1)))
      rw [nI_pred]
      exact hOk hb1 h8
    · skip
      refine zq (σ := σ) hV hI rfl 2 ?_
      show K (some (.int (-4))) σ
      refine hFull hb1 ?_
      simp only [zlt, hs, hmi] at h_21
      simp at h_21
      omega
  · skip
    refine zq (σ := σ) hV hI rfl 1 ?_
    show (¬ (0 : Int32) = 0 → V 12 [(0, .ref 0), (1, .int e), (2, .int k)] [] σ) ∧ (¬ (¬ (0 : Int32) = 0) → V 9 [(0, .ref 0), (1, .int e), (2, .int k)] [] σ)
    refine ⟨fun hc => absurd hc (by decide), fun _ => ?_⟩
    refine zq (σ := σ) hV hI rfl 2 ?_
    show K (some (.int (-2))) σ
    exact hBad hb1
set_option maxRecDepth 8000 in
set_option maxHeartbeats 4000000 in
theorem move_C {d : Nat} {σ : zSt} {K : Option Value → zSt → Prop} {v e k : Int32} {n m : Nat} (hI : zQI (kR 0 30) σ.2.2) (hn : σ.1 1 2 = nI n) (hn10 : n ≤ 10) (hs : σ.1 4 2 = nI m) (hm : m ≤ 8) (hBad : ¬ (zBt 0 (m - 1) v ∧ (zBt 0 (n - 1) e ∧ zBt 0 8 k)) → K (some (.int (-2))) σ) (hOk : ∀ j, v = nI j → j < m → (zBt 0 (n - 1) e ∧ zBt 0 8 k) → K (some (.int 1)) (zuI (zuI σ 5 j e) 6 j k)) : zSp (d + 3) mX8_move [.ref 0, .int v, .int e, .int k] σ K := by
  refine ⟨⟨by decide, Nat.le_of_ble_eq_true rfl⟩, fun V hV => ?_⟩
  refine zq (σ := σ) hV hI rfl 3 ?_
  show zSp _ 125 [.ref 0, .int v] σ (fun r σ' => σ'.2.2.2 = σ.2.2.2 + zAl 125 → V 5 [(0, .ref 0), (1, .int v), (2, .int e), (3, .int k)] (r.toList ++ []) σ')
  refine isFinger_ok (zR_of hI rfl rfl) hs (by omega) (fun hb1 _ => ?_) (fun hb1 _ => ?_)
  · skip
    refine zq (σ := σ) hV hI rfl 1 ?_
    show ((1 : Int32) = 0 → V 17 [(0, .ref 0), (1, .int v), (2, .int e), (3, .int k)] [] σ) ∧ (¬ (1 : Int32) = 0 → V 8 [(0, .ref 0), (1, .int v), (2, .int e), (3, .int k)] [] σ)
    refine ⟨fun hc => absurd hc (by decide), fun _ => ?_⟩
    refine zq (σ := σ) hV hI rfl 4 ?_
    show zSp _ 124 [.ref 0, .int e, .int k] σ (fun r σ' => σ'.2.2.2 = σ.2.2.2 + zAl 124 → V 14 [(0, .ref 0), (1, .int v), (2, .int e), (3, .int k)] (r.toList ++ []) σ')
    refine isStand_ok (zR_of hI rfl rfl) hn (by omega) (fun hb2 _ => ?_) (fun hb2 _ => ?_)
    · skip
      refine zq (σ := σ) hV hI rfl 1 ?_
      show (¬ (1 : Int32) = 0 → V 20 [(0, .ref 0), (1, .int v), (2, .int e), (3, .int k)] [] σ) ∧ (¬ (¬ (1 : Int32) = 0) → V 17 [(0, .ref 0), (1, .int v), (2, .int e), (3, .int k)] [] σ)
      refine ⟨fun _ => ?_, fun hc => absurd (by decide) hc⟩
      refine zq (σ := σ) hV hI rfl 6 ?_
      show zSp _ 22 [.ref 4, .int v, .int e, .int k] σ (fun r σ' => σ'.2.2.2 = σ.2.2.2 + zAl 22 → V 30 [(0, .ref 0), (1, .int v), (2, .int e), (3, .int k)] (r.toList ++ []) σ')
      obtain ⟨j, hj, hj2, _⟩ := zNat (x := v) (by unfold zBt at hb1; omega)
      have hjm : j < m := by unfold zBt at hb1; omega
      refine hstand_4 (zR_of hI rfl rfl) hj (by omega) (fun _ => ?_)
      refine zq (σ := (zuI (zuI σ 5 j e) 6 j k)) hV hI rfl 2 ?_
      show K (some (.int 1)) (zuI (zuI σ 5 j e) 6 j k)
      exact hOk j hj hjm hb2
    · skip
      refine zq (σ := σ) hV hI rfl 1 ?_
      show (¬ (0 : Int32) = 0 → V 20 [(0, .ref 0), (1, .int v), (2, .int e), (3, .int k)] [] σ) ∧ (¬ (¬ (0 : Int32) = 0) → V 17 [(0, .ref 0), (1, .int v), (2, .int e), (3, .int k)] [] σ)
      refine ⟨fun hc => absurd hc (by decide), fun _ => ?_⟩
      refine zq (σ := σ) hV hI rfl 2 ?_
      show K (some (.int (-2))) σ
      exact hBad (fun q => hb2 q.2)
  · skip
    refine zq (σ := σ) hV hI rfl 1 ?_
    show ((0 : Int32) = 0 → V 17 [(0, .ref 0), (1, .int v), (2, .int e), (3, .int k)] [] σ) ∧ (¬ (0 : Int32) = 0 → V 8 [(0, .ref 0), (1, .int v), (2, .int e), (3, .int k)] [] σ)
    refine ⟨fun _ => ?_, fun hc => absurd (by decide) hc⟩
    refine zq (σ := σ) hV hI rfl 2 ?_
    show K (some (.int (-2))) σ
    exact hBad (fun q => hb1 q.1)
set_option maxRecDepth 8000 in
set_option maxHeartbeats 4000000 in
theorem release_C {d : Nat} {σ : zSt} {K : Option Value → zSt → Prop} (hI : zQI (kR 0 30) σ.2.2) (hK : K (some (.int (σ.1 4 2))) (zuI σ 4 2 0)) : zSp (d + 2) mX8_release [.ref 0] σ K := by
  refine ⟨⟨by decide, Nat.le_of_ble_eq_true rfl⟩, fun V hV => ?_⟩
  refine zq (σ := σ) hV hI rfl 3 ?_
  show zSp _ 17 [.ref 4] σ (fun r σ' => σ'.2.2.2 = σ.2.2.2 + zAl 17 → V 7 [(0, .ref 0)] (r.toList ++ []) σ')
  refine hsize_4 (zR_of hI rfl rfl) (fun _ => ?_)
  refine zq (σ := σ) hV hI rfl 4 ?_
  show zSp _ 20 [.ref 4] σ (fun r σ' => σ'.2.2.2 = σ.2.2.2 + zAl 20 → V 15 [(1, .int (σ.1 4 2)), (0, .ref 0)] (r.toList ++ []) σ')
  refine hclear_4 (zR_of hI rfl rfl) (fun _ => ?_)
  refine zq (σ := (zuI σ 4 2 0)) hV hI rfl 2 ?_
  show K (some (.int (σ.1 4 2))) (zuI σ 4 2 0)
  exact hK
set_option maxRecDepth 8000 in
set_option maxHeartbeats 4000000 in
theorem friction_C {d : Nat} {σ : zSt} {K : Option Value → zSt → Prop} {f : Int32} (hI : zQI (kR 0 30) σ.2.2) (hBad : ¬ zBt 0 16 f → K (some (.int (-2))) σ) (hOk : zBt 0 16 f → K (some (.int (σ.1 0 9))) (zuI σ 0 9 f)) : zSp (d + 1) mX8_friction [.ref 0, .int f] σ K := by
  refine ⟨⟨by decide, Nat.le_of_ble_eq_true rfl⟩, fun V hV => ?_⟩
  refine zq (σ := σ) hV hI rfl 2 ?_
  show (f < 0 → V 10 [(0, .ref 0), (1, .int f)] [] σ) ∧ (¬ f < 0 → V 4 [(0, .ref 0), (1, .int f)] [] σ)
  refine ⟨fun h_1 => ?_, fun h_1 => ?_⟩
  · skip
    refine zq (σ := σ) hV hI rfl 2 ?_
    show K (some (.int (-2))) σ
    exact hBad (by
      simp only [zlt, zle] at h_1
      unfold zBt
      simp at h_1 ⊢
      omega)
  · skip
    refine zq (σ := σ) hV hI rfl 3 ?_
    show (f ≤ 16 → V 13 [(0, .ref 0), (1, .int f)] [] σ) ∧ (¬ f ≤ 16 → V 10 [(0, .ref 0), (1, .int f)] [] σ)
    refine ⟨fun h_7 => ?_, fun h_7 => ?_⟩
    · skip
      refine zq (σ := σ) hV hI rfl 8 ?_
      show K (some (.int (σ.1 0 9))) (zuI σ 0 9 f)
      exact hOk (by
        simp only [zlt, zle] at h_1 h_7
        unfold zBt
        simp at h_1 h_7 ⊢
        omega)
    · skip
      refine zq (σ := σ) hV hI rfl 2 ?_
      show K (some (.int (-2))) σ
      exact hBad (by
        simp only [zlt, zle] at h_1 h_7
        unfold zBt
        simp at h_1 h_7 ⊢
        omega)
set_option maxRecDepth 8000 in
set_option maxHeartbeats 4000000 in
theorem corner_C {d : Nat} {σ : zSt} {K : Option Value → zSt → Prop} {i what : Int32} {n : Nat} (hI : zQI (kR 0 30) σ.2.2) (hn : σ.1 1 2 = nI n) (hn10 : n ≤ 10) (hBad : ¬ (zBt 0 (n - 1) i ∧ zBt 0 1 what) → K (some (.int (-1000))) σ) (hOk : ∀ k, i = nI k → k < n → zBt 0 (n - 1) i ∧ zBt 0 1 what → K (some (.int (if what = 0 then σ.1 2 k else σ.1 3 k))) σ) : zSp (d + 3) mX8_corner [.ref 0, .int i, .int what] σ K := by
  refine ⟨⟨by decide, Nat.le_of_ble_eq_true rfl⟩, fun V hV => ?_⟩
  have hni := nI_toInt (show n < 2 ^ 31 by omega)
  refine zq (σ := σ) hV hI rfl 2 ?_
  show (i < 0 → V 24 [(0, .ref 0), (1, .int i), (2, .int what)] [] σ) ∧ (¬ i < 0 → V 4 [(0, .ref 0), (1, .int i), (2, .int what)] [] σ)
  refine ⟨fun h_1 => ?_, fun h_1 => ?_⟩
  · skip
    refine zq (σ := σ) hV hI rfl 2 ?_
    show K (some (.int (-1000))) σ
    refine hBad (fun q => ?_)
    unfold zBt at q
    simp only [zlt, zle, hn, hni] at h_1
    simp at h_1 q
    omega
  · skip
    refine zq (σ := σ) hV hI rfl 4 ?_
    show zSp _ 27 [.ref 1] σ (fun r σ' => σ'.2.2.2 = σ.2.2.2 + zAl 27 → V 12 [(0, .ref 0), (1, .int i), (2, .int what)] (r.toList ++ [.int i]) σ')
    refine corners_ok (zR_of hI rfl rfl) (fun _ => ?_)
    refine zq (σ := σ) hV hI rfl 1 ?_
    show ((σ.1 1 2) ≤ i → V 24 [(0, .ref 0), (1, .int i), (2, .int what)] [] σ) ∧ (¬ (σ.1 1 2) ≤ i → V 15 [(0, .ref 0), (1, .int i), (2, .int what)] [] σ)
    refine ⟨fun h_12 => ?_, fun h_12 => ?_⟩
    · skip
      refine zq (σ := σ) hV hI rfl 2 ?_
      show K (some (.int (-1000))) σ
      refine hBad (fun q => ?_)
      unfold zBt at q
      simp only [zlt, zle, hn, hni] at h_1 h_12
      simp at h_1 h_12 q
      omega
    · skip
      refine zq (σ := σ) hV hI rfl 2 ?_
      show (what < 0 → V 24 [(0, .ref 0), (1, .int i), (2, .int what)] [] σ) ∧ (¬ what < 0 → V 19 [(0, .ref 0), (1, .int i), (2, .int what)] [] σ)
      refine ⟨fun h_16 => ?_, fun h_16 => ?_⟩
      · skip
        refine zq (σ := σ) hV hI rfl 2 ?_
        show K (some (.int (-1000))) σ
        refine hBad (fun q => ?_)
        unfold zBt at q
        simp only [zlt, zle, hn, hni] at h_1 h_12 h_16
        simp at h_1 h_12 h_16 q
        omega
      · skip
        refine zq (σ := σ) hV hI rfl 3 ?_
        show (what ≤ 1 → V 28 [(0, .ref 0), (1, .int i), (2, .int what)] [] σ) ∧ (¬ what ≤ 1 → V 24 [(0, .ref 0), (1, .int i), (2, .int what)] [] σ)
        refine ⟨fun h_21 => ?_, fun h_21 => ?_⟩
        · skip
          refine zq (σ := σ) hV hI rfl 2 ?_
          show (¬ what = 0 → V 43 [(0, .ref 0), (1, .int i), (2, .int what)] [] σ) ∧ (¬ (¬ what = 0) → V 32 [(0, .ref 0), (1, .int i), (2, .int what)] [] σ)
          refine ⟨fun h_29 => ?_, fun h_29 => ?_⟩
          · skip
            refine zq (σ := σ) hV hI rfl 4 ?_
            show zSp _ 32 [.ref 1, .int i] σ (fun r σ' => σ'.2.2.2 = σ.2.2.2 + zAl 32 → V 51 [(0, .ref 0), (1, .int i), (2, .int what)] (r.toList ++ []) σ')
            obtain ⟨k, hk, hk2, _⟩ := zNat (x := i) (by simp only [zlt] at h_1; simp at h_1; omega)
            have hkn : k < n := by simp only [zle, hn, hni] at h_12; omega
            refine y_ok (zR_of hI rfl rfl) hk (by omega) (fun _ => ?_)
            refine zq (σ := σ) hV hI rfl 1 ?_
            show K (some (.int (σ.1 3 k))) σ
            have hv : zBt 0 (n - 1) i ∧ zBt 0 1 what := by
              unfold zBt
              simp only [zlt, zle, hn, hni] at h_1 h_12 h_16 h_21
              simp at h_1 h_12 h_16 h_21 ⊢
              omega
            have := hOk k hk hkn hv
            first | (rw [if_pos h_29] at this; exact this) | (rw [if_neg h_29] at this; exact this)
          · skip
            have h_29 := Classical.not_not.mp h_29
            refine zq (σ := σ) hV hI rfl 4 ?_
            show zSp _ 31 [.ref 1, .int i] σ (fun r σ' => σ'.2.2.2 = σ.2.2.2 + zAl 31 → V 40 [(0, .ref 0), (1, .int i), (2, .int what)] (r.toList ++ []) σ')
            obtain ⟨k, hk, hk2, _⟩ := zNat (x := i) (by simp only [zlt] at h_1; simp at h_1; omega)
            have hkn : k < n := by simp only [zle, hn, hni] at h_12; omega
            refine x_ok (zR_of hI rfl rfl) hk (by omega) (fun _ => ?_)
            refine zq (σ := σ) hV hI rfl 2 ?_
            show K (some (.int (σ.1 2 k))) σ
            have hv : zBt 0 (n - 1) i ∧ zBt 0 1 what := by
              unfold zBt
              simp only [zlt, zle, hn, hni] at h_1 h_12 h_16 h_21
              simp at h_1 h_12 h_16 h_21 ⊢
              omega
            have := hOk k hk hkn hv
            first | (rw [if_pos h_29] at this; exact this) | (rw [if_neg h_29] at this; exact this)
        · skip
          refine zq (σ := σ) hV hI rfl 2 ?_
          show K (some (.int (-1000))) σ
          refine hBad (fun q => ?_)
          unfold zBt at q
          simp only [zlt, zle, hn, hni] at h_1 h_12 h_16 h_21
          simp at h_1 h_12 h_16 h_21 q
          omega
set_option maxRecDepth 8000 in
set_option maxHeartbeats 4000000 in
theorem middle_C {d : Nat} {σ : zSt} {K : Option Value → zSt → Prop} {what : Int32} (hI : zQI (kR 0 30) σ.2.2) (hBad : ¬ zBt 0 2 what → K (some (.int (-1000000))) σ) (h0 : what = 0 → K (some (.int (σ.1 1 3))) σ) (h1 : what = 1 → K (some (.int (σ.1 1 4))) σ) (h2 : what = 2 → K (some (.int (σ.1 1 5))) σ) : zSp (d + 2) mX8_middle [.ref 0, .int what] σ K := by
  refine ⟨⟨by decide, Nat.le_of_ble_eq_true rfl⟩, fun V hV => ?_⟩
  refine zq (σ := σ) hV hI rfl 2 ?_
  show ((Int32.toInt what < 0 ∨ 2 < Int32.toInt what) → V 52 [(0, .ref 0), (1, .int what)] [] σ) ∧ ((¬ Int32.toInt what < 0 ∧ ¬ 2 < Int32.toInt what) → ∃ off, (#[27, 35, 43] : Array Int)[(Int32.toInt what - 0).toNat]? = some off ∧ 0 ≤ ((1 : Nat) : Int) + off ∧ V (ztg 1 off) [(0, .ref 0), (1, .int what)] [] σ)
  refine ⟨fun hsw => ?_, fun hsw => ?_⟩
  · skip
    refine zq (σ := σ) hV hI rfl 2 ?_
    show K (some (.int (-1000000))) σ
    exact hBad (by unfold zBt; omega)
  · skip
    rcases (show Int32.toInt what = 0 ∨ Int32.toInt what = 1 ∨ Int32.toInt what = 2 by omega) with hx | hx | hx
    · skip
      refine ⟨27, by rw [hx]; rfl, by decide, ?_⟩
      show V 28 [(0, .ref 0), (1, .int what)] [] σ
      refine zq (σ := σ) hV hI rfl 3 ?_
      show zSp _ 28 [.ref 1] σ (fun r σ' => σ'.2.2.2 = σ.2.2.2 + zAl 28 → V 35 [(0, .ref 0), (1, .int what)] (r.toList ++ []) σ')
      refine area_ok (zR_of hI rfl rfl) (fun _ => ?_)
      refine zq (σ := σ) hV hI rfl 1 ?_
      show K (some (.int (σ.1 1 3))) σ
      exact h0 (by rw [zeq, hx]; rfl)
    · skip
      refine ⟨35, by rw [hx]; rfl, by decide, ?_⟩
      show V 36 [(0, .ref 0), (1, .int what)] [] σ
      refine zq (σ := σ) hV hI rfl 3 ?_
      show zSp _ 29 [.ref 1] σ (fun r σ' => σ'.2.2.2 = σ.2.2.2 + zAl 29 → V 43 [(0, .ref 0), (1, .int what)] (r.toList ++ []) σ')
      refine momentX_ok (zR_of hI rfl rfl) (fun _ => ?_)
      refine zq (σ := σ) hV hI rfl 1 ?_
      show K (some (.int (σ.1 1 4))) σ
      exact h1 (by rw [zeq, hx]; rfl)
    · skip
      refine ⟨43, by rw [hx]; rfl, by decide, ?_⟩
      show V 44 [(0, .ref 0), (1, .int what)] [] σ
      refine zq (σ := σ) hV hI rfl 3 ?_
      show zSp _ 30 [.ref 1] σ (fun r σ' => σ'.2.2.2 = σ.2.2.2 + zAl 30 → V 51 [(0, .ref 0), (1, .int what)] (r.toList ++ []) σ')
      refine momentY_ok (zR_of hI rfl rfl) (fun _ => ?_)
      refine zq (σ := σ) hV hI rfl 1 ?_
      show K (some (.int (σ.1 1 5))) σ
      exact h2 (by rw [zeq, hx]; rfl)
set_option maxRecDepth 8000 in
set_option maxHeartbeats 4000000 in
theorem isIn_C {d : Nat} {σ : zSt} {K : Option Value → zSt → Prop} {x y : Int32} {n : Nat} (hI : zQI (kR 0 30) σ.2.2) (hn : σ.1 1 2 = nI n) (hn10 : n ≤ 10) (hBad : ¬ (zBt (-1000) 1000 x ∧ zBt (-1000) 1000 y) → K (some (.int (-2))) σ) (hOk : (zBt (-1000) 1000 x ∧ zBt (-1000) 1000 y) → K (some (.int (zSide n (σ.1 2) (σ.1 3) x y))) σ) : zSp (d + 4) mX8_isIn [.ref 0, .int x, .int y] σ K := by
  refine ⟨⟨by decide, Nat.le_of_ble_eq_true rfl⟩, fun V hV => ?_⟩
  refine zq (σ := σ) hV hI rfl 3 ?_
  show zSp _ 119 [.int x, .int y] σ (fun r σ' => σ'.2.2.2 = σ.2.2.2 + zAl 119 → V 5 [(0, .ref 0), (1, .int x), (2, .int y)] (r.toList ++ []) σ')
  refine isPlace_ok (fun hb1 _ => ?_) (fun hb1 _ => ?_)
  · skip
    refine zq (σ := σ) hV hI rfl 1 ?_
    show ((1 : Int32) = 0 → V 20 [(0, .ref 0), (1, .int x), (2, .int y)] [] σ) ∧ (¬ (1 : Int32) = 0 → V 8 [(0, .ref 0), (1, .int x), (2, .int y)] [] σ)
    refine ⟨fun hc => absurd hc (by decide), fun _ => ?_⟩
    refine zq (σ := σ) hV hI rfl 5 ?_
    show zSp _ 36 [.ref 1, .int x, .int y] σ (fun r σ' => σ'.2.2.2 = σ.2.2.2 + zAl 36 → V 17 [(0, .ref 0), (1, .int x), (2, .int y)] (r.toList ++ []) σ')
    refine side_ok (zR_of hI rfl rfl) hn hn10 (fun _ => ?_)
    refine zq (σ := σ) hV hI rfl 2 ?_
    show K (some (.int (zSide n (σ.1 2) (σ.1 3) x y))) σ
    exact hOk hb1
  · skip
    refine zq (σ := σ) hV hI rfl 1 ?_
    show ((0 : Int32) = 0 → V 20 [(0, .ref 0), (1, .int x), (2, .int y)] [] σ) ∧ (¬ (0 : Int32) = 0 → V 8 [(0, .ref 0), (1, .int x), (2, .int y)] [] σ)
    refine ⟨fun _ => ?_, fun hc => absurd (by decide) hc⟩
    refine zq (σ := σ) hV hI rfl 2 ?_
    show K (some (.int (-2))) σ
    exact hBad hb1
set_option maxRecDepth 8000 in
set_option maxHeartbeats 4000000 in
theorem lifts_C {d : Nat} {σ : zSt} {K : Option Value → zSt → Prop} {x y w s : Int32} {n : Nat} (hI : zQI (kR 0 30) σ.2.2) (hn : σ.1 1 2 = nI n) (hn10 : n ≤ 10) (hBad : ¬ (zBt (-1000) 1000 x ∧ zBt (-1000) 1000 y ∧ zBt 1 20 w ∧ zBt 0 100000 s) → K (some (.int (-2))) σ) (h1 : (zBt (-1000) 1000 x ∧ zBt (-1000) 1000 y ∧ zBt 1 20 w ∧ zBt 0 100000 s) → ¬ zSide n (σ.1 2) (σ.1 3) x y = 0 → zSld (σ.1 1 3) (zPull (σ.1 1 3) (σ.1 1 4) (σ.1 1 5) x y w) s → K (some (.int 1)) σ) (h0 : (zBt (-1000) 1000 x ∧ zBt (-1000) 1000 y ∧ zBt 1 20 w ∧ zBt 0 100000 s) → ¬ (¬ zSide n (σ.1 2) (σ.1 3) x y = 0 ∧ zSld (σ.1 1 3) (zPull (σ.1 1 3) (σ.1 1 4) (σ.1 1 5) x y w) s) → K (some (.int 0)) σ) : zSp (d + 4) mX8_lifts [.ref 0, .int x, .int y, .int w, .int s] σ K := by
  refine ⟨⟨by decide, Nat.le_of_ble_eq_true rfl⟩, fun V hV => ?_⟩
  refine zq (σ := σ) hV hI rfl 3 ?_
  show zSp _ 119 [.int x, .int y] σ (fun r σ' => σ'.2.2.2 = σ.2.2.2 + zAl 119 → V 5 [(0, .ref 0), (1, .int x), (2, .int y), (3, .int w), (4, .int s)] (r.toList ++ []) σ')
  refine isPlace_ok (fun hb1 _ => ?_) (fun hb1 _ => ?_)
  · skip
    refine zq (σ := σ) hV hI rfl 1 ?_
    show ((1 : Int32) = 0 → V 27 [(0, .ref 0), (1, .int x), (2, .int y), (3, .int w), (4, .int s)] [] σ) ∧ (¬ (1 : Int32) = 0 → V 8 [(0, .ref 0), (1, .int x), (2, .int y), (3, .int w), (4, .int s)] [] σ)
    refine ⟨fun hc => absurd hc (by decide), fun _ => ?_⟩
    refine zq (σ := σ) hV hI rfl 2 ?_
    show zSp _ 120 [.int w] σ (fun r σ' => σ'.2.2.2 = σ.2.2.2 + zAl 120 → V 12 [(0, .ref 0), (1, .int x), (2, .int y), (3, .int w), (4, .int s)] (r.toList ++ []) σ')
    refine isWeight_ok (fun hb2 _ => ?_) (fun hb2 _ => ?_)
    · skip
      refine zq (σ := σ) hV hI rfl 1 ?_
      show ((1 : Int32) = 0 → V 27 [(0, .ref 0), (1, .int x), (2, .int y), (3, .int w), (4, .int s)] [] σ) ∧ (¬ (1 : Int32) = 0 → V 15 [(0, .ref 0), (1, .int x), (2, .int y), (3, .int w), (4, .int s)] [] σ)
      refine ⟨fun hc => absurd hc (by decide), fun _ => ?_⟩
      refine zq (σ := σ) hV hI rfl 2 ?_
      show (s < 0 → V 27 [(0, .ref 0), (1, .int x), (2, .int y), (3, .int w), (4, .int s)] [] σ) ∧ (¬ s < 0 → V 20 [(0, .ref 0), (1, .int x), (2, .int y), (3, .int w), (4, .int s)] [] σ)
      refine ⟨fun h_17 => ?_, fun h_17 => ?_⟩
      · skip
        refine zq (σ := σ) hV hI rfl 2 ?_
        show K (some (.int (-2))) σ
        refine hBad (fun q => ?_)
        have q4 := q.2.2.2
        unfold zBt at q4
        simp only [zlt, zle] at h_17
        simp at h_17
        omega
      · skip
        refine zq (σ := σ) hV hI rfl 3 ?_
        show (s ≤ 100000 → V 30 [(0, .ref 0), (1, .int x), (2, .int y), (3, .int w), (4, .int s)] [] σ) ∧ (¬ s ≤ 100000 → V 27 [(0, .ref 0), (1, .int x), (2, .int y), (3, .int w), (4, .int s)] [] σ)
        refine ⟨fun h_24 => ?_, fun h_24 => ?_⟩
        · skip
          refine zq (σ := σ) hV hI rfl 5 ?_
          show zSp _ 36 [.ref 1, .int x, .int y] σ (fun r σ' => σ'.2.2.2 = σ.2.2.2 + zAl 36 → V 39 [(0, .ref 0), (1, .int x), (2, .int y), (3, .int w), (4, .int s)] (r.toList ++ []) σ')
          refine side_ok (zR_of hI rfl rfl) hn hn10 (fun _ => ?_)
          refine zq (σ := σ) hV hI rfl 1 ?_
          show ((zSide n (σ.1 2) (σ.1 3) x y) = 0 → V 68 [(0, .ref 0), (1, .int x), (2, .int y), (3, .int w), (4, .int s)] [] σ) ∧ (¬ (zSide n (σ.1 2) (σ.1 3) x y) = 0 → V 42 [(0, .ref 0), (1, .int x), (2, .int y), (3, .int w), (4, .int s)] [] σ)
          refine ⟨fun h_39 => ?_, fun h_39 => ?_⟩
          · skip
            refine zq (σ := σ) hV hI rfl 2 ?_
            show K (some (.int 0)) σ
            have hv : (zBt (-1000) 1000 x ∧ zBt (-1000) 1000 y ∧ zBt 1 20 w ∧ zBt 0 100000 s) := ⟨hb1.1, hb1.2, hb2, by
              unfold zBt
              simp only [zlt, zle] at h_17 h_24
              simp at h_17 h_24 ⊢
              omega⟩
            exact h0 hv (fun q => q.1 h_39)
          · skip
            refine zq (σ := σ) hV hI rfl 8 ?_
            show zSp _ 37 [.ref 1, .int x, .int y, .int w] σ (fun r σ' => σ'.2.2.2 = σ.2.2.2 + zAl 37 → V 56 [(0, .ref 0), (1, .int x), (2, .int y), (3, .int w), (4, .int s)] (r.toList ++ [.ref 1]) σ')
            refine pull_ok (zR_of hI rfl rfl) (fun _ => ?_)
            refine zq (σ := σ) hV hI rfl 2 ?_
            show zSp _ 38 [.ref 1, .long (zPull (σ.1 1 3) (σ.1 1 4) (σ.1 1 5) x y w), .int s] σ (fun r σ' => σ'.2.2.2 = σ.2.2.2 + zAl 38 → V 61 [(0, .ref 0), (1, .int x), (2, .int y), (3, .int w), (4, .int s)] (r.toList ++ []) σ')
            refine isSealed_ok (zR_of hI rfl rfl)  (fun hb3 _ => ?_) (fun hb3 _ => ?_)
            · skip
              refine zq (σ := σ) hV hI rfl 1 ?_
              show ((1 : Int32) = 0 → V 68 [(0, .ref 0), (1, .int x), (2, .int y), (3, .int w), (4, .int s)] [] σ) ∧ (¬ (1 : Int32) = 0 → V 64 [(0, .ref 0), (1, .int x), (2, .int y), (3, .int w), (4, .int s)] [] σ)
              refine ⟨fun hc => absurd hc (by decide), fun _ => ?_⟩
              refine zq (σ := σ) hV hI rfl 3 ?_
              show K (some (.int 1)) σ
              have hv : (zBt (-1000) 1000 x ∧ zBt (-1000) 1000 y ∧ zBt 1 20 w ∧ zBt 0 100000 s) := ⟨hb1.1, hb1.2, hb2, by
                unfold zBt
                simp only [zlt, zle] at h_17 h_24
                simp at h_17 h_24 ⊢
                omega⟩
              exact h1 hv h_39 hb3
            · skip
              refine zq (σ := σ) hV hI rfl 1 ?_
              show ((0 : Int32) = 0 → V 68 [(0, .ref 0), (1, .int x), (2, .int y), (3, .int w), (4, .int s)] [] σ) ∧ (¬ (0 : Int32) = 0 → V 64 [(0, .ref 0), (1, .int x), (2, .int y), (3, .int w), (4, .int s)] [] σ)
              refine ⟨fun _ => ?_, fun hc => absurd (by decide) hc⟩
              refine zq (σ := σ) hV hI rfl 2 ?_
              show K (some (.int 0)) σ
              have hv : (zBt (-1000) 1000 x ∧ zBt (-1000) 1000 y ∧ zBt 1 20 w ∧ zBt 0 100000 s) := ⟨hb1.1, hb1.2, hb2, by
                unfold zBt
                simp only [zlt, zle] at h_17 h_24
                simp at h_17 h_24 ⊢
                omega⟩
              exact h0 hv (fun q => hb3 q.2)
        · skip
          refine zq (σ := σ) hV hI rfl 2 ?_
          show K (some (.int (-2))) σ
          refine hBad (fun q => ?_)
          have q4 := q.2.2.2
          unfold zBt at q4
          simp only [zlt, zle] at h_17 h_24
          simp at h_17 h_24
          omega
    · skip
      refine zq (σ := σ) hV hI rfl 1 ?_
      show ((0 : Int32) = 0 → V 27 [(0, .ref 0), (1, .int x), (2, .int y), (3, .int w), (4, .int s)] [] σ) ∧ (¬ (0 : Int32) = 0 → V 15 [(0, .ref 0), (1, .int x), (2, .int y), (3, .int w), (4, .int s)] [] σ)
      refine ⟨fun _ => ?_, fun hc => absurd (by decide) hc⟩
      refine zq (σ := σ) hV hI rfl 2 ?_
      show K (some (.int (-2))) σ
      exact hBad (fun q => hb2 q.2.2.1)
  · skip
    refine zq (σ := σ) hV hI rfl 1 ?_
    show ((0 : Int32) = 0 → V 27 [(0, .ref 0), (1, .int x), (2, .int y), (3, .int w), (4, .int s)] [] σ) ∧ (¬ (0 : Int32) = 0 → V 8 [(0, .ref 0), (1, .int x), (2, .int y), (3, .int w), (4, .int s)] [] σ)
    refine ⟨fun _ => ?_, fun hc => absurd (by decide) hc⟩
    refine zq (σ := σ) hV hI rfl 2 ?_
    show K (some (.int (-2))) σ
    exact hBad (fun q => hb1 ⟨q.1, q.2.1⟩)
set_option maxRecDepth 8000 in
set_option maxHeartbeats 4000000 in
theorem seal_C {d : Nat} {σ : zSt} {K : Option Value → zSt → Prop} {x y w : Int32} {n : Nat} (hI : zQI (kR 0 30) σ.2.2) (hn : σ.1 1 2 = nI n) (hn10 : n ≤ 10) (hBad : ¬ (zBt (-1000) 1000 x ∧ zBt (-1000) 1000 y ∧ zBt 1 20 w) → K (some (.int (-2))) σ) (hNot : (zBt (-1000) 1000 x ∧ zBt (-1000) 1000 y ∧ zBt 1 20 w) → zSide n (σ.1 2) (σ.1 3) x y = 0 → K (some (.int (-3))) σ) (hOk : (zBt (-1000) 1000 x ∧ zBt (-1000) 1000 y ∧ zBt 1 20 w) → ¬ zSide n (σ.1 2) (σ.1 3) x y = 0 → K (some (.int (zLs (σ.1 1 3) (zPull (σ.1 1 3) (σ.1 1 4) (σ.1 1 5) x y w) 31 0 1073741824))) σ) : zSp (d + 4) mX8_seal [.ref 0, .int x, .int y, .int w] σ K := by
  refine ⟨⟨by decide, Nat.le_of_ble_eq_true rfl⟩, fun V hV => ?_⟩
  refine zq (σ := σ) hV hI rfl 3 ?_
  show zSp _ 119 [.int x, .int y] σ (fun r σ' => σ'.2.2.2 = σ.2.2.2 + zAl 119 → V 5 [(0, .ref 0), (1, .int x), (2, .int y), (3, .int w)] (r.toList ++ []) σ')
  refine isPlace_ok (fun hb1 _ => ?_) (fun hb1 _ => ?_)
  · skip
    refine zq (σ := σ) hV hI rfl 1 ?_
    show ((1 : Int32) = 0 → V 15 [(0, .ref 0), (1, .int x), (2, .int y), (3, .int w)] [] σ) ∧ (¬ (1 : Int32) = 0 → V 8 [(0, .ref 0), (1, .int x), (2, .int y), (3, .int w)] [] σ)
    refine ⟨fun hc => absurd hc (by decide), fun _ => ?_⟩
    refine zq (σ := σ) hV hI rfl 2 ?_
    show zSp _ 120 [.int w] σ (fun r σ' => σ'.2.2.2 = σ.2.2.2 + zAl 120 → V 12 [(0, .ref 0), (1, .int x), (2, .int y), (3, .int w)] (r.toList ++ []) σ')
    refine isWeight_ok (fun hb2 _ => ?_) (fun hb2 _ => ?_)
    · skip
      refine zq (σ := σ) hV hI rfl 1 ?_
      show (¬ (1 : Int32) = 0 → V 18 [(0, .ref 0), (1, .int x), (2, .int y), (3, .int w)] [] σ) ∧ (¬ (¬ (1 : Int32) = 0) → V 15 [(0, .ref 0), (1, .int x), (2, .int y), (3, .int w)] [] σ)
      refine ⟨fun _ => ?_, fun hc => absurd (by decide) hc⟩
      refine zq (σ := σ) hV hI rfl 5 ?_
      show zSp _ 36 [.ref 1, .int x, .int y] σ (fun r σ' => σ'.2.2.2 = σ.2.2.2 + zAl 36 → V 27 [(0, .ref 0), (1, .int x), (2, .int y), (3, .int w)] (r.toList ++ []) σ')
      refine side_ok (zR_of hI rfl rfl) hn hn10 (fun _ => ?_)
      refine zq (σ := σ) hV hI rfl 1 ?_
      show (¬ (zSide n (σ.1 2) (σ.1 3) x y) = 0 → V 33 [(0, .ref 0), (1, .int x), (2, .int y), (3, .int w)] [] σ) ∧ (¬ (¬ (zSide n (σ.1 2) (σ.1 3) x y) = 0) → V 30 [(0, .ref 0), (1, .int x), (2, .int y), (3, .int w)] [] σ)
      refine ⟨fun h_27 => ?_, fun h_27 => ?_⟩
      · skip
        refine zq (σ := σ) hV hI rfl 8 ?_
        show zSp _ 37 [.ref 1, .int x, .int y, .int w] σ (fun r σ' => σ'.2.2.2 = σ.2.2.2 + zAl 37 → V 47 [(0, .ref 0), (1, .int x), (2, .int y), (3, .int w)] (r.toList ++ [.ref 1]) σ')
        refine pull_ok (zR_of hI rfl rfl) (fun _ => ?_)
        refine zq (σ := σ) hV hI rfl 1 ?_
        show zSp _ 39 [.ref 1, .long (zPull (σ.1 1 3) (σ.1 1 4) (σ.1 1 5) x y w)] σ (fun r σ' => σ'.2.2.2 = σ.2.2.2 + zAl 39 → V 50 [(0, .ref 0), (1, .int x), (2, .int y), (3, .int w)] (r.toList ++ []) σ')
        refine leastSeal_ok (zR_of hI rfl rfl) (fun _ => ?_)
        refine zq (σ := σ) hV hI rfl 1 ?_
        show K (some (.int (zLs (σ.1 1 3) (zPull (σ.1 1 3) (σ.1 1 4) (σ.1 1 5) x y w) 31 0 1073741824))) σ
        have hv : (zBt (-1000) 1000 x ∧ zBt (-1000) 1000 y ∧ zBt 1 20 w) := ⟨hb1.1, hb1.2, hb2⟩
        exact hOk hv h_27
      · skip
        have h_27 := Classical.not_not.mp h_27
        refine zq (σ := σ) hV hI rfl 2 ?_
        show K (some (.int (-3))) σ
        have hv : (zBt (-1000) 1000 x ∧ zBt (-1000) 1000 y ∧ zBt 1 20 w) := ⟨hb1.1, hb1.2, hb2⟩
        exact hNot hv h_27
    · skip
      refine zq (σ := σ) hV hI rfl 1 ?_
      show (¬ (0 : Int32) = 0 → V 18 [(0, .ref 0), (1, .int x), (2, .int y), (3, .int w)] [] σ) ∧ (¬ (¬ (0 : Int32) = 0) → V 15 [(0, .ref 0), (1, .int x), (2, .int y), (3, .int w)] [] σ)
      refine ⟨fun hc => absurd hc (by decide), fun _ => ?_⟩
      refine zq (σ := σ) hV hI rfl 2 ?_
      show K (some (.int (-2))) σ
      exact hBad (fun q => hb2 q.2.2)
  · skip
    refine zq (σ := σ) hV hI rfl 1 ?_
    show ((0 : Int32) = 0 → V 15 [(0, .ref 0), (1, .int x), (2, .int y), (3, .int w)] [] σ) ∧ (¬ (0 : Int32) = 0 → V 8 [(0, .ref 0), (1, .int x), (2, .int y), (3, .int w)] [] σ)
    refine ⟨fun _ => ?_, fun hc => absurd (by decide) hc⟩
    refine zq (σ := σ) hV hI rfl 2 ?_
    show K (some (.int (-2))) σ
    exact hBad (fun q => hb1 ⟨q.1, q.2.1⟩)
set_option maxRecDepth 8000 in
set_option maxHeartbeats 4000000 in
theorem psize_ok {d : Nat} {σ : zSt} {K : Option Value → zSt → Prop} (hI : zQI (kR 18 21) σ.2.2) (hK : K (some (.int (σ.1 18 2))) σ) : zSp (d + 1) mX4_size [.ref 18] σ K := by
  refine ⟨⟨by decide, Nat.le_of_ble_eq_true rfl⟩, fun V hV => ?_⟩
  refine zq (σ := σ) hV hI rfl 3 ?_
  show K (some (.int (σ.1 18 2))) σ
  exact hK
set_option maxRecDepth 8000 in
set_option maxHeartbeats 4000000 in
theorem px_ok {d : Nat} {σ : zSt} {K : Option Value → zSt → Prop} {i : Int32} {k : Nat} (hI : zQI (kR 18 21) σ.2.2) (e : i = nI k) (hk : k < 20) (hK : K (some (.int (σ.1 19 k))) σ) : zSp (d + 2) mX4_x [.ref 18, .int i] σ K := by
  refine ⟨⟨by decide, Nat.le_of_ble_eq_true rfl⟩, fun V hV => ?_⟩
  subst e
  refine zq (σ := σ) hV hI rfl 4 ?_
  show zSp _ 128 [.ref 19, .int (nI k)] σ (fun r σ' => σ'.2.2.2 = σ.2.2.2 + zAl 128 → V 8 [(0, .ref 18), (1, .int (nI k))] (r.toList ++ []) σ')
  refine item_19 (zA_of hI rfl) rfl (by omega) (fun _ => ?_)
  refine zq (σ := σ) hV hI rfl 1 ?_
  show K (some (.int (σ.1 19 k))) σ
  exact hK
set_option maxRecDepth 8000 in
set_option maxHeartbeats 4000000 in
theorem py_ok {d : Nat} {σ : zSt} {K : Option Value → zSt → Prop} {i : Int32} {k : Nat} (hI : zQI (kR 18 21) σ.2.2) (e : i = nI k) (hk : k < 20) (hK : K (some (.int (σ.1 20 k))) σ) : zSp (d + 2) mX4_y [.ref 18, .int i] σ K := by
  refine ⟨⟨by decide, Nat.le_of_ble_eq_true rfl⟩, fun V hV => ?_⟩
  subst e
  refine zq (σ := σ) hV hI rfl 4 ?_
  show zSp _ 128 [.ref 20, .int (nI k)] σ (fun r σ' => σ'.2.2.2 = σ.2.2.2 + zAl 128 → V 8 [(0, .ref 18), (1, .int (nI k))] (r.toList ++ []) σ')
  refine item_20 (zA_of hI rfl) rfl (by omega) (fun _ => ?_)
  refine zq (σ := σ) hV hI rfl 1 ?_
  show K (some (.int (σ.1 20 k))) σ
  exact hK
set_option maxRecDepth 8000 in
set_option maxHeartbeats 4000000 in
theorem padd_ok {d : Nat} {σ : zSt} {K : Option Value → zSt → Prop} {x y : Int32} {m : Nat} (hI : zQI (kR 18 21) σ.2.2) (hs : σ.1 18 2 = nI m) (hm : m < 20) (hK : K none (zuI (zuI (zuI σ 19 m x) 20 m y) 18 2 (nI (m + 1)))) : zSp (d + 2) mX4_add [.ref 18, .int x, .int y] σ K := by
  refine ⟨⟨by decide, Nat.le_of_ble_eq_true rfl⟩, fun V hV => ?_⟩
  refine zq (σ := σ) hV hI rfl 6 ?_
  show zSp _ 129 [.ref 19, .int (σ.1 18 2), .int x] σ (fun r σ' => σ'.2.2.2 = σ.2.2.2 + zAl 129 → V 12 [(0, .ref 18), (1, .int x), (2, .int y)] (r.toList ++ []) σ')
  refine setItem_19 (zA_of hI rfl) hs (by omega) (fun _ => ?_)
  refine zq (σ := (zuI σ 19 m x)) hV hI rfl 6 ?_
  show zSp _ 129 [.ref 20, .int (σ.1 18 2), .int y] (zuI σ 19 m x) (fun r σ' => σ'.2.2.2 = (zuI σ 19 m x).2.2.2 + zAl 129 → V 24 [(0, .ref 18), (1, .int x), (2, .int y)] (r.toList ++ []) σ')
  refine setItem_20 (zA_of hI rfl) hs (by omega) (fun _ => ?_)
  refine zq (σ := (zuI (zuI σ 19 m x) 20 m y)) hV hI rfl 7 ?_
  show K none (zuI (zuI (zuI σ 19 m x) 20 m y) 18 2 ((σ.1 18 2) + 1))
  rw [show (σ.1 18 2) + 1 = nI (m + 1) by rw [hs, nI_1]]
  exact hK
set_option maxRecDepth 8000 in
set_option maxHeartbeats 4000000 in
theorem sadd_ok {d : Nat} {σ : zSt} {K : Option Value → zSt → Prop} {e k c : Int32} {m : Nat} (hI : zQI (kR 14 18) σ.2.2) (hs : σ.1 14 3 = nI m) (hm : m < 7) (hK : K none (zuI (zuI (zuI (zuI σ 15 m e) 16 m k) 17 m c) 14 3 (nI (m + 1)))) : zSp (d + 2) mX6_add [.ref 14, .int e, .int k, .int c] σ K := by
  refine ⟨⟨by decide, Nat.le_of_ble_eq_true rfl⟩, fun V hV => ?_⟩
  refine zq (σ := σ) hV hI rfl 6 ?_
  show zSp _ 129 [.ref 15, .int (σ.1 14 3), .int e] σ (fun r σ' => σ'.2.2.2 = σ.2.2.2 + zAl 129 → V 12 [(0, .ref 14), (1, .int e), (2, .int k), (3, .int c)] (r.toList ++ []) σ')
  refine setItem_15 (zA_of hI rfl) hs (by omega) (fun _ => ?_)
  refine zq (σ := (zuI σ 15 m e)) hV hI rfl 6 ?_
  show zSp _ 129 [.ref 16, .int (σ.1 14 3), .int k] (zuI σ 15 m e) (fun r σ' => σ'.2.2.2 = (zuI σ 15 m e).2.2.2 + zAl 129 → V 24 [(0, .ref 14), (1, .int e), (2, .int k), (3, .int c)] (r.toList ++ []) σ')
  refine setItem_16 (zA_of hI rfl) hs (by omega) (fun _ => ?_)
  refine zq (σ := (zuI (zuI σ 15 m e) 16 m k)) hV hI rfl 6 ?_
  show zSp _ 129 [.ref 17, .int (σ.1 14 3), .int c] (zuI (zuI σ 15 m e) 16 m k) (fun r σ' => σ'.2.2.2 = (zuI (zuI σ 15 m e) 16 m k).2.2.2 + zAl 129 → V 36 [(0, .ref 14), (1, .int e), (2, .int k), (3, .int c)] (r.toList ++ []) σ')
  refine setItem_17 (zA_of hI rfl) hs (by omega) (fun _ => ?_)
  refine zq (σ := (zuI (zuI (zuI σ 15 m e) 16 m k) 17 m c)) hV hI rfl 7 ?_
  show K none (zuI (zuI (zuI (zuI σ 15 m e) 16 m k) 17 m c) 14 3 ((σ.1 14 3) + 1))
  rw [show (σ.1 14 3) + 1 = nI (m + 1) by rw [hs, nI_1]]
  exact hK
set_option maxRecDepth 8000 in
set_option maxHeartbeats 4000000 in
theorem probe_C {d : Nat} {σ : zSt} {K : Option Value → zSt → Prop} {x y : Int32} {m : Nat} (hI : zQI (kR 0 30) σ.2.2) (hs : σ.1 18 2 = nI m) (hm : m ≤ 20) (hBad : ¬ (zBt (-40) 40 x ∧ zBt (-40) 40 y) → K (some (.int (-2))) σ) (hFull : (zBt (-40) 40 x ∧ zBt (-40) 40 y) → m = 20 → K (some (.int (-4))) σ) (hOk : (zBt (-40) 40 x ∧ zBt (-40) 40 y) → m < 20 → K (some (.int (nI (m + 1)))) (zuI (zuI (zuI σ 19 m x) 20 m y) 18 2 (nI (m + 1)))) : zSp (d + 3) mX8_probe [.ref 0, .int x, .int y] σ K := by
  refine ⟨⟨by decide, Nat.le_of_ble_eq_true rfl⟩, fun V hV => ?_⟩
  have hmi := nI_toInt (show m < 2 ^ 31 by omega)
  refine zq (σ := σ) hV hI rfl 3 ?_
  show zSp _ 118 [.int x, .int 40] σ (fun r σ' => σ'.2.2.2 = σ.2.2.2 + zAl 118 → V 6 [(0, .ref 0), (1, .int x), (2, .int y)] (r.toList ++ []) σ')
  refine isWithin_ok (k := 40) rfl (by decide) (fun hw0 _ => ?_) (fun hw0 _ => ?_)
  · skip
    refine zq (σ := σ) hV hI rfl 1 ?_
    show ((1 : Int32) = 0 → V 18 [(0, .ref 0), (1, .int x), (2, .int y)] [] σ) ∧ (¬ (1 : Int32) = 0 → V 9 [(0, .ref 0), (1, .int x), (2, .int y)] [] σ)
    refine ⟨fun hc => absurd hc (by decide), fun _ => ?_⟩
    refine zq (σ := σ) hV hI rfl 3 ?_
    show zSp _ 118 [.int y, .int 40] σ (fun r σ' => σ'.2.2.2 = σ.2.2.2 + zAl 118 → V 15 [(0, .ref 0), (1, .int x), (2, .int y)] (r.toList ++ []) σ')
    refine isWithin_ok (k := 40) rfl (by decide) (fun hw1 _ => ?_) (fun hw1 _ => ?_)
    · skip
      refine zq (σ := σ) hV hI rfl 1 ?_
      show (¬ (1 : Int32) = 0 → V 21 [(0, .ref 0), (1, .int x), (2, .int y)] [] σ) ∧ (¬ (¬ (1 : Int32) = 0) → V 18 [(0, .ref 0), (1, .int x), (2, .int y)] [] σ)
      refine ⟨fun _ => ?_, fun hc => absurd (by decide) hc⟩
      refine zq (σ := σ) hV hI rfl 3 ?_
      show zSp _ 41 [.ref 18] σ (fun r σ' => σ'.2.2.2 = σ.2.2.2 + zAl 41 → V 28 [(0, .ref 0), (1, .int x), (2, .int y)] (r.toList ++ []) σ')
      refine psize_ok (zR_of hI rfl rfl) (fun _ => ?_)
      refine zq (σ := σ) hV hI rfl 2 ?_
      show ((σ.1 18 2) < 20 → V 36 [(0, .ref 0), (1, .int x), (2, .int y)] [] σ) ∧ (¬ (σ.1 18 2) < 20 → V 33 [(0, .ref 0), (1, .int x), (2, .int y)] [] σ)
      refine ⟨fun h_30 => ?_, fun h_30 => ?_⟩
      · skip
        have hcap : m < 20 := by
          simp only [zlt, hs, hmi] at h_30
          simp at h_30
          omega
        refine zq (σ := σ) hV hI rfl 5 ?_
        show zSp _ 44 [.ref 18, .int x, .int y] σ (fun r σ' => σ'.2.2.2 = σ.2.2.2 + zAl 44 → V 45 [(0, .ref 0), (1, .int x), (2, .int y)] (r.toList ++ []) σ')
        refine padd_ok (zR_of hI rfl rfl) (m := m) hs (by omega) (fun _ => ?_)
        refine zq (σ := (zuI (zuI (zuI σ 19 m x) 20 m y) 18 2 (nI (m + 1)))) hV hI rfl 3 ?_
        show zSp _ 41 [.ref 18] (zuI (zuI (zuI σ 19 m x) 20 m y) 18 2 (nI (m + 1))) (fun r σ' => σ'.2.2.2 = (zuI (zuI (zuI σ 19 m x) 20 m y) 18 2 (nI (m + 1))).2.2.2 + zAl 41 → V 52 [(0, .ref 0), (1, .int x), (2, .int y)] (r.toList ++ []) σ')
        refine psize_ok (zR_of hI rfl rfl) (fun _ => ?_)
        refine zq (σ := (zuI (zuI (zuI σ 19 m x) 20 m y) 18 2 (nI (m + 1)))) hV hI rfl 1 ?_
        show K (some (.int (nI (m + 1)))) (zuI (zuI (zuI σ 19 m x) 20 m y) 18 2 (nI (m + 1)))
        exact hOk ⟨hw0, hw1⟩ hcap
      · skip
        refine zq (σ := σ) hV hI rfl 2 ?_
        show K (some (.int (-4))) σ
        refine hFull ⟨hw0, hw1⟩ ?_
        simp only [zlt, hs, hmi] at h_30
        simp at h_30
        omega
    · skip
      refine zq (σ := σ) hV hI rfl 1 ?_
      show (¬ (0 : Int32) = 0 → V 21 [(0, .ref 0), (1, .int x), (2, .int y)] [] σ) ∧ (¬ (¬ (0 : Int32) = 0) → V 18 [(0, .ref 0), (1, .int x), (2, .int y)] [] σ)
      refine ⟨fun hc => absurd hc (by decide), fun _ => ?_⟩
      refine zq (σ := σ) hV hI rfl 2 ?_
      show K (some (.int (-2))) σ
      exact hBad (fun q => hw1 q.2)
  · skip
    refine zq (σ := σ) hV hI rfl 1 ?_
    show ((0 : Int32) = 0 → V 18 [(0, .ref 0), (1, .int x), (2, .int y)] [] σ) ∧ (¬ (0 : Int32) = 0 → V 9 [(0, .ref 0), (1, .int x), (2, .int y)] [] σ)
    refine ⟨fun _ => ?_, fun hc => absurd (by decide) hc⟩
    refine zq (σ := σ) hV hI rfl 2 ?_
    show K (some (.int (-2))) σ
    exact hBad (fun q => hw0 q.1)
set_option maxRecDepth 8000 in
set_option maxHeartbeats 4000000 in
theorem ssize_ok {d : Nat} {σ : zSt} {K : Option Value → zSt → Prop} (hI : zQI (kR 14 18) σ.2.2) (hK : K (some (.int (σ.1 14 3))) σ) : zSp (d + 1) mX6_size [.ref 14] σ K := by
  refine ⟨⟨by decide, Nat.le_of_ble_eq_true rfl⟩, fun V hV => ?_⟩
  refine zq (σ := σ) hV hI rfl 3 ?_
  show K (some (.int (σ.1 14 3))) σ
  exact hK
set_option maxRecDepth 8000 in
set_option maxHeartbeats 4000000 in
theorem sclear_ok {d : Nat} {σ : zSt} {K : Option Value → zSt → Prop} (hI : zQI (kR 14 18) σ.2.2) (hK : K none (zuI σ 14 3 0)) : zSp (d + 1) mX6_clear [.ref 14] σ K := by
  refine ⟨⟨by decide, Nat.le_of_ble_eq_true rfl⟩, fun V hV => ?_⟩
  refine zq (σ := σ) hV hI rfl 4 ?_
  show K none (zuI σ 14 3 0)
  exact hK
set_option maxRecDepth 8000 in
set_option maxHeartbeats 4000000 in
theorem spot_C {d : Nat} {σ : zSt} {K : Option Value → zSt → Prop} {e k c : Int32} {n m : Nat} (hI : zQI (kR 0 30) σ.2.2) (hn : σ.1 1 2 = nI n) (hn10 : n ≤ 10) (hs : σ.1 14 3 = nI m) (hm : m ≤ 7) (hBad : ¬ ((zBt 0 (n - 1) e ∧ zBt 0 8 k) ∧ zBt 0 1000 c) → K (some (.int (-2))) σ) (hFull : ((zBt 0 (n - 1) e ∧ zBt 0 8 k) ∧ zBt 0 1000 c) → m = 7 → K (some (.int (-4))) σ) (hOk : ((zBt 0 (n - 1) e ∧ zBt 0 8 k) ∧ zBt 0 1000 c) → m < 7 → K (some (.int (nI (m + 1)))) (zuI (zuI (zuI (zuI σ 15 m e) 16 m k) 17 m c) 14 3 (nI (m + 1)))) : zSp (d + 3) mX8_spot [.ref 0, .int e, .int k, .int c] σ K := by
  refine ⟨⟨by decide, Nat.le_of_ble_eq_true rfl⟩, fun V hV => ?_⟩
  have hmi := nI_toInt (show m < 2 ^ 31 by omega)
  refine zq (σ := σ) hV hI rfl 4 ?_
  show zSp _ 124 [.ref 0, .int e, .int k] σ (fun r σ' => σ'.2.2.2 = σ.2.2.2 + zAl 124 → V 6 [(0, .ref 0), (1, .int e), (2, .int k), (3, .int c)] (r.toList ++ []) σ')
  refine isStand_ok (zR_of hI rfl rfl) hn (by omega) (fun hb1 _ => ?_) (fun hb1 _ => ?_)
  · skip
    refine zq (σ := σ) hV hI rfl 1 ?_
    show ((1 : Int32) = 0 → V 20 [(0, .ref 0), (1, .int e), (2, .int k), (3, .int c)] [] σ) ∧ (¬ (1 : Int32) = 0 → V 9 [(0, .ref 0), (1, .int e), (2, .int k), (3, .int c)] [] σ)
    refine ⟨fun hc => absurd hc (by decide), fun _ => ?_⟩
    refine zq (σ := σ) hV hI rfl 2 ?_
    show (c < 0 → V 20 [(0, .ref 0), (1, .int e), (2, .int k), (3, .int c)] [] σ) ∧ (¬ c < 0 → V 13 [(0, .ref 0), (1, .int e), (2, .int k), (3, .int c)] [] σ)
    refine ⟨fun h_10 => ?_, fun h_10 => ?_⟩
    · skip
      refine zq (σ := σ) hV hI rfl 2 ?_
      show K (some (.int (-2))) σ
      refine hBad (fun q => ?_)
      have q4 := q.2
      unfold zBt at q4
      simp only [zlt, zle] at h_10
      simp at h_10
      omega
    · skip
      refine zq (σ := σ) hV hI rfl 3 ?_
      show (c ≤ 1000 → V 23 [(0, .ref 0), (1, .int e), (2, .int k), (3, .int c)] [] σ) ∧ (¬ c ≤ 1000 → V 20 [(0, .ref 0), (1, .int e), (2, .int k), (3, .int c)] [] σ)
      refine ⟨fun h_17 => ?_, fun h_17 => ?_⟩
      · skip
        refine zq (σ := σ) hV hI rfl 3 ?_
        show zSp _ 59 [.ref 14] σ (fun r σ' => σ'.2.2.2 = σ.2.2.2 + zAl 59 → V 30 [(0, .ref 0), (1, .int e), (2, .int k), (3, .int c)] (r.toList ++ []) σ')
        refine ssize_ok (zR_of hI rfl rfl) (fun _ => ?_)
        refine zq (σ := σ) hV hI rfl 2 ?_
        show ((σ.1 14 3) < 7 → V 38 [(0, .ref 0), (1, .int e), (2, .int k), (3, .int c)] [] σ) ∧ (¬ (σ.1 14 3) < 7 → V 35 [(0, .ref 0), (1, .int e), (2, .int k), (3, .int c)] [] σ)
        refine ⟨fun h_32 => ?_, fun h_32 => ?_⟩
        · skip
          have hcap : m < 7 := by
            simp only [zlt, hs, hmi] at h_32
            simp at h_32
            omega
          refine zq (σ := σ) hV hI rfl 6 ?_
          show zSp _ 61 [.ref 14, .int e, .int k, .int c] σ (fun r σ' => σ'.2.2.2 = σ.2.2.2 + zAl 61 → V 48 [(0, .ref 0), (1, .int e), (2, .int k), (3, .int c)] (r.toList ++ []) σ')
          refine sadd_ok (zR_of hI rfl rfl) (m := m) hs (by omega) (fun _ => ?_)
          refine zq (σ := (zuI (zuI (zuI (zuI σ 15 m e) 16 m k) 17 m c) 14 3 (nI (m + 1)))) hV hI rfl 3 ?_
          show zSp _ 59 [.ref 14] (zuI (zuI (zuI (zuI σ 15 m e) 16 m k) 17 m c) 14 3 (nI (m + 1))) (fun r σ' => σ'.2.2.2 = (zuI (zuI (zuI (zuI σ 15 m e) 16 m k) 17 m c) 14 3 (nI (m + 1))).2.2.2 + zAl 59 → V 55 [(0, .ref 0), (1, .int e), (2, .int k), (3, .int c)] (r.toList ++ []) σ')
          refine ssize_ok (zR_of hI rfl rfl) (fun _ => ?_)
          refine zq (σ := (zuI (zuI (zuI (zuI σ 15 m e) 16 m k) 17 m c) 14 3 (nI (m + 1)))) hV hI rfl 1 ?_
          show K (some (.int (nI (m + 1)))) (zuI (zuI (zuI (zuI σ 15 m e) 16 m k) 17 m c) 14 3 (nI (m + 1)))
          have hv : ((zBt 0 (n - 1) e ∧ zBt 0 8 k) ∧ zBt 0 1000 c) := ⟨hb1, by
            unfold zBt
            simp only [zlt, zle] at h_10 h_17
            simp at h_10 h_17 ⊢
            omega⟩
          exact hOk hv hcap
        · skip
          refine zq (σ := σ) hV hI rfl 2 ?_
          show K (some (.int (-4))) σ
          have hv : ((zBt 0 (n - 1) e ∧ zBt 0 8 k) ∧ zBt 0 1000 c) := ⟨hb1, by
            unfold zBt
            simp only [zlt, zle] at h_10 h_17
            simp at h_10 h_17 ⊢
            omega⟩
          refine hFull hv ?_
          simp only [zlt, hs, hmi] at h_32
          simp at h_32
          omega
      · skip
        refine zq (σ := σ) hV hI rfl 2 ?_
        show K (some (.int (-2))) σ
        refine hBad (fun q => ?_)
        have q4 := q.2
        unfold zBt at q4
        simp only [zlt, zle] at h_10 h_17
        simp at h_10 h_17
        omega
  · skip
    refine zq (σ := σ) hV hI rfl 1 ?_
    show ((0 : Int32) = 0 → V 20 [(0, .ref 0), (1, .int e), (2, .int k), (3, .int c)] [] σ) ∧ (¬ (0 : Int32) = 0 → V 9 [(0, .ref 0), (1, .int e), (2, .int k), (3, .int c)] [] σ)
    refine ⟨fun _ => ?_, fun hc => absurd (by decide) hc⟩
    refine zq (σ := σ) hV hI rfl 2 ?_
    show K (some (.int (-2))) σ
    exact hBad (fun q => hb1 q.1)
end
section
def zKp (f v : Int32) : Int32 := if f = 0 then v.toInt8.toInt32 else if f = 1 then v.toInt16.toInt32 else v
theorem zix60 {k j : Nat} : nI k * 60 + nI j = nI (k * 60 + j) := by rw [show (60 : Int32) = nI 60 from rfl, pk_mul, nI_add]
theorem zx0 {j : Nat} : (0 : Int32) * 60 + nI j = nI (0 * 60 + j) := zix60 (k := 0)
set_option maxRecDepth 8000 in
set_option maxHeartbeats 4000000 in
theorem latest_ok {d : Nat} {σ : zSt} {K : Option Value → zSt → Prop} (hI : zQI (kR 26 30) σ.2.2) (hK : K (some (.int (σ.1 26 3))) σ) : zSp (d + 1) mX5_latestFinding [.ref 26] σ K := by
  refine ⟨⟨by decide, Nat.le_of_ble_eq_true rfl⟩, fun V hV => ?_⟩
  refine zq (σ := σ) hV hI rfl 3 ?_
  show K (some (.int (σ.1 26 3))) σ
  exact hK
set_option maxRecDepth 8000 in
set_option maxHeartbeats 4000000 in
theorem find_ok {d : Nat} {σ : zSt} {K : Option Value → zSt → Prop} {c : Int32} (hI : zQI (kR 26 30) σ.2.2) (hK : K (some (.int (-10 - c))) (zuI σ 26 3 c)) : zSp (d + 1) mX5_find [.ref 26, .int c] σ K := by
  refine ⟨⟨by decide, Nat.le_of_ble_eq_true rfl⟩, fun V hV => ?_⟩
  refine zq (σ := σ) hV hI rfl 7 ?_
  show K (some (.int ((-10) - c))) (zuI σ 26 3 c)
  exact hK
set_option maxRecDepth 8000 in
set_option maxHeartbeats 4000000 in
theorem sform_ok {d : Nat} {σ : zSt} {K : Option Value → zSt → Prop} {s : Int32} {k : Nat} (hI : zQI (kR 26 30) σ.2.2) (e : s = nI k) (hk : k < 4) (hK : K (some (.int (σ.1 27 k))) σ) : zSp (d + 2) mX5_form [.ref 26, .int s] σ K := by
  refine ⟨⟨by decide, Nat.le_of_ble_eq_true rfl⟩, fun V hV => ?_⟩
  subst e
  refine zq (σ := σ) hV hI rfl 4 ?_
  show zSp _ 128 [.ref 27, .int (nI k)] σ (fun r σ' => σ'.2.2.2 = σ.2.2.2 + zAl 128 → V 8 [(0, .ref 26), (1, .int (nI k))] (r.toList ++ []) σ')
  refine item_27 (zA_of hI rfl) rfl (by omega) (fun _ => ?_)
  refine zq (σ := σ) hV hI rfl 1 ?_
  show K (some (.int (σ.1 27 k))) σ
  exact hK
set_option maxRecDepth 8000 in
set_option maxHeartbeats 4000000 in
theorem slength_ok {d : Nat} {σ : zSt} {K : Option Value → zSt → Prop} {s : Int32} {k : Nat} (hI : zQI (kR 26 30) σ.2.2) (e : s = nI k) (hk : k < 4) (hK : K (some (.int (σ.1 28 k))) σ) : zSp (d + 2) mX5_length [.ref 26, .int s] σ K := by
  refine ⟨⟨by decide, Nat.le_of_ble_eq_true rfl⟩, fun V hV => ?_⟩
  subst e
  refine zq (σ := σ) hV hI rfl 4 ?_
  show zSp _ 128 [.ref 28, .int (nI k)] σ (fun r σ' => σ'.2.2.2 = σ.2.2.2 + zAl 128 → V 8 [(0, .ref 26), (1, .int (nI k))] (r.toList ++ []) σ')
  refine item_28 (zA_of hI rfl) rfl (by omega) (fun _ => ?_)
  refine zq (σ := σ) hV hI rfl 1 ?_
  show K (some (.int (σ.1 28 k))) σ
  exact hK
set_option maxRecDepth 8000 in
set_option maxHeartbeats 4000000 in
theorem isLost_ok {d : Nat} {σ : zSt} {K : Option Value → zSt → Prop} {s : Int32} {k : Nat} (hI : zQI (kR 26 30) σ.2.2) (e : s = nI k) (hk : k < 4) (h1 : σ.1 27 k = -1 → K (some (.int 1)) σ) (h0 : ¬ σ.1 27 k = -1 → K (some (.int 0)) σ) : zSp (d + 3) mX5_isLost [.ref 26, .int s] σ K := by
  refine ⟨⟨by decide, Nat.le_of_ble_eq_true rfl⟩, fun V hV => ?_⟩
  subst e
  refine zq (σ := σ) hV hI rfl 3 ?_
  show zSp _ 48 [.ref 26, .int (nI k)] σ (fun r σ' => σ'.2.2.2 = σ.2.2.2 + zAl 48 → V 5 [(0, .ref 26), (1, .int (nI k))] (r.toList ++ []) σ')
  refine sform_ok (zR_of hI rfl rfl) rfl (by omega) (fun _ => ?_)
  refine zq (σ := σ) hV hI rfl 2 ?_
  show (¬ (σ.1 27 k) = (-1) → V 13 [(0, .ref 26), (1, .int (nI k))] [] σ) ∧ (¬ (¬ (σ.1 27 k) = (-1)) → V 9 [(0, .ref 26), (1, .int (nI k))] [] σ)
  refine ⟨fun h_6 => ?_, fun h_6 => ?_⟩
  · skip
    refine zq (σ := σ) hV hI rfl 2 ?_
    show ((0 : Int32) = 0 ∨ (0 : Int32) = 1) ∧ K (some (.int 0)) σ
    refine ⟨by decide, ?_⟩
    exact h0 h_6
  · skip
    have h_6 := Classical.not_not.mp h_6
    refine zq (σ := σ) hV hI rfl 3 ?_
    show ((1 : Int32) = 0 ∨ (1 : Int32) = 1) ∧ K (some (.int 1)) σ
    refine ⟨by decide, ?_⟩
    exact h1 h_6
set_option maxRecDepth 8000 in
set_option maxHeartbeats 4000000 in
theorem forget_ok {d : Nat} {σ : zSt} {K : Option Value → zSt → Prop} {s : Int32} {k : Nat} (hI : zQI (kR 26 30) σ.2.2) (e : s = nI k) (hk : k < 4) (hK : K none (zuI (zuI σ 27 k (-1)) 28 k 0)) : zSp (d + 2) mX5_forget [.ref 26, .int s] σ K := by
  refine ⟨⟨by decide, Nat.le_of_ble_eq_true rfl⟩, fun V hV => ?_⟩
  subst e
  refine zq (σ := σ) hV hI rfl 5 ?_
  show zSp _ 129 [.ref 27, .int (nI k), .int (-1)] σ (fun r σ' => σ'.2.2.2 = σ.2.2.2 + zAl 129 → V 9 [(0, .ref 26), (1, .int (nI k))] (r.toList ++ []) σ')
  refine setItem_27 (zA_of hI rfl) rfl (by omega) (fun _ => ?_)
  refine zq (σ := (zuI σ 27 k (-1))) hV hI rfl 5 ?_
  show zSp _ 129 [.ref 28, .int (nI k), .int 0] (zuI σ 27 k (-1)) (fun r σ' => σ'.2.2.2 = (zuI σ 27 k (-1)).2.2.2 + zAl 129 → V 18 [(0, .ref 26), (1, .int (nI k))] (r.toList ++ []) σ')
  refine setItem_28 (zA_of hI rfl) rfl (by omega) (fun _ => ?_)
  refine zq (σ := (zuI (zuI σ 27 k (-1)) 28 k 0)) hV hI rfl 1 ?_
  show K none (zuI (zuI σ 27 k (-1)) 28 k 0)
  exact hK
set_option maxRecDepth 8000 in
set_option maxHeartbeats 4000000 in
theorem svalue_ok {d : Nat} {σ : zSt} {K : Option Value → zSt → Prop} {s i : Int32} {k j : Nat} (hI : zQI (kR 26 30) σ.2.2) (e : s = nI k) (hk : k < 4) (ei : i = nI j) (hj : j < 60) (hK : K (some (.int (σ.1 29 (k * 60 + j)))) σ) : zSp (d + 2) mX5_value [.ref 26, .int s, .int i] σ K := by
  refine ⟨⟨by decide, Nat.le_of_ble_eq_true rfl⟩, fun V hV => ?_⟩
  subst e
  subst ei
  refine zq (σ := σ) hV hI rfl 8 ?_
  show zSp _ 128 [.ref 29, .int (((nI k) * 60) + (nI j))] σ (fun r σ' => σ'.2.2.2 = σ.2.2.2 + zAl 128 → V 13 [(0, .ref 26), (1, .int (nI k)), (2, .int (nI j))] (r.toList ++ []) σ')
  refine item_29 (zA_of hI rfl) zix60 (by omega) (fun _ => ?_)
  refine zq (σ := σ) hV hI rfl 1 ?_
  show K (some (.int (σ.1 29 (k * 60 + j)))) σ
  exact hK
set_option maxRecDepth 8000 in
set_option maxHeartbeats 4000000 in
theorem hasValue_ok {d : Nat} {σ : zSt} {K : Option Value → zSt → Prop} {s i v : Int32} {k j l : Nat} (hI : zQI (kR 26 30) σ.2.2) (e : s = nI k) (hk : k < 4) (ei : i = nI j) (hj : j < 2 ^ 31) (hl : σ.1 28 k = nI l) (hl60 : l ≤ 60) (h1 : j < l → σ.1 29 (k * 60 + j) = v → K (some (.int 1)) σ) (h0 : ¬ (j < l ∧ σ.1 29 (k * 60 + j) = v) → K (some (.int 0)) σ) : zSp (d + 3) mX5_hasValue [.ref 26, .int s, .int i, .int v] σ K := by
  refine ⟨⟨by decide, Nat.le_of_ble_eq_true rfl⟩, fun V hV => ?_⟩
  subst e
  subst ei
  refine zq (σ := σ) hV hI rfl 4 ?_
  show zSp _ 49 [.ref 26, .int (nI k)] σ (fun r σ' => σ'.2.2.2 = σ.2.2.2 + zAl 49 → V 6 [(0, .ref 26), (1, .int (nI k)), (2, .int (nI j)), (3, .int v)] (r.toList ++ [.int (nI j)]) σ')
  refine slength_ok (zR_of hI rfl rfl) rfl (by omega) (fun _ => ?_)
  refine zq (σ := σ) hV hI rfl 1 ?_
  show ((σ.1 28 k) ≤ (nI j) → V 23 [(0, .ref 26), (1, .int (nI k)), (2, .int (nI j)), (3, .int v)] [] σ) ∧ (¬ (σ.1 28 k) ≤ (nI j) → V 9 [(0, .ref 26), (1, .int (nI k)), (2, .int (nI j)), (3, .int v)] [] σ)
  refine ⟨fun h_6 => ?_, fun h_6 => ?_⟩
  · skip
    refine zq (σ := σ) hV hI rfl 2 ?_
    show ((0 : Int32) = 0 ∨ (0 : Int32) = 1) ∧ K (some (.int 0)) σ
    refine ⟨by decide, ?_⟩
    refine h0 (fun q => absurd q.1 ?_) 
    rw [hl, nI_leI (by omega) (by omega)] at h_6
    omega
  · skip
    have hjl : j < l := by rw [hl, nI_leI (by omega) (by omega)] at h_6; omega
    refine zq (σ := σ) hV hI rfl 4 ?_
    show zSp _ 53 [.ref 26, .int (nI k), .int (nI j)] σ (fun r σ' => σ'.2.2.2 = σ.2.2.2 + zAl 53 → V 15 [(0, .ref 26), (1, .int (nI k)), (2, .int (nI j)), (3, .int v)] (r.toList ++ []) σ')
    refine svalue_ok (zR_of hI rfl rfl) rfl (by omega) rfl (by omega) (fun _ => ?_)
    refine zq (σ := σ) hV hI rfl 2 ?_
    show (¬ (σ.1 29 (k * 60 + j)) = v → V 23 [(0, .ref 26), (1, .int (nI k)), (2, .int (nI j)), (3, .int v)] [] σ) ∧ (¬ (¬ (σ.1 29 (k * 60 + j)) = v) → V 19 [(0, .ref 26), (1, .int (nI k)), (2, .int (nI j)), (3, .int v)] [] σ)
    refine ⟨fun h_16 => ?_, fun h_16 => ?_⟩
    · skip
      refine zq (σ := σ) hV hI rfl 2 ?_
      show ((0 : Int32) = 0 ∨ (0 : Int32) = 1) ∧ K (some (.int 0)) σ
      refine ⟨by decide, ?_⟩
      exact h0 (fun q => h_16 q.2)
    · skip
      have h_16 := Classical.not_not.mp h_16
      refine zq (σ := σ) hV hI rfl 3 ?_
      show ((1 : Int32) = 0 ∨ (1 : Int32) = 1) ∧ K (some (.int 1)) σ
      refine ⟨by decide, ?_⟩
      exact h1 hjl h_16
set_option maxRecDepth 8000 in
set_option maxHeartbeats 4000000 in
theorem write_ok {d : Nat} {σ : zSt} {K : Option Value → zSt → Prop} {s i v : Int32} {k j : Nat} (hI : zQI (kR 26 30) σ.2.2) (e : s = nI k) (hk : k < 4) (ei : i = nI j) (hj : j < 60) (hK : K none (zuI σ 29 (k * 60 + j) (zKp (σ.1 27 k) v))) : zSp (d + 3) mX5_write [.ref 26, .int s, .int i, .int v] σ K := by
  refine ⟨⟨by decide, Nat.le_of_ble_eq_true rfl⟩, fun V hV => ?_⟩
  subst e
  subst ei
  refine zq (σ := σ) hV hI rfl 3 ?_
  show zSp _ 48 [.ref 26, .int (nI k)] σ (fun r σ' => σ'.2.2.2 = σ.2.2.2 + zAl 48 → V 5 [(0, .ref 26), (1, .int (nI k)), (2, .int (nI j)), (3, .int v)] (r.toList ++ []) σ')
  refine sform_ok (zR_of hI rfl rfl) rfl (by omega) (fun _ => ?_)
  refine zq (σ := σ) hV hI rfl 1 ?_
  show (¬ (σ.1 27 k) = 0 → V 13 [(0, .ref 26), (1, .int (nI k)), (2, .int (nI j)), (3, .int v)] [] σ) ∧ (¬ (¬ (σ.1 27 k) = 0) → V 8 [(0, .ref 26), (1, .int (nI k)), (2, .int (nI j)), (3, .int v)] [] σ)
  refine ⟨fun h_5 => ?_, fun h_5 => ?_⟩
  · skip
    refine zq (σ := σ) hV hI rfl 3 ?_
    show zSp _ 48 [.ref 26, .int (nI k)] σ (fun r σ' => σ'.2.2.2 = σ.2.2.2 + zAl 48 → V 18 [(0, .ref 26), (1, .int (nI k)), (2, .int (nI j)), (3, .int v)] (r.toList ++ []) σ')
    refine sform_ok (zR_of hI rfl rfl) rfl (by omega) (fun _ => ?_)
    refine zq (σ := σ) hV hI rfl 2 ?_
    show (¬ (σ.1 27 k) = 1 → V 27 [(0, .ref 26), (1, .int (nI k)), (2, .int (nI j)), (3, .int v)] [] σ) ∧ (¬ (¬ (σ.1 27 k) = 1) → V 22 [(0, .ref 26), (1, .int (nI k)), (2, .int (nI j)), (3, .int v)] [] σ)
    refine ⟨fun h_19 => ?_, fun h_19 => ?_⟩
    · skip
      refine zq (σ := σ) hV hI rfl 11 ?_
      show zSp _ 129 [.ref 29, .int (((nI k) * 60) + (nI j)), .int v] σ (fun r σ' => σ'.2.2.2 = σ.2.2.2 + zAl 129 → V 45 [(4, .int v), (0, .ref 26), (1, .int (nI k)), (2, .int (nI j)), (3, .int v)] (r.toList ++ []) σ')
      refine setItem_29 (zA_of hI rfl) zix60 (by omega) (fun _ => ?_)
      refine zq (σ := (zuI σ 29 (k * 60 + j) v)) hV hI rfl 1 ?_
      show K none (zuI σ 29 (k * 60 + j) v)
      unfold zKp at hK
      first | (rw [if_pos h_5] at hK; exact hK) | (rw [if_neg h_5, if_pos h_19] at hK; exact hK) | (rw [if_neg h_5, if_neg h_19] at hK; exact hK)
    · skip
      have h_19 := Classical.not_not.mp h_19
      refine zq (σ := σ) hV hI rfl 13 ?_
      show zSp _ 129 [.ref 29, .int (((nI k) * 60) + (nI j)), .int ((Int32.toInt16 v).toInt32)] σ (fun r σ' => σ'.2.2.2 = σ.2.2.2 + zAl 129 → V 45 [(4, .int ((Int32.toInt16 v).toInt32)), (0, .ref 26), (1, .int (nI k)), (2, .int (nI j)), (3, .int v)] (r.toList ++ []) σ')
      refine setItem_29 (zA_of hI rfl) zix60 (by omega) (fun _ => ?_)
      refine zq (σ := (zuI σ 29 (k * 60 + j) ((Int32.toInt16 v).toInt32))) hV hI rfl 1 ?_
      show K none (zuI σ 29 (k * 60 + j) ((Int32.toInt16 v).toInt32))
      unfold zKp at hK
      first | (rw [if_pos h_5] at hK; exact hK) | (rw [if_neg h_5, if_pos h_19] at hK; exact hK) | (rw [if_neg h_5, if_neg h_19] at hK; exact hK)
  · skip
    have h_5 := Classical.not_not.mp h_5
    refine zq (σ := σ) hV hI rfl 13 ?_
    show zSp _ 129 [.ref 29, .int (((nI k) * 60) + (nI j)), .int ((Int32.toInt8 v).toInt32)] σ (fun r σ' => σ'.2.2.2 = σ.2.2.2 + zAl 129 → V 45 [(4, .int ((Int32.toInt8 v).toInt32)), (0, .ref 26), (1, .int (nI k)), (2, .int (nI j)), (3, .int v)] (r.toList ++ []) σ')
    refine setItem_29 (zA_of hI rfl) zix60 (by omega) (fun _ => ?_)
    refine zq (σ := (zuI σ 29 (k * 60 + j) ((Int32.toInt8 v).toInt32))) hV hI rfl 1 ?_
    show K none (zuI σ 29 (k * 60 + j) ((Int32.toInt8 v).toInt32))
    unfold zKp at hK
    first | (rw [if_pos h_5] at hK; exact hK) | (rw [if_neg h_5, if_pos h_19] at hK; exact hK) | (rw [if_neg h_5, if_neg h_19] at hK; exact hK)
set_option maxRecDepth 8000 in
set_option maxHeartbeats 4000000 in
theorem faultAt_ok {d : Nat} {σ : zSt} {K : Option Value → zSt → Prop} {s f i : Int32} {k l : Nat} (hI : zQI (kR 26 30) σ.2.2) (e : s = nI k) (hk : k < 4) (hl : σ.1 28 k = nI l) (hl60 : l ≤ 60) (c1 : σ.1 27 k = -1 → K (some (.int 1)) σ) (c3 : ¬ σ.1 27 k = -1 → ¬ σ.1 27 k = f → K (some (.int 3)) σ) (c2 : ¬ σ.1 27 k = -1 → σ.1 27 k = f → ¬ zBt 0 (l - 1) i → K (some (.int 2)) σ) (c0 : ¬ σ.1 27 k = -1 → σ.1 27 k = f → zBt 0 (l - 1) i → K (some (.int 0)) σ) : zSp (d + 4) mX5_faultAt [.ref 26, .int s, .int f, .int i] σ K := by
  refine ⟨⟨by decide, Nat.le_of_ble_eq_true rfl⟩, fun V hV => ?_⟩
  subst e
  have hli := nI_toInt (show l < 2 ^ 31 by omega)
  refine zq (σ := σ) hV hI rfl 3 ?_
  show zSp _ 50 [.ref 26, .int (nI k)] σ (fun r σ' => σ'.2.2.2 = σ.2.2.2 + zAl 50 → V 5 [(0, .ref 26), (1, .int (nI k)), (2, .int f), (3, .int i)] (r.toList ++ []) σ')
  refine isLost_ok (zR_of hI rfl rfl) rfl (by omega) (fun hb1 _ => ?_) (fun hb1 _ => ?_)
  · skip
    refine zq (σ := σ) hV hI rfl 1 ?_
    show ((1 : Int32) = 0 → V 10 [(0, .ref 26), (1, .int (nI k)), (2, .int f), (3, .int i)] [] σ) ∧ (¬ (1 : Int32) = 0 → V 8 [(0, .ref 26), (1, .int (nI k)), (2, .int f), (3, .int i)] [] σ)
    refine ⟨fun hc => absurd hc (by decide), fun _ => ?_⟩
    refine zq (σ := σ) hV hI rfl 2 ?_
    show K (some (.int 1)) σ
    exact c1 hb1
  · skip
    refine zq (σ := σ) hV hI rfl 1 ?_
    show ((0 : Int32) = 0 → V 10 [(0, .ref 26), (1, .int (nI k)), (2, .int f), (3, .int i)] [] σ) ∧ (¬ (0 : Int32) = 0 → V 8 [(0, .ref 26), (1, .int (nI k)), (2, .int f), (3, .int i)] [] σ)
    refine ⟨fun _ => ?_, fun hc => absurd (by decide) hc⟩
    refine zq (σ := σ) hV hI rfl 3 ?_
    show zSp _ 48 [.ref 26, .int (nI k)] σ (fun r σ' => σ'.2.2.2 = σ.2.2.2 + zAl 48 → V 15 [(0, .ref 26), (1, .int (nI k)), (2, .int f), (3, .int i)] (r.toList ++ []) σ')
    refine sform_ok (zR_of hI rfl rfl) rfl (by omega) (fun _ => ?_)
    refine zq (σ := σ) hV hI rfl 2 ?_
    show ((σ.1 27 k) = f → V 21 [(0, .ref 26), (1, .int (nI k)), (2, .int f), (3, .int i)] [] σ) ∧ (¬ (σ.1 27 k) = f → V 19 [(0, .ref 26), (1, .int (nI k)), (2, .int f), (3, .int i)] [] σ)
    refine ⟨fun h_16 => ?_, fun h_16 => ?_⟩
    · skip
      refine zq (σ := σ) hV hI rfl 2 ?_
      show (i < 0 → V 34 [(0, .ref 26), (1, .int (nI k)), (2, .int f), (3, .int i)] [] σ) ∧ (¬ i < 0 → V 25 [(0, .ref 26), (1, .int (nI k)), (2, .int f), (3, .int i)] [] σ)
      refine ⟨fun h_22 => ?_, fun h_22 => ?_⟩
      · skip
        refine zq (σ := σ) hV hI rfl 3 ?_
        show K (some (.int 2)) σ
        refine c2 hb1 h_16 (by
          simp only [zlt, hl, hli] at h_22
          unfold zBt
          simp at h_22 ⊢
          omega)
      · skip
        refine zq (σ := σ) hV hI rfl 4 ?_
        show zSp _ 49 [.ref 26, .int (nI k)] σ (fun r σ' => σ'.2.2.2 = σ.2.2.2 + zAl 49 → V 31 [(0, .ref 26), (1, .int (nI k)), (2, .int f), (3, .int i)] (r.toList ++ [.int i]) σ')
        refine slength_ok (zR_of hI rfl rfl) rfl (by omega) (fun _ => ?_)
        refine zq (σ := σ) hV hI rfl 1 ?_
        show (i < (σ.1 28 k) → V 38 [(0, .ref 26), (1, .int (nI k)), (2, .int f), (3, .int i)] [] σ) ∧ (¬ i < (σ.1 28 k) → V 34 [(0, .ref 26), (1, .int (nI k)), (2, .int f), (3, .int i)] [] σ)
        refine ⟨fun h_31 => ?_, fun h_31 => ?_⟩
        · skip
          refine zq (σ := σ) hV hI rfl 2 ?_
          show K (some (.int 0)) σ
          refine c0 hb1 h_16 (by
            simp only [zlt, hl, hli] at h_22 h_31
            unfold zBt
            simp at h_22 h_31 ⊢
            omega)
        · skip
          refine zq (σ := σ) hV hI rfl 3 ?_
          show K (some (.int 2)) σ
          refine c2 hb1 h_16 (by
            simp only [zlt, hl, hli] at h_22 h_31
            unfold zBt
            simp at h_22 h_31 ⊢
            omega)
    · skip
      refine zq (σ := σ) hV hI rfl 2 ?_
      show K (some (.int 3)) σ
      exact c3 hb1 h_16
set_option maxRecDepth 8000 in
set_option maxHeartbeats 4000000 in
theorem hasRun_ok {d : Nat} {σ : zSt} {K : Option Value → zSt → Prop} {s i c : Int32} {k l : Nat} (hI : zQI (kR 26 30) σ.2.2) (e : s = nI k) (hk : k < 4) (hl : σ.1 28 k = nI l) (hl60 : l ≤ 60) (h1 : (0 ≤ i.toInt ∧ 0 ≤ c.toInt ∧ i.toInt + c.toInt ≤ l) → K (some (.int 1)) σ) (h0 : ¬ (0 ≤ i.toInt ∧ 0 ≤ c.toInt ∧ i.toInt + c.toInt ≤ l) → K (some (.int 0)) σ) : zSp (d + 3) mX5_hasRun [.ref 26, .int s, .int i, .int c] σ K := by
  refine ⟨⟨by decide, Nat.le_of_ble_eq_true rfl⟩, fun V hV => ?_⟩
  subst e
  have hli := nI_toInt (show l < 2 ^ 31 by omega)
  refine zq (σ := σ) hV hI rfl 2 ?_
  show (i < 0 → V 23 [(0, .ref 26), (1, .int (nI k)), (2, .int i), (3, .int c)] [] σ) ∧ (¬ i < 0 → V 4 [(0, .ref 26), (1, .int (nI k)), (2, .int i), (3, .int c)] [] σ)
  refine ⟨fun h_1 => ?_, fun h_1 => ?_⟩
  · skip
    refine zq (σ := σ) hV hI rfl 2 ?_
    show ((0 : Int32) = 0 ∨ (0 : Int32) = 1) ∧ K (some (.int 0)) σ
    refine ⟨by decide, ?_⟩
    refine h0 (by
      simp only [zlt, hl] at h_1
      simp at h_1
      omega)
  · skip
    refine zq (σ := σ) hV hI rfl 2 ?_
    show (c < 0 → V 23 [(0, .ref 26), (1, .int (nI k)), (2, .int i), (3, .int c)] [] σ) ∧ (¬ c < 0 → V 8 [(0, .ref 26), (1, .int (nI k)), (2, .int i), (3, .int c)] [] σ)
    refine ⟨fun h_5 => ?_, fun h_5 => ?_⟩
    · skip
      refine zq (σ := σ) hV hI rfl 2 ?_
      show ((0 : Int32) = 0 ∨ (0 : Int32) = 1) ∧ K (some (.int 0)) σ
      refine ⟨by decide, ?_⟩
      refine h0 (by
        simp only [zlt, hl] at h_1 h_5
        simp at h_1 h_5
        omega)
    · skip
      refine zq (σ := σ) hV hI rfl 4 ?_
      show zSp _ 49 [.ref 26, .int (nI k)] σ (fun r σ' => σ'.2.2.2 = σ.2.2.2 + zAl 49 → V 14 [(0, .ref 26), (1, .int (nI k)), (2, .int i), (3, .int c)] (r.toList ++ [.int c]) σ')
      refine slength_ok (zR_of hI rfl rfl) rfl (by omega) (fun _ => ?_)
      refine zq (σ := σ) hV hI rfl 3 ?_
      show (((σ.1 28 k) - i) < c → V 23 [(0, .ref 26), (1, .int (nI k)), (2, .int i), (3, .int c)] [] σ) ∧ (¬ ((σ.1 28 k) - i) < c → V 19 [(0, .ref 26), (1, .int (nI k)), (2, .int i), (3, .int c)] [] σ)
      refine ⟨fun h_16 => ?_, fun h_16 => ?_⟩
      · skip
        refine zq (σ := σ) hV hI rfl 2 ?_
        show ((0 : Int32) = 0 ∨ (0 : Int32) = 1) ∧ K (some (.int 0)) σ
        refine ⟨by decide, ?_⟩
        refine h0 (by
          simp only [zlt, hl] at h_1 h_5 h_16
          have q2 : 0 ≤ i.toInt := by simpa using h_1
          have e9 : (nI l - i).toInt = (l : Int) - i.toInt := by rw [zsub (by rw [hli]; have := (zR32 i); omega), hli]
          rw [e9] at h_16
          simp at h_1 h_5 h_16
          omega)
      · skip
        refine zq (σ := σ) hV hI rfl 3 ?_
        show ((1 : Int32) = 0 ∨ (1 : Int32) = 1) ∧ K (some (.int 1)) σ
        refine ⟨by decide, ?_⟩
        refine h1 (by
          simp only [zlt, hl] at h_1 h_5 h_16
          have q2 : 0 ≤ i.toInt := by simpa using h_1
          have e9 : (nI l - i).toInt = (l : Int) - i.toInt := by rw [zsub (by rw [hli]; have := (zR32 i); omega), hli]
          rw [e9] at h_16
          simp at h_1 h_5 h_16
          omega)
def zfRn (k : Nat) (a j : Nat) : Bool := (Nat.beq a 27 && Nat.beq j k) || (Nat.beq a 28 && Nat.beq j k) || (Nat.beq a 29 && (Nat.ble (k * 60) j && Nat.blt j (k * 60 + 60)))
set_option maxRecDepth 8000 in
set_option maxHeartbeats 4000000 in
theorem renew_ok {d : Nat} {σ : zSt} {K : Option Value → zSt → Prop} {s f c : Int32} {k : Nat} (hI : zQI (kR 26 30) σ.2.2) (e : s = nI k) (hk : k < 4) (hK : ∀ τ, zOnly (zfRn k) σ τ → τ.1 27 k = f → τ.1 28 k = c → (∀ j, j < 60 → τ.1 29 (k * 60 + j) = 0) → K none τ) : zSp (d + 2) mX5_renew [.ref 26, .int s, .int f, .int c] σ K := by
  refine ⟨⟨by decide, Nat.le_of_ble_eq_true rfl⟩, fun V hV => ?_⟩
  subst e
  refine zq (σ := σ) hV hI rfl 5 ?_
  show zSp _ 129 [.ref 27, .int (nI k), .int f] σ (fun r σ' => σ'.2.2.2 = σ.2.2.2 + zAl 129 → V 9 [(0, .ref 26), (1, .int (nI k)), (2, .int f), (3, .int c)] (r.toList ++ []) σ')
  refine setItem_27 (zA_of hI rfl) rfl (by omega) (fun _ => ?_)
  refine zq (σ := (zuI σ 27 k f)) hV hI rfl 5 ?_
  show zSp _ 129 [.ref 28, .int (nI k), .int c] (zuI σ 27 k f) (fun r σ' => σ'.2.2.2 = (zuI σ 27 k f).2.2.2 + zAl 129 → V 18 [(0, .ref 26), (1, .int (nI k)), (2, .int f), (3, .int c)] (r.toList ++ []) σ')
  refine setItem_28 (zA_of hI rfl) rfl (by omega) (fun _ => ?_)
  refine zq (σ := (zuI (zuI σ 27 k f) 28 k c)) hV hI rfl 2 ?_
  show V 21 [(4, .int 0), (0, .ref 26), (1, .int (nI k)), (2, .int f), (3, .int c)] [] (zuI (zuI σ 27 k f) 28 k c)
  refine zwk hV [1, 2, 3, 4, 0] rfl ?_
  have H : ∀ (r i : Nat) (τ : zSt), i + r = 60 → zOnly (zfRn k) σ τ → τ.1 27 k = f → τ.1 28 k = c → (∀ j, j < i → τ.1 29 (k * 60 + j) = 0) → V 21 [(0, .ref 26), (1, .int (nI k)), (2, .int f), (3, .int c), (4, .int (nI i))] [] τ := by
    intro r
    induction r with
    | zero =>
      intro i τ hir ht h7 h8 h9
      have hIt := zQI_eq hI ht.2.2
      have hnt : τ.2.2.2 = σ.2.2.2 := congrArg Prod.snd ht.2.2
      refine zq (σ := τ) hV hIt hnt 3 ?_
      show (60 ≤ (nI i) → V 49 [(0, .ref 26), (1, .int (nI k)), (2, .int f), (3, .int c), (4, .int (nI i))] [] τ) ∧ (¬ 60 ≤ (nI i) → V 28 [(0, .ref 26), (1, .int (nI k)), (2, .int f), (3, .int c), (4, .int (nI i))] [] τ)
      refine ⟨fun _ => ?_, fun hc => absurd (show (60 : Int32) ≤ nI i by rw [show i = 60 by omega]; decide) hc⟩
      refine zq (σ := τ) hV hIt hnt 1 ?_
      show K none τ
      obtain rfl : i = 60 := by omega
      exact hK τ ht h7 h8 h9
    | succ r ih =>
      intro i τ hir ht h7 h8 h9
      have hIt := zQI_eq hI ht.2.2
      have hnt : τ.2.2.2 = σ.2.2.2 := congrArg Prod.snd ht.2.2
      refine zq (σ := τ) hV hIt hnt 3 ?_
      show (60 ≤ (nI i) → V 49 [(0, .ref 26), (1, .int (nI k)), (2, .int f), (3, .int c), (4, .int (nI i))] [] τ) ∧ (¬ 60 ≤ (nI i) → V 28 [(0, .ref 26), (1, .int (nI k)), (2, .int f), (3, .int c), (4, .int (nI i))] [] τ)
      refine ⟨fun hc => absurd hc (show ¬ nI 60 ≤ nI i from nI_ge (by omega) (by decide)), fun _ => ?_⟩
      refine zq (σ := τ) hV hIt hnt 9 ?_
      show zSp _ 129 [.ref 29, .int (((nI k) * 60) + (nI i)), .int 0] τ (fun r σ' => σ'.2.2.2 = τ.2.2.2 + zAl 129 → V 43 [(0, .ref 26), (1, .int (nI k)), (2, .int f), (3, .int c), (4, .int (nI i))] (r.toList ++ []) σ')
      refine setItem_29 (zA_of hIt rfl) zix60 (by omega) (fun _ => ?_)
      refine zq (σ := (zuI τ 29 (k * 60 + i) 0)) hV hIt hnt 2 ?_
      show V 21 [(4, .int ((nI i) + 1)), (0, .ref 26), (1, .int (nI k)), (2, .int f), (3, .int c)] [] (zuI τ 29 (k * 60 + i) 0)
      refine zwk hV [1, 2, 3, 4, 0] rfl ?_
      rw [nI_1]
      refine ih (i + 1) _ (by omega) (ht.uI (by simp [zfRn]; omega)) ?_ ?_ (fun j q => ?_)
      · simp [zuI_get, h7]
      · simp [zuI_get, h8]
      · rw [zuI_get]
        by_cases hji : j = i
        · subst hji; simp
        · rw [if_neg (by omega)]; exact h9 j (by omega)
  refine H 60 0 _ rfl ?_ ?_ ?_ (fun j q => absurd q (Nat.not_lt_zero j))
  · exact (zOnly.rf.uI (by simp [zfRn])).uI (by simp [zfRn])
  · simp [zuI_get]
  · simp [zuI_get]
set_option maxRecDepth 8000 in
set_option maxHeartbeats 4000000 in
theorem sheet_C {d : Nat} {σ : zSt} {K : Option Value → zSt → Prop} {s f c : Int32} (hI : zQI (kR 0 30) σ.2.2) (hBad : ¬ (zBt 0 3 s ∧ zBt 0 2 f ∧ c.toInt ≤ 60) → K (some (.int (-2))) σ) (hSz : (zBt 0 3 s ∧ zBt 0 2 f ∧ c.toInt ≤ 60) → ¬ 0 ≤ c.toInt → K (some (.int (-10 - 5))) (zuI σ 26 3 5)) (hOk : ∀ τ k, (zBt 0 3 s ∧ zBt 0 2 f ∧ c.toInt ≤ 60) → 0 ≤ c.toInt → s = nI k → k < 4 → zOnly (zfRn k) σ τ → τ.1 27 k = f → τ.1 28 k = c → (∀ j, j < 60 → τ.1 29 (k * 60 + j) = 0) → K (some (.int c)) τ) : zSp (d + 3) mX8_sheet [.ref 0, .int s, .int f, .int c] σ K := by
  refine ⟨⟨by decide, Nat.le_of_ble_eq_true rfl⟩, fun V hV => ?_⟩
  refine zq (σ := σ) hV hI rfl 2 ?_
  show zSp _ 122 [.int s] σ (fun r σ' => σ'.2.2.2 = σ.2.2.2 + zAl 122 → V 4 [(0, .ref 0), (1, .int s), (2, .int f), (3, .int c)] (r.toList ++ []) σ')
  refine isSheet_ok (fun hb1 _ => ?_) (fun hb1 _ => ?_)
  · skip
    refine zq (σ := σ) hV hI rfl 1 ?_
    show ((1 : Int32) = 0 → V 20 [(0, .ref 0), (1, .int s), (2, .int f), (3, .int c)] [] σ) ∧ (¬ (1 : Int32) = 0 → V 7 [(0, .ref 0), (1, .int s), (2, .int f), (3, .int c)] [] σ)
    refine ⟨fun hc => absurd hc (by decide), fun _ => ?_⟩
    refine zq (σ := σ) hV hI rfl 2 ?_
    show zSp _ 123 [.int f] σ (fun r σ' => σ'.2.2.2 = σ.2.2.2 + zAl 123 → V 11 [(0, .ref 0), (1, .int s), (2, .int f), (3, .int c)] (r.toList ++ []) σ')
    refine isForm_ok (fun hb2 _ => ?_) (fun hb2 _ => ?_)
    · skip
      refine zq (σ := σ) hV hI rfl 1 ?_
      show ((1 : Int32) = 0 → V 20 [(0, .ref 0), (1, .int s), (2, .int f), (3, .int c)] [] σ) ∧ (¬ (1 : Int32) = 0 → V 14 [(0, .ref 0), (1, .int s), (2, .int f), (3, .int c)] [] σ)
      refine ⟨fun hc => absurd hc (by decide), fun _ => ?_⟩
      refine zq (σ := σ) hV hI rfl 3 ?_
      show (c ≤ 60 → V 23 [(0, .ref 0), (1, .int s), (2, .int f), (3, .int c)] [] σ) ∧ (¬ c ≤ 60 → V 20 [(0, .ref 0), (1, .int s), (2, .int f), (3, .int c)] [] σ)
      refine ⟨fun h_17 => ?_, fun h_17 => ?_⟩
      · skip
        refine zq (σ := σ) hV hI rfl 2 ?_
        show (0 ≤ c → V 36 [(0, .ref 0), (1, .int s), (2, .int f), (3, .int c)] [] σ) ∧ (¬ 0 ≤ c → V 27 [(0, .ref 0), (1, .int s), (2, .int f), (3, .int c)] [] σ)
        refine ⟨fun h_24 => ?_, fun h_24 => ?_⟩
        · skip
          refine zq (σ := σ) hV hI rfl 6 ?_
          show zSp _ 52 [.ref 26, .int s, .int f, .int c] σ (fun r σ' => σ'.2.2.2 = σ.2.2.2 + zAl 52 → V 46 [(0, .ref 0), (1, .int s), (2, .int f), (3, .int c)] (r.toList ++ []) σ')
          obtain ⟨k, hk, hk2, _⟩ := zNat (x := s) (by unfold zBt at hb1; omega)
          have hk4 : k < 4 := by unfold zBt at hb1; omega
          refine renew_ok (zR_of hI rfl rfl) hk (by omega) (fun τ ht h7 h8 h9 _ => ?_)
          have hIt := zQI_eq hI ht.2.2
          have hnt : τ.2.2.2 = σ.2.2.2 := congrArg Prod.snd ht.2.2
          refine zq (σ := τ) hV hIt hnt 2 ?_
          show K (some (.int c)) τ
          have hv : (zBt 0 3 s ∧ zBt 0 2 f ∧ c.toInt ≤ 60) := ⟨hb1, hb2, by simp only [zle] at h_17; simp at h_17; omega⟩
          have h24 : 0 ≤ c.toInt ↔ (0 : Int32) ≤ c := by rw [zle]; exact Iff.rfl
          exact hOk τ k hv (h24.mpr h_24) hk hk4 ht h7 h8 h9
        · skip
          refine zq (σ := σ) hV hI rfl 4 ?_
          show zSp _ 47 [.ref 26, .int 5] σ (fun r σ' => σ'.2.2.2 = σ.2.2.2 + zAl 47 → V 35 [(0, .ref 0), (1, .int s), (2, .int f), (3, .int c)] (r.toList ++ []) σ')
          refine find_ok (zR_of hI rfl rfl) (fun _ => ?_)
          refine zq (σ := (zuI σ 26 3 5)) hV hI rfl 1 ?_
          show K (some (.int ((-10) - 5))) (zuI σ 26 3 5)
          have hv : (zBt 0 3 s ∧ zBt 0 2 f ∧ c.toInt ≤ 60) := ⟨hb1, hb2, by simp only [zle] at h_17; simp at h_17; omega⟩
          have h24 : 0 ≤ c.toInt ↔ (0 : Int32) ≤ c := by rw [zle]; exact Iff.rfl
          exact hSz hv (fun q => h_24 (h24.mp q))
      · skip
        refine zq (σ := σ) hV hI rfl 2 ?_
        show K (some (.int (-2))) σ
        refine hBad (fun q => ?_)
        have q3 := q.2.2
        simp only [zle] at h_17
        simp at h_17
        omega
    · skip
      refine zq (σ := σ) hV hI rfl 1 ?_
      show ((0 : Int32) = 0 → V 20 [(0, .ref 0), (1, .int s), (2, .int f), (3, .int c)] [] σ) ∧ (¬ (0 : Int32) = 0 → V 14 [(0, .ref 0), (1, .int s), (2, .int f), (3, .int c)] [] σ)
      refine ⟨fun _ => ?_, fun hc => absurd (by decide) hc⟩
      refine zq (σ := σ) hV hI rfl 2 ?_
      show K (some (.int (-2))) σ
      exact hBad (fun q => hb2 q.2.1)
  · skip
    refine zq (σ := σ) hV hI rfl 1 ?_
    show ((0 : Int32) = 0 → V 20 [(0, .ref 0), (1, .int s), (2, .int f), (3, .int c)] [] σ) ∧ (¬ (0 : Int32) = 0 → V 7 [(0, .ref 0), (1, .int s), (2, .int f), (3, .int c)] [] σ)
    refine ⟨fun _ => ?_, fun hc => absurd (by decide) hc⟩
    refine zq (σ := σ) hV hI rfl 2 ?_
    show K (some (.int (-2))) σ
    exact hBad (fun q => hb1 q.1)
set_option maxRecDepth 8000 in
set_option maxHeartbeats 4000000 in
theorem lose_C {d : Nat} {σ : zSt} {K : Option Value → zSt → Prop} {s : Int32} (hI : zQI (kR 0 30) σ.2.2) (hBad : ¬ zBt 0 3 s → K (some (.int (-2))) σ) (hNull : ∀ k, s = nI k → k < 4 → σ.1 27 k = -1 → K (some (.int (-10 - 1))) (zuI σ 26 3 1)) (hOk : ∀ k, s = nI k → k < 4 → ¬ σ.1 27 k = -1 → K (some (.int (σ.1 28 k))) (zuI (zuI σ 27 k (-1)) 28 k 0)) : zSp (d + 4) mX8_lose [.ref 0, .int s] σ K := by
  refine ⟨⟨by decide, Nat.le_of_ble_eq_true rfl⟩, fun V hV => ?_⟩
  refine zq (σ := σ) hV hI rfl 2 ?_
  show zSp _ 122 [.int s] σ (fun r σ' => σ'.2.2.2 = σ.2.2.2 + zAl 122 → V 4 [(0, .ref 0), (1, .int s)] (r.toList ++ []) σ')
  refine isSheet_ok (fun hb1 _ => ?_) (fun hb1 _ => ?_)
  · skip
    refine zq (σ := σ) hV hI rfl 1 ?_
    show (¬ (1 : Int32) = 0 → V 10 [(0, .ref 0), (1, .int s)] [] σ) ∧ (¬ (¬ (1 : Int32) = 0) → V 7 [(0, .ref 0), (1, .int s)] [] σ)
    refine ⟨fun _ => ?_, fun hc => absurd (by decide) hc⟩
    obtain ⟨k, hk, hk2, _⟩ := zNat (x := s) (by unfold zBt at hb1; omega)
    have hk4 : k < 4 := by unfold zBt at hb1; omega
    refine zq (σ := σ) hV hI rfl 4 ?_
    show zSp _ 50 [.ref 26, .int s] σ (fun r σ' => σ'.2.2.2 = σ.2.2.2 + zAl 50 → V 18 [(0, .ref 0), (1, .int s)] (r.toList ++ []) σ')
    refine isLost_ok (zR_of hI rfl rfl) hk (by omega) (fun hb2 _ => ?_) (fun hb2 _ => ?_)
    · skip
      refine zq (σ := σ) hV hI rfl 1 ?_
      show ((1 : Int32) = 0 → V 30 [(0, .ref 0), (1, .int s)] [] σ) ∧ (¬ (1 : Int32) = 0 → V 21 [(0, .ref 0), (1, .int s)] [] σ)
      refine ⟨fun hc => absurd hc (by decide), fun _ => ?_⟩
      refine zq (σ := σ) hV hI rfl 4 ?_
      show zSp _ 47 [.ref 26, .int 1] σ (fun r σ' => σ'.2.2.2 = σ.2.2.2 + zAl 47 → V 29 [(0, .ref 0), (1, .int s)] (r.toList ++ []) σ')
      refine find_ok (zR_of hI rfl rfl) (fun _ => ?_)
      refine zq (σ := (zuI σ 26 3 1)) hV hI rfl 1 ?_
      show K (some (.int ((-10) - 1))) (zuI σ 26 3 1)
      exact hNull k hk hk4 hb2
    · skip
      refine zq (σ := σ) hV hI rfl 1 ?_
      show ((0 : Int32) = 0 → V 30 [(0, .ref 0), (1, .int s)] [] σ) ∧ (¬ (0 : Int32) = 0 → V 21 [(0, .ref 0), (1, .int s)] [] σ)
      refine ⟨fun _ => ?_, fun hc => absurd (by decide) hc⟩
      refine zq (σ := σ) hV hI rfl 4 ?_
      show zSp _ 49 [.ref 26, .int s] σ (fun r σ' => σ'.2.2.2 = σ.2.2.2 + zAl 49 → V 38 [(0, .ref 0), (1, .int s)] (r.toList ++ []) σ')
      refine slength_ok (zR_of hI rfl rfl) hk (by omega) (fun _ => ?_)
      refine zq (σ := σ) hV hI rfl 5 ?_
      show zSp _ 51 [.ref 26, .int s] σ (fun r σ' => σ'.2.2.2 = σ.2.2.2 + zAl 51 → V 47 [(2, .int (σ.1 28 k)), (0, .ref 0), (1, .int s)] (r.toList ++ []) σ')
      refine forget_ok (zR_of hI rfl rfl) hk (by omega) (fun _ => ?_)
      refine zq (σ := (zuI (zuI σ 27 k (-1)) 28 k 0)) hV hI rfl 2 ?_
      show K (some (.int (σ.1 28 k))) (zuI (zuI σ 27 k (-1)) 28 k 0)
      exact hOk k hk hk4 hb2
  · skip
    refine zq (σ := σ) hV hI rfl 1 ?_
    show (¬ (0 : Int32) = 0 → V 10 [(0, .ref 0), (1, .int s)] [] σ) ∧ (¬ (¬ (0 : Int32) = 0) → V 7 [(0, .ref 0), (1, .int s)] [] σ)
    refine ⟨fun hc => absurd hc (by decide), fun _ => ?_⟩
    refine zq (σ := σ) hV hI rfl 2 ?_
    show K (some (.int (-2))) σ
    exact hBad hb1
set_option maxRecDepth 8000 in
set_option maxHeartbeats 4000000 in
theorem put_C {d : Nat} {σ : zSt} {K : Option Value → zSt → Prop} {s f i v : Int32} (hI : zQI (kR 0 30) σ.2.2) (hL : ∀ k, k < 4 → ∃ l, σ.1 28 k = nI l ∧ l ≤ 60) (hBad : ¬ (zBt 0 3 s ∧ zBt 0 2 f) → K (some (.int (-2))) σ) (hNull : ∀ k, (zBt 0 3 s ∧ zBt 0 2 f) → s = nI k → k < 4 → σ.1 27 k = -1 → K (some (.int (-10 - 1))) (zuI σ 26 3 1)) (hCast : ∀ k, (zBt 0 3 s ∧ zBt 0 2 f) → s = nI k → k < 4 → ¬ σ.1 27 k = -1 → ¬ σ.1 27 k = f → K (some (.int (-10 - 3))) (zuI σ 26 3 3))
    (hIndex : ∀ k l, (zBt 0 3 s ∧ zBt 0 2 f) → s = nI k → k < 4 → ¬ σ.1 27 k = -1 → σ.1 27 k = f → σ.1 28 k = nI l → ¬ zBt 0 (l - 1) i → K (some (.int (-10 - 2))) (zuI σ 26 3 2)) (hOk : ∀ k l j, (zBt 0 3 s ∧ zBt 0 2 f) → s = nI k → k < 4 → ¬ σ.1 27 k = -1 → σ.1 27 k = f → σ.1 28 k = nI l → l ≤ 60 → i = nI j → j < l → K (some (.int 1)) (zuI σ 29 (k * 60 + j) (zKp (σ.1 27 k) v))) : zSp (d + 5) mX8_put [.ref 0, .int s, .int f, .int i, .int v] σ K := by
  refine ⟨⟨by decide, Nat.le_of_ble_eq_true rfl⟩, fun V hV => ?_⟩
  refine zq (σ := σ) hV hI rfl 2 ?_
  show zSp _ 122 [.int s] σ (fun r σ' => σ'.2.2.2 = σ.2.2.2 + zAl 122 → V 4 [(0, .ref 0), (1, .int s), (2, .int f), (3, .int i), (4, .int v)] (r.toList ++ []) σ')
  refine isSheet_ok (fun hb1 _ => ?_) (fun hb1 _ => ?_)
  · skip
    refine zq (σ := σ) hV hI rfl 1 ?_
    show ((1 : Int32) = 0 → V 14 [(0, .ref 0), (1, .int s), (2, .int f), (3, .int i), (4, .int v)] [] σ) ∧ (¬ (1 : Int32) = 0 → V 7 [(0, .ref 0), (1, .int s), (2, .int f), (3, .int i), (4, .int v)] [] σ)
    refine ⟨fun hc => absurd hc (by decide), fun _ => ?_⟩
    refine zq (σ := σ) hV hI rfl 2 ?_
    show zSp _ 123 [.int f] σ (fun r σ' => σ'.2.2.2 = σ.2.2.2 + zAl 123 → V 11 [(0, .ref 0), (1, .int s), (2, .int f), (3, .int i), (4, .int v)] (r.toList ++ []) σ')
    refine isForm_ok (fun hb2 _ => ?_) (fun hb2 _ => ?_)
    · skip
      refine zq (σ := σ) hV hI rfl 1 ?_
      show (¬ (1 : Int32) = 0 → V 17 [(0, .ref 0), (1, .int s), (2, .int f), (3, .int i), (4, .int v)] [] σ) ∧ (¬ (¬ (1 : Int32) = 0) → V 14 [(0, .ref 0), (1, .int s), (2, .int f), (3, .int i), (4, .int v)] [] σ)
      refine ⟨fun _ => ?_, fun hc => absurd (by decide) hc⟩
      obtain ⟨k, hk, hk2, _⟩ := zNat (x := s) (by unfold zBt at hb1; omega)
      have hk4 : k < 4 := by unfold zBt at hb1; omega
      refine zq (σ := σ) hV hI rfl 6 ?_
      show zSp _ 56 [.ref 26, .int s, .int f, .int i] σ (fun r σ' => σ'.2.2.2 = σ.2.2.2 + zAl 56 → V 27 [(0, .ref 0), (1, .int s), (2, .int f), (3, .int i), (4, .int v)] (r.toList ++ []) σ')
      obtain ⟨l, hl, hl60⟩ := hL k hk4
      refine faultAt_ok (zR_of hI rfl rfl) hk (by omega) hl hl60 (fun f1 _ => ?_) (fun f1 f2 _ => ?_) (fun f1 f2 f3 _ => ?_) (fun f1 f2 f3 _ => ?_)
      · skip
        refine zq (σ := σ) hV hI rfl 3 ?_
        show ((1 : Int32) = 0 → V 44 [(5, .int 1), (0, .ref 0), (1, .int s), (2, .int f), (3, .int i), (4, .int v)] [] σ) ∧ (¬ (1 : Int32) = 0 → V 34 [(5, .int 1), (0, .ref 0), (1, .int s), (2, .int f), (3, .int i), (4, .int v)] [] σ)
        refine ⟨fun hc => absurd hc (by decide), fun _ => ?_⟩
        refine zq (σ := σ) hV hI rfl 4 ?_
        show zSp _ 47 [.ref 26, .int 1] σ (fun r σ' => σ'.2.2.2 = σ.2.2.2 + zAl 47 → V 43 [(5, .int 1), (0, .ref 0), (1, .int s), (2, .int f), (3, .int i), (4, .int v)] (r.toList ++ []) σ')
        refine find_ok (zR_of hI rfl rfl) (fun _ => ?_)
        refine zq (σ := (zuI σ 26 3 1)) hV hI rfl 1 ?_
        show K (some (.int ((-10) - 1))) (zuI σ 26 3 1)
        exact hNull k ⟨hb1, hb2⟩ hk hk4 f1
      · skip
        refine zq (σ := σ) hV hI rfl 3 ?_
        show ((3 : Int32) = 0 → V 44 [(5, .int 3), (0, .ref 0), (1, .int s), (2, .int f), (3, .int i), (4, .int v)] [] σ) ∧ (¬ (3 : Int32) = 0 → V 34 [(5, .int 3), (0, .ref 0), (1, .int s), (2, .int f), (3, .int i), (4, .int v)] [] σ)
        refine ⟨fun hc => absurd hc (by decide), fun _ => ?_⟩
        refine zq (σ := σ) hV hI rfl 4 ?_
        show zSp _ 47 [.ref 26, .int 3] σ (fun r σ' => σ'.2.2.2 = σ.2.2.2 + zAl 47 → V 43 [(5, .int 3), (0, .ref 0), (1, .int s), (2, .int f), (3, .int i), (4, .int v)] (r.toList ++ []) σ')
        refine find_ok (zR_of hI rfl rfl) (fun _ => ?_)
        refine zq (σ := (zuI σ 26 3 3)) hV hI rfl 1 ?_
        show K (some (.int ((-10) - 3))) (zuI σ 26 3 3)
        exact hCast k ⟨hb1, hb2⟩ hk hk4 f1 f2
      · skip
        refine zq (σ := σ) hV hI rfl 3 ?_
        show ((2 : Int32) = 0 → V 44 [(5, .int 2), (0, .ref 0), (1, .int s), (2, .int f), (3, .int i), (4, .int v)] [] σ) ∧ (¬ (2 : Int32) = 0 → V 34 [(5, .int 2), (0, .ref 0), (1, .int s), (2, .int f), (3, .int i), (4, .int v)] [] σ)
        refine ⟨fun hc => absurd hc (by decide), fun _ => ?_⟩
        refine zq (σ := σ) hV hI rfl 4 ?_
        show zSp _ 47 [.ref 26, .int 2] σ (fun r σ' => σ'.2.2.2 = σ.2.2.2 + zAl 47 → V 43 [(5, .int 2), (0, .ref 0), (1, .int s), (2, .int f), (3, .int i), (4, .int v)] (r.toList ++ []) σ')
        refine find_ok (zR_of hI rfl rfl) (fun _ => ?_)
        refine zq (σ := (zuI σ 26 3 2)) hV hI rfl 1 ?_
        show K (some (.int ((-10) - 2))) (zuI σ 26 3 2)
        exact hIndex k l ⟨hb1, hb2⟩ hk hk4 f1 f2 hl f3
      · skip
        obtain ⟨j, hj, hj2, _⟩ := zNat (x := i) (by unfold zBt at f3; omega)
        have hjl : j < l := by unfold zBt at f3; omega
        refine zq (σ := σ) hV hI rfl 3 ?_
        show ((0 : Int32) = 0 → V 44 [(5, .int 0), (0, .ref 0), (1, .int s), (2, .int f), (3, .int i), (4, .int v)] [] σ) ∧ (¬ (0 : Int32) = 0 → V 34 [(5, .int 0), (0, .ref 0), (1, .int s), (2, .int f), (3, .int i), (4, .int v)] [] σ)
        refine ⟨fun _ => ?_, fun hc => absurd (by decide) hc⟩
        refine zq (σ := σ) hV hI rfl 6 ?_
        show zSp _ 55 [.ref 26, .int s, .int i, .int v] σ (fun r σ' => σ'.2.2.2 = σ.2.2.2 + zAl 55 → V 55 [(5, .int 0), (0, .ref 0), (1, .int s), (2, .int f), (3, .int i), (4, .int v)] (r.toList ++ []) σ')
        refine write_ok (zR_of hI rfl rfl) hk (by omega) hj (by omega) (fun _ => ?_)
        refine zq (σ := (zuI σ 29 (k * 60 + j) (zKp (σ.1 27 k) v))) hV hI rfl 2 ?_
        show K (some (.int 1)) (zuI σ 29 (k * 60 + j) (zKp (σ.1 27 k) v))
        exact hOk k l j ⟨hb1, hb2⟩ hk hk4 f1 f2 hl hl60 hj hjl
    · skip
      refine zq (σ := σ) hV hI rfl 1 ?_
      show (¬ (0 : Int32) = 0 → V 17 [(0, .ref 0), (1, .int s), (2, .int f), (3, .int i), (4, .int v)] [] σ) ∧ (¬ (¬ (0 : Int32) = 0) → V 14 [(0, .ref 0), (1, .int s), (2, .int f), (3, .int i), (4, .int v)] [] σ)
      refine ⟨fun hc => absurd hc (by decide), fun _ => ?_⟩
      refine zq (σ := σ) hV hI rfl 2 ?_
      show K (some (.int (-2))) σ
      exact hBad (fun q => hb2 q.2)
  · skip
    refine zq (σ := σ) hV hI rfl 1 ?_
    show ((0 : Int32) = 0 → V 14 [(0, .ref 0), (1, .int s), (2, .int f), (3, .int i), (4, .int v)] [] σ) ∧ (¬ (0 : Int32) = 0 → V 7 [(0, .ref 0), (1, .int s), (2, .int f), (3, .int i), (4, .int v)] [] σ)
    refine ⟨fun _ => ?_, fun hc => absurd (by decide) hc⟩
    refine zq (σ := σ) hV hI rfl 2 ?_
    show K (some (.int (-2))) σ
    exact hBad (fun q => hb1 q.1)
set_option maxRecDepth 8000 in
set_option maxHeartbeats 4000000 in
theorem get_C {d : Nat} {σ : zSt} {K : Option Value → zSt → Prop} {s f i : Int32} (hI : zQI (kR 0 30) σ.2.2) (hL : ∀ k, k < 4 → ∃ l, σ.1 28 k = nI l ∧ l ≤ 60) (hBad : ¬ (zBt 0 3 s ∧ zBt 0 2 f) → K (some (.int (-2147483648))) σ) (hNull : ∀ k, (zBt 0 3 s ∧ zBt 0 2 f) → s = nI k → k < 4 → σ.1 27 k = -1 → K (some (.int (-2147483648))) (zuI σ 26 3 1)) (hCast : ∀ k, (zBt 0 3 s ∧ zBt 0 2 f) → s = nI k → k < 4 → ¬ σ.1 27 k = -1 → ¬ σ.1 27 k = f → K (some (.int (-2147483648))) (zuI σ 26 3 3))
    (hIndex : ∀ k l, (zBt 0 3 s ∧ zBt 0 2 f) → s = nI k → k < 4 → ¬ σ.1 27 k = -1 → σ.1 27 k = f → σ.1 28 k = nI l → ¬ zBt 0 (l - 1) i → K (some (.int (-2147483648))) (zuI σ 26 3 2)) (hOk : ∀ k l j, (zBt 0 3 s ∧ zBt 0 2 f) → s = nI k → k < 4 → ¬ σ.1 27 k = -1 → σ.1 27 k = f → σ.1 28 k = nI l → l ≤ 60 → i = nI j → j < l → K (some (.int (σ.1 29 (k * 60 + j)))) σ) : zSp (d + 5) mX8_get [.ref 0, .int s, .int f, .int i] σ K := by
  refine ⟨⟨by decide, Nat.le_of_ble_eq_true rfl⟩, fun V hV => ?_⟩
  refine zq (σ := σ) hV hI rfl 2 ?_
  show zSp _ 122 [.int s] σ (fun r σ' => σ'.2.2.2 = σ.2.2.2 + zAl 122 → V 4 [(0, .ref 0), (1, .int s), (2, .int f), (3, .int i)] (r.toList ++ []) σ')
  refine isSheet_ok (fun hb1 _ => ?_) (fun hb1 _ => ?_)
  · skip
    refine zq (σ := σ) hV hI rfl 1 ?_
    show ((1 : Int32) = 0 → V 14 [(0, .ref 0), (1, .int s), (2, .int f), (3, .int i)] [] σ) ∧ (¬ (1 : Int32) = 0 → V 7 [(0, .ref 0), (1, .int s), (2, .int f), (3, .int i)] [] σ)
    refine ⟨fun hc => absurd hc (by decide), fun _ => ?_⟩
    refine zq (σ := σ) hV hI rfl 2 ?_
    show zSp _ 123 [.int f] σ (fun r σ' => σ'.2.2.2 = σ.2.2.2 + zAl 123 → V 11 [(0, .ref 0), (1, .int s), (2, .int f), (3, .int i)] (r.toList ++ []) σ')
    refine isForm_ok (fun hb2 _ => ?_) (fun hb2 _ => ?_)
    · skip
      refine zq (σ := σ) hV hI rfl 1 ?_
      show (¬ (1 : Int32) = 0 → V 18 [(0, .ref 0), (1, .int s), (2, .int f), (3, .int i)] [] σ) ∧ (¬ (¬ (1 : Int32) = 0) → V 14 [(0, .ref 0), (1, .int s), (2, .int f), (3, .int i)] [] σ)
      refine ⟨fun _ => ?_, fun hc => absurd (by decide) hc⟩
      obtain ⟨k, hk, hk2, _⟩ := zNat (x := s) (by unfold zBt at hb1; omega)
      have hk4 : k < 4 := by unfold zBt at hb1; omega
      refine zq (σ := σ) hV hI rfl 6 ?_
      show zSp _ 56 [.ref 26, .int s, .int f, .int i] σ (fun r σ' => σ'.2.2.2 = σ.2.2.2 + zAl 56 → V 28 [(0, .ref 0), (1, .int s), (2, .int f), (3, .int i)] (r.toList ++ []) σ')
      obtain ⟨l, hl, hl60⟩ := hL k hk4
      refine faultAt_ok (zR_of hI rfl rfl) hk (by omega) hl hl60 (fun f1 _ => ?_) (fun f1 f2 _ => ?_) (fun f1 f2 f3 _ => ?_) (fun f1 f2 f3 _ => ?_)
      · skip
        refine zq (σ := σ) hV hI rfl 3 ?_
        show ((1 : Int32) = 0 → V 49 [(4, .int 1), (0, .ref 0), (1, .int s), (2, .int f), (3, .int i)] [] σ) ∧ (¬ (1 : Int32) = 0 → V 35 [(4, .int 1), (0, .ref 0), (1, .int s), (2, .int f), (3, .int i)] [] σ)
        refine ⟨fun hc => absurd hc (by decide), fun _ => ?_⟩
        refine zq (σ := σ) hV hI rfl 4 ?_
        show zSp _ 47 [.ref 26, .int 1] σ (fun r σ' => σ'.2.2.2 = σ.2.2.2 + zAl 47 → V 44 [(4, .int 1), (0, .ref 0), (1, .int s), (2, .int f), (3, .int i)] (r.toList ++ []) σ')
        refine find_ok (zR_of hI rfl rfl) (fun _ => ?_)
        refine zq (σ := (zuI σ 26 3 1)) hV hI rfl 3 ?_
        show K (some (.int (-2147483648))) (zuI σ 26 3 1)
        exact hNull k ⟨hb1, hb2⟩ hk hk4 f1
      · skip
        refine zq (σ := σ) hV hI rfl 3 ?_
        show ((3 : Int32) = 0 → V 49 [(4, .int 3), (0, .ref 0), (1, .int s), (2, .int f), (3, .int i)] [] σ) ∧ (¬ (3 : Int32) = 0 → V 35 [(4, .int 3), (0, .ref 0), (1, .int s), (2, .int f), (3, .int i)] [] σ)
        refine ⟨fun hc => absurd hc (by decide), fun _ => ?_⟩
        refine zq (σ := σ) hV hI rfl 4 ?_
        show zSp _ 47 [.ref 26, .int 3] σ (fun r σ' => σ'.2.2.2 = σ.2.2.2 + zAl 47 → V 44 [(4, .int 3), (0, .ref 0), (1, .int s), (2, .int f), (3, .int i)] (r.toList ++ []) σ')
        refine find_ok (zR_of hI rfl rfl) (fun _ => ?_)
        refine zq (σ := (zuI σ 26 3 3)) hV hI rfl 3 ?_
        show K (some (.int (-2147483648))) (zuI σ 26 3 3)
        exact hCast k ⟨hb1, hb2⟩ hk hk4 f1 f2
      · skip
        refine zq (σ := σ) hV hI rfl 3 ?_
        show ((2 : Int32) = 0 → V 49 [(4, .int 2), (0, .ref 0), (1, .int s), (2, .int f), (3, .int i)] [] σ) ∧ (¬ (2 : Int32) = 0 → V 35 [(4, .int 2), (0, .ref 0), (1, .int s), (2, .int f), (3, .int i)] [] σ)
        refine ⟨fun hc => absurd hc (by decide), fun _ => ?_⟩
        refine zq (σ := σ) hV hI rfl 4 ?_
        show zSp _ 47 [.ref 26, .int 2] σ (fun r σ' => σ'.2.2.2 = σ.2.2.2 + zAl 47 → V 44 [(4, .int 2), (0, .ref 0), (1, .int s), (2, .int f), (3, .int i)] (r.toList ++ []) σ')
        refine find_ok (zR_of hI rfl rfl) (fun _ => ?_)
        refine zq (σ := (zuI σ 26 3 2)) hV hI rfl 3 ?_
        show K (some (.int (-2147483648))) (zuI σ 26 3 2)
        exact hIndex k l ⟨hb1, hb2⟩ hk hk4 f1 f2 hl f3
      · skip
        obtain ⟨j, hj, hj2, _⟩ := zNat (x := i) (by unfold zBt at f3; omega)
        have hjl : j < l := by unfold zBt at f3; omega
        refine zq (σ := σ) hV hI rfl 3 ?_
        show ((0 : Int32) = 0 → V 49 [(4, .int 0), (0, .ref 0), (1, .int s), (2, .int f), (3, .int i)] [] σ) ∧ (¬ (0 : Int32) = 0 → V 35 [(4, .int 0), (0, .ref 0), (1, .int s), (2, .int f), (3, .int i)] [] σ)
        refine ⟨fun _ => ?_, fun hc => absurd (by decide) hc⟩
        refine zq (σ := σ) hV hI rfl 5 ?_
        show zSp _ 53 [.ref 26, .int s, .int i] σ (fun r σ' => σ'.2.2.2 = σ.2.2.2 + zAl 53 → V 58 [(4, .int 0), (0, .ref 0), (1, .int s), (2, .int f), (3, .int i)] (r.toList ++ []) σ')
        refine svalue_ok (zR_of hI rfl rfl) hk (by omega) hj (by omega) (fun _ => ?_)
        refine zq (σ := σ) hV hI rfl 1 ?_
        show K (some (.int (σ.1 29 (k * 60 + j)))) σ
        exact hOk k l j ⟨hb1, hb2⟩ hk hk4 f1 f2 hl hl60 hj hjl
    · skip
      refine zq (σ := σ) hV hI rfl 1 ?_
      show (¬ (0 : Int32) = 0 → V 18 [(0, .ref 0), (1, .int s), (2, .int f), (3, .int i)] [] σ) ∧ (¬ (¬ (0 : Int32) = 0) → V 14 [(0, .ref 0), (1, .int s), (2, .int f), (3, .int i)] [] σ)
      refine ⟨fun hc => absurd hc (by decide), fun _ => ?_⟩
      refine zq (σ := σ) hV hI rfl 2 ?_
      show K (some (.int (-2147483648))) σ
      exact hBad (fun q => hb2 q.2)
  · skip
    refine zq (σ := σ) hV hI rfl 1 ?_
    show ((0 : Int32) = 0 → V 14 [(0, .ref 0), (1, .int s), (2, .int f), (3, .int i)] [] σ) ∧ (¬ (0 : Int32) = 0 → V 7 [(0, .ref 0), (1, .int s), (2, .int f), (3, .int i)] [] σ)
    refine ⟨fun _ => ?_, fun hc => absurd (by decide) hc⟩
    refine zq (σ := σ) hV hI rfl 2 ?_
    show K (some (.int (-2147483648))) σ
    exact hBad (fun q => hb1 q.1)
end
section
theorem zge_self {n i : Nat} (h : n = i) : nI n ≤ nI i := by rw [h]; exact Int32.le_refl _
def zfa (a : Nat) (b _j : Nat) : Bool := Nat.beq b a
/-- one relaxation -/
def zRx (C W : Nat → Int32) (i j : Nat) : Nat → Int32 := if ¬ C (i * 10 + j) = 0 ∧ W i + C (i * 10 + j) < W j then upd W j (W i + C (i * 10 + j)) else W
def zRj (C : Nat → Int32) (i : Nat) : Nat → Nat → (Nat → Int32) → Nat → Int32
  | 0, _, W => W
  | r + 1, j, W => zRj C i r (j + 1) (zRx C W i j)
def zRi (C : Nat → Int32) (n : Nat) : Nat → Nat → (Nat → Int32) → Nat → Int32
  | 0, _, W => W
  | r + 1, i, W => zRi C n r (i + 1) (zRj C i n 0 W)
def zRm (C : Nat → Int32) (n : Nat) : Nat → (Nat → Int32) → Nat → Int32
  | 0, W => W
  | r + 1, W => zRm C n r (zRi C n n 0 W)
def zW0 (a : Int32) (j : Nat) : Int32 := if nI j = a then 0 else 1048576
def zWay (C : Nat → Int32) (n : Nat) (a : Int32) (b : Nat) : Int32 := if zRm C n (n - 1) (zW0 a) b < 1048576 then zRm C n (n - 1) (zW0 a) b else -1
theorem zix10 {i j : Nat} : nI i * 10 + nI j = nI (i * 10 + j) := by rw [show (10 : Int32) = nI 10 from rfl, pk_mul, nI_add]
set_option maxRecDepth 8000 in
set_option maxHeartbeats 4000000 in
theorem gadd_ok {d : Nat} {σ : zSt} {K : Option Value → zSt → Prop} (hI : zQI (kR 21 24) σ.2.2) (hK : K none (zuI σ 21 2 (σ.1 21 2 + 1))) : zSp (d + 1) mX1_add [.ref 21] σ K := by
  refine ⟨⟨by decide, Nat.le_of_ble_eq_true rfl⟩, fun V hV => ?_⟩
  refine zq (σ := σ) hV hI rfl 7 ?_
  show K none (zuI σ 21 2 ((σ.1 21 2) + 1))
  exact hK
set_option maxRecDepth 8000 in
set_option maxHeartbeats 4000000 in
theorem join_ok {d : Nat} {σ : zSt} {K : Option Value → zSt → Prop} {a b c : Int32} {i j : Nat} (hI : zQI (kR 21 24) σ.2.2) (ea : a = nI i) (hi : i < 10) (eb : b = nI j) (hj : j < 10) (hK : K none (zuI (zuI σ 22 (i * 10 + j) c) 22 (j * 10 + i) c)) : zSp (d + 2) mX1_join [.ref 21, .int a, .int b, .int c] σ K := by
  refine ⟨⟨by decide, Nat.le_of_ble_eq_true rfl⟩, fun V hV => ?_⟩
  subst ea
  subst eb
  refine zq (σ := σ) hV hI rfl 9 ?_
  show zSp _ 129 [.ref 22, .int (((nI i) * 10) + (nI j)), .int c] σ (fun r σ' => σ'.2.2.2 = σ.2.2.2 + zAl 129 → V 14 [(0, .ref 21), (1, .int (nI i)), (2, .int (nI j)), (3, .int c)] (r.toList ++ []) σ')
  refine setItem_22 (zA_of hI rfl) zix10 (by omega) (fun _ => ?_)
  refine zq (σ := (zuI σ 22 (i * 10 + j) c)) hV hI rfl 9 ?_
  show zSp _ 129 [.ref 22, .int (((nI j) * 10) + (nI i)), .int c] (zuI σ 22 (i * 10 + j) c) (fun r σ' => σ'.2.2.2 = (zuI σ 22 (i * 10 + j) c).2.2.2 + zAl 129 → V 28 [(0, .ref 21), (1, .int (nI i)), (2, .int (nI j)), (3, .int c)] (r.toList ++ []) σ')
  refine setItem_22 (zA_of hI rfl) zix10 (by omega) (fun _ => ?_)
  refine zq (σ := (zuI (zuI σ 22 (i * 10 + j) c) 22 (j * 10 + i) c)) hV hI rfl 1 ?_
  show K none (zuI (zuI σ 22 (i * 10 + j) c) 22 (j * 10 + i) c)
  exact hK
set_option maxRecDepth 8000 in
set_option maxHeartbeats 4000000 in
theorem goOne_ok {d : Nat} {σ : zSt} {K : Option Value → zSt → Prop} {n : Nat} {W0 Wf : Nat → Int32} (hI : zQI (kR 21 24) σ.2.2) (hs : σ.1 21 2 = nI n) (hn : n ≤ 10) (hW : ∀ q, q < n → σ.1 23 q = W0 q) (hf : zRi (σ.1 22) n n 0 W0 = Wf) (hK : ∀ τ, zOnly (zfa 23) σ τ → (∀ q, q < n → τ.1 23 q = Wf q) → K none τ) : zSp (d + 2) mX1_goOneMoveFarther [.ref 21] σ K := by
  refine ⟨⟨by decide, Nat.le_of_ble_eq_true rfl⟩, fun V hV => ?_⟩
  subst hf
  refine zq (σ := σ) hV hI rfl 2 ?_
  show V 2 [(1, .int 0), (0, .ref 21)] [] σ
  refine zwk hV [1, 0] rfl ?_
  have Hi : ∀ (r : Nat) (i : Nat) (τ : zSt) (W : Nat → Int32), i + r = n → zOnly (zfa 23) σ τ → (∀ q, q < n → τ.1 23 q = W q) → zRi (σ.1 22) n r i W = zRi (σ.1 22) n n 0 W0 → V 2 [(0, .ref 21), (1, .int (nI i))] [] τ := by
    intro r
    induction r with
    | zero =>
      intro i τ W hin ht hwt hfin
      have hIτ := zQI_eq hI ht.2.2
      have hnτ : τ.2.2.2 = σ.2.2.2 := congrArg Prod.snd ht.2.2
      have hst : τ.1 21 2 = nI n := (ht.1 21 2 rfl).trans hs
      refine zq (σ := τ) hV hIτ hnτ 4 ?_
      show ((τ.1 21 2) ≤ (nI i) → V 85 [(0, .ref 21), (1, .int (nI i))] [] τ) ∧ (¬ (τ.1 21 2) ≤ (nI i) → V 10 [(0, .ref 21), (1, .int (nI i))] [] τ)
      refine ⟨fun _ => ?_, fun hc => absurd (show (τ.1 21 2) ≤ nI i by rw [hst]; exact zge_self (by omega)) hc⟩
      refine zq (σ := τ) hV hIτ hnτ 1 ?_
      show K none τ
      exact hK τ ht (fun q hq => (hwt q hq).trans (congrFun hfin q))
    | succ r ihi =>
      intro i τ W hin ht hwt hfin
      have hIτ := zQI_eq hI ht.2.2
      have hnτ : τ.2.2.2 = σ.2.2.2 := congrArg Prod.snd ht.2.2
      have hst : τ.1 21 2 = nI n := (ht.1 21 2 rfl).trans hs
      refine zq (σ := τ) hV hIτ hnτ 4 ?_
      show ((τ.1 21 2) ≤ (nI i) → V 85 [(0, .ref 21), (1, .int (nI i))] [] τ) ∧ (¬ (τ.1 21 2) ≤ (nI i) → V 10 [(0, .ref 21), (1, .int (nI i))] [] τ)
      refine ⟨fun hc => absurd hc (show ¬ (τ.1 21 2) ≤ nI i by rw [hst]; exact nI_ge (by omega) (by omega)), fun _ => ?_⟩
      refine zq (σ := τ) hV hIτ hnτ 2 ?_
      show V 12 [(2, .int 0), (0, .ref 21), (1, .int (nI i))] [] τ
      refine zwk hV [1, 2, 0] rfl ?_
      have Hj : ∀ (r : Nat) (j : Nat) (υ : zSt) (U : Nat → Int32), j + r = n → zOnly (zfa 23) σ υ → (∀ q, q < n → υ.1 23 q = U q) → zRj (σ.1 22) i r j U = zRj (σ.1 22) i n 0 W → V 12 [(0, .ref 21), (1, .int (nI i)), (2, .int (nI j))] [] υ := by
        intro r
        induction r with
        | zero =>
          intro j υ U hjn hu hwu hend
          have hIυ := zQI_eq hI hu.2.2
          have hnυ : υ.2.2.2 = σ.2.2.2 := congrArg Prod.snd hu.2.2
          have hsu : υ.1 21 2 = nI n := (hu.1 21 2 rfl).trans hs
          replace hend : U = zRj (σ.1 22) i n 0 W := hend
          refine zq (σ := υ) hV hIυ hnυ 4 ?_
          show ((υ.1 21 2) ≤ (nI j) → V 79 [(0, .ref 21), (1, .int (nI i)), (2, .int (nI j))] [] υ) ∧ (¬ (υ.1 21 2) ≤ (nI j) → V 20 [(0, .ref 21), (1, .int (nI i)), (2, .int (nI j))] [] υ)
          refine ⟨fun _ => ?_, fun hc => absurd (show (υ.1 21 2) ≤ nI j by rw [hsu]; exact zge_self (by omega)) hc⟩
          refine zq (σ := υ) hV hIυ hnυ 2 ?_
          show V 2 [(1, .int ((nI i) + 1)), (0, .ref 21), (2, .int (nI j))] [] υ
          refine zwk hV [1, 0] rfl ?_
          rw [nI_1]
          exact ihi (i + 1) υ _ (by omega) hu hwu (by rw [← hfin, hend]; rfl)
        | succ r ihj =>
          intro j υ U hjn hu hwu hend
          have hIυ := zQI_eq hI hu.2.2
          have hnυ : υ.2.2.2 = σ.2.2.2 := congrArg Prod.snd hu.2.2
          have hsu : υ.1 21 2 = nI n := (hu.1 21 2 rfl).trans hs
          have hC : υ.1 22 (i * 10 + j) = σ.1 22 (i * 10 + j) := hu.1 22 _ rfl
          refine zq (σ := υ) hV hIυ hnυ 4 ?_
          show ((υ.1 21 2) ≤ (nI j) → V 79 [(0, .ref 21), (1, .int (nI i)), (2, .int (nI j))] [] υ) ∧ (¬ (υ.1 21 2) ≤ (nI j) → V 20 [(0, .ref 21), (1, .int (nI i)), (2, .int (nI j))] [] υ)
          refine ⟨fun hc => absurd hc (show ¬ (υ.1 21 2) ≤ nI j by rw [hsu]; exact nI_ge (by omega) (by omega)), fun _ => ?_⟩
          refine zq (σ := υ) hV hIυ hnυ 8 ?_
          show zSp _ 128 [.ref 22, .int (((nI i) * 10) + (nI j))] υ (fun r σ' => σ'.2.2.2 = υ.2.2.2 + zAl 128 → V 33 [(0, .ref 21), (1, .int (nI i)), (2, .int (nI j))] (r.toList ++ []) σ')
          refine item_22 (zA_of hIυ rfl) zix10 (by omega) (fun _ => ?_)
          refine zq (σ := υ) hV hIυ hnυ 5 ?_
          show zSp _ 128 [.ref 23, .int (nI i)] υ (fun r σ' => σ'.2.2.2 = υ.2.2.2 + zAl 128 → V 42 [(3, .int (υ.1 22 (i * 10 + j))), (0, .ref 21), (1, .int (nI i)), (2, .int (nI j))] (r.toList ++ []) σ')
          refine item_23 (zA_of hIυ rfl) rfl (by omega) (fun _ => ?_)
          refine zq (σ := υ) hV hIυ hnυ 5 ?_
          show ((υ.1 22 (i * 10 + j)) = 0 → V 73 [(4, .int ((υ.1 23 i) + (υ.1 22 (i * 10 + j)))), (3, .int (υ.1 22 (i * 10 + j))), (0, .ref 21), (1, .int (nI i)), (2, .int (nI j))] [] υ) ∧ (¬ (υ.1 22 (i * 10 + j)) = 0 → V 50 [(4, .int ((υ.1 23 i) + (υ.1 22 (i * 10 + j)))), (3, .int (υ.1 22 (i * 10 + j))), (0, .ref 21), (1, .int (nI i)), (2, .int (nI j))] [] υ)
          refine ⟨fun h_47 => ?_, fun h_47 => ?_⟩
          · skip
            refine zq (σ := υ) hV hIυ hnυ 2 ?_
            show V 12 [(2, .int ((nI j) + 1)), (4, .int ((υ.1 23 i) + (υ.1 22 (i * 10 + j)))), (3, .int (υ.1 22 (i * 10 + j))), (0, .ref 21), (1, .int (nI i))] [] υ
            refine zwk hV [3, 4, 0] rfl ?_
            rw [nI_1]
            refine ihj (j + 1) _ (zRx (σ.1 22) U i j) (by omega) hu (fun q hq => ?_) hend
            rw [hwu q hq]
            unfold zRx
            rw [if_neg]
            rintro ⟨x1, x2⟩
            rw [← hC] at x1 x2
            exact x1 h_47
          · skip
            refine zq (σ := υ) hV hIυ hnυ 5 ?_
            show zSp _ 128 [.ref 23, .int (nI j)] υ (fun r σ' => σ'.2.2.2 = υ.2.2.2 + zAl 128 → V 60 [(4, .int ((υ.1 23 i) + (υ.1 22 (i * 10 + j)))), (3, .int (υ.1 22 (i * 10 + j))), (0, .ref 21), (1, .int (nI i)), (2, .int (nI j))] (r.toList ++ [.int ((υ.1 23 i) + (υ.1 22 (i * 10 + j)))]) σ')
            refine item_23 (zA_of hIυ rfl) rfl (by omega) (fun _ => ?_)
            refine zq (σ := υ) hV hIυ hnυ 1 ?_
            show ((υ.1 23 j) ≤ ((υ.1 23 i) + (υ.1 22 (i * 10 + j))) → V 73 [(4, .int ((υ.1 23 i) + (υ.1 22 (i * 10 + j)))), (3, .int (υ.1 22 (i * 10 + j))), (0, .ref 21), (1, .int (nI i)), (2, .int (nI j))] [] υ) ∧ (¬ (υ.1 23 j) ≤ ((υ.1 23 i) + (υ.1 22 (i * 10 + j))) → V 63 [(4, .int ((υ.1 23 i) + (υ.1 22 (i * 10 + j)))), (3, .int (υ.1 22 (i * 10 + j))), (0, .ref 21), (1, .int (nI i)), (2, .int (nI j))] [] υ)
            refine ⟨fun h_60 => ?_, fun h_60 => ?_⟩
            · skip
              refine zq (σ := υ) hV hIυ hnυ 2 ?_
              show V 12 [(2, .int ((nI j) + 1)), (4, .int ((υ.1 23 i) + (υ.1 22 (i * 10 + j)))), (3, .int (υ.1 22 (i * 10 + j))), (0, .ref 21), (1, .int (nI i))] [] υ
              refine zwk hV [3, 4, 0] rfl ?_
              rw [nI_1]
              refine ihj (j + 1) _ (zRx (σ.1 22) U i j) (by omega) hu (fun q hq => ?_) hend
              rw [hwu q hq]
              unfold zRx
              rw [if_neg]
              rintro ⟨x1, x2⟩
              rw [← hC] at x1 x2
              rw [hwu i (by omega), hwu j (by omega)] at h_60
              exact Int32.not_le.mpr x2 h_60
            · skip
              refine zq (σ := υ) hV hIυ hnυ 5 ?_
              show zSp _ 129 [.ref 23, .int (nI j), .int ((υ.1 23 i) + (υ.1 22 (i * 10 + j)))] υ (fun r σ' => σ'.2.2.2 = υ.2.2.2 + zAl 129 → V 73 [(4, .int ((υ.1 23 i) + (υ.1 22 (i * 10 + j)))), (3, .int (υ.1 22 (i * 10 + j))), (0, .ref 21), (1, .int (nI i)), (2, .int (nI j))] (r.toList ++ []) σ')
              refine setItem_23 (zA_of hIυ rfl) rfl (by omega) (fun _ => ?_)
              refine zq (σ := (zuI υ 23 j ((υ.1 23 i) + (υ.1 22 (i * 10 + j))))) hV hIυ hnυ 2 ?_
              show V 12 [(2, .int ((nI j) + 1)), (4, .int ((υ.1 23 i) + (υ.1 22 (i * 10 + j)))), (3, .int (υ.1 22 (i * 10 + j))), (0, .ref 21), (1, .int (nI i))] [] (zuI υ 23 j ((υ.1 23 i) + (υ.1 22 (i * 10 + j))))
              refine zwk hV [3, 4, 0] rfl ?_
              rw [nI_1]
              refine ihj (j + 1) _ (zRx (σ.1 22) U i j) (by omega) (hu.uI rfl) (fun q hq => ?_) hend
              rw [zuI_get, hC, hwu i (by omega), hwu q hq]
              rw [hC, hwu i (by omega), hwu j (by omega)] at h_60
              rw [hC] at h_47
              have e9 : zRx (σ.1 22) U i j = upd U j (U i + σ.1 22 (i * 10 + j)) := if_pos ⟨h_47, Int32.not_le.mp h_60⟩
              rw [e9]
              unfold upd
              by_cases e : q = j
              · rw [if_pos e, if_pos ⟨rfl, e⟩]
              · rw [if_neg e, if_neg (fun x => e x.2)]
      exact Hj n 0 τ W (by omega) ht hwt rfl
  exact Hi n 0 σ W0 (by omega) zOnly.rf hW rfl
set_option maxRecDepth 8000 in
set_option maxHeartbeats 4000000 in
theorem leastCost_ok {d : Nat} {σ : zSt} {K : Option Value → zSt → Prop} {a b : Int32} {n k : Nat} (hI : zQI (kR 21 24) σ.2.2) (hs : σ.1 21 2 = nI n) (hn : n ≤ 10) (eb : b = nI k) (hk : k < n) (hK : ∀ τ, zOnly (zfa 23) σ τ → K (some (.int (zWay (σ.1 22) n a k))) τ) : zSp (d + 3) mX1_leastCost [.ref 21, .int a, .int b] σ K := by
  refine ⟨⟨by decide, Nat.le_of_ble_eq_true rfl⟩, fun V hV => ?_⟩
  subst eb
  refine zq (σ := σ) hV hI rfl 2 ?_
  show V 2 [(3, .int 0), (0, .ref 21), (1, .int a), (2, .int (nI k))] [] σ
  refine zwk hV [1, 2, 3, 0] rfl ?_
  have Ha : ∀ (r : Nat) (i : Nat) (τ : zSt), i + r = n → zOnly (zfa 23) σ τ → (∀ q, q < i → τ.1 23 q = zW0 a q) → V 2 [(0, .ref 21), (1, .int a), (2, .int (nI k)), (3, .int (nI i))] [] τ := by
    intro r
    induction r with
    | zero =>
      intro i τ hin ht hwt
      have hIτ := zQI_eq hI ht.2.2
      have hnτ : τ.2.2.2 = σ.2.2.2 := congrArg Prod.snd ht.2.2
      have hst : τ.1 21 2 = nI n := (ht.1 21 2 rfl).trans hs
      refine zq (σ := τ) hV hIτ hnτ 4 ?_
      show ((τ.1 21 2) ≤ (nI i) → V 35 [(0, .ref 21), (1, .int a), (2, .int (nI k)), (3, .int (nI i))] [] τ) ∧ (¬ (τ.1 21 2) ≤ (nI i) → V 10 [(0, .ref 21), (1, .int a), (2, .int (nI k)), (3, .int (nI i))] [] τ)
      refine ⟨fun _ => ?_, fun hc => absurd (show (τ.1 21 2) ≤ nI i by rw [hst]; exact zge_self (by omega)) hc⟩
      refine zq (σ := τ) hV hIτ hnτ 2 ?_
      show V 37 [(3, .int 1), (0, .ref 21), (1, .int a), (2, .int (nI k))] [] τ
      refine zwk hV [1, 2, 3, 0] rfl ?_
      have Hb : ∀ (r : Nat) (i : Nat) (τ : zSt) (W : Nat → Int32), i + r = n → zOnly (zfa 23) σ τ → (∀ q, q < n → τ.1 23 q = W q) → zRm (σ.1 22) n r W = zRm (σ.1 22) n (n - 1) (zW0 a) → V 37 [(0, .ref 21), (1, .int a), (2, .int (nI k)), (3, .int (nI i))] [] τ := by
        intro r
        induction r with
        | zero =>
          intro i τ W hin ht hwt hfin
          have hIτ := zQI_eq hI ht.2.2
          have hnτ : τ.2.2.2 = σ.2.2.2 := congrArg Prod.snd ht.2.2
          have hst : τ.1 21 2 = nI n := (ht.1 21 2 rfl).trans hs
          have hC : τ.1 22 = σ.1 22 := funext fun j => ht.1 22 j rfl
          refine zq (σ := τ) hV hIτ hnτ 4 ?_
          show ((τ.1 21 2) ≤ (nI i) → V 55 [(0, .ref 21), (1, .int a), (2, .int (nI k)), (3, .int (nI i))] [] τ) ∧ (¬ (τ.1 21 2) ≤ (nI i) → V 45 [(0, .ref 21), (1, .int a), (2, .int (nI k)), (3, .int (nI i))] [] τ)
          refine ⟨fun _ => ?_, fun hc => absurd (show (τ.1 21 2) ≤ nI i by rw [hst]; exact zge_self (by omega)) hc⟩
          refine zq (σ := τ) hV hIτ hnτ 4 ?_
          show zSp _ 128 [.ref 23, .int (nI k)] τ (fun r σ' => σ'.2.2.2 = τ.2.2.2 + zAl 128 → V 63 [(0, .ref 21), (1, .int a), (2, .int (nI k)), (3, .int (nI i))] (r.toList ++ []) σ')
          refine item_23 (zA_of hIτ rfl) rfl (by omega) (fun _ => ?_)
          refine zq (σ := τ) hV hIτ hnτ 4 ?_
          show (1048576 ≤ (τ.1 23 k) → V 74 [(3, .int (τ.1 23 k)), (0, .ref 21), (1, .int a), (2, .int (nI k))] [] τ) ∧ (¬ 1048576 ≤ (τ.1 23 k) → V 70 [(3, .int (τ.1 23 k)), (0, .ref 21), (1, .int a), (2, .int (nI k))] [] τ)
          refine ⟨fun h_67 => ?_, fun h_67 => ?_⟩
          · skip
            refine zq (σ := τ) hV hIτ hnτ 2 ?_
            show K (some (.int (-1))) τ
            replace hK := hK τ ht
            have e : τ.1 23 k = zRm (σ.1 22) n (n - 1) (zW0 a) k := (hwt k hk).trans (congrFun hfin k)
            rw [e] at h_67
            unfold zWay at hK
            first | (rw [if_pos (Int32.not_le.mp h_67)] at hK; exact hK) | (rw [if_neg (fun q => Int32.not_le.mpr q h_67)] at hK; exact hK)
          · skip
            refine zq (σ := τ) hV hIτ hnτ 3 ?_
            show K (some (.int (τ.1 23 k))) τ
            replace hK := hK τ ht
            have e : τ.1 23 k = zRm (σ.1 22) n (n - 1) (zW0 a) k := (hwt k hk).trans (congrFun hfin k)
            rw [e] at h_67
            rw [e]
            unfold zWay at hK
            first | (rw [if_pos (Int32.not_le.mp h_67)] at hK; exact hK) | (rw [if_neg (fun q => Int32.not_le.mpr q h_67)] at hK; exact hK)
        | succ r ihb =>
          intro i τ W hin ht hwt hfin
          have hIτ := zQI_eq hI ht.2.2
          have hnτ : τ.2.2.2 = σ.2.2.2 := congrArg Prod.snd ht.2.2
          have hst : τ.1 21 2 = nI n := (ht.1 21 2 rfl).trans hs
          have hC : τ.1 22 = σ.1 22 := funext fun j => ht.1 22 j rfl
          refine zq (σ := τ) hV hIτ hnτ 4 ?_
          show ((τ.1 21 2) ≤ (nI i) → V 55 [(0, .ref 21), (1, .int a), (2, .int (nI k)), (3, .int (nI i))] [] τ) ∧ (¬ (τ.1 21 2) ≤ (nI i) → V 45 [(0, .ref 21), (1, .int a), (2, .int (nI k)), (3, .int (nI i))] [] τ)
          refine ⟨fun hc => absurd hc (show ¬ (τ.1 21 2) ≤ nI i by rw [hst]; exact nI_ge (by omega) (by omega)), fun _ => ?_⟩
          refine zq (σ := τ) hV hIτ hnτ 2 ?_
          show zSp _ 15 [.ref 21] τ (fun r σ' => σ'.2.2.2 = τ.2.2.2 + zAl 15 → V 49 [(0, .ref 21), (1, .int a), (2, .int (nI k)), (3, .int (nI i))] (r.toList ++ []) σ')
          refine goOne_ok (zR_of hIτ rfl rfl) hst (by omega) hwt rfl (fun υ hu hwu _ => ?_)
          rw [hC] at hwu
          replace hu := ht.tr hu
          have hIυ := zQI_eq hI hu.2.2
          have hnυ : υ.2.2.2 = σ.2.2.2 := congrArg Prod.snd hu.2.2
          refine zq (σ := υ) hV hIυ hnυ 2 ?_
          show V 37 [(3, .int ((nI i) + 1)), (0, .ref 21), (1, .int a), (2, .int (nI k))] [] υ
          refine zwk hV [1, 2, 3, 0] rfl ?_
          rw [nI_1]
          exact ihb (i + 1) υ _ (by omega) hu hwu hfin
      exact Hb (n - 1) 1 τ _ (by omega) ht (fun q hq => hwt q (by omega)) rfl
    | succ r iha =>
      intro i τ hin ht hwt
      have hIτ := zQI_eq hI ht.2.2
      have hnτ : τ.2.2.2 = σ.2.2.2 := congrArg Prod.snd ht.2.2
      have hst : τ.1 21 2 = nI n := (ht.1 21 2 rfl).trans hs
      refine zq (σ := τ) hV hIτ hnτ 4 ?_
      show ((τ.1 21 2) ≤ (nI i) → V 35 [(0, .ref 21), (1, .int a), (2, .int (nI k)), (3, .int (nI i))] [] τ) ∧ (¬ (τ.1 21 2) ≤ (nI i) → V 10 [(0, .ref 21), (1, .int a), (2, .int (nI k)), (3, .int (nI i))] [] τ)
      refine ⟨fun hc => absurd hc (show ¬ (τ.1 21 2) ≤ nI i by rw [hst]; exact nI_ge (by omega) (by omega)), fun _ => ?_⟩
      refine zq (σ := τ) hV hIτ hnτ 6 ?_
      show (¬ (nI i) = a → V 24 [(0, .ref 21), (1, .int a), (2, .int (nI k)), (3, .int (nI i))] [.int (nI i), .ref 23] τ) ∧ (¬ (¬ (nI i) = a) → V 20 [(0, .ref 21), (1, .int a), (2, .int (nI k)), (3, .int (nI i))] [.int (nI i), .ref 23] τ)
      refine ⟨fun h_17 => ?_, fun h_17 => ?_⟩
      · skip
        refine zq (σ := τ) hV hIτ hnτ 2 ?_
        show zSp _ 129 [.ref 23, .int (nI i), .int 1048576] τ (fun r σ' => σ'.2.2.2 = τ.2.2.2 + zAl 129 → V 29 [(0, .ref 21), (1, .int a), (2, .int (nI k)), (3, .int (nI i))] (r.toList ++ []) σ')
        refine setItem_23 (zA_of hIτ rfl) rfl (by omega) (fun _ => ?_)
        refine zq (σ := (zuI τ 23 i 1048576)) hV hIτ hnτ 2 ?_
        show V 2 [(3, .int ((nI i) + 1)), (0, .ref 21), (1, .int a), (2, .int (nI k))] [] (zuI τ 23 i 1048576)
        refine zwk hV [1, 2, 3, 0] rfl ?_
        rw [nI_1]
        refine iha (i + 1) _ (by omega) (ht.uI rfl) (fun q hq => ?_)
        rw [zuI_get]
        by_cases e : q = i
        · subst e; rw [if_pos ⟨rfl, rfl⟩]; unfold zW0; first | (rw [if_pos h_17]) | (rw [if_neg h_17])
        · rw [if_neg (fun x => e x.2)]; exact hwt q (by omega)
      · skip
        have h_17 := Classical.not_not.mp h_17
        refine zq (σ := τ) hV hIτ hnτ 3 ?_
        show zSp _ 129 [.ref 23, .int (nI i), .int 0] τ (fun r σ' => σ'.2.2.2 = τ.2.2.2 + zAl 129 → V 29 [(0, .ref 21), (1, .int a), (2, .int (nI k)), (3, .int (nI i))] (r.toList ++ []) σ')
        refine setItem_23 (zA_of hIτ rfl) rfl (by omega) (fun _ => ?_)
        refine zq (σ := (zuI τ 23 i 0)) hV hIτ hnτ 2 ?_
        show V 2 [(3, .int ((nI i) + 1)), (0, .ref 21), (1, .int a), (2, .int (nI k))] [] (zuI τ 23 i 0)
        refine zwk hV [1, 2, 3, 0] rfl ?_
        rw [nI_1]
        refine iha (i + 1) _ (by omega) (ht.uI rfl) (fun q hq => ?_)
        rw [zuI_get]
        by_cases e : q = i
        · subst e; rw [if_pos ⟨rfl, rfl⟩]; unfold zW0; first | (rw [if_pos h_17]) | (rw [if_neg h_17])
        · rw [if_neg (fun x => e x.2)]; exact hwt q (by omega)
  exact Ha n 0 σ (by omega) zOnly.rf (fun q hq => absurd hq (Nat.not_lt_zero q))
set_option maxRecDepth 8000 in
set_option maxHeartbeats 4000000 in
theorem grip_C {d : Nat} {σ : zSt} {K : Option Value → zSt → Prop} {m : Nat} (hI : zQI (kR 0 30) σ.2.2) (hs : σ.1 21 2 = nI m) (hm : m ≤ 10) (hFull : m = 10 → K (some (.int (-4))) σ) (hOk : m < 10 → K (some (.int (nI m))) (zuI σ 21 2 (nI (m + 1)))) : zSp (d + 2) mX8_grip [.ref 0] σ K := by
  refine ⟨⟨by decide, Nat.le_of_ble_eq_true rfl⟩, fun V hV => ?_⟩
  have hmi := nI_toInt (show m < 2 ^ 31 by omega)
  refine zq (σ := σ) hV hI rfl 3 ?_
  show zSp _ 11 [.ref 21] σ (fun r σ' => σ'.2.2.2 = σ.2.2.2 + zAl 11 → V 7 [(0, .ref 0)] (r.toList ++ []) σ')
  refine gsize_ok (zR_of hI rfl rfl) (fun _ => ?_)
  refine zq (σ := σ) hV hI rfl 2 ?_
  show ((σ.1 21 2) < 10 → V 15 [(0, .ref 0)] [] σ) ∧ (¬ (σ.1 21 2) < 10 → V 12 [(0, .ref 0)] [] σ)
  refine ⟨fun h_9 => ?_, fun h_9 => ?_⟩
  · skip
    refine zq (σ := σ) hV hI rfl 3 ?_
    show zSp _ 12 [.ref 21] σ (fun r σ' => σ'.2.2.2 = σ.2.2.2 + zAl 12 → V 22 [(0, .ref 0)] (r.toList ++ []) σ')
    refine gadd_ok (zR_of hI rfl rfl) (fun _ => ?_)
    refine zq (σ := (zuI σ 21 2 ((σ.1 21 2) + 1))) hV hI rfl 3 ?_
    show zSp _ 11 [.ref 21] (zuI σ 21 2 ((σ.1 21 2) + 1)) (fun r σ' => σ'.2.2.2 = (zuI σ 21 2 ((σ.1 21 2) + 1)).2.2.2 + zAl 11 → V 29 [(0, .ref 0)] (r.toList ++ []) σ')
    refine gsize_ok (zR_of hI rfl rfl) (fun _ => ?_)
    refine zq (σ := (zuI σ 21 2 ((σ.1 21 2) + 1))) hV hI rfl 3 ?_
    show K (some (.int (((σ.1 21 2) + 1) - 1))) (zuI σ 21 2 ((σ.1 21 2) + 1))
    have hcap : m < 10 := by
      simp only [zlt, hs, hmi] at h_9
      simp at h_9
      omega
    rw [hs, nI_1, nI_pred]
    exact hOk hcap
  · skip
    refine zq (σ := σ) hV hI rfl 2 ?_
    show K (some (.int (-4))) σ
    refine hFull ?_
    simp only [zlt, hs, hmi] at h_9
    simp at h_9
    omega
set_option maxRecDepth 8000 in
set_option maxHeartbeats 4000000 in
theorem link_C {d : Nat} {σ : zSt} {K : Option Value → zSt → Prop} {a b c : Int32} {m : Nat} (hI : zQI (kR 0 30) σ.2.2) (hs : σ.1 21 2 = nI m) (hm : m ≤ 10) (hBad : ¬ (zBt 0 (m - 1) a ∧ zBt 0 (m - 1) b ∧ ¬ a = b ∧ zBt 1 1000 c) → K (some (.int (-2))) σ) (hOk : ∀ i j, a = nI i → i < m → b = nI j → j < m → (zBt 0 (m - 1) a ∧ zBt 0 (m - 1) b ∧ ¬ a = b ∧ zBt 1 1000 c) → K (some (.int 1)) (zuI (zuI σ 22 (i * 10 + j) c) 22 (j * 10 + i) c)) : zSp (d + 3) mX8_link [.ref 0, .int a, .int b, .int c] σ K := by
  refine ⟨⟨by decide, Nat.le_of_ble_eq_true rfl⟩, fun V hV => ?_⟩
  refine zq (σ := σ) hV hI rfl 3 ?_
  show zSp _ 126 [.ref 0, .int a] σ (fun r σ' => σ'.2.2.2 = σ.2.2.2 + zAl 126 → V 5 [(0, .ref 0), (1, .int a), (2, .int b), (3, .int c)] (r.toList ++ []) σ')
  refine isGrip_ok (zR_of hI rfl rfl) (by assumption) (by omega) (fun hb1 _ => ?_) (fun hb1 _ => ?_)
  · skip
    refine zq (σ := σ) hV hI rfl 1 ?_
    show ((1 : Int32) = 0 → V 33 [(0, .ref 0), (1, .int a), (2, .int b), (3, .int c)] [] σ) ∧ (¬ (1 : Int32) = 0 → V 8 [(0, .ref 0), (1, .int a), (2, .int b), (3, .int c)] [] σ)
    refine ⟨fun hc => absurd hc (by decide), fun _ => ?_⟩
    refine zq (σ := σ) hV hI rfl 3 ?_
    show zSp _ 126 [.ref 0, .int b] σ (fun r σ' => σ'.2.2.2 = σ.2.2.2 + zAl 126 → V 13 [(0, .ref 0), (1, .int a), (2, .int b), (3, .int c)] (r.toList ++ []) σ')
    refine isGrip_ok (zR_of hI rfl rfl) (by assumption) (by omega) (fun hb2 _ => ?_) (fun hb2 _ => ?_)
    · skip
      refine zq (σ := σ) hV hI rfl 1 ?_
      show ((1 : Int32) = 0 → V 33 [(0, .ref 0), (1, .int a), (2, .int b), (3, .int c)] [] σ) ∧ (¬ (1 : Int32) = 0 → V 16 [(0, .ref 0), (1, .int a), (2, .int b), (3, .int c)] [] σ)
      refine ⟨fun hc => absurd hc (by decide), fun _ => ?_⟩
      refine zq (σ := σ) hV hI rfl 3 ?_
      show (a = b → V 33 [(0, .ref 0), (1, .int a), (2, .int b), (3, .int c)] [] σ) ∧ (¬ a = b → V 21 [(0, .ref 0), (1, .int a), (2, .int b), (3, .int c)] [] σ)
      refine ⟨fun h_18 => ?_, fun h_18 => ?_⟩
      · skip
        refine zq (σ := σ) hV hI rfl 2 ?_
        show K (some (.int (-2))) σ
        exact hBad (fun q => q.2.2.1 h_18)
      · skip
        refine zq (σ := σ) hV hI rfl 3 ?_
        show (c < 1 → V 33 [(0, .ref 0), (1, .int a), (2, .int b), (3, .int c)] [] σ) ∧ (¬ c < 1 → V 26 [(0, .ref 0), (1, .int a), (2, .int b), (3, .int c)] [] σ)
        refine ⟨fun h_23 => ?_, fun h_23 => ?_⟩
        · skip
          refine zq (σ := σ) hV hI rfl 2 ?_
          show K (some (.int (-2))) σ
          refine hBad (fun q => ?_)
          have q4 := q.2.2.2
          unfold zBt at q4
          simp only [zlt, zle] at h_23
          simp at h_23
          omega
        · skip
          refine zq (σ := σ) hV hI rfl 3 ?_
          show (c ≤ 1000 → V 36 [(0, .ref 0), (1, .int a), (2, .int b), (3, .int c)] [] σ) ∧ (¬ c ≤ 1000 → V 33 [(0, .ref 0), (1, .int a), (2, .int b), (3, .int c)] [] σ)
          refine ⟨fun h_30 => ?_, fun h_30 => ?_⟩
          · skip
            refine zq (σ := σ) hV hI rfl 6 ?_
            show zSp _ 13 [.ref 21, .int a, .int b, .int c] σ (fun r σ' => σ'.2.2.2 = σ.2.2.2 + zAl 13 → V 46 [(0, .ref 0), (1, .int a), (2, .int b), (3, .int c)] (r.toList ++ []) σ')
            obtain ⟨i, hi, hi2, _⟩ := zNat (x := a) (by unfold zBt at hb1; omega)
            have him : i < m := by unfold zBt at hb1; omega
            obtain ⟨j, hj, hj2, _⟩ := zNat (x := b) (by unfold zBt at hb2; omega)
            have hjm : j < m := by unfold zBt at hb2; omega
            refine join_ok (zR_of hI rfl rfl) hi (by omega) hj (by omega) (fun _ => ?_)
            refine zq (σ := (zuI (zuI σ 22 (i * 10 + j) c) 22 (j * 10 + i) c)) hV hI rfl 2 ?_
            show K (some (.int 1)) (zuI (zuI σ 22 (i * 10 + j) c) 22 (j * 10 + i) c)
            exact hOk i j hi him hj hjm ⟨hb1, hb2, h_18, by
              unfold zBt
              simp only [zlt, zle] at h_23 h_30
              simp at h_23 h_30 ⊢
              omega⟩
          · skip
            refine zq (σ := σ) hV hI rfl 2 ?_
            show K (some (.int (-2))) σ
            refine hBad (fun q => ?_)
            have q4 := q.2.2.2
            unfold zBt at q4
            simp only [zlt, zle] at h_23 h_30
            simp at h_23 h_30
            omega
    · skip
      refine zq (σ := σ) hV hI rfl 1 ?_
      show ((0 : Int32) = 0 → V 33 [(0, .ref 0), (1, .int a), (2, .int b), (3, .int c)] [] σ) ∧ (¬ (0 : Int32) = 0 → V 16 [(0, .ref 0), (1, .int a), (2, .int b), (3, .int c)] [] σ)
      refine ⟨fun _ => ?_, fun hc => absurd (by decide) hc⟩
      refine zq (σ := σ) hV hI rfl 2 ?_
      show K (some (.int (-2))) σ
      exact hBad (fun q => hb2 q.2.1)
  · skip
    refine zq (σ := σ) hV hI rfl 1 ?_
    show ((0 : Int32) = 0 → V 33 [(0, .ref 0), (1, .int a), (2, .int b), (3, .int c)] [] σ) ∧ (¬ (0 : Int32) = 0 → V 8 [(0, .ref 0), (1, .int a), (2, .int b), (3, .int c)] [] σ)
    refine ⟨fun _ => ?_, fun hc => absurd (by decide) hc⟩
    refine zq (σ := σ) hV hI rfl 2 ?_
    show K (some (.int (-2))) σ
    exact hBad (fun q => hb1 q.1)
set_option maxRecDepth 8000 in
set_option maxHeartbeats 4000000 in
theorem way_C {d : Nat} {σ : zSt} {K : Option Value → zSt → Prop} {a b : Int32} {m : Nat} (hI : zQI (kR 0 30) σ.2.2) (hs : σ.1 21 2 = nI m) (hm : m ≤ 10) (hBad : ¬ (zBt 0 (m - 1) a ∧ zBt 0 (m - 1) b) → K (some (.int (-2))) σ) (hOk : ∀ τ j, zOnly (zfa 23) σ τ → b = nI j → j < m → (zBt 0 (m - 1) a ∧ zBt 0 (m - 1) b) → K (some (.int (zWay (σ.1 22) m a j))) τ) : zSp (d + 4) mX8_way [.ref 0, .int a, .int b] σ K := by
  refine ⟨⟨by decide, Nat.le_of_ble_eq_true rfl⟩, fun V hV => ?_⟩
  refine zq (σ := σ) hV hI rfl 3 ?_
  show zSp _ 126 [.ref 0, .int a] σ (fun r σ' => σ'.2.2.2 = σ.2.2.2 + zAl 126 → V 5 [(0, .ref 0), (1, .int a), (2, .int b)] (r.toList ++ []) σ')
  refine isGrip_ok (zR_of hI rfl rfl) (by assumption) (by omega) (fun hb1 _ => ?_) (fun hb1 _ => ?_)
  · skip
    refine zq (σ := σ) hV hI rfl 1 ?_
    show ((1 : Int32) = 0 → V 16 [(0, .ref 0), (1, .int a), (2, .int b)] [] σ) ∧ (¬ (1 : Int32) = 0 → V 8 [(0, .ref 0), (1, .int a), (2, .int b)] [] σ)
    refine ⟨fun hc => absurd hc (by decide), fun _ => ?_⟩
    refine zq (σ := σ) hV hI rfl 3 ?_
    show zSp _ 126 [.ref 0, .int b] σ (fun r σ' => σ'.2.2.2 = σ.2.2.2 + zAl 126 → V 13 [(0, .ref 0), (1, .int a), (2, .int b)] (r.toList ++ []) σ')
    refine isGrip_ok (zR_of hI rfl rfl) (by assumption) (by omega) (fun hb2 _ => ?_) (fun hb2 _ => ?_)
    · skip
      refine zq (σ := σ) hV hI rfl 1 ?_
      show (¬ (1 : Int32) = 0 → V 19 [(0, .ref 0), (1, .int a), (2, .int b)] [] σ) ∧ (¬ (¬ (1 : Int32) = 0) → V 16 [(0, .ref 0), (1, .int a), (2, .int b)] [] σ)
      refine ⟨fun _ => ?_, fun hc => absurd (by decide) hc⟩
      refine zq (σ := σ) hV hI rfl 5 ?_
      show zSp _ 14 [.ref 21, .int a, .int b] σ (fun r σ' => σ'.2.2.2 = σ.2.2.2 + zAl 14 → V 28 [(0, .ref 0), (1, .int a), (2, .int b)] (r.toList ++ []) σ')
      obtain ⟨j, hj, hj2, _⟩ := zNat (x := b) (by unfold zBt at hb2; omega)
      have hjm : j < m := by unfold zBt at hb2; omega
      refine leastCost_ok (zR_of hI rfl rfl) hs (by omega) hj hjm (fun τ ht _ => ?_)
      have hIτ := zQI_eq hI ht.2.2
      have hnτ : τ.2.2.2 = σ.2.2.2 := congrArg Prod.snd ht.2.2
      refine zq (σ := τ) hV hIτ hnτ 1 ?_
      show K (some (.int (zWay (σ.1 22) m a j))) τ
      exact hOk τ j ht hj hjm ⟨hb1, hb2⟩
    · skip
      refine zq (σ := σ) hV hI rfl 1 ?_
      show (¬ (0 : Int32) = 0 → V 19 [(0, .ref 0), (1, .int a), (2, .int b)] [] σ) ∧ (¬ (¬ (0 : Int32) = 0) → V 16 [(0, .ref 0), (1, .int a), (2, .int b)] [] σ)
      refine ⟨fun hc => absurd hc (by decide), fun _ => ?_⟩
      refine zq (σ := σ) hV hI rfl 2 ?_
      show K (some (.int (-2))) σ
      exact hBad (fun q => hb2 q.2)
  · skip
    refine zq (σ := σ) hV hI rfl 1 ?_
    show ((0 : Int32) = 0 → V 16 [(0, .ref 0), (1, .int a), (2, .int b)] [] σ) ∧ (¬ (0 : Int32) = 0 → V 8 [(0, .ref 0), (1, .int a), (2, .int b)] [] σ)
    refine ⟨fun _ => ?_, fun hc => absurd (by decide) hc⟩
    refine zq (σ := σ) hV hI rfl 2 ?_
    show K (some (.int (-2))) σ
    exact hBad (fun q => hb1 q.1)
end
section
def zBit (x : Int32) (a : Int32) : Prop := ¬ (x >>> (a &&& 31)) &&& 1 = 0
def zBx (A : Nat → Int32) (x : Int32) (a : Nat) : Int32 := if A a &&& x = 0 then x &&& ((1 <<< (nI a &&& 31)) ^^^ (-1)) else x
def zBj (A : Nat → Int32) : Nat → Nat → Int32 → Int32
  | 0, _, x => x
  | r + 1, a, x => zBj A r (a + 1) (zBx A x a)
def zBr (A : Nat → Int32) (n : Nat) : Nat → Int32 → Int32
  | 0, x => x
  | r + 1, x => zBr A n r (zBj A n 0 x)
/-- the parts of the bin that are stuck -/
def zStk (A : Nat → Int32) (n : Nat) (ins : Int32) : Int32 := zBr A n n ins
def zUx (A : Nat → Int32) (ins x : Int32) (b : Nat) : Int32 := if (x >>> (nI b &&& 31)) &&& 1 = 0 then x else x ||| (A b &&& ins)
def zUj (A : Nat → Int32) (ins : Int32) : Nat → Nat → Int32 → Int32
  | 0, _, x => x
  | r + 1, a, x => zUj A ins r (a + 1) (zUx A ins x a)
def zUr (A : Nat → Int32) (ins : Int32) (n : Nat) : Nat → Int32 → Int32
  | 0, x => x
  | r + 1, x => zUr A ins n r (zUj A ins n 0 x)
/-- a part and all that lie above it -/
def zAll (A : Nat → Int32) (n : Nat) (ins : Int32) (a : Int32) : Int32 := zUr A ins n n (1 <<< (a &&& 31))
/-- how many bits are set, as the library counts -/
def zBc (x : Int32) : Int32 := ((((((((x - ((Int32.toUInt32 x >>> (Int32.toUInt32 1 &&& Int32.toUInt32 31)).toInt32 &&& 1431655765)) &&& 858993459) + ((Int32.toUInt32 (x - ((Int32.toUInt32 x >>> (Int32.toUInt32 1 &&& Int32.toUInt32 31)).toInt32 &&& 1431655765)) >>> (Int32.toUInt32 2 &&& Int32.toUInt32 31)).toInt32 &&& 858993459)) + (Int32.toUInt32 (((x - ((Int32.toUInt32 x >>> (Int32.toUInt32 1 &&& Int32.toUInt32 31)).toInt32 &&& 1431655765)) &&& 858993459) + ((Int32.toUInt32 (x - ((Int32.toUInt32 x >>> (Int32.toUInt32 1 &&& Int32.toUInt32 31)).toInt32 &&& 1431655765)) >>> (Int32.toUInt32 2 &&& Int32.toUInt32 31)).toInt32 &&& 858993459)) >>> (Int32.toUInt32 4 &&& Int32.toUInt32 31)).toInt32) &&& 252645135) + (Int32.toUInt32 (((((x - ((Int32.toUInt32 x >>> (Int32.toUInt32 1 &&& Int32.toUInt32 31)).toInt32 &&& 1431655765)) &&& 858993459) + ((Int32.toUInt32 (x - ((Int32.toUInt32 x >>> (Int32.toUInt32 1 &&& Int32.toUInt32 31)).toInt32 &&& 1431655765)) >>> (Int32.toUInt32 2 &&& Int32.toUInt32 31)).toInt32 &&& 858993459)) + (Int32.toUInt32 (((x - ((Int32.toUInt32 x >>> (Int32.toUInt32 1 &&& Int32.toUInt32 31)).toInt32 &&& 1431655765)) &&& 858993459) + ((Int32.toUInt32 (x - ((Int32.toUInt32 x >>> (Int32.toUInt32 1 &&& Int32.toUInt32 31)).toInt32 &&& 1431655765)) >>> (Int32.toUInt32 2 &&& Int32.toUInt32 31)).toInt32 &&& 858993459)) >>> (Int32.toUInt32 4 &&& Int32.toUInt32 31)).toInt32) &&& 252645135) >>> (Int32.toUInt32 8 &&& Int32.toUInt32 31)).toInt32) + (Int32.toUInt32 ((((((x - ((Int32.toUInt32 x >>> (Int32.toUInt32 1 &&& Int32.toUInt32 31)).toInt32 &&& 1431655765)) &&& 858993459) + ((Int32.toUInt32 (x - ((Int32.toUInt32 x >>> (Int32.toUInt32 1 &&& Int32.toUInt32 31)).toInt32 &&& 1431655765)) >>> (Int32.toUInt32 2 &&& Int32.toUInt32 31)).toInt32 &&& 858993459)) + (Int32.toUInt32 (((x - ((Int32.toUInt32 x >>> (Int32.toUInt32 1 &&& Int32.toUInt32 31)).toInt32 &&& 1431655765)) &&& 858993459) + ((Int32.toUInt32 (x - ((Int32.toUInt32 x >>> (Int32.toUInt32 1 &&& Int32.toUInt32 31)).toInt32 &&& 1431655765)) >>> (Int32.toUInt32 2 &&& Int32.toUInt32 31)).toInt32 &&& 858993459)) >>> (Int32.toUInt32 4 &&& Int32.toUInt32 31)).toInt32) &&& 252645135) + (Int32.toUInt32 (((((x - ((Int32.toUInt32 x >>> (Int32.toUInt32 1 &&& Int32.toUInt32 31)).toInt32 &&& 1431655765)) &&& 858993459) + ((Int32.toUInt32 (x - ((Int32.toUInt32 x >>> (Int32.toUInt32 1 &&& Int32.toUInt32 31)).toInt32 &&& 1431655765)) >>> (Int32.toUInt32 2 &&& Int32.toUInt32 31)).toInt32 &&& 858993459)) + (Int32.toUInt32 (((x - ((Int32.toUInt32 x >>> (Int32.toUInt32 1 &&& Int32.toUInt32 31)).toInt32 &&& 1431655765)) &&& 858993459) + ((Int32.toUInt32 (x - ((Int32.toUInt32 x >>> (Int32.toUInt32 1 &&& Int32.toUInt32 31)).toInt32 &&& 1431655765)) >>> (Int32.toUInt32 2 &&& Int32.toUInt32 31)).toInt32 &&& 858993459)) >>> (Int32.toUInt32 4 &&& Int32.toUInt32 31)).toInt32) &&& 252645135) >>> (Int32.toUInt32 8 &&& Int32.toUInt32 31)).toInt32) >>> (Int32.toUInt32 16 &&& Int32.toUInt32 31)).toInt32) &&& 63)
set_option maxRecDepth 8000 in
set_option maxHeartbeats 4000000 in
theorem bits_ok {d : Nat} {σ : zSt} {K : Option Value → zSt → Prop} {x : Int32} (hK : K (some (.int (zBc x))) σ) : zSp (d + 1) mJ6_bitCount_0f7a4 [.int x] σ K := by
  refine ⟨⟨by decide, Nat.le_of_ble_eq_true rfl⟩, fun V hV => ?_⟩
  refine zq (σ := σ) hV zQI_0 rfl 42 ?_
  show K (some (.int ((((((((x - ((Int32.toUInt32 x >>> (Int32.toUInt32 1 &&& Int32.toUInt32 31)).toInt32 &&& 1431655765)) &&& 858993459) + ((Int32.toUInt32 (x - ((Int32.toUInt32 x >>> (Int32.toUInt32 1 &&& Int32.toUInt32 31)).toInt32 &&& 1431655765)) >>> (Int32.toUInt32 2 &&& Int32.toUInt32 31)).toInt32 &&& 858993459)) + (Int32.toUInt32 (((x - ((Int32.toUInt32 x >>> (Int32.toUInt32 1 &&& Int32.toUInt32 31)).toInt32 &&& 1431655765)) &&& 858993459) + ((Int32.toUInt32 (x - ((Int32.toUInt32 x >>> (Int32.toUInt32 1 &&& Int32.toUInt32 31)).toInt32 &&& 1431655765)) >>> (Int32.toUInt32 2 &&& Int32.toUInt32 31)).toInt32 &&& 858993459)) >>> (Int32.toUInt32 4 &&& Int32.toUInt32 31)).toInt32) &&& 252645135) + (Int32.toUInt32 (((((x - ((Int32.toUInt32 x >>> (Int32.toUInt32 1 &&& Int32.toUInt32 31)).toInt32 &&& 1431655765)) &&& 858993459) + ((Int32.toUInt32 (x - ((Int32.toUInt32 x >>> (Int32.toUInt32 1 &&& Int32.toUInt32 31)).toInt32 &&& 1431655765)) >>> (Int32.toUInt32 2 &&& Int32.toUInt32 31)).toInt32 &&& 858993459)) + (Int32.toUInt32 (((x - ((Int32.toUInt32 x >>> (Int32.toUInt32 1 &&& Int32.toUInt32 31)).toInt32 &&& 1431655765)) &&& 858993459) + ((Int32.toUInt32 (x - ((Int32.toUInt32 x >>> (Int32.toUInt32 1 &&& Int32.toUInt32 31)).toInt32 &&& 1431655765)) >>> (Int32.toUInt32 2 &&& Int32.toUInt32 31)).toInt32 &&& 858993459)) >>> (Int32.toUInt32 4 &&& Int32.toUInt32 31)).toInt32) &&& 252645135) >>> (Int32.toUInt32 8 &&& Int32.toUInt32 31)).toInt32) + (Int32.toUInt32 ((((((x - ((Int32.toUInt32 x >>> (Int32.toUInt32 1 &&& Int32.toUInt32 31)).toInt32 &&& 1431655765)) &&& 858993459) + ((Int32.toUInt32 (x - ((Int32.toUInt32 x >>> (Int32.toUInt32 1 &&& Int32.toUInt32 31)).toInt32 &&& 1431655765)) >>> (Int32.toUInt32 2 &&& Int32.toUInt32 31)).toInt32 &&& 858993459)) + (Int32.toUInt32 (((x - ((Int32.toUInt32 x >>> (Int32.toUInt32 1 &&& Int32.toUInt32 31)).toInt32 &&& 1431655765)) &&& 858993459) + ((Int32.toUInt32 (x - ((Int32.toUInt32 x >>> (Int32.toUInt32 1 &&& Int32.toUInt32 31)).toInt32 &&& 1431655765)) >>> (Int32.toUInt32 2 &&& Int32.toUInt32 31)).toInt32 &&& 858993459)) >>> (Int32.toUInt32 4 &&& Int32.toUInt32 31)).toInt32) &&& 252645135) + (Int32.toUInt32 (((((x - ((Int32.toUInt32 x >>> (Int32.toUInt32 1 &&& Int32.toUInt32 31)).toInt32 &&& 1431655765)) &&& 858993459) + ((Int32.toUInt32 (x - ((Int32.toUInt32 x >>> (Int32.toUInt32 1 &&& Int32.toUInt32 31)).toInt32 &&& 1431655765)) >>> (Int32.toUInt32 2 &&& Int32.toUInt32 31)).toInt32 &&& 858993459)) + (Int32.toUInt32 (((x - ((Int32.toUInt32 x >>> (Int32.toUInt32 1 &&& Int32.toUInt32 31)).toInt32 &&& 1431655765)) &&& 858993459) + ((Int32.toUInt32 (x - ((Int32.toUInt32 x >>> (Int32.toUInt32 1 &&& Int32.toUInt32 31)).toInt32 &&& 1431655765)) >>> (Int32.toUInt32 2 &&& Int32.toUInt32 31)).toInt32 &&& 858993459)) >>> (Int32.toUInt32 4 &&& Int32.toUInt32 31)).toInt32) &&& 252645135) >>> (Int32.toUInt32 8 &&& Int32.toUInt32 31)).toInt32) >>> (Int32.toUInt32 16 &&& Int32.toUInt32 31)).toInt32) &&& 63))) σ
  exact hK
set_option maxRecDepth 8000 in
set_option maxHeartbeats 4000000 in
theorem badd_ok {d : Nat} {σ : zSt} {K : Option Value → zSt → Prop} (hI : zQI (kR 24 26) σ.2.2) (hK : K none (zuI (zuI σ 24 1 (σ.1 24 1 ||| (1 <<< (σ.1 24 2 &&& 31)))) 24 2 (σ.1 24 2 + 1))) : zSp (d + 1) mX0_add [.ref 24] σ K := by
  refine ⟨⟨by decide, Nat.le_of_ble_eq_true rfl⟩, fun V hV => ?_⟩
  refine zq (σ := σ) hV hI rfl 16 ?_
  show K none (zuI (zuI σ 24 1 ((σ.1 24 1) ||| (1 <<< ((σ.1 24 2) &&& 31)))) 24 2 ((σ.1 24 2) + 1))
  exact hK
set_option maxRecDepth 8000 in
set_option maxHeartbeats 4000000 in
theorem blay_ok {d : Nat} {σ : zSt} {K : Option Value → zSt → Prop} {a b : Int32} {j : Nat} (hI : zQI (kR 24 26) σ.2.2) (eb : b = nI j) (hj : j < 12) (hK : K none (zuI σ 25 j (σ.1 25 j ||| (1 <<< (a &&& 31))))) : zSp (d + 2) mX0_lay [.ref 24, .int a, .int b] σ K := by
  refine ⟨⟨by decide, Nat.le_of_ble_eq_true rfl⟩, fun V hV => ?_⟩
  subst eb
  refine zq (σ := σ) hV hI rfl 7 ?_
  show zSp _ 128 [.ref 25, .int (nI j)] σ (fun r σ' => σ'.2.2.2 = σ.2.2.2 + zAl 128 → V 13 [(0, .ref 24), (1, .int a), (2, .int (nI j))] (r.toList ++ [.int (nI j), .ref 25]) σ')
  refine item_25 (zA_of hI rfl) rfl (by omega) (fun _ => ?_)
  refine zq (σ := σ) hV hI rfl 5 ?_
  show zSp _ 129 [.ref 25, .int (nI j), .int ((σ.1 25 j) ||| (1 <<< (a &&& 31)))] σ (fun r σ' => σ'.2.2.2 = σ.2.2.2 + zAl 129 → V 20 [(0, .ref 24), (1, .int a), (2, .int (nI j))] (r.toList ++ []) σ')
  refine setItem_25 (zA_of hI rfl) rfl (by omega) (fun _ => ?_)
  refine zq (σ := (zuI σ 25 j ((σ.1 25 j) ||| (1 <<< (a &&& 31))))) hV hI rfl 1 ?_
  show K none (zuI σ 25 j ((σ.1 25 j) ||| (1 <<< (a &&& 31))))
  exact hK
set_option maxRecDepth 8000 in
set_option maxHeartbeats 4000000 in
theorem isInside_ok {d : Nat} {σ : zSt} {K : Option Value → zSt → Prop} {a : Int32} (hI : zQI (kR 24 26) σ.2.2) (h1 : zBit (σ.1 24 1) a → K (some (.int 1)) σ) (h0 : ¬ zBit (σ.1 24 1) a → K (some (.int 0)) σ) : zSp (d + 1) mX0_isInside [.ref 24, .int a] σ K := by
  refine ⟨⟨by decide, Nat.le_of_ble_eq_true rfl⟩, fun V hV => ?_⟩
  refine zq (σ := σ) hV hI rfl 7 ?_
  show ((((σ.1 24 1) >>> (a &&& 31)) &&& 1) = 0 → V 15 [(0, .ref 24), (1, .int a)] [] σ) ∧ (¬ (((σ.1 24 1) >>> (a &&& 31)) &&& 1) = 0 → V 11 [(0, .ref 24), (1, .int a)] [] σ)
  refine ⟨fun h_8 => ?_, fun h_8 => ?_⟩
  · skip
    refine zq (σ := σ) hV hI rfl 2 ?_
    show ((0 : Int32) = 0 ∨ (0 : Int32) = 1) ∧ K (some (.int 0)) σ
    refine ⟨by decide, ?_⟩
    exact h0 (fun q => q h_8)
  · skip
    refine zq (σ := σ) hV hI rfl 3 ?_
    show ((1 : Int32) = 0 ∨ (1 : Int32) = 1) ∧ K (some (.int 1)) σ
    refine ⟨by decide, ?_⟩
    exact h1 h_8
set_option maxRecDepth 8000 in
set_option maxHeartbeats 4000000 in
theorem isCovered_ok {d : Nat} {σ : zSt} {K : Option Value → zSt → Prop} {a : Int32} {k : Nat} (hI : zQI (kR 24 26) σ.2.2) (e : a = nI k) (hk : k < 12) (h1 : (¬ (σ.1 25 k &&& σ.1 24 1) = 0) → K (some (.int 1)) σ) (h0 : ¬ (¬ (σ.1 25 k &&& σ.1 24 1) = 0) → K (some (.int 0)) σ) : zSp (d + 2) mX0_isCovered [.ref 24, .int a] σ K := by
  refine ⟨⟨by decide, Nat.le_of_ble_eq_true rfl⟩, fun V hV => ?_⟩
  subst e
  refine zq (σ := σ) hV hI rfl 4 ?_
  show zSp _ 128 [.ref 25, .int (nI k)] σ (fun r σ' => σ'.2.2.2 = σ.2.2.2 + zAl 128 → V 8 [(0, .ref 24), (1, .int (nI k))] (r.toList ++ []) σ')
  refine item_25 (zA_of hI rfl) rfl (by omega) (fun _ => ?_)
  refine zq (σ := σ) hV hI rfl 4 ?_
  show (((σ.1 25 k) &&& (σ.1 24 1)) = 0 → V 20 [(0, .ref 24), (1, .int (nI k))] [] σ) ∧ (¬ ((σ.1 25 k) &&& (σ.1 24 1)) = 0 → V 16 [(0, .ref 24), (1, .int (nI k))] [] σ)
  refine ⟨fun h_13 => ?_, fun h_13 => ?_⟩
  · skip
    refine zq (σ := σ) hV hI rfl 2 ?_
    show ((0 : Int32) = 0 ∨ (0 : Int32) = 1) ∧ K (some (.int 0)) σ
    refine ⟨by decide, ?_⟩
    exact h0 (fun q => q h_13)
  · skip
    refine zq (σ := σ) hV hI rfl 3 ?_
    show ((1 : Int32) = 0 ∨ (1 : Int32) = 1) ∧ K (some (.int 1)) σ
    refine ⟨by decide, ?_⟩
    exact h1 h_13
set_option maxRecDepth 8000 in
set_option maxHeartbeats 4000000 in
theorem bremove_ok {d : Nat} {σ : zSt} {K : Option Value → zSt → Prop} {a : Int32} (hI : zQI (kR 24 26) σ.2.2) (hK : K none (zuI σ 24 1 (σ.1 24 1 &&& ((1 <<< (a &&& 31)) ^^^ (-1))))) : zSp (d + 1) mX0_remove [.ref 24, .int a] σ K := by
  refine ⟨⟨by decide, Nat.le_of_ble_eq_true rfl⟩, fun V hV => ?_⟩
  refine zq (σ := σ) hV hI rfl 11 ?_
  show K none (zuI σ 24 1 ((σ.1 24 1) &&& ((1 <<< (a &&& 31)) ^^^ (-1))))
  exact hK
set_option maxRecDepth 8000 in
set_option maxHeartbeats 4000000 in
theorem bsize_ok {d : Nat} {σ : zSt} {K : Option Value → zSt → Prop} (hI : zQI (kR 24 26) σ.2.2) (hK : K (some (.int (zBc (σ.1 24 1)))) σ) : zSp (d + 2) mX0_size [.ref 24] σ K := by
  refine ⟨⟨by decide, Nat.le_of_ble_eq_true rfl⟩, fun V hV => ?_⟩
  refine zq (σ := σ) hV hI rfl 3 ?_
  show zSp _ 196 [.int (σ.1 24 1)] σ (fun r σ' => σ'.2.2.2 = σ.2.2.2 + zAl 196 → V 7 [(0, .ref 24)] (r.toList ++ []) σ')
  refine bits_ok  (fun _ => ?_)
  refine zq (σ := σ) hV hI rfl 1 ?_
  show K (some (.int (zBc (σ.1 24 1)))) σ
  exact hK
set_option maxRecDepth 8000 in
set_option maxHeartbeats 4000000 in
theorem stuckBits_ok {d : Nat} {σ : zSt} {K : Option Value → zSt → Prop} {n : Nat} (hI : zQI (kR 24 26) σ.2.2) (hs : σ.1 24 2 = nI n) (hn : n ≤ 12) (hK : K (some (.int (zStk (σ.1 25) n (σ.1 24 1)))) σ) : zSp (d + 2) mX0_stuckBits [.ref 24] σ K := by
  refine ⟨⟨by decide, Nat.le_of_ble_eq_true rfl⟩, fun V hV => ?_⟩
  refine zq (σ := σ) hV hI rfl 5 ?_
  show V 7 [(2, .int 0), (1, .int (σ.1 24 1)), (0, .ref 24)] [] σ
  refine zwk hV [2, 1, 0] rfl ?_
  have Hi : ∀ (r : Nat) (i : Nat) (x : Int32), i + r = n → zBr (σ.1 25) n r x = zStk (σ.1 25) n (σ.1 24 1) → V 7 [(0, .ref 24), (1, .int x), (2, .int (nI i))] [] σ := by
    intro r
    induction r with
    | zero =>
      intro i x hin hfin
      refine zq (σ := σ) hV hI rfl 4 ?_
      show ((σ.1 24 2) ≤ (nI i) → V 58 [(0, .ref 24), (1, .int x), (2, .int (nI i))] [] σ) ∧ (¬ (σ.1 24 2) ≤ (nI i) → V 15 [(0, .ref 24), (1, .int x), (2, .int (nI i))] [] σ)
      refine ⟨fun _ => ?_, fun hc => absurd (show (σ.1 24 2) ≤ nI i by rw [hs]; exact zge_self (by omega)) hc⟩
      refine zq (σ := σ) hV hI rfl 2 ?_
      show K (some (.int x)) σ
      replace hfin : x = _ := hfin
      rw [hfin]
      exact hK
    | succ r ihi =>
      intro i x hin hfin
      refine zq (σ := σ) hV hI rfl 4 ?_
      show ((σ.1 24 2) ≤ (nI i) → V 58 [(0, .ref 24), (1, .int x), (2, .int (nI i))] [] σ) ∧ (¬ (σ.1 24 2) ≤ (nI i) → V 15 [(0, .ref 24), (1, .int x), (2, .int (nI i))] [] σ)
      refine ⟨fun hc => absurd hc (show ¬ (σ.1 24 2) ≤ nI i by rw [hs]; exact nI_ge (by omega) (by omega)), fun _ => ?_⟩
      refine zq (σ := σ) hV hI rfl 2 ?_
      show V 17 [(3, .int 0), (0, .ref 24), (1, .int x), (2, .int (nI i))] [] σ
      refine zwk hV [1, 2, 3, 0] rfl ?_
      have Hj : ∀ (r : Nat) (j : Nat) (y : Int32), j + r = n → zBj (σ.1 25) r j y = zBj (σ.1 25) n 0 x → V 17 [(0, .ref 24), (1, .int y), (2, .int (nI i)), (3, .int (nI j))] [] σ := by
        intro r
        induction r with
        | zero =>
          intro j y hjn hend
          replace hend : y = zBj (σ.1 25) n 0 x := hend
          refine zq (σ := σ) hV hI rfl 4 ?_
          show ((σ.1 24 2) ≤ (nI j) → V 52 [(0, .ref 24), (1, .int y), (2, .int (nI i)), (3, .int (nI j))] [] σ) ∧ (¬ (σ.1 24 2) ≤ (nI j) → V 25 [(0, .ref 24), (1, .int y), (2, .int (nI i)), (3, .int (nI j))] [] σ)
          refine ⟨fun _ => ?_, fun hc => absurd (show (σ.1 24 2) ≤ nI j by rw [hs]; exact zge_self (by omega)) hc⟩
          refine zq (σ := σ) hV hI rfl 2 ?_
          show V 7 [(2, .int ((nI i) + 1)), (0, .ref 24), (1, .int y), (3, .int (nI j))] [] σ
          refine zwk hV [1, 2, 0] rfl ?_
          rw [nI_1]
          exact ihi (i + 1) _ (by omega) (by rw [← hfin, hend]; rfl)
        | succ r ihj =>
          intro j y hjn hend
          refine zq (σ := σ) hV hI rfl 4 ?_
          show ((σ.1 24 2) ≤ (nI j) → V 52 [(0, .ref 24), (1, .int y), (2, .int (nI i)), (3, .int (nI j))] [] σ) ∧ (¬ (σ.1 24 2) ≤ (nI j) → V 25 [(0, .ref 24), (1, .int y), (2, .int (nI i)), (3, .int (nI j))] [] σ)
          refine ⟨fun hc => absurd hc (show ¬ (σ.1 24 2) ≤ nI j by rw [hs]; exact nI_ge (by omega) (by omega)), fun _ => ?_⟩
          refine zq (σ := σ) hV hI rfl 4 ?_
          show zSp _ 128 [.ref 25, .int (nI j)] σ (fun r σ' => σ'.2.2.2 = σ.2.2.2 + zAl 128 → V 33 [(0, .ref 24), (1, .int y), (2, .int (nI i)), (3, .int (nI j))] (r.toList ++ []) σ')
          refine item_25 (zA_of hI rfl) rfl (by omega) (fun _ => ?_)
          refine zq (σ := σ) hV hI rfl 3 ?_
          show (¬ ((σ.1 25 j) &&& y) = 0 → V 46 [(0, .ref 24), (1, .int y), (2, .int (nI i)), (3, .int (nI j))] [] σ) ∧ (¬ (¬ ((σ.1 25 j) &&& y) = 0) → V 38 [(0, .ref 24), (1, .int y), (2, .int (nI i)), (3, .int (nI j))] [] σ)
          refine ⟨fun h_35 => ?_, fun h_35 => ?_⟩
          · skip
            refine zq (σ := σ) hV hI rfl 2 ?_
            show V 17 [(3, .int ((nI j) + 1)), (0, .ref 24), (1, .int y), (2, .int (nI i))] [] σ
            refine zwk hV [1, 2, 3, 0] rfl ?_
            rw [nI_1]
            refine ihj (j + 1) _ (by omega) ?_
            rw [← hend]
            show zBj (σ.1 25) r (j + 1) _ = zBj (σ.1 25) r (j + 1) (zBx (σ.1 25) y j)
            unfold zBx
            first | rw [if_pos h_35] | rw [if_neg h_35]
          · skip
            have h_35 := Classical.not_not.mp h_35
            refine zq (σ := σ) hV hI rfl 10 ?_
            show V 17 [(3, .int ((nI j) + 1)), (1, .int (y &&& ((1 <<< ((nI j) &&& 31)) ^^^ (-1)))), (0, .ref 24), (2, .int (nI i))] [] σ
            refine zwk hV [2, 1, 3, 0] rfl ?_
            rw [nI_1]
            refine ihj (j + 1) _ (by omega) ?_
            rw [← hend]
            show zBj (σ.1 25) r (j + 1) _ = zBj (σ.1 25) r (j + 1) (zBx (σ.1 25) y j)
            unfold zBx
            first | rw [if_pos h_35] | rw [if_neg h_35]
      exact Hj n 0 _ (by omega) rfl
  exact Hi n 0 _ (by omega) rfl
set_option maxRecDepth 8000 in
set_option maxHeartbeats 4000000 in
theorem withAllAbove_ok {d : Nat} {σ : zSt} {K : Option Value → zSt → Prop} {a : Int32} {n : Nat} (hI : zQI (kR 24 26) σ.2.2) (hs : σ.1 24 2 = nI n) (hn : n ≤ 12) (hK : K (some (.int (zAll (σ.1 25) n (σ.1 24 1) a))) σ) : zSp (d + 2) mX0_withAllAbove [.ref 24, .int a] σ K := by
  refine ⟨⟨by decide, Nat.le_of_ble_eq_true rfl⟩, fun V hV => ?_⟩
  refine zq (σ := σ) hV hI rfl 6 ?_
  show V 6 [(3, .int 0), (2, .int (1 <<< (a &&& 31))), (0, .ref 24), (1, .int a)] [] σ
  refine zwk hV [2, 3, 1, 0] rfl ?_
  have Hi : ∀ (r : Nat) (i : Nat) (x : Int32), i + r = n → zUr (σ.1 25) (σ.1 24 1) n r x = zAll (σ.1 25) n (σ.1 24 1) a → V 6 [(0, .ref 24), (1, .int a), (2, .int x), (3, .int (nI i))] [] σ := by
    intro r
    induction r with
    | zero =>
      intro i x hin hfin
      refine zq (σ := σ) hV hI rfl 4 ?_
      show ((σ.1 24 2) ≤ (nI i) → V 64 [(0, .ref 24), (1, .int a), (2, .int x), (3, .int (nI i))] [] σ) ∧ (¬ (σ.1 24 2) ≤ (nI i) → V 14 [(0, .ref 24), (1, .int a), (2, .int x), (3, .int (nI i))] [] σ)
      refine ⟨fun _ => ?_, fun hc => absurd (show (σ.1 24 2) ≤ nI i by rw [hs]; exact zge_self (by omega)) hc⟩
      refine zq (σ := σ) hV hI rfl 2 ?_
      show K (some (.int x)) σ
      replace hfin : x = _ := hfin
      rw [hfin]
      exact hK
    | succ r ihi =>
      intro i x hin hfin
      refine zq (σ := σ) hV hI rfl 4 ?_
      show ((σ.1 24 2) ≤ (nI i) → V 64 [(0, .ref 24), (1, .int a), (2, .int x), (3, .int (nI i))] [] σ) ∧ (¬ (σ.1 24 2) ≤ (nI i) → V 14 [(0, .ref 24), (1, .int a), (2, .int x), (3, .int (nI i))] [] σ)
      refine ⟨fun hc => absurd hc (show ¬ (σ.1 24 2) ≤ nI i by rw [hs]; exact nI_ge (by omega) (by omega)), fun _ => ?_⟩
      refine zq (σ := σ) hV hI rfl 2 ?_
      show V 17 [(4, .int 0), (0, .ref 24), (1, .int a), (2, .int x), (3, .int (nI i))] [] σ
      refine zwk hV [1, 2, 3, 4, 0] rfl ?_
      have Hj : ∀ (r : Nat) (j : Nat) (y : Int32), j + r = n → zUj (σ.1 25) (σ.1 24 1) r j y = zUj (σ.1 25) (σ.1 24 1) n 0 x → V 17 [(0, .ref 24), (1, .int a), (2, .int y), (3, .int (nI i)), (4, .int (nI j))] [] σ := by
        intro r
        induction r with
        | zero =>
          intro j y hjn hend
          replace hend : y = zUj (σ.1 25) (σ.1 24 1) n 0 x := hend
          refine zq (σ := σ) hV hI rfl 4 ?_
          show ((σ.1 24 2) ≤ (nI j) → V 58 [(0, .ref 24), (1, .int a), (2, .int y), (3, .int (nI i)), (4, .int (nI j))] [] σ) ∧ (¬ (σ.1 24 2) ≤ (nI j) → V 26 [(0, .ref 24), (1, .int a), (2, .int y), (3, .int (nI i)), (4, .int (nI j))] [] σ)
          refine ⟨fun _ => ?_, fun hc => absurd (show (σ.1 24 2) ≤ nI j by rw [hs]; exact zge_self (by omega)) hc⟩
          refine zq (σ := σ) hV hI rfl 2 ?_
          show V 6 [(3, .int ((nI i) + 1)), (0, .ref 24), (1, .int a), (2, .int y), (4, .int (nI j))] [] σ
          refine zwk hV [1, 2, 3, 0] rfl ?_
          rw [nI_1]
          exact ihi (i + 1) _ (by omega) (by rw [← hfin, hend]; rfl)
        | succ r ihj =>
          intro j y hjn hend
          refine zq (σ := σ) hV hI rfl 4 ?_
          show ((σ.1 24 2) ≤ (nI j) → V 58 [(0, .ref 24), (1, .int a), (2, .int y), (3, .int (nI i)), (4, .int (nI j))] [] σ) ∧ (¬ (σ.1 24 2) ≤ (nI j) → V 26 [(0, .ref 24), (1, .int a), (2, .int y), (3, .int (nI i)), (4, .int (nI j))] [] σ)
          refine ⟨fun hc => absurd hc (show ¬ (σ.1 24 2) ≤ nI j by rw [hs]; exact nI_ge (by omega) (by omega)), fun _ => ?_⟩
          refine zq (σ := σ) hV hI rfl 6 ?_
          show (((y >>> ((nI j) &&& 31)) &&& 1) = 0 → V 52 [(0, .ref 24), (1, .int a), (2, .int y), (3, .int (nI i)), (4, .int (nI j))] [] σ) ∧ (¬ ((y >>> ((nI j) &&& 31)) &&& 1) = 0 → V 35 [(0, .ref 24), (1, .int a), (2, .int y), (3, .int (nI i)), (4, .int (nI j))] [] σ)
          refine ⟨fun h_32 => ?_, fun h_32 => ?_⟩
          · skip
            refine zq (σ := σ) hV hI rfl 2 ?_
            show V 17 [(4, .int ((nI j) + 1)), (0, .ref 24), (1, .int a), (2, .int y), (3, .int (nI i))] [] σ
            refine zwk hV [1, 2, 3, 4, 0] rfl ?_
            rw [nI_1]
            refine ihj (j + 1) _ (by omega) ?_
            rw [← hend]
            show zUj (σ.1 25) (σ.1 24 1) r (j + 1) _ = zUj (σ.1 25) (σ.1 24 1) r (j + 1) (zUx (σ.1 25) (σ.1 24 1) y j)
            unfold zUx
            first | rw [if_pos h_32] | rw [if_neg h_32]
          · skip
            refine zq (σ := σ) hV hI rfl 5 ?_
            show zSp _ 128 [.ref 25, .int (nI j)] σ (fun r σ' => σ'.2.2.2 = σ.2.2.2 + zAl 128 → V 45 [(0, .ref 24), (1, .int a), (2, .int y), (3, .int (nI i)), (4, .int (nI j))] (r.toList ++ [.int y]) σ')
            refine item_25 (zA_of hI rfl) rfl (by omega) (fun _ => ?_)
            refine zq (σ := σ) hV hI rfl 7 ?_
            show V 17 [(4, .int ((nI j) + 1)), (2, .int (y ||| ((σ.1 25 j) &&& (σ.1 24 1)))), (0, .ref 24), (1, .int a), (3, .int (nI i))] [] σ
            refine zwk hV [2, 3, 1, 4, 0] rfl ?_
            rw [nI_1]
            refine ihj (j + 1) _ (by omega) ?_
            rw [← hend]
            show zUj (σ.1 25) (σ.1 24 1) r (j + 1) _ = zUj (σ.1 25) (σ.1 24 1) r (j + 1) (zUx (σ.1 25) (σ.1 24 1) y j)
            unfold zUx
            first | rw [if_pos h_32] | rw [if_neg h_32]
      exact Hj n 0 _ (by omega) rfl
  exact Hi n 0 _ (by omega) rfl
set_option maxRecDepth 8000 in
set_option maxHeartbeats 4000000 in
theorem drop_C {d : Nat} {σ : zSt} {K : Option Value → zSt → Prop} {m : Nat} (hI : zQI (kR 0 30) σ.2.2) (hs : σ.1 24 2 = nI m) (hm : m ≤ 12) (hFull : m = 12 → K (some (.int (-4))) σ) (hOk : m < 12 → K (some (.int (nI m))) (zuI (zuI σ 24 1 (σ.1 24 1 ||| (1 <<< (nI m &&& 31)))) 24 2 (nI (m + 1)))) : zSp (d + 2) mX8_drop [.ref 0] σ K := by
  refine ⟨⟨by decide, Nat.le_of_ble_eq_true rfl⟩, fun V hV => ?_⟩
  have hmi := nI_toInt (show m < 2 ^ 31 by omega)
  refine zq (σ := σ) hV hI rfl 3 ?_
  show zSp _ 1 [.ref 24] σ (fun r σ' => σ'.2.2.2 = σ.2.2.2 + zAl 1 → V 7 [(0, .ref 0)] (r.toList ++ []) σ')
  refine bdropped_ok (zR_of hI rfl rfl) (fun _ => ?_)
  refine zq (σ := σ) hV hI rfl 2 ?_
  show ((σ.1 24 2) < 12 → V 15 [(0, .ref 0)] [] σ) ∧ (¬ (σ.1 24 2) < 12 → V 12 [(0, .ref 0)] [] σ)
  refine ⟨fun h_9 => ?_, fun h_9 => ?_⟩
  · skip
    refine zq (σ := σ) hV hI rfl 3 ?_
    show zSp _ 3 [.ref 24] σ (fun r σ' => σ'.2.2.2 = σ.2.2.2 + zAl 3 → V 22 [(0, .ref 0)] (r.toList ++ []) σ')
    refine badd_ok (zR_of hI rfl rfl) (fun _ => ?_)
    refine zq (σ := (zuI (zuI σ 24 1 (σ.1 24 1 ||| (1 <<< (σ.1 24 2 &&& 31)))) 24 2 (σ.1 24 2 + 1))) hV hI rfl 3 ?_
    show zSp _ 1 [.ref 24] (zuI (zuI σ 24 1 (σ.1 24 1 ||| (1 <<< (σ.1 24 2 &&& 31)))) 24 2 (σ.1 24 2 + 1)) (fun r σ' => σ'.2.2.2 = (zuI (zuI σ 24 1 (σ.1 24 1 ||| (1 <<< (σ.1 24 2 &&& 31)))) 24 2 (σ.1 24 2 + 1)).2.2.2 + zAl 1 → V 29 [(0, .ref 0)] (r.toList ++ []) σ')
    refine bdropped_ok (zR_of hI rfl rfl) (fun _ => ?_)
    refine zq (σ := (zuI (zuI σ 24 1 (σ.1 24 1 ||| (1 <<< (σ.1 24 2 &&& 31)))) 24 2 (σ.1 24 2 + 1))) hV hI rfl 3 ?_
    show K (some (.int ((σ.1 24 2 + 1) - 1))) (zuI (zuI σ 24 1 (σ.1 24 1 ||| (1 <<< (σ.1 24 2 &&& 31)))) 24 2 (σ.1 24 2 + 1))
    have hcap : m < 12 := by
      simp only [zlt, hs, hmi] at h_9
      simp at h_9
      omega
    rw [hs, nI_1, nI_pred]
    exact hOk hcap
  · skip
    refine zq (σ := σ) hV hI rfl 2 ?_
    show K (some (.int (-4))) σ
    refine hFull ?_
    simp only [zlt, hs, hmi] at h_9
    simp at h_9
    omega
set_option maxRecDepth 8000 in
set_option maxHeartbeats 4000000 in
theorem on_C {d : Nat} {σ : zSt} {K : Option Value → zSt → Prop} {a b : Int32} {m : Nat} (hI : zQI (kR 0 30) σ.2.2) (hs : σ.1 24 2 = nI m) (hm : m ≤ 12) (hBad : ¬ (zBt 0 (m - 1) a ∧ zBt 0 (m - 1) b ∧ ¬ a = b) → K (some (.int (-2))) σ) (hOk : ∀ j, b = nI j → j < m → (zBt 0 (m - 1) a ∧ zBt 0 (m - 1) b ∧ ¬ a = b) → K (some (.int 1)) (zuI σ 25 j (σ.1 25 j ||| (1 <<< (a &&& 31))))) : zSp (d + 3) mX8_on [.ref 0, .int a, .int b] σ K := by
  refine ⟨⟨by decide, Nat.le_of_ble_eq_true rfl⟩, fun V hV => ?_⟩
  refine zq (σ := σ) hV hI rfl 3 ?_
  show zSp _ 127 [.ref 0, .int a] σ (fun r σ' => σ'.2.2.2 = σ.2.2.2 + zAl 127 → V 5 [(0, .ref 0), (1, .int a), (2, .int b)] (r.toList ++ []) σ')
  refine isDropped_ok (zR_of hI rfl rfl) (by assumption) (by omega) (fun hb1 _ => ?_) (fun hb1 _ => ?_)
  · skip
    refine zq (σ := σ) hV hI rfl 1 ?_
    show ((1 : Int32) = 0 → V 21 [(0, .ref 0), (1, .int a), (2, .int b)] [] σ) ∧ (¬ (1 : Int32) = 0 → V 8 [(0, .ref 0), (1, .int a), (2, .int b)] [] σ)
    refine ⟨fun hc => absurd hc (by decide), fun _ => ?_⟩
    refine zq (σ := σ) hV hI rfl 3 ?_
    show zSp _ 127 [.ref 0, .int b] σ (fun r σ' => σ'.2.2.2 = σ.2.2.2 + zAl 127 → V 13 [(0, .ref 0), (1, .int a), (2, .int b)] (r.toList ++ []) σ')
    refine isDropped_ok (zR_of hI rfl rfl) (by assumption) (by omega) (fun hb2 _ => ?_) (fun hb2 _ => ?_)
    · skip
      refine zq (σ := σ) hV hI rfl 1 ?_
      show ((1 : Int32) = 0 → V 21 [(0, .ref 0), (1, .int a), (2, .int b)] [] σ) ∧ (¬ (1 : Int32) = 0 → V 16 [(0, .ref 0), (1, .int a), (2, .int b)] [] σ)
      refine ⟨fun hc => absurd hc (by decide), fun _ => ?_⟩
      refine zq (σ := σ) hV hI rfl 3 ?_
      show (¬ a = b → V 24 [(0, .ref 0), (1, .int a), (2, .int b)] [] σ) ∧ (¬ (¬ a = b) → V 21 [(0, .ref 0), (1, .int a), (2, .int b)] [] σ)
      refine ⟨fun h_18 => ?_, fun h_18 => ?_⟩
      · skip
        refine zq (σ := σ) hV hI rfl 5 ?_
        show zSp _ 4 [.ref 24, .int a, .int b] σ (fun r σ' => σ'.2.2.2 = σ.2.2.2 + zAl 4 → V 33 [(0, .ref 0), (1, .int a), (2, .int b)] (r.toList ++ []) σ')
        obtain ⟨j, hj, hj2, _⟩ := zNat (x := b) (by unfold zBt at hb2; omega)
        have hjm : j < m := by unfold zBt at hb2; omega
        refine blay_ok (zR_of hI rfl rfl) hj (by omega) (fun _ => ?_)
        refine zq (σ := (zuI σ 25 j (σ.1 25 j ||| (1 <<< (a &&& 31))))) hV hI rfl 2 ?_
        show K (some (.int 1)) (zuI σ 25 j (σ.1 25 j ||| (1 <<< (a &&& 31))))
        exact hOk j hj hjm ⟨hb1, hb2, h_18⟩
      · skip
        have h_18 := Classical.not_not.mp h_18
        refine zq (σ := σ) hV hI rfl 2 ?_
        show K (some (.int (-2))) σ
        exact hBad (fun q => q.2.2 h_18)
    · skip
      refine zq (σ := σ) hV hI rfl 1 ?_
      show ((0 : Int32) = 0 → V 21 [(0, .ref 0), (1, .int a), (2, .int b)] [] σ) ∧ (¬ (0 : Int32) = 0 → V 16 [(0, .ref 0), (1, .int a), (2, .int b)] [] σ)
      refine ⟨fun _ => ?_, fun hc => absurd (by decide) hc⟩
      refine zq (σ := σ) hV hI rfl 2 ?_
      show K (some (.int (-2))) σ
      exact hBad (fun q => hb2 q.2.1)
  · skip
    refine zq (σ := σ) hV hI rfl 1 ?_
    show ((0 : Int32) = 0 → V 21 [(0, .ref 0), (1, .int a), (2, .int b)] [] σ) ∧ (¬ (0 : Int32) = 0 → V 8 [(0, .ref 0), (1, .int a), (2, .int b)] [] σ)
    refine ⟨fun _ => ?_, fun hc => absurd (by decide) hc⟩
    refine zq (σ := σ) hV hI rfl 2 ?_
    show K (some (.int (-2))) σ
    exact hBad (fun q => hb1 q.1)
set_option maxRecDepth 8000 in
set_option maxHeartbeats 4000000 in
theorem pick_C {d : Nat} {σ : zSt} {K : Option Value → zSt → Prop} {a : Int32} {m : Nat} (hI : zQI (kR 0 30) σ.2.2) (hs : σ.1 24 2 = nI m) (hm : m ≤ 12) (hBad : ¬ zBt 0 (m - 1) a → K (some (.int (-2))) σ) (hNot : zBt 0 (m - 1) a → ¬ (zBit (σ.1 24 1) a ∧ ∀ j, a = nI j → (σ.1 25 j &&& σ.1 24 1) = 0) → K (some (.int (-3))) σ) (hOk : ∀ j, a = nI j → j < m → zBt 0 (m - 1) a → zBit (σ.1 24 1) a → (σ.1 25 j &&& σ.1 24 1) = 0 → K (some (.int 1)) (zuI σ 24 1 (σ.1 24 1 &&& ((1 <<< (a &&& 31)) ^^^ (-1))))) : zSp (d + 3) mX8_pick [.ref 0, .int a] σ K := by
  refine ⟨⟨by decide, Nat.le_of_ble_eq_true rfl⟩, fun V hV => ?_⟩
  refine zq (σ := σ) hV hI rfl 3 ?_
  show zSp _ 127 [.ref 0, .int a] σ (fun r σ' => σ'.2.2.2 = σ.2.2.2 + zAl 127 → V 5 [(0, .ref 0), (1, .int a)] (r.toList ++ []) σ')
  refine isDropped_ok (zR_of hI rfl rfl) (by assumption) (by omega) (fun hb1 _ => ?_) (fun hb1 _ => ?_)
  · skip
    refine zq (σ := σ) hV hI rfl 1 ?_
    show (¬ (1 : Int32) = 0 → V 11 [(0, .ref 0), (1, .int a)] [] σ) ∧ (¬ (¬ (1 : Int32) = 0) → V 8 [(0, .ref 0), (1, .int a)] [] σ)
    refine ⟨fun _ => ?_, fun hc => absurd (by decide) hc⟩
    refine zq (σ := σ) hV hI rfl 4 ?_
    show zSp _ 5 [.ref 24, .int a] σ (fun r σ' => σ'.2.2.2 = σ.2.2.2 + zAl 5 → V 19 [(0, .ref 0), (1, .int a)] (r.toList ++ []) σ')
    refine isInside_ok (zR_of hI rfl rfl)  (fun hb2 _ => ?_) (fun hb2 _ => ?_)
    · skip
      refine zq (σ := σ) hV hI rfl 1 ?_
      show ((1 : Int32) = 0 → V 33 [(0, .ref 0), (1, .int a)] [] σ) ∧ (¬ (1 : Int32) = 0 → V 22 [(0, .ref 0), (1, .int a)] [] σ)
      refine ⟨fun hc => absurd hc (by decide), fun _ => ?_⟩
      refine zq (σ := σ) hV hI rfl 4 ?_
      show zSp _ 6 [.ref 24, .int a] σ (fun r σ' => σ'.2.2.2 = σ.2.2.2 + zAl 6 → V 30 [(0, .ref 0), (1, .int a)] (r.toList ++ []) σ')
      obtain ⟨j, hj, hj2, _⟩ := zNat (x := a) (by unfold zBt at hb1; omega)
      have hjm : j < m := by unfold zBt at hb1; omega
      refine isCovered_ok (zR_of hI rfl rfl) hj (by omega) (fun hb3 _ => ?_) (fun hb3 _ => ?_)
      · skip
        refine zq (σ := σ) hV hI rfl 1 ?_
        show ((1 : Int32) = 0 → V 36 [(0, .ref 0), (1, .int a)] [] σ) ∧ (¬ (1 : Int32) = 0 → V 33 [(0, .ref 0), (1, .int a)] [] σ)
        refine ⟨fun hc => absurd hc (by decide), fun _ => ?_⟩
        refine zq (σ := σ) hV hI rfl 2 ?_
        show K (some (.int (-3))) σ
        refine hNot hb1 (fun q => ?_)
        have q2 := q.2 j hj
        exact hb3 q2
      · skip
        refine zq (σ := σ) hV hI rfl 1 ?_
        show ((0 : Int32) = 0 → V 36 [(0, .ref 0), (1, .int a)] [] σ) ∧ (¬ (0 : Int32) = 0 → V 33 [(0, .ref 0), (1, .int a)] [] σ)
        refine ⟨fun _ => ?_, fun hc => absurd (by decide) hc⟩
        refine zq (σ := σ) hV hI rfl 4 ?_
        show zSp _ 7 [.ref 24, .int a] σ (fun r σ' => σ'.2.2.2 = σ.2.2.2 + zAl 7 → V 44 [(0, .ref 0), (1, .int a)] (r.toList ++ []) σ')
        refine bremove_ok (zR_of hI rfl rfl) (fun _ => ?_)
        refine zq (σ := (zuI σ 24 1 (σ.1 24 1 &&& ((1 <<< (a &&& 31)) ^^^ (-1))))) hV hI rfl 2 ?_
        show K (some (.int 1)) (zuI σ 24 1 (σ.1 24 1 &&& ((1 <<< (a &&& 31)) ^^^ (-1))))
        exact hOk j hj hjm hb1 hb2 (Classical.not_not.mp hb3)
    · skip
      refine zq (σ := σ) hV hI rfl 1 ?_
      show ((0 : Int32) = 0 → V 33 [(0, .ref 0), (1, .int a)] [] σ) ∧ (¬ (0 : Int32) = 0 → V 22 [(0, .ref 0), (1, .int a)] [] σ)
      refine ⟨fun _ => ?_, fun hc => absurd (by decide) hc⟩
      refine zq (σ := σ) hV hI rfl 2 ?_
      show K (some (.int (-3))) σ
      exact hNot hb1 (fun q => hb2 q.1)
  · skip
    refine zq (σ := σ) hV hI rfl 1 ?_
    show (¬ (0 : Int32) = 0 → V 11 [(0, .ref 0), (1, .int a)] [] σ) ∧ (¬ (¬ (0 : Int32) = 0) → V 8 [(0, .ref 0), (1, .int a)] [] σ)
    refine ⟨fun hc => absurd hc (by decide), fun _ => ?_⟩
    refine zq (σ := σ) hV hI rfl 2 ?_
    show K (some (.int (-2))) σ
    exact hBad hb1
set_option maxRecDepth 8000 in
set_option maxHeartbeats 4000000 in
theorem reach_C {d : Nat} {σ : zSt} {K : Option Value → zSt → Prop} {a : Int32} {m : Nat} (hI : zQI (kR 0 30) σ.2.2) (hs : σ.1 24 2 = nI m) (hm : m ≤ 12) (hBad : ¬ zBt 0 (m - 1) a → K (some (.int (-2))) σ) (hNot : zBt 0 (m - 1) a → ¬ zBit (σ.1 24 1) a → K (some (.int (-3))) σ) (hNone : zBt 0 (m - 1) a → zBit (σ.1 24 1) a → zBit (zStk (σ.1 25) m (σ.1 24 1)) a → K (some (.int (-1))) σ) (hOk : zBt 0 (m - 1) a → zBit (σ.1 24 1) a → ¬ zBit (zStk (σ.1 25) m (σ.1 24 1)) a → K (some (.int (zBc (zAll (σ.1 25) m (σ.1 24 1) a)))) σ) : zSp (d + 3) mX8_reach [.ref 0, .int a] σ K := by
  refine ⟨⟨by decide, Nat.le_of_ble_eq_true rfl⟩, fun V hV => ?_⟩
  refine zq (σ := σ) hV hI rfl 3 ?_
  show zSp _ 127 [.ref 0, .int a] σ (fun r σ' => σ'.2.2.2 = σ.2.2.2 + zAl 127 → V 5 [(0, .ref 0), (1, .int a)] (r.toList ++ []) σ')
  refine isDropped_ok (zR_of hI rfl rfl) (by assumption) (by omega) (fun hb1 _ => ?_) (fun hb1 _ => ?_)
  · skip
    refine zq (σ := σ) hV hI rfl 1 ?_
    show (¬ (1 : Int32) = 0 → V 11 [(0, .ref 0), (1, .int a)] [] σ) ∧ (¬ (¬ (1 : Int32) = 0) → V 8 [(0, .ref 0), (1, .int a)] [] σ)
    refine ⟨fun _ => ?_, fun hc => absurd (by decide) hc⟩
    refine zq (σ := σ) hV hI rfl 4 ?_
    show zSp _ 5 [.ref 24, .int a] σ (fun r σ' => σ'.2.2.2 = σ.2.2.2 + zAl 5 → V 19 [(0, .ref 0), (1, .int a)] (r.toList ++ []) σ')
    refine isInside_ok (zR_of hI rfl rfl)  (fun hb2 _ => ?_) (fun hb2 _ => ?_)
    · skip
      refine zq (σ := σ) hV hI rfl 1 ?_
      show (¬ (1 : Int32) = 0 → V 25 [(0, .ref 0), (1, .int a)] [] σ) ∧ (¬ (¬ (1 : Int32) = 0) → V 22 [(0, .ref 0), (1, .int a)] [] σ)
      refine ⟨fun _ => ?_, fun hc => absurd (by decide) hc⟩
      refine zq (σ := σ) hV hI rfl 3 ?_
      show zSp _ 8 [.ref 24] σ (fun r σ' => σ'.2.2.2 = σ.2.2.2 + zAl 8 → V 32 [(0, .ref 0), (1, .int a)] (r.toList ++ []) σ')
      refine stuckBits_ok (zR_of hI rfl rfl) hs hm (fun _ => ?_)
      refine zq (σ := σ) hV hI rfl 5 ?_
      show ((((zStk (σ.1 25) m (σ.1 24 1)) >>> (a &&& 31)) &&& 1) = 0 → V 43 [(0, .ref 0), (1, .int a)] [] σ) ∧ (¬ (((zStk (σ.1 25) m (σ.1 24 1)) >>> (a &&& 31)) &&& 1) = 0 → V 39 [(0, .ref 0), (1, .int a)] [] σ)
      refine ⟨fun h_36 => ?_, fun h_36 => ?_⟩
      · skip
        refine zq (σ := σ) hV hI rfl 4 ?_
        show zSp _ 9 [.ref 24, .int a] σ (fun r σ' => σ'.2.2.2 = σ.2.2.2 + zAl 9 → V 51 [(0, .ref 0), (1, .int a)] (r.toList ++ []) σ')
        refine withAllAbove_ok (zR_of hI rfl rfl) hs hm (fun _ => ?_)
        refine zq (σ := σ) hV hI rfl 1 ?_
        show zSp _ 196 [.int (zAll (σ.1 25) m (σ.1 24 1) a)] σ (fun r σ' => σ'.2.2.2 = σ.2.2.2 + zAl 196 → V 54 [(0, .ref 0), (1, .int a)] (r.toList ++ []) σ')
        refine bits_ok  (fun _ => ?_)
        refine zq (σ := σ) hV hI rfl 1 ?_
        show K (some (.int (zBc (zAll (σ.1 25) m (σ.1 24 1) a)))) σ
        exact hOk hb1 hb2 (fun q => q h_36)
      · skip
        refine zq (σ := σ) hV hI rfl 3 ?_
        show K (some (.int (-1))) σ
        exact hNone hb1 hb2 h_36
    · skip
      refine zq (σ := σ) hV hI rfl 1 ?_
      show (¬ (0 : Int32) = 0 → V 25 [(0, .ref 0), (1, .int a)] [] σ) ∧ (¬ (¬ (0 : Int32) = 0) → V 22 [(0, .ref 0), (1, .int a)] [] σ)
      refine ⟨fun hc => absurd hc (by decide), fun _ => ?_⟩
      refine zq (σ := σ) hV hI rfl 2 ?_
      show K (some (.int (-3))) σ
      exact hNot hb1 hb2
  · skip
    refine zq (σ := σ) hV hI rfl 1 ?_
    show (¬ (0 : Int32) = 0 → V 11 [(0, .ref 0), (1, .int a)] [] σ) ∧ (¬ (¬ (0 : Int32) = 0) → V 8 [(0, .ref 0), (1, .int a)] [] σ)
    refine ⟨fun hc => absurd hc (by decide), fun _ => ?_⟩
    refine zq (σ := σ) hV hI rfl 2 ?_
    show K (some (.int (-2))) σ
    exact hBad hb1
set_option maxRecDepth 8000 in
set_option maxHeartbeats 4000000 in
theorem stuck_C {d : Nat} {σ : zSt} {K : Option Value → zSt → Prop} {m : Nat} (hI : zQI (kR 0 30) σ.2.2) (hs : σ.1 24 2 = nI m) (hm : m ≤ 12) (hK : K (some (.int (zStk (σ.1 25) m (σ.1 24 1)))) σ) : zSp (d + 3) mX8_stuck [.ref 0] σ K := by
  refine ⟨⟨by decide, Nat.le_of_ble_eq_true rfl⟩, fun V hV => ?_⟩
  refine zq (σ := σ) hV hI rfl 3 ?_
  show zSp _ 8 [.ref 24] σ (fun r σ' => σ'.2.2.2 = σ.2.2.2 + zAl 8 → V 7 [(0, .ref 0)] (r.toList ++ []) σ')
  refine stuckBits_ok (zR_of hI rfl rfl) hs hm (fun _ => ?_)
  refine zq (σ := σ) hV hI rfl 1 ?_
  show K (some (.int (zStk (σ.1 25) m (σ.1 24 1)))) σ
  exact hK
end
section
theorem zHo_congr {n : Nat} {X Y : Nat → Int32} {f : Int32} {E S E' S' : Nat → Int32} {m : Nat} (h : ∀ i, i < m → E i = E' i ∧ S i = S' i) : zHo n X Y f E S m ↔ zHo n X Y f E' S' m := zHold_congr (fun t ht => by
  have hi : zTi f t < m := by unfold zMl at ht; unfold zTi; by_cases q : f = 0 <;> simp only [q, if_true, if_false] at ht ⊢ <;> omega
  obtain ⟨h1, h2⟩ := h _ hi
  have h3 : zEd E (zTi f t) = zEd E' (zTi f t) := by unfold zEd; rw [h1]
  simp only [zl, zT3, zT1, zT2, h3, h2, and_self])
noncomputable def zDc (q : Prop) : Bool := @decide q (Classical.propDecidable q)
theorem zDc_t {q : Prop} (h : q) : zDc q = true := by unfold zDc; exact @decide_eq_true q (Classical.propDecidable q) h
theorem zDc_f {q : Prop} (h : ¬ q) : zDc q = false := by unfold zDc; exact @decide_eq_false q (Classical.propDecidable q) h
theorem zDc_i {q : Prop} : zDc q = true ↔ q := by
  rcases Classical.em q with h | h
  · exact ⟨fun _ => h, fun _ => zDc_t h⟩
  · exact ⟨fun e => absurd ((zDc_f h).symm.trans e) (by decide), fun e => absurd e h⟩
theorem zDc_congr {q q' : Prop} (h : q ↔ q') : zDc q = zDc q' := by rw [propext h]
def zfC (a _j : Nat) : Bool := Nat.ble 7 a && Nat.ble a 13
theorem zfW_C (a j : Nat) (h : zfC a j = false) : zfW a j = false := by
  unfold zfC at h; unfold zfW
  rw [Bool.and_eq_false_iff] at h
  rw [Bool.or_eq_false_iff, Bool.and_eq_false_iff, Bool.and_eq_false_iff]
  have c1 : ∀ x y, Nat.ble x y = false ↔ y < x := fun x y => by rw [← Bool.not_eq_true, Nat.ble_eq]; omega
  have c2 : Nat.beq a 10 = false ↔ a ≠ 10 := by rw [← Bool.not_eq_true, Nat.beq_eq]
  simp only [c1, c2] at h ⊢
  omega
theorem zf7_C (a j : Nat) (h : zfC a j = false) : zf7 a j = false := by
  unfold zfC at h; unfold zf7
  rw [Bool.and_eq_false_iff] at h ⊢
  have c1 : ∀ x y, Nat.ble x y = false ↔ y < x := fun x y => by rw [← Bool.not_eq_true, Nat.ble_eq]; omega
  simp only [c1] at h ⊢
  omega
theorem heldT {d : Nat} {σ τ : zSt} {K : Option Value → zSt → Prop} {n m : Nat} {E S : Nat → Int32} (hI : zQI (kR 0 30) σ.2.2) (hn : σ.1 1 2 = nI n) (hn10 : n ≤ 10) (ht : zOnly zfC σ τ) (hs : τ.1 7 2 = nI m) (hm : m ≤ 8) (hES : ∀ i, i < m → τ.1 8 i = E i ∧ τ.1 9 i = S i) (hE : ∀ i, i < m → ∃ e, E i = nI e ∧ e < n)
    (h1 : ∀ υ, zOnly zfC σ υ → υ.1 7 2 = nI m → (∀ i, υ.1 8 i = τ.1 8 i ∧ υ.1 9 i = τ.1 9 i) → zHo n (σ.1 2) (σ.1 3) (σ.1 0 9) E S m → K (some (.int 1)) υ)
    (h0 : ∀ υ, zOnly zfC σ υ → υ.1 7 2 = nI m → (∀ i, υ.1 8 i = τ.1 8 i ∧ υ.1 9 i = τ.1 9 i) → ¬ zHo n (σ.1 2) (σ.1 3) (σ.1 0 9) E S m → K (some (.int 0)) υ) : zSp (d + 4) mX8_isHeldBy [.ref 0, .ref 7] τ K := by
  have hX : τ.1 2 = σ.1 2 := funext fun j => ht.1 2 j rfl
  have hY : τ.1 3 = σ.1 3 := funext fun j => ht.1 3 j rfl
  have hF : τ.1 0 9 = σ.1 0 9 := ht.1 0 9 rfl
  have hC : zHo n (τ.1 2) (τ.1 3) (τ.1 0 9) (τ.1 8) (τ.1 9) m ↔ zHo n (σ.1 2) (σ.1 3) (σ.1 0 9) E S m := by rw [hX, hY, hF]; exact zHo_congr hES
  refine isHeldBy_7 (zQI_eq hI ht.2.2) ((ht.1 1 2 rfl).trans hn) hn10 hs hm (fun i hi => by rw [(hES i hi).1]; exact hE i hi) (fun υ hu q => ?_) (fun υ hu q => ?_)
  · exact h1 υ (ht.tr (hu.wk zfW_C)) ((hu.1 7 2 rfl).trans hs) (fun i => ⟨hu.1 8 i rfl, hu.1 9 i rfl⟩) (hC.mp q)
  · exact h0 υ (ht.tr (hu.wk zfW_C)) ((hu.1 7 2 rfl).trans hs) (fun i => ⟨hu.1 8 i rfl, hu.1 9 i rfl⟩) (fun x => q (hC.mpr x))
def zFr (P : Nat → Bool) : Nat → Nat → Int32 → Int32
  | 0, _, x => x
  | r + 1, k, x => zFr P r (k + 1) (if P k = true then x ||| (1 <<< (nI k &&& 31)) else x)
/-- where one finger may stand: bits -/
noncomputable def zFree (n : Nat) (X Y : Nat → Int32) (f : Int32) (E S : Nat → Int32) (m v : Nat) : Int32 := zFr (fun k => zDc (zHo n X Y f E (upd S v (nI k)) m)) 9 0 0
theorem z8_ge {k : Nat} (h : k < 9) : ¬ (8 : Int32) < nI k := by rw [zlt, nI_toInt (by omega)]; have := zT_lits.2.2.2.2.1; omega
set_option maxRecDepth 8000 in
set_option maxHeartbeats 4000000 in
theorem free_C {d : Nat} {σ : zSt} {K : Option Value → zSt → Prop} {v : Int32} {n m : Nat} (hI : zQI (kR 0 30) σ.2.2) (hn : σ.1 1 2 = nI n) (hn10 : n ≤ 10) (hs : σ.1 4 2 = nI m) (hm : m ≤ 8) (hE : ∀ i, i < m → ∃ e, σ.1 5 i = nI e ∧ e < n) (hBad : ¬ zBt 0 (m - 1) v → K (some (.int (-2))) σ) (hOk : ∀ τ j, zOnly zfC σ τ → v = nI j → j < m → K (some (.int (zFree n (σ.1 2) (σ.1 3) (σ.1 0 9) (σ.1 5) (σ.1 6) m j))) τ) : zSp (d + 5) mX8_free [.ref 0, .int v] σ K := by
  refine ⟨⟨by decide, Nat.le_of_ble_eq_true rfl⟩, fun V hV => ?_⟩
  refine zq (σ := σ) hV hI rfl 3 ?_
  show zSp _ 125 [.ref 0, .int v] σ (fun r σ' => σ'.2.2.2 = σ.2.2.2 + zAl 125 → V 5 [(0, .ref 0), (1, .int v)] (r.toList ++ []) σ')
  refine isFinger_ok (zR_of hI rfl rfl) hs (by omega) (fun hb1 _ => ?_) (fun hb1 _ => ?_)
  · skip
    refine zq (σ := σ) hV hI rfl 1 ?_
    show (¬ (1 : Int32) = 0 → V 11 [(0, .ref 0), (1, .int v)] [] σ) ∧ (¬ (¬ (1 : Int32) = 0) → V 8 [(0, .ref 0), (1, .int v)] [] σ)
    refine ⟨fun _ => ?_, fun hc => absurd (by decide) hc⟩
    obtain ⟨j, hj, hj2, _⟩ := zNat (x := v) (by unfold zBt at hb1; omega)
    have hjm : j < m := by unfold zBt at hb1; omega
    refine zq (σ := σ) hV hI rfl 5 ?_
    show zSp _ 23 [.ref 7, .ref 4] σ (fun r σ' => σ'.2.2.2 = σ.2.2.2 + zAl 23 → V 22 [(0, .ref 0), (1, .int v)] (r.toList ++ []) σ')
    refine become_ok (zR_of hI rfl rfl) hs (by omega) (fun τ ht0 h7 hES _ => ?_)
    have ht := ht0.wk zf7_C
    have hIτ := zQI_eq hI ht.2.2
    have hnτ : τ.2.2.2 = σ.2.2.2 := congrArg Prod.snd ht.2.2
    refine zq (σ := τ) hV hIτ hnτ 4 ?_
    show V 26 [(3, .int 0), (2, .int 0), (0, .ref 0), (1, .int v)] [] τ
    refine zwk hV [2, 3, 1, 0] rfl ?_
    have Hk : ∀ (r : Nat) (k : Nat) (x : Int32) (τ : zSt), k + r = 9 → zOnly zfC σ τ → τ.1 7 2 = nI m → (∀ i, i < m → τ.1 8 i = σ.1 5 i ∧ (¬ i = j → τ.1 9 i = σ.1 6 i)) → zFr (fun k => zDc (zHo n (σ.1 2) (σ.1 3) (σ.1 0 9) (σ.1 5) (upd (σ.1 6) j (nI k)) m)) r k x = zFree n (σ.1 2) (σ.1 3) (σ.1 0 9) (σ.1 5) (σ.1 6) m j → V 26 [(0, .ref 0), (1, .int v), (2, .int x), (3, .int (nI k))] [] τ := by
      intro r
      induction r with
      | zero =>
        intro k x τ hkr ht h7 hES hfin
        have hIτ := zQI_eq hI ht.2.2
        have hnτ : τ.2.2.2 = σ.2.2.2 := congrArg Prod.snd ht.2.2
        refine zq (σ := τ) hV hIτ hnτ 3 ?_
        show (8 < (nI k) → V 72 [(0, .ref 0), (1, .int v), (2, .int x), (3, .int (nI k))] [] τ) ∧ (¬ 8 < (nI k) → V 32 [(0, .ref 0), (1, .int v), (2, .int x), (3, .int (nI k))] [] τ)
        refine ⟨fun _ => ?_, fun hc => absurd (show (8 : Int32) < nI k by rw [show k = 9 by omega]; decide) hc⟩
        refine zq (σ := τ) hV hIτ hnτ 2 ?_
        show K (some (.int x)) τ
        replace hfin : x = _ := hfin
        rw [hfin]
        exact hOk τ j ht hj hjm
      | succ r ihk =>
        intro k x τ hkr ht h7 hES hfin
        have hIτ := zQI_eq hI ht.2.2
        have hnτ : τ.2.2.2 = σ.2.2.2 := congrArg Prod.snd ht.2.2
        refine zq (σ := τ) hV hIτ hnτ 3 ?_
        show (8 < (nI k) → V 72 [(0, .ref 0), (1, .int v), (2, .int x), (3, .int (nI k))] [] τ) ∧ (¬ 8 < (nI k) → V 32 [(0, .ref 0), (1, .int v), (2, .int x), (3, .int (nI k))] [] τ)
        refine ⟨fun hc => absurd hc (show ¬ (8 : Int32) < nI k from z8_ge (by omega)), fun _ => ?_⟩
        refine zq (σ := τ) hV hIτ hnτ 7 ?_
        show zSp _ 18 [.ref 4, .int v] τ (fun r σ' => σ'.2.2.2 = τ.2.2.2 + zAl 18 → V 45 [(0, .ref 0), (1, .int v), (2, .int x), (3, .int (nI k))] (r.toList ++ [.int v, .ref 7]) σ')
        refine hedge_4 (zR_of hIτ rfl rfl) hj (by omega) (fun _ => ?_)
        refine zq (σ := τ) hV hIτ hnτ 2 ?_
        show zSp _ 22 [.ref 7, .int v, .int (τ.1 5 j), .int (nI k)] τ (fun r σ' => σ'.2.2.2 = τ.2.2.2 + zAl 22 → V 49 [(0, .ref 0), (1, .int v), (2, .int x), (3, .int (nI k))] (r.toList ++ []) σ')
        refine hstand_7 (zR_of hIτ rfl rfl) hj (by omega) (fun _ => ?_)
        refine zq (σ := (zuI (zuI τ 8 j (τ.1 5 j)) 9 j (nI k))) hV hIτ hnτ 4 ?_
        show zSp _ 92 [.ref 0, .ref 7] (zuI (zuI τ 8 j (τ.1 5 j)) 9 j (nI k)) (fun r σ' => σ'.2.2.2 = (zuI (zuI τ 8 j (τ.1 5 j)) 9 j (nI k)).2.2.2 + zAl 92 → V 57 [(0, .ref 0), (1, .int v), (2, .int x), (3, .int (nI k))] (r.toList ++ []) σ')
        have hE8 : τ.1 5 j = σ.1 5 j := ht.1 5 j rfl
        refine heldT hI hn hn10 (E := σ.1 5) (S := upd (σ.1 6) j (nI k)) ((ht.uI rfl).uI rfl) h7 hm (fun i hi => ?_) hE (fun υ hu hu7 hue hq _ => ?_) (fun υ hu hu7 hue hq _ => ?_)
        · simp only [zuI_get]
          unfold upd
          by_cases e : i = j
          · subst e; simp [hE8]
          · have := hES i hi; simp [e, this]
        · skip
          have hIυ := zQI_eq hI hu.2.2
          have hnυ : υ.2.2.2 = σ.2.2.2 := congrArg Prod.snd hu.2.2
          refine zq (σ := υ) hV hIυ hnυ 1 ?_
          show ((1 : Int32) = 0 → V 66 [(0, .ref 0), (1, .int v), (2, .int x), (3, .int (nI k))] [] υ) ∧ (¬ (1 : Int32) = 0 → V 60 [(0, .ref 0), (1, .int v), (2, .int x), (3, .int (nI k))] [] υ)
          refine ⟨fun hc => absurd hc (by decide), fun _ => ?_⟩
          refine zq (σ := υ) hV hIυ hnυ 8 ?_
          show V 26 [(3, .int ((nI k) + 1)), (2, .int (x ||| (1 <<< ((nI k) &&& 31)))), (0, .ref 0), (1, .int v)] [] υ
          refine zwk hV [2, 3, 1, 0] rfl ?_
          rw [nI_1]
          refine ihk (k + 1) _ υ (by omega) hu hu7 (fun i hi => ?_) ?_
          · rw [(hue i).1, (hue i).2, zuI_get, zuI_get, zuI_get, zuI_get]
            by_cases e : i = j
            · subst e; simp [hE8]
            · have := hES i hi; simp [e, this]
          · rw [← hfin]
            show _ = zFr (fun k => zDc (zHo n (σ.1 2) (σ.1 3) (σ.1 0 9) (σ.1 5) (upd (σ.1 6) j (nI k)) m)) r (k + 1) (if zDc (zHo n (σ.1 2) (σ.1 3) (σ.1 0 9) (σ.1 5) (upd (σ.1 6) j (nI k)) m) = true then x ||| (1 <<< (nI k &&& 31)) else x)
            rw [zDc_t hq, if_pos rfl]
        · skip
          have hIυ := zQI_eq hI hu.2.2
          have hnυ : υ.2.2.2 = σ.2.2.2 := congrArg Prod.snd hu.2.2
          refine zq (σ := υ) hV hIυ hnυ 1 ?_
          show ((0 : Int32) = 0 → V 66 [(0, .ref 0), (1, .int v), (2, .int x), (3, .int (nI k))] [] υ) ∧ (¬ (0 : Int32) = 0 → V 60 [(0, .ref 0), (1, .int v), (2, .int x), (3, .int (nI k))] [] υ)
          refine ⟨fun _ => ?_, fun hc => absurd (by decide) hc⟩
          refine zq (σ := υ) hV hIυ hnυ 2 ?_
          show V 26 [(3, .int ((nI k) + 1)), (0, .ref 0), (1, .int v), (2, .int x)] [] υ
          refine zwk hV [1, 2, 3, 0] rfl ?_
          rw [nI_1]
          refine ihk (k + 1) _ υ (by omega) hu hu7 (fun i hi => ?_) ?_
          · rw [(hue i).1, (hue i).2, zuI_get, zuI_get, zuI_get, zuI_get]
            by_cases e : i = j
            · subst e; simp [hE8]
            · have := hES i hi; simp [e, this]
          · rw [← hfin]
            show _ = zFr (fun k => zDc (zHo n (σ.1 2) (σ.1 3) (σ.1 0 9) (σ.1 5) (upd (σ.1 6) j (nI k)) m)) r (k + 1) (if zDc (zHo n (σ.1 2) (σ.1 3) (σ.1 0 9) (σ.1 5) (upd (σ.1 6) j (nI k)) m) = true then x ||| (1 <<< (nI k &&& 31)) else x)
            rw [zDc_f hq, if_neg (by decide)]
    exact Hk 9 0 0 τ rfl ht h7 (fun i hi => ⟨(hES i hi).1, fun _ => (hES i hi).2⟩) rfl
  · skip
    refine zq (σ := σ) hV hI rfl 1 ?_
    show (¬ (0 : Int32) = 0 → V 11 [(0, .ref 0), (1, .int v)] [] σ) ∧ (¬ (¬ (0 : Int32) = 0) → V 8 [(0, .ref 0), (1, .int v)] [] σ)
    refine ⟨fun hc => absurd hc (by decide), fun _ => ?_⟩
    refine zq (σ := σ) hV hI rfl 2 ?_
    show K (some (.int (-2))) σ
    exact hBad hb1
end
section
/-- bit i of a set -/
def zbt (s : Int32) (i : Nat) : Int32 := (s >>> (nI i &&& 31)) &&& 1
def zcn (s : Int32) : Nat → Nat
  | 0 => 0
  | i + 1 => if zbt s i = 0 then zcn s i else zcn s i + 1
theorem zcn_le (s : Int32) : ∀ i, zcn s i ≤ i
  | 0 => Nat.le_refl _
  | i + 1 => by have := zcn_le s i; unfold zcn; split <;> omega
theorem zcn_mono (s : Int32) {i j : Nat} (h : i ≤ j) : zcn s i ≤ zcn s j := by
  induction j with
  | zero => have : i = 0 := by omega
            subst this; exact Nat.le_refl _
  | succ j ih =>
    by_cases q : i = j + 1
    · subst q; exact Nat.le_refl _
    · have h2 := ih (by omega)
      show zcn s i ≤ (if zbt s j = 0 then zcn s j else zcn s j + 1)
      split <;> omega
/-- what is laid out of a row by a set -/
def zLy (s : Int32) (E : Nat → Int32) : Nat → Nat → Int32
  | 0 => fun _ => 0
  | i + 1 => if zbt s i = 0 then zLy s E i else upd (zLy s E i) (zcn s i) (E i)
theorem zLy_in {s : Int32} {E : Nat → Int32} {n : Nat} : ∀ {k : Nat}, (∀ j, j < k → ∃ e, E j = nI e ∧ e < n) → ∀ q, q < zcn s k → ∃ e, zLy s E k q = nI e ∧ e < n
  | 0, _, q, hq => absurd hq (Nat.not_lt_zero q)
  | k + 1, h, q, hq => by
    unfold zcn at hq; unfold zLy
    by_cases c : zbt s k = 0
    · rw [if_pos c] at hq ⊢; exact zLy_in (fun j hj => h j (by omega)) q hq
    · rw [if_neg c] at hq ⊢
      unfold upd
      by_cases e : q = zcn s k
      · rw [if_pos e]; exact h k (by omega)
      · rw [if_neg e]; exact zLy_in (fun j hj => h j (by omega)) q (by omega)
def zPx (s : Int32) (P : Nat → Int32) : Nat → Int32
  | 0 => 0
  | i + 1 => if zbt s i = 0 then zPx s P i else zPx s P i + P i
def zBet (P : Nat → Int32) (k : Nat) (s t : Int32) : Bool := decide (0 < zPx t P k - zPx s P k ∨ (zPx t P k - zPx s P k = 0 ∧ zBc s < zBc t))
def zCp (H : Int32 → Bool) (B : Int32 → Int32 → Bool) : Nat → Nat → Int32 → Int32
  | 0, _, b => b
  | r + 1, i, b => zCp H B r (i + 1) (if (b = -1 ∨ B (nI i) b = true) ∧ H (nI i) = true then nI i else b)
/-- whether the spots of a set hold -/
noncomputable def zSpH (n : Nat) (X Y : Nat → Int32) (f : Int32) (E S : Nat → Int32) (k : Nat) (s : Int32) : Bool := zDc (zHo n X Y f (zLy s E k) (zLy s S k) (zcn s k))
/-- the cheapest set -/
noncomputable def zChe (n : Nat) (X Y : Nat → Int32) (f : Int32) (E S P : Nat → Int32) (k : Nat) : Int32 := zCp (zSpH n X Y f E S k) (zBet P k) (2 ^ k - 1) 1 (-1)
theorem zshl {k : Nat} (h : k ≤ 7) : (1 : Int32) <<< (nI k &&& 31) = nI (2 ^ k) := by
  rcases (show k = 0 ∨ k = 1 ∨ k = 2 ∨ k = 3 ∨ k = 4 ∨ k = 5 ∨ k = 6 ∨ k = 7 by omega) with h | h | h | h | h | h | h | h <;> subst h <;> decide
theorem z2k {k : Nat} (h : k ≤ 7) : 2 ^ k ≤ 128 ∧ 1 ≤ 2 ^ k := by
  rcases (show k = 0 ∨ k = 1 ∨ k = 2 ∨ k = 3 ∨ k = 4 ∨ k = 5 ∨ k = 6 ∨ k = 7 by omega) with h | h | h | h | h | h | h | h <;> subst h <;> decide
def zfL (h c a j : Nat) : Bool := (Nat.beq a h && Nat.beq j 2) || ((Nat.beq a (h + 1) || Nat.beq a (h + 2)) && Nat.blt j c)
theorem zfL_mono {h c c' a j : Nat} (hc : c ≤ c') (q : zfL h c' a j = false) : zfL h c a j = false := by
  unfold zfL at q ⊢
  rw [Bool.or_eq_false_iff, Bool.and_eq_false_iff, Bool.and_eq_false_iff] at q ⊢
  refine ⟨q.1, q.2.imp id (fun x => ?_)⟩
  rw [← Bool.not_eq_true, Nat.blt_eq] at x ⊢
  omega
set_option maxRecDepth 8000 in
set_option maxHeartbeats 4000000 in
theorem price_ok {d : Nat} {σ : zSt} {K : Option Value → zSt → Prop} {s : Int32} {k : Nat} (hI : zQI (kR 14 18) σ.2.2) (hs : σ.1 14 3 = nI k) (hk : k ≤ 7) (hK : K (some (.int (zPx s (σ.1 17) k))) σ) : zSp (d + 2) mX6_price [.ref 14, .int s] σ K := by
  refine ⟨⟨by decide, Nat.le_of_ble_eq_true rfl⟩, fun V hV => ?_⟩
  refine zq (σ := σ) hV hI rfl 4 ?_
  show V 4 [(3, .int 0), (2, .int 0), (0, .ref 14), (1, .int s)] [] σ
  refine zwk hV [2, 3, 1, 0] rfl ?_
  have Hi : ∀ (r : Nat) (i : Nat) (x : Int32), i + r = k → x = zPx s (σ.1 17) i → V 4 [(0, .ref 14), (1, .int s), (2, .int x), (3, .int (nI i))] [] σ := by
    intro r
    induction r with
    | zero =>
      intro i x hir hx
      refine zq (σ := σ) hV hI rfl 4 ?_
      show ((σ.1 14 3) ≤ (nI i) → V 37 [(0, .ref 14), (1, .int s), (2, .int x), (3, .int (nI i))] [] σ) ∧ (¬ (σ.1 14 3) ≤ (nI i) → V 12 [(0, .ref 14), (1, .int s), (2, .int x), (3, .int (nI i))] [] σ)
      refine ⟨fun _ => ?_, fun hc => absurd (show (σ.1 14 3) ≤ nI i by rw [hs]; exact zge_self (by omega)) hc⟩
      refine zq (σ := σ) hV hI rfl 2 ?_
      show K (some (.int x)) σ
      obtain rfl : i = k := by omega
      rw [hx]
      exact hK
    | succ r ihi =>
      intro i x hir hx
      refine zq (σ := σ) hV hI rfl 4 ?_
      show ((σ.1 14 3) ≤ (nI i) → V 37 [(0, .ref 14), (1, .int s), (2, .int x), (3, .int (nI i))] [] σ) ∧ (¬ (σ.1 14 3) ≤ (nI i) → V 12 [(0, .ref 14), (1, .int s), (2, .int x), (3, .int (nI i))] [] σ)
      refine ⟨fun hc => absurd hc (show ¬ (σ.1 14 3) ≤ nI i by rw [hs]; exact nI_ge (by omega) (by omega)), fun _ => ?_⟩
      refine zq (σ := σ) hV hI rfl 6 ?_
      show (((s >>> ((nI i) &&& 31)) &&& 1) = 0 → V 31 [(0, .ref 14), (1, .int s), (2, .int x), (3, .int (nI i))] [] σ) ∧ (¬ ((s >>> ((nI i) &&& 31)) &&& 1) = 0 → V 20 [(0, .ref 14), (1, .int s), (2, .int x), (3, .int (nI i))] [] σ)
      refine ⟨fun h_17 => ?_, fun h_17 => ?_⟩
      · skip
        refine zq (σ := σ) hV hI rfl 2 ?_
        show V 4 [(3, .int ((nI i) + 1)), (0, .ref 14), (1, .int s), (2, .int x)] [] σ
        refine zwk hV [1, 2, 3, 0] rfl ?_
        rw [nI_1]
        refine ihi (i + 1) _ (by omega) ?_
        show _ = (if zbt s i = 0 then zPx s (σ.1 17) i else zPx s (σ.1 17) i + σ.1 17 i)
        have c : zbt s i = 0 := h_17
        rw [if_pos c]
        exact hx
      · skip
        refine zq (σ := σ) hV hI rfl 5 ?_
        show zSp _ 128 [.ref 17, .int (nI i)] σ (fun r σ' => σ'.2.2.2 = σ.2.2.2 + zAl 128 → V 29 [(0, .ref 14), (1, .int s), (2, .int x), (3, .int (nI i))] (r.toList ++ [.int x]) σ')
        refine item_17 (zA_of hI rfl) rfl (by omega) (fun _ => ?_)
        refine zq (σ := σ) hV hI rfl 4 ?_
        show V 4 [(3, .int ((nI i) + 1)), (2, .int (x + (σ.1 17 i))), (0, .ref 14), (1, .int s)] [] σ
        refine zwk hV [2, 3, 1, 0] rfl ?_
        rw [nI_1]
        refine ihi (i + 1) _ (by omega) ?_
        show _ = (if zbt s i = 0 then zPx s (σ.1 17) i else zPx s (σ.1 17) i + σ.1 17 i)
        have c : ¬ zbt s i = 0 := h_17
        rw [if_neg c, hx]
  exact Hi k 0 0 (by omega) rfl
set_option maxRecDepth 8000 in
set_option maxHeartbeats 4000000 in
theorem isBetter_ok {d : Nat} {σ : zSt} {K : Option Value → zSt → Prop} {s t : Int32} {k : Nat} (hI : zQI (kR 14 18) σ.2.2) (hs : σ.1 14 3 = nI k) (hk : k ≤ 7) (h1 : zBet (σ.1 17) k s t = true → K (some (.int 1)) σ) (h0 : ¬ zBet (σ.1 17) k s t = true → K (some (.int 0)) σ) : zSp (d + 3) mX6_isBetter [.ref 14, .int s, .int t] σ K := by
  refine ⟨⟨by decide, Nat.le_of_ble_eq_true rfl⟩, fun V hV => ?_⟩
  refine zq (σ := σ) hV hI rfl 3 ?_
  show zSp _ 62 [.ref 14, .int t] σ (fun r σ' => σ'.2.2.2 = σ.2.2.2 + zAl 62 → V 5 [(0, .ref 14), (1, .int s), (2, .int t)] (r.toList ++ []) σ')
  refine price_ok (zR_of hI rfl rfl) hs hk (fun _ => ?_)
  refine zq (σ := σ) hV hI rfl 3 ?_
  show zSp _ 62 [.ref 14, .int s] σ (fun r σ' => σ'.2.2.2 = σ.2.2.2 + zAl 62 → V 10 [(0, .ref 14), (1, .int s), (2, .int t)] (r.toList ++ [.int (zPx t (σ.1 17) k)]) σ')
  refine price_ok (zR_of hI rfl rfl) hs hk (fun _ => ?_)
  refine zq (σ := σ) hV hI rfl 4 ?_
  show (0 < ((zPx t (σ.1 17) k) - (zPx s (σ.1 17) k)) → V 31 [(3, .int ((zPx t (σ.1 17) k) - (zPx s (σ.1 17) k))), (0, .ref 14), (1, .int s), (2, .int t)] [] σ) ∧ (¬ 0 < ((zPx t (σ.1 17) k) - (zPx s (σ.1 17) k)) → V 16 [(3, .int ((zPx t (σ.1 17) k) - (zPx s (σ.1 17) k))), (0, .ref 14), (1, .int s), (2, .int t)] [] σ)
  refine ⟨fun h_13 => ?_, fun h_13 => ?_⟩
  · skip
    refine zq (σ := σ) hV hI rfl 3 ?_
    show ((1 : Int32) = 0 ∨ (1 : Int32) = 1) ∧ K (some (.int 1)) σ
    refine ⟨by decide, ?_⟩
    refine h1 ?_
    unfold zBet
    refine decide_eq_true ?_
    first | exact Or.inl h_13 | exact Or.inr ⟨h_17, Int32.not_le.mp h_28⟩
  · skip
    refine zq (σ := σ) hV hI rfl 2 ?_
    show (¬ ((zPx t (σ.1 17) k) - (zPx s (σ.1 17) k)) = 0 → V 35 [(3, .int ((zPx t (σ.1 17) k) - (zPx s (σ.1 17) k))), (0, .ref 14), (1, .int s), (2, .int t)] [] σ) ∧ (¬ (¬ ((zPx t (σ.1 17) k) - (zPx s (σ.1 17) k)) = 0) → V 20 [(3, .int ((zPx t (σ.1 17) k) - (zPx s (σ.1 17) k))), (0, .ref 14), (1, .int s), (2, .int t)] [] σ)
    refine ⟨fun h_17 => ?_, fun h_17 => ?_⟩
    · skip
      refine zq (σ := σ) hV hI rfl 2 ?_
      show ((0 : Int32) = 0 ∨ (0 : Int32) = 1) ∧ K (some (.int 0)) σ
      refine ⟨by decide, ?_⟩
      refine h0 ?_
      unfold zBet
      rw [Bool.not_eq_true]
      refine decide_eq_false ?_
      first | exact fun q => q.elim h_13 (fun x => h_17 x.1) | exact fun q => q.elim h_13 (fun x => Int32.not_le.mpr x.2 h_28)
    · skip
      have h_17 := Classical.not_not.mp h_17
      refine zq (σ := σ) hV hI rfl 2 ?_
      show zSp _ 196 [.int s] σ (fun r σ' => σ'.2.2.2 = σ.2.2.2 + zAl 196 → V 24 [(3, .int ((zPx t (σ.1 17) k) - (zPx s (σ.1 17) k))), (0, .ref 14), (1, .int s), (2, .int t)] (r.toList ++ []) σ')
      refine bits_ok  (fun _ => ?_)
      refine zq (σ := σ) hV hI rfl 2 ?_
      show zSp _ 196 [.int t] σ (fun r σ' => σ'.2.2.2 = σ.2.2.2 + zAl 196 → V 28 [(3, .int ((zPx t (σ.1 17) k) - (zPx s (σ.1 17) k))), (0, .ref 14), (1, .int s), (2, .int t)] (r.toList ++ [.int (zBc s)]) σ')
      refine bits_ok  (fun _ => ?_)
      refine zq (σ := σ) hV hI rfl 1 ?_
      show ((zBc t) ≤ (zBc s) → V 35 [(3, .int ((zPx t (σ.1 17) k) - (zPx s (σ.1 17) k))), (0, .ref 14), (1, .int s), (2, .int t)] [] σ) ∧ (¬ (zBc t) ≤ (zBc s) → V 31 [(3, .int ((zPx t (σ.1 17) k) - (zPx s (σ.1 17) k))), (0, .ref 14), (1, .int s), (2, .int t)] [] σ)
      refine ⟨fun h_28 => ?_, fun h_28 => ?_⟩
      · skip
        refine zq (σ := σ) hV hI rfl 2 ?_
        show ((0 : Int32) = 0 ∨ (0 : Int32) = 1) ∧ K (some (.int 0)) σ
        refine ⟨by decide, ?_⟩
        refine h0 ?_
        unfold zBet
        rw [Bool.not_eq_true]
        refine decide_eq_false ?_
        first | exact fun q => q.elim h_13 (fun x => h_17 x.1) | exact fun q => q.elim h_13 (fun x => Int32.not_le.mpr x.2 h_28)
      · skip
        refine zq (σ := σ) hV hI rfl 3 ?_
        show ((1 : Int32) = 0 ∨ (1 : Int32) = 1) ∧ K (some (.int 1)) σ
        refine ⟨by decide, ?_⟩
        refine h1 ?_
        unfold zBet
        refine decide_eq_true ?_
        first | exact Or.inl h_13 | exact Or.inr ⟨h_17, Int32.not_le.mp h_28⟩
set_option maxRecDepth 8000 in
set_option maxHeartbeats 4000000 in
theorem layOut_7 {d : Nat} {σ : zSt} {K : Option Value → zSt → Prop} {s : Int32} {k : Nat} (hI : zQI (kR 4 18) σ.2.2) (hs : σ.1 14 3 = nI k) (hk : k ≤ 7) (hK : ∀ τ, zOnly (zfL 7 (zcn s k)) σ τ → τ.1 7 2 = nI (zcn s k) → (∀ q, q < zcn s k → τ.1 8 q = zLy s (σ.1 15) k q ∧ τ.1 9 q = zLy s (σ.1 16) k q) → K none τ) : zSp (d + 4) mX6_layOut [.ref 14, .int s, .ref 7] σ K := by
  refine ⟨⟨by decide, Nat.le_of_ble_eq_true rfl⟩, fun V hV => ?_⟩
  refine zq (σ := σ) hV hI rfl 2 ?_
  show zSp _ 20 [.ref 7] σ (fun r σ' => σ'.2.2.2 = σ.2.2.2 + zAl 20 → V 4 [(0, .ref 14), (1, .int s), (2, .ref 7)] (r.toList ++ []) σ')
  refine hclear_7 (zR_of hI rfl rfl) (fun _ => ?_)
  refine zq (σ := (zuI σ 7 2 0)) hV hI rfl 2 ?_
  show V 6 [(3, .int 0), (0, .ref 14), (1, .int s), (2, .ref 7)] [] (zuI σ 7 2 0)
  refine zwk hV [1, 2, 3, 0] rfl ?_
  have Hi : ∀ (r : Nat) (i : Nat) (τ : zSt), i + r = k → zOnly (zfL 7 (zcn s k)) σ τ → τ.1 7 2 = nI (zcn s i) → (∀ q, q < zcn s i → τ.1 8 q = zLy s (σ.1 15) i q ∧ τ.1 9 q = zLy s (σ.1 16) i q) → V 6 [(0, .ref 14), (1, .int s), (2, .ref 7), (3, .int (nI i))] [] τ := by
    intro r
    induction r with
    | zero =>
      intro i τ hir ht h7 hES
      have hIτ := zQI_eq hI ht.2.2
      have hnτ : τ.2.2.2 = σ.2.2.2 := congrArg Prod.snd ht.2.2
      have hst : τ.1 14 3 = nI k := (ht.1 14 3 (by unfold zfL; simp)).trans hs
      refine zq (σ := τ) hV hIτ hnτ 4 ?_
      show ((τ.1 14 3) ≤ (nI i) → V 48 [(0, .ref 14), (1, .int s), (2, .ref 7), (3, .int (nI i))] [] τ) ∧ (¬ (τ.1 14 3) ≤ (nI i) → V 14 [(0, .ref 14), (1, .int s), (2, .ref 7), (3, .int (nI i))] [] τ)
      refine ⟨fun _ => ?_, fun hc => absurd (show (τ.1 14 3) ≤ nI i by rw [hst]; exact zge_self (by omega)) hc⟩
      refine zq (σ := τ) hV hIτ hnτ 1 ?_
      show K none τ
      obtain rfl : i = k := by omega
      exact hK τ ht h7 hES
    | succ r ihi =>
      intro i τ hir ht h7 hES
      have hIτ := zQI_eq hI ht.2.2
      have hnτ : τ.2.2.2 = σ.2.2.2 := congrArg Prod.snd ht.2.2
      have hst : τ.1 14 3 = nI k := (ht.1 14 3 (by unfold zfL; simp)).trans hs
      refine zq (σ := τ) hV hIτ hnτ 4 ?_
      show ((τ.1 14 3) ≤ (nI i) → V 48 [(0, .ref 14), (1, .int s), (2, .ref 7), (3, .int (nI i))] [] τ) ∧ (¬ (τ.1 14 3) ≤ (nI i) → V 14 [(0, .ref 14), (1, .int s), (2, .ref 7), (3, .int (nI i))] [] τ)
      refine ⟨fun hc => absurd hc (show ¬ (τ.1 14 3) ≤ nI i by rw [hst]; exact nI_ge (by omega) (by omega)), fun _ => ?_⟩
      refine zq (σ := τ) hV hIτ hnτ 6 ?_
      show (((s >>> ((nI i) &&& 31)) &&& 1) = 0 → V 42 [(0, .ref 14), (1, .int s), (2, .ref 7), (3, .int (nI i))] [] τ) ∧ (¬ ((s >>> ((nI i) &&& 31)) &&& 1) = 0 → V 22 [(0, .ref 14), (1, .int s), (2, .ref 7), (3, .int (nI i))] [] τ)
      refine ⟨fun h_19 => ?_, fun h_19 => ?_⟩
      · skip
        refine zq (σ := τ) hV hIτ hnτ 2 ?_
        show V 6 [(3, .int ((nI i) + 1)), (0, .ref 14), (1, .int s), (2, .ref 7)] [] τ
        refine zwk hV [1, 2, 3, 0] rfl ?_
        rw [nI_1]
        have hc : zcn s (i + 1) = zcn s i := if_pos h_19
        refine ihi (i + 1) _ (by omega) ht (by rw [hc]; exact h7) (fun q hq => ?_)
        rw [hc] at hq
        have e1 : zLy s (σ.1 15) (i + 1) = zLy s (σ.1 15) i := if_pos h_19
        have e2 : zLy s (σ.1 16) (i + 1) = zLy s (σ.1 16) i := if_pos h_19
        rw [e1, e2]; exact hES q hq
      · skip
        refine zq (σ := τ) hV hIτ hnτ 5 ?_
        show zSp _ 128 [.ref 15, .int (nI i)] τ (fun r σ' => σ'.2.2.2 = τ.2.2.2 + zAl 128 → V 31 [(0, .ref 14), (1, .int s), (2, .ref 7), (3, .int (nI i))] (r.toList ++ [.ref 7]) σ')
        refine item_15 (zA_of hIτ rfl) rfl (by omega) (fun _ => ?_)
        refine zq (σ := τ) hV hIτ hnτ 4 ?_
        show zSp _ 128 [.ref 16, .int (nI i)] τ (fun r σ' => σ'.2.2.2 = τ.2.2.2 + zAl 128 → V 39 [(0, .ref 14), (1, .int s), (2, .ref 7), (3, .int (nI i))] (r.toList ++ [.int (τ.1 15 i), .ref 7]) σ')
        refine item_16 (zA_of hIτ rfl) rfl (by omega) (fun _ => ?_)
        refine zq (σ := τ) hV hIτ hnτ 1 ?_
        show zSp _ 21 [.ref 7, .int (τ.1 15 i), .int (τ.1 16 i)] τ (fun r σ' => σ'.2.2.2 = τ.2.2.2 + zAl 21 → V 42 [(0, .ref 14), (1, .int s), (2, .ref 7), (3, .int (nI i))] (r.toList ++ []) σ')
        have hcn := zcn_le s i
        refine hadd_7 (zR_of hIτ rfl rfl) (m := zcn s i) h7 (by omega) (fun _ => ?_)
        refine zq (σ := (zuI (zuI (zuI τ 8 (zcn s i) (τ.1 15 i)) 9 (zcn s i) (τ.1 16 i)) 7 2 (nI (zcn s i + 1)))) hV hIτ hnτ 2 ?_
        show V 6 [(3, .int ((nI i) + 1)), (0, .ref 14), (1, .int s), (2, .ref 7)] [] (zuI (zuI (zuI τ 8 (zcn s i) (τ.1 15 i)) 9 (zcn s i) (τ.1 16 i)) 7 2 (nI (zcn s i + 1)))
        refine zwk hV [1, 2, 3, 0] rfl ?_
        rw [nI_1]
        have hc : zcn s (i + 1) = zcn s i + 1 := if_neg h_19
        have hm2 := zcn_mono s (show i + 1 ≤ k by omega)
        refine ihi (i + 1) _ (by omega) (((ht.uI (by unfold zfL; simp; try omega)).uI (by unfold zfL; simp; try omega)).uI (by unfold zfL; simp; try omega)) ?_ ?_
        · rw [hc]; simp [zuI_get]
        · intro q hq
          rw [hc] at hq
          have e1 : zLy s (σ.1 15) (i + 1) = upd (zLy s (σ.1 15) i) (zcn s i) (σ.1 15 i) := if_neg h_19
          have e2 : zLy s (σ.1 16) (i + 1) = upd (zLy s (σ.1 16) i) (zcn s i) (σ.1 16 i) := if_neg h_19
          rw [e1, e2]
          have f1 : τ.1 15 i = σ.1 15 i := ht.1 15 i (by unfold zfL; simp)
          have f2 : τ.1 16 i = σ.1 16 i := ht.1 16 i (by unfold zfL; simp)
          simp only [zuI_get]
          unfold upd
          by_cases e : q = zcn s i
          · subst e; simp [f1, f2]
          · have := hES q (by omega); simp [e, this]
  exact Hi k 0 _ (by omega) (zOnly.rf.uI (by unfold zfL; simp)) rfl (fun q hq => absurd hq (Nat.not_lt_zero q))
set_option maxRecDepth 8000 in
set_option maxHeartbeats 4000000 in
theorem layOut_4 {d : Nat} {σ : zSt} {K : Option Value → zSt → Prop} {s : Int32} {k : Nat} (hI : zQI (kR 4 18) σ.2.2) (hs : σ.1 14 3 = nI k) (hk : k ≤ 7) (hK : ∀ τ, zOnly (zfL 4 (zcn s k)) σ τ → τ.1 4 2 = nI (zcn s k) → (∀ q, q < zcn s k → τ.1 5 q = zLy s (σ.1 15) k q ∧ τ.1 6 q = zLy s (σ.1 16) k q) → K none τ) : zSp (d + 4) mX6_layOut [.ref 14, .int s, .ref 4] σ K := by
  refine ⟨⟨by decide, Nat.le_of_ble_eq_true rfl⟩, fun V hV => ?_⟩
  refine zq (σ := σ) hV hI rfl 2 ?_
  show zSp _ 20 [.ref 4] σ (fun r σ' => σ'.2.2.2 = σ.2.2.2 + zAl 20 → V 4 [(0, .ref 14), (1, .int s), (2, .ref 4)] (r.toList ++ []) σ')
  refine hclear_4 (zR_of hI rfl rfl) (fun _ => ?_)
  refine zq (σ := (zuI σ 4 2 0)) hV hI rfl 2 ?_
  show V 6 [(3, .int 0), (0, .ref 14), (1, .int s), (2, .ref 4)] [] (zuI σ 4 2 0)
  refine zwk hV [1, 2, 3, 0] rfl ?_
  have Hi : ∀ (r : Nat) (i : Nat) (τ : zSt), i + r = k → zOnly (zfL 4 (zcn s k)) σ τ → τ.1 4 2 = nI (zcn s i) → (∀ q, q < zcn s i → τ.1 5 q = zLy s (σ.1 15) i q ∧ τ.1 6 q = zLy s (σ.1 16) i q) → V 6 [(0, .ref 14), (1, .int s), (2, .ref 4), (3, .int (nI i))] [] τ := by
    intro r
    induction r with
    | zero =>
      intro i τ hir ht h7 hES
      have hIτ := zQI_eq hI ht.2.2
      have hnτ : τ.2.2.2 = σ.2.2.2 := congrArg Prod.snd ht.2.2
      have hst : τ.1 14 3 = nI k := (ht.1 14 3 (by unfold zfL; simp)).trans hs
      refine zq (σ := τ) hV hIτ hnτ 4 ?_
      show ((τ.1 14 3) ≤ (nI i) → V 48 [(0, .ref 14), (1, .int s), (2, .ref 4), (3, .int (nI i))] [] τ) ∧ (¬ (τ.1 14 3) ≤ (nI i) → V 14 [(0, .ref 14), (1, .int s), (2, .ref 4), (3, .int (nI i))] [] τ)
      refine ⟨fun _ => ?_, fun hc => absurd (show (τ.1 14 3) ≤ nI i by rw [hst]; exact zge_self (by omega)) hc⟩
      refine zq (σ := τ) hV hIτ hnτ 1 ?_
      show K none τ
      obtain rfl : i = k := by omega
      exact hK τ ht h7 hES
    | succ r ihi =>
      intro i τ hir ht h7 hES
      have hIτ := zQI_eq hI ht.2.2
      have hnτ : τ.2.2.2 = σ.2.2.2 := congrArg Prod.snd ht.2.2
      have hst : τ.1 14 3 = nI k := (ht.1 14 3 (by unfold zfL; simp)).trans hs
      refine zq (σ := τ) hV hIτ hnτ 4 ?_
      show ((τ.1 14 3) ≤ (nI i) → V 48 [(0, .ref 14), (1, .int s), (2, .ref 4), (3, .int (nI i))] [] τ) ∧ (¬ (τ.1 14 3) ≤ (nI i) → V 14 [(0, .ref 14), (1, .int s), (2, .ref 4), (3, .int (nI i))] [] τ)
      refine ⟨fun hc => absurd hc (show ¬ (τ.1 14 3) ≤ nI i by rw [hst]; exact nI_ge (by omega) (by omega)), fun _ => ?_⟩
      refine zq (σ := τ) hV hIτ hnτ 6 ?_
      show (((s >>> ((nI i) &&& 31)) &&& 1) = 0 → V 42 [(0, .ref 14), (1, .int s), (2, .ref 4), (3, .int (nI i))] [] τ) ∧ (¬ ((s >>> ((nI i) &&& 31)) &&& 1) = 0 → V 22 [(0, .ref 14), (1, .int s), (2, .ref 4), (3, .int (nI i))] [] τ)
      refine ⟨fun h_19 => ?_, fun h_19 => ?_⟩
      · skip
        refine zq (σ := τ) hV hIτ hnτ 2 ?_
        show V 6 [(3, .int ((nI i) + 1)), (0, .ref 14), (1, .int s), (2, .ref 4)] [] τ
        refine zwk hV [1, 2, 3, 0] rfl ?_
        rw [nI_1]
        have hc : zcn s (i + 1) = zcn s i := if_pos h_19
        refine ihi (i + 1) _ (by omega) ht (by rw [hc]; exact h7) (fun q hq => ?_)
        rw [hc] at hq
        have e1 : zLy s (σ.1 15) (i + 1) = zLy s (σ.1 15) i := if_pos h_19
        have e2 : zLy s (σ.1 16) (i + 1) = zLy s (σ.1 16) i := if_pos h_19
        rw [e1, e2]; exact hES q hq
      · skip
        refine zq (σ := τ) hV hIτ hnτ 5 ?_
        show zSp _ 128 [.ref 15, .int (nI i)] τ (fun r σ' => σ'.2.2.2 = τ.2.2.2 + zAl 128 → V 31 [(0, .ref 14), (1, .int s), (2, .ref 4), (3, .int (nI i))] (r.toList ++ [.ref 4]) σ')
        refine item_15 (zA_of hIτ rfl) rfl (by omega) (fun _ => ?_)
        refine zq (σ := τ) hV hIτ hnτ 4 ?_
        show zSp _ 128 [.ref 16, .int (nI i)] τ (fun r σ' => σ'.2.2.2 = τ.2.2.2 + zAl 128 → V 39 [(0, .ref 14), (1, .int s), (2, .ref 4), (3, .int (nI i))] (r.toList ++ [.int (τ.1 15 i), .ref 4]) σ')
        refine item_16 (zA_of hIτ rfl) rfl (by omega) (fun _ => ?_)
        refine zq (σ := τ) hV hIτ hnτ 1 ?_
        show zSp _ 21 [.ref 4, .int (τ.1 15 i), .int (τ.1 16 i)] τ (fun r σ' => σ'.2.2.2 = τ.2.2.2 + zAl 21 → V 42 [(0, .ref 14), (1, .int s), (2, .ref 4), (3, .int (nI i))] (r.toList ++ []) σ')
        have hcn := zcn_le s i
        refine hadd_4 (zR_of hIτ rfl rfl) (m := zcn s i) h7 (by omega) (fun _ => ?_)
        refine zq (σ := (zuI (zuI (zuI τ 5 (zcn s i) (τ.1 15 i)) 6 (zcn s i) (τ.1 16 i)) 4 2 (nI (zcn s i + 1)))) hV hIτ hnτ 2 ?_
        show V 6 [(3, .int ((nI i) + 1)), (0, .ref 14), (1, .int s), (2, .ref 4)] [] (zuI (zuI (zuI τ 5 (zcn s i) (τ.1 15 i)) 6 (zcn s i) (τ.1 16 i)) 4 2 (nI (zcn s i + 1)))
        refine zwk hV [1, 2, 3, 0] rfl ?_
        rw [nI_1]
        have hc : zcn s (i + 1) = zcn s i + 1 := if_neg h_19
        have hm2 := zcn_mono s (show i + 1 ≤ k by omega)
        refine ihi (i + 1) _ (by omega) (((ht.uI (by unfold zfL; simp; try omega)).uI (by unfold zfL; simp; try omega)).uI (by unfold zfL; simp; try omega)) ?_ ?_
        · rw [hc]; simp [zuI_get]
        · intro q hq
          rw [hc] at hq
          have e1 : zLy s (σ.1 15) (i + 1) = upd (zLy s (σ.1 15) i) (zcn s i) (σ.1 15 i) := if_neg h_19
          have e2 : zLy s (σ.1 16) (i + 1) = upd (zLy s (σ.1 16) i) (zcn s i) (σ.1 16 i) := if_neg h_19
          rw [e1, e2]
          have f1 : τ.1 15 i = σ.1 15 i := ht.1 15 i (by unfold zfL; simp)
          have f2 : τ.1 16 i = σ.1 16 i := ht.1 16 i (by unfold zfL; simp)
          simp only [zuI_get]
          unfold upd
          by_cases e : q = zcn s i
          · subst e; simp [f1, f2]
          · have := hES q (by omega); simp [e, this]
  exact Hi k 0 _ (by omega) (zOnly.rf.uI (by unfold zfL; simp)) rfl (fun q hq => absurd hq (Nat.not_lt_zero q))
theorem zfL_C {c : Nat} (a j : Nat) (h : zfC a j = false) : zfL 7 c a j = false := by
  unfold zfC at h; unfold zfL
  rw [Bool.and_eq_false_iff] at h
  have c1 : ∀ x y, Nat.ble x y = false ↔ y < x := fun x y => by rw [← Bool.not_eq_true, Nat.ble_eq]; omega
  have c2 : ∀ y, Nat.beq a y = false ↔ a ≠ y := fun y => by rw [← Bool.not_eq_true, Nat.beq_eq]
  rw [Bool.or_eq_false_iff, Bool.and_eq_false_iff, Bool.and_eq_false_iff, Bool.or_eq_false_iff]
  simp only [c1, c2] at h ⊢
  omega
set_option maxRecDepth 8000 in
set_option maxHeartbeats 4000000 in
theorem cheapest_C {d : Nat} {σ : zSt} {K : Option Value → zSt → Prop} {n k : Nat} (hI : zQI (kR 0 30) σ.2.2) (hn : σ.1 1 2 = nI n) (hn10 : n ≤ 10) (hsp : σ.1 14 3 = nI k) (hk : k ≤ 7) (hspE : ∀ j, j < k → ∃ e, σ.1 15 j = nI e ∧ e < n) (hK : ∀ τ, zOnly zfC σ τ → K (some (.int (zChe n (σ.1 2) (σ.1 3) (σ.1 0 9) (σ.1 15) (σ.1 16) (σ.1 17) k))) τ) : zSp (d + 5) mX8_cheapest [.ref 0] σ K := by
  refine ⟨⟨by decide, Nat.le_of_ble_eq_true rfl⟩, fun V hV => ?_⟩
  refine zq (σ := σ) hV hI rfl 4 ?_
  show V 4 [(2, .int 1), (1, .int (-1)), (0, .ref 0)] [] σ
  refine zwk hV [2, 1, 0] rfl ?_
  have Hi : ∀ (r : Nat) (i : Nat) (x : Int32) (τ : zSt), i + r = 2 ^ k → zOnly zfC σ τ → zCp (zSpH n (σ.1 2) (σ.1 3) (σ.1 0 9) (σ.1 15) (σ.1 16) k) (zBet (σ.1 17) k) r i x = (zChe n (σ.1 2) (σ.1 3) (σ.1 0 9) (σ.1 15) (σ.1 16) (σ.1 17) k) → V 4 [(0, .ref 0), (1, .int x), (2, .int (nI i))] [] τ := by
    intro r
    induction r with
    | zero =>
      intro i x τ hir ht hfin
      have hIτ := zQI_eq hI ht.2.2
      have hnτ : τ.2.2.2 = σ.2.2.2 := congrArg Prod.snd ht.2.2
      have hst : τ.1 14 3 = nI k := (ht.1 14 3 rfl).trans hsp
      have e15 : τ.1 15 = σ.1 15 := funext fun j => ht.1 15 j rfl
      have e16 : τ.1 16 = σ.1 16 := funext fun j => ht.1 16 j rfl
      have e17 : τ.1 17 = σ.1 17 := funext fun j => ht.1 17 j rfl
      refine zq (σ := τ) hV hIτ hnτ 5 ?_
      show zSp _ 59 [.ref 14] τ (fun r σ' => σ'.2.2.2 = τ.2.2.2 + zAl 59 → V 13 [(0, .ref 0), (1, .int x), (2, .int (nI i))] (r.toList ++ [.int 1, .int (nI i)]) σ')
      refine ssize_ok (zR_of hIτ rfl rfl) (fun _ => ?_)
      rw [hst]
      refine zq (σ := τ) hV hIτ hnτ 2 ?_
      show ((1 <<< ((nI k) &&& 31)) ≤ (nI i) → V 69 [(0, .ref 0), (1, .int x), (2, .int (nI i))] [] τ) ∧ (¬ (1 <<< ((nI k) &&& 31)) ≤ (nI i) → V 17 [(0, .ref 0), (1, .int x), (2, .int (nI i))] [] τ)
      refine ⟨fun _ => ?_, fun hc => absurd (show (1 : Int32) <<< (nI k &&& 31) ≤ nI i by rw [zshl hk]; exact zge_self (by omega)) hc⟩
      refine zq (σ := τ) hV hIτ hnτ 2 ?_
      show K (some (.int x)) τ
      replace hfin : x = _ := hfin
      rw [hfin]
      exact hK τ ht
    | succ r ihi =>
      intro i x τ hir ht hfin
      have hIτ := zQI_eq hI ht.2.2
      have hnτ : τ.2.2.2 = σ.2.2.2 := congrArg Prod.snd ht.2.2
      have hst : τ.1 14 3 = nI k := (ht.1 14 3 rfl).trans hsp
      have e15 : τ.1 15 = σ.1 15 := funext fun j => ht.1 15 j rfl
      have e16 : τ.1 16 = σ.1 16 := funext fun j => ht.1 16 j rfl
      have e17 : τ.1 17 = σ.1 17 := funext fun j => ht.1 17 j rfl
      refine zq (σ := τ) hV hIτ hnτ 5 ?_
      show zSp _ 59 [.ref 14] τ (fun r σ' => σ'.2.2.2 = τ.2.2.2 + zAl 59 → V 13 [(0, .ref 0), (1, .int x), (2, .int (nI i))] (r.toList ++ [.int 1, .int (nI i)]) σ')
      refine ssize_ok (zR_of hIτ rfl rfl) (fun _ => ?_)
      rw [hst]
      refine zq (σ := τ) hV hIτ hnτ 2 ?_
      show ((1 <<< ((nI k) &&& 31)) ≤ (nI i) → V 69 [(0, .ref 0), (1, .int x), (2, .int (nI i))] [] τ) ∧ (¬ (1 <<< ((nI k) &&& 31)) ≤ (nI i) → V 17 [(0, .ref 0), (1, .int x), (2, .int (nI i))] [] τ)
      refine ⟨fun hc => absurd hc (show ¬ (1 : Int32) <<< (nI k &&& 31) ≤ nI i by rw [zshl hk]; exact nI_ge (by omega) (by have := z2k hk; omega)), fun _ => ?_⟩
      refine zq (σ := τ) hV hIτ hnτ 3 ?_
      show (x = (-1) → V 34 [(0, .ref 0), (1, .int x), (2, .int (nI i))] [] τ) ∧ (¬ x = (-1) → V 22 [(0, .ref 0), (1, .int x), (2, .int (nI i))] [] τ)
      refine ⟨fun h_19 => ?_, fun h_19 => ?_⟩
      · skip
        refine zq (σ := τ) hV hIτ hnτ 6 ?_
        show zSp _ 64 [.ref 14, .int (nI i), .ref 7] τ (fun r σ' => σ'.2.2.2 = τ.2.2.2 + zAl 64 → V 46 [(0, .ref 0), (1, .int x), (2, .int (nI i))] (r.toList ++ []) σ')
        refine layOut_7 (zR_of hIτ rfl rfl) hst hk (fun υ hu0 h7 hES _ => ?_)
        rw [e15, e16] at hES
        have hu : zOnly zfC σ υ := ht.tr (hu0.wk zfL_C)
        have hIυ := zQI_eq hI hu.2.2
        have hnυ : υ.2.2.2 = σ.2.2.2 := congrArg Prod.snd hu.2.2
        refine zq (σ := υ) hV hIυ hnυ 4 ?_
        show zSp _ 92 [.ref 0, .ref 7] υ (fun r σ' => σ'.2.2.2 = υ.2.2.2 + zAl 92 → V 54 [(0, .ref 0), (1, .int x), (2, .int (nI i))] (r.toList ++ []) σ')
        have hcn := zcn_le (nI i) k
        refine heldT hI hn hn10 hu h7 (by omega) hES (zLy_in hspE) (fun φ hf hf7 hfe hq _ => ?_) (fun φ hf hf7 hfe hq _ => ?_)
        · skip
          have hIφ := zQI_eq hI hf.2.2
          have hnφ : φ.2.2.2 = σ.2.2.2 := congrArg Prod.snd hf.2.2
          refine zq (σ := φ) hV hIφ hnφ 1 ?_
          show ((1 : Int32) = 0 → V 61 [(0, .ref 0), (1, .int x), (2, .int (nI i))] [] φ) ∧ (¬ (1 : Int32) = 0 → V 57 [(0, .ref 0), (1, .int x), (2, .int (nI i))] [] φ)
          refine ⟨fun hc => absurd hc (by decide), fun _ => ?_⟩
          refine zq (σ := φ) hV hIφ hnφ 5 ?_
          show V 4 [(2, .int ((nI i) + 1)), (1, .int (nI i)), (0, .ref 0)] [] φ
          refine zwk hV [2, 1, 0] rfl ?_
          rw [nI_1]
          refine ihi (i + 1) _ φ (by omega) hf ?_
          rw [← hfin]
          show zCp (zSpH n (σ.1 2) (σ.1 3) (σ.1 0 9) (σ.1 15) (σ.1 16) k) _ r (i + 1) _ = zCp (zSpH n (σ.1 2) (σ.1 3) (σ.1 0 9) (σ.1 15) (σ.1 16) k) _ r (i + 1) (if (x = -1 ∨ zBet (σ.1 17) k (nI i) x = true) ∧ (zSpH n (σ.1 2) (σ.1 3) (σ.1 0 9) (σ.1 15) (σ.1 16) k) (nI i) = true then nI i else x)
          rw [if_pos ⟨(Or.inl h_19), zDc_t hq⟩]
        · skip
          have hIφ := zQI_eq hI hf.2.2
          have hnφ : φ.2.2.2 = σ.2.2.2 := congrArg Prod.snd hf.2.2
          refine zq (σ := φ) hV hIφ hnφ 1 ?_
          show ((0 : Int32) = 0 → V 61 [(0, .ref 0), (1, .int x), (2, .int (nI i))] [] φ) ∧ (¬ (0 : Int32) = 0 → V 57 [(0, .ref 0), (1, .int x), (2, .int (nI i))] [] φ)
          refine ⟨fun _ => ?_, fun hc => absurd (by decide) hc⟩
          refine zq (σ := φ) hV hIφ hnφ 4 ?_
          show V 4 [(2, .int ((nI i) + 1)), (1, .int x), (0, .ref 0)] [] φ
          refine zwk hV [2, 1, 0] rfl ?_
          rw [nI_1]
          refine ihi (i + 1) _ φ (by omega) hf ?_
          rw [← hfin]
          show zCp (zSpH n (σ.1 2) (σ.1 3) (σ.1 0 9) (σ.1 15) (σ.1 16) k) _ r (i + 1) _ = zCp (zSpH n (σ.1 2) (σ.1 3) (σ.1 0 9) (σ.1 15) (σ.1 16) k) _ r (i + 1) (if (x = -1 ∨ zBet (σ.1 17) k (nI i) x = true) ∧ (zSpH n (σ.1 2) (σ.1 3) (σ.1 0 9) (σ.1 15) (σ.1 16) k) (nI i) = true then nI i else x)
          rw [if_neg (fun q => hq (zDc_i.mp q.2))]
      · skip
        refine zq (σ := τ) hV hIτ hnτ 5 ?_
        show zSp _ 63 [.ref 14, .int (nI i), .int x] τ (fun r σ' => σ'.2.2.2 = τ.2.2.2 + zAl 63 → V 31 [(0, .ref 0), (1, .int x), (2, .int (nI i))] (r.toList ++ []) σ')
        refine isBetter_ok (zR_of hIτ rfl rfl) hst hk (fun hb1 _ => ?_) (fun hb1 _ => ?_)
        · skip
          refine zq (σ := τ) hV hIτ hnτ 1 ?_
          show ((1 : Int32) = 0 → V 63 [(0, .ref 0), (1, .int x), (2, .int (nI i))] [] τ) ∧ (¬ (1 : Int32) = 0 → V 34 [(0, .ref 0), (1, .int x), (2, .int (nI i))] [] τ)
          refine ⟨fun hc => absurd hc (by decide), fun _ => ?_⟩
          refine zq (σ := τ) hV hIτ hnτ 6 ?_
          show zSp _ 64 [.ref 14, .int (nI i), .ref 7] τ (fun r σ' => σ'.2.2.2 = τ.2.2.2 + zAl 64 → V 46 [(0, .ref 0), (1, .int x), (2, .int (nI i))] (r.toList ++ []) σ')
          refine layOut_7 (zR_of hIτ rfl rfl) hst hk (fun υ hu0 h7 hES _ => ?_)
          rw [e15, e16] at hES
          have hu : zOnly zfC σ υ := ht.tr (hu0.wk zfL_C)
          have hIυ := zQI_eq hI hu.2.2
          have hnυ : υ.2.2.2 = σ.2.2.2 := congrArg Prod.snd hu.2.2
          refine zq (σ := υ) hV hIυ hnυ 4 ?_
          show zSp _ 92 [.ref 0, .ref 7] υ (fun r σ' => σ'.2.2.2 = υ.2.2.2 + zAl 92 → V 54 [(0, .ref 0), (1, .int x), (2, .int (nI i))] (r.toList ++ []) σ')
          have hcn := zcn_le (nI i) k
          refine heldT hI hn hn10 hu h7 (by omega) hES (zLy_in hspE) (fun φ hf hf7 hfe hq _ => ?_) (fun φ hf hf7 hfe hq _ => ?_)
          · skip
            have hIφ := zQI_eq hI hf.2.2
            have hnφ : φ.2.2.2 = σ.2.2.2 := congrArg Prod.snd hf.2.2
            refine zq (σ := φ) hV hIφ hnφ 1 ?_
            show ((1 : Int32) = 0 → V 61 [(0, .ref 0), (1, .int x), (2, .int (nI i))] [] φ) ∧ (¬ (1 : Int32) = 0 → V 57 [(0, .ref 0), (1, .int x), (2, .int (nI i))] [] φ)
            refine ⟨fun hc => absurd hc (by decide), fun _ => ?_⟩
            refine zq (σ := φ) hV hIφ hnφ 5 ?_
            show V 4 [(2, .int ((nI i) + 1)), (1, .int (nI i)), (0, .ref 0)] [] φ
            refine zwk hV [2, 1, 0] rfl ?_
            rw [nI_1]
            refine ihi (i + 1) _ φ (by omega) hf ?_
            rw [← hfin]
            show zCp (zSpH n (σ.1 2) (σ.1 3) (σ.1 0 9) (σ.1 15) (σ.1 16) k) _ r (i + 1) _ = zCp (zSpH n (σ.1 2) (σ.1 3) (σ.1 0 9) (σ.1 15) (σ.1 16) k) _ r (i + 1) (if (x = -1 ∨ zBet (σ.1 17) k (nI i) x = true) ∧ (zSpH n (σ.1 2) (σ.1 3) (σ.1 0 9) (σ.1 15) (σ.1 16) k) (nI i) = true then nI i else x)
            rw [if_pos ⟨(Or.inr (by have y := hb1; rw [e17] at y; exact y)), zDc_t hq⟩]
          · skip
            have hIφ := zQI_eq hI hf.2.2
            have hnφ : φ.2.2.2 = σ.2.2.2 := congrArg Prod.snd hf.2.2
            refine zq (σ := φ) hV hIφ hnφ 1 ?_
            show ((0 : Int32) = 0 → V 61 [(0, .ref 0), (1, .int x), (2, .int (nI i))] [] φ) ∧ (¬ (0 : Int32) = 0 → V 57 [(0, .ref 0), (1, .int x), (2, .int (nI i))] [] φ)
            refine ⟨fun _ => ?_, fun hc => absurd (by decide) hc⟩
            refine zq (σ := φ) hV hIφ hnφ 4 ?_
            show V 4 [(2, .int ((nI i) + 1)), (1, .int x), (0, .ref 0)] [] φ
            refine zwk hV [2, 1, 0] rfl ?_
            rw [nI_1]
            refine ihi (i + 1) _ φ (by omega) hf ?_
            rw [← hfin]
            show zCp (zSpH n (σ.1 2) (σ.1 3) (σ.1 0 9) (σ.1 15) (σ.1 16) k) _ r (i + 1) _ = zCp (zSpH n (σ.1 2) (σ.1 3) (σ.1 0 9) (σ.1 15) (σ.1 16) k) _ r (i + 1) (if (x = -1 ∨ zBet (σ.1 17) k (nI i) x = true) ∧ (zSpH n (σ.1 2) (σ.1 3) (σ.1 0 9) (σ.1 15) (σ.1 16) k) (nI i) = true then nI i else x)
            rw [if_neg (fun q => hq (zDc_i.mp q.2))]
        · skip
          refine zq (σ := τ) hV hIτ hnτ 1 ?_
          show ((0 : Int32) = 0 → V 63 [(0, .ref 0), (1, .int x), (2, .int (nI i))] [] τ) ∧ (¬ (0 : Int32) = 0 → V 34 [(0, .ref 0), (1, .int x), (2, .int (nI i))] [] τ)
          refine ⟨fun _ => ?_, fun hc => absurd (by decide) hc⟩
          refine zq (σ := τ) hV hIτ hnτ 2 ?_
          show V 4 [(2, .int ((nI i) + 1)), (0, .ref 0), (1, .int x)] [] τ
          refine zwk hV [1, 2, 0] rfl ?_
          rw [nI_1]
          refine ihi (i + 1) _ τ (by omega) ht ?_
          rw [← hfin]
          show zCp (zSpH n (σ.1 2) (σ.1 3) (σ.1 0 9) (σ.1 15) (σ.1 16) k) _ r (i + 1) _ = zCp (zSpH n (σ.1 2) (σ.1 3) (σ.1 0 9) (σ.1 15) (σ.1 16) k) _ r (i + 1) (if (x = -1 ∨ zBet (σ.1 17) k (nI i) x = true) ∧ (zSpH n (σ.1 2) (σ.1 3) (σ.1 0 9) (σ.1 15) (σ.1 16) k) (nI i) = true then nI i else x)
          rw [if_neg (fun q => q.1.elim h_19 (fun y => hb1 (by rw [e17]; exact y)))]
  exact Hi (2 ^ k - 1) 1 (-1) σ (by have := z2k hk; omega) zOnly.rf rfl
set_option maxRecDepth 8000 in
set_option maxHeartbeats 4000000 in
theorem take_C {d : Nat} {σ : zSt} {K : Option Value → zSt → Prop} {n k : Nat} (hI : zQI (kR 0 30) σ.2.2) (hn : σ.1 1 2 = nI n) (hn10 : n ≤ 10) (hsp : σ.1 14 3 = nI k) (hk : k ≤ 7) (hspE : ∀ j, j < k → ∃ e, σ.1 15 j = nI e ∧ e < n) (hNo : ∀ τ, zOnly zfC σ τ → (zChe n (σ.1 2) (σ.1 3) (σ.1 0 9) (σ.1 15) (σ.1 16) (σ.1 17) k) = -1 → K (some (.int (-3))) τ)
    (hOk : ∀ τ υ be, zOnly zfC σ τ → be = (zChe n (σ.1 2) (σ.1 3) (σ.1 0 9) (σ.1 15) (σ.1 16) (σ.1 17) k) → ¬ be = -1 → zOnly (zfL 4 (zcn be k)) τ υ → υ.1 4 2 = nI (zcn be k) → (∀ q, q < zcn be k → υ.1 5 q = zLy be (σ.1 15) k q ∧ υ.1 6 q = zLy be (σ.1 16) k q) → K (some (.int (zPx be (σ.1 17) k))) υ) : zSp (d + 6) mX8_take [.ref 0] σ K := by
  refine ⟨⟨by decide, Nat.le_of_ble_eq_true rfl⟩, fun V hV => ?_⟩
  refine zq (σ := σ) hV hI rfl 2 ?_
  show zSp _ 94 [.ref 0] σ (fun r σ' => σ'.2.2.2 = σ.2.2.2 + zAl 94 → V 4 [(0, .ref 0)] (r.toList ++ []) σ')
  refine cheapest_C hI hn hn10 hsp hk hspE (fun τ ht _ => ?_)
  have hIτ := zQI_eq hI ht.2.2
  have hnτ : τ.2.2.2 = σ.2.2.2 := congrArg Prod.snd ht.2.2
  generalize hbe : (zChe n (σ.1 2) (σ.1 3) (σ.1 0 9) (σ.1 15) (σ.1 16) (σ.1 17) k) = be
  refine zq (σ := τ) hV hIτ hnτ 4 ?_
  show (¬ be = (-1) → V 13 [(1, .int be), (0, .ref 0)] [] τ) ∧ (¬ (¬ be = (-1)) → V 10 [(1, .int be), (0, .ref 0)] [] τ)
  refine ⟨fun h_7 => ?_, fun h_7 => ?_⟩
  · skip
    refine zq (σ := τ) hV hIτ hnτ 6 ?_
    show zSp _ 64 [.ref 14, .int be, .ref 4] τ (fun r σ' => σ'.2.2.2 = τ.2.2.2 + zAl 64 → V 25 [(1, .int be), (0, .ref 0)] (r.toList ++ []) σ')
    have hst : τ.1 14 3 = nI k := (ht.1 14 3 rfl).trans hsp
    have e15 : τ.1 15 = σ.1 15 := funext fun j => ht.1 15 j rfl
    have e16 : τ.1 16 = σ.1 16 := funext fun j => ht.1 16 j rfl
    have e17 : τ.1 17 = σ.1 17 := funext fun j => ht.1 17 j rfl
    refine layOut_4 (zR_of hIτ rfl rfl) hst hk (fun υ hu h4 hES _ => ?_)
    rw [e15, e16] at hES
    have hIυ := zQI_eq hIτ hu.2.2
    have hnυ : υ.2.2.2 = σ.2.2.2 := (congrArg Prod.snd hu.2.2).trans hnτ
    have hsu : υ.1 14 3 = nI k := (hu.1 14 3 (by unfold zfL; simp)).trans hst
    have eu7 : υ.1 17 = τ.1 17 := funext fun j => hu.1 17 j (by unfold zfL; simp)
    refine zq (σ := υ) hV hIυ hnυ 4 ?_
    show zSp _ 62 [.ref 14, .int be] υ (fun r σ' => σ'.2.2.2 = υ.2.2.2 + zAl 62 → V 33 [(1, .int be), (0, .ref 0)] (r.toList ++ []) σ')
    refine price_ok (zR_of hIυ rfl rfl) hsu hk (fun _ => ?_)
    rw [eu7, e17]
    refine zq (σ := υ) hV hIυ hnυ 1 ?_
    show K (some (.int (zPx be (σ.1 17) k))) υ
    exact hOk τ υ be ht hbe.symm h_7 hu h4 hES
  · skip
    have h_7 := Classical.not_not.mp h_7
    refine zq (σ := τ) hV hIτ hnτ 2 ?_
    show K (some (.int (-3))) τ
    exact hNo τ ht (hbe.trans h_7)
end
section
theorem zlaw_ok (L : Nat) (xs : Nat → Int32) (hL : L ≤ 3072) : zLaw (L, xs) := sorry
end
section
-- ===== end of PART A; then your names; then what follows =====
/-! THE CLAIM OUT OF ONE WALK OF THE LAW'S BODY. Your part is whole_start (and what it stands on); all else here is the same for every law, but numbers. -/
def R_law : String := "GripBenchLaw"
def lw_P (b : Addr) (xs : List Int32) (args : Array Value) (s : State) : Prop := args = #[.ref b] ∧ s.IntsAt b xs ∧ xs.length ≤ 3072 ∧ (Jvm.Cond.and given_1 narrow_1).before args s = true
def lw_Q (_ : Array Value) (s : State) (o : Outcome) (t : State) : Prop := o = .returned (some (.int 1)) ∧ Framed s o t [] 52 1208
def lw_Z (below : List Frame) (a : Array Value) (s : State) : State → Prop := fun t => ∃ o, t.status = .running ∧ Ended t below o ∧ lw_Q a s o t
/-- the law's own end, with 1 on the stack, nothing written that was there before, its room as the claim has it -/
theorem lw_ret {p : Program} {l : Launch} {e : Env} {s : State} {m : MethodId} {below : List Frame} {meth : Method} {c : Code} {b : Nat} (hx : p.tables.exec = Jvm.exec) (hb : c.code = code) (hr : meth.sig.returnType = ret) (hlocks : meth.locks = false) {pc : Nat} {H : Heap} {ls : Array Slot} (hdg : decode code pc = .ok (.ireturn, 1)) : W p l e room_1 s m #[Value.ref b] below meth c H [] 52 1208 (lw_Z below #[Value.ref b] s) (F0 m pc ls [.int 1]) := by
  intro T hT X
  obtain ⟨fs, hret, hrun, hended, hW, hframe⟩ := X.leave (v := some (.int 1)) (hlocks := hlocks) (fun h => by rw [hr] at h; cases h)
  have hmeth' : T.vm.method? m = some meth := X.method'
  refine ⟨T.setFrames fs, ?_, .returned (some (.int 1)), hrun, hended, rfl, ⟨_, rfl⟩, hW, hframe⟩
  jvm_step X.here [X.here.top, hx, hb, hdg, hmeth', hr, ret, narrow_b1]
  (try refine ⟨rfl, ?_⟩); (try refine ⟨rfl, ?_⟩)
  first | (intro acts; rw [hret _ acts rfl rfl rfl]) | rw [hret _ _ rfl rfl rfl]
  exact Steps.refl _
/-- what holds at the law's entry: the machine, the code, the tables' words (any of lw_tbl by 'hts w (by decide +kernel)'), the script of L ints xs at the cell b, what the Statement gives of the start (any of its parts by flat_of_before) -/
def lw_At (p : Program) (s : State) (m : MethodId) (meth : Method) (c : Code) (b L : Nat) (xs : Nat → Int32) : Prop :=
  p.tables.exec = Jvm.exec ∧ c.code = code ∧ meth.sig.returnType = ret ∧ c.maxLocals = 4 ∧ s.vm.findClass R_law = some m.cls ∧ (∀ w ∈ lw_tbl, w.before #[Value.ref b] s = true) ∧ va_X b L xs s s.heap ∧ b < s.heap.size ∧ meth.locks = false ∧ (Jvm.Cond.and given_1 narrow_1).before #[Value.ref b] s = true
theorem whole_start {p : Program} {e : Env} {s : State} {m : MethodId} {below : List Frame} {meth : Method} {c : Code} (l : Launch) (hflags : l.flags = flags0) {b L : Nat} {xs : Nat → Int32} (hL : L ≤ 3072) (C0 : lw_At p s m meth c b L xs) : W p l e room_1 s m #[Value.ref b] below meth c s.heap [] 0 0 (lw_Z below #[Value.ref b] s) (entryFrame m ([Value.ref b] : List Value).toArray 4) := by
  obtain ⟨hx, hb, hr, hml, hown, hts, hX, hbl, hlocks, hgv⟩ := id C0
  have hBG : ∀ w ∈ zBG, w.before #[Value.ref b] s = true := fun w h => hts w (wsL_law_in w h)
  have hkn : ∀ ci, ∃ (cC : ClassId) (iS : Nat → Nat), ci < 10 → u_Kn s (zNo ci) (zTT ci) (zNF ci) cC iS := by
    intro ci
    by_cases h : ci < 10
    · obtain ⟨cC, iS, h1⟩ := u_known hBG (zin h) (hBG _ (zn_ok h).1)
      exact ⟨cC, iS, fun _ => h1⟩
    · exact ⟨0, fun _ => 0, fun q => absurd q h⟩
  obtain ⟨D, hKc⟩ : ∃ D : va_G, ∀ (k : Nat) (q : vw_C), vwCl[k]? = some q → u_Kn s q.1 q.2.1 q.2.2 (D.1 k) (D.2 k) := by
    refine ⟨(fun ci => Classical.choose (hkn ci), fun ci => Classical.choose (Classical.choose_spec (hkn ci))), fun k q hq => ?_⟩
    have hk : k < 10 := (List.getElem?_eq_some_iff.mp hq).1
    have h1 := Classical.choose_spec (Classical.choose_spec (hkn k)) hk
    rw [zcl_at hk] at hq
    cases hq
    exact h1
  obtain ⟨cI, kI, pI, hI1, hI2, hI3⟩ := Cond.arrayClass_spec (hBG _ zk_o.2.2.1)
  obtain ⟨cJ, kJ, pJ, hJ1, hJ2, hJ3⟩ := Cond.arrayClass_spec (hBG _ zk_o.2.2.2)
  have hKK : zKK D (s.heap.size, b, cI, cJ) s := by
    refine ⟨⟨hKc, fun k q hq => ?_⟩, fun q hq => va_Nw.of rfl (hts _ (zNS_in q hq))⟩
    match k, hq with
    | 0, hq => cases hq; exact ⟨fun N z => ⟨fun k h => (by cases h), kI, hI2, pI, hI3⟩, hI1⟩
    | 1, hq => cases hq; exact ⟨fun N z => ⟨fun k h => (by cases h), kJ, hJ2, pJ, hJ3⟩, hJ1⟩
    | k + 2, hq => simp at hq
  have F : zFx D (s.heap.size, b, cI, cJ) (L, xs) mL_law 7 0 52 p room_1 s m #[Value.ref b] meth c := ⟨⟨hx, hb, hml, hown⟩, hBG, hKK, ⟨by decide, by decide⟩, fun q => absurd q (by decide), fun _ => ⟨hX, hbl, hbl⟩, ⟨by decide, by rw [zSS_52]; decide⟩, by decide⟩
  have h1 := zlaw_ok L xs hL (zV D (s.heap.size, b, cI, cJ) mL_law 0 p l e room_1 s m #[Value.ref b] below meth c (lw_Z below #[Value.ref b] s)) ⟨(fun pc LL S σ hst => by
    unfold zST at hst
    split at hst
    · rename_i ins len hcd
      refine zstep F (zmet 7) ?_ ?_ ?_ hcd hst
      · intro v τ pc H locs ls cells slots hr' hn k hd hW' hS hc hs
        cases k
        have e1 : cells = 52 := by omega
        have e2 : slots = 1208 := by rw [hn, zSS_52] at hs; exact hs
        subst e1
        subst e2
        exact va_forget (fun q hq => hS.2.2 q hq) (lw_ret hx hb hr hlocks hd)
      · intro v τ pc H locs ls cells slots hr' hn k hd hW' hS hc hs
        cases k
      · intro τ pc H locs ls cells slots hr' hn k hd hW' hS hc hs
        cases k
    · exact hst.elim), fun _ _ _ _ _ hq hv => zV_weak hq hv⟩
  rw [lg_entry_eq]
  exact h1 s.heap [] _ 0 0 (lv_entry ([.ref b]) (n := 4) (Nat.le_of_ble_eq_true rfl)) ⟨fun k q h => by simp [zw, z0] at h, rfl, by decide⟩ va_S.rf rfl rfl
-- ===== YOUR PART ENDS =====
set_option maxHeartbeats 4000000 in
theorem lw_walk (l : Launch) (hflags : l.flags = flags0) (b : Addr) (xs : List Int32) : MetFree l x (headSpec (Jvm.Cond.code x code maxLocals ret :: tables_1) room_1) (lw_P b xs) (fun _ _ _ _ _ => True) lw_Q := by
  refine MetFree.of_bodyS (code := code) (maxLocals := maxLocals) (ret := ret) (by decide) ?_ ?_
  · intro args s m h hn
    obtain ⟨meth, c, h1, h2, h3, h4, h5, h6, -, -⟩ := Cond.code_spec hn (atoms_spec (ws := Jvm.Cond.code x code maxLocals ret :: tables_1) h _ List.mem_cons_self)
    exact ⟨meth, c, h1, h2, h3, h4, h5, h6⟩
  · intro p e s m args below meth c s₁ B hml0 hP _
    obtain ⟨rfl, hx, hbd, hgv⟩ := hP
    obtain ⟨scr, harrAt, hlist, hof, hsmall⟩ := hx
    obtain ⟨hcb, hkn, -, -⟩ := State.arrayAt?_spec harrAt
    have hown : s.vm.findClass R_law = some m.cls := findClass_of_methodNamed B.named
    have hts0 : ∀ c ∈ (Jvm.Cond.code x code maxLocals ret :: tables_1), c.before #[Value.ref b] s = true := atoms_spec (ws := Jvm.Cond.code x code maxLocals ret :: tables_1) B.pre
    have hts : ∀ w ∈ lw_tbl, w.before #[Value.ref b] s = true := k2_hts_sels lw_privs (fun w hw => hts0 w (List.mem_cons_of_mem _ hw)) lw_privs_ok
    have hml : c.maxLocals = 4 := B.maxLocals_eq (hts0 _ List.mem_cons_self)
    have X₀ : Stand p l e room_1 s m #[Value.ref b] below meth c s₁ [] 0 0 := Stand.of_body B
    have hh0 : s₁.heap = s.heap := by rw [B.state]; rfl
    have hsz : scr.slots.size = xs.length := by rw [← Array.length_toList, hlist, List.length_map]
    have hval : ∀ j : Nat, j < xs.length → scr.slots[j]? = some (.int (xs.getD j 0)) := fun j hj => by
      rw [← Array.getElem?_toList, hlist]
      simp [hj]
    have hbl : b < s.heap.size := (Array.getElem?_eq_some_iff.mp hcb).1
    have hX : va_X b xs.length (fun j => xs.getD j 0) s s.heap := ⟨scr, hcb, hof, hkn, hsz, hval⟩
    have K : W p l e room_1 s m #[Value.ref b] below meth c s₁.heap [] 0 0 (lw_Z below #[Value.ref b] s) (entryFrame m ([Value.ref b] : List Value).toArray 4) := by
      rw [hh0]
      exact whole_start l hflags hbd ⟨B.exec, B.bytes, B.returns, hml, hown, hts, hX, hbl, B.notSynchronized, hgv⟩
    obtain ⟨t, a1, o, b1, b2, b3⟩ := K s₁ rfl X₀
    exact ⟨t, o, a1, b1, b2, b3⟩
theorem lw_pre_spec {args : Array Value} {s : State} (h : (Jvm.Cond.and given_1 narrow_1).before args s = true) (hr : rest_1_c.before args s = true) : ∃ (b : Addr) (xs : List Int32), lw_P b xs args s := by
  have hs := flat_of_before _ h
  have hq := flat_of_before _ hr
  have hc : (Cond.count 1).before args s = true := hs _ (by decide +kernel)
  have harr : (Cond.arrayOf (.arg 0) .int).before args s = true := hs _ (by decide +kernel)
  have hle : (Cond.le (.length (.arg 0)) (.int 3072)).before args s = true := hs _ (by decide +kernel)
  have hlen : (Cond.isInt (.length (.arg 0))).before args s = true := hq _ (by decide +kernel)
  have hall : (Cond.all (.arg 0) (.isInt (.elem (.arg 0) (.index 0)))).before args s = true := hq _ (by decide +kernel)
  obtain ⟨b, xs, hb, hx⟩ := State.ints_of_pre rfl harr hlen hall
  have hsm : xs.length < 2 ^ 31 := hx.choose_spec.2.2.2
  have hev : (Term.length (.arg 0)).eval args s none [] s = some (.int xs.length.toInt32) := hx.length_eval hb
  have hv := Cond.le_ints hev (show (Term.int 3072).eval args s none [] s = some (.int 3072) from rfl)
  have hd : xs.length.toInt32 ≤ 3072 := by
    simpa [Cond.before, Cond.holds, hv] using hle
  have hN : xs.length ≤ 3072 := (Int32.ofNat_le_ofNat hsm (by decide)).mp (show Int32.ofNat xs.length ≤ Int32.ofNat 3072 from hd)
  exact ⟨b, xs, Cond.one_arg hc (show args[0]? = some (.ref b) from hb), hx, hN, h⟩
theorem lw_comes (l : Launch) (hflags : l.flags = flags0) : Comes l x (Jvm.Cond.code x code maxLocals ret :: tables_1) room_1 (fun tb e args s => Calls_1 tb e args s ∧ rest_1 tb e args s ∧ Pre_1 tb e args s)
    (fun _ _ args s o t => lw_Q args s o t) := by
  intro p e ha hc hk s m args below hf hfit hheap happ hpre
  obtain ⟨b, xs, hP⟩ := lw_pre_spec hpre.2.2 hpre.2.1
  obtain ⟨k, o, h1, h2, h3, hQ⟩ := lw_walk l hflags b xs p e ha hc hk s m args below hf ((Spec.applies_iff_loose hf).mp happ).1 hP trivial
  exact ⟨k, o, h1, h2, h3, hQ⟩
theorem lw_frame {s t : State} {o : Outcome} {args : Array Value} (h : Framed s o t [] 52 1208) :
    Framed s o t (fieldLocs frame_1_writes args s ++ arrayLocs frame_1_arrays args s ++ staticLocs frame_1_statics s) 52 1208 := h
theorem lw_limb (L : Cond) (hL : ∀ (args : Array Value) (s t : State), L.after args s (.returned (some (.int 1))) t = true) :
    ArmFor flags0 classFile x code maxLocals ret World_1 tables_1 room_1 Calls_1 rest_1 Pre_1
      (fun tb e a s o t => postC L tb e a s o t ∧ Framed s o t (fieldLocs frame_1_writes a s ++ arrayLocs frame_1_arrays a s ++ staticLocs frame_1_statics s) 52 1208) := by
  intro l hflags _ _ p e ha hc hk s m args below hf hfit hheap happ hpre
  obtain ⟨k, o, h1, h2, h3, rfl, hF⟩ := lw_comes l hflags p e ha hc hk s m args below hf hfit hheap happ hpre
  exact ⟨k, _, h1, h2, h3, hL args s _, lw_frame hF⟩
end
section
theorem i_vc : Claimed_1_1 ∧ Claimed_1_2 := ⟨lw_limb limb_1_1 (fun args s t => by simp [limb_1_1, Cond.after, Cond.holds, Cond.value]), lw_limb limb_1_2 (fun args s t => Cond.after_iff.mpr (by
  first | (rw [show limb_1_2 = Cond.eq .result (.int 1) from rfl, Cond.eq_ints (x := 1) (y := 1) rfl rfl]; simp; done) | (simp [limb_1_2, Cond.value, Term.eval]; done)))⟩
end
