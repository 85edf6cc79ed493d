-- ===== PART A: goes FIRST, ahead of the names: the tables' words, and 'selects' of the private methods out of them =====
/-- a private method of a class that the tables say can be made, by its rows of tables_1 -/
def lw_okq (q : MethodName × Nat) : Prop := (q.1.cls ≠ "java/lang/invoke/MethodHandle" ∧ q.1.cls ≠ "java/lang/invoke/VarHandle") ∧ Cond.instantiable q.1.cls q.2 ∈ tables_1 ∧ Cond.privateMethod q.1 ∈ tables_1 ∧ Cond.instanceMethod q.1 ∈ tables_1
theorem lw_p0 : lw_okq (⟨"GripBench", "isShape", "(II)Z"⟩, 10) := ⟨⟨by decide +kernel, by decide +kernel⟩, List.mem_of_getElem? (i := 14) (by decide +kernel), List.mem_of_getElem? (i := 264) (by decide +kernel), List.mem_of_getElem? (i := 265) (by decide +kernel)⟩
theorem lw_p1 : lw_okq (⟨"GripBench", "isStand", "(II)Z"⟩, 10) := ⟨⟨by decide +kernel, by decide +kernel⟩, List.mem_of_getElem? (i := 14) (by decide +kernel), List.mem_of_getElem? (i := 327) (by decide +kernel), List.mem_of_getElem? (i := 328) (by decide +kernel)⟩
theorem lw_p2 : lw_okq (⟨"GripBench", "isFinger", "(I)Z"⟩, 10) := ⟨⟨by decide +kernel, by decide +kernel⟩, List.mem_of_getElem? (i := 14) (by decide +kernel), List.mem_of_getElem? (i := 348) (by decide +kernel), List.mem_of_getElem? (i := 349) (by decide +kernel)⟩
theorem lw_p3 : lw_okq (⟨"GripBench$Triples", "add", "(IIII)V"⟩, 7) := ⟨⟨by decide +kernel, by decide +kernel⟩, List.mem_of_getElem? (i := 90) (by decide +kernel), List.mem_of_getElem? (i := 389) (by decide +kernel), List.mem_of_getElem? (i := 390) (by decide +kernel)⟩
theorem lw_p4 : lw_okq (⟨"GripBench", "isHeldBy", "(LGripBench$Hand;)Z"⟩, 10) := ⟨⟨by decide +kernel, by decide +kernel⟩, List.mem_of_getElem? (i := 14) (by decide +kernel), List.mem_of_getElem? (i := 414) (by decide +kernel), List.mem_of_getElem? (i := 415) (by decide +kernel)⟩
theorem lw_p5 : lw_okq (⟨"GripBench$Triples", "cross", "(II)Z"⟩, 7) := ⟨⟨by decide +kernel, by decide +kernel⟩, List.mem_of_getElem? (i := 90) (by decide +kernel), List.mem_of_getElem? (i := 422) (by decide +kernel), List.mem_of_getElem? (i := 423) (by decide +kernel)⟩
theorem lw_p6 : lw_okq (⟨"GripBench$Triples", "signs", "()I"⟩, 7) := ⟨⟨by decide +kernel, by decide +kernel⟩, List.mem_of_getElem? (i := 90) (by decide +kernel), List.mem_of_getElem? (i := 426) (by decide +kernel), List.mem_of_getElem? (i := 427) (by decide +kernel)⟩
theorem lw_p7 : lw_okq (⟨"GripBench$Triples", "turnIfBelow", "(I)V"⟩, 7) := ⟨⟨by decide +kernel, by decide +kernel⟩, List.mem_of_getElem? (i := 90) (by decide +kernel), List.mem_of_getElem? (i := 430) (by decide +kernel), List.mem_of_getElem? (i := 431) (by decide +kernel)⟩
theorem lw_p8 : lw_okq (⟨"GripBench", "isHeldWithin", "(I)Z"⟩, 10) := ⟨⟨by decide +kernel, by decide +kernel⟩, List.mem_of_getElem? (i := 14) (by decide +kernel), List.mem_of_getElem? (i := 460) (by decide +kernel), List.mem_of_getElem? (i := 461) (by decide +kernel)⟩
theorem lw_p9 : lw_okq (⟨"GripBench", "slide", "(II)Z"⟩, 10) := ⟨⟨by decide +kernel, by decide +kernel⟩, List.mem_of_getElem? (i := 14) (by decide +kernel), List.mem_of_getElem? (i := 464) (by decide +kernel), List.mem_of_getElem? (i := 465) (by decide +kernel)⟩
theorem lw_p10 : lw_okq (⟨"GripBench", "fits", "(II)Z"⟩, 10) := ⟨⟨by decide +kernel, by decide +kernel⟩, List.mem_of_getElem? (i := 14) (by decide +kernel), List.mem_of_getElem? (i := 565) (by decide +kernel), List.mem_of_getElem? (i := 566) (by decide +kernel)⟩
theorem lw_p11 : lw_okq (⟨"GripBench", "isGrip", "(I)Z"⟩, 10) := ⟨⟨by decide +kernel, by decide +kernel⟩, List.mem_of_getElem? (i := 14) (by decide +kernel), List.mem_of_getElem? (i := 604) (by decide +kernel), List.mem_of_getElem? (i := 605) (by decide +kernel)⟩
theorem lw_p12 : lw_okq (⟨"GripBench$Grips", "goOneMoveFarther", "()V"⟩, 3) := ⟨⟨by decide +kernel, by decide +kernel⟩, List.mem_of_getElem? (i := 153) (by decide +kernel), List.mem_of_getElem? (i := 622) (by decide +kernel), List.mem_of_getElem? (i := 623) (by decide +kernel)⟩
theorem lw_p13 : lw_okq (⟨"GripBench", "isDropped", "(I)Z"⟩, 10) := ⟨⟨by decide +kernel, by decide +kernel⟩, List.mem_of_getElem? (i := 14) (by decide +kernel), List.mem_of_getElem? (i := 643) (by decide +kernel), List.mem_of_getElem? (i := 644) (by decide +kernel)⟩
theorem lw_p14 : lw_okq (⟨"GripBenchModel", "met", "(I)I"⟩, 36) := ⟨⟨by decide +kernel, by decide +kernel⟩, List.mem_of_getElem? (i := 752) (by decide +kernel), List.mem_of_getElem? (i := 881) (by decide +kernel), List.mem_of_getElem? (i := 882) (by decide +kernel)⟩
theorem lw_p15 : lw_okq (⟨"GripBenchModel", "area", "()I"⟩, 36) := ⟨⟨by decide +kernel, by decide +kernel⟩, List.mem_of_getElem? (i := 752) (by decide +kernel), List.mem_of_getElem? (i := 895) (by decide +kernel), List.mem_of_getElem? (i := 896) (by decide +kernel)⟩
def lw_privs_1 : List (MethodName × Nat) := [(⟨"GripBench", "isShape", "(II)Z"⟩, 10), (⟨"GripBench", "isStand", "(II)Z"⟩, 10), (⟨"GripBench", "isFinger", "(I)Z"⟩, 10), (⟨"GripBench$Triples", "add", "(IIII)V"⟩, 7), (⟨"GripBench", "isHeldBy", "(LGripBench$Hand;)Z"⟩, 10), (⟨"GripBench$Triples", "cross", "(II)Z"⟩, 7), (⟨"GripBench$Triples", "signs", "()I"⟩, 7), (⟨"GripBench$Triples", "turnIfBelow", "(I)V"⟩, 7), (⟨"GripBench", "isHeldWithin", "(I)Z"⟩, 10), (⟨"GripBench", "slide", "(II)Z"⟩, 10), (⟨"GripBench", "fits", "(II)Z"⟩, 10), (⟨"GripBench", "isGrip", "(I)Z"⟩, 10), (⟨"GripBench$Grips", "goOneMoveFarther", "()V"⟩, 3), (⟨"GripBench", "isDropped", "(I)Z"⟩, 10), (⟨"GripBenchModel", "met", "(I)I"⟩, 36), (⟨"GripBenchModel", "area", "()I"⟩, 36)]
theorem lw_r1 : ∀ q ∈ lw_privs_1, lw_okq q := List.forall_mem_cons.mpr ⟨lw_p0, List.forall_mem_cons.mpr ⟨lw_p1, List.forall_mem_cons.mpr ⟨lw_p2, List.forall_mem_cons.mpr ⟨lw_p3, List.forall_mem_cons.mpr ⟨lw_p4, List.forall_mem_cons.mpr ⟨lw_p5, List.forall_mem_cons.mpr ⟨lw_p6, List.forall_mem_cons.mpr ⟨lw_p7, List.forall_mem_cons.mpr ⟨lw_p8, List.forall_mem_cons.mpr ⟨lw_p9, List.forall_mem_cons.mpr ⟨lw_p10, List.forall_mem_cons.mpr ⟨lw_p11, List.forall_mem_cons.mpr ⟨lw_p12, List.forall_mem_cons.mpr ⟨lw_p13, List.forall_mem_cons.mpr ⟨lw_p14, List.forall_mem_cons.mpr ⟨lw_p15, fun _ h => absurd h List.not_mem_nil⟩⟩⟩⟩⟩⟩⟩⟩⟩⟩⟩⟩⟩⟩⟩⟩
theorem lw_p16 : lw_okq (⟨"GripBenchModel", "cross", "(I)I"⟩, 36) := ⟨⟨by decide +kernel, by decide +kernel⟩, List.mem_of_getElem? (i := 752) (by decide +kernel), List.mem_of_getElem? (i := 899) (by decide +kernel), List.mem_of_getElem? (i := 900) (by decide +kernel)⟩
theorem lw_p17 : lw_okq (⟨"GripBenchModel", "next", "(I)I"⟩, 36) := ⟨⟨by decide +kernel, by decide +kernel⟩, List.mem_of_getElem? (i := 752) (by decide +kernel), List.mem_of_getElem? (i := 903) (by decide +kernel), List.mem_of_getElem? (i := 904) (by decide +kernel)⟩
theorem lw_p18 : lw_okq (⟨"GripBenchModel", "middleX", "()I"⟩, 36) := ⟨⟨by decide +kernel, by decide +kernel⟩, List.mem_of_getElem? (i := 752) (by decide +kernel), List.mem_of_getElem? (i := 907) (by decide +kernel), List.mem_of_getElem? (i := 908) (by decide +kernel)⟩
theorem lw_p19 : lw_okq (⟨"GripBenchModel", "middleY", "()I"⟩, 36) := ⟨⟨by decide +kernel, by decide +kernel⟩, List.mem_of_getElem? (i := 752) (by decide +kernel), List.mem_of_getElem? (i := 911) (by decide +kernel), List.mem_of_getElem? (i := 912) (by decide +kernel)⟩
theorem lw_p20 : lw_okq (⟨"GripBenchModel", "place", "(II)I"⟩, 36) := ⟨⟨by decide +kernel, by decide +kernel⟩, List.mem_of_getElem? (i := 752) (by decide +kernel), List.mem_of_getElem? (i := 925) (by decide +kernel), List.mem_of_getElem? (i := 926) (by decide +kernel)⟩
theorem lw_p21 : lw_okq (⟨"GripBenchModel", "isStand", "(II)Z"⟩, 36) := ⟨⟨by decide +kernel, by decide +kernel⟩, List.mem_of_getElem? (i := 752) (by decide +kernel), List.mem_of_getElem? (i := 933) (by decide +kernel), List.mem_of_getElem? (i := 934) (by decide +kernel)⟩
theorem lw_p22 : lw_okq (⟨"GripBenchModel", "isFinger", "(I)Z"⟩, 36) := ⟨⟨by decide +kernel, by decide +kernel⟩, List.mem_of_getElem? (i := 752) (by decide +kernel), List.mem_of_getElem? (i := 942) (by decide +kernel), List.mem_of_getElem? (i := 943) (by decide +kernel)⟩
theorem lw_p23 : lw_okq (⟨"GripBenchModel", "layAll", "()V"⟩, 36) := ⟨⟨by decide +kernel, by decide +kernel⟩, List.mem_of_getElem? (i := 752) (by decide +kernel), List.mem_of_getElem? (i := 959) (by decide +kernel), List.mem_of_getElem? (i := 960) (by decide +kernel)⟩
theorem lw_p24 : lw_okq (⟨"GripBenchModel", "lays", "(II)V"⟩, 36) := ⟨⟨by decide +kernel, by decide +kernel⟩, List.mem_of_getElem? (i := 752) (by decide +kernel), List.mem_of_getElem? (i := 963) (by decide +kernel), List.mem_of_getElem? (i := 964) (by decide +kernel)⟩
theorem lw_p25 : lw_okq (⟨"GripBenchModel", "lay", "(IIII)V"⟩, 36) := ⟨⟨by decide +kernel, by decide +kernel⟩, List.mem_of_getElem? (i := 752) (by decide +kernel), List.mem_of_getElem? (i := 967) (by decide +kernel), List.mem_of_getElem? (i := 968) (by decide +kernel)⟩
theorem lw_p26 : lw_okq (⟨"GripBenchModel", "hold", "()Z"⟩, 36) := ⟨⟨by decide +kernel, by decide +kernel⟩, List.mem_of_getElem? (i := 752) (by decide +kernel), List.mem_of_getElem? (i := 980) (by decide +kernel), List.mem_of_getElem? (i := 981) (by decide +kernel)⟩
theorem lw_p27 : lw_okq (⟨"GripBenchModel", "isFull", "()Z"⟩, 36) := ⟨⟨by decide +kernel, by decide +kernel⟩, List.mem_of_getElem? (i := 752) (by decide +kernel), List.mem_of_getElem? (i := 984) (by decide +kernel), List.mem_of_getElem? (i := 985) (by decide +kernel)⟩
theorem lw_p28 : lw_okq (⟨"GripBenchModel", "crosses", "(II)Z"⟩, 36) := ⟨⟨by decide +kernel, by decide +kernel⟩, List.mem_of_getElem? (i := 752) (by decide +kernel), List.mem_of_getElem? (i := 988) (by decide +kernel), List.mem_of_getElem? (i := 989) (by decide +kernel)⟩
theorem lw_p29 : lw_okq (⟨"GripBenchModel", "holdBy", "(I)Z"⟩, 36) := ⟨⟨by decide +kernel, by decide +kernel⟩, List.mem_of_getElem? (i := 752) (by decide +kernel), List.mem_of_getElem? (i := 1004) (by decide +kernel), List.mem_of_getElem? (i := 1005) (by decide +kernel)⟩
theorem lw_p30 : lw_okq (⟨"GripBenchModel", "priceOf", "(I)I"⟩, 36) := ⟨⟨by decide +kernel, by decide +kernel⟩, List.mem_of_getElem? (i := 752) (by decide +kernel), List.mem_of_getElem? (i := 1016) (by decide +kernel), List.mem_of_getElem? (i := 1017) (by decide +kernel)⟩
theorem lw_p31 : lw_okq (⟨"GripBenchModel", "lifted", "(IIIJ)Z"⟩, 36) := ⟨⟨by decide +kernel, by decide +kernel⟩, List.mem_of_getElem? (i := 752) (by decide +kernel), List.mem_of_getElem? (i := 1031) (by decide +kernel), List.mem_of_getElem? (i := 1032) (by decide +kernel)⟩
def lw_privs_2 : List (MethodName × Nat) := [(⟨"GripBenchModel", "cross", "(I)I"⟩, 36), (⟨"GripBenchModel", "next", "(I)I"⟩, 36), (⟨"GripBenchModel", "middleX", "()I"⟩, 36), (⟨"GripBenchModel", "middleY", "()I"⟩, 36), (⟨"GripBenchModel", "place", "(II)I"⟩, 36), (⟨"GripBenchModel", "isStand", "(II)Z"⟩, 36), (⟨"GripBenchModel", "isFinger", "(I)Z"⟩, 36), (⟨"GripBenchModel", "layAll", "()V"⟩, 36), (⟨"GripBenchModel", "lays", "(II)V"⟩, 36), (⟨"GripBenchModel", "lay", "(IIII)V"⟩, 36), (⟨"GripBenchModel", "hold", "()Z"⟩, 36), (⟨"GripBenchModel", "isFull", "()Z"⟩, 36), (⟨"GripBenchModel", "crosses", "(II)Z"⟩, 36), (⟨"GripBenchModel", "holdBy", "(I)Z"⟩, 36), (⟨"GripBenchModel", "priceOf", "(I)I"⟩, 36), (⟨"GripBenchModel", "lifted", "(IIIJ)Z"⟩, 36)]
theorem lw_r2 : ∀ q ∈ lw_privs_2, lw_okq q := List.forall_mem_cons.mpr ⟨lw_p16, List.forall_mem_cons.mpr ⟨lw_p17, List.forall_mem_cons.mpr ⟨lw_p18, List.forall_mem_cons.mpr ⟨lw_p19, List.forall_mem_cons.mpr ⟨lw_p20, List.forall_mem_cons.mpr ⟨lw_p21, List.forall_mem_cons.mpr ⟨lw_p22, List.forall_mem_cons.mpr ⟨lw_p23, List.forall_mem_cons.mpr ⟨lw_p24, List.forall_mem_cons.mpr ⟨lw_p25, List.forall_mem_cons.mpr ⟨lw_p26, List.forall_mem_cons.mpr ⟨lw_p27, List.forall_mem_cons.mpr ⟨lw_p28, List.forall_mem_cons.mpr ⟨lw_p29, List.forall_mem_cons.mpr ⟨lw_p30, List.forall_mem_cons.mpr ⟨lw_p31, fun _ h => absurd h List.not_mem_nil⟩⟩⟩⟩⟩⟩⟩⟩⟩⟩⟩⟩⟩⟩⟩⟩
theorem lw_p32 : lw_okq (⟨"GripBenchModel", "farSquare", "(II)J"⟩, 36) := ⟨⟨by decide +kernel, by decide +kernel⟩, List.mem_of_getElem? (i := 752) (by decide +kernel), List.mem_of_getElem? (i := 1036) (by decide +kernel), List.mem_of_getElem? (i := 1037) (by decide +kernel)⟩
theorem lw_p33 : lw_okq (⟨"GripBenchModel", "fits", "(II)Z"⟩, 36) := ⟨⟨by decide +kernel, by decide +kernel⟩, List.mem_of_getElem? (i := 752) (by decide +kernel), List.mem_of_getElem? (i := 1055) (by decide +kernel), List.mem_of_getElem? (i := 1056) (by decide +kernel)⟩
theorem lw_p34 : lw_okq (⟨"GripBenchModel", "isGrip", "(I)Z"⟩, 36) := ⟨⟨by decide +kernel, by decide +kernel⟩, List.mem_of_getElem? (i := 752) (by decide +kernel), List.mem_of_getElem? (i := 1071) (by decide +kernel), List.mem_of_getElem? (i := 1072) (by decide +kernel)⟩
theorem lw_p35 : lw_okq (⟨"GripBenchModel", "isDropped", "(I)Z"⟩, 36) := ⟨⟨by decide +kernel, by decide +kernel⟩, List.mem_of_getElem? (i := 752) (by decide +kernel), List.mem_of_getElem? (i := 1087) (by decide +kernel), List.mem_of_getElem? (i := 1088) (by decide +kernel)⟩
theorem lw_p36 : lw_okq (⟨"GripBenchModel", "left", "(I)I"⟩, 36) := ⟨⟨by decide +kernel, by decide +kernel⟩, List.mem_of_getElem? (i := 752) (by decide +kernel), List.mem_of_getElem? (i := 1099) (by decide +kernel), List.mem_of_getElem? (i := 1100) (by decide +kernel)⟩
theorem lw_p37 : lw_okq (⟨"GripBenchModel", "lacks", "(III)I"⟩, 36) := ⟨⟨by decide +kernel, by decide +kernel⟩, List.mem_of_getElem? (i := 752) (by decide +kernel), List.mem_of_getElem? (i := 1122) (by decide +kernel), List.mem_of_getElem? (i := 1123) (by decide +kernel)⟩
def lw_privs_3 : List (MethodName × Nat) := [(⟨"GripBenchModel", "farSquare", "(II)J"⟩, 36), (⟨"GripBenchModel", "fits", "(II)Z"⟩, 36), (⟨"GripBenchModel", "isGrip", "(I)Z"⟩, 36), (⟨"GripBenchModel", "isDropped", "(I)Z"⟩, 36), (⟨"GripBenchModel", "left", "(I)I"⟩, 36), (⟨"GripBenchModel", "lacks", "(III)I"⟩, 36)]
theorem lw_r3 : ∀ q ∈ lw_privs_3, lw_okq q := List.forall_mem_cons.mpr ⟨lw_p32, List.forall_mem_cons.mpr ⟨lw_p33, List.forall_mem_cons.mpr ⟨lw_p34, List.forall_mem_cons.mpr ⟨lw_p35, List.forall_mem_cons.mpr ⟨lw_p36, List.forall_mem_cons.mpr ⟨lw_p37, fun _ h => absurd h List.not_mem_nil⟩⟩⟩⟩⟩⟩
def lw_privs : List (MethodName × Nat) := lw_privs_1 ++ (lw_privs_2 ++ (lw_privs_3))
def lw_tbl : List Cond := k2_sels lw_privs ++ tables_1
theorem lw_privs_ok : ∀ q ∈ lw_privs, lw_okq q := by
  show ∀ q ∈ lw_privs_1 ++ (lw_privs_2 ++ (lw_privs_3)), lw_okq q
  exact List.forall_mem_append.mpr ⟨lw_r1, List.forall_mem_append.mpr ⟨lw_r2, lw_r3⟩⟩
/-! ===== BEGIN words of one list among another's, by their places ===== -/
theorem goodIn_r {big : List Cond} (ws : List Cond) (ps : List Nat) (hp : ws = ps.filterMap (fun i => big[i]?)) (h : ws.all goodWord = true) : GoodIn big ws := by
  intro w hw
  have h1 := List.all_eq_true.mp h w hw
  rw [hp] at hw
  obtain ⟨i, -, hi⟩ := List.mem_filterMap.mp hw
  have hm : w ∈ big := by first | exact List.mem_of_getElem? hi | exact List.getElem?_mem hi
  exact ⟨hm, good_of_word h1⟩
theorem goodIn_app {big a b : List Cond} (ha : GoodIn big a) (hb : GoodIn big b) : GoodIn big (a ++ b) := fun w h => (List.mem_append.mp h).elim (ha w) (hb w)
theorem goodIn_ca {big a b : List Cond} {c : Cond} (ha : GoodIn big (c :: a)) (hb : GoodIn big b) : GoodIn big (c :: (a ++ b)) := fun w h => (List.mem_cons.mp h).elim (fun e => ha w (List.mem_cons.mpr (Or.inl e))) (fun h => (List.mem_append.mp h).elim (fun h => ha w (List.mem_cons.mpr (Or.inr h))) (hb w))
theorem goodIn_sub {big ws : List Cond} (hm : ∀ w ∈ ws, w ∈ big) (h : ws.all goodWord = true) : GoodIn big ws := fun w hw => ⟨hm w hw, good_of_word (List.all_eq_true.mp h w hw)⟩
/-! ===== END ===== -/

/-! ===== BEGIN printed: names, fields, word lists, decode rows ===== -/
def RX0 : String := "GripBench$Bin"
def TX0 : u_T := fun k => match k with
  | 0 => ("GripBench$Bin", "above", "[I", true)
  | 1 => ("GripBench$Bin", "inside", "I", false)
  | _ => ("GripBench$Bin", "dropped", "I", false)
def tyX0 : Nat → FieldType := fun k => match k with
  | 0 => .array .int
  | 1 => .int
  | _ => .int
abbrev wsX00 : List Cond := u_ws RX0 TX0 3
theorem nmX0 : ∀ a, a < 3 → ∀ b, b < 3 → a ≠ b → (TX0 a).2.1 ≠ (TX0 b).2.1 := by decide +kernel
theorem tyX0_ok : ∀ k, k < 3 → parseFieldDescriptor (TX0 k).2.2.1 = some (tyX0 k) := by decide +kernel
abbrev cX0_init : ByteArray := prog_2_method_1_code
def yX0_init : MethodName := ⟨RX0, "<init>", "()V"⟩
abbrev cX0_dropped : ByteArray := prog_2_method_2_code
def yX0_dropped : MethodName := ⟨RX0, "dropped", "()I"⟩
abbrev cX0_size : ByteArray := prog_2_method_3_code
def yX0_size : MethodName := ⟨RX0, "size", "()I"⟩
abbrev cX0_add : ByteArray := prog_2_method_4_code
def yX0_add : MethodName := ⟨RX0, "add", "()V"⟩
abbrev cX0_lay : ByteArray := prog_2_method_5_code
def yX0_lay : MethodName := ⟨RX0, "lay", "(II)V"⟩
abbrev cX0_isInside : ByteArray := prog_2_method_6_code
def yX0_isInside : MethodName := ⟨RX0, "isInside", "(I)Z"⟩
abbrev cX0_isCovered : ByteArray := prog_2_method_7_code
def yX0_isCovered : MethodName := ⟨RX0, "isCovered", "(I)Z"⟩
abbrev cX0_remove : ByteArray := prog_2_method_8_code
def yX0_remove : MethodName := ⟨RX0, "remove", "(I)V"⟩
abbrev cX0_stuckBits : ByteArray := prog_2_method_9_code
def yX0_stuckBits : MethodName := ⟨RX0, "stuckBits", "()I"⟩
abbrev cX0_withAllAbove : ByteArray := prog_2_method_10_code
def yX0_withAllAbove : MethodName := ⟨RX0, "withAllAbove", "(I)I"⟩
def RX1 : String := "GripBench$Grips"
def TX1 : u_T := fun k => match k with
  | 0 => ("GripBench$Grips", "costs", "[I", true)
  | 1 => ("GripBench$Grips", "ways", "[I", true)
  | _ => ("GripBench$Grips", "size", "I", false)
def tyX1 : Nat → FieldType := fun k => match k with
  | 0 => .array .int
  | 1 => .array .int
  | _ => .int
abbrev wsX10 : List Cond := u_ws RX1 TX1 3
theorem nmX1 : ∀ a, a < 3 → ∀ b, b < 3 → a ≠ b → (TX1 a).2.1 ≠ (TX1 b).2.1 := by decide +kernel
theorem tyX1_ok : ∀ k, k < 3 → parseFieldDescriptor (TX1 k).2.2.1 = some (tyX1 k) := by decide +kernel
abbrev cX1_init : ByteArray := prog_3_method_1_code
def yX1_init : MethodName := ⟨RX1, "<init>", "()V"⟩
abbrev cX1_size : ByteArray := prog_3_method_2_code
def yX1_size : MethodName := ⟨RX1, "size", "()I"⟩
abbrev cX1_add : ByteArray := prog_3_method_3_code
def yX1_add : MethodName := ⟨RX1, "add", "()V"⟩
abbrev cX1_join : ByteArray := prog_3_method_4_code
def yX1_join : MethodName := ⟨RX1, "join", "(III)V"⟩
abbrev cX1_leastCost : ByteArray := prog_3_method_5_code
def yX1_leastCost : MethodName := ⟨RX1, "leastCost", "(II)I"⟩
abbrev cX1_goOneMoveFarther : ByteArray := prog_3_method_6_code
def yX1_goOneMoveFarther : MethodName := ⟨RX1, "goOneMoveFarther", "()V"⟩
def RX2 : String := "GripBench$Hand"
def TX2 : u_T := fun k => match k with
  | 0 => ("GripBench$Hand", "edges", "[I", true)
  | 1 => ("GripBench$Hand", "eighths", "[I", true)
  | _ => ("GripBench$Hand", "size", "I", false)
def tyX2 : Nat → FieldType := fun k => match k with
  | 0 => .array .int
  | 1 => .array .int
  | _ => .int
abbrev wsX20 : List Cond := u_ws RX2 TX2 3
theorem nmX2 : ∀ a, a < 3 → ∀ b, b < 3 → a ≠ b → (TX2 a).2.1 ≠ (TX2 b).2.1 := by decide +kernel
theorem tyX2_ok : ∀ k, k < 3 → parseFieldDescriptor (TX2 k).2.2.1 = some (tyX2 k) := by decide +kernel
abbrev cX2_init : ByteArray := prog_4_method_1_code
def yX2_init : MethodName := ⟨RX2, "<init>", "()V"⟩
abbrev cX2_size : ByteArray := prog_4_method_2_code
def yX2_size : MethodName := ⟨RX2, "size", "()I"⟩
abbrev cX2_edge : ByteArray := prog_4_method_3_code
def yX2_edge : MethodName := ⟨RX2, "edge", "(I)I"⟩
abbrev cX2_eighth : ByteArray := prog_4_method_4_code
def yX2_eighth : MethodName := ⟨RX2, "eighth", "(I)I"⟩
abbrev cX2_clear : ByteArray := prog_4_method_5_code
def yX2_clear : MethodName := ⟨RX2, "clear", "()V"⟩
abbrev cX2_add : ByteArray := prog_4_method_6_code
def yX2_add : MethodName := ⟨RX2, "add", "(II)V"⟩
abbrev cX2_stand : ByteArray := prog_4_method_7_code
def yX2_stand : MethodName := ⟨RX2, "stand", "(III)V"⟩
abbrev cX2_become : ByteArray := prog_4_method_8_code
def yX2_become : MethodName := ⟨RX2, "become", "(LGripBench$Hand;)V"⟩
def RX3 : String := "GripBench$Polygon"
def TX3 : u_T := fun k => match k with
  | 0 => ("GripBench$Polygon", "xs", "[I", true)
  | 1 => ("GripBench$Polygon", "ys", "[I", true)
  | 2 => ("GripBench$Polygon", "corners", "I", false)
  | 3 => ("GripBench$Polygon", "area", "I", false)
  | 4 => ("GripBench$Polygon", "momentX", "I", false)
  | _ => ("GripBench$Polygon", "momentY", "I", false)
def tyX3 : Nat → FieldType := fun k => match k with
  | 0 => .array .int
  | 1 => .array .int
  | 2 => .int
  | 3 => .int
  | 4 => .int
  | _ => .int
abbrev wsX30 : List Cond := u_ws RX3 TX3 6
theorem nmX3 : ∀ a, a < 6 → ∀ b, b < 6 → a ≠ b → (TX3 a).2.1 ≠ (TX3 b).2.1 := by decide +kernel
theorem tyX3_ok : ∀ k, k < 6 → parseFieldDescriptor (TX3 k).2.2.1 = some (tyX3 k) := by decide +kernel
abbrev cX3_init : ByteArray := prog_5_method_1_code
def yX3_init : MethodName := ⟨RX3, "<init>", "()V"⟩
abbrev cX3_setCorner : ByteArray := prog_5_method_2_code
def yX3_setCorner : MethodName := ⟨RX3, "setCorner", "(III)V"⟩
abbrev cX3_close : ByteArray := prog_5_method_3_code
def yX3_close : MethodName := ⟨RX3, "close", "(I)V"⟩
abbrev cX3_corners : ByteArray := prog_5_method_4_code
def yX3_corners : MethodName := ⟨RX3, "corners", "()I"⟩
abbrev cX3_area : ByteArray := prog_5_method_5_code
def yX3_area : MethodName := ⟨RX3, "area", "()I"⟩
abbrev cX3_momentX : ByteArray := prog_5_method_6_code
def yX3_momentX : MethodName := ⟨RX3, "momentX", "()I"⟩
abbrev cX3_momentY : ByteArray := prog_5_method_7_code
def yX3_momentY : MethodName := ⟨RX3, "momentY", "()I"⟩
abbrev cX3_x : ByteArray := prog_5_method_8_code
def yX3_x : MethodName := ⟨RX3, "x", "(I)I"⟩
abbrev cX3_y : ByteArray := prog_5_method_9_code
def yX3_y : MethodName := ⟨RX3, "y", "(I)I"⟩
abbrev cX3_next : ByteArray := prog_5_method_10_code
def yX3_next : MethodName := ⟨RX3, "next", "(I)I"⟩
abbrev cX3_dx : ByteArray := prog_5_method_11_code
def yX3_dx : MethodName := ⟨RX3, "dx", "(I)I"⟩
abbrev cX3_dy : ByteArray := prog_5_method_12_code
def yX3_dy : MethodName := ⟨RX3, "dy", "(I)I"⟩
abbrev cX3_side : ByteArray := prog_5_method_13_code
def yX3_side : MethodName := ⟨RX3, "side", "(II)I"⟩
abbrev cX3_pull : ByteArray := prog_5_method_14_code
def yX3_pull : MethodName := ⟨RX3, "pull", "(III)J"⟩
abbrev cX3_isSealed : ByteArray := prog_5_method_15_code
def yX3_isSealed : MethodName := ⟨RX3, "isSealed", "(JI)Z"⟩
abbrev cX3_leastSeal : ByteArray := prog_5_method_16_code
def yX3_leastSeal : MethodName := ⟨RX3, "leastSeal", "(J)I"⟩
def RX4 : String := "GripBench$Probes"
def TX4 : u_T := fun k => match k with
  | 0 => ("GripBench$Probes", "xs", "[I", true)
  | 1 => ("GripBench$Probes", "ys", "[I", true)
  | _ => ("GripBench$Probes", "size", "I", false)
def tyX4 : Nat → FieldType := fun k => match k with
  | 0 => .array .int
  | 1 => .array .int
  | _ => .int
abbrev wsX40 : List Cond := u_ws RX4 TX4 3
theorem nmX4 : ∀ a, a < 3 → ∀ b, b < 3 → a ≠ b → (TX4 a).2.1 ≠ (TX4 b).2.1 := by decide +kernel
theorem tyX4_ok : ∀ k, k < 3 → parseFieldDescriptor (TX4 k).2.2.1 = some (tyX4 k) := by decide +kernel
abbrev cX4_init : ByteArray := prog_6_method_1_code
def yX4_init : MethodName := ⟨RX4, "<init>", "()V"⟩
abbrev cX4_size : ByteArray := prog_6_method_2_code
def yX4_size : MethodName := ⟨RX4, "size", "()I"⟩
abbrev cX4_x : ByteArray := prog_6_method_3_code
def yX4_x : MethodName := ⟨RX4, "x", "(I)I"⟩
abbrev cX4_y : ByteArray := prog_6_method_4_code
def yX4_y : MethodName := ⟨RX4, "y", "(I)I"⟩
abbrev cX4_add : ByteArray := prog_6_method_5_code
def yX4_add : MethodName := ⟨RX4, "add", "(II)V"⟩
def RX5 : String := "GripBench$Sheets"
def TX5 : u_T := fun k => match k with
  | 0 => ("GripBench$Sheets", "forms", "[I", true)
  | 1 => ("GripBench$Sheets", "lengths", "[I", true)
  | 2 => ("GripBench$Sheets", "items", "[I", true)
  | _ => ("GripBench$Sheets", "latestFinding", "I", false)
def tyX5 : Nat → FieldType := fun k => match k with
  | 0 => .array .int
  | 1 => .array .int
  | 2 => .array .int
  | _ => .int
abbrev wsX50 : List Cond := u_ws RX5 TX5 4
theorem nmX5 : ∀ a, a < 4 → ∀ b, b < 4 → a ≠ b → (TX5 a).2.1 ≠ (TX5 b).2.1 := by decide +kernel
theorem tyX5_ok : ∀ k, k < 4 → parseFieldDescriptor (TX5 k).2.2.1 = some (tyX5 k) := by decide +kernel
abbrev cX5_init : ByteArray := prog_7_method_1_code
def yX5_init : MethodName := ⟨RX5, "<init>", "()V"⟩
abbrev cX5_latestFinding : ByteArray := prog_7_method_2_code
def yX5_latestFinding : MethodName := ⟨RX5, "latestFinding", "()I"⟩
abbrev cX5_find : ByteArray := prog_7_method_3_code
def yX5_find : MethodName := ⟨RX5, "find", "(I)I"⟩
abbrev cX5_form : ByteArray := prog_7_method_4_code
def yX5_form : MethodName := ⟨RX5, "form", "(I)I"⟩
abbrev cX5_length : ByteArray := prog_7_method_5_code
def yX5_length : MethodName := ⟨RX5, "length", "(I)I"⟩
abbrev cX5_isLost : ByteArray := prog_7_method_6_code
def yX5_isLost : MethodName := ⟨RX5, "isLost", "(I)Z"⟩
abbrev cX5_forget : ByteArray := prog_7_method_7_code
def yX5_forget : MethodName := ⟨RX5, "forget", "(I)V"⟩
abbrev cX5_renew : ByteArray := prog_7_method_8_code
def yX5_renew : MethodName := ⟨RX5, "renew", "(III)V"⟩
abbrev cX5_value : ByteArray := prog_7_method_9_code
def yX5_value : MethodName := ⟨RX5, "value", "(II)I"⟩
abbrev cX5_hasValue : ByteArray := prog_7_method_10_code
def yX5_hasValue : MethodName := ⟨RX5, "hasValue", "(III)Z"⟩
abbrev cX5_write : ByteArray := prog_7_method_11_code
def yX5_write : MethodName := ⟨RX5, "write", "(III)V"⟩
abbrev cX5_faultAt : ByteArray := prog_7_method_12_code
def yX5_faultAt : MethodName := ⟨RX5, "faultAt", "(III)I"⟩
abbrev cX5_hasRun : ByteArray := prog_7_method_13_code
def yX5_hasRun : MethodName := ⟨RX5, "hasRun", "(III)Z"⟩
def RX6 : String := "GripBench$Spots"
def TX6 : u_T := fun k => match k with
  | 0 => ("GripBench$Spots", "edges", "[I", true)
  | 1 => ("GripBench$Spots", "eighths", "[I", true)
  | 2 => ("GripBench$Spots", "prices", "[I", true)
  | _ => ("GripBench$Spots", "size", "I", false)
def tyX6 : Nat → FieldType := fun k => match k with
  | 0 => .array .int
  | 1 => .array .int
  | 2 => .array .int
  | _ => .int
abbrev wsX60 : List Cond := u_ws RX6 TX6 4
theorem nmX6 : ∀ a, a < 4 → ∀ b, b < 4 → a ≠ b → (TX6 a).2.1 ≠ (TX6 b).2.1 := by decide +kernel
theorem tyX6_ok : ∀ k, k < 4 → parseFieldDescriptor (TX6 k).2.2.1 = some (tyX6 k) := by decide +kernel
abbrev cX6_init : ByteArray := prog_8_method_1_code
def yX6_init : MethodName := ⟨RX6, "<init>", "()V"⟩
abbrev cX6_size : ByteArray := prog_8_method_2_code
def yX6_size : MethodName := ⟨RX6, "size", "()I"⟩
abbrev cX6_clear : ByteArray := prog_8_method_3_code
def yX6_clear : MethodName := ⟨RX6, "clear", "()V"⟩
abbrev cX6_add : ByteArray := prog_8_method_4_code
def yX6_add : MethodName := ⟨RX6, "add", "(III)V"⟩
abbrev cX6_price : ByteArray := prog_8_method_5_code
def yX6_price : MethodName := ⟨RX6, "price", "(I)I"⟩
abbrev cX6_isBetter : ByteArray := prog_8_method_6_code
def yX6_isBetter : MethodName := ⟨RX6, "isBetter", "(II)Z"⟩
abbrev cX6_layOut : ByteArray := prog_8_method_7_code
def yX6_layOut : MethodName := ⟨RX6, "layOut", "(ILGripBench$Hand;)V"⟩
def RX7 : String := "GripBench$Triples"
def TX7 : u_T := fun k => match k with
  | 0 => ("GripBench$Triples", "forcesX", "[I", true)
  | 1 => ("GripBench$Triples", "forcesY", "[I", true)
  | 2 => ("GripBench$Triples", "turns", "[I", true)
  | 3 => ("GripBench$Triples", "size", "I", false)
  | 4 => ("GripBench$Triples", "crossX", "J", false)
  | 5 => ("GripBench$Triples", "crossY", "J", false)
  | _ => ("GripBench$Triples", "crossTurn", "J", false)
def tyX7 : Nat → FieldType := fun k => match k with
  | 0 => .array .int
  | 1 => .array .int
  | 2 => .array .int
  | 3 => .int
  | 4 => .long
  | 5 => .long
  | _ => .long
abbrev wsX70 : List Cond := u_ws RX7 TX7 7
theorem nmX7 : ∀ a, a < 7 → ∀ b, b < 7 → a ≠ b → (TX7 a).2.1 ≠ (TX7 b).2.1 := by decide +kernel
theorem tyX7_ok : ∀ k, k < 7 → parseFieldDescriptor (TX7 k).2.2.1 = some (tyX7 k) := by decide +kernel
abbrev cX7_init : ByteArray := prog_9_method_1_code
def yX7_init : MethodName := ⟨RX7, "<init>", "()V"⟩
abbrev cX7_size : ByteArray := prog_9_method_2_code
def yX7_size : MethodName := ⟨RX7, "size", "()I"⟩
abbrev cX7_part : ByteArray := prog_9_method_3_code
def yX7_part : MethodName := ⟨RX7, "part", "(II)I"⟩
abbrev cX7_press : ByteArray := prog_9_method_4_code
def yX7_press : MethodName := ⟨RX7, "press", "(LGripBench$Hand;LGripBench$Polygon;I)V"⟩
abbrev cX7_add : ByteArray := prog_9_method_5_code
def yX7_add : MethodName := ⟨RX7, "add", "(IIII)V"⟩
abbrev cX7_spread : ByteArray := prog_9_method_6_code
def yX7_spread : MethodName := ⟨RX7, "spread", "()I"⟩
abbrev cX7_turnIfBelow : ByteArray := prog_9_method_7_code
def yX7_turnIfBelow : MethodName := ⟨RX7, "turnIfBelow", "(I)V"⟩
abbrev cX7_normal : ByteArray := prog_9_method_8_code
def yX7_normal : MethodName := ⟨RX7, "normal", "(I)J"⟩
abbrev cX7_cross : ByteArray := prog_9_method_9_code
def yX7_cross : MethodName := ⟨RX7, "cross", "(II)Z"⟩
abbrev cX7_signs : ByteArray := prog_9_method_10_code
def yX7_signs : MethodName := ⟨RX7, "signs", "()I"⟩
def RX8 : String := "GripBench"
def TX8 : u_T := fun k => match k with
  | 0 => ("GripBench", "polygon", "LGripBench$Polygon;", true)
  | 1 => ("GripBench", "hand", "LGripBench$Hand;", true)
  | 2 => ("GripBench", "trial", "LGripBench$Hand;", true)
  | 3 => ("GripBench", "triples", "LGripBench$Triples;", true)
  | 4 => ("GripBench", "spots", "LGripBench$Spots;", true)
  | 5 => ("GripBench", "probes", "LGripBench$Probes;", true)
  | 6 => ("GripBench", "grips", "LGripBench$Grips;", true)
  | 7 => ("GripBench", "bin", "LGripBench$Bin;", true)
  | 8 => ("GripBench", "sheets", "LGripBench$Sheets;", true)
  | _ => ("GripBench", "friction", "I", false)
def tyX8 : Nat → FieldType := fun k => match k with
  | 0 => .object "GripBench$Polygon"
  | 1 => .object "GripBench$Hand"
  | 2 => .object "GripBench$Hand"
  | 3 => .object "GripBench$Triples"
  | 4 => .object "GripBench$Spots"
  | 5 => .object "GripBench$Probes"
  | 6 => .object "GripBench$Grips"
  | 7 => .object "GripBench$Bin"
  | 8 => .object "GripBench$Sheets"
  | _ => .int
abbrev wsX80 : List Cond := u_ws RX8 TX8 10
theorem nmX8 : ∀ a, a < 10 → ∀ b, b < 10 → a ≠ b → (TX8 a).2.1 ≠ (TX8 b).2.1 := by decide +kernel
theorem tyX8_ok : ∀ k, k < 10 → parseFieldDescriptor (TX8 k).2.2.1 = some (tyX8 k) := by decide +kernel
abbrev cX8_init : ByteArray := prog_1_method_1_code
def yX8_init : MethodName := ⟨RX8, "<init>", "()V"⟩
abbrev cX8_shape : ByteArray := prog_1_method_2_code
def yX8_shape : MethodName := ⟨RX8, "shape", "(II)I"⟩
abbrev cX8_isShape : ByteArray := prog_1_method_3_code
def yX8_isShape : MethodName := ⟨RX8, "isShape", "(II)Z"⟩
abbrev cX8_corner : ByteArray := prog_1_method_4_code
def yX8_corner : MethodName := ⟨RX8, "corner", "(II)I"⟩
abbrev cX8_middle : ByteArray := prog_1_method_5_code
def yX8_middle : MethodName := ⟨RX8, "middle", "(I)I"⟩
abbrev cX8_isIn : ByteArray := prog_1_method_6_code
def yX8_isIn : MethodName := ⟨RX8, "isIn", "(II)I"⟩
abbrev cX8_finger : ByteArray := prog_1_method_7_code
def yX8_finger : MethodName := ⟨RX8, "finger", "(II)I"⟩
abbrev cX8_move : ByteArray := prog_1_method_8_code
def yX8_move : MethodName := ⟨RX8, "move", "(III)I"⟩
abbrev cX8_release : ByteArray := prog_1_method_9_code
def yX8_release : MethodName := ⟨RX8, "release", "()I"⟩
abbrev cX8_friction : ByteArray := prog_1_method_10_code
def yX8_friction : MethodName := ⟨RX8, "friction", "(I)I"⟩
abbrev cX8_push : ByteArray := prog_1_method_11_code
def yX8_push : MethodName := ⟨RX8, "push", "(II)J"⟩
abbrev cX8_holds : ByteArray := prog_1_method_12_code
def yX8_holds : MethodName := ⟨RX8, "holds", "()I"⟩
abbrev cX8_witness : ByteArray := prog_1_method_13_code
def yX8_witness : MethodName := ⟨RX8, "witness", "(I)J"⟩
abbrev cX8_free : ByteArray := prog_1_method_14_code
def yX8_free : MethodName := ⟨RX8, "free", "(I)I"⟩
abbrev cX8_slip : ByteArray := prog_1_method_15_code
def yX8_slip : MethodName := ⟨RX8, "slip", "()I"⟩
abbrev cX8_isHeldWithin : ByteArray := prog_1_method_16_code
def yX8_isHeldWithin : MethodName := ⟨RX8, "isHeldWithin", "(I)Z"⟩
abbrev cX8_slide : ByteArray := prog_1_method_17_code
def yX8_slide : MethodName := ⟨RX8, "slide", "(II)Z"⟩
abbrev cX8_isHeldBy : ByteArray := prog_1_method_18_code
def yX8_isHeldBy : MethodName := ⟨RX8, "isHeldBy", "(LGripBench$Hand;)Z"⟩
abbrev cX8_spot : ByteArray := prog_1_method_19_code
def yX8_spot : MethodName := ⟨RX8, "spot", "(III)I"⟩
abbrev cX8_cheapest : ByteArray := prog_1_method_20_code
def yX8_cheapest : MethodName := ⟨RX8, "cheapest", "()I"⟩
abbrev cX8_take : ByteArray := prog_1_method_21_code
def yX8_take : MethodName := ⟨RX8, "take", "()I"⟩
abbrev cX8_lifts : ByteArray := prog_1_method_22_code
def yX8_lifts : MethodName := ⟨RX8, "lifts", "(IIII)I"⟩
abbrev cX8_seal : ByteArray := prog_1_method_23_code
def yX8_seal : MethodName := ⟨RX8, "seal", "(III)I"⟩
abbrev cX8_probe : ByteArray := prog_1_method_24_code
def yX8_probe : MethodName := ⟨RX8, "probe", "(II)I"⟩
abbrev cX8_poses : ByteArray := prog_1_method_25_code
def yX8_poses : MethodName := ⟨RX8, "poses", "()I"⟩
abbrev cX8_pose : ByteArray := prog_1_method_26_code
def yX8_pose : MethodName := ⟨RX8, "pose", "(I)I"⟩
abbrev cX8_fits : ByteArray := prog_1_method_27_code
def yX8_fits : MethodName := ⟨RX8, "fits", "(II)Z"⟩
abbrev cX8_grip : ByteArray := prog_1_method_28_code
def yX8_grip : MethodName := ⟨RX8, "grip", "()I"⟩
abbrev cX8_link : ByteArray := prog_1_method_29_code
def yX8_link : MethodName := ⟨RX8, "link", "(III)I"⟩
abbrev cX8_way : ByteArray := prog_1_method_30_code
def yX8_way : MethodName := ⟨RX8, "way", "(II)I"⟩
abbrev cX8_drop : ByteArray := prog_1_method_31_code
def yX8_drop : MethodName := ⟨RX8, "drop", "()I"⟩
abbrev cX8_on : ByteArray := prog_1_method_32_code
def yX8_on : MethodName := ⟨RX8, "on", "(II)I"⟩
abbrev cX8_pick : ByteArray := prog_1_method_33_code
def yX8_pick : MethodName := ⟨RX8, "pick", "(I)I"⟩
abbrev cX8_reach : ByteArray := prog_1_method_34_code
def yX8_reach : MethodName := ⟨RX8, "reach", "(I)I"⟩
abbrev cX8_stuck : ByteArray := prog_1_method_35_code
def yX8_stuck : MethodName := ⟨RX8, "stuck", "()I"⟩
abbrev cX8_sheet : ByteArray := prog_1_method_36_code
def yX8_sheet : MethodName := ⟨RX8, "sheet", "(III)I"⟩
abbrev cX8_lose : ByteArray := prog_1_method_37_code
def yX8_lose : MethodName := ⟨RX8, "lose", "(I)I"⟩
abbrev cX8_put : ByteArray := prog_1_method_38_code
def yX8_put : MethodName := ⟨RX8, "put", "(IIII)I"⟩
abbrev cX8_get : ByteArray := prog_1_method_39_code
def yX8_get : MethodName := ⟨RX8, "get", "(III)I"⟩
abbrev cX8_copy : ByteArray := prog_1_method_40_code
def yX8_copy : MethodName := ⟨RX8, "copy", "(IIIII)I"⟩
abbrev cX8_count : ByteArray := prog_1_method_41_code
def yX8_count : MethodName := ⟨RX8, "count", "(I)I"⟩
abbrev cX8_digest : ByteArray := prog_1_method_42_code
def yX8_digest : MethodName := ⟨RX8, "digest", "()J"⟩
abbrev cX8_refusal : ByteArray := prog_1_method_43_code
def yX8_refusal : MethodName := ⟨RX8, "refusal", "(I)J"⟩
abbrev cX8_isWithin : ByteArray := prog_1_method_44_code
def yX8_isWithin : MethodName := ⟨RX8, "isWithin", "(II)Z"⟩
abbrev cX8_isPlace : ByteArray := prog_1_method_45_code
def yX8_isPlace : MethodName := ⟨RX8, "isPlace", "(II)Z"⟩
abbrev cX8_isWeight : ByteArray := prog_1_method_46_code
def yX8_isWeight : MethodName := ⟨RX8, "isWeight", "(I)Z"⟩
abbrev cX8_isTriplePart : ByteArray := prog_1_method_47_code
def yX8_isTriplePart : MethodName := ⟨RX8, "isTriplePart", "(I)Z"⟩
abbrev cX8_isSheet : ByteArray := prog_1_method_48_code
def yX8_isSheet : MethodName := ⟨RX8, "isSheet", "(I)Z"⟩
abbrev cX8_isForm : ByteArray := prog_1_method_49_code
def yX8_isForm : MethodName := ⟨RX8, "isForm", "(I)Z"⟩
abbrev cX8_isStand : ByteArray := prog_1_method_50_code
def yX8_isStand : MethodName := ⟨RX8, "isStand", "(II)Z"⟩
abbrev cX8_isFinger : ByteArray := prog_1_method_51_code
def yX8_isFinger : MethodName := ⟨RX8, "isFinger", "(I)Z"⟩
abbrev cX8_isGrip : ByteArray := prog_1_method_52_code
def yX8_isGrip : MethodName := ⟨RX8, "isGrip", "(I)Z"⟩
abbrev cX8_isDropped : ByteArray := prog_1_method_53_code
def yX8_isDropped : MethodName := ⟨RX8, "isDropped", "(I)Z"⟩
abbrev cX8_item : ByteArray := prog_1_method_54_code
def yX8_item : MethodName := ⟨RX8, "item", "([II)I"⟩
abbrev cX8_setItem : ByteArray := prog_1_method_55_code
def yX8_setItem : MethodName := ⟨RX8, "setItem", "([III)V"⟩
def RX9 : String := "GripBenchModel"
def TX9 : u_T := fun k => match k with
  | 0 => ("GripBenchModel", "corners", "I", false)
  | 1 => ("GripBenchModel", "cx", "[I", true)
  | 2 => ("GripBenchModel", "cy", "[I", true)
  | 3 => ("GripBenchModel", "newX", "[I", true)
  | 4 => ("GripBenchModel", "newY", "[I", true)
  | 5 => ("GripBenchModel", "fingers", "I", false)
  | 6 => ("GripBenchModel", "edge", "[I", true)
  | 7 => ("GripBenchModel", "stand", "[I", true)
  | 8 => ("GripBenchModel", "friction", "I", false)
  | 9 => ("GripBenchModel", "triples", "I", false)
  | 10 => ("GripBenchModel", "one", "[J", true)
  | 11 => ("GripBenchModel", "two", "[J", true)
  | 12 => ("GripBenchModel", "three", "[J", true)
  | 13 => ("GripBenchModel", "c1", "J", false)
  | 14 => ("GripBenchModel", "c2", "J", false)
  | 15 => ("GripBenchModel", "c3", "J", false)
  | 16 => ("GripBenchModel", "above", "Z", false)
  | 17 => ("GripBenchModel", "below", "Z", false)
  | 18 => ("GripBenchModel", "spots", "I", false)
  | 19 => ("GripBenchModel", "spotEdge", "[I", true)
  | 20 => ("GripBenchModel", "spotStand", "[I", true)
  | 21 => ("GripBenchModel", "spotPrice", "[I", true)
  | 22 => ("GripBenchModel", "probes", "I", false)
  | 23 => ("GripBenchModel", "px", "[I", true)
  | 24 => ("GripBenchModel", "py", "[I", true)
  | 25 => ("GripBenchModel", "grips", "I", false)
  | 26 => ("GripBenchModel", "cost", "[I", true)
  | 27 => ("GripBenchModel", "far", "[I", true)
  | 28 => ("GripBenchModel", "dropped", "I", false)
  | 29 => ("GripBenchModel", "bin", "I", false)
  | 30 => ("GripBenchModel", "above12", "[I", true)
  | 31 => ("GripBenchModel", "forms", "[I", true)
  | 32 => ("GripBenchModel", "sizes", "[I", true)
  | 33 => ("GripBenchModel", "items", "[I", true)
  | 34 => ("GripBenchModel", "moved", "[I", true)
  | _ => ("GripBenchModel", "latest", "I", false)
def tyX9 : Nat → FieldType := fun k => match k with
  | 0 => .int
  | 1 => .array .int
  | 2 => .array .int
  | 3 => .array .int
  | 4 => .array .int
  | 5 => .int
  | 6 => .array .int
  | 7 => .array .int
  | 8 => .int
  | 9 => .int
  | 10 => .array .long
  | 11 => .array .long
  | 12 => .array .long
  | 13 => .long
  | 14 => .long
  | 15 => .long
  | 16 => .boolean
  | 17 => .boolean
  | 18 => .int
  | 19 => .array .int
  | 20 => .array .int
  | 21 => .array .int
  | 22 => .int
  | 23 => .array .int
  | 24 => .array .int
  | 25 => .int
  | 26 => .array .int
  | 27 => .array .int
  | 28 => .int
  | 29 => .int
  | 30 => .array .int
  | 31 => .array .int
  | 32 => .array .int
  | 33 => .array .int
  | 34 => .array .int
  | _ => .int
abbrev wsX90 : List Cond := u_ws RX9 TX9 36
theorem nmX9 : ∀ a, a < 36 → ∀ b, b < 36 → a ≠ b → (TX9 a).2.1 ≠ (TX9 b).2.1 := by decide +kernel
theorem tyX9_ok : ∀ k, k < 36 → parseFieldDescriptor (TX9 k).2.2.1 = some (tyX9 k) := by decide +kernel
abbrev cX9_init : ByteArray := prog_11_method_1_code
def yX9_init : MethodName := ⟨RX9, "<init>", "()V"⟩
abbrev cX9_in : ByteArray := prog_11_method_3_code
def yX9_in : MethodName := ⟨RX9, "in", "(JJJ)Z"⟩
abbrev cX9_no : ByteArray := prog_11_method_4_code
def yX9_no : MethodName := ⟨RX9, "no", "(I)J"⟩
abbrev cX9_next : ByteArray := prog_11_method_5_code
def yX9_next : MethodName := ⟨RX9, "next", "(I)I"⟩
abbrev cX9_cross : ByteArray := prog_11_method_6_code
def yX9_cross : MethodName := ⟨RX9, "cross", "(I)I"⟩
abbrev cX9_area : ByteArray := prog_11_method_7_code
def yX9_area : MethodName := ⟨RX9, "area", "()I"⟩
abbrev cX9_middleX : ByteArray := prog_11_method_8_code
def yX9_middleX : MethodName := ⟨RX9, "middleX", "()I"⟩
abbrev cX9_middleY : ByteArray := prog_11_method_9_code
def yX9_middleY : MethodName := ⟨RX9, "middleY", "()I"⟩
abbrev cX9_shape : ByteArray := prog_11_method_10_code
def yX9_shape : MethodName := ⟨RX9, "shape", "(II)I"⟩
abbrev cX9_corner : ByteArray := prog_11_method_11_code
def yX9_corner : MethodName := ⟨RX9, "corner", "(II)I"⟩
abbrev cX9_middle : ByteArray := prog_11_method_12_code
def yX9_middle : MethodName := ⟨RX9, "middle", "(I)I"⟩
abbrev cX9_place : ByteArray := prog_11_method_13_code
def yX9_place : MethodName := ⟨RX9, "place", "(II)I"⟩
abbrev cX9_isPlace : ByteArray := prog_11_method_14_code
def yX9_isPlace : MethodName := ⟨RX9, "isPlace", "(II)Z"⟩
abbrev cX9_isIn : ByteArray := prog_11_method_15_code
def yX9_isIn : MethodName := ⟨RX9, "isIn", "(II)I"⟩
abbrev cX9_isStand : ByteArray := prog_11_method_16_code
def yX9_isStand : MethodName := ⟨RX9, "isStand", "(II)Z"⟩
abbrev cX9_isFinger : ByteArray := prog_11_method_17_code
def yX9_isFinger : MethodName := ⟨RX9, "isFinger", "(I)Z"⟩
abbrev cX9_finger : ByteArray := prog_11_method_18_code
def yX9_finger : MethodName := ⟨RX9, "finger", "(II)I"⟩
abbrev cX9_move : ByteArray := prog_11_method_19_code
def yX9_move : MethodName := ⟨RX9, "move", "(III)I"⟩
abbrev cX9_release : ByteArray := prog_11_method_20_code
def yX9_release : MethodName := ⟨RX9, "release", "()I"⟩
abbrev cX9_friction : ByteArray := prog_11_method_21_code
def yX9_friction : MethodName := ⟨RX9, "friction", "(I)I"⟩
abbrev cX9_lay : ByteArray := prog_11_method_22_code
def yX9_lay : MethodName := ⟨RX9, "lay", "(IIII)V"⟩
abbrev cX9_lays : ByteArray := prog_11_method_23_code
def yX9_lays : MethodName := ⟨RX9, "lays", "(II)V"⟩
abbrev cX9_layAll : ByteArray := prog_11_method_24_code
def yX9_layAll : MethodName := ⟨RX9, "layAll", "()V"⟩
abbrev cX9_crosses : ByteArray := prog_11_method_25_code
def yX9_crosses : MethodName := ⟨RX9, "crosses", "(II)Z"⟩
abbrev cX9_isFull : ByteArray := prog_11_method_26_code
def yX9_isFull : MethodName := ⟨RX9, "isFull", "()Z"⟩
abbrev cX9_hold : ByteArray := prog_11_method_27_code
def yX9_hold : MethodName := ⟨RX9, "hold", "()Z"⟩
abbrev cX9_push : ByteArray := prog_11_method_28_code
def yX9_push : MethodName := ⟨RX9, "push", "(II)J"⟩
abbrev cX9_holds : ByteArray := prog_11_method_29_code
def yX9_holds : MethodName := ⟨RX9, "holds", "()I"⟩
abbrev cX9_witness : ByteArray := prog_11_method_30_code
def yX9_witness : MethodName := ⟨RX9, "witness", "(I)J"⟩
abbrev cX9_free : ByteArray := prog_11_method_31_code
def yX9_free : MethodName := ⟨RX9, "free", "(I)I"⟩
abbrev cX9_holdBy : ByteArray := prog_11_method_32_code
def yX9_holdBy : MethodName := ⟨RX9, "holdBy", "(I)Z"⟩
abbrev cX9_slip : ByteArray := prog_11_method_33_code
def yX9_slip : MethodName := ⟨RX9, "slip", "()I"⟩
abbrev cX9_spot : ByteArray := prog_11_method_34_code
def yX9_spot : MethodName := ⟨RX9, "spot", "(III)I"⟩
abbrev cX9_priceOf : ByteArray := prog_11_method_35_code
def yX9_priceOf : MethodName := ⟨RX9, "priceOf", "(I)I"⟩
abbrev cX9_cheapest : ByteArray := prog_11_method_36_code
def yX9_cheapest : MethodName := ⟨RX9, "cheapest", "()I"⟩
abbrev cX9_take : ByteArray := prog_11_method_37_code
def yX9_take : MethodName := ⟨RX9, "take", "()I"⟩
abbrev cX9_farSquare : ByteArray := prog_11_method_38_code
def yX9_farSquare : MethodName := ⟨RX9, "farSquare", "(II)J"⟩
abbrev cX9_lifted : ByteArray := prog_11_method_39_code
def yX9_lifted : MethodName := ⟨RX9, "lifted", "(IIIJ)Z"⟩
abbrev cX9_lifts : ByteArray := prog_11_method_40_code
def yX9_lifts : MethodName := ⟨RX9, "lifts", "(IIII)I"⟩
abbrev cX9_seal : ByteArray := prog_11_method_41_code
def yX9_seal : MethodName := ⟨RX9, "seal", "(III)I"⟩
abbrev cX9_probe : ByteArray := prog_11_method_42_code
def yX9_probe : MethodName := ⟨RX9, "probe", "(II)I"⟩
abbrev cX9_fits : ByteArray := prog_11_method_43_code
def yX9_fits : MethodName := ⟨RX9, "fits", "(II)Z"⟩
abbrev cX9_poses : ByteArray := prog_11_method_44_code
def yX9_poses : MethodName := ⟨RX9, "poses", "()I"⟩
abbrev cX9_pose : ByteArray := prog_11_method_45_code
def yX9_pose : MethodName := ⟨RX9, "pose", "(I)I"⟩
abbrev cX9_grip : ByteArray := prog_11_method_46_code
def yX9_grip : MethodName := ⟨RX9, "grip", "()I"⟩
abbrev cX9_isGrip : ByteArray := prog_11_method_47_code
def yX9_isGrip : MethodName := ⟨RX9, "isGrip", "(I)Z"⟩
abbrev cX9_link : ByteArray := prog_11_method_48_code
def yX9_link : MethodName := ⟨RX9, "link", "(III)I"⟩
abbrev cX9_way : ByteArray := prog_11_method_49_code
def yX9_way : MethodName := ⟨RX9, "way", "(II)I"⟩
abbrev cX9_drop : ByteArray := prog_11_method_50_code
def yX9_drop : MethodName := ⟨RX9, "drop", "()I"⟩
abbrev cX9_isDropped : ByteArray := prog_11_method_51_code
def yX9_isDropped : MethodName := ⟨RX9, "isDropped", "(I)Z"⟩
abbrev cX9_on : ByteArray := prog_11_method_52_code
def yX9_on : MethodName := ⟨RX9, "on", "(II)I"⟩
abbrev cX9_pick : ByteArray := prog_11_method_53_code
def yX9_pick : MethodName := ⟨RX9, "pick", "(I)I"⟩
abbrev cX9_left : ByteArray := prog_11_method_54_code
def yX9_left : MethodName := ⟨RX9, "left", "(I)I"⟩
abbrev cX9_reach : ByteArray := prog_11_method_55_code
def yX9_reach : MethodName := ⟨RX9, "reach", "(I)I"⟩
abbrev cX9_ones : ByteArray := prog_11_method_56_code
def yX9_ones : MethodName := ⟨RX9, "ones", "(I)I"⟩
abbrev cX9_stuck : ByteArray := prog_11_method_57_code
def yX9_stuck : MethodName := ⟨RX9, "stuck", "()I"⟩
abbrev cX9_met : ByteArray := prog_11_method_58_code
def yX9_met : MethodName := ⟨RX9, "met", "(I)I"⟩
abbrev cX9_isSheet : ByteArray := prog_11_method_59_code
def yX9_isSheet : MethodName := ⟨RX9, "isSheet", "(I)Z"⟩
abbrev cX9_sheet : ByteArray := prog_11_method_60_code
def yX9_sheet : MethodName := ⟨RX9, "sheet", "(III)I"⟩
abbrev cX9_lose : ByteArray := prog_11_method_61_code
def yX9_lose : MethodName := ⟨RX9, "lose", "(I)I"⟩
abbrev cX9_lacks : ByteArray := prog_11_method_62_code
def yX9_lacks : MethodName := ⟨RX9, "lacks", "(III)I"⟩
abbrev cX9_put : ByteArray := prog_11_method_63_code
def yX9_put : MethodName := ⟨RX9, "put", "(IIII)I"⟩
abbrev cX9_get : ByteArray := prog_11_method_64_code
def yX9_get : MethodName := ⟨RX9, "get", "(III)I"⟩
abbrev cX9_copy : ByteArray := prog_11_method_65_code
def yX9_copy : MethodName := ⟨RX9, "copy", "(IIIII)I"⟩
abbrev cX9_count : ByteArray := prog_11_method_66_code
def yX9_count : MethodName := ⟨RX9, "count", "(I)I"⟩
abbrev cX9_digest : ByteArray := prog_11_method_67_code
def yX9_digest : MethodName := ⟨RX9, "digest", "()J"⟩
def RJ6 : String := "java/lang/Integer"
def TJ6 : u_T := fun k => match k with
  | _ => ("", "", "", false)
def tyJ6 : Nat → FieldType := fun k => match k with
  | _ => .int
abbrev wsJ60 : List Cond := u_ws RJ6 TJ6 0
theorem nmJ6 : ∀ a, a < 0 → ∀ b, b < 0 → a ≠ b → (TJ6 a).2.1 ≠ (TJ6 b).2.1 := by decide +kernel
theorem tyJ6_ok : ∀ k, k < 0 → parseFieldDescriptor (TJ6 k).2.2.1 = some (tyJ6 k) := by decide +kernel
abbrev cJ6_bitCount_0f7a4 : ByteArray := prog_12_method_49_code
def yJ6_bitCount_0f7a4 : MethodName := ⟨RJ6, "bitCount", "(I)I"⟩
def RJ9 : String := "java/lang/Math"
def TJ9 : u_T := fun k => match k with
  | _ => ("", "", "", false)
def tyJ9 : Nat → FieldType := fun k => match k with
  | _ => .int
abbrev wsJ90 : List Cond := u_ws RJ9 TJ9 0
theorem nmJ9 : ∀ a, a < 0 → ∀ b, b < 0 → a ≠ b → (TJ9 a).2.1 ≠ (TJ9 b).2.1 := by decide +kernel
theorem tyJ9_ok : ∀ k, k < 0 → parseFieldDescriptor (TJ9 k).2.2.1 = some (tyJ9 k) := by decide +kernel
abbrev cJ9_max_7cf53 : ByteArray := prog_13_method_65_code
def yJ9_max_7cf53 : MethodName := ⟨RJ9, "max", "(II)I"⟩
abbrev cJ9_min_7cf53 : ByteArray := prog_13_method_69_code
def yJ9_min_7cf53 : MethodName := ⟨RJ9, "min", "(II)I"⟩
def RL : String := "GripBenchLaw"
abbrev cL_law : ByteArray := code
def yL_law : MethodName := ⟨RL, "law", "([I)Z"⟩
def wsL_law_r1 : List Cond := [Cond.classLink RL 7 RX8, Cond.instantiable RX8 10, Cond.initialized RX8, Cond.classLink RL 10 RX9, Cond.instantiable RX9 36, Cond.initialized RX9, Cond.methodLink RL 9 yX8_init, Cond.instanceMethod yX8_init, Cond.code yX8_init cX8_init 1 none, Cond.methodLink RX8 1 objectInit, Cond.instanceMethod objectInit, Cond.code objectInit ⟨#[0xb1]⟩ 1 none, Cond.classLink RX8 7 RX3, Cond.instantiable RX3 6, Cond.initialized RX3, Cond.fieldLink RX8 10 "GripBench" "polygon" "LGripBench$Polygon;", Cond.classLink RX8 16 RX2, Cond.instantiable RX2 3, Cond.initialized RX2, Cond.fieldLink RX8 19 "GripBench" "hand" "LGripBench$Hand;", Cond.fieldLink RX8 23 "GripBench" "trial" "LGripBench$Hand;", Cond.classLink RX8 26 RX7, Cond.instantiable RX7 7, Cond.initialized RX7]
def wsL_law_r2 : List Cond := [Cond.fieldLink RX8 29 "GripBench" "triples" "LGripBench$Triples;", Cond.classLink RX8 33 RX6, Cond.instantiable RX6 4, Cond.initialized RX6, Cond.fieldLink RX8 36 "GripBench" "spots" "LGripBench$Spots;", Cond.classLink RX8 40 RX4, Cond.instantiable RX4 3, Cond.initialized RX4, Cond.fieldLink RX8 43 "GripBench" "probes" "LGripBench$Probes;", Cond.classLink RX8 47 RX1, Cond.instantiable RX1 3, Cond.initialized RX1, Cond.fieldLink RX8 50 "GripBench" "grips" "LGripBench$Grips;", Cond.classLink RX8 54 RX0, Cond.instantiable RX0 3, Cond.initialized RX0, Cond.fieldLink RX8 57 "GripBench" "bin" "LGripBench$Bin;", Cond.classLink RX8 61 RX5, Cond.instantiable RX5 4, Cond.initialized RX5, Cond.fieldLink RX8 64 "GripBench" "sheets" "LGripBench$Sheets;", Cond.fieldLink RX8 68 "GripBench" "friction" "I", Cond.methodLink RX8 9 yX3_init, Cond.instanceMethod yX3_init]
def wsL_law_r3 : List Cond := [Cond.code yX3_init cX3_init 1 none, Cond.methodLink RX3 3 objectInit, Cond.arrayClass .int, Cond.fieldLink RX3 9 "GripBench$Polygon" "xs" "[I", Cond.fieldLink RX3 15 "GripBench$Polygon" "ys" "[I", Cond.methodLink RX3 18 yX3_setCorner, Cond.instanceMethod yX3_setCorner, Cond.selects RX3 yX3_setCorner yX3_setCorner, Cond.code yX3_setCorner cX3_setCorner 4 none, Cond.static yX8_setItem, Cond.code yX8_setItem cX8_setItem 3 none, Cond.methodLink RX3 22 yX3_close, Cond.instanceMethod yX3_close, Cond.selects RX3 yX3_close yX3_close, Cond.code yX3_close cX3_close 5 none, Cond.fieldLink RX3 30 "GripBench$Polygon" "corners" "I", Cond.fieldLink RX3 34 "GripBench$Polygon" "area" "I", Cond.fieldLink RX3 37 "GripBench$Polygon" "momentX" "I", Cond.fieldLink RX3 40 "GripBench$Polygon" "momentY" "I", Cond.methodLink RX3 43 yX3_next, Cond.instanceMethod yX3_next, Cond.selects RX3 yX3_next yX3_next, Cond.code yX3_next cX3_next 2 (some .int), Cond.methodLink RX3 47 yX3_x]
def wsL_law_r4 : List Cond := [Cond.instanceMethod yX3_x, Cond.selects RX3 yX3_x yX3_x, Cond.code yX3_x cX3_x 2 (some .int), Cond.static yX8_item, Cond.code yX8_item cX8_item 2 (some .int), Cond.methodLink RX3 50 yX3_y, Cond.instanceMethod yX3_y, Cond.selects RX3 yX3_y yX3_y, Cond.code yX3_y cX3_y 2 (some .int), Cond.instanceMethod yX2_init, Cond.code yX2_init cX2_init 1 none, Cond.methodLink RX2 3 objectInit, Cond.fieldLink RX2 9 "GripBench$Hand" "edges" "[I", Cond.fieldLink RX2 15 "GripBench$Hand" "eighths" "[I", Cond.instanceMethod yX7_init, Cond.code yX7_init cX7_init 1 none, Cond.methodLink RX7 3 objectInit, Cond.fieldLink RX7 9 "GripBench$Triples" "forcesX" "[I", Cond.fieldLink RX7 15 "GripBench$Triples" "forcesY" "[I", Cond.fieldLink RX7 18 "GripBench$Triples" "turns" "[I", Cond.instanceMethod yX6_init, Cond.code yX6_init cX6_init 1 none, Cond.methodLink RX6 3 objectInit, Cond.fieldLink RX6 9 "GripBench$Spots" "edges" "[I"]
def wsL_law_r5 : List Cond := [Cond.fieldLink RX6 15 "GripBench$Spots" "eighths" "[I", Cond.fieldLink RX6 18 "GripBench$Spots" "prices" "[I", Cond.instanceMethod yX4_init, Cond.code yX4_init cX4_init 1 none, Cond.methodLink RX4 3 objectInit, Cond.fieldLink RX4 9 "GripBench$Probes" "xs" "[I", Cond.fieldLink RX4 15 "GripBench$Probes" "ys" "[I", Cond.instanceMethod yX1_init, Cond.code yX1_init cX1_init 1 none, Cond.methodLink RX1 3 objectInit, Cond.fieldLink RX1 9 "GripBench$Grips" "costs" "[I", Cond.fieldLink RX1 15 "GripBench$Grips" "ways" "[I", Cond.instanceMethod yX0_init, Cond.code yX0_init cX0_init 1 none, Cond.methodLink RX0 3 objectInit, Cond.fieldLink RX0 9 "GripBench$Bin" "above" "[I", Cond.methodLink RX8 63 yX5_init, Cond.instanceMethod yX5_init, Cond.code yX5_init cX5_init 2 none, Cond.methodLink RX5 3 objectInit, Cond.fieldLink RX5 9 "GripBench$Sheets" "forms" "[I", Cond.fieldLink RX5 15 "GripBench$Sheets" "lengths" "[I", Cond.fieldLink RX5 18 "GripBench$Sheets" "items" "[I", Cond.methodLink RX5 21 yX5_forget]
def wsL_law_r6 : List Cond := [Cond.instanceMethod yX5_forget, Cond.selects RX5 yX5_forget yX5_forget, Cond.code yX5_forget cX5_forget 2 none, Cond.methodLink RL 12 yX9_init, Cond.instanceMethod yX9_init, Cond.code yX9_init cX9_init 2 none, Cond.methodLink RX9 1 objectInit, Cond.fieldLink RX9 7 "GripBenchModel" "cx" "[I", Cond.fieldLink RX9 13 "GripBenchModel" "cy" "[I", Cond.fieldLink RX9 16 "GripBenchModel" "newX" "[I", Cond.fieldLink RX9 19 "GripBenchModel" "newY" "[I", Cond.fieldLink RX9 22 "GripBenchModel" "edge" "[I", Cond.fieldLink RX9 25 "GripBenchModel" "stand" "[I", Cond.arrayClass .long, Cond.fieldLink RX9 28 "GripBenchModel" "one" "[J", Cond.fieldLink RX9 32 "GripBenchModel" "two" "[J", Cond.fieldLink RX9 35 "GripBenchModel" "three" "[J", Cond.fieldLink RX9 38 "GripBenchModel" "spotEdge" "[I", Cond.fieldLink RX9 41 "GripBenchModel" "spotStand" "[I", Cond.fieldLink RX9 44 "GripBenchModel" "spotPrice" "[I", Cond.fieldLink RX9 47 "GripBenchModel" "px" "[I", Cond.fieldLink RX9 50 "GripBenchModel" "py" "[I", Cond.fieldLink RX9 53 "GripBenchModel" "cost" "[I", Cond.fieldLink RX9 56 "GripBenchModel" "far" "[I"]
def wsL_law_r7 : List Cond := [Cond.fieldLink RX9 59 "GripBenchModel" "above12" "[I", Cond.fieldLink RX9 62 "GripBenchModel" "forms" "[I", Cond.fieldLink RX9 65 "GripBenchModel" "sizes" "[I", Cond.fieldLink RX9 68 "GripBenchModel" "items" "[I", Cond.fieldLink RX9 71 "GripBenchModel" "moved" "[I", Cond.fieldLink RX9 74 "GripBenchModel" "corners" "I", Cond.constant RX9 78 (100000000), Cond.methodLink RL 13 yX8_shape, Cond.instanceMethod yX8_shape, Cond.selects RX8 yX8_shape yX8_shape, Cond.code yX8_shape cX8_shape 4 (some .int), Cond.methodLink RX8 72 yX8_isSheet, Cond.static yX8_isSheet, Cond.code yX8_isSheet cX8_isSheet 1 (some .boolean), Cond.methodLink RX8 76 yX5_isLost, Cond.instanceMethod yX5_isLost, Cond.selects RX5 yX5_isLost yX5_isLost, Cond.code yX5_isLost cX5_isLost 2 (some .boolean), Cond.methodLink RX5 33 yX5_form, Cond.instanceMethod yX5_form, Cond.selects RX5 yX5_form yX5_form, Cond.code yX5_form cX5_form 2 (some .int), Cond.methodLink RX8 79 yX5_find, Cond.instanceMethod yX5_find]
def wsL_law_r8 : List Cond := [Cond.selects RX5 yX5_find yX5_find, Cond.code yX5_find cX5_find 2 (some .int), Cond.fieldLink RX5 25 "GripBench$Sheets" "latestFinding" "I", Cond.methodLink RX8 83 yX5_length, Cond.instanceMethod yX5_length, Cond.selects RX5 yX5_length yX5_length, Cond.code yX5_length cX5_length 2 (some .int), Cond.methodLink RX8 86 yX8_isShape, Cond.instanceMethod yX8_isShape, Cond.selects RX8 yX8_isShape yX8_isShape, Cond.code yX8_isShape cX8_isShape 6 (some .boolean), Cond.methodLink RX8 90 yX5_value, Cond.instanceMethod yX5_value, Cond.selects RX5 yX5_value yX5_value, Cond.code yX5_value cX5_value 3 (some .int), Cond.methodLink RX8 110 yX8_isWithin, Cond.static yX8_isWithin, Cond.code yX8_isWithin cX8_isWithin 2 (some .boolean), Cond.methodLink RX8 94 yX3_setCorner, Cond.methodLink RX8 98 yX3_close, Cond.methodLink RX8 102 yX2_clear, Cond.instanceMethod yX2_clear, Cond.selects RX2 yX2_clear yX2_clear, Cond.code yX2_clear cX2_clear 1 none]
def wsL_law_r9 : List Cond := [Cond.fieldLink RX2 18 "GripBench$Hand" "size" "I", Cond.methodLink RX8 105 yX6_clear, Cond.instanceMethod yX6_clear, Cond.selects RX6 yX6_clear yX6_clear, Cond.code yX6_clear cX6_clear 1 none, Cond.fieldLink RX6 21 "GripBench$Spots" "size" "I", Cond.methodLink RX8 106 yX3_area, Cond.instanceMethod yX3_area, Cond.selects RX3 yX3_area yX3_area, Cond.code yX3_area cX3_area 1 (some .int), Cond.methodLink RL 17 yX9_shape, Cond.instanceMethod yX9_shape, Cond.selects RX9 yX9_shape yX9_shape, Cond.code yX9_shape cX9_shape 7 (some .int), Cond.constantLong RX9 92 (3), Cond.constantLong RX9 94 (10), Cond.constantLong RX9 103 (-30), Cond.constantLong RX9 105 (30), Cond.fieldLink RX9 107 "GripBenchModel" "fingers" "I", Cond.fieldLink RX9 110 "GripBenchModel" "spots" "I", Cond.methodLink RX9 88 yX9_isSheet, Cond.static yX9_isSheet, Cond.code yX9_isSheet cX9_isSheet 1 (some .boolean), Cond.methodLink RX9 96 yX9_in]
def wsL_law_r10 : List Cond := [Cond.static yX9_in, Cond.code yX9_in cX9_in 6 (some .boolean), Cond.methodLink RX9 100 yX9_met, Cond.instanceMethod yX9_met, Cond.selects RX9 yX9_met yX9_met, Cond.code yX9_met cX9_met 2 (some .int), Cond.fieldLink RX9 252 "GripBenchModel" "latest" "I", Cond.methodLink RL 18 yX8_corner, Cond.instanceMethod yX8_corner, Cond.selects RX8 yX8_corner yX8_corner, Cond.code yX8_corner cX8_corner 3 (some .int), Cond.methodLink RX8 113 yX3_corners, Cond.instanceMethod yX3_corners, Cond.selects RX3 yX3_corners yX3_corners, Cond.code yX3_corners cX3_corners 1 (some .int), Cond.methodLink RX8 116 yX3_x, Cond.methodLink RX8 119 yX3_y, Cond.methodLink RL 21 yX9_corner, Cond.instanceMethod yX9_corner, Cond.selects RX9 yX9_corner yX9_corner, Cond.code yX9_corner cX9_corner 3 (some .int), Cond.methodLink RL 22 yX8_middle, Cond.instanceMethod yX8_middle, Cond.selects RX8 yX8_middle yX8_middle]
def wsL_law_r11 : List Cond := [Cond.code yX8_middle cX8_middle 2 (some .int), Cond.constant RX8 128 (-1000000), Cond.methodLink RX8 122 yX3_momentX, Cond.instanceMethod yX3_momentX, Cond.selects RX3 yX3_momentX yX3_momentX, Cond.code yX3_momentX cX3_momentX 1 (some .int), Cond.methodLink RX8 125 yX3_momentY, Cond.instanceMethod yX3_momentY, Cond.selects RX3 yX3_momentY yX3_momentY, Cond.code yX3_momentY cX3_momentY 1 (some .int), Cond.methodLink RL 26 yX9_middle, Cond.instanceMethod yX9_middle, Cond.selects RX9 yX9_middle yX9_middle, Cond.code yX9_middle cX9_middle 2 (some .int), Cond.constant RX9 123 (-1000000), Cond.methodLink RX9 113 yX9_area, Cond.instanceMethod yX9_area, Cond.selects RX9 yX9_area yX9_area, Cond.code yX9_area cX9_area 3 (some .int), Cond.methodLink RX9 85 yX9_cross, Cond.instanceMethod yX9_cross, Cond.selects RX9 yX9_cross yX9_cross, Cond.code yX9_cross cX9_cross 2 (some .int), Cond.methodLink RX9 81 yX9_next]
def wsL_law_r12 : List Cond := [Cond.instanceMethod yX9_next, Cond.selects RX9 yX9_next yX9_next, Cond.code yX9_next cX9_next 2 (some .int), Cond.methodLink RX9 117 yX9_middleX, Cond.instanceMethod yX9_middleX, Cond.selects RX9 yX9_middleX yX9_middleX, Cond.code yX9_middleX cX9_middleX 3 (some .int), Cond.methodLink RX9 120 yX9_middleY, Cond.instanceMethod yX9_middleY, Cond.selects RX9 yX9_middleY yX9_middleY, Cond.code yX9_middleY cX9_middleY 3 (some .int), Cond.methodLink RL 27 yX8_isIn, Cond.instanceMethod yX8_isIn, Cond.selects RX8 yX8_isIn yX8_isIn, Cond.code yX8_isIn cX8_isIn 3 (some .int), Cond.methodLink RX8 129 yX8_isPlace, Cond.static yX8_isPlace, Cond.code yX8_isPlace cX8_isPlace 2 (some .boolean), Cond.methodLink RX8 132 yX3_side, Cond.instanceMethod yX3_side, Cond.selects RX3 yX3_side yX3_side, Cond.code yX3_side cX3_side 11 (some .int), Cond.methodLink RL 30 yX9_isIn, Cond.instanceMethod yX9_isIn]
def wsL_law_r13 : List Cond := [Cond.selects RX9 yX9_isIn yX9_isIn, Cond.code yX9_isIn cX9_isIn 3 (some .int), Cond.methodLink RX9 128 yX9_isPlace, Cond.static yX9_isPlace, Cond.code yX9_isPlace cX9_isPlace 2 (some .boolean), Cond.constantLong RX9 124 (-1000), Cond.constantLong RX9 126 (1000), Cond.methodLink RX9 132 yX9_place, Cond.instanceMethod yX9_place, Cond.selects RX9 yX9_place yX9_place, Cond.code yX9_place cX9_place 11 (some .int), Cond.methodLink RL 31 yX8_finger, Cond.instanceMethod yX8_finger, Cond.selects RX8 yX8_finger yX8_finger, Cond.code yX8_finger cX8_finger 3 (some .int), Cond.methodLink RX8 135 yX8_isStand, Cond.instanceMethod yX8_isStand, Cond.selects RX8 yX8_isStand yX8_isStand, Cond.code yX8_isStand cX8_isStand 3 (some .boolean), Cond.methodLink RX8 138 yX2_size, Cond.instanceMethod yX2_size, Cond.selects RX2 yX2_size yX2_size, Cond.code yX2_size cX2_size 1 (some .int), Cond.methodLink RX8 141 yX2_add]
def wsL_law_r14 : List Cond := [Cond.instanceMethod yX2_add, Cond.selects RX2 yX2_add yX2_add, Cond.code yX2_add cX2_add 3 none, Cond.methodLink RX2 26 yX2_stand, Cond.instanceMethod yX2_stand, Cond.selects RX2 yX2_stand yX2_stand, Cond.code yX2_stand cX2_stand 4 none, Cond.methodLink RL 34 yX9_finger, Cond.instanceMethod yX9_finger, Cond.selects RX9 yX9_finger yX9_finger, Cond.code yX9_finger cX9_finger 3 (some .int), Cond.methodLink RX9 138 yX9_isStand, Cond.instanceMethod yX9_isStand, Cond.selects RX9 yX9_isStand yX9_isStand, Cond.code yX9_isStand cX9_isStand 3 (some .boolean), Cond.constantLong RX9 136 (8), Cond.methodLink RL 35 yX8_move, Cond.instanceMethod yX8_move, Cond.selects RX8 yX8_move yX8_move, Cond.code yX8_move cX8_move 4 (some .int), Cond.methodLink RX8 145 yX8_isFinger, Cond.instanceMethod yX8_isFinger, Cond.selects RX8 yX8_isFinger yX8_isFinger, Cond.code yX8_isFinger cX8_isFinger 2 (some .boolean)]
def wsL_law_r15 : List Cond := [Cond.methodLink RX8 148 yX2_stand, Cond.methodLink RL 39 yX9_move, Cond.instanceMethod yX9_move, Cond.selects RX9 yX9_move yX9_move, Cond.code yX9_move cX9_move 4 (some .int), Cond.methodLink RX9 141 yX9_isFinger, Cond.instanceMethod yX9_isFinger, Cond.selects RX9 yX9_isFinger yX9_isFinger, Cond.code yX9_isFinger cX9_isFinger 2 (some .boolean), Cond.methodLink RL 40 yX8_release, Cond.instanceMethod yX8_release, Cond.selects RX8 yX8_release yX8_release, Cond.code yX8_release cX8_release 2 (some .int), Cond.methodLink RL 44 yX9_release, Cond.instanceMethod yX9_release, Cond.selects RX9 yX9_release yX9_release, Cond.code yX9_release cX9_release 2 (some .int), Cond.methodLink RL 45 yX8_friction, Cond.instanceMethod yX8_friction, Cond.selects RX8 yX8_friction yX8_friction, Cond.code yX8_friction cX8_friction 3 (some .int), Cond.methodLink RL 48 yX9_friction, Cond.instanceMethod yX9_friction, Cond.selects RX9 yX9_friction yX9_friction]
def wsL_law_r16 : List Cond := [Cond.code yX9_friction cX9_friction 3 (some .int), Cond.constantLong RX9 144 (16), Cond.fieldLink RX9 146 "GripBenchModel" "friction" "I", Cond.methodLink RL 49 yX8_push, Cond.instanceMethod yX8_push, Cond.selects RX8 yX8_push yX8_push, Cond.code yX8_push cX8_push 3 (some .long), Cond.methodLink RX8 151 yX7_press, Cond.instanceMethod yX7_press, Cond.selects RX7 yX7_press yX7_press, Cond.code yX7_press cX7_press 11 none, Cond.fieldLink RX7 21 "GripBench$Triples" "size" "I", Cond.methodLink RX7 29 yX2_size, Cond.methodLink RX7 34 yX2_edge, Cond.instanceMethod yX2_edge, Cond.selects RX2 yX2_edge yX2_edge, Cond.code yX2_edge cX2_edge 2 (some .int), Cond.methodLink RX7 38 yX2_eighth, Cond.instanceMethod yX2_eighth, Cond.selects RX2 yX2_eighth yX2_eighth, Cond.code yX2_eighth cX2_eighth 2 (some .int), Cond.methodLink RX7 41 yX3_dx, Cond.instanceMethod yX3_dx, Cond.selects RX3 yX3_dx yX3_dx]
def wsL_law_r17 : List Cond := [Cond.code yX3_dx cX3_dx 2 (some .int), Cond.methodLink RX7 46 yX3_dy, Cond.instanceMethod yX3_dy, Cond.selects RX3 yX3_dy yX3_dy, Cond.code yX3_dy cX3_dy 2 (some .int), Cond.methodLink RX7 49 yX3_x, Cond.methodLink RX7 52 yX3_y, Cond.methodLink RX7 55 yX7_add, Cond.instanceMethod yX7_add, Cond.selects RX7 yX7_add yX7_add, Cond.code yX7_add cX7_add 5 none, Cond.methodLink RX8 155 yX7_size, Cond.instanceMethod yX7_size, Cond.selects RX7 yX7_size yX7_size, Cond.code yX7_size cX7_size 1 (some .int), Cond.methodLink RX8 156 yX8_isTriplePart, Cond.static yX8_isTriplePart, Cond.code yX8_isTriplePart cX8_isTriplePart 1 (some .boolean), Cond.methodLink RX8 159 yX8_refusal, Cond.static yX8_refusal, Cond.code yX8_refusal cX8_refusal 1 (some .long), Cond.constantLong RX8 328 (-9223372036854775808), Cond.methodLink RX8 163 yX7_part, Cond.instanceMethod yX7_part]
def wsL_law_r18 : List Cond := [Cond.selects RX7 yX7_part yX7_part, Cond.code yX7_part cX7_part 3 (some .int), Cond.methodLink RL 53 yX9_push, Cond.instanceMethod yX9_push, Cond.selects RX9 yX9_push yX9_push, Cond.code yX9_push cX9_push 3 (some .long), Cond.fieldLink RX9 149 "GripBenchModel" "triples" "I", Cond.constantLong RX9 187 (2), Cond.methodLink RX9 184 yX9_layAll, Cond.instanceMethod yX9_layAll, Cond.selects RX9 yX9_layAll yX9_layAll, Cond.code yX9_layAll cX9_layAll 2 none, Cond.methodLink RX9 156 yX9_lays, Cond.instanceMethod yX9_lays, Cond.selects RX9 yX9_lays yX9_lays, Cond.code yX9_lays cX9_lays 7 none, Cond.methodLink RX9 152 yX9_lay, Cond.instanceMethod yX9_lay, Cond.selects RX9 yX9_lay yX9_lay, Cond.code yX9_lay cX9_lay 5 none, Cond.methodLink RX9 189 yX9_no, Cond.static yX9_no, Cond.code yX9_no cX9_no 1 (some .long), Cond.constantLong RX9 79 (-9223372036854775808)]
def wsL_law_r19 : List Cond := [Cond.methodLink RL 54 yX8_holds, Cond.instanceMethod yX8_holds, Cond.selects RX8 yX8_holds yX8_holds, Cond.code yX8_holds cX8_holds 1 (some .int), Cond.methodLink RX8 166 yX8_isHeldBy, Cond.instanceMethod yX8_isHeldBy, Cond.selects RX8 yX8_isHeldBy yX8_isHeldBy, Cond.code yX8_isHeldBy cX8_isHeldBy 2 (some .boolean), Cond.methodLink RX8 170 yX7_spread, Cond.instanceMethod yX7_spread, Cond.selects RX7 yX7_spread yX7_spread, Cond.code yX7_spread cX7_spread 5 (some .int), Cond.methodLink RX7 63 yX7_cross, Cond.instanceMethod yX7_cross, Cond.selects RX7 yX7_cross yX7_cross, Cond.code yX7_cross cX7_cross 15 (some .boolean), Cond.fieldLink RX7 74 "GripBench$Triples" "crossX" "J", Cond.fieldLink RX7 78 "GripBench$Triples" "crossY" "J", Cond.fieldLink RX7 81 "GripBench$Triples" "crossTurn" "J", Cond.methodLink RX7 67 yX7_signs, Cond.instanceMethod yX7_signs, Cond.selects RX7 yX7_signs yX7_signs, Cond.code yX7_signs cX7_signs 5 (some .int), Cond.methodLink RX7 70 yX7_turnIfBelow]
def wsL_law_r20 : List Cond := [Cond.instanceMethod yX7_turnIfBelow, Cond.selects RX7 yX7_turnIfBelow yX7_turnIfBelow, Cond.code yX7_turnIfBelow cX7_turnIfBelow 2 none, Cond.methodLink RL 57 yX9_holds, Cond.instanceMethod yX9_holds, Cond.selects RX9 yX9_holds yX9_holds, Cond.code yX9_holds cX9_holds 1 (some .int), Cond.methodLink RX9 193 yX9_hold, Cond.instanceMethod yX9_hold, Cond.selects RX9 yX9_hold yX9_hold, Cond.code yX9_hold cX9_hold 3 (some .boolean), Cond.fieldLink RX9 170 "GripBenchModel" "above" "Z", Cond.fieldLink RX9 174 "GripBenchModel" "below" "Z", Cond.methodLink RX9 180 yX9_isFull, Cond.instanceMethod yX9_isFull, Cond.selects RX9 yX9_isFull yX9_isFull, Cond.code yX9_isFull cX9_isFull 4 (some .boolean), Cond.methodLink RX9 177 yX9_crosses, Cond.instanceMethod yX9_crosses, Cond.selects RX9 yX9_crosses yX9_crosses, Cond.code yX9_crosses cX9_crosses 6 (some .boolean), Cond.fieldLink RX9 160 "GripBenchModel" "c1" "J", Cond.fieldLink RX9 164 "GripBenchModel" "c2" "J", Cond.fieldLink RX9 167 "GripBenchModel" "c3" "J"]
def wsL_law_r21 : List Cond := [Cond.methodLink RL 58 yX8_witness, Cond.instanceMethod yX8_witness, Cond.selects RX8 yX8_witness yX8_witness, Cond.code yX8_witness cX8_witness 2 (some .long), Cond.methodLink RX8 173 yX7_normal, Cond.instanceMethod yX7_normal, Cond.selects RX7 yX7_normal yX7_normal, Cond.code yX7_normal cX7_normal 2 (some .long), Cond.methodLink RL 62 yX9_witness, Cond.instanceMethod yX9_witness, Cond.selects RX9 yX9_witness yX9_witness, Cond.code yX9_witness cX9_witness 6 (some .long), Cond.methodLink RL 63 yX8_free, Cond.instanceMethod yX8_free, Cond.selects RX8 yX8_free yX8_free, Cond.code yX8_free cX8_free 4 (some .int), Cond.methodLink RX8 176 yX2_become, Cond.instanceMethod yX2_become, Cond.selects RX2 yX2_become yX2_become, Cond.code yX2_become cX2_become 3 none, Cond.methodLink RX2 34 yX2_clear, Cond.methodLink RX2 37 yX2_size, Cond.methodLink RX2 40 yX2_edge, Cond.methodLink RX2 44 yX2_eighth]
def wsL_law_r22 : List Cond := [Cond.methodLink RX2 47 yX2_add, Cond.methodLink RX8 180 yX2_edge, Cond.methodLink RL 66 yX9_free, Cond.instanceMethod yX9_free, Cond.selects RX9 yX9_free yX9_free, Cond.code yX9_free cX9_free 5 (some .int), Cond.methodLink RL 67 yX8_slip, Cond.instanceMethod yX8_slip, Cond.selects RX8 yX8_slip yX8_slip, Cond.code yX8_slip cX8_slip 2 (some .int), Cond.methodLink RX8 183 yX8_isHeldWithin, Cond.instanceMethod yX8_isHeldWithin, Cond.selects RX8 yX8_isHeldWithin yX8_isHeldWithin, Cond.code yX8_isHeldWithin cX8_isHeldWithin 4 (some .boolean), Cond.methodLink RX8 186 yX8_slide, Cond.instanceMethod yX8_slide, Cond.selects RX8 yX8_slide yX8_slide, Cond.code yX8_slide cX8_slide 7 (some .boolean), Cond.methodLink RX8 192 Lib.Math.max.name, Cond.static Lib.Math.max.name, Cond.initialized "java/lang/Math", Cond.code Lib.Math.max.name Lib.Math.max.code 2 (some .int), Cond.methodLink RX8 197 Lib.Math.min.name, Cond.static Lib.Math.min.name]
def wsL_law_r23 : List Cond := [Cond.code Lib.Math.min.name Lib.Math.min.code 2 (some .int), Cond.methodLink RX8 189 yX2_eighth, Cond.methodLink RL 70 yX9_slip, Cond.instanceMethod yX9_slip, Cond.selects RX9 yX9_slip yX9_slip, Cond.code yX9_slip cX9_slip 3 (some .int), Cond.methodLink RX9 196 yX9_holdBy, Cond.instanceMethod yX9_holdBy, Cond.selects RX9 yX9_holdBy yX9_holdBy, Cond.code yX9_holdBy cX9_holdBy 7 (some .boolean), Cond.methodLink RL 71 yX8_spot, Cond.instanceMethod yX8_spot, Cond.selects RX8 yX8_spot yX8_spot, Cond.code yX8_spot cX8_spot 4 (some .int), Cond.methodLink RX8 200 yX6_size, Cond.instanceMethod yX6_size, Cond.selects RX6 yX6_size yX6_size, Cond.code yX6_size cX6_size 1 (some .int), Cond.methodLink RX8 201 yX6_add, Cond.instanceMethod yX6_add, Cond.selects RX6 yX6_add yX6_add, Cond.code yX6_add cX6_add 4 none, Cond.methodLink RL 74 yX9_spot, Cond.instanceMethod yX9_spot]
def wsL_law_r24 : List Cond := [Cond.selects RX9 yX9_spot yX9_spot, Cond.code yX9_spot cX9_spot 4 (some .int), Cond.methodLink RL 75 yX8_cheapest, Cond.instanceMethod yX8_cheapest, Cond.selects RX8 yX8_cheapest yX8_cheapest, Cond.code yX8_cheapest cX8_cheapest 3 (some .int), Cond.methodLink RX8 203 yX6_isBetter, Cond.instanceMethod yX6_isBetter, Cond.selects RX6 yX6_isBetter yX6_isBetter, Cond.code yX6_isBetter cX6_isBetter 4 (some .boolean), Cond.methodLink RX6 33 yX6_price, Cond.instanceMethod yX6_price, Cond.selects RX6 yX6_price yX6_price, Cond.code yX6_price cX6_price 4 (some .int), Cond.methodLink RX6 37 yJ6_bitCount_0f7a4, Cond.static yJ6_bitCount_0f7a4, Cond.initialized RJ6, Cond.code yJ6_bitCount_0f7a4 cJ6_bitCount_0f7a4 1 (some .int), Cond.constant RJ6 265 (1431655765), Cond.constant RJ6 266 (858993459), Cond.constant RJ6 267 (252645135), Cond.methodLink RX8 206 yX6_layOut, Cond.instanceMethod yX6_layOut, Cond.selects RX6 yX6_layOut yX6_layOut]
def wsL_law_r25 : List Cond := [Cond.code yX6_layOut cX6_layOut 4 none, Cond.methodLink RX6 42 yX2_clear, Cond.methodLink RX6 47 yX2_add, Cond.methodLink RL 78 yX9_cheapest, Cond.instanceMethod yX9_cheapest, Cond.selects RX9 yX9_cheapest yX9_cheapest, Cond.code yX9_cheapest cX9_cheapest 7 (some .int), Cond.methodLink RX9 199 yX9_priceOf, Cond.instanceMethod yX9_priceOf, Cond.selects RX9 yX9_priceOf yX9_priceOf, Cond.code yX9_priceOf cX9_priceOf 4 (some .int), Cond.methodLink RL 79 yX8_take, Cond.instanceMethod yX8_take, Cond.selects RX8 yX8_take yX8_take, Cond.code yX8_take cX8_take 2 (some .int), Cond.methodLink RX8 210 yX8_cheapest, Cond.methodLink RX8 213 yX6_price, Cond.methodLink RL 82 yX9_take, Cond.instanceMethod yX9_take, Cond.selects RX9 yX9_take yX9_take, Cond.code yX9_take cX9_take 3 (some .int), Cond.methodLink RX9 202 yX9_cheapest, Cond.methodLink RL 83 yX8_lifts, Cond.instanceMethod yX8_lifts]
def wsL_law_r26 : List Cond := [Cond.selects RX8 yX8_lifts yX8_lifts, Cond.code yX8_lifts cX8_lifts 5 (some .int), Cond.constant RX8 219 (100000), Cond.methodLink RX8 216 yX8_isWeight, Cond.static yX8_isWeight, Cond.code yX8_isWeight cX8_isWeight 1 (some .boolean), Cond.methodLink RX8 220 yX3_pull, Cond.instanceMethod yX3_pull, Cond.selects RX3 yX3_pull yX3_pull, Cond.code yX3_pull cX3_pull 8 (some .long), Cond.constantLong RX3 57 (3), Cond.constantLong RX3 59 (8), Cond.methodLink RX8 224 yX3_isSealed, Cond.instanceMethod yX3_isSealed, Cond.selects RX3 yX3_isSealed yX3_isSealed, Cond.code yX3_isSealed cX3_isSealed 6 (some .boolean), Cond.constantLong RX3 61 (2000000000), Cond.methodLink RL 87 yX9_lifts, Cond.instanceMethod yX9_lifts, Cond.selects RX9 yX9_lifts yX9_lifts, Cond.code yX9_lifts cX9_lifts 5 (some .int), Cond.constantLong RX9 211 (20), Cond.constantLong RX9 213 (100000), Cond.methodLink RX9 215 yX9_lifted]
def wsL_law_r27 : List Cond := [Cond.instanceMethod yX9_lifted, Cond.selects RX9 yX9_lifted yX9_lifted, Cond.code yX9_lifted cX9_lifted 8 (some .boolean), Cond.constantLong RX9 205 (3000000000), Cond.methodLink RX9 207 yX9_farSquare, Cond.instanceMethod yX9_farSquare, Cond.selects RX9 yX9_farSquare yX9_farSquare, Cond.code yX9_farSquare cX9_farSquare 9 (some .long), Cond.methodLink RL 88 yX8_seal, Cond.instanceMethod yX8_seal, Cond.selects RX8 yX8_seal yX8_seal, Cond.code yX8_seal cX8_seal 4 (some .int), Cond.methodLink RX8 228 yX3_leastSeal, Cond.instanceMethod yX3_leastSeal, Cond.selects RX3 yX3_leastSeal yX3_leastSeal, Cond.code yX3_leastSeal cX3_leastSeal 7 (some .int), Cond.constant RX3 63 (1073741824), Cond.methodLink RX3 64 yX3_isSealed, Cond.methodLink RL 91 yX9_seal, Cond.instanceMethod yX9_seal, Cond.selects RX9 yX9_seal yX9_seal, Cond.code yX9_seal cX9_seal 12 (some .int), Cond.constantLong RX9 219 (2000000000), Cond.methodLink RL 92 yX8_probe]
def wsL_law_r28 : List Cond := [Cond.instanceMethod yX8_probe, Cond.selects RX8 yX8_probe yX8_probe, Cond.code yX8_probe cX8_probe 3 (some .int), Cond.methodLink RX8 232 yX4_size, Cond.instanceMethod yX4_size, Cond.selects RX4 yX4_size yX4_size, Cond.code yX4_size cX4_size 1 (some .int), Cond.fieldLink RX4 18 "GripBench$Probes" "size" "I", Cond.methodLink RX8 233 yX4_add, Cond.instanceMethod yX4_add, Cond.selects RX4 yX4_add yX4_add, Cond.code yX4_add cX4_add 3 none, Cond.methodLink RL 95 yX9_probe, Cond.instanceMethod yX9_probe, Cond.selects RX9 yX9_probe yX9_probe, Cond.code yX9_probe cX9_probe 3 (some .int), Cond.constantLong RX9 221 (-40), Cond.constantLong RX9 223 (40), Cond.fieldLink RX9 225 "GripBenchModel" "probes" "I", Cond.methodLink RL 96 yX8_poses, Cond.instanceMethod yX8_poses, Cond.selects RX8 yX8_poses yX8_poses, Cond.code yX8_poses cX8_poses 4 (some .int), Cond.methodLink RX8 234 yX8_fits]
def wsL_law_r29 : List Cond := [Cond.instanceMethod yX8_fits, Cond.selects RX8 yX8_fits yX8_fits, Cond.code yX8_fits cX8_fits 7 (some .boolean), Cond.methodLink RX8 237 yX5_hasValue, Cond.instanceMethod yX5_hasValue, Cond.selects RX5 yX5_hasValue yX5_hasValue, Cond.code yX5_hasValue cX5_hasValue 4 (some .boolean), Cond.methodLink RX5 41 yX5_length, Cond.methodLink RX5 44 yX5_value, Cond.methodLink RX8 241 yX4_x, Cond.instanceMethod yX4_x, Cond.selects RX4 yX4_x yX4_x, Cond.code yX4_x cX4_x 2 (some .int), Cond.methodLink RX8 242 yX4_y, Cond.instanceMethod yX4_y, Cond.selects RX4 yX4_y yX4_y, Cond.code yX4_y cX4_y 2 (some .int), Cond.methodLink RL 99 yX9_poses, Cond.instanceMethod yX9_poses, Cond.selects RX9 yX9_poses yX9_poses, Cond.code yX9_poses cX9_poses 3 (some .int), Cond.methodLink RX9 228 yX9_fits, Cond.instanceMethod yX9_fits, Cond.selects RX9 yX9_fits yX9_fits]
def wsL_law_r30 : List Cond := [Cond.code yX9_fits cX9_fits 7 (some .boolean), Cond.methodLink RL 100 yX8_pose, Cond.instanceMethod yX8_pose, Cond.selects RX8 yX8_pose yX8_pose, Cond.code yX8_pose cX8_pose 5 (some .int), Cond.methodLink RL 103 yX9_pose, Cond.instanceMethod yX9_pose, Cond.selects RX9 yX9_pose yX9_pose, Cond.code yX9_pose cX9_pose 4 (some .int), Cond.methodLink RL 104 yX8_grip, Cond.instanceMethod yX8_grip, Cond.selects RX8 yX8_grip yX8_grip, Cond.code yX8_grip cX8_grip 1 (some .int), Cond.methodLink RX8 243 yX1_size, Cond.instanceMethod yX1_size, Cond.selects RX1 yX1_size yX1_size, Cond.code yX1_size cX1_size 1 (some .int), Cond.fieldLink RX1 18 "GripBench$Grips" "size" "I", Cond.methodLink RX8 244 yX1_add, Cond.instanceMethod yX1_add, Cond.selects RX1 yX1_add yX1_add, Cond.code yX1_add cX1_add 1 none, Cond.methodLink RL 107 yX9_grip, Cond.instanceMethod yX9_grip]
def wsL_law_r31 : List Cond := [Cond.selects RX9 yX9_grip yX9_grip, Cond.code yX9_grip cX9_grip 1 (some .int), Cond.fieldLink RX9 231 "GripBenchModel" "grips" "I", Cond.methodLink RL 108 yX8_link, Cond.instanceMethod yX8_link, Cond.selects RX8 yX8_link yX8_link, Cond.code yX8_link cX8_link 4 (some .int), Cond.methodLink RX8 246 yX8_isGrip, Cond.instanceMethod yX8_isGrip, Cond.selects RX8 yX8_isGrip yX8_isGrip, Cond.code yX8_isGrip cX8_isGrip 2 (some .boolean), Cond.methodLink RX8 249 yX1_join, Cond.instanceMethod yX1_join, Cond.selects RX1 yX1_join yX1_join, Cond.code yX1_join cX1_join 4 none, Cond.methodLink RL 111 yX9_link, Cond.instanceMethod yX9_link, Cond.selects RX9 yX9_link yX9_link, Cond.code yX9_link cX9_link 4 (some .int), Cond.methodLink RX9 234 yX9_isGrip, Cond.instanceMethod yX9_isGrip, Cond.selects RX9 yX9_isGrip yX9_isGrip, Cond.code yX9_isGrip cX9_isGrip 2 (some .boolean), Cond.methodLink RL 112 yX8_way]
def wsL_law_r32 : List Cond := [Cond.instanceMethod yX8_way, Cond.selects RX8 yX8_way yX8_way, Cond.code yX8_way cX8_way 3 (some .int), Cond.methodLink RX8 252 yX1_leastCost, Cond.instanceMethod yX1_leastCost, Cond.selects RX1 yX1_leastCost yX1_leastCost, Cond.code yX1_leastCost cX1_leastCost 4 (some .int), Cond.constant RX1 26 (1048576), Cond.methodLink RX1 27 yX1_goOneMoveFarther, Cond.instanceMethod yX1_goOneMoveFarther, Cond.selects RX1 yX1_goOneMoveFarther yX1_goOneMoveFarther, Cond.code yX1_goOneMoveFarther cX1_goOneMoveFarther 5 none, Cond.methodLink RL 115 yX9_way, Cond.instanceMethod yX9_way, Cond.selects RX9 yX9_way yX9_way, Cond.code yX9_way cX9_way 6 (some .int), Cond.methodLink RL 116 yX8_drop, Cond.instanceMethod yX8_drop, Cond.selects RX8 yX8_drop yX8_drop, Cond.code yX8_drop cX8_drop 1 (some .int), Cond.methodLink RX8 255 yX0_dropped, Cond.instanceMethod yX0_dropped, Cond.selects RX0 yX0_dropped yX0_dropped, Cond.code yX0_dropped cX0_dropped 1 (some .int)]
def wsL_law_r33 : List Cond := [Cond.fieldLink RX0 15 "GripBench$Bin" "dropped" "I", Cond.methodLink RX8 258 yX0_add, Cond.instanceMethod yX0_add, Cond.selects RX0 yX0_add yX0_add, Cond.code yX0_add cX0_add 1 none, Cond.fieldLink RX0 19 "GripBench$Bin" "inside" "I", Cond.methodLink RL 119 yX9_drop, Cond.instanceMethod yX9_drop, Cond.selects RX9 yX9_drop yX9_drop, Cond.code yX9_drop cX9_drop 1 (some .int), Cond.fieldLink RX9 237 "GripBenchModel" "dropped" "I", Cond.fieldLink RX9 240 "GripBenchModel" "bin" "I", Cond.methodLink RL 120 yX8_on, Cond.instanceMethod yX8_on, Cond.selects RX8 yX8_on yX8_on, Cond.code yX8_on cX8_on 3 (some .int), Cond.methodLink RX8 259 yX8_isDropped, Cond.instanceMethod yX8_isDropped, Cond.selects RX8 yX8_isDropped yX8_isDropped, Cond.code yX8_isDropped cX8_isDropped 2 (some .boolean), Cond.methodLink RX8 262 yX0_lay, Cond.instanceMethod yX0_lay, Cond.selects RX0 yX0_lay yX0_lay, Cond.code yX0_lay cX0_lay 3 none]
def wsL_law_r34 : List Cond := [Cond.methodLink RL 123 yX9_on, Cond.instanceMethod yX9_on, Cond.selects RX9 yX9_on yX9_on, Cond.code yX9_on cX9_on 3 (some .int), Cond.methodLink RX9 243 yX9_isDropped, Cond.instanceMethod yX9_isDropped, Cond.selects RX9 yX9_isDropped yX9_isDropped, Cond.code yX9_isDropped cX9_isDropped 2 (some .boolean), Cond.methodLink RL 124 yX8_pick, Cond.instanceMethod yX8_pick, Cond.selects RX8 yX8_pick yX8_pick, Cond.code yX8_pick cX8_pick 2 (some .int), Cond.methodLink RX8 265 yX0_isInside, Cond.instanceMethod yX0_isInside, Cond.selects RX0 yX0_isInside yX0_isInside, Cond.code yX0_isInside cX0_isInside 2 (some .boolean), Cond.methodLink RX8 268 yX0_isCovered, Cond.instanceMethod yX0_isCovered, Cond.selects RX0 yX0_isCovered yX0_isCovered, Cond.code yX0_isCovered cX0_isCovered 2 (some .boolean), Cond.methodLink RX8 271 yX0_remove, Cond.instanceMethod yX0_remove, Cond.selects RX0 yX0_remove yX0_remove, Cond.code yX0_remove cX0_remove 2 none]
def wsL_law_r35 : List Cond := [Cond.methodLink RL 127 yX9_pick, Cond.instanceMethod yX9_pick, Cond.selects RX9 yX9_pick yX9_pick, Cond.code yX9_pick cX9_pick 2 (some .int), Cond.methodLink RL 128 yX8_reach, Cond.instanceMethod yX8_reach, Cond.selects RX8 yX8_reach yX8_reach, Cond.code yX8_reach cX8_reach 2 (some .int), Cond.methodLink RX8 274 yX0_stuckBits, Cond.instanceMethod yX0_stuckBits, Cond.selects RX0 yX0_stuckBits yX0_stuckBits, Cond.code yX0_stuckBits cX0_stuckBits 4 (some .int), Cond.methodLink RX8 277 yX0_withAllAbove, Cond.instanceMethod yX0_withAllAbove, Cond.selects RX0 yX0_withAllAbove yX0_withAllAbove, Cond.code yX0_withAllAbove cX0_withAllAbove 5 (some .int), Cond.methodLink RX8 280 yJ6_bitCount_0f7a4, Cond.methodLink RL 131 yX9_reach, Cond.instanceMethod yX9_reach, Cond.selects RX9 yX9_reach yX9_reach, Cond.code yX9_reach cX9_reach 5 (some .int), Cond.methodLink RX9 246 yX9_left, Cond.instanceMethod yX9_left, Cond.selects RX9 yX9_left yX9_left]
def wsL_law_r36 : List Cond := [Cond.code yX9_left cX9_left 5 (some .int), Cond.methodLink RX9 249 yX9_ones, Cond.static yX9_ones, Cond.code yX9_ones cX9_ones 3 (some .int), Cond.methodLink RL 132 yX8_stuck, Cond.instanceMethod yX8_stuck, Cond.selects RX8 yX8_stuck yX8_stuck, Cond.code yX8_stuck cX8_stuck 1 (some .int), Cond.methodLink RL 135 yX9_stuck, Cond.instanceMethod yX9_stuck, Cond.selects RX9 yX9_stuck yX9_stuck, Cond.code yX9_stuck cX9_stuck 1 (some .int), Cond.methodLink RL 136 yX8_sheet, Cond.instanceMethod yX8_sheet, Cond.selects RX8 yX8_sheet yX8_sheet, Cond.code yX8_sheet cX8_sheet 4 (some .int), Cond.methodLink RX8 285 yX8_isForm, Cond.static yX8_isForm, Cond.code yX8_isForm cX8_isForm 1 (some .boolean), Cond.methodLink RX8 288 yX5_renew, Cond.instanceMethod yX5_renew, Cond.selects RX5 yX5_renew yX5_renew, Cond.code yX5_renew cX5_renew 5 none, Cond.methodLink RL 139 yX9_sheet]
def wsL_law_r37 : List Cond := [Cond.instanceMethod yX9_sheet, Cond.selects RX9 yX9_sheet yX9_sheet, Cond.code yX9_sheet cX9_sheet 5 (some .int), Cond.methodLink RL 140 yX8_lose, Cond.instanceMethod yX8_lose, Cond.selects RX8 yX8_lose yX8_lose, Cond.code yX8_lose cX8_lose 3 (some .int), Cond.methodLink RX8 291 yX5_forget, Cond.methodLink RL 143 yX9_lose, Cond.instanceMethod yX9_lose, Cond.selects RX9 yX9_lose yX9_lose, Cond.code yX9_lose cX9_lose 2 (some .int), Cond.methodLink RL 144 yX8_put, Cond.instanceMethod yX8_put, Cond.selects RX8 yX8_put yX8_put, Cond.code yX8_put cX8_put 6 (some .int), Cond.methodLink RX8 294 yX5_faultAt, Cond.instanceMethod yX5_faultAt, Cond.selects RX5 yX5_faultAt yX5_faultAt, Cond.code yX5_faultAt cX5_faultAt 4 (some .int), Cond.methodLink RX5 48 yX5_isLost, Cond.methodLink RX8 298 yX5_write, Cond.instanceMethod yX5_write, Cond.selects RX5 yX5_write yX5_write]
def wsL_law_r38 : List Cond := [Cond.code yX5_write cX5_write 5 none, Cond.methodLink RL 147 yX9_put, Cond.instanceMethod yX9_put, Cond.selects RX9 yX9_put yX9_put, Cond.code yX9_put cX9_put 6 (some .int), Cond.methodLink RX9 255 yX9_lacks, Cond.instanceMethod yX9_lacks, Cond.selects RX9 yX9_lacks yX9_lacks, Cond.code yX9_lacks cX9_lacks 4 (some .int), Cond.methodLink RL 148 yX8_get, Cond.instanceMethod yX8_get, Cond.selects RX8 yX8_get yX8_get, Cond.code yX8_get cX8_get 5 (some .int), Cond.constant RX8 301 (-2147483648), Cond.methodLink RL 151 yX9_get, Cond.instanceMethod yX9_get, Cond.selects RX9 yX9_get yX9_get, Cond.code yX9_get cX9_get 4 (some .int), Cond.constant RX9 259 (-2147483648), Cond.methodLink RL 152 yX8_copy, Cond.instanceMethod yX8_copy, Cond.selects RX8 yX8_copy yX8_copy, Cond.code yX8_copy cX8_copy 8 (some .int), Cond.methodLink RX8 302 yX5_form]
def wsL_law_r39 : List Cond := [Cond.methodLink RX8 305 yX5_hasRun, Cond.instanceMethod yX5_hasRun, Cond.selects RX5 yX5_hasRun yX5_hasRun, Cond.code yX5_hasRun cX5_hasRun 4 (some .boolean), Cond.methodLink RL 156 yX9_copy, Cond.instanceMethod yX9_copy, Cond.selects RX9 yX9_copy yX9_copy, Cond.code yX9_copy cX9_copy 7 (some .int), Cond.methodLink RL 157 yX8_count, Cond.instanceMethod yX8_count, Cond.selects RX8 yX8_count yX8_count, Cond.code yX8_count cX8_count 2 (some .int), Cond.methodLink RX8 308 yX5_latestFinding, Cond.instanceMethod yX5_latestFinding, Cond.selects RX5 yX5_latestFinding yX5_latestFinding, Cond.code yX5_latestFinding cX5_latestFinding 1 (some .int), Cond.methodLink RX8 311 yX0_size, Cond.instanceMethod yX0_size, Cond.selects RX0 yX0_size yX0_size, Cond.code yX0_size cX0_size 1 (some .int), Cond.methodLink RX0 22 yJ6_bitCount_0f7a4, Cond.methodLink RL 160 yX9_count, Cond.instanceMethod yX9_count, Cond.selects RX9 yX9_count yX9_count]
def wsL_law_r40 : List Cond := [Cond.code yX9_count cX9_count 2 (some .int), Cond.methodLink RL 161 yX8_digest, Cond.instanceMethod yX8_digest, Cond.selects RX8 yX8_digest yX8_digest, Cond.code yX8_digest cX8_digest 5 (some .long), Cond.constantLong RX8 312 (17), Cond.constantLong RX8 314 (31), Cond.methodLink RX8 316 yX8_count, Cond.methodLink RX8 319 yX8_holds, Cond.methodLink RX8 322 yX8_poses, Cond.methodLink RX8 325 yX8_stuck, Cond.methodLink RL 165 yX9_digest, Cond.instanceMethod yX9_digest, Cond.selects RX9 yX9_digest yX9_digest, Cond.code yX9_digest cX9_digest 4 (some .long), Cond.constantLong RX9 260 (17), Cond.constantLong RX9 262 (31), Cond.methodLink RX9 264 yX9_count, Cond.methodLink RX9 267 yX9_poses, Cond.methodLink RX9 270 yX9_stuck]
def wsL_law : List Cond := (wsL_law_r1 ++ (wsL_law_r2 ++ (wsL_law_r3 ++ (wsL_law_r4 ++ (wsL_law_r5 ++ (wsL_law_r6 ++ (wsL_law_r7 ++ (wsL_law_r8 ++ (wsL_law_r9 ++ (wsL_law_r10 ++ (wsL_law_r11 ++ (wsL_law_r12 ++ (wsL_law_r13 ++ (wsL_law_r14 ++ (wsL_law_r15 ++ (wsL_law_r16 ++ (wsL_law_r17 ++ (wsL_law_r18 ++ (wsL_law_r19 ++ (wsL_law_r20 ++ (wsL_law_r21 ++ (wsL_law_r22 ++ (wsL_law_r23 ++ (wsL_law_r24 ++ (wsL_law_r25 ++ (wsL_law_r26 ++ (wsL_law_r27 ++ (wsL_law_r28 ++ (wsL_law_r29 ++ (wsL_law_r30 ++ (wsL_law_r31 ++ (wsL_law_r32 ++ (wsL_law_r33 ++ (wsL_law_r34 ++ (wsL_law_r35 ++ (wsL_law_r36 ++ (wsL_law_r37 ++ (wsL_law_r38 ++ (wsL_law_r39 ++ wsL_law_r40))))))))))))))))))))))))))))))))))))))) ++ wsX80 ++ wsX90 ++ wsX30 ++ wsX20 ++ wsX70 ++ wsX60 ++ wsX40 ++ wsX10 ++ wsX00 ++ wsX50 ++ ([] : List Cond)
set_option maxRecDepth 20000 in
theorem wsL_law_r1_in : GoodIn lw_tbl wsL_law_r1 := goodIn_p wsL_law_r1 [55, 58] (by decide +kernel) (by decide +kernel)
set_option maxRecDepth 20000 in
theorem wsL_law_r2_in : GoodIn lw_tbl wsL_law_r2 := goodIn_p wsL_law_r2 [] (by decide +kernel) (by decide +kernel)
set_option maxRecDepth 20000 in
theorem wsL_law_r3_in : GoodIn lw_tbl wsL_law_r3 := goodIn_p wsL_law_r3 [63, 68, 71, 75, 79] (by decide +kernel) (by decide +kernel)
set_option maxRecDepth 20000 in
theorem wsL_law_r4_in : GoodIn lw_tbl wsL_law_r4 := goodIn_p wsL_law_r4 [83, 86, 90, 115, 131, 159] (by decide +kernel) (by decide +kernel)
set_option maxRecDepth 20000 in
theorem wsL_law_r5_in : GoodIn lw_tbl wsL_law_r5 := goodIn_p wsL_law_r5 [178, 194, 210, 226] (by decide +kernel) (by decide +kernel)
set_option maxRecDepth 20000 in
theorem wsL_law_r6_in : GoodIn lw_tbl wsL_law_r6 := goodIn_p wsL_law_r6 [231, 793] (by decide +kernel) (by decide +kernel)
set_option maxRecDepth 20000 in
theorem wsL_law_r7_in : GoodIn lw_tbl wsL_law_r7 := goodIn_p wsL_law_r7 [280, 283, 287, 291] (by decide +kernel) (by decide +kernel)
set_option maxRecDepth 20000 in
theorem wsL_law_r8_in : GoodIn lw_tbl wsL_law_r8 := goodIn_p wsL_law_r8 [296, 300, 304, 308, 311, 317] (by decide +kernel) (by decide +kernel)
set_option maxRecDepth 20000 in
theorem wsL_law_r9_in : GoodIn lw_tbl wsL_law_r9 := goodIn_p wsL_law_r9 [321, 325, 909, 912] (by decide +kernel) (by decide +kernel)
set_option maxRecDepth 20000 in
theorem wsL_law_r10_in : GoodIn lw_tbl wsL_law_r10 := goodIn_p wsL_law_r10 [916, 921, 329, 333, 927] (by decide +kernel) (by decide +kernel)
set_option maxRecDepth 20000 in
theorem wsL_law_r11_in : GoodIn lw_tbl wsL_law_r11 := goodIn_p wsL_law_r11 [339, 343, 347, 931, 935, 939] (by decide +kernel) (by decide +kernel)
set_option maxRecDepth 20000 in
theorem wsL_law_r12_in : GoodIn lw_tbl wsL_law_r12 := goodIn_p wsL_law_r12 [943, 947, 951, 352, 355, 359] (by decide +kernel) (by decide +kernel)
set_option maxRecDepth 20000 in
theorem wsL_law_r13_in : GoodIn lw_tbl wsL_law_r13 := goodIn_p wsL_law_r13 [956, 959, 965, 363, 367, 371] (by decide +kernel) (by decide +kernel)
set_option maxRecDepth 20000 in
theorem wsL_law_r14_in : GoodIn lw_tbl wsL_law_r14 := goodIn_p wsL_law_r14 [375, 379, 969, 973, 384, 388] (by decide +kernel) (by decide +kernel)
set_option maxRecDepth 20000 in
theorem wsL_law_r15_in : GoodIn lw_tbl wsL_law_r15 := goodIn_p wsL_law_r15 [978, 982, 393, 986, 397] (by decide +kernel) (by decide +kernel)
set_option maxRecDepth 20000 in
theorem wsL_law_r16_in : GoodIn lw_tbl wsL_law_r16 := goodIn_p wsL_law_r16 [990, 401, 405, 410, 415] (by decide +kernel) (by decide +kernel)
set_option maxRecDepth 20000 in
theorem wsL_law_r17_in : GoodIn lw_tbl wsL_law_r17 := goodIn_p wsL_law_r17 [419, 423, 429, 434, 437, 440] (by decide +kernel) (by decide +kernel)
set_option maxRecDepth 20000 in
theorem wsL_law_r18_in : GoodIn lw_tbl wsL_law_r18 := goodIn_p wsL_law_r18 [445, 995, 999, 1003, 1007, 1011] (by decide +kernel) (by decide +kernel)
set_option maxRecDepth 20000 in
theorem wsL_law_r19_in : GoodIn lw_tbl wsL_law_r19 := goodIn_p wsL_law_r19 [450, 454, 458, 462, 466] (by decide +kernel) (by decide +kernel)
set_option maxRecDepth 20000 in
theorem wsL_law_r20_in : GoodIn lw_tbl wsL_law_r20 := goodIn_p wsL_law_r20 [470, 1016, 1020, 1024, 1028] (by decide +kernel) (by decide +kernel)
set_option maxRecDepth 20000 in
theorem wsL_law_r21_in : GoodIn lw_tbl wsL_law_r21 := goodIn_p wsL_law_r21 [474, 478, 1032, 482, 486] (by decide +kernel) (by decide +kernel)
set_option maxRecDepth 20000 in
theorem wsL_law_r22_in : GoodIn lw_tbl wsL_law_r22 := goodIn_p wsL_law_r22 [1036, 496, 500, 504, 508] (by decide +kernel) (by decide +kernel)
set_option maxRecDepth 20000 in
theorem wsL_law_r23_in : GoodIn lw_tbl wsL_law_r23 := goodIn_p wsL_law_r23 [511, 1040, 1044, 515, 519, 523] (by decide +kernel) (by decide +kernel)
set_option maxRecDepth 20000 in
theorem wsL_law_r24_in : GoodIn lw_tbl wsL_law_r24 := goodIn_p wsL_law_r24 [1048, 528, 532, 536, 540] (by decide +kernel) (by decide +kernel)
set_option maxRecDepth 20000 in
theorem wsL_law_r25_in : GoodIn lw_tbl wsL_law_r25 := goodIn_p wsL_law_r25 [547, 1052, 1056, 553, 1060] (by decide +kernel) (by decide +kernel)
set_option maxRecDepth 20000 in
theorem wsL_law_r26_in : GoodIn lw_tbl wsL_law_r26 := goodIn_p wsL_law_r26 [559, 562, 567, 573, 1065] (by decide +kernel) (by decide +kernel)
set_option maxRecDepth 20000 in
theorem wsL_law_r27_in : GoodIn lw_tbl wsL_law_r27 := goodIn_p wsL_law_r27 [1071, 1076, 578, 582, 1080] (by decide +kernel) (by decide +kernel)
set_option maxRecDepth 20000 in
theorem wsL_law_r28_in : GoodIn lw_tbl wsL_law_r28 := goodIn_p wsL_law_r28 [588, 592, 596, 1085, 601] (by decide +kernel) (by decide +kernel)
set_option maxRecDepth 20000 in
theorem wsL_law_r29_in : GoodIn lw_tbl wsL_law_r29 := goodIn_p wsL_law_r29 [605, 609, 615, 620, 1091] (by decide +kernel) (by decide +kernel)
set_option maxRecDepth 20000 in
theorem wsL_law_r30_in : GoodIn lw_tbl wsL_law_r30 := goodIn_p wsL_law_r30 [1095, 624, 1099, 628, 632, 636] (by decide +kernel) (by decide +kernel)
set_option maxRecDepth 20000 in
theorem wsL_law_r31_in : GoodIn lw_tbl wsL_law_r31 := goodIn_p wsL_law_r31 [1103, 640, 644, 648, 1107, 1111] (by decide +kernel) (by decide +kernel)
set_option maxRecDepth 20000 in
theorem wsL_law_r32_in : GoodIn lw_tbl wsL_law_r32 := goodIn_p wsL_law_r32 [653, 657, 662, 1115, 667, 671] (by decide +kernel) (by decide +kernel)
set_option maxRecDepth 20000 in
theorem wsL_law_r33_in : GoodIn lw_tbl wsL_law_r33 := goodIn_p wsL_law_r33 [675, 1119, 679, 683, 687] (by decide +kernel) (by decide +kernel)
set_option maxRecDepth 20000 in
theorem wsL_law_r34_in : GoodIn lw_tbl wsL_law_r34 := goodIn_p wsL_law_r34 [1123, 1127, 693, 697, 701, 705] (by decide +kernel) (by decide +kernel)
set_option maxRecDepth 20000 in
theorem wsL_law_r35_in : GoodIn lw_tbl wsL_law_r35 := goodIn_p wsL_law_r35 [1131, 709, 713, 717, 1135] (by decide +kernel) (by decide +kernel)
set_option maxRecDepth 20000 in
theorem wsL_law_r36_in : GoodIn lw_tbl wsL_law_r36 := goodIn_p wsL_law_r36 [1139, 1142, 722, 1146, 726, 729, 733] (by decide +kernel) (by decide +kernel)
set_option maxRecDepth 20000 in
theorem wsL_law_r37_in : GoodIn lw_tbl wsL_law_r37 := goodIn_p wsL_law_r37 [1150, 737, 1154, 742, 746] (by decide +kernel) (by decide +kernel)
set_option maxRecDepth 20000 in
theorem wsL_law_r38_in : GoodIn lw_tbl wsL_law_r38 := goodIn_p wsL_law_r38 [751, 1158, 1162, 755, 1166, 760] (by decide +kernel) (by decide +kernel)
set_option maxRecDepth 20000 in
theorem wsL_law_r39_in : GoodIn lw_tbl wsL_law_r39 := goodIn_p wsL_law_r39 [765, 1171, 769, 773, 777] (by decide +kernel) (by decide +kernel)
set_option maxRecDepth 20000 in
theorem wsL_law_r40_in : GoodIn lw_tbl wsL_law_r40 := goodIn_p wsL_law_r40 [1175, 782, 1179] (by decide +kernel) (by decide +kernel)
set_option maxRecDepth 20000 in
theorem wf0_in : GoodIn lw_tbl wsX00 := goodIn_p wsX00 [] (by decide +kernel) (by decide +kernel)
set_option maxRecDepth 20000 in
theorem wf1_in : GoodIn lw_tbl wsX10 := goodIn_p wsX10 [] (by decide +kernel) (by decide +kernel)
set_option maxRecDepth 20000 in
theorem wf2_in : GoodIn lw_tbl wsX20 := goodIn_p wsX20 [] (by decide +kernel) (by decide +kernel)
set_option maxRecDepth 20000 in
theorem wf3_in : GoodIn lw_tbl wsX30 := goodIn_p wsX30 [] (by decide +kernel) (by decide +kernel)
set_option maxRecDepth 20000 in
theorem wf4_in : GoodIn lw_tbl wsX40 := goodIn_p wsX40 [] (by decide +kernel) (by decide +kernel)
set_option maxRecDepth 20000 in
theorem wf5_in : GoodIn lw_tbl wsX50 := goodIn_p wsX50 [] (by decide +kernel) (by decide +kernel)
set_option maxRecDepth 20000 in
theorem wf6_in : GoodIn lw_tbl wsX60 := goodIn_p wsX60 [] (by decide +kernel) (by decide +kernel)
set_option maxRecDepth 20000 in
theorem wf7_in : GoodIn lw_tbl wsX70 := goodIn_p wsX70 [] (by decide +kernel) (by decide +kernel)
set_option maxRecDepth 20000 in
theorem wf8_in : GoodIn lw_tbl wsX80 := goodIn_p wsX80 [] (by decide +kernel) (by decide +kernel)
set_option maxRecDepth 20000 in
theorem wf9_in : GoodIn lw_tbl wsX90 := goodIn_p wsX90 [] (by decide +kernel) (by decide +kernel)
theorem wsL_law_good : GoodIn lw_tbl wsL_law := goodIn_app (goodIn_app (goodIn_app (goodIn_app (goodIn_app (goodIn_app (goodIn_app (goodIn_app (goodIn_app (goodIn_app (goodIn_app (goodIn_app wsL_law_r1_in (goodIn_app wsL_law_r2_in (goodIn_app wsL_law_r3_in (goodIn_app wsL_law_r4_in (goodIn_app wsL_law_r5_in (goodIn_app wsL_law_r6_in (goodIn_app wsL_law_r7_in (goodIn_app wsL_law_r8_in (goodIn_app wsL_law_r9_in (goodIn_app wsL_law_r10_in (goodIn_app wsL_law_r11_in (goodIn_app wsL_law_r12_in (goodIn_app wsL_law_r13_in (goodIn_app wsL_law_r14_in (goodIn_app wsL_law_r15_in (goodIn_app wsL_law_r16_in (goodIn_app wsL_law_r17_in (goodIn_app wsL_law_r18_in (goodIn_app wsL_law_r19_in (goodIn_app wsL_law_r20_in (goodIn_app wsL_law_r21_in (goodIn_app wsL_law_r22_in (goodIn_app wsL_law_r23_in (goodIn_app wsL_law_r24_in (goodIn_app wsL_law_r25_in (goodIn_app wsL_law_r26_in (goodIn_app wsL_law_r27_in (goodIn_app wsL_law_r28_in (goodIn_app wsL_law_r29_in (goodIn_app wsL_law_r30_in (goodIn_app wsL_law_r31_in (goodIn_app wsL_law_r32_in (goodIn_app wsL_law_r33_in (goodIn_app wsL_law_r34_in (goodIn_app wsL_law_r35_in (goodIn_app wsL_law_r36_in (goodIn_app wsL_law_r37_in (goodIn_app wsL_law_r38_in (goodIn_app wsL_law_r39_in wsL_law_r40_in))))))))))))))))))))))))))))))))))))))) wf8_in) wf9_in) wf3_in) wf2_in) wf7_in) wf6_in) wf4_in) wf1_in) wf0_in) wf5_in) (fun w h => absurd h List.not_mem_nil)
theorem wsL_law_in : ∀ w ∈ wsL_law, w ∈ lw_tbl := fun w h => (wsL_law_good w h).1
theorem inlX0 : ∀ w ∈ wsX00, w ∈ wsL_law := fun _ h => List.mem_append_left _ (List.mem_append_left _ (List.mem_append_right _ h))
theorem inX0 : ∀ w ∈ wsX00, w ∈ lw_tbl := fun w h => wsL_law_in w (inlX0 w h)
theorem inlX1 : ∀ w ∈ wsX10, w ∈ wsL_law := fun _ h => List.mem_append_left _ (List.mem_append_left _ (List.mem_append_left _ (List.mem_append_right _ h)))
theorem inX1 : ∀ w ∈ wsX10, w ∈ lw_tbl := fun w h => wsL_law_in w (inlX1 w h)
theorem inlX2 : ∀ w ∈ wsX20, w ∈ wsL_law := fun _ h => List.mem_append_left _ (List.mem_append_left _ (List.mem_append_left _ (List.mem_append_left _ (List.mem_append_left _ (List.mem_append_left _ (List.mem_append_left _ (List.mem_append_right _ h)))))))
theorem inX2 : ∀ w ∈ wsX20, w ∈ lw_tbl := fun w h => wsL_law_in w (inlX2 w h)
theorem inlX3 : ∀ w ∈ wsX30, w ∈ wsL_law := fun _ h => List.mem_append_left _ (List.mem_append_left _ (List.mem_append_left _ (List.mem_append_left _ (List.mem_append_left _ (List.mem_append_left _ (List.mem_append_left _ (List.mem_append_left _ (List.mem_append_right _ h))))))))
theorem inX3 : ∀ w ∈ wsX30, w ∈ lw_tbl := fun w h => wsL_law_in w (inlX3 w h)
theorem inlX4 : ∀ w ∈ wsX40, w ∈ wsL_law := fun _ h => List.mem_append_left _ (List.mem_append_left _ (List.mem_append_left _ (List.mem_append_left _ (List.mem_append_right _ h))))
theorem inX4 : ∀ w ∈ wsX40, w ∈ lw_tbl := fun w h => wsL_law_in w (inlX4 w h)
theorem inlX5 : ∀ w ∈ wsX50, w ∈ wsL_law := fun _ h => List.mem_append_left _ (List.mem_append_right _ h)
theorem inX5 : ∀ w ∈ wsX50, w ∈ lw_tbl := fun w h => wsL_law_in w (inlX5 w h)
theorem inlX6 : ∀ w ∈ wsX60, w ∈ wsL_law := fun _ h => List.mem_append_left _ (List.mem_append_left _ (List.mem_append_left _ (List.mem_append_left _ (List.mem_append_left _ (List.mem_append_right _ h)))))
theorem inX6 : ∀ w ∈ wsX60, w ∈ lw_tbl := fun w h => wsL_law_in w (inlX6 w h)
theorem inlX7 : ∀ w ∈ wsX70, w ∈ wsL_law := fun _ h => List.mem_append_left _ (List.mem_append_left _ (List.mem_append_left _ (List.mem_append_left _ (List.mem_append_left _ (List.mem_append_left _ (List.mem_append_right _ h))))))
theorem inX7 : ∀ w ∈ wsX70, w ∈ lw_tbl := fun w h => wsL_law_in w (inlX7 w h)
theorem inlX8 : ∀ w ∈ wsX80, w ∈ wsL_law := fun _ h => List.mem_append_left _ (List.mem_append_left _ (List.mem_append_left _ (List.mem_append_left _ (List.mem_append_left _ (List.mem_append_left _ (List.mem_append_left _ (List.mem_append_left _ (List.mem_append_left _ (List.mem_append_left _ (List.mem_append_right _ h))))))))))
theorem inX8 : ∀ w ∈ wsX80, w ∈ lw_tbl := fun w h => wsL_law_in w (inlX8 w h)
theorem inlX9 : ∀ w ∈ wsX90, w ∈ wsL_law := fun _ h => List.mem_append_left _ (List.mem_append_left _ (List.mem_append_left _ (List.mem_append_left _ (List.mem_append_left _ (List.mem_append_left _ (List.mem_append_left _ (List.mem_append_left _ (List.mem_append_left _ (List.mem_append_right _ h)))))))))
theorem inX9 : ∀ w ∈ wsX90, w ∈ lw_tbl := fun w h => wsL_law_in w (inlX9 w h)
theorem inJ6 : ∀ w ∈ wsJ60, w ∈ lw_tbl := by decide +kernel
theorem inJ9 : ∀ w ∈ wsJ90, w ∈ lw_tbl := by decide +kernel
abbrev vwCl : List vw_C := [(RX0, TX0, 3), (RX1, TX1, 3), (RX2, TX2, 3), (RX3, TX3, 6), (RX4, TX4, 3), (RX5, TX5, 4), (RX6, TX6, 4), (RX7, TX7, 7), (RX8, TX8, 10), (RX9, TX9, 36)]
