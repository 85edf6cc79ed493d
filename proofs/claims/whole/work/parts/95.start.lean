abbrev zR30 : List (Nat × Nat × Nat) := [(0, 8, 26), (26, 2, 29), (26, 1, 28), (26, 0, 27), (0, 7, 24), (24, 0, 25), (0, 6, 21), (21, 1, 23), (21, 0, 22), (0, 5, 18), (18, 1, 20), (18, 0, 19), (0, 4, 14), (14, 2, 17), (14, 1, 16), (14, 0, 15), (0, 3, 10), (10, 2, 13), (10, 1, 12), (10, 0, 11), (0, 2, 7), (7, 1, 9), (7, 0, 8), (0, 1, 4), (4, 1, 6), (4, 0, 5), (0, 0, 1), (1, 1, 3), (1, 0, 2)]
abbrev zI30 (f1 : Nat → Int32) : List (Nat × (Nat → Int32)) := [(29, zz), (28, zz), (27, zF0), (26, zz), (25, zz), (24, zz), (23, zz), (22, zz), (21, zz), (20, zz), (19, zz), (18, zz), (17, zz), (16, zz), (15, zz), (14, zz), (13, zz), (12, zz), (11, zz), (10, zz), (9, zz), (8, zz), (7, zz), (6, zz), (5, zz), (4, zz), (3, zY0), (2, zX0), (1, f1), (0, zz)]
set_option maxRecDepth 8000 in
set_option maxHeartbeats 4000000 in
theorem init_X8 {d : Nat} {σ : zSt} {K : Option Value → zSt → Prop} (hP : zP 1 [] [(0, zz)] σ) (hK : ∀ τ f1, zP 30 zR30 (zI30 f1) τ → f1 2 = nI 3 → f1 3 = zAr 3 zX0 zY0 3 → f1 4 = zMx 3 zX0 zY0 3 → f1 5 = zMy 3 zX0 zY0 3 → K none τ) : zSp (d + 5) mX8_init [.ref 0] σ K := by
  refine ⟨⟨by decide, Nat.le_of_ble_eq_true rfl⟩, fun V hV => ?_⟩
  refine hV.1 _ _ _ _ ?_
  show V 1 [(0, .ref 0)] [.ref 0] σ
  refine hV.1 _ _ _ _ ?_
  show _ ∧ V 4 [(0, .ref 0)] [] σ
  refine ⟨by decide, ?_⟩
  refine hV.1 _ _ _ _ ?_
  show V 5 [(0, .ref 0)] [.ref 0] σ
  refine hV.1 _ _ _ _ ?_
  refine ⟨⟨by rw [hP.1]; rfl, by rw [hP.1]; decide⟩, ?_⟩
  rw [hP.1]
  have hP1 := zP_new hP
  generalize zuN σ = τ1 at hP1 ⊢
  show V 8 [(0, .ref 0)] [.ref 1, .ref 0] τ1
  refine hV.1 _ _ _ _ ?_
  show _ ∧ V 9 [(0, .ref 0)] [.ref 1, .ref 1, .ref 0] τ1
  refine ⟨rfl, ?_⟩
  refine hV.1 _ _ _ _ ?_
  refine ⟨⟨by decide, by decide, trivial, by rw [hP1.1, hP.1]; decide⟩, ?_⟩
  show zSp _ 24 [.ref 1] τ1 (fun r_z σ' => σ'.2.2.2 = τ1.2.2.2 + zAl 24 → V 12 [(0, .ref 0)] (r_z.toList ++ [.ref 1, .ref 0]) σ')
  refine init_X3 hP1 (fun τ2 hP2 p2_z p3_z p4_z p5_z _ => ?_)
  show V 12 [(0, .ref 0)] [.ref 1, .ref 0] τ2
  refine hV.1 _ _ _ _ ?_
  refine ⟨⟨by rw [hP2.1]; decide, rfl, Or.inr ⟨rfl, rfl⟩⟩, ?_⟩
  show V 15 [(0, .ref 0)] [] (zuR τ2 0 0 (.ref 1))
  have hP3 := zP_ref (a := 0) (k := 0) (b := 1) hP2 (by decide) (by decide)
  generalize zuR τ2 0 0 (.ref 1) = τ3 at hP3 ⊢
  refine hV.1 _ _ _ _ ?_
  show V 16 [(0, .ref 0)] [.ref 0] τ3
  refine hV.1 _ _ _ _ ?_
  refine ⟨⟨by rw [hP3.1]; rfl, by rw [hP3.1, hP.1]; decide⟩, ?_⟩
  rw [hP3.1]
  have hP4 := zP_new hP3
  generalize zuN τ3 = τ4 at hP4 ⊢
  show V 19 [(0, .ref 0)] [.ref 4, .ref 0] τ4
  refine hV.1 _ _ _ _ ?_
  show _ ∧ V 20 [(0, .ref 0)] [.ref 4, .ref 4, .ref 0] τ4
  refine ⟨rfl, ?_⟩
  refine hV.1 _ _ _ _ ?_
  refine ⟨⟨by decide, by decide, trivial, by rw [hP4.1, hP.1]; decide⟩, ?_⟩
  show zSp _ 16 [.ref 4] τ4 (fun r_z σ' => σ'.2.2.2 = τ4.2.2.2 + zAl 16 → V 23 [(0, .ref 0)] (r_z.toList ++ [.ref 4, .ref 0]) σ')
  refine init_X2_4 hP4 (by decide) (fun τ5 hP5 _ => ?_)
  show V 23 [(0, .ref 0)] [.ref 4, .ref 0] τ5
  refine hV.1 _ _ _ _ ?_
  refine ⟨⟨by rw [hP5.1]; decide, rfl, Or.inr ⟨rfl, rfl⟩⟩, ?_⟩
  show V 26 [(0, .ref 0)] [] (zuR τ5 0 1 (.ref 4))
  have hP6 := zP_ref (a := 0) (k := 1) (b := 4) hP5 (by decide) (by decide)
  generalize zuR τ5 0 1 (.ref 4) = τ6 at hP6 ⊢
  refine hV.1 _ _ _ _ ?_
  show V 27 [(0, .ref 0)] [.ref 0] τ6
  refine hV.1 _ _ _ _ ?_
  refine ⟨⟨by rw [hP6.1]; rfl, by rw [hP6.1, hP.1]; decide⟩, ?_⟩
  rw [hP6.1]
  have hP7 := zP_new hP6
  generalize zuN τ6 = τ7 at hP7 ⊢
  show V 30 [(0, .ref 0)] [.ref 7, .ref 0] τ7
  refine hV.1 _ _ _ _ ?_
  show _ ∧ V 31 [(0, .ref 0)] [.ref 7, .ref 7, .ref 0] τ7
  refine ⟨rfl, ?_⟩
  refine hV.1 _ _ _ _ ?_
  refine ⟨⟨by decide, by decide, trivial, by rw [hP7.1, hP.1]; decide⟩, ?_⟩
  show zSp _ 16 [.ref 7] τ7 (fun r_z σ' => σ'.2.2.2 = τ7.2.2.2 + zAl 16 → V 34 [(0, .ref 0)] (r_z.toList ++ [.ref 7, .ref 0]) σ')
  refine init_X2_7 hP7 (by decide) (fun τ8 hP8 _ => ?_)
  show V 34 [(0, .ref 0)] [.ref 7, .ref 0] τ8
  refine hV.1 _ _ _ _ ?_
  refine ⟨⟨by rw [hP8.1]; decide, rfl, Or.inr ⟨rfl, rfl⟩⟩, ?_⟩
  show V 37 [(0, .ref 0)] [] (zuR τ8 0 2 (.ref 7))
  have hP9 := zP_ref (a := 0) (k := 2) (b := 7) hP8 (by decide) (by decide)
  generalize zuR τ8 0 2 (.ref 7) = τ9 at hP9 ⊢
  refine hV.1 _ _ _ _ ?_
  show V 38 [(0, .ref 0)] [.ref 0] τ9
  refine hV.1 _ _ _ _ ?_
  refine ⟨⟨by rw [hP9.1]; rfl, by rw [hP9.1, hP.1]; decide⟩, ?_⟩
  rw [hP9.1]
  have hP10 := zP_new hP9
  generalize zuN τ9 = τ10 at hP10 ⊢
  show V 41 [(0, .ref 0)] [.ref 10, .ref 0] τ10
  refine hV.1 _ _ _ _ ?_
  show _ ∧ V 42 [(0, .ref 0)] [.ref 10, .ref 10, .ref 0] τ10
  refine ⟨rfl, ?_⟩
  refine hV.1 _ _ _ _ ?_
  refine ⟨⟨by decide, by decide, trivial, by rw [hP10.1, hP.1]; decide⟩, ?_⟩
  show zSp _ 65 [.ref 10] τ10 (fun r_z σ' => σ'.2.2.2 = τ10.2.2.2 + zAl 65 → V 45 [(0, .ref 0)] (r_z.toList ++ [.ref 10, .ref 0]) σ')
  refine init_X7_10 hP10 (by decide) (fun τ11 hP11 _ => ?_)
  show V 45 [(0, .ref 0)] [.ref 10, .ref 0] τ11
  refine hV.1 _ _ _ _ ?_
  refine ⟨⟨by rw [hP11.1]; decide, rfl, Or.inr ⟨rfl, rfl⟩⟩, ?_⟩
  show V 48 [(0, .ref 0)] [] (zuR τ11 0 3 (.ref 10))
  have hP12 := zP_ref (a := 0) (k := 3) (b := 10) hP11 (by decide) (by decide)
  generalize zuR τ11 0 3 (.ref 10) = τ12 at hP12 ⊢
  refine hV.1 _ _ _ _ ?_
  show V 49 [(0, .ref 0)] [.ref 0] τ12
  refine hV.1 _ _ _ _ ?_
  refine ⟨⟨by rw [hP12.1]; rfl, by rw [hP12.1, hP.1]; decide⟩, ?_⟩
  rw [hP12.1]
  have hP13 := zP_new hP12
  generalize zuN τ12 = τ13 at hP13 ⊢
  show V 52 [(0, .ref 0)] [.ref 14, .ref 0] τ13
  refine hV.1 _ _ _ _ ?_
  show _ ∧ V 53 [(0, .ref 0)] [.ref 14, .ref 14, .ref 0] τ13
  refine ⟨rfl, ?_⟩
  refine hV.1 _ _ _ _ ?_
  refine ⟨⟨by decide, by decide, trivial, by rw [hP13.1, hP.1]; decide⟩, ?_⟩
  show zSp _ 58 [.ref 14] τ13 (fun r_z σ' => σ'.2.2.2 = τ13.2.2.2 + zAl 58 → V 56 [(0, .ref 0)] (r_z.toList ++ [.ref 14, .ref 0]) σ')
  refine init_X6_14 hP13 (by decide) (fun τ14 hP14 _ => ?_)
  show V 56 [(0, .ref 0)] [.ref 14, .ref 0] τ14
  refine hV.1 _ _ _ _ ?_
  refine ⟨⟨by rw [hP14.1]; decide, rfl, Or.inr ⟨rfl, rfl⟩⟩, ?_⟩
  show V 59 [(0, .ref 0)] [] (zuR τ14 0 4 (.ref 14))
  have hP15 := zP_ref (a := 0) (k := 4) (b := 14) hP14 (by decide) (by decide)
  generalize zuR τ14 0 4 (.ref 14) = τ15 at hP15 ⊢
  refine hV.1 _ _ _ _ ?_
  show V 60 [(0, .ref 0)] [.ref 0] τ15
  refine hV.1 _ _ _ _ ?_
  refine ⟨⟨by rw [hP15.1]; rfl, by rw [hP15.1, hP.1]; decide⟩, ?_⟩
  rw [hP15.1]
  have hP16 := zP_new hP15
  generalize zuN τ15 = τ16 at hP16 ⊢
  show V 63 [(0, .ref 0)] [.ref 18, .ref 0] τ16
  refine hV.1 _ _ _ _ ?_
  show _ ∧ V 64 [(0, .ref 0)] [.ref 18, .ref 18, .ref 0] τ16
  refine ⟨rfl, ?_⟩
  refine hV.1 _ _ _ _ ?_
  refine ⟨⟨by decide, by decide, trivial, by rw [hP16.1, hP.1]; decide⟩, ?_⟩
  show zSp _ 40 [.ref 18] τ16 (fun r_z σ' => σ'.2.2.2 = τ16.2.2.2 + zAl 40 → V 67 [(0, .ref 0)] (r_z.toList ++ [.ref 18, .ref 0]) σ')
  refine init_X4_18 hP16 (by decide) (fun τ17 hP17 _ => ?_)
  show V 67 [(0, .ref 0)] [.ref 18, .ref 0] τ17
  refine hV.1 _ _ _ _ ?_
  refine ⟨⟨by rw [hP17.1]; decide, rfl, Or.inr ⟨rfl, rfl⟩⟩, ?_⟩
  show V 70 [(0, .ref 0)] [] (zuR τ17 0 5 (.ref 18))
  have hP18 := zP_ref (a := 0) (k := 5) (b := 18) hP17 (by decide) (by decide)
  generalize zuR τ17 0 5 (.ref 18) = τ18 at hP18 ⊢
  refine hV.1 _ _ _ _ ?_
  show V 71 [(0, .ref 0)] [.ref 0] τ18
  refine hV.1 _ _ _ _ ?_
  refine ⟨⟨by rw [hP18.1]; rfl, by rw [hP18.1, hP.1]; decide⟩, ?_⟩
  rw [hP18.1]
  have hP19 := zP_new hP18
  generalize zuN τ18 = τ19 at hP19 ⊢
  show V 74 [(0, .ref 0)] [.ref 21, .ref 0] τ19
  refine hV.1 _ _ _ _ ?_
  show _ ∧ V 75 [(0, .ref 0)] [.ref 21, .ref 21, .ref 0] τ19
  refine ⟨rfl, ?_⟩
  refine hV.1 _ _ _ _ ?_
  refine ⟨⟨by decide, by decide, trivial, by rw [hP19.1, hP.1]; decide⟩, ?_⟩
  show zSp _ 10 [.ref 21] τ19 (fun r_z σ' => σ'.2.2.2 = τ19.2.2.2 + zAl 10 → V 78 [(0, .ref 0)] (r_z.toList ++ [.ref 21, .ref 0]) σ')
  refine init_X1_21 hP19 (by decide) (fun τ20 hP20 _ => ?_)
  show V 78 [(0, .ref 0)] [.ref 21, .ref 0] τ20
  refine hV.1 _ _ _ _ ?_
  refine ⟨⟨by rw [hP20.1]; decide, rfl, Or.inr ⟨rfl, rfl⟩⟩, ?_⟩
  show V 81 [(0, .ref 0)] [] (zuR τ20 0 6 (.ref 21))
  have hP21 := zP_ref (a := 0) (k := 6) (b := 21) hP20 (by decide) (by decide)
  generalize zuR τ20 0 6 (.ref 21) = τ21 at hP21 ⊢
  refine hV.1 _ _ _ _ ?_
  show V 82 [(0, .ref 0)] [.ref 0] τ21
  refine hV.1 _ _ _ _ ?_
  refine ⟨⟨by rw [hP21.1]; rfl, by rw [hP21.1, hP.1]; decide⟩, ?_⟩
  rw [hP21.1]
  have hP22 := zP_new hP21
  generalize zuN τ21 = τ22 at hP22 ⊢
  show V 85 [(0, .ref 0)] [.ref 24, .ref 0] τ22
  refine hV.1 _ _ _ _ ?_
  show _ ∧ V 86 [(0, .ref 0)] [.ref 24, .ref 24, .ref 0] τ22
  refine ⟨rfl, ?_⟩
  refine hV.1 _ _ _ _ ?_
  refine ⟨⟨by decide, by decide, trivial, by rw [hP22.1, hP.1]; decide⟩, ?_⟩
  show zSp _ 0 [.ref 24] τ22 (fun r_z σ' => σ'.2.2.2 = τ22.2.2.2 + zAl 0 → V 89 [(0, .ref 0)] (r_z.toList ++ [.ref 24, .ref 0]) σ')
  refine init_X0_24 hP22 (by decide) (fun τ23 hP23 _ => ?_)
  show V 89 [(0, .ref 0)] [.ref 24, .ref 0] τ23
  refine hV.1 _ _ _ _ ?_
  refine ⟨⟨by rw [hP23.1]; decide, rfl, Or.inr ⟨rfl, rfl⟩⟩, ?_⟩
  show V 92 [(0, .ref 0)] [] (zuR τ23 0 7 (.ref 24))
  have hP24 := zP_ref (a := 0) (k := 7) (b := 24) hP23 (by decide) (by decide)
  generalize zuR τ23 0 7 (.ref 24) = τ24 at hP24 ⊢
  refine hV.1 _ _ _ _ ?_
  show V 93 [(0, .ref 0)] [.ref 0] τ24
  refine hV.1 _ _ _ _ ?_
  refine ⟨⟨by rw [hP24.1]; rfl, by rw [hP24.1, hP.1]; decide⟩, ?_⟩
  rw [hP24.1]
  have hP25 := zP_new hP24
  generalize zuN τ24 = τ25 at hP25 ⊢
  show V 96 [(0, .ref 0)] [.ref 26, .ref 0] τ25
  refine hV.1 _ _ _ _ ?_
  show _ ∧ V 97 [(0, .ref 0)] [.ref 26, .ref 26, .ref 0] τ25
  refine ⟨rfl, ?_⟩
  refine hV.1 _ _ _ _ ?_
  refine ⟨⟨by decide, by decide, trivial, by rw [hP25.1, hP.1]; decide⟩, ?_⟩
  show zSp _ 45 [.ref 26] τ25 (fun r_z σ' => σ'.2.2.2 = τ25.2.2.2 + zAl 45 → V 100 [(0, .ref 0)] (r_z.toList ++ [.ref 26, .ref 0]) σ')
  refine init_X5 hP25 (by decide) (fun τ26 hP26 _ => ?_)
  show V 100 [(0, .ref 0)] [.ref 26, .ref 0] τ26
  refine hV.1 _ _ _ _ ?_
  refine ⟨⟨by rw [hP26.1]; decide, rfl, Or.inr ⟨rfl, rfl⟩⟩, ?_⟩
  show V 103 [(0, .ref 0)] [] (zuR τ26 0 8 (.ref 26))
  have hP27 := zP_ref (a := 0) (k := 8) (b := 26) hP26 (by decide) (by decide)
  generalize zuR τ26 0 8 (.ref 26) = τ27 at hP27 ⊢
  refine hV.1 _ _ _ _ ?_
  show V 104 [(0, .ref 0)] [.ref 0] τ27
  refine hV.1 _ _ _ _ ?_
  show V 105 [(0, .ref 0)] [.int 0, .ref 0] τ27
  refine hV.1 _ _ _ _ ?_
  refine ⟨⟨by rw [hP27.1]; decide, rfl, Or.inl rfl⟩, ?_⟩
  show V 108 [(0, .ref 0)] [] (zuI τ27 0 9 0)
  refine hV.1 _ _ _ _ ?_
  refine ⟨rfl, rfl, ?_, ?_⟩
  · show τ27.2.2.2 = _
    rw [hP27.1, hP.1]; rfl
  · refine hK _ (τ2.1 1) ⟨hP27.1, hP27.2.1, ?_⟩ p2_z p3_z p4_z p5_z
    intro t_z ht
    obtain ⟨q1_z, q2_z⟩ := hP27.2.2 t_z ht
    refine ⟨q1_z, ?_⟩
    by_cases e_z : t_z.1 = 0
    · have : t_z.2 = zz := by rw [← q2_z, e_z]; exact zP_mem hP27 29 rfl
      rw [this, e_z]
      show upd (τ27.1 0) 9 0 = zz
      rw [zP_mem hP27 29 rfl]
      funext j_z
      unfold upd zz
      split <;> rfl
    · rw [zuI_ne e_z]; exact q2_z
set_option maxRecDepth 8000 in
set_option maxHeartbeats 8000000 in
theorem init_X9 {d : Nat} {σ : zSt} {K : Option Value → zSt → Prop} {R : List (Nat × Nat × Nat)} {I : List (Nat × (Nat → Int32))} (hP : zP 31 R ((30, zz) :: I) σ) (hlt : ∀ t ∈ R, t.1 ≠ 30) (hIl : ∀ t ∈ I, t.1 < 30) (hK : ∀ τ, zP 52 ([(30, 34, 51), (30, 33, 50), (30, 32, 49), (30, 31, 48), (30, 30, 47), (30, 27, 46), (30, 26, 45), (30, 24, 44), (30, 23, 43), (30, 21, 42), (30, 20, 41), (30, 19, 40), (30, 12, 39), (30, 11, 38), (30, 10, 37), (30, 7, 36), (30, 6, 35), (30, 4, 34), (30, 3, 33), (30, 2, 32), (30, 1, 31)] ++ R) ((51, zz) :: (50, zz) :: (49, zz) :: (48, zF0) :: (47, zz) :: (46, zz) :: (44, zz) :: (43, zz) :: (42, zz) :: (41, zz) :: (40, zz) :: (39, zz) :: (38, zz) :: (37, zz) :: (36, zz) :: (35, zz) :: (34, zz) :: (33, zz) :: (32, (upd zz 2 10)) :: (31, (upd zz 1 10)) :: (30, upd zz 0 3) :: I) τ → (∀ j, j < 100 → τ.1 45 j = 100000000) → K none τ) : zSp (d + 1) mX9_init [.ref 30] σ K := by
  refine ⟨⟨by decide, Nat.le_of_ble_eq_true rfl⟩, fun V hV => ?_⟩
  refine hV.1 _ _ _ _ ?_
  show V 1 [(0, .ref 30)] [.ref 30] σ
  refine hV.1 _ _ _ _ ?_
  show _ ∧ V 4 [(0, .ref 30)] [] σ
  refine ⟨by decide, ?_⟩
  refine hV.1 _ _ _ _ ?_
  show V 5 [(0, .ref 30)] [.ref 30] σ
  refine hV.1 _ _ _ _ ?_
  show V 7 [(0, .ref 30)] [.int 10, .ref 30] σ
  refine hV.1 _ _ _ _ ?_
  refine ⟨⟨by rw [hP.1]; rfl, Or.inl rfl, by decide, by rw [hP.1]; decide⟩, ?_⟩
  rw [hP.1]
  have hP1 := zP_new hP
  generalize zuN σ = τ1 at hP1 ⊢
  show V 9 [(0, .ref 30)] [.ref 31, .ref 30] τ1
  refine hV.1 _ _ _ _ ?_
  refine ⟨⟨by rw [hP1.1]; decide, rfl, Or.inr ⟨rfl, rfl⟩⟩, ?_⟩
  show V 12 [(0, .ref 30)] [] (zuR τ1 30 1 (.ref 31))
  have hP2 := zP_ref (a := 30) (k := 1) (b := 31) hP1 (by decide) (fun t_z ht q_z => hlt t_z ht q_z.1)
  generalize zuR τ1 30 1 (.ref 31) = τ2 at hP2 ⊢
  refine hV.1 _ _ _ _ ?_
  show V 13 [(0, .ref 30)] [.ref 30] τ2
  refine hV.1 _ _ _ _ ?_
  show V 15 [(0, .ref 30)] [.int 10, .ref 30] τ2
  refine hV.1 _ _ _ _ ?_
  refine ⟨⟨by rw [hP2.1]; rfl, Or.inl rfl, by decide, by rw [hP2.1, hP.1]; decide⟩, ?_⟩
  rw [hP2.1]
  have hP3 := zP_new hP2
  generalize zuN τ2 = τ3 at hP3 ⊢
  show V 17 [(0, .ref 30)] [.ref 32, .ref 30] τ3
  refine hV.1 _ _ _ _ ?_
  refine ⟨⟨by rw [hP3.1]; decide, rfl, Or.inr ⟨rfl, rfl⟩⟩, ?_⟩
  show V 20 [(0, .ref 30)] [] (zuR τ3 30 2 (.ref 32))
  have hP4 := zP_ref (a := 30) (k := 2) (b := 32) hP3 (by decide) (List.forall_mem_cons.mpr ⟨by decide, (fun t_z ht q_z => hlt t_z ht q_z.1)⟩)
  generalize zuR τ3 30 2 (.ref 32) = τ4 at hP4 ⊢
  refine hV.1 _ _ _ _ ?_
  show V 21 [(0, .ref 30)] [.ref 30] τ4
  refine hV.1 _ _ _ _ ?_
  show V 23 [(0, .ref 30)] [.int 10, .ref 30] τ4
  refine hV.1 _ _ _ _ ?_
  refine ⟨⟨by rw [hP4.1]; rfl, Or.inl rfl, by decide, by rw [hP4.1, hP.1]; decide⟩, ?_⟩
  rw [hP4.1]
  have hP5 := zP_new hP4
  generalize zuN τ4 = τ5 at hP5 ⊢
  show V 25 [(0, .ref 30)] [.ref 33, .ref 30] τ5
  refine hV.1 _ _ _ _ ?_
  refine ⟨⟨by rw [hP5.1]; decide, rfl, Or.inr ⟨rfl, rfl⟩⟩, ?_⟩
  show V 28 [(0, .ref 30)] [] (zuR τ5 30 3 (.ref 33))
  have hP6 := zP_ref (a := 30) (k := 3) (b := 33) hP5 (by decide) (List.forall_mem_cons.mpr ⟨by decide, (List.forall_mem_cons.mpr ⟨by decide, (fun t_z ht q_z => hlt t_z ht q_z.1)⟩)⟩)
  generalize zuR τ5 30 3 (.ref 33) = τ6 at hP6 ⊢
  refine hV.1 _ _ _ _ ?_
  show V 29 [(0, .ref 30)] [.ref 30] τ6
  refine hV.1 _ _ _ _ ?_
  show V 31 [(0, .ref 30)] [.int 10, .ref 30] τ6
  refine hV.1 _ _ _ _ ?_
  refine ⟨⟨by rw [hP6.1]; rfl, Or.inl rfl, by decide, by rw [hP6.1, hP.1]; decide⟩, ?_⟩
  rw [hP6.1]
  have hP7 := zP_new hP6
  generalize zuN τ6 = τ7 at hP7 ⊢
  show V 33 [(0, .ref 30)] [.ref 34, .ref 30] τ7
  refine hV.1 _ _ _ _ ?_
  refine ⟨⟨by rw [hP7.1]; decide, rfl, Or.inr ⟨rfl, rfl⟩⟩, ?_⟩
  show V 36 [(0, .ref 30)] [] (zuR τ7 30 4 (.ref 34))
  have hP8 := zP_ref (a := 30) (k := 4) (b := 34) hP7 (by decide) (List.forall_mem_cons.mpr ⟨by decide, (List.forall_mem_cons.mpr ⟨by decide, (List.forall_mem_cons.mpr ⟨by decide, (fun t_z ht q_z => hlt t_z ht q_z.1)⟩)⟩)⟩)
  generalize zuR τ7 30 4 (.ref 34) = τ8 at hP8 ⊢
  refine hV.1 _ _ _ _ ?_
  show V 37 [(0, .ref 30)] [.ref 30] τ8
  refine hV.1 _ _ _ _ ?_
  show V 39 [(0, .ref 30)] [.int 8, .ref 30] τ8
  refine hV.1 _ _ _ _ ?_
  refine ⟨⟨by rw [hP8.1]; rfl, Or.inl rfl, by decide, by rw [hP8.1, hP.1]; decide⟩, ?_⟩
  rw [hP8.1]
  have hP9 := zP_new hP8
  generalize zuN τ8 = τ9 at hP9 ⊢
  show V 41 [(0, .ref 30)] [.ref 35, .ref 30] τ9
  refine hV.1 _ _ _ _ ?_
  refine ⟨⟨by rw [hP9.1]; decide, rfl, Or.inr ⟨rfl, rfl⟩⟩, ?_⟩
  show V 44 [(0, .ref 30)] [] (zuR τ9 30 6 (.ref 35))
  have hP10 := zP_ref (a := 30) (k := 6) (b := 35) hP9 (by decide) (List.forall_mem_cons.mpr ⟨by decide, (List.forall_mem_cons.mpr ⟨by decide, (List.forall_mem_cons.mpr ⟨by decide, (List.forall_mem_cons.mpr ⟨by decide, (fun t_z ht q_z => hlt t_z ht q_z.1)⟩)⟩)⟩)⟩)
  generalize zuR τ9 30 6 (.ref 35) = τ10 at hP10 ⊢
  refine hV.1 _ _ _ _ ?_
  show V 45 [(0, .ref 30)] [.ref 30] τ10
  refine hV.1 _ _ _ _ ?_
  show V 47 [(0, .ref 30)] [.int 8, .ref 30] τ10
  refine hV.1 _ _ _ _ ?_
  refine ⟨⟨by rw [hP10.1]; rfl, Or.inl rfl, by decide, by rw [hP10.1, hP.1]; decide⟩, ?_⟩
  rw [hP10.1]
  have hP11 := zP_new hP10
  generalize zuN τ10 = τ11 at hP11 ⊢
  show V 49 [(0, .ref 30)] [.ref 36, .ref 30] τ11
  refine hV.1 _ _ _ _ ?_
  refine ⟨⟨by rw [hP11.1]; decide, rfl, Or.inr ⟨rfl, rfl⟩⟩, ?_⟩
  show V 52 [(0, .ref 30)] [] (zuR τ11 30 7 (.ref 36))
  have hP12 := zP_ref (a := 30) (k := 7) (b := 36) hP11 (by decide) (List.forall_mem_cons.mpr ⟨by decide, (List.forall_mem_cons.mpr ⟨by decide, (List.forall_mem_cons.mpr ⟨by decide, (List.forall_mem_cons.mpr ⟨by decide, (List.forall_mem_cons.mpr ⟨by decide, (fun t_z ht q_z => hlt t_z ht q_z.1)⟩)⟩)⟩)⟩)⟩)
  generalize zuR τ11 30 7 (.ref 36) = τ12 at hP12 ⊢
  refine hV.1 _ _ _ _ ?_
  show V 53 [(0, .ref 30)] [.ref 30] τ12
  refine hV.1 _ _ _ _ ?_
  show V 55 [(0, .ref 30)] [.int 16, .ref 30] τ12
  refine hV.1 _ _ _ _ ?_
  refine ⟨⟨by rw [hP12.1]; rfl, Or.inr rfl, by decide, by rw [hP12.1, hP.1]; decide⟩, ?_⟩
  rw [hP12.1]
  have hP13 := zP_new hP12
  generalize zuN τ12 = τ13 at hP13 ⊢
  show V 57 [(0, .ref 30)] [.ref 37, .ref 30] τ13
  refine hV.1 _ _ _ _ ?_
  refine ⟨⟨by rw [hP13.1]; decide, rfl, Or.inr ⟨rfl, rfl⟩⟩, ?_⟩
  show V 60 [(0, .ref 30)] [] (zuR τ13 30 10 (.ref 37))
  have hP14 := zP_ref (a := 30) (k := 10) (b := 37) hP13 (by decide) (List.forall_mem_cons.mpr ⟨by decide, (List.forall_mem_cons.mpr ⟨by decide, (List.forall_mem_cons.mpr ⟨by decide, (List.forall_mem_cons.mpr ⟨by decide, (List.forall_mem_cons.mpr ⟨by decide, (List.forall_mem_cons.mpr ⟨by decide, (fun t_z ht q_z => hlt t_z ht q_z.1)⟩)⟩)⟩)⟩)⟩)⟩)
  generalize zuR τ13 30 10 (.ref 37) = τ14 at hP14 ⊢
  refine hV.1 _ _ _ _ ?_
  show V 61 [(0, .ref 30)] [.ref 30] τ14
  refine hV.1 _ _ _ _ ?_
  show V 63 [(0, .ref 30)] [.int 16, .ref 30] τ14
  refine hV.1 _ _ _ _ ?_
  refine ⟨⟨by rw [hP14.1]; rfl, Or.inr rfl, by decide, by rw [hP14.1, hP.1]; decide⟩, ?_⟩
  rw [hP14.1]
  have hP15 := zP_new hP14
  generalize zuN τ14 = τ15 at hP15 ⊢
  show V 65 [(0, .ref 30)] [.ref 38, .ref 30] τ15
  refine hV.1 _ _ _ _ ?_
  refine ⟨⟨by rw [hP15.1]; decide, rfl, Or.inr ⟨rfl, rfl⟩⟩, ?_⟩
  show V 68 [(0, .ref 30)] [] (zuR τ15 30 11 (.ref 38))
  have hP16 := zP_ref (a := 30) (k := 11) (b := 38) hP15 (by decide) (List.forall_mem_cons.mpr ⟨by decide, (List.forall_mem_cons.mpr ⟨by decide, (List.forall_mem_cons.mpr ⟨by decide, (List.forall_mem_cons.mpr ⟨by decide, (List.forall_mem_cons.mpr ⟨by decide, (List.forall_mem_cons.mpr ⟨by decide, (List.forall_mem_cons.mpr ⟨by decide, (fun t_z ht q_z => hlt t_z ht q_z.1)⟩)⟩)⟩)⟩)⟩)⟩)⟩)
  generalize zuR τ15 30 11 (.ref 38) = τ16 at hP16 ⊢
  refine hV.1 _ _ _ _ ?_
  show V 69 [(0, .ref 30)] [.ref 30] τ16
  refine hV.1 _ _ _ _ ?_
  show V 71 [(0, .ref 30)] [.int 16, .ref 30] τ16
  refine hV.1 _ _ _ _ ?_
  refine ⟨⟨by rw [hP16.1]; rfl, Or.inr rfl, by decide, by rw [hP16.1, hP.1]; decide⟩, ?_⟩
  rw [hP16.1]
  have hP17 := zP_new hP16
  generalize zuN τ16 = τ17 at hP17 ⊢
  show V 73 [(0, .ref 30)] [.ref 39, .ref 30] τ17
  refine hV.1 _ _ _ _ ?_
  refine ⟨⟨by rw [hP17.1]; decide, rfl, Or.inr ⟨rfl, rfl⟩⟩, ?_⟩
  show V 76 [(0, .ref 30)] [] (zuR τ17 30 12 (.ref 39))
  have hP18 := zP_ref (a := 30) (k := 12) (b := 39) hP17 (by decide) (List.forall_mem_cons.mpr ⟨by decide, (List.forall_mem_cons.mpr ⟨by decide, (List.forall_mem_cons.mpr ⟨by decide, (List.forall_mem_cons.mpr ⟨by decide, (List.forall_mem_cons.mpr ⟨by decide, (List.forall_mem_cons.mpr ⟨by decide, (List.forall_mem_cons.mpr ⟨by decide, (List.forall_mem_cons.mpr ⟨by decide, (fun t_z ht q_z => hlt t_z ht q_z.1)⟩)⟩)⟩)⟩)⟩)⟩)⟩)⟩)
  generalize zuR τ17 30 12 (.ref 39) = τ18 at hP18 ⊢
  refine hV.1 _ _ _ _ ?_
  show V 77 [(0, .ref 30)] [.ref 30] τ18
  refine hV.1 _ _ _ _ ?_
  show V 79 [(0, .ref 30)] [.int 7, .ref 30] τ18
  refine hV.1 _ _ _ _ ?_
  refine ⟨⟨by rw [hP18.1]; rfl, Or.inl rfl, by decide, by rw [hP18.1, hP.1]; decide⟩, ?_⟩
  rw [hP18.1]
  have hP19 := zP_new hP18
  generalize zuN τ18 = τ19 at hP19 ⊢
  show V 81 [(0, .ref 30)] [.ref 40, .ref 30] τ19
  refine hV.1 _ _ _ _ ?_
  refine ⟨⟨by rw [hP19.1]; decide, rfl, Or.inr ⟨rfl, rfl⟩⟩, ?_⟩
  show V 84 [(0, .ref 30)] [] (zuR τ19 30 19 (.ref 40))
  have hP20 := zP_ref (a := 30) (k := 19) (b := 40) hP19 (by decide) (List.forall_mem_cons.mpr ⟨by decide, (List.forall_mem_cons.mpr ⟨by decide, (List.forall_mem_cons.mpr ⟨by decide, (List.forall_mem_cons.mpr ⟨by decide, (List.forall_mem_cons.mpr ⟨by decide, (List.forall_mem_cons.mpr ⟨by decide, (List.forall_mem_cons.mpr ⟨by decide, (List.forall_mem_cons.mpr ⟨by decide, (List.forall_mem_cons.mpr ⟨by decide, (fun t_z ht q_z => hlt t_z ht q_z.1)⟩)⟩)⟩)⟩)⟩)⟩)⟩)⟩)⟩)
  generalize zuR τ19 30 19 (.ref 40) = τ20 at hP20 ⊢
  refine hV.1 _ _ _ _ ?_
  show V 85 [(0, .ref 30)] [.ref 30] τ20
  refine hV.1 _ _ _ _ ?_
  show V 87 [(0, .ref 30)] [.int 7, .ref 30] τ20
  refine hV.1 _ _ _ _ ?_
  refine ⟨⟨by rw [hP20.1]; rfl, Or.inl rfl, by decide, by rw [hP20.1, hP.1]; decide⟩, ?_⟩
  rw [hP20.1]
  have hP21 := zP_new hP20
  generalize zuN τ20 = τ21 at hP21 ⊢
  show V 89 [(0, .ref 30)] [.ref 41, .ref 30] τ21
  refine hV.1 _ _ _ _ ?_
  refine ⟨⟨by rw [hP21.1]; decide, rfl, Or.inr ⟨rfl, rfl⟩⟩, ?_⟩
  show V 92 [(0, .ref 30)] [] (zuR τ21 30 20 (.ref 41))
  have hP22 := zP_ref (a := 30) (k := 20) (b := 41) hP21 (by decide) (List.forall_mem_cons.mpr ⟨by decide, (List.forall_mem_cons.mpr ⟨by decide, (List.forall_mem_cons.mpr ⟨by decide, (List.forall_mem_cons.mpr ⟨by decide, (List.forall_mem_cons.mpr ⟨by decide, (List.forall_mem_cons.mpr ⟨by decide, (List.forall_mem_cons.mpr ⟨by decide, (List.forall_mem_cons.mpr ⟨by decide, (List.forall_mem_cons.mpr ⟨by decide, (List.forall_mem_cons.mpr ⟨by decide, (fun t_z ht q_z => hlt t_z ht q_z.1)⟩)⟩)⟩)⟩)⟩)⟩)⟩)⟩)⟩)⟩)
  generalize zuR τ21 30 20 (.ref 41) = τ22 at hP22 ⊢
  refine hV.1 _ _ _ _ ?_
  show V 93 [(0, .ref 30)] [.ref 30] τ22
  refine hV.1 _ _ _ _ ?_
  show V 95 [(0, .ref 30)] [.int 7, .ref 30] τ22
  refine hV.1 _ _ _ _ ?_
  refine ⟨⟨by rw [hP22.1]; rfl, Or.inl rfl, by decide, by rw [hP22.1, hP.1]; decide⟩, ?_⟩
  rw [hP22.1]
  have hP23 := zP_new hP22
  generalize zuN τ22 = τ23 at hP23 ⊢
  show V 97 [(0, .ref 30)] [.ref 42, .ref 30] τ23
  refine hV.1 _ _ _ _ ?_
  refine ⟨⟨by rw [hP23.1]; decide, rfl, Or.inr ⟨rfl, rfl⟩⟩, ?_⟩
  show V 100 [(0, .ref 30)] [] (zuR τ23 30 21 (.ref 42))
  have hP24 := zP_ref (a := 30) (k := 21) (b := 42) hP23 (by decide) (List.forall_mem_cons.mpr ⟨by decide, (List.forall_mem_cons.mpr ⟨by decide, (List.forall_mem_cons.mpr ⟨by decide, (List.forall_mem_cons.mpr ⟨by decide, (List.forall_mem_cons.mpr ⟨by decide, (List.forall_mem_cons.mpr ⟨by decide, (List.forall_mem_cons.mpr ⟨by decide, (List.forall_mem_cons.mpr ⟨by decide, (List.forall_mem_cons.mpr ⟨by decide, (List.forall_mem_cons.mpr ⟨by decide, (List.forall_mem_cons.mpr ⟨by decide, (fun t_z ht q_z => hlt t_z ht q_z.1)⟩)⟩)⟩)⟩)⟩)⟩)⟩)⟩)⟩)⟩)⟩)
  generalize zuR τ23 30 21 (.ref 42) = τ24 at hP24 ⊢
  refine hV.1 _ _ _ _ ?_
  show V 101 [(0, .ref 30)] [.ref 30] τ24
  refine hV.1 _ _ _ _ ?_
  show V 103 [(0, .ref 30)] [.int 20, .ref 30] τ24
  refine hV.1 _ _ _ _ ?_
  refine ⟨⟨by rw [hP24.1]; rfl, Or.inl rfl, by decide, by rw [hP24.1, hP.1]; decide⟩, ?_⟩
  rw [hP24.1]
  have hP25 := zP_new hP24
  generalize zuN τ24 = τ25 at hP25 ⊢
  show V 105 [(0, .ref 30)] [.ref 43, .ref 30] τ25
  refine hV.1 _ _ _ _ ?_
  refine ⟨⟨by rw [hP25.1]; decide, rfl, Or.inr ⟨rfl, rfl⟩⟩, ?_⟩
  show V 108 [(0, .ref 30)] [] (zuR τ25 30 23 (.ref 43))
  have hP26 := zP_ref (a := 30) (k := 23) (b := 43) hP25 (by decide) (List.forall_mem_cons.mpr ⟨by decide, (List.forall_mem_cons.mpr ⟨by decide, (List.forall_mem_cons.mpr ⟨by decide, (List.forall_mem_cons.mpr ⟨by decide, (List.forall_mem_cons.mpr ⟨by decide, (List.forall_mem_cons.mpr ⟨by decide, (List.forall_mem_cons.mpr ⟨by decide, (List.forall_mem_cons.mpr ⟨by decide, (List.forall_mem_cons.mpr ⟨by decide, (List.forall_mem_cons.mpr ⟨by decide, (List.forall_mem_cons.mpr ⟨by decide, (List.forall_mem_cons.mpr ⟨by decide, (fun t_z ht q_z => hlt t_z ht q_z.1)⟩)⟩)⟩)⟩)⟩)⟩)⟩)⟩)⟩)⟩)⟩)⟩)
  generalize zuR τ25 30 23 (.ref 43) = τ26 at hP26 ⊢
  refine hV.1 _ _ _ _ ?_
  show V 109 [(0, .ref 30)] [.ref 30] τ26
  refine hV.1 _ _ _ _ ?_
  show V 111 [(0, .ref 30)] [.int 20, .ref 30] τ26
  refine hV.1 _ _ _ _ ?_
  refine ⟨⟨by rw [hP26.1]; rfl, Or.inl rfl, by decide, by rw [hP26.1, hP.1]; decide⟩, ?_⟩
  rw [hP26.1]
  have hP27 := zP_new hP26
  generalize zuN τ26 = τ27 at hP27 ⊢
  show V 113 [(0, .ref 30)] [.ref 44, .ref 30] τ27
  refine hV.1 _ _ _ _ ?_
  refine ⟨⟨by rw [hP27.1]; decide, rfl, Or.inr ⟨rfl, rfl⟩⟩, ?_⟩
  show V 116 [(0, .ref 30)] [] (zuR τ27 30 24 (.ref 44))
  have hP28 := zP_ref (a := 30) (k := 24) (b := 44) hP27 (by decide) (List.forall_mem_cons.mpr ⟨by decide, (List.forall_mem_cons.mpr ⟨by decide, (List.forall_mem_cons.mpr ⟨by decide, (List.forall_mem_cons.mpr ⟨by decide, (List.forall_mem_cons.mpr ⟨by decide, (List.forall_mem_cons.mpr ⟨by decide, (List.forall_mem_cons.mpr ⟨by decide, (List.forall_mem_cons.mpr ⟨by decide, (List.forall_mem_cons.mpr ⟨by decide, (List.forall_mem_cons.mpr ⟨by decide, (List.forall_mem_cons.mpr ⟨by decide, (List.forall_mem_cons.mpr ⟨by decide, (List.forall_mem_cons.mpr ⟨by decide, (fun t_z ht q_z => hlt t_z ht q_z.1)⟩)⟩)⟩)⟩)⟩)⟩)⟩)⟩)⟩)⟩)⟩)⟩)⟩)
  generalize zuR τ27 30 24 (.ref 44) = τ28 at hP28 ⊢
  refine hV.1 _ _ _ _ ?_
  show V 117 [(0, .ref 30)] [.ref 30] τ28
  refine hV.1 _ _ _ _ ?_
  show V 119 [(0, .ref 30)] [.int 100, .ref 30] τ28
  refine hV.1 _ _ _ _ ?_
  refine ⟨⟨by rw [hP28.1]; rfl, Or.inl rfl, by decide, by rw [hP28.1, hP.1]; decide⟩, ?_⟩
  rw [hP28.1]
  have hP29 := zP_new hP28
  generalize zuN τ28 = τ29 at hP29 ⊢
  show V 121 [(0, .ref 30)] [.ref 45, .ref 30] τ29
  refine hV.1 _ _ _ _ ?_
  refine ⟨⟨by rw [hP29.1]; decide, rfl, Or.inr ⟨rfl, rfl⟩⟩, ?_⟩
  show V 124 [(0, .ref 30)] [] (zuR τ29 30 26 (.ref 45))
  have hP30 := zP_ref (a := 30) (k := 26) (b := 45) hP29 (by decide) (List.forall_mem_cons.mpr ⟨by decide, (List.forall_mem_cons.mpr ⟨by decide, (List.forall_mem_cons.mpr ⟨by decide, (List.forall_mem_cons.mpr ⟨by decide, (List.forall_mem_cons.mpr ⟨by decide, (List.forall_mem_cons.mpr ⟨by decide, (List.forall_mem_cons.mpr ⟨by decide, (List.forall_mem_cons.mpr ⟨by decide, (List.forall_mem_cons.mpr ⟨by decide, (List.forall_mem_cons.mpr ⟨by decide, (List.forall_mem_cons.mpr ⟨by decide, (List.forall_mem_cons.mpr ⟨by decide, (List.forall_mem_cons.mpr ⟨by decide, (List.forall_mem_cons.mpr ⟨by decide, (fun t_z ht q_z => hlt t_z ht q_z.1)⟩)⟩)⟩)⟩)⟩)⟩)⟩)⟩)⟩)⟩)⟩)⟩)⟩)⟩)
  generalize zuR τ29 30 26 (.ref 45) = τ30 at hP30 ⊢
  refine hV.1 _ _ _ _ ?_
  show V 125 [(0, .ref 30)] [.ref 30] τ30
  refine hV.1 _ _ _ _ ?_
  show V 127 [(0, .ref 30)] [.int 10, .ref 30] τ30
  refine hV.1 _ _ _ _ ?_
  refine ⟨⟨by rw [hP30.1]; rfl, Or.inl rfl, by decide, by rw [hP30.1, hP.1]; decide⟩, ?_⟩
  rw [hP30.1]
  have hP31 := zP_new hP30
  generalize zuN τ30 = τ31 at hP31 ⊢
  show V 129 [(0, .ref 30)] [.ref 46, .ref 30] τ31
  refine hV.1 _ _ _ _ ?_
  refine ⟨⟨by rw [hP31.1]; decide, rfl, Or.inr ⟨rfl, rfl⟩⟩, ?_⟩
  show V 132 [(0, .ref 30)] [] (zuR τ31 30 27 (.ref 46))
  have hP32 := zP_ref (a := 30) (k := 27) (b := 46) hP31 (by decide) (List.forall_mem_cons.mpr ⟨by decide, (List.forall_mem_cons.mpr ⟨by decide, (List.forall_mem_cons.mpr ⟨by decide, (List.forall_mem_cons.mpr ⟨by decide, (List.forall_mem_cons.mpr ⟨by decide, (List.forall_mem_cons.mpr ⟨by decide, (List.forall_mem_cons.mpr ⟨by decide, (List.forall_mem_cons.mpr ⟨by decide, (List.forall_mem_cons.mpr ⟨by decide, (List.forall_mem_cons.mpr ⟨by decide, (List.forall_mem_cons.mpr ⟨by decide, (List.forall_mem_cons.mpr ⟨by decide, (List.forall_mem_cons.mpr ⟨by decide, (List.forall_mem_cons.mpr ⟨by decide, (List.forall_mem_cons.mpr ⟨by decide, (fun t_z ht q_z => hlt t_z ht q_z.1)⟩)⟩)⟩)⟩)⟩)⟩)⟩)⟩)⟩)⟩)⟩)⟩)⟩)⟩)⟩)
  generalize zuR τ31 30 27 (.ref 46) = τ32 at hP32 ⊢
  refine hV.1 _ _ _ _ ?_
  show V 133 [(0, .ref 30)] [.ref 30] τ32
  refine hV.1 _ _ _ _ ?_
  show V 135 [(0, .ref 30)] [.int 12, .ref 30] τ32
  refine hV.1 _ _ _ _ ?_
  refine ⟨⟨by rw [hP32.1]; rfl, Or.inl rfl, by decide, by rw [hP32.1, hP.1]; decide⟩, ?_⟩
  rw [hP32.1]
  have hP33 := zP_new hP32
  generalize zuN τ32 = τ33 at hP33 ⊢
  show V 137 [(0, .ref 30)] [.ref 47, .ref 30] τ33
  refine hV.1 _ _ _ _ ?_
  refine ⟨⟨by rw [hP33.1]; decide, rfl, Or.inr ⟨rfl, rfl⟩⟩, ?_⟩
  show V 140 [(0, .ref 30)] [] (zuR τ33 30 30 (.ref 47))
  have hP34 := zP_ref (a := 30) (k := 30) (b := 47) hP33 (by decide) (List.forall_mem_cons.mpr ⟨by decide, (List.forall_mem_cons.mpr ⟨by decide, (List.forall_mem_cons.mpr ⟨by decide, (List.forall_mem_cons.mpr ⟨by decide, (List.forall_mem_cons.mpr ⟨by decide, (List.forall_mem_cons.mpr ⟨by decide, (List.forall_mem_cons.mpr ⟨by decide, (List.forall_mem_cons.mpr ⟨by decide, (List.forall_mem_cons.mpr ⟨by decide, (List.forall_mem_cons.mpr ⟨by decide, (List.forall_mem_cons.mpr ⟨by decide, (List.forall_mem_cons.mpr ⟨by decide, (List.forall_mem_cons.mpr ⟨by decide, (List.forall_mem_cons.mpr ⟨by decide, (List.forall_mem_cons.mpr ⟨by decide, (List.forall_mem_cons.mpr ⟨by decide, (fun t_z ht q_z => hlt t_z ht q_z.1)⟩)⟩)⟩)⟩)⟩)⟩)⟩)⟩)⟩)⟩)⟩)⟩)⟩)⟩)⟩)⟩)
  generalize zuR τ33 30 30 (.ref 47) = τ34 at hP34 ⊢
  refine hV.1 _ _ _ _ ?_
  show V 141 [(0, .ref 30)] [.ref 30] τ34
  refine hV.1 _ _ _ _ ?_
  show V 142 [(0, .ref 30)] [.int 4, .ref 30] τ34
  refine hV.1 _ _ _ _ ?_
  refine ⟨⟨by rw [hP34.1]; rfl, Or.inl rfl, by decide, by rw [hP34.1, hP.1]; decide⟩, ?_⟩
  rw [hP34.1]
  have hP35 := zP_new hP34
  generalize zuN τ34 = τ35 at hP35 ⊢
  show V 144 [(0, .ref 30)] [.ref 48, .ref 30] τ35
  refine hV.1 _ _ _ _ ?_
  refine ⟨⟨by rw [hP35.1]; decide, rfl, Or.inr ⟨rfl, rfl⟩⟩, ?_⟩
  show V 147 [(0, .ref 30)] [] (zuR τ35 30 31 (.ref 48))
  have hP36 := zP_ref (a := 30) (k := 31) (b := 48) hP35 (by decide) (List.forall_mem_cons.mpr ⟨by decide, (List.forall_mem_cons.mpr ⟨by decide, (List.forall_mem_cons.mpr ⟨by decide, (List.forall_mem_cons.mpr ⟨by decide, (List.forall_mem_cons.mpr ⟨by decide, (List.forall_mem_cons.mpr ⟨by decide, (List.forall_mem_cons.mpr ⟨by decide, (List.forall_mem_cons.mpr ⟨by decide, (List.forall_mem_cons.mpr ⟨by decide, (List.forall_mem_cons.mpr ⟨by decide, (List.forall_mem_cons.mpr ⟨by decide, (List.forall_mem_cons.mpr ⟨by decide, (List.forall_mem_cons.mpr ⟨by decide, (List.forall_mem_cons.mpr ⟨by decide, (List.forall_mem_cons.mpr ⟨by decide, (List.forall_mem_cons.mpr ⟨by decide, (List.forall_mem_cons.mpr ⟨by decide, (fun t_z ht q_z => hlt t_z ht q_z.1)⟩)⟩)⟩)⟩)⟩)⟩)⟩)⟩)⟩)⟩)⟩)⟩)⟩)⟩)⟩)⟩)⟩)
  generalize zuR τ35 30 31 (.ref 48) = τ36 at hP36 ⊢
  refine hV.1 _ _ _ _ ?_
  show V 148 [(0, .ref 30)] [.ref 30] τ36
  refine hV.1 _ _ _ _ ?_
  show V 149 [(0, .ref 30)] [.int 4, .ref 30] τ36
  refine hV.1 _ _ _ _ ?_
  refine ⟨⟨by rw [hP36.1]; rfl, Or.inl rfl, by decide, by rw [hP36.1, hP.1]; decide⟩, ?_⟩
  rw [hP36.1]
  have hP37 := zP_new hP36
  generalize zuN τ36 = τ37 at hP37 ⊢
  show V 151 [(0, .ref 30)] [.ref 49, .ref 30] τ37
  refine hV.1 _ _ _ _ ?_
  refine ⟨⟨by rw [hP37.1]; decide, rfl, Or.inr ⟨rfl, rfl⟩⟩, ?_⟩
  show V 154 [(0, .ref 30)] [] (zuR τ37 30 32 (.ref 49))
  have hP38 := zP_ref (a := 30) (k := 32) (b := 49) hP37 (by decide) (List.forall_mem_cons.mpr ⟨by decide, (List.forall_mem_cons.mpr ⟨by decide, (List.forall_mem_cons.mpr ⟨by decide, (List.forall_mem_cons.mpr ⟨by decide, (List.forall_mem_cons.mpr ⟨by decide, (List.forall_mem_cons.mpr ⟨by decide, (List.forall_mem_cons.mpr ⟨by decide, (List.forall_mem_cons.mpr ⟨by decide, (List.forall_mem_cons.mpr ⟨by decide, (List.forall_mem_cons.mpr ⟨by decide, (List.forall_mem_cons.mpr ⟨by decide, (List.forall_mem_cons.mpr ⟨by decide, (List.forall_mem_cons.mpr ⟨by decide, (List.forall_mem_cons.mpr ⟨by decide, (List.forall_mem_cons.mpr ⟨by decide, (List.forall_mem_cons.mpr ⟨by decide, (List.forall_mem_cons.mpr ⟨by decide, (List.forall_mem_cons.mpr ⟨by decide, (fun t_z ht q_z => hlt t_z ht q_z.1)⟩)⟩)⟩)⟩)⟩)⟩)⟩)⟩)⟩)⟩)⟩)⟩)⟩)⟩)⟩)⟩)⟩)⟩)
  generalize zuR τ37 30 32 (.ref 49) = τ38 at hP38 ⊢
  refine hV.1 _ _ _ _ ?_
  show V 155 [(0, .ref 30)] [.ref 30] τ38
  refine hV.1 _ _ _ _ ?_
  show V 158 [(0, .ref 30)] [.int 240, .ref 30] τ38
  refine hV.1 _ _ _ _ ?_
  refine ⟨⟨by rw [hP38.1]; rfl, Or.inl rfl, by decide, by rw [hP38.1, hP.1]; decide⟩, ?_⟩
  rw [hP38.1]
  have hP39 := zP_new hP38
  generalize zuN τ38 = τ39 at hP39 ⊢
  show V 160 [(0, .ref 30)] [.ref 50, .ref 30] τ39
  refine hV.1 _ _ _ _ ?_
  refine ⟨⟨by rw [hP39.1]; decide, rfl, Or.inr ⟨rfl, rfl⟩⟩, ?_⟩
  show V 163 [(0, .ref 30)] [] (zuR τ39 30 33 (.ref 50))
  have hP40 := zP_ref (a := 30) (k := 33) (b := 50) hP39 (by decide) (List.forall_mem_cons.mpr ⟨by decide, (List.forall_mem_cons.mpr ⟨by decide, (List.forall_mem_cons.mpr ⟨by decide, (List.forall_mem_cons.mpr ⟨by decide, (List.forall_mem_cons.mpr ⟨by decide, (List.forall_mem_cons.mpr ⟨by decide, (List.forall_mem_cons.mpr ⟨by decide, (List.forall_mem_cons.mpr ⟨by decide, (List.forall_mem_cons.mpr ⟨by decide, (List.forall_mem_cons.mpr ⟨by decide, (List.forall_mem_cons.mpr ⟨by decide, (List.forall_mem_cons.mpr ⟨by decide, (List.forall_mem_cons.mpr ⟨by decide, (List.forall_mem_cons.mpr ⟨by decide, (List.forall_mem_cons.mpr ⟨by decide, (List.forall_mem_cons.mpr ⟨by decide, (List.forall_mem_cons.mpr ⟨by decide, (List.forall_mem_cons.mpr ⟨by decide, (List.forall_mem_cons.mpr ⟨by decide, (fun t_z ht q_z => hlt t_z ht q_z.1)⟩)⟩)⟩)⟩)⟩)⟩)⟩)⟩)⟩)⟩)⟩)⟩)⟩)⟩)⟩)⟩)⟩)⟩)⟩)
  generalize zuR τ39 30 33 (.ref 50) = τ40 at hP40 ⊢
  refine hV.1 _ _ _ _ ?_
  show V 164 [(0, .ref 30)] [.ref 30] τ40
  refine hV.1 _ _ _ _ ?_
  show V 166 [(0, .ref 30)] [.int 60, .ref 30] τ40
  refine hV.1 _ _ _ _ ?_
  refine ⟨⟨by rw [hP40.1]; rfl, Or.inl rfl, by decide, by rw [hP40.1, hP.1]; decide⟩, ?_⟩
  rw [hP40.1]
  have hP41 := zP_new hP40
  generalize zuN τ40 = τ41 at hP41 ⊢
  show V 168 [(0, .ref 30)] [.ref 51, .ref 30] τ41
  refine hV.1 _ _ _ _ ?_
  refine ⟨⟨by rw [hP41.1]; decide, rfl, Or.inr ⟨rfl, rfl⟩⟩, ?_⟩
  show V 171 [(0, .ref 30)] [] (zuR τ41 30 34 (.ref 51))
  have hP42 := zP_ref (a := 30) (k := 34) (b := 51) hP41 (by decide) (List.forall_mem_cons.mpr ⟨by decide, (List.forall_mem_cons.mpr ⟨by decide, (List.forall_mem_cons.mpr ⟨by decide, (List.forall_mem_cons.mpr ⟨by decide, (List.forall_mem_cons.mpr ⟨by decide, (List.forall_mem_cons.mpr ⟨by decide, (List.forall_mem_cons.mpr ⟨by decide, (List.forall_mem_cons.mpr ⟨by decide, (List.forall_mem_cons.mpr ⟨by decide, (List.forall_mem_cons.mpr ⟨by decide, (List.forall_mem_cons.mpr ⟨by decide, (List.forall_mem_cons.mpr ⟨by decide, (List.forall_mem_cons.mpr ⟨by decide, (List.forall_mem_cons.mpr ⟨by decide, (List.forall_mem_cons.mpr ⟨by decide, (List.forall_mem_cons.mpr ⟨by decide, (List.forall_mem_cons.mpr ⟨by decide, (List.forall_mem_cons.mpr ⟨by decide, (List.forall_mem_cons.mpr ⟨by decide, (List.forall_mem_cons.mpr ⟨by decide, (fun t_z ht q_z => hlt t_z ht q_z.1)⟩)⟩)⟩)⟩)⟩)⟩)⟩)⟩)⟩)⟩)⟩)⟩)⟩)⟩)⟩)⟩)⟩)⟩)⟩)⟩)
  generalize zuR τ41 30 34 (.ref 51) = τ42 at hP42 ⊢
  have hI : zQI (kR 30 52) τ42.2.2 := zQI_P hP42 (by decide) rfl
  have hn : τ42.2.2.2 = σ.2.2.2 + zAl mX9_init := by rw [hP42.1, hP.1]; rfl
  refine zq (σ := τ42) hV hI hn 8 ?_
  show vp_in 1 10 ∧ V 184 [(0, .ref 30)] [] (zuI (zuI τ42 30 0 3) 31 (Int32.toNatClampNeg 1) 10)
  refine ⟨zix (k := 1) rfl (by omega) (by decide), ?_⟩
  rw [zcl_k (i := 1) (k := 1) rfl (by omega)]
  refine zq (σ := (zuI (zuI τ42 30 0 3) 31 1 10)) hV hI hn 5 ?_
  show vp_in 2 10 ∧ V 192 [(0, .ref 30)] [] (zuI (zuI (zuI τ42 30 0 3) 31 1 10) 32 (Int32.toNatClampNeg 2) 10)
  refine ⟨zix (k := 2) rfl (by omega) (by decide), ?_⟩
  rw [zcl_k (i := 2) (k := 2) rfl (by omega)]
  refine zq (σ := (zuI (zuI (zuI τ42 30 0 3) 31 1 10) 32 2 10)) hV hI hn 2 ?_
  show V 194 [(1, .int 0), (0, .ref 30)] [] (zuI (zuI (zuI τ42 30 0 3) 31 1 10) 32 2 10)
  refine zq (σ := (zuI (zuI (zuI τ42 30 0 3) 31 1 10) 32 2 10)) hV hI hn 3 ?_
  show (4 ≤ (0 : Int32) → V 212 [(1, .int 0), (0, .ref 30)] [] (zuI (zuI (zuI τ42 30 0 3) 31 1 10) 32 2 10)) ∧ (¬ 4 ≤ (0 : Int32) → V 199 [(1, .int 0), (0, .ref 30)] [] (zuI (zuI (zuI τ42 30 0 3) 31 1 10) 32 2 10))
  refine ⟨fun hc_z => absurd hc_z (by decide), fun _ => ?_⟩
  refine zq (σ := (zuI (zuI (zuI τ42 30 0 3) 31 1 10) 32 2 10)) hV hI hn 5 ?_
  show vp_in 0 4 ∧ V 206 [(1, .int 0), (0, .ref 30)] [] (zuI (zuI (zuI (zuI τ42 30 0 3) 31 1 10) 32 2 10) 48 (Int32.toNatClampNeg 0) (-1))
  refine ⟨zix (k := 0) rfl (by omega) (by decide), ?_⟩
  rw [zcl_k (i := 0) (k := 0) rfl (by omega)]
  refine zq (σ := (zuI (zuI (zuI (zuI τ42 30 0 3) 31 1 10) 32 2 10) 48 0 (-1))) hV hI hn 2 ?_
  show V 194 [(1, .int (0 + 1)), (0, .ref 30)] [] (zuI (zuI (zuI (zuI τ42 30 0 3) 31 1 10) 32 2 10) 48 0 (-1))
  rw [show ((0 + 1) : Int32) = 1 from by decide]
  refine zq (σ := (zuI (zuI (zuI (zuI τ42 30 0 3) 31 1 10) 32 2 10) 48 0 (-1))) hV hI hn 3 ?_
  show (4 ≤ (1 : Int32) → V 212 [(1, .int 1), (0, .ref 30)] [] (zuI (zuI (zuI (zuI τ42 30 0 3) 31 1 10) 32 2 10) 48 0 (-1))) ∧ (¬ 4 ≤ (1 : Int32) → V 199 [(1, .int 1), (0, .ref 30)] [] (zuI (zuI (zuI (zuI τ42 30 0 3) 31 1 10) 32 2 10) 48 0 (-1)))
  refine ⟨fun hc_z => absurd hc_z (by decide), fun _ => ?_⟩
  refine zq (σ := (zuI (zuI (zuI (zuI τ42 30 0 3) 31 1 10) 32 2 10) 48 0 (-1))) hV hI hn 5 ?_
  show vp_in 1 4 ∧ V 206 [(1, .int 1), (0, .ref 30)] [] (zuI (zuI (zuI (zuI (zuI τ42 30 0 3) 31 1 10) 32 2 10) 48 0 (-1)) 48 (Int32.toNatClampNeg 1) (-1))
  refine ⟨zix (k := 1) rfl (by omega) (by decide), ?_⟩
  rw [zcl_k (i := 1) (k := 1) rfl (by omega)]
  refine zq (σ := (zuI (zuI (zuI (zuI (zuI τ42 30 0 3) 31 1 10) 32 2 10) 48 0 (-1)) 48 1 (-1))) hV hI hn 2 ?_
  show V 194 [(1, .int (1 + 1)), (0, .ref 30)] [] (zuI (zuI (zuI (zuI (zuI τ42 30 0 3) 31 1 10) 32 2 10) 48 0 (-1)) 48 1 (-1))
  rw [show ((1 + 1) : Int32) = 2 from by decide]
  refine zq (σ := (zuI (zuI (zuI (zuI (zuI τ42 30 0 3) 31 1 10) 32 2 10) 48 0 (-1)) 48 1 (-1))) hV hI hn 3 ?_
  show (4 ≤ (2 : Int32) → V 212 [(1, .int 2), (0, .ref 30)] [] (zuI (zuI (zuI (zuI (zuI τ42 30 0 3) 31 1 10) 32 2 10) 48 0 (-1)) 48 1 (-1))) ∧ (¬ 4 ≤ (2 : Int32) → V 199 [(1, .int 2), (0, .ref 30)] [] (zuI (zuI (zuI (zuI (zuI τ42 30 0 3) 31 1 10) 32 2 10) 48 0 (-1)) 48 1 (-1)))
  refine ⟨fun hc_z => absurd hc_z (by decide), fun _ => ?_⟩
  refine zq (σ := (zuI (zuI (zuI (zuI (zuI τ42 30 0 3) 31 1 10) 32 2 10) 48 0 (-1)) 48 1 (-1))) hV hI hn 5 ?_
  show vp_in 2 4 ∧ V 206 [(1, .int 2), (0, .ref 30)] [] (zuI (zuI (zuI (zuI (zuI (zuI τ42 30 0 3) 31 1 10) 32 2 10) 48 0 (-1)) 48 1 (-1)) 48 (Int32.toNatClampNeg 2) (-1))
  refine ⟨zix (k := 2) rfl (by omega) (by decide), ?_⟩
  rw [zcl_k (i := 2) (k := 2) rfl (by omega)]
  refine zq (σ := (zuI (zuI (zuI (zuI (zuI (zuI τ42 30 0 3) 31 1 10) 32 2 10) 48 0 (-1)) 48 1 (-1)) 48 2 (-1))) hV hI hn 2 ?_
  show V 194 [(1, .int (2 + 1)), (0, .ref 30)] [] (zuI (zuI (zuI (zuI (zuI (zuI τ42 30 0 3) 31 1 10) 32 2 10) 48 0 (-1)) 48 1 (-1)) 48 2 (-1))
  rw [show ((2 + 1) : Int32) = 3 from by decide]
  refine zq (σ := (zuI (zuI (zuI (zuI (zuI (zuI τ42 30 0 3) 31 1 10) 32 2 10) 48 0 (-1)) 48 1 (-1)) 48 2 (-1))) hV hI hn 3 ?_
  show (4 ≤ (3 : Int32) → V 212 [(1, .int 3), (0, .ref 30)] [] (zuI (zuI (zuI (zuI (zuI (zuI τ42 30 0 3) 31 1 10) 32 2 10) 48 0 (-1)) 48 1 (-1)) 48 2 (-1))) ∧ (¬ 4 ≤ (3 : Int32) → V 199 [(1, .int 3), (0, .ref 30)] [] (zuI (zuI (zuI (zuI (zuI (zuI τ42 30 0 3) 31 1 10) 32 2 10) 48 0 (-1)) 48 1 (-1)) 48 2 (-1)))
  refine ⟨fun hc_z => absurd hc_z (by decide), fun _ => ?_⟩
  refine zq (σ := (zuI (zuI (zuI (zuI (zuI (zuI τ42 30 0 3) 31 1 10) 32 2 10) 48 0 (-1)) 48 1 (-1)) 48 2 (-1))) hV hI hn 5 ?_
  show vp_in 3 4 ∧ V 206 [(1, .int 3), (0, .ref 30)] [] (zuI (zuI (zuI (zuI (zuI (zuI (zuI τ42 30 0 3) 31 1 10) 32 2 10) 48 0 (-1)) 48 1 (-1)) 48 2 (-1)) 48 (Int32.toNatClampNeg 3) (-1))
  refine ⟨zix (k := 3) rfl (by omega) (by decide), ?_⟩
  rw [zcl_k (i := 3) (k := 3) rfl (by omega)]
  refine zq (σ := (zuI (zuI (zuI (zuI (zuI (zuI (zuI τ42 30 0 3) 31 1 10) 32 2 10) 48 0 (-1)) 48 1 (-1)) 48 2 (-1)) 48 3 (-1))) hV hI hn 2 ?_
  show V 194 [(1, .int (3 + 1)), (0, .ref 30)] [] (zuI (zuI (zuI (zuI (zuI (zuI (zuI τ42 30 0 3) 31 1 10) 32 2 10) 48 0 (-1)) 48 1 (-1)) 48 2 (-1)) 48 3 (-1))
  rw [show ((3 + 1) : Int32) = 4 from by decide]
  refine zq (σ := (zuI (zuI (zuI (zuI (zuI (zuI (zuI τ42 30 0 3) 31 1 10) 32 2 10) 48 0 (-1)) 48 1 (-1)) 48 2 (-1)) 48 3 (-1))) hV hI hn 3 ?_
  show ((4 : Int32) ≤ 4 → V 212 [(1, .int 4), (0, .ref 30)] [] (zuI (zuI (zuI (zuI (zuI (zuI (zuI τ42 30 0 3) 31 1 10) 32 2 10) 48 0 (-1)) 48 1 (-1)) 48 2 (-1)) 48 3 (-1))) ∧ (¬ (4 : Int32) ≤ 4 → V 199 [(1, .int 4), (0, .ref 30)] [] (zuI (zuI (zuI (zuI (zuI (zuI (zuI τ42 30 0 3) 31 1 10) 32 2 10) 48 0 (-1)) 48 1 (-1)) 48 2 (-1)) 48 3 (-1)))
  refine ⟨fun _ => ?_, fun hc_z => absurd (by decide) hc_z⟩
  obtain ⟨ω, h_zω⟩ : ∃ ω : zSt, ω = (zuI (zuI (zuI (zuI (zuI (zuI (zuI τ42 30 0 3) 31 1 10) 32 2 10) 48 0 (-1)) 48 1 (-1)) 48 2 (-1)) 48 3 (-1)) := ⟨_, rfl⟩
  rw [← h_zω]
  have hIω : zQI (kR 30 52) ω.2.2 := by rw [h_zω]; exact hI
  have hnω : ω.2.2.2 = σ.2.2.2 + zAl mX9_init := by rw [h_zω]; exact hn
  refine zq (σ := ω) hV hIω hnω 2 ?_
  show V 214 [(1, .int 0), (0, .ref 30)] [] ω
  refine zwk hV [1, 0] rfl ?_
  have Hk : ∀ (r_z : Nat) (k_z : Nat) (υ : zSt), k_z + r_z = 100 → zOnly (zfa 45) ω υ → (∀ j_z, j_z < k_z → υ.1 45 j_z = 100000000) → V 214 [(0, .ref 30), (1, .int (nI k_z))] [] υ := by
    intro r_z
    induction r_z with
    | zero =>
      intro k_z υ hkr hu hc_z
      have hIυ := zQI_eq hIω hu.2.2
      have hnυ : υ.2.2.2 = ω.2.2.2 := congrArg Prod.snd hu.2.2
      refine zq (σ := υ) hV hIυ (hnυ.trans hnω) 3 ?_
      show (100 ≤ (nI k_z) → V 234 [(0, .ref 30), (1, .int (nI k_z))] [] υ) ∧ (¬ 100 ≤ (nI k_z) → V 220 [(0, .ref 30), (1, .int (nI k_z))] [] υ)
      refine ⟨fun _ => ?_, fun hc_z => absurd (show (100 : Int32) ≤ nI k_z by rw [show k_z = 100 by omega]; decide) hc_z⟩
      refine zq (σ := υ) hV hIυ (hnυ.trans hnω) 1 ?_
      show K none υ
      have eq2 : υ.2.2 = τ42.2.2 := hu.2.2.trans (by rw [h_zω]; rfl)
      have eI : ∀ a_z, a_z ≠ 45 → υ.1 a_z = ω.1 a_z := fun a_z ha_z => funext fun j_z => hu.1 a_z j_z (znbeq ha_z)
      have hc45 : ∀ j_z, j_z < 100 → υ.1 45 j_z = 100000000 := fun j_z hj => hc_z j_z (by omega)
      have x51 : υ.1 51 = zz := ((eI 51 (by decide)).trans (by rw [h_zω]; exact (zP_mem hP42 0 rfl)))
      have x50 : υ.1 50 = zz := ((eI 50 (by decide)).trans (by rw [h_zω]; exact (zP_mem hP42 1 rfl)))
      have x49 : υ.1 49 = zz := ((eI 49 (by decide)).trans (by rw [h_zω]; exact (zP_mem hP42 2 rfl)))
      have x48 : υ.1 48 = zF0 := ((eI 48 (by decide)).trans (by rw [h_zω]; show upd (upd (upd (upd (τ42.1 48) 0 (-1)) 1 (-1)) 2 (-1)) 3 (-1) = _; rw [zP_mem hP42 3 rfl]; rfl))
      have x47 : υ.1 47 = zz := ((eI 47 (by decide)).trans (by rw [h_zω]; exact (zP_mem hP42 4 rfl)))
      have x46 : υ.1 46 = zz := ((eI 46 (by decide)).trans (by rw [h_zω]; exact (zP_mem hP42 5 rfl)))
      have x44 : υ.1 44 = zz := ((eI 44 (by decide)).trans (by rw [h_zω]; exact (zP_mem hP42 7 rfl)))
      have x43 : υ.1 43 = zz := ((eI 43 (by decide)).trans (by rw [h_zω]; exact (zP_mem hP42 8 rfl)))
      have x42 : υ.1 42 = zz := ((eI 42 (by decide)).trans (by rw [h_zω]; exact (zP_mem hP42 9 rfl)))
      have x41 : υ.1 41 = zz := ((eI 41 (by decide)).trans (by rw [h_zω]; exact (zP_mem hP42 10 rfl)))
      have x40 : υ.1 40 = zz := ((eI 40 (by decide)).trans (by rw [h_zω]; exact (zP_mem hP42 11 rfl)))
      have x39 : υ.1 39 = zz := ((eI 39 (by decide)).trans (by rw [h_zω]; exact (zP_mem hP42 12 rfl)))
      have x38 : υ.1 38 = zz := ((eI 38 (by decide)).trans (by rw [h_zω]; exact (zP_mem hP42 13 rfl)))
      have x37 : υ.1 37 = zz := ((eI 37 (by decide)).trans (by rw [h_zω]; exact (zP_mem hP42 14 rfl)))
      have x36 : υ.1 36 = zz := ((eI 36 (by decide)).trans (by rw [h_zω]; exact (zP_mem hP42 15 rfl)))
      have x35 : υ.1 35 = zz := ((eI 35 (by decide)).trans (by rw [h_zω]; exact (zP_mem hP42 16 rfl)))
      have x34 : υ.1 34 = zz := ((eI 34 (by decide)).trans (by rw [h_zω]; exact (zP_mem hP42 17 rfl)))
      have x33 : υ.1 33 = zz := ((eI 33 (by decide)).trans (by rw [h_zω]; exact (zP_mem hP42 18 rfl)))
      have x32 : υ.1 32 = (upd zz 2 10) := ((eI 32 (by decide)).trans (by rw [h_zω]; show upd (τ42.1 32) 2 10 = _; rw [zP_mem hP42 19 rfl]))
      have x31 : υ.1 31 = (upd zz 1 10) := ((eI 31 (by decide)).trans (by rw [h_zω]; show upd (τ42.1 31) 1 10 = _; rw [zP_mem hP42 20 rfl]))
      have x30 : υ.1 30 = upd zz 0 3 := ((eI 30 (by decide)).trans (by rw [h_zω]; show upd (τ42.1 30) 0 3 = _; rw [zP_mem hP42 21 rfl]))
      refine hK υ ⟨by rw [show υ.2.2.2 = τ42.2.2.2 from congrArg Prod.snd eq2]; exact hP42.1, fun t_z ht => ?_, (List.forall_mem_cons.mpr ⟨⟨Nat.le_of_ble_eq_true rfl, x51⟩, (List.forall_mem_cons.mpr ⟨⟨Nat.le_of_ble_eq_true rfl, x50⟩, (List.forall_mem_cons.mpr ⟨⟨Nat.le_of_ble_eq_true rfl, x49⟩, (List.forall_mem_cons.mpr ⟨⟨Nat.le_of_ble_eq_true rfl, x48⟩, (List.forall_mem_cons.mpr ⟨⟨Nat.le_of_ble_eq_true rfl, x47⟩, (List.forall_mem_cons.mpr ⟨⟨Nat.le_of_ble_eq_true rfl, x46⟩, (List.forall_mem_cons.mpr ⟨⟨Nat.le_of_ble_eq_true rfl, x44⟩, (List.forall_mem_cons.mpr ⟨⟨Nat.le_of_ble_eq_true rfl, x43⟩, (List.forall_mem_cons.mpr ⟨⟨Nat.le_of_ble_eq_true rfl, x42⟩, (List.forall_mem_cons.mpr ⟨⟨Nat.le_of_ble_eq_true rfl, x41⟩, (List.forall_mem_cons.mpr ⟨⟨Nat.le_of_ble_eq_true rfl, x40⟩, (List.forall_mem_cons.mpr ⟨⟨Nat.le_of_ble_eq_true rfl, x39⟩, (List.forall_mem_cons.mpr ⟨⟨Nat.le_of_ble_eq_true rfl, x38⟩, (List.forall_mem_cons.mpr ⟨⟨Nat.le_of_ble_eq_true rfl, x37⟩, (List.forall_mem_cons.mpr ⟨⟨Nat.le_of_ble_eq_true rfl, x36⟩, (List.forall_mem_cons.mpr ⟨⟨Nat.le_of_ble_eq_true rfl, x35⟩, (List.forall_mem_cons.mpr ⟨⟨Nat.le_of_ble_eq_true rfl, x34⟩, (List.forall_mem_cons.mpr ⟨⟨Nat.le_of_ble_eq_true rfl, x33⟩, (List.forall_mem_cons.mpr ⟨⟨Nat.le_of_ble_eq_true rfl, x32⟩, (List.forall_mem_cons.mpr ⟨⟨Nat.le_of_ble_eq_true rfl, x31⟩, (List.forall_mem_cons.mpr ⟨⟨Nat.le_of_ble_eq_true rfl, x30⟩, (fun t_z ht => ?_)⟩)⟩)⟩)⟩)⟩)⟩)⟩)⟩)⟩)⟩)⟩)⟩)⟩)⟩)⟩)⟩)⟩)⟩)⟩)⟩)⟩)⟩ hc45
      · rw [show υ.2.2.1 = τ42.2.2.1 from congrArg Prod.fst eq2]; exact hP42.2.1 t_z ht
      · have h30 := hIl t_z ht
        obtain ⟨q1_z, q2_z⟩ := hP.2.2 t_z (List.mem_cons_of_mem _ ht)
        refine ⟨by omega, ?_⟩
        have hm_z : t_z ∈ (51, zz) :: (50, zz) :: (49, zz) :: (48, zz) :: (47, zz) :: (46, zz) :: (45, zz) :: (44, zz) :: (43, zz) :: (42, zz) :: (41, zz) :: (40, zz) :: (39, zz) :: (38, zz) :: (37, zz) :: (36, zz) :: (35, zz) :: (34, zz) :: (33, zz) :: (32, zz) :: (31, zz) :: ((30, zz) :: I) := (List.mem_cons_of_mem _ (List.mem_cons_of_mem _ (List.mem_cons_of_mem _ (List.mem_cons_of_mem _ (List.mem_cons_of_mem _ (List.mem_cons_of_mem _ (List.mem_cons_of_mem _ (List.mem_cons_of_mem _ (List.mem_cons_of_mem _ (List.mem_cons_of_mem _ (List.mem_cons_of_mem _ (List.mem_cons_of_mem _ (List.mem_cons_of_mem _ (List.mem_cons_of_mem _ (List.mem_cons_of_mem _ (List.mem_cons_of_mem _ (List.mem_cons_of_mem _ (List.mem_cons_of_mem _ (List.mem_cons_of_mem _ (List.mem_cons_of_mem _ (List.mem_cons_of_mem _ (List.mem_cons_of_mem _ ht))))))))))))))))))))))
        have q3_z := (hP42.2.2 t_z hm_z).2
        rw [eI t_z.1 (by omega), h_zω]
        rw [zuI_ne (by omega), zuI_ne (by omega), zuI_ne (by omega), zuI_ne (by omega), zuI_ne (by omega), zuI_ne (by omega), zuI_ne (by omega)]
        exact q3_z
    | succ r_z ihk =>
      intro k_z υ hkr hu hc_z
      have hIυ := zQI_eq hIω hu.2.2
      have hnυ : υ.2.2.2 = ω.2.2.2 := congrArg Prod.snd hu.2.2
      refine zq (σ := υ) hV hIυ (hnυ.trans hnω) 3 ?_
      show (100 ≤ (nI k_z) → V 234 [(0, .ref 30), (1, .int (nI k_z))] [] υ) ∧ (¬ 100 ≤ (nI k_z) → V 220 [(0, .ref 30), (1, .int (nI k_z))] [] υ)
      refine ⟨fun hc_z => absurd hc_z (show ¬ nI 100 ≤ nI k_z from nI_ge (by omega) (by decide)), fun _ => ?_⟩
      refine zq (σ := υ) hV hIυ (hnυ.trans hnω) 5 ?_
      show vp_in (nI k_z) 100 ∧ V 228 [(0, .ref 30), (1, .int (nI k_z))] [] (zuI υ 45 (Int32.toNatClampNeg (nI k_z)) 100000000)
      refine ⟨zix (k := k_z) rfl (by omega) (by decide), ?_⟩
      rw [zcl_k (i := (nI k_z)) (k := k_z) rfl (by omega)]
      refine zq (σ := (zuI υ 45 k_z 100000000)) hV hIυ (hnυ.trans hnω) 2 ?_
      show V 214 [(1, .int ((nI k_z) + 1)), (0, .ref 30)] [] (zuI υ 45 k_z 100000000)
      refine zwk hV [1, 0] rfl ?_
      rw [nI_1]
      refine ihk (k_z + 1) _ (by omega) (hu.uI rfl) (fun j_z hj => ?_)
      rw [zuI_get]
      by_cases e_z : j_z = k_z
      · rw [if_pos ⟨rfl, e_z⟩]
      · rw [if_neg (fun q_z => e_z q_z.2)]; exact hc_z j_z (by omega)
  exact Hk 100 0 ω rfl zOnly.rf (fun j_z hj => absurd hj (Nat.not_lt_zero j_z))
abbrev zR52 : List (Nat × Nat × Nat) := [(30, 34, 51), (30, 33, 50), (30, 32, 49), (30, 31, 48), (30, 30, 47), (30, 27, 46), (30, 26, 45), (30, 24, 44), (30, 23, 43), (30, 21, 42), (30, 20, 41), (30, 19, 40), (30, 12, 39), (30, 11, 38), (30, 10, 37), (30, 7, 36), (30, 6, 35), (30, 4, 34), (30, 3, 33), (30, 2, 32), (30, 1, 31), (0, 8, 26), (26, 2, 29), (26, 1, 28), (26, 0, 27), (0, 7, 24), (24, 0, 25), (0, 6, 21), (21, 1, 23), (21, 0, 22), (0, 5, 18), (18, 1, 20), (18, 0, 19), (0, 4, 14), (14, 2, 17), (14, 1, 16), (14, 0, 15), (0, 3, 10), (10, 2, 13), (10, 1, 12), (10, 0, 11), (0, 2, 7), (7, 1, 9), (7, 0, 8), (0, 1, 4), (4, 1, 6), (4, 0, 5), (0, 0, 1), (1, 1, 3), (1, 0, 2)]
abbrev zI52 (f1 : Nat → Int32) : List (Nat × (Nat → Int32)) := (51, zz) :: (50, zz) :: (49, zz) :: (48, zF0) :: (47, zz) :: (46, zz) :: (44, zz) :: (43, zz) :: (42, zz) :: (41, zz) :: (40, zz) :: (39, zz) :: (38, zz) :: (37, zz) :: (36, zz) :: (35, zz) :: (34, zz) :: (33, zz) :: (32, (upd zz 2 10)) :: (31, (upd zz 1 10)) :: (30, upd zz 0 3) :: zI30 f1
