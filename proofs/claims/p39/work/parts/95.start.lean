variable {zx : Nat × (Nat → Int32)}
abbrev zR30 : List (Nat × Nat × Nat) := [(0, 8, 26), (26, 2, 29), (26, 1, 28), (26, 0, 27), (0, 7, 24), (24, 0, 25), (0, 6, 21), (21, 1, 23), (21, 0, 22), (0, 5, 18), (18, 1, 20), (18, 0, 19), (0, 4, 14), (14, 2, 17), (14, 1, 16), (14, 0, 15), (0, 3, 10), (10, 2, 13), (10, 1, 12), (10, 0, 11), (0, 2, 7), (7, 1, 9), (7, 0, 8), (0, 1, 4), (4, 1, 6), (4, 0, 5), (0, 0, 1), (1, 1, 3), (1, 0, 2)]
abbrev zI30 (f1 : Nat → Int32) : List (Nat × (Nat → Int32)) := [(29, zz), (28, zz), (27, zF0), (26, zz), (25, zz), (24, zz), (23, zz), (22, zz), (21, zz), (20, zz), (19, zz), (18, zz), (17, zz), (16, zz), (15, zz), (14, zz), (13, zz), (12, zz), (11, zz), (10, zz), (9, zz), (8, zz), (7, zz), (6, zz), (5, zz), (4, zz), (3, zY0), (2, zX0), (1, f1), (0, zz)]
set_option maxRecDepth 8000 in
set_option maxHeartbeats 4000000 in
theorem init_X8 {d : Nat} {σ : zSt} {K : Option Value → zSt → Prop} (hP : zP 1 [] [(0, zz)] σ) (hK : ∀ τ f1, zP 30 zR30 (zI30 f1) τ → f1 2 = nI 3 → f1 3 = zAr 3 zX0 zY0 3 → f1 4 = zMx 3 zX0 zY0 3 → f1 5 = zMy 3 zX0 zY0 3 → K none τ) : zSp zx (d + 5) mX8_init [.ref 0] σ K := by
  refine ⟨⟨by decide, Nat.le_of_ble_eq_true rfl⟩, fun V hV => ?_⟩
  refine hV.1 _ _ _ _ ?_
  show V 1 [(0, .ref 0)] [.ref 0] σ
  refine hV.1 _ _ _ _ ?_
  show _ ∧ V 4 [(0, .ref 0)] [] σ
  refine ⟨by decide, ?_⟩
  refine hV.1 _ _ _ _ ?_
  show V 5 [(0, .ref 0)] [.ref 0] σ
  refine hV.1 _ _ _ _ ?_
  refine ⟨⟨by rw [hP.1]; rfl, by rw [hP.1]; decide⟩, ?_⟩
  rw [hP.1]
  have hP1 := zP_new hP
  generalize zuN σ = τ1 at hP1 ⊢
  show V 8 [(0, .ref 0)] [.ref 1, .ref 0] τ1
  refine hV.1 _ _ _ _ ?_
  show _ ∧ V 9 [(0, .ref 0)] [.ref 1, .ref 1, .ref 0] τ1
  refine ⟨rfl, ?_⟩
  refine hV.1 _ _ _ _ ?_
  refine ⟨⟨by decide, by decide, trivial, by rw [hP1.1, hP.1]; decide⟩, ?_⟩
  show zSp _ _ 13 [.ref 1] τ1 (fun r_z σ' => σ'.2.2.2 = τ1.2.2.2 + zAl 13 → V 12 [(0, .ref 0)] (r_z.toList ++ [.ref 1, .ref 0]) σ')
  refine init_X3 hP1 (fun τ2 hP2 p2_z p3_z p4_z p5_z _ => ?_)
  show V 12 [(0, .ref 0)] [.ref 1, .ref 0] τ2
  refine hV.1 _ _ _ _ ?_
  refine ⟨⟨by rw [hP2.1]; decide, rfl, Or.inr ⟨rfl, rfl⟩⟩, ?_⟩
  show V 15 [(0, .ref 0)] [] (zuR τ2 0 0 (.ref 1))
  have hP3 := zP_ref (a := 0) (k := 0) (b := 1) hP2 (by decide) (by decide)
  generalize zuR τ2 0 0 (.ref 1) = τ3 at hP3 ⊢
  refine hV.1 _ _ _ _ ?_
  show V 16 [(0, .ref 0)] [.ref 0] τ3
  refine hV.1 _ _ _ _ ?_
  refine ⟨⟨by rw [hP3.1]; rfl, by rw [hP3.1, hP.1]; decide⟩, ?_⟩
  rw [hP3.1]
  have hP4 := zP_new hP3
  generalize zuN τ3 = τ4 at hP4 ⊢
  show V 19 [(0, .ref 0)] [.ref 4, .ref 0] τ4
  refine hV.1 _ _ _ _ ?_
  show _ ∧ V 20 [(0, .ref 0)] [.ref 4, .ref 4, .ref 0] τ4
  refine ⟨rfl, ?_⟩
  refine hV.1 _ _ _ _ ?_
  refine ⟨⟨by decide, by decide, trivial, by rw [hP4.1, hP.1]; decide⟩, ?_⟩
  show zSp _ _ 5 [.ref 4] τ4 (fun r_z σ' => σ'.2.2.2 = τ4.2.2.2 + zAl 5 → V 23 [(0, .ref 0)] (r_z.toList ++ [.ref 4, .ref 0]) σ')
  refine init_X2_4 hP4 (by decide) (fun τ5 hP5 _ => ?_)
  show V 23 [(0, .ref 0)] [.ref 4, .ref 0] τ5
  refine hV.1 _ _ _ _ ?_
  refine ⟨⟨by rw [hP5.1]; decide, rfl, Or.inr ⟨rfl, rfl⟩⟩, ?_⟩
  show V 26 [(0, .ref 0)] [] (zuR τ5 0 1 (.ref 4))
  have hP6 := zP_ref (a := 0) (k := 1) (b := 4) hP5 (by decide) (by decide)
  generalize zuR τ5 0 1 (.ref 4) = τ6 at hP6 ⊢
  refine hV.1 _ _ _ _ ?_
  show V 27 [(0, .ref 0)] [.ref 0] τ6
  refine hV.1 _ _ _ _ ?_
  refine ⟨⟨by rw [hP6.1]; rfl, by rw [hP6.1, hP.1]; decide⟩, ?_⟩
  rw [hP6.1]
  have hP7 := zP_new hP6
  generalize zuN τ6 = τ7 at hP7 ⊢
  show V 30 [(0, .ref 0)] [.ref 7, .ref 0] τ7
  refine hV.1 _ _ _ _ ?_
  show _ ∧ V 31 [(0, .ref 0)] [.ref 7, .ref 7, .ref 0] τ7
  refine ⟨rfl, ?_⟩
  refine hV.1 _ _ _ _ ?_
  refine ⟨⟨by decide, by decide, trivial, by rw [hP7.1, hP.1]; decide⟩, ?_⟩
  show zSp _ _ 5 [.ref 7] τ7 (fun r_z σ' => σ'.2.2.2 = τ7.2.2.2 + zAl 5 → V 34 [(0, .ref 0)] (r_z.toList ++ [.ref 7, .ref 0]) σ')
  refine init_X2_7 hP7 (by decide) (fun τ8 hP8 _ => ?_)
  show V 34 [(0, .ref 0)] [.ref 7, .ref 0] τ8
  refine hV.1 _ _ _ _ ?_
  refine ⟨⟨by rw [hP8.1]; decide, rfl, Or.inr ⟨rfl, rfl⟩⟩, ?_⟩
  show V 37 [(0, .ref 0)] [] (zuR τ8 0 2 (.ref 7))
  have hP9 := zP_ref (a := 0) (k := 2) (b := 7) hP8 (by decide) (by decide)
  generalize zuR τ8 0 2 (.ref 7) = τ9 at hP9 ⊢
  refine hV.1 _ _ _ _ ?_
  show V 38 [(0, .ref 0)] [.ref 0] τ9
  refine hV.1 _ _ _ _ ?_
  refine ⟨⟨by rw [hP9.1]; rfl, by rw [hP9.1, hP.1]; decide⟩, ?_⟩
  rw [hP9.1]
  have hP10 := zP_new hP9
  generalize zuN τ9 = τ10 at hP10 ⊢
  show V 41 [(0, .ref 0)] [.ref 10, .ref 0] τ10
  refine hV.1 _ _ _ _ ?_
  show _ ∧ V 42 [(0, .ref 0)] [.ref 10, .ref 10, .ref 0] τ10
  refine ⟨rfl, ?_⟩
  refine hV.1 _ _ _ _ ?_
  refine ⟨⟨by decide, by decide, trivial, by rw [hP10.1, hP.1]; decide⟩, ?_⟩
  show zSp _ _ 43 [.ref 10] τ10 (fun r_z σ' => σ'.2.2.2 = τ10.2.2.2 + zAl 43 → V 45 [(0, .ref 0)] (r_z.toList ++ [.ref 10, .ref 0]) σ')
  refine init_X7_10 hP10 (by decide) (fun τ11 hP11 _ => ?_)
  show V 45 [(0, .ref 0)] [.ref 10, .ref 0] τ11
  refine hV.1 _ _ _ _ ?_
  refine ⟨⟨by rw [hP11.1]; decide, rfl, Or.inr ⟨rfl, rfl⟩⟩, ?_⟩
  show V 48 [(0, .ref 0)] [] (zuR τ11 0 3 (.ref 10))
  have hP12 := zP_ref (a := 0) (k := 3) (b := 10) hP11 (by decide) (by decide)
  generalize zuR τ11 0 3 (.ref 10) = τ12 at hP12 ⊢
  refine hV.1 _ _ _ _ ?_
  show V 49 [(0, .ref 0)] [.ref 0] τ12
  refine hV.1 _ _ _ _ ?_
  refine ⟨⟨by rw [hP12.1]; rfl, by rw [hP12.1, hP.1]; decide⟩, ?_⟩
  rw [hP12.1]
  have hP13 := zP_new hP12
  generalize zuN τ12 = τ13 at hP13 ⊢
  show V 52 [(0, .ref 0)] [.ref 14, .ref 0] τ13
  refine hV.1 _ _ _ _ ?_
  show _ ∧ V 53 [(0, .ref 0)] [.ref 14, .ref 14, .ref 0] τ13
  refine ⟨rfl, ?_⟩
  refine hV.1 _ _ _ _ ?_
  refine ⟨⟨by decide, by decide, trivial, by rw [hP13.1, hP.1]; decide⟩, ?_⟩
  show zSp _ _ 36 [.ref 14] τ13 (fun r_z σ' => σ'.2.2.2 = τ13.2.2.2 + zAl 36 → V 56 [(0, .ref 0)] (r_z.toList ++ [.ref 14, .ref 0]) σ')
  refine init_X6_14 hP13 (by decide) (fun τ14 hP14 _ => ?_)
  show V 56 [(0, .ref 0)] [.ref 14, .ref 0] τ14
  refine hV.1 _ _ _ _ ?_
  refine ⟨⟨by rw [hP14.1]; decide, rfl, Or.inr ⟨rfl, rfl⟩⟩, ?_⟩
  show V 59 [(0, .ref 0)] [] (zuR τ14 0 4 (.ref 14))
  have hP15 := zP_ref (a := 0) (k := 4) (b := 14) hP14 (by decide) (by decide)
  generalize zuR τ14 0 4 (.ref 14) = τ15 at hP15 ⊢
  refine hV.1 _ _ _ _ ?_
  show V 60 [(0, .ref 0)] [.ref 0] τ15
  refine hV.1 _ _ _ _ ?_
  refine ⟨⟨by rw [hP15.1]; rfl, by rw [hP15.1, hP.1]; decide⟩, ?_⟩
  rw [hP15.1]
  have hP16 := zP_new hP15
  generalize zuN τ15 = τ16 at hP16 ⊢
  show V 63 [(0, .ref 0)] [.ref 18, .ref 0] τ16
  refine hV.1 _ _ _ _ ?_
  show _ ∧ V 64 [(0, .ref 0)] [.ref 18, .ref 18, .ref 0] τ16
  refine ⟨rfl, ?_⟩
  refine hV.1 _ _ _ _ ?_
  refine ⟨⟨by decide, by decide, trivial, by rw [hP16.1, hP.1]; decide⟩, ?_⟩
  show zSp _ _ 23 [.ref 18] τ16 (fun r_z σ' => σ'.2.2.2 = τ16.2.2.2 + zAl 23 → V 67 [(0, .ref 0)] (r_z.toList ++ [.ref 18, .ref 0]) σ')
  refine init_X4_18 hP16 (by decide) (fun τ17 hP17 _ => ?_)
  show V 67 [(0, .ref 0)] [.ref 18, .ref 0] τ17
  refine hV.1 _ _ _ _ ?_
  refine ⟨⟨by rw [hP17.1]; decide, rfl, Or.inr ⟨rfl, rfl⟩⟩, ?_⟩
  show V 70 [(0, .ref 0)] [] (zuR τ17 0 5 (.ref 18))
  have hP18 := zP_ref (a := 0) (k := 5) (b := 18) hP17 (by decide) (by decide)
  generalize zuR τ17 0 5 (.ref 18) = τ18 at hP18 ⊢
  refine hV.1 _ _ _ _ ?_
  show V 71 [(0, .ref 0)] [.ref 0] τ18
  refine hV.1 _ _ _ _ ?_
  refine ⟨⟨by rw [hP18.1]; rfl, by rw [hP18.1, hP.1]; decide⟩, ?_⟩
  rw [hP18.1]
  have hP19 := zP_new hP18
  generalize zuN τ18 = τ19 at hP19 ⊢
  show V 74 [(0, .ref 0)] [.ref 21, .ref 0] τ19
  refine hV.1 _ _ _ _ ?_
  show _ ∧ V 75 [(0, .ref 0)] [.ref 21, .ref 21, .ref 0] τ19
  refine ⟨rfl, ?_⟩
  refine hV.1 _ _ _ _ ?_
  refine ⟨⟨by decide, by decide, trivial, by rw [hP19.1, hP.1]; decide⟩, ?_⟩
  show zSp _ _ 3 [.ref 21] τ19 (fun r_z σ' => σ'.2.2.2 = τ19.2.2.2 + zAl 3 → V 78 [(0, .ref 0)] (r_z.toList ++ [.ref 21, .ref 0]) σ')
  refine init_X1_21 hP19 (by decide) (fun τ20 hP20 _ => ?_)
  show V 78 [(0, .ref 0)] [.ref 21, .ref 0] τ20
  refine hV.1 _ _ _ _ ?_
  refine ⟨⟨by rw [hP20.1]; decide, rfl, Or.inr ⟨rfl, rfl⟩⟩, ?_⟩
  show V 81 [(0, .ref 0)] [] (zuR τ20 0 6 (.ref 21))
  have hP21 := zP_ref (a := 0) (k := 6) (b := 21) hP20 (by decide) (by decide)
  generalize zuR τ20 0 6 (.ref 21) = τ21 at hP21 ⊢
  refine hV.1 _ _ _ _ ?_
  show V 82 [(0, .ref 0)] [.ref 0] τ21
  refine hV.1 _ _ _ _ ?_
  refine ⟨⟨by rw [hP21.1]; rfl, by rw [hP21.1, hP.1]; decide⟩, ?_⟩
  rw [hP21.1]
  have hP22 := zP_new hP21
  generalize zuN τ21 = τ22 at hP22 ⊢
  show V 85 [(0, .ref 0)] [.ref 24, .ref 0] τ22
  refine hV.1 _ _ _ _ ?_
  show _ ∧ V 86 [(0, .ref 0)] [.ref 24, .ref 24, .ref 0] τ22
  refine ⟨rfl, ?_⟩
  refine hV.1 _ _ _ _ ?_
  refine ⟨⟨by decide, by decide, trivial, by rw [hP22.1, hP.1]; decide⟩, ?_⟩
  show zSp _ _ 0 [.ref 24] τ22 (fun r_z σ' => σ'.2.2.2 = τ22.2.2.2 + zAl 0 → V 89 [(0, .ref 0)] (r_z.toList ++ [.ref 24, .ref 0]) σ')
  refine init_X0_24 hP22 (by decide) (fun τ23 hP23 _ => ?_)
  show V 89 [(0, .ref 0)] [.ref 24, .ref 0] τ23
  refine hV.1 _ _ _ _ ?_
  refine ⟨⟨by rw [hP23.1]; decide, rfl, Or.inr ⟨rfl, rfl⟩⟩, ?_⟩
  show V 92 [(0, .ref 0)] [] (zuR τ23 0 7 (.ref 24))
  have hP24 := zP_ref (a := 0) (k := 7) (b := 24) hP23 (by decide) (by decide)
  generalize zuR τ23 0 7 (.ref 24) = τ24 at hP24 ⊢
  refine hV.1 _ _ _ _ ?_
  show V 93 [(0, .ref 0)] [.ref 0] τ24
  refine hV.1 _ _ _ _ ?_
  refine ⟨⟨by rw [hP24.1]; rfl, by rw [hP24.1, hP.1]; decide⟩, ?_⟩
  rw [hP24.1]
  have hP25 := zP_new hP24
  generalize zuN τ24 = τ25 at hP25 ⊢
  show V 96 [(0, .ref 0)] [.ref 26, .ref 0] τ25
  refine hV.1 _ _ _ _ ?_
  show _ ∧ V 97 [(0, .ref 0)] [.ref 26, .ref 26, .ref 0] τ25
  refine ⟨rfl, ?_⟩
  refine hV.1 _ _ _ _ ?_
  refine ⟨⟨by decide, by decide, trivial, by rw [hP25.1, hP.1]; decide⟩, ?_⟩
  show zSp _ _ 25 [.ref 26] τ25 (fun r_z σ' => σ'.2.2.2 = τ25.2.2.2 + zAl 25 → V 100 [(0, .ref 0)] (r_z.toList ++ [.ref 26, .ref 0]) σ')
  refine init_X5 hP25 (by decide) (fun τ26 hP26 _ => ?_)
  show V 100 [(0, .ref 0)] [.ref 26, .ref 0] τ26
  refine hV.1 _ _ _ _ ?_
  refine ⟨⟨by rw [hP26.1]; decide, rfl, Or.inr ⟨rfl, rfl⟩⟩, ?_⟩
  show V 103 [(0, .ref 0)] [] (zuR τ26 0 8 (.ref 26))
  have hP27 := zP_ref (a := 0) (k := 8) (b := 26) hP26 (by decide) (by decide)
  generalize zuR τ26 0 8 (.ref 26) = τ27 at hP27 ⊢
  refine hV.1 _ _ _ _ ?_
  show V 104 [(0, .ref 0)] [.ref 0] τ27
  refine hV.1 _ _ _ _ ?_
  show V 105 [(0, .ref 0)] [.int 0, .ref 0] τ27
  refine hV.1 _ _ _ _ ?_
  refine ⟨⟨by rw [hP27.1]; decide, rfl, Or.inl rfl⟩, ?_⟩
  show V 108 [(0, .ref 0)] [] (zuI τ27 0 9 0)
  refine hV.1 _ _ _ _ ?_
  refine ⟨rfl, rfl, ?_, ?_⟩
  · show τ27.2.2.2 = _
    rw [hP27.1, hP.1]; rfl
  · refine hK _ (τ2.1 1) ⟨hP27.1, hP27.2.1, ?_⟩ p2_z p3_z p4_z p5_z
    intro t_z ht
    obtain ⟨q1_z, q2_z⟩ := hP27.2.2 t_z ht
    refine ⟨q1_z, ?_⟩
    by_cases e_z : t_z.1 = 0
    · have : t_z.2 = zz := by rw [← q2_z, e_z]; exact zP_mem hP27 29 rfl
      rw [this, e_z]
      show upd (τ27.1 0) 9 0 = zz
      rw [zP_mem hP27 29 rfl]
      funext j_z
      unfold upd zz
      split <;> rfl
    · rw [zuI_ne e_z]; exact q2_z
