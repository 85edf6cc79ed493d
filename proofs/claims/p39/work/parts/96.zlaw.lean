set_option maxRecDepth 8000 in
set_option maxHeartbeats 4000000 in
theorem zlaw_ok (L : Nat) (xs : Nat → Int32) (hL0 : L ≤ 260) : zLaw (L, xs) := by
  obtain ⟨zx, hzx⟩ : ∃ zx : Nat × (Nat → Int32), zx = (L, xs) := ⟨_, rfl⟩
  rw [← hzx]
  have hL : zx.1 ≤ 260 := by rw [hzx]; exact hL0
  intro V hV
  have hP0 : zP 0 [] [] z0 := ⟨rfl, fun t ht => absurd ht List.not_mem_nil, fun t ht => absurd ht List.not_mem_nil⟩
  refine hV.1 _ _ _ _ ?_
  refine ⟨⟨rfl, by decide⟩, ?_⟩
  have hP1 := zP_new hP0
  show V 3 [(0, .ref zsc)] [.ref 0] (zuN z0)
  generalize zuN z0 = τ1 at hP1 ⊢
  refine hV.1 _ _ _ _ ?_
  show _ ∧ V 4 [(0, .ref zsc)] [.ref 0, .ref 0] τ1
  refine ⟨rfl, ?_⟩
  refine hV.1 _ _ _ _ ?_
  refine ⟨⟨by decide, by decide, trivial, by rw [hP1.1]; decide⟩, ?_⟩
  show zSp _ _ 53 [.ref 0] τ1 (fun r σ' => σ'.2.2.2 = τ1.2.2.2 + zAl 53 → V 7 [(0, .ref zsc)] (r.toList ++ [.ref 0]) σ')
  refine init_X8 hP1 (fun τ2 f1 hP2 p2 p3 p4 p5 _ => ?_)
  refine hV.1 _ _ _ _ ?_
  refine ⟨by decide, ?_⟩
  show V 8 [(1, .ref 0), (0, .ref zsc)] [] τ2
  refine hV.1 _ _ _ _ ?_
  show V 10 [(1, .ref 0), (0, .ref zsc)] [.int 20] τ2
  refine hV.1 _ _ _ _ ?_
  refine ⟨⟨by rw [hP2.1]; rfl, rfl, by decide, by rw [hP2.1]; decide⟩, ?_⟩
  rw [hP2.1]
  have hP3 := zP_new hP2
  show V 12 [(1, .ref 0), (0, .ref zsc)] [.ref 30] (zuN τ2)
  generalize zuN τ2 = τ3 at hP3 ⊢
  refine hV.1 _ _ _ _ ?_
  refine ⟨by decide, ?_⟩
  show V 13 [(2, .ref 30), (1, .ref 0), (0, .ref zsc)] [] τ3
  have hI3 : zQI (kR 0 31) τ3.2.2 := zQI_P hP3 (by decide) rfl
  refine zq (σ := τ3) hV hI3 hP3.1 4 ?_
  show zSp _ _ 84 [.ref 0, .ref zsc, .ref 30] τ3 (fun r σ' => σ'.2.2.2 = τ3.2.2.2 + zAl 84 → V 19 [(2, .ref 30), (1, .ref 0), (0, .ref zsc)] (r.toList ++ []) σ')
  have x0 : τ3.1 0 = zz := zP_mem hP3 30 rfl
  have x28 : τ3.1 28 = zz := zP_mem hP3 2 rfl
  refine Lshape_ok hI3 hL (fun q hq => ⟨0, by rw [x28]; rfl, by decide⟩) (fun υ e1 e2 _ => ?_) (fun υ n hn4 hn8 e1 e2 u2 hB uh us _ => ?_)
  · have hI9 := zQI_eq hI3 e1
    have hn9 : υ.2.2.2 = 31 := (congrArg Prod.snd e1).trans hP3.1
    refine zq (σ := υ) hV hI9 hn9 4 ?_
    show (1 ≤ (0 : Int32) → V 35 [(3, .int 0), (2, .ref 30), (1, .ref 0), (0, .ref zsc)] [] υ) ∧ (¬ 1 ≤ (0 : Int32) → V 25 [(3, .int 0), (2, .ref 30), (1, .ref 0), (0, .ref zsc)] [] υ)
    refine ⟨fun hc => absurd hc (by decide), fun _ => ?_⟩
    refine zq (σ := υ) hV hI9 hn9 2 ?_
    show (¬ (0 : Int32) = 0 → V 33 [(3, .int 0), (2, .ref 30), (1, .ref 0), (0, .ref zsc)] [] υ) ∧ (¬ (¬ (0 : Int32) = 0) → V 29 [(3, .int 0), (2, .ref 30), (1, .ref 0), (0, .ref zsc)] [] υ)
    refine ⟨fun hc => absurd hc (by decide), fun _ => ?_⟩
    refine zq (σ := υ) hV hI9 hn9 3 ?_
    show ((1 : Int32) = 0 ∨ (1 : Int32) = 1) ∧ (fun (r : Option Value) (_ : zSt) => r = some (.int 1)) (some (.int 1)) υ
    refine ⟨by decide, ?_⟩
    exact rfl
  · have hn10 : n ≤ 10 := by omega
    have hs : zLS n (υ.1 2) (υ.1 3) (υ.1 5) (υ.1 6) 0 0 0 (υ.1 15) (υ.1 16) (υ.1 17) υ := ⟨⟨zQI_eq hI3 e1, (congrArg Prod.snd e1).trans hP3.1⟩, ⟨u2, rfl, rfl⟩, ⟨uh, rfl, rfl⟩, by rw [e2, x0]; rfl, us, rfl, rfl, rfl⟩
    refine zq (σ := υ) hV hs.1.1 hs.1.2 4 ?_
    show (1 ≤ (nI n) → V 35 [(3, .int (nI n)), (2, .ref 30), (1, .ref 0), (0, .ref zsc)] [] υ) ∧ (¬ 1 ≤ (nI n) → V 25 [(3, .int (nI n)), (2, .ref 30), (1, .ref 0), (0, .ref zsc)] [] υ)
    refine ⟨fun _ => ?_, fun hc => absurd (nI_le (a := 1) (b := n) (by omega) (by omega)) hc⟩
    refine zq (σ := υ) hV hs.1.1 hs.1.2 4 ?_
    show zSp _ _ 82 [.ref zsc, .int 9] υ (fun r σ' => σ'.2.2.2 = υ.2.2.2 + zAl 82 → V 42 [(3, .int (nI n)), (2, .ref 30), (1, .ref 0), (0, .ref zsc)] (r.toList ++ [.int 2]) σ')
    refine cell_ok hL (k := 9) rfl (by omega) (fun _ => ?_)
    refine zq (σ := υ) hV hs.1.1 hs.1.2 2 ?_
    show zSp _ _ 83 [.int (zCe zx 9), .int 6] υ (fun r σ' => σ'.2.2.2 = υ.2.2.2 + zAl 83 → V 47 [(3, .int (nI n)), (2, .ref 30), (1, .ref 0), (0, .ref zsc)] (r.toList ++ [.int 2]) σ')
    refine up_ok (n := 6) rfl (by omega) (by omega) (fun _ => ?_)
    refine zq (σ := υ) hV hs.1.1 hs.1.2 2 ?_
    show V 50 [(4, .int ((2 : Int32) + (nI (zUp (zCe zx 9) 6)))), (3, .int (nI n)), (2, .ref 30), (1, .ref 0), (0, .ref zsc)] [] υ
    obtain ⟨F, hF, eF⟩ : ∃ F, F ≤ 7 ∧ (2 : Int32) + nI (zUp (zCe zx 9) 6) = nI F := ⟨2 + zUp (zCe zx 9) 6, by have := zUp_lt (x := zCe zx 9) (n := 6) (by decide); omega, nI_add 2 _⟩
    rw [eF]
    refine zq (σ := υ) hV hs.1.1 hs.1.2 4 ?_
    show V 56 [(6, .int 0), (5, .int 0), (4, .int (nI F)), (3, .int (nI n)), (2, .ref 30), (1, .ref 0), (0, .ref zsc)] [] υ
    refine zwk hV [6, 5, 3, 2, 1, 0] rfl ?_
    refine zlK hV hn10 hB hL hn4 hF (zUp_b (by decide) (by decide) (by decide)) (fun E S g τ hg hE hs => zlE hV hn10 hB hL hn4 hF hs) F 0 0 _ _ _ _ (by omega) ?_ ⟨fun i hi => absurd hi (Nat.not_lt_zero i), fun i hi => absurd hi (Nat.not_lt_zero i)⟩ hs (Or.inl ⟨rfl, rfl⟩)
    exact ⟨by decide, by decide⟩
