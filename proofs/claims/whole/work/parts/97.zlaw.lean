set_option maxRecDepth 8000 in
set_option maxHeartbeats 8000000 in
theorem zloop {L : Nat} {xs : Nat → Int32} {V : Nat → zLo → List Value → zSt → Prop} (hV : zOk (zSp 7) (L, xs) mL_law 52 V (fun r _ => r = some (.int 1))) (hL : L ≤ 3072) : ∀ (r p : Nat) (σ : zSt), zRel σ → σ.2.2.2 = 52 → p ≤ L + 6 → L < p + r + 6 → V 18 [(0, .ref zsc), (1, .ref 0), (2, .ref 30), (3, .int (nI p))] [] σ := by
  intro r
  induction r with
  | zero =>
    intro p σ hR hn hp hr
    have hI := hR.1
    have hlt : (nI L) - 6 < nI p := by
      have s6_z : (6 : Int32).toInt = 6 := rfl
      rw [zlt, zsub (by rw [nI_toInt (by omega), s6_z]; omega), nI_toInt (by omega), nI_toInt (by omega), s6_z]
      omega
    refine zq (σ := σ) hV hI hn 2 ?_
    show V 20 [(0, .ref zsc), (1, .ref 0), (2, .ref 30), (3, .int (nI p))] [.ref zsc, .int (nI p)] σ
    refine zal hV rfl ?_
    show V 21 [(0, .ref zsc), (1, .ref 0), (2, .ref 30), (3, .int (nI p))] [.int (nI L), .int (nI p)] σ
    refine zq (σ := σ) hV hI hn 3 ?_
    show (((nI L) - 6) < (nI p) → V 1229 [(0, .ref zsc), (1, .ref 0), (2, .ref 30), (3, .int (nI p))] [] σ) ∧ (¬ ((nI L) - 6) < (nI p) → V 27 [(0, .ref zsc), (1, .ref 0), (2, .ref 30), (3, .int (nI p))] [] σ)
    refine ⟨fun _ => ?_, fun hc_z => absurd hlt hc_z⟩
    refine zq (σ := σ) hV hI hn 2 ?_
    show ((1 : Int32) = 0 ∨ (1 : Int32) = 1) ∧ (fun (r : Option Value) (_ : zSt) => r = some (.int 1)) (some (.int 1)) σ
    refine ⟨by decide, ?_⟩
    exact rfl
  | succ r ih_z =>
    intro p σ hR hn hp hr
    have hI := hR.1
    refine zq (σ := σ) hV hI hn 2 ?_
    show V 20 [(0, .ref zsc), (1, .ref 0), (2, .ref 30), (3, .int (nI p))] [.ref zsc, .int (nI p)] σ
    refine zal hV rfl ?_
    show V 21 [(0, .ref zsc), (1, .ref 0), (2, .ref 30), (3, .int (nI p))] [.int (nI L), .int (nI p)] σ
    refine zq (σ := σ) hV hI hn 3 ?_
    show (((nI L) - 6) < (nI p) → V 1229 [(0, .ref zsc), (1, .ref 0), (2, .ref 30), (3, .int (nI p))] [] σ) ∧ (¬ ((nI L) - 6) < (nI p) → V 27 [(0, .ref zsc), (1, .ref 0), (2, .ref 30), (3, .int (nI p))] [] σ)
    refine ⟨fun h_24 => ?_, fun h_24 => ?_⟩
    · skip
      refine zq (σ := σ) hV hI hn 2 ?_
      show ((1 : Int32) = 0 ∨ (1 : Int32) = 1) ∧ (fun (r : Option Value) (_ : zSt) => r = some (.int 1)) (some (.int 1)) σ
      refine ⟨by decide, ?_⟩
      exact rfl
    · skip
      have hp6 : p + 6 ≤ L := by
        have s6_z : (6 : Int32).toInt = 6 := rfl
        rw [zlt, zsub (by rw [nI_toInt (by omega), s6_z]; omega), nI_toInt (by omega), nI_toInt (by omega), s6_z] at h_24
        omega
      have hnx : ∀ υ, zRel υ → υ.2.2.2 = 52 → V 1223 [(0, .ref zsc), (1, .ref 0), (2, .ref 30), (3, .int (nI p))] [] υ := by
        intro υ hR2 hn2
        have hI2 := hR2.1
        refine zq (σ := υ) hV hI2 hn2 2 ?_
        show V 18 [(3, .int ((nI p) + 6)), (0, .ref zsc), (1, .ref 0), (2, .ref 30)] [] υ
        refine zwk hV [1, 2, 3, 0] rfl ?_
        rw [show nI p + 6 = nI (p + 6) from zn_a (a := p) (b := 6) rfl rfl]
        exact ih_z (p + 6) υ hR2 hn2 (by omega) (by omega)
      refine zq (σ := σ) hV hI hn 2 ?_
      show V 29 [(0, .ref zsc), (1, .ref 0), (2, .ref 30), (3, .int (nI p))] [.int (nI p), .ref zsc] σ
      refine zscl hV rfl (zix (k := p) rfl (by omega) (by omega)) ?_
      show V 30 [(0, .ref zsc), (1, .ref 0), (2, .ref 30), (3, .int (nI p))] [.int (xs (Int32.toNatClampNeg (nI p)))] σ
      refine zq (σ := σ) hV hI hn 2 ?_
      show V 33 [(0, .ref zsc), (1, .ref 0), (2, .ref 30), (3, .int (nI p))] [.int ((xs (Int32.toNatClampNeg (nI p))) &&& 63)] σ
      generalize ((xs (Int32.toNatClampNeg (nI p))) &&& 63) = sw_z
      refine zq (σ := σ) hV hI hn 1 ?_
      show ((Int32.toInt sw_z < 0 ∨ 35 < Int32.toInt sw_z) → V 1223 [(0, .ref zsc), (1, .ref 0), (2, .ref 30), (3, .int (nI p))] [] σ) ∧ ((¬ Int32.toInt sw_z < 0 ∧ ¬ 35 < Int32.toInt sw_z) → ∃ off_z, (#[159, 192, 225, 248, 281, 314, 357, 370, 393, 427, 440, 464, 487, 500, 543, 556, 569, 622, 665, 698, 711, 734, 747, 790, 823, 836, 869, 892, 915, 928, 971, 994, 1047, 1090, 1153, 1176] : Array Int)[(Int32.toInt sw_z - 0).toNat]? = some off_z ∧ 0 ≤ ((33 : Nat) : Int) + off_z ∧ V (ztg 33 off_z) [(0, .ref zsc), (1, .ref 0), (2, .ref 30), (3, .int (nI p))] [] σ)
      refine ⟨fun _ => hnx σ hR hn, fun hsw => ?_⟩
      rcases (show Int32.toInt sw_z = 0 ∨ Int32.toInt sw_z = 1 ∨ Int32.toInt sw_z = 2 ∨ Int32.toInt sw_z = 3 ∨ Int32.toInt sw_z = 4 ∨ Int32.toInt sw_z = 5 ∨ Int32.toInt sw_z = 6 ∨ Int32.toInt sw_z = 7 ∨ Int32.toInt sw_z = 8 ∨ Int32.toInt sw_z = 9 ∨ Int32.toInt sw_z = 10 ∨ Int32.toInt sw_z = 11 ∨ Int32.toInt sw_z = 12 ∨ Int32.toInt sw_z = 13 ∨ Int32.toInt sw_z = 14 ∨ Int32.toInt sw_z = 15 ∨ Int32.toInt sw_z = 16 ∨ Int32.toInt sw_z = 17 ∨ Int32.toInt sw_z = 18 ∨ Int32.toInt sw_z = 19 ∨ Int32.toInt sw_z = 20 ∨ Int32.toInt sw_z = 21 ∨ Int32.toInt sw_z = 22 ∨ Int32.toInt sw_z = 23 ∨ Int32.toInt sw_z = 24 ∨ Int32.toInt sw_z = 25 ∨ Int32.toInt sw_z = 26 ∨ Int32.toInt sw_z = 27 ∨ Int32.toInt sw_z = 28 ∨ Int32.toInt sw_z = 29 ∨ Int32.toInt sw_z = 30 ∨ Int32.toInt sw_z = 31 ∨ Int32.toInt sw_z = 32 ∨ Int32.toInt sw_z = 33 ∨ Int32.toInt sw_z = 34 ∨ Int32.toInt sw_z = 35 by omega) with hx | hx | hx | hx | hx | hx | hx | hx | hx | hx | hx | hx | hx | hx | hx | hx | hx | hx | hx | hx | hx | hx | hx | hx | hx | hx | hx | hx | hx | hx | hx | hx | hx | hx | hx | hx
      · exact ⟨159, by rw [hx]; rfl, by decide, zcs_0 hV hR hn hp6 hL hnx⟩
      · exact ⟨192, by rw [hx]; rfl, by decide, zcs_1 hV hR hn hp6 hL hnx⟩
      · exact ⟨225, by rw [hx]; rfl, by decide, zcs_2 hV hR hn hp6 hL hnx⟩
      · exact ⟨248, by rw [hx]; rfl, by decide, zcs_3 hV hR hn hp6 hL hnx⟩
      · exact ⟨281, by rw [hx]; rfl, by decide, zcs_4 hV hR hn hp6 hL hnx⟩
      · exact ⟨314, by rw [hx]; rfl, by decide, zcs_5 hV hR hn hp6 hL hnx⟩
      · exact ⟨357, by rw [hx]; rfl, by decide, zcs_6 hV hR hn hp6 hL hnx⟩
      · exact ⟨370, by rw [hx]; rfl, by decide, zcs_7 hV hR hn hp6 hL hnx⟩
      · exact ⟨393, by rw [hx]; rfl, by decide, zcs_8 hV hR hn hp6 hL hnx⟩
      · exact ⟨427, by rw [hx]; rfl, by decide, zcs_9 hV hR hn hp6 hL hnx⟩
      · exact ⟨440, by rw [hx]; rfl, by decide, zcs_10 hV hR hn hp6 hL hnx⟩
      · exact ⟨464, by rw [hx]; rfl, by decide, zcs_11 hV hR hn hp6 hL hnx⟩
      · exact ⟨487, by rw [hx]; rfl, by decide, zcs_12 hV hR hn hp6 hL hnx⟩
      · exact ⟨500, by rw [hx]; rfl, by decide, zcs_13 hV hR hn hp6 hL hnx⟩
      · exact ⟨543, by rw [hx]; rfl, by decide, zcs_14 hV hR hn hp6 hL hnx⟩
      · exact ⟨556, by rw [hx]; rfl, by decide, zcs_15 hV hR hn hp6 hL hnx⟩
      · exact ⟨569, by rw [hx]; rfl, by decide, zcs_16 hV hR hn hp6 hL hnx⟩
      · exact ⟨622, by rw [hx]; rfl, by decide, zcs_17 hV hR hn hp6 hL hnx⟩
      · exact ⟨665, by rw [hx]; rfl, by decide, zcs_18 hV hR hn hp6 hL hnx⟩
      · exact ⟨698, by rw [hx]; rfl, by decide, zcs_19 hV hR hn hp6 hL hnx⟩
      · exact ⟨711, by rw [hx]; rfl, by decide, zcs_20 hV hR hn hp6 hL hnx⟩
      · exact ⟨734, by rw [hx]; rfl, by decide, zcs_21 hV hR hn hp6 hL hnx⟩
      · exact ⟨747, by rw [hx]; rfl, by decide, zcs_22 hV hR hn hp6 hL hnx⟩
      · exact ⟨790, by rw [hx]; rfl, by decide, zcs_23 hV hR hn hp6 hL hnx⟩
      · exact ⟨823, by rw [hx]; rfl, by decide, zcs_24 hV hR hn hp6 hL hnx⟩
      · exact ⟨836, by rw [hx]; rfl, by decide, zcs_25 hV hR hn hp6 hL hnx⟩
      · exact ⟨869, by rw [hx]; rfl, by decide, zcs_26 hV hR hn hp6 hL hnx⟩
      · exact ⟨892, by rw [hx]; rfl, by decide, zcs_27 hV hR hn hp6 hL hnx⟩
      · exact ⟨915, by rw [hx]; rfl, by decide, zcs_28 hV hR hn hp6 hL hnx⟩
      · exact ⟨928, by rw [hx]; rfl, by decide, zcs_29 hV hR hn hp6 hL hnx⟩
      · exact ⟨971, by rw [hx]; rfl, by decide, zcs_30 hV hR hn hp6 hL hnx⟩
      · exact ⟨994, by rw [hx]; rfl, by decide, zcs_31 hV hR hn hp6 hL hnx⟩
      · exact ⟨1047, by rw [hx]; rfl, by decide, zcs_32 hV hR hn hp6 hL hnx⟩
      · exact ⟨1090, by rw [hx]; rfl, by decide, zcs_33 hV hR hn hp6 hL hnx⟩
      · exact ⟨1153, by rw [hx]; rfl, by decide, zcs_34 hV hR hn hp6 hL hnx⟩
      · exact ⟨1176, by rw [hx]; rfl, by decide, zcs_35 hV hR hn hp6 hL hnx⟩
theorem zlaw_ok (L : Nat) (xs : Nat → Int32) (hL : L ≤ 3072) : zLaw (L, xs) := by
  intro V hV
  have hP0 : zP 0 [] [] z0 := ⟨rfl, fun t_z ht => absurd ht List.not_mem_nil, fun t_z ht => absurd ht List.not_mem_nil⟩
  refine hV.1 _ _ _ _ ?_
  refine ⟨⟨rfl, by decide⟩, ?_⟩
  have hP1 := zP_new hP0
  show V 3 [(0, .ref zsc)] [.ref 0] (zuN z0)
  generalize zuN z0 = τ1 at hP1 ⊢
  refine hV.1 _ _ _ _ ?_
  show _ ∧ V 4 [(0, .ref zsc)] [.ref 0, .ref 0] τ1
  refine ⟨rfl, ?_⟩
  refine hV.1 _ _ _ _ ?_
  refine ⟨⟨by decide, by decide, trivial, by rw [hP1.1]; decide⟩, ?_⟩
  show zSp _ 75 [.ref 0] τ1 (fun r_z σ' => σ'.2.2.2 = τ1.2.2.2 + zAl 75 → V 7 [(0, .ref zsc)] (r_z.toList ++ [.ref 0]) σ')
  refine init_X8 hP1 (fun τ2 f1_z hP2 p2_z p3_z p4_z p5_z _ => ?_)
  refine hV.1 _ _ _ _ ?_
  refine ⟨by decide, ?_⟩
  show V 8 [(1, .ref 0), (0, .ref zsc)] [] τ2
  refine hV.1 _ _ _ _ ?_
  refine ⟨⟨by rw [hP2.1]; rfl, by rw [hP2.1]; decide⟩, ?_⟩
  rw [hP2.1]
  have hP3 := zP_new hP2
  generalize zuN τ2 = τ3 at hP3 ⊢
  show V 11 [(1, .ref 0), (0, .ref zsc)] [.ref 30] τ3
  refine hV.1 _ _ _ _ ?_
  show _ ∧ V 12 [(1, .ref 0), (0, .ref zsc)] [.ref 30, .ref 30] τ3
  refine ⟨rfl, ?_⟩
  refine hV.1 _ _ _ _ ?_
  refine ⟨⟨by decide, by decide, trivial, by rw [hP3.1]; decide⟩, ?_⟩
  show zSp _ 130 [.ref 30] τ3 (fun r_z σ' => σ'.2.2.2 = τ3.2.2.2 + zAl 130 → V 15 [(1, .ref 0), (0, .ref zsc)] (r_z.toList ++ [.ref 30]) σ')
  refine init_X9 hP3 (by decide) (fun t_z ht => (hP2.2.2 t_z ht).1) (fun τ4 hP4 hc_z _ => ?_)
  have hR : zRel τ4 := zRel0 hP4 p2_z p3_z p4_z p5_z hc_z
  refine hV.1 _ _ _ _ ?_
  refine ⟨by decide, ?_⟩
  show V 16 [(2, .ref 30), (1, .ref 0), (0, .ref zsc)] [] τ4
  refine zq (σ := τ4) hV hR.1 hP4.1 2 ?_
  show V 18 [(3, .int (nI 0)), (2, .ref 30), (1, .ref 0), (0, .ref zsc)] [] τ4
  refine zwk hV [3, 2, 1, 0] rfl ?_
  exact zloop hV hL L 0 τ4 hR hP4.1 (by omega) (by omega)
