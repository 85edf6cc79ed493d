theorem zbt01 (s : Int32) (i : Nat) : zbt s i = 0 ∨ zbt s i = 1 := by
  obtain ⟨j_z, hj, e_z⟩ := pk_andE (s >>> (nI i &&& 31)) (m := 1) 1 (by decide)
  unfold zbt
  rw [e_z]
  rcases (show j_z = 0 ∨ j_z = 1 by omega) with h_z | h_z
  · rw [h_z]; exact Or.inl rfl
  · rw [h_z]; exact Or.inr rfl
theorem zPx_b {P : Nat → Int32} {s : Int32} : ∀ {k : Nat}, k ≤ 7 → (∀ j, j < k → zBt 0 1000 (P j)) → zBt 0 (1000 * k) (zPx s P k)
  | 0, _, _ => ⟨by show (0 : Int) ≤ (0 : Int32).toInt; decide, by show (0 : Int32).toInt ≤ 1000 * ((0 : Nat) : Int); decide⟩
  | k + 1, hk, hP => by
    have h := zPx_b (s := s) (k := k) (by omega) (fun j hj => hP j (by omega))
    have h2 := hP k (by omega)
    unfold zPx
    unfold zBt at h h2 ⊢
    by_cases c : zbt s k = 0
    · rw [if_pos c]; omega
    · rw [if_neg c, zadd (by omega)]; omega
theorem zBc_cn : ∀ k, k < 8 → ∀ s, s < 2 ^ k → zBc (nI s) = nI (zcn (nI s) k) := by decide +kernel
theorem zBet_M {P : Nat → Int32} {k s t : Nat} (hk : k ≤ 7) (hP : ∀ j, j < k → zBt 0 1000 (P j)) (hs : s < 2 ^ k) (ht : t < 2 ^ k) : zBet P k (nI s) (nI t) = decide (zPx (nI s) P k < zPx (nI t) P k ∨ (zPx (nI s) P k = zPx (nI t) P k ∧ nI (zcn (nI s) k) < nI (zcn (nI t) k))) := by
  have h1 := zPx_b (s := nI s) hk hP
  have h2 := zPx_b (s := nI t) hk hP
  unfold zBet
  rw [zBc_cn k (by omega) s hs, zBc_cn k (by omega) t ht]
  refine decide_eq_decide.mpr ?_
  unfold zBt at h1 h2
  have e_z := zsub (x := zPx (nI t) P k) (y := zPx (nI s) P k) (by omega)
  have z0 : (0 : Int32).toInt = 0 := rfl
  rw [zlt, zeq (zPx (nI t) P k - zPx (nI s) P k), e_z, z0, zlt (zPx (nI s) P k), zeq (zPx (nI s) P k)]
  constructor
  · rintro (q_z | ⟨q1_z, q2_z⟩)
    · exact Or.inl (by omega)
    · exact Or.inr ⟨by omega, q2_z⟩
  · rintro (q_z | ⟨q1_z, q2_z⟩)
    · exact Or.inl (by omega)
    · exact Or.inr ⟨by omega, q2_z⟩
theorem zHo_0 {n : Nat} {X Y : Nat → Int32} {f : Int32} {E S : Nat → Int32} : ¬ zHo n X Y f E S 0 := by
  rintro ⟨⟨u_z, v_z, h1, h2, _⟩, _⟩
  have : zMl f 0 = 0 := by unfold zMl; split <;> rfl
  omega
theorem zcn_0 : ∀ k, k < 8 → zcn (nI 0) k = 0 := by decide +kernel
theorem zCp_0 {B : Int32 → Int32 → Bool} {H : Int32 → Bool} {M : Nat} (h : H (nI 0) = false) (hM : 1 ≤ M) : zCp H B M 0 (-1) = zCp H B (M - 1) 1 (-1) := by
  obtain ⟨q_z, rfl⟩ : ∃ q_z, M = q_z + 1 := ⟨M - 1, by omega⟩
  show zCp H B q_z (0 + 1) (if ((-1 : Int32) = -1 ∨ B (nI 0) (-1) = true) ∧ H (nI 0) = true then nI 0 else -1) = zCp H B (q_z + 1 - 1) 1 (-1)
  rw [if_neg (fun x_z => by rw [h] at x_z; exact absurd x_z.2 (by decide))]
  rfl
def zfTk (c a j : Nat) : Bool := (Nat.beq a 30 && Nat.beq j 5) || ((Nat.beq a 35 || Nat.beq a 36) && Nat.blt j c)
set_option maxRecDepth 8000 in
set_option maxHeartbeats 4000000 in
theorem priceOf_M {d : Nat} {σ : zSt} {K : Option Value → zSt → Prop} {s : Int32} {k : Nat} (hI : zQI (kR 30 52) σ.2.2) (hs : σ.1 30 18 = nI k) (hk : k ≤ 7) (hK : K (some (.int (zPx s (σ.1 42) k))) σ) : zSp (d + 1) mX9_priceOf [.ref 30, .int s] σ K := by
  refine ⟨⟨by decide, Nat.le_of_ble_eq_true rfl⟩, fun V hV => ?_⟩
  refine zq (σ := σ) hV hI rfl 4 ?_
  show V 4 [(3, .int 0), (2, .int 0), (0, .ref 30), (1, .int s)] [] σ
  refine zwk hV [2, 3, 1, 0] rfl ?_
  have Hi : ∀ (r_z : Nat) (i_z : Nat) (a_z : Int32), i_z + r_z = k → a_z = zPx s (σ.1 42) i_z → V 4 [(0, .ref 30), (1, .int s), (2, .int a_z), (3, .int (nI i_z))] [] σ := by
    intro r_z
    induction r_z with
    | zero =>
      intro i_z a_z hir ha_z
      refine zq (σ := σ) hV hI rfl 4 ?_
      show ((σ.1 30 18) ≤ (nI i_z) → V 40 [(0, .ref 30), (1, .int s), (2, .int a_z), (3, .int (nI i_z))] [] σ) ∧ (¬ (σ.1 30 18) ≤ (nI i_z) → V 12 [(0, .ref 30), (1, .int s), (2, .int a_z), (3, .int (nI i_z))] [] σ)
      refine ⟨fun _ => ?_, fun hc_z => absurd (show (σ.1 30 18) ≤ nI i_z by rw [hs]; exact zge_self (by omega)) hc_z⟩
      refine zq (σ := σ) hV hI rfl 2 ?_
      show K (some (.int a_z)) σ
      obtain rfl : k = i_z := by omega
      rw [ha_z]
      exact hK
    | succ r_z ihi =>
      intro i_z a_z hir ha_z
      refine zq (σ := σ) hV hI rfl 4 ?_
      show ((σ.1 30 18) ≤ (nI i_z) → V 40 [(0, .ref 30), (1, .int s), (2, .int a_z), (3, .int (nI i_z))] [] σ) ∧ (¬ (σ.1 30 18) ≤ (nI i_z) → V 12 [(0, .ref 30), (1, .int s), (2, .int a_z), (3, .int (nI i_z))] [] σ)
      refine ⟨fun hc_z => absurd hc_z (show ¬ (σ.1 30 18) ≤ nI i_z by rw [hs]; exact nI_ge (by omega) (by omega)), fun _ => ?_⟩
      refine zq (σ := σ) hV hI rfl 8 ?_
      show (¬ ((s >>> ((nI i_z) &&& 31)) &&& 1) = 1 → V 31 [(0, .ref 30), (1, .int s), (2, .int a_z), (3, .int (nI i_z))] [.int a_z] σ) ∧ (¬ (¬ ((s >>> ((nI i_z) &&& 31)) &&& 1) = 1) → V 22 [(0, .ref 30), (1, .int s), (2, .int a_z), (3, .int (nI i_z))] [.int a_z] σ)
      refine ⟨fun h_19 => ?_, fun h_19 => ?_⟩
      · skip
        refine zq (σ := σ) hV hI rfl 5 ?_
        show V 4 [(3, .int ((nI i_z) + 1)), (2, .int (a_z + 0)), (0, .ref 30), (1, .int s)] [] σ
        refine zwk hV [2, 3, 1, 0] rfl ?_
        rw [nI_1]
        refine ihi (i_z + 1) _ (by omega) ?_
        rw [ha_z, Int32.add_zero]; exact (if_pos ((zbt01 s i_z).resolve_right h_19)).symm
      · skip
        have h_19 := Classical.not_not.mp h_19
        refine zq (σ := σ) hV hI rfl 4 ?_
        show vp_in (nI i_z) 7 ∧ V 28 [(0, .ref 30), (1, .int s), (2, .int a_z), (3, .int (nI i_z))] [.int (σ.1 42 (Int32.toNatClampNeg (nI i_z))), .int a_z] σ
        refine ⟨zix (k := i_z) rfl (by omega) (by decide), ?_⟩
        rw [zcl_k (i := (nI i_z)) (k := i_z) rfl (by omega)]
        refine zq (σ := σ) hV hI rfl 5 ?_
        show V 4 [(3, .int ((nI i_z) + 1)), (2, .int (a_z + (σ.1 42 i_z))), (0, .ref 30), (1, .int s)] [] σ
        refine zwk hV [2, 3, 1, 0] rfl ?_
        rw [nI_1]
        refine ihi (i_z + 1) _ (by omega) ?_
        rw [ha_z]; exact (if_neg (fun q_z => by rw [show zbt s i_z = 1 from h_19] at q_z; exact absurd q_z (by decide))).symm
  exact Hi k 0 0 (by omega) rfl
set_option maxRecDepth 8000 in
set_option maxHeartbeats 4000000 in
theorem cheapest_M {d : Nat} {σ : zSt} {K : Option Value → zSt → Prop} {n k : Nat} (hI : zQI (kR 30 52) σ.2.2) (hn : σ.1 30 0 = nI n) (hn10 : n ≤ 10) (hB : zHB n (σ.1 31) (σ.1 32)) (hfb : zBt 0 16 (σ.1 30 8)) (hsp : σ.1 30 18 = nI k) (hk : k ≤ 7) (hspE : ∀ j, j < k → ∃ e, σ.1 40 j = nI e ∧ e < n) (hspS : ∀ j, j < k → zBt 0 8 (σ.1 41 j)) (hspP : ∀ j, j < k → zBt 0 1000 (σ.1 42 j)) (hK : ∀ τ, zOnly zfMh σ τ → K (some (.int (zChe n (σ.1 31) (σ.1 32) (σ.1 30 8) (σ.1 40) (σ.1 41) (σ.1 42) k))) τ) : zSp (d + 4) mX9_cheapest [.ref 30] σ K := by
  refine ⟨⟨by decide, Nat.le_of_ble_eq_true rfl⟩, fun V hV => ?_⟩
  refine zq (σ := σ) hV hI rfl 8 ?_
  show V 9 [(4, .int 0), (3, .int 0), (2, .int 0), (1, .int (-1)), (0, .ref 30)] [] σ
  refine zwk hV [4, 3, 2, 1, 0] rfl ?_
  have Hi : ∀ (r_z : Nat) (i_z : Nat) (x_z y_z z_z : Int32) (ρ : zSt), i_z + r_z = 2 ^ k → zOnly zfMh σ ρ → (x_z = -1 ∨ ∃ s0_z, x_z = nI s0_z ∧ s0_z < 2 ^ k ∧ y_z = zPx (nI s0_z) (σ.1 42) k ∧ z_z = nI (zcn (nI s0_z) k)) → zCp (zSpH n (σ.1 31) (σ.1 32) (σ.1 30 8) (σ.1 40) (σ.1 41) k) (zBet (σ.1 42) k) r_z i_z x_z = (zChe n (σ.1 31) (σ.1 32) (σ.1 30 8) (σ.1 40) (σ.1 41) (σ.1 42) k) → V 9 [(0, .ref 30), (1, .int x_z), (2, .int y_z), (3, .int z_z), (4, .int (nI i_z))] [] ρ := by
    intro r_z
    induction r_z with
    | zero =>
      intro i_z x_z y_z z_z ρ hir hr hx hfin
      have hIρ := zQI_eq hI hr.2.2
      have hnρ : ρ.2.2.2 = σ.2.2.2 := congrArg Prod.snd hr.2.2
      have hsρ : ρ.1 30 18 = nI k := (hr.1 30 18 rfl).trans hsp
      refine zq (σ := ρ) hV hIρ hnρ 6 ?_
      show ((1 <<< ((ρ.1 30 18) &&& 31)) ≤ (nI i_z) → V 131 [(0, .ref 30), (1, .int x_z), (2, .int y_z), (3, .int z_z), (4, .int (nI i_z))] [] ρ) ∧ (¬ (1 <<< ((ρ.1 30 18) &&& 31)) ≤ (nI i_z) → V 20 [(0, .ref 30), (1, .int x_z), (2, .int y_z), (3, .int z_z), (4, .int (nI i_z))] [] ρ)
      refine ⟨fun _ => ?_, fun hc_z => absurd (show (1 : Int32) <<< (ρ.1 30 18 &&& 31) ≤ nI i_z by rw [hsρ, zshl hk]; exact zge_self (by omega)) hc_z⟩
      refine zq (σ := ρ) hV hIρ hnρ 2 ?_
      show K (some (.int x_z)) ρ
      replace hfin : x_z = _ := hfin
      rw [hfin]
      exact hK ρ hr
    | succ r_z ihi =>
      intro i_z x_z y_z z_z ρ hir hr hx hfin
      have hIρ := zQI_eq hI hr.2.2
      have hnρ : ρ.2.2.2 = σ.2.2.2 := congrArg Prod.snd hr.2.2
      have hsρ : ρ.1 30 18 = nI k := (hr.1 30 18 rfl).trans hsp
      refine zq (σ := ρ) hV hIρ hnρ 6 ?_
      show ((1 <<< ((ρ.1 30 18) &&& 31)) ≤ (nI i_z) → V 131 [(0, .ref 30), (1, .int x_z), (2, .int y_z), (3, .int z_z), (4, .int (nI i_z))] [] ρ) ∧ (¬ (1 <<< ((ρ.1 30 18) &&& 31)) ≤ (nI i_z) → V 20 [(0, .ref 30), (1, .int x_z), (2, .int y_z), (3, .int z_z), (4, .int (nI i_z))] [] ρ)
      refine ⟨fun hc_z => absurd hc_z (show ¬ (1 : Int32) <<< (ρ.1 30 18 &&& 31) ≤ nI i_z by rw [hsρ, zshl hk]; exact nI_ge (by omega) (by have := z2k hk; omega)), fun _ => ?_⟩
      refine zq (σ := ρ) hV hIρ hnρ 7 ?_
      show V 31 [(6, .int 0), (5, .int 0), (0, .ref 30), (1, .int x_z), (2, .int y_z), (3, .int z_z), (4, .int (nI i_z))] [] (zuI ρ 30 9 0)
      refine zwk hV [2, 3, 4, 5, 6, 1, 0] rfl ?_
      have Hj : ∀ (r_z : Nat) (j_z c_z : Nat) (τ : zSt), j_z + r_z = k → c_z = zcn (nI i_z) j_z → zOnly zfMh σ τ → τ.1 30 9 = nI (zMl (σ.1 30 8) (zcn (nI i_z) j_z)) → zTkM n (σ.1 31) (σ.1 32) (σ.1 30 8) (zLy (nI i_z) (σ.1 40) j_z) (zLy (nI i_z) (σ.1 41) j_z) (zMl (σ.1 30 8) (zcn (nI i_z) j_z)) τ → V 31 [(0, .ref 30), (1, .int x_z), (2, .int y_z), (3, .int z_z), (4, .int (nI i_z)), (5, .int (nI c_z)), (6, .int (nI j_z))] [] τ := by
        intro r_z
        induction r_z with
        | zero =>
          intro j_z c_z τ hjr hc_z ht h9 hT_z
          have hIτ := zQI_eq hI ht.2.2
          have hnτ : τ.2.2.2 = σ.2.2.2 := congrArg Prod.snd ht.2.2
          have hst : τ.1 30 18 = nI k := (ht.1 30 18 rfl).trans hsp
          have e31_z : τ.1 31 = σ.1 31 := funext fun j_z => ht.1 31 j_z rfl
          have e32 : τ.1 32 = σ.1 32 := funext fun j_z => ht.1 32 j_z rfl
          have e42_z : τ.1 42 = σ.1 42 := funext fun j_z => ht.1 42 j_z rfl
          have e8 : τ.1 30 8 = σ.1 30 8 := ht.1 30 8 rfl
          refine zq (σ := τ) hV hIτ hnτ 4 ?_
          show ((τ.1 30 18) ≤ (nI j_z) → V 78 [(0, .ref 30), (1, .int x_z), (2, .int y_z), (3, .int z_z), (4, .int (nI i_z)), (5, .int (nI c_z)), (6, .int (nI j_z))] [] τ) ∧ (¬ (τ.1 30 18) ≤ (nI j_z) → V 40 [(0, .ref 30), (1, .int x_z), (2, .int y_z), (3, .int z_z), (4, .int (nI i_z)), (5, .int (nI c_z)), (6, .int (nI j_z))] [] τ)
          refine ⟨fun _ => ?_, fun hc_z => absurd (show (τ.1 30 18) ≤ nI j_z by rw [hst]; exact zge_self (by omega)) hc_z⟩
          refine zq (σ := τ) hV hIτ hnτ 3 ?_
          show zSp _ 163 [.ref 30, .int (nI i_z)] τ (fun r_z σ' => σ'.2.2.2 = τ.2.2.2 + zAl 163 → V 84 [(0, .ref 30), (1, .int x_z), (2, .int y_z), (3, .int z_z), (4, .int (nI i_z)), (5, .int (nI c_z)), (6, .int (nI j_z))] (r_z.toList ++ []) σ')
          obtain rfl : k = j_z := by omega
          have hck := zcn_le (nI i_z) k
          have hml := @zMl_le (σ.1 30 8) (zcn (nI i_z) k) (by omega)
          refine priceOf_M hIτ hst hk (fun _ => ?_)
          rw [e42_z]
          refine zq (σ := τ) hV hIτ hnτ 4 ?_
          show (x_z = (-1) → V 109 [(6, .int (zPx (nI i_z) (σ.1 42) k)), (0, .ref 30), (1, .int x_z), (2, .int y_z), (3, .int z_z), (4, .int (nI i_z)), (5, .int (nI c_z))] [] τ) ∧ (¬ x_z = (-1) → V 91 [(6, .int (zPx (nI i_z) (σ.1 42) k)), (0, .ref 30), (1, .int x_z), (2, .int y_z), (3, .int z_z), (4, .int (nI i_z)), (5, .int (nI c_z))] [] τ)
          refine ⟨fun h_88 => ?_, fun h_88 => ?_⟩
          · skip
            refine zq (σ := τ) hV hIτ hnτ 2 ?_
            show zSp _ 155 [.ref 30] τ (fun r_z σ' => σ'.2.2.2 = τ.2.2.2 + zAl 155 → V 113 [(6, .int (zPx (nI i_z) (σ.1 42) k)), (0, .ref 30), (1, .int x_z), (2, .int y_z), (3, .int z_z), (4, .int (nI i_z)), (5, .int (nI c_z))] (r_z.toList ++ []) σ')
            refine hold_M hIτ h9 hml (fun φ hf0 hq0 _ => ?_) (fun φ hf0 hq0 _ => ?_)
            · skip
              have hq : zHo n (σ.1 31) (σ.1 32) (σ.1 30 8) (zLy (nI i_z) (σ.1 40) k) (zLy (nI i_z) (σ.1 41) k) (zcn (nI i_z) k) := (zHold_congr hT_z).mp hq0
              have hf := ht.tr (hf0.wk zfX_M)
              have hIφ := zQI_eq hI hf.2.2
              have hnφ : φ.2.2.2 = σ.2.2.2 := congrArg Prod.snd hf.2.2
              refine zq (σ := φ) hV hIφ hnφ 1 ?_
              show ((1 : Int32) = 0 → V 125 [(6, .int (zPx (nI i_z) (σ.1 42) k)), (0, .ref 30), (1, .int x_z), (2, .int y_z), (3, .int z_z), (4, .int (nI i_z)), (5, .int (nI c_z))] [] φ) ∧ (¬ (1 : Int32) = 0 → V 116 [(6, .int (zPx (nI i_z) (σ.1 42) k)), (0, .ref 30), (1, .int x_z), (2, .int y_z), (3, .int z_z), (4, .int (nI i_z)), (5, .int (nI c_z))] [] φ)
              refine ⟨fun hc_z => absurd hc_z (by decide), fun _ => ?_⟩
              refine zq (σ := φ) hV hIφ hnφ 8 ?_
              show V 9 [(4, .int ((nI i_z) + 1)), (3, .int (nI c_z)), (2, .int (zPx (nI i_z) (σ.1 42) k)), (1, .int (nI i_z)), (6, .int (zPx (nI i_z) (σ.1 42) k)), (0, .ref 30), (5, .int (nI c_z))] [] φ
              refine zwk hV [5, 3, 2, 1, 0] rfl ?_
              have hi2 : i_z < 2 ^ k := by omega
              have hC : x_z = -1 ∨ zBet (σ.1 42) k (nI i_z) x_z = true := Or.inl h_88
              rw [nI_1]
              refine ihi (i_z + 1) (nI i_z) _ _ φ (by omega) hf (Or.inr ⟨i_z, rfl, hi2, rfl, by rw [hc_z]⟩) ?_
              rw [← hfin]
              show zCp (zSpH n (σ.1 31) (σ.1 32) (σ.1 30 8) (σ.1 40) (σ.1 41) k) _ r_z (i_z + 1) _ = zCp (zSpH n (σ.1 31) (σ.1 32) (σ.1 30 8) (σ.1 40) (σ.1 41) k) _ r_z (i_z + 1) (if (x_z = -1 ∨ zBet (σ.1 42) k (nI i_z) x_z = true) ∧ (zSpH n (σ.1 31) (σ.1 32) (σ.1 30 8) (σ.1 40) (σ.1 41) k) (nI i_z) = true then nI i_z else x_z)
              rw [if_pos ⟨hC, zDc_t hq⟩]
            · skip
              have hq : ¬ zHo n (σ.1 31) (σ.1 32) (σ.1 30 8) (zLy (nI i_z) (σ.1 40) k) (zLy (nI i_z) (σ.1 41) k) (zcn (nI i_z) k) := fun x_z => hq0 ((zHold_congr hT_z).mpr x_z)
              have hf := ht.tr (hf0.wk zfX_M)
              have hIφ := zQI_eq hI hf.2.2
              have hnφ : φ.2.2.2 = σ.2.2.2 := congrArg Prod.snd hf.2.2
              refine zq (σ := φ) hV hIφ hnφ 1 ?_
              show ((0 : Int32) = 0 → V 125 [(6, .int (zPx (nI i_z) (σ.1 42) k)), (0, .ref 30), (1, .int x_z), (2, .int y_z), (3, .int z_z), (4, .int (nI i_z)), (5, .int (nI c_z))] [] φ) ∧ (¬ (0 : Int32) = 0 → V 116 [(6, .int (zPx (nI i_z) (σ.1 42) k)), (0, .ref 30), (1, .int x_z), (2, .int y_z), (3, .int z_z), (4, .int (nI i_z)), (5, .int (nI c_z))] [] φ)
              refine ⟨fun _ => ?_, fun hc_z => absurd (by decide) hc_z⟩
              refine zq (σ := φ) hV hIφ hnφ 2 ?_
              show V 9 [(4, .int ((nI i_z) + 1)), (6, .int (zPx (nI i_z) (σ.1 42) k)), (0, .ref 30), (1, .int x_z), (2, .int y_z), (3, .int z_z), (5, .int (nI c_z))] [] φ
              refine zwk hV [2, 3, 4, 5, 0] rfl ?_
              have hi2 : i_z < 2 ^ k := by omega
              have hC : x_z = -1 ∨ zBet (σ.1 42) k (nI i_z) x_z = true := Or.inl h_88
              rw [nI_1]
              refine ihi (i_z + 1) x_z y_z z_z φ (by omega) hf hx ?_
              rw [← hfin]
              show zCp (zSpH n (σ.1 31) (σ.1 32) (σ.1 30 8) (σ.1 40) (σ.1 41) k) _ r_z (i_z + 1) _ = zCp (zSpH n (σ.1 31) (σ.1 32) (σ.1 30 8) (σ.1 40) (σ.1 41) k) _ r_z (i_z + 1) (if (x_z = -1 ∨ zBet (σ.1 42) k (nI i_z) x_z = true) ∧ (zSpH n (σ.1 31) (σ.1 32) (σ.1 30 8) (σ.1 40) (σ.1 41) k) (nI i_z) = true then nI i_z else x_z)
              rw [if_neg (fun q_z => hq (zDc_i.mp q_z.2))]
          · skip
            refine zq (σ := τ) hV hIτ hnτ 3 ?_
            show ((zPx (nI i_z) (σ.1 42) k) < y_z → V 109 [(6, .int (zPx (nI i_z) (σ.1 42) k)), (0, .ref 30), (1, .int x_z), (2, .int y_z), (3, .int z_z), (4, .int (nI i_z)), (5, .int (nI c_z))] [] τ) ∧ (¬ (zPx (nI i_z) (σ.1 42) k) < y_z → V 97 [(6, .int (zPx (nI i_z) (σ.1 42) k)), (0, .ref 30), (1, .int x_z), (2, .int y_z), (3, .int z_z), (4, .int (nI i_z)), (5, .int (nI c_z))] [] τ)
            refine ⟨fun h_94 => ?_, fun h_94 => ?_⟩
            · skip
              refine zq (σ := τ) hV hIτ hnτ 2 ?_
              show zSp _ 155 [.ref 30] τ (fun r_z σ' => σ'.2.2.2 = τ.2.2.2 + zAl 155 → V 113 [(6, .int (zPx (nI i_z) (σ.1 42) k)), (0, .ref 30), (1, .int x_z), (2, .int y_z), (3, .int z_z), (4, .int (nI i_z)), (5, .int (nI c_z))] (r_z.toList ++ []) σ')
              refine hold_M hIτ h9 hml (fun φ hf0 hq0 _ => ?_) (fun φ hf0 hq0 _ => ?_)
              · skip
                have hq : zHo n (σ.1 31) (σ.1 32) (σ.1 30 8) (zLy (nI i_z) (σ.1 40) k) (zLy (nI i_z) (σ.1 41) k) (zcn (nI i_z) k) := (zHold_congr hT_z).mp hq0
                have hf := ht.tr (hf0.wk zfX_M)
                have hIφ := zQI_eq hI hf.2.2
                have hnφ : φ.2.2.2 = σ.2.2.2 := congrArg Prod.snd hf.2.2
                refine zq (σ := φ) hV hIφ hnφ 1 ?_
                show ((1 : Int32) = 0 → V 125 [(6, .int (zPx (nI i_z) (σ.1 42) k)), (0, .ref 30), (1, .int x_z), (2, .int y_z), (3, .int z_z), (4, .int (nI i_z)), (5, .int (nI c_z))] [] φ) ∧ (¬ (1 : Int32) = 0 → V 116 [(6, .int (zPx (nI i_z) (σ.1 42) k)), (0, .ref 30), (1, .int x_z), (2, .int y_z), (3, .int z_z), (4, .int (nI i_z)), (5, .int (nI c_z))] [] φ)
                refine ⟨fun hc_z => absurd hc_z (by decide), fun _ => ?_⟩
                refine zq (σ := φ) hV hIφ hnφ 8 ?_
                show V 9 [(4, .int ((nI i_z) + 1)), (3, .int (nI c_z)), (2, .int (zPx (nI i_z) (σ.1 42) k)), (1, .int (nI i_z)), (6, .int (zPx (nI i_z) (σ.1 42) k)), (0, .ref 30), (5, .int (nI c_z))] [] φ
                refine zwk hV [5, 3, 2, 1, 0] rfl ?_
                obtain ⟨s0_z, hs0, hs2, hy, hz⟩ := hx.resolve_left h_88
                have hi2 : i_z < 2 ^ k := by omega
                have hC : x_z = -1 ∨ zBet (σ.1 42) k (nI i_z) x_z = true := Or.inr (by rw [hs0, zBet_M hk hspP hi2 hs2, ← hy, ← hz]; exact decide_eq_true (Or.inl h_94))
                rw [nI_1]
                refine ihi (i_z + 1) (nI i_z) _ _ φ (by omega) hf (Or.inr ⟨i_z, rfl, hi2, rfl, by rw [hc_z]⟩) ?_
                rw [← hfin]
                show zCp (zSpH n (σ.1 31) (σ.1 32) (σ.1 30 8) (σ.1 40) (σ.1 41) k) _ r_z (i_z + 1) _ = zCp (zSpH n (σ.1 31) (σ.1 32) (σ.1 30 8) (σ.1 40) (σ.1 41) k) _ r_z (i_z + 1) (if (x_z = -1 ∨ zBet (σ.1 42) k (nI i_z) x_z = true) ∧ (zSpH n (σ.1 31) (σ.1 32) (σ.1 30 8) (σ.1 40) (σ.1 41) k) (nI i_z) = true then nI i_z else x_z)
                rw [if_pos ⟨hC, zDc_t hq⟩]
              · skip
                have hq : ¬ zHo n (σ.1 31) (σ.1 32) (σ.1 30 8) (zLy (nI i_z) (σ.1 40) k) (zLy (nI i_z) (σ.1 41) k) (zcn (nI i_z) k) := fun x_z => hq0 ((zHold_congr hT_z).mpr x_z)
                have hf := ht.tr (hf0.wk zfX_M)
                have hIφ := zQI_eq hI hf.2.2
                have hnφ : φ.2.2.2 = σ.2.2.2 := congrArg Prod.snd hf.2.2
                refine zq (σ := φ) hV hIφ hnφ 1 ?_
                show ((0 : Int32) = 0 → V 125 [(6, .int (zPx (nI i_z) (σ.1 42) k)), (0, .ref 30), (1, .int x_z), (2, .int y_z), (3, .int z_z), (4, .int (nI i_z)), (5, .int (nI c_z))] [] φ) ∧ (¬ (0 : Int32) = 0 → V 116 [(6, .int (zPx (nI i_z) (σ.1 42) k)), (0, .ref 30), (1, .int x_z), (2, .int y_z), (3, .int z_z), (4, .int (nI i_z)), (5, .int (nI c_z))] [] φ)
                refine ⟨fun _ => ?_, fun hc_z => absurd (by decide) hc_z⟩
                refine zq (σ := φ) hV hIφ hnφ 2 ?_
                show V 9 [(4, .int ((nI i_z) + 1)), (6, .int (zPx (nI i_z) (σ.1 42) k)), (0, .ref 30), (1, .int x_z), (2, .int y_z), (3, .int z_z), (5, .int (nI c_z))] [] φ
                refine zwk hV [2, 3, 4, 5, 0] rfl ?_
                obtain ⟨s0_z, hs0, hs2, hy, hz⟩ := hx.resolve_left h_88
                have hi2 : i_z < 2 ^ k := by omega
                have hC : x_z = -1 ∨ zBet (σ.1 42) k (nI i_z) x_z = true := Or.inr (by rw [hs0, zBet_M hk hspP hi2 hs2, ← hy, ← hz]; exact decide_eq_true (Or.inl h_94))
                rw [nI_1]
                refine ihi (i_z + 1) x_z y_z z_z φ (by omega) hf hx ?_
                rw [← hfin]
                show zCp (zSpH n (σ.1 31) (σ.1 32) (σ.1 30 8) (σ.1 40) (σ.1 41) k) _ r_z (i_z + 1) _ = zCp (zSpH n (σ.1 31) (σ.1 32) (σ.1 30 8) (σ.1 40) (σ.1 41) k) _ r_z (i_z + 1) (if (x_z = -1 ∨ zBet (σ.1 42) k (nI i_z) x_z = true) ∧ (zSpH n (σ.1 31) (σ.1 32) (σ.1 30 8) (σ.1 40) (σ.1 41) k) (nI i_z) = true then nI i_z else x_z)
                rw [if_neg (fun q_z => hq (zDc_i.mp q_z.2))]
            · skip
              refine zq (σ := τ) hV hIτ hnτ 3 ?_
              show (¬ (zPx (nI i_z) (σ.1 42) k) = y_z → V 125 [(6, .int (zPx (nI i_z) (σ.1 42) k)), (0, .ref 30), (1, .int x_z), (2, .int y_z), (3, .int z_z), (4, .int (nI i_z)), (5, .int (nI c_z))] [] τ) ∧ (¬ (¬ (zPx (nI i_z) (σ.1 42) k) = y_z) → V 103 [(6, .int (zPx (nI i_z) (σ.1 42) k)), (0, .ref 30), (1, .int x_z), (2, .int y_z), (3, .int z_z), (4, .int (nI i_z)), (5, .int (nI c_z))] [] τ)
              refine ⟨fun h_100 => ?_, fun h_100 => ?_⟩
              · skip
                refine zq (σ := τ) hV hIτ hnτ 2 ?_
                show V 9 [(4, .int ((nI i_z) + 1)), (6, .int (zPx (nI i_z) (σ.1 42) k)), (0, .ref 30), (1, .int x_z), (2, .int y_z), (3, .int z_z), (5, .int (nI c_z))] [] τ
                refine zwk hV [2, 3, 4, 5, 0] rfl ?_
                obtain ⟨s0_z, hs0, hs2, hy, hz⟩ := hx.resolve_left h_88
                have hi2 : i_z < 2 ^ k := by omega
                have hC : ¬ (x_z = -1 ∨ zBet (σ.1 42) k (nI i_z) x_z = true) := fun q_z => q_z.elim h_88 (fun q_z => by
                  rw [hs0, zBet_M hk hspP hi2 hs2, ← hy, ← hz] at q_z
                  have q2_z := of_decide_eq_true q_z
                  exact q2_z.elim h_94 (fun q3_z => h_100 q3_z.1))
                rw [nI_1]
                refine ihi (i_z + 1) x_z y_z z_z τ (by omega) ht hx ?_
                rw [← hfin]
                show zCp (zSpH n (σ.1 31) (σ.1 32) (σ.1 30 8) (σ.1 40) (σ.1 41) k) _ r_z (i_z + 1) _ = zCp (zSpH n (σ.1 31) (σ.1 32) (σ.1 30 8) (σ.1 40) (σ.1 41) k) _ r_z (i_z + 1) (if (x_z = -1 ∨ zBet (σ.1 42) k (nI i_z) x_z = true) ∧ (zSpH n (σ.1 31) (σ.1 32) (σ.1 30 8) (σ.1 40) (σ.1 41) k) (nI i_z) = true then nI i_z else x_z)
                rw [if_neg (fun q_z => hC q_z.1)]
              · skip
                have h_100 := Classical.not_not.mp h_100
                refine zq (σ := τ) hV hIτ hnτ 3 ?_
                show (z_z ≤ (nI c_z) → V 125 [(6, .int (zPx (nI i_z) (σ.1 42) k)), (0, .ref 30), (1, .int x_z), (2, .int y_z), (3, .int z_z), (4, .int (nI i_z)), (5, .int (nI c_z))] [] τ) ∧ (¬ z_z ≤ (nI c_z) → V 109 [(6, .int (zPx (nI i_z) (σ.1 42) k)), (0, .ref 30), (1, .int x_z), (2, .int y_z), (3, .int z_z), (4, .int (nI i_z)), (5, .int (nI c_z))] [] τ)
                refine ⟨fun h_106 => ?_, fun h_106 => ?_⟩
                · skip
                  refine zq (σ := τ) hV hIτ hnτ 2 ?_
                  show V 9 [(4, .int ((nI i_z) + 1)), (6, .int (zPx (nI i_z) (σ.1 42) k)), (0, .ref 30), (1, .int x_z), (2, .int y_z), (3, .int z_z), (5, .int (nI c_z))] [] τ
                  refine zwk hV [2, 3, 4, 5, 0] rfl ?_
                  obtain ⟨s0_z, hs0, hs2, hy, hz⟩ := hx.resolve_left h_88
                  have hi2 : i_z < 2 ^ k := by omega
                  have hC : ¬ (x_z = -1 ∨ zBet (σ.1 42) k (nI i_z) x_z = true) := fun q_z => q_z.elim h_88 (fun q_z => by
                    rw [hs0, zBet_M hk hspP hi2 hs2, ← hy, ← hz] at q_z
                    have q2_z := of_decide_eq_true q_z
                    rw [← hc_z] at q2_z
                    exact q2_z.elim h_94 (fun q3_z => Int32.not_le.mpr q3_z.2 h_106))
                  rw [nI_1]
                  refine ihi (i_z + 1) x_z y_z z_z τ (by omega) ht hx ?_
                  rw [← hfin]
                  show zCp (zSpH n (σ.1 31) (σ.1 32) (σ.1 30 8) (σ.1 40) (σ.1 41) k) _ r_z (i_z + 1) _ = zCp (zSpH n (σ.1 31) (σ.1 32) (σ.1 30 8) (σ.1 40) (σ.1 41) k) _ r_z (i_z + 1) (if (x_z = -1 ∨ zBet (σ.1 42) k (nI i_z) x_z = true) ∧ (zSpH n (σ.1 31) (σ.1 32) (σ.1 30 8) (σ.1 40) (σ.1 41) k) (nI i_z) = true then nI i_z else x_z)
                  rw [if_neg (fun q_z => hC q_z.1)]
                · skip
                  refine zq (σ := τ) hV hIτ hnτ 2 ?_
                  show zSp _ 155 [.ref 30] τ (fun r_z σ' => σ'.2.2.2 = τ.2.2.2 + zAl 155 → V 113 [(6, .int (zPx (nI i_z) (σ.1 42) k)), (0, .ref 30), (1, .int x_z), (2, .int y_z), (3, .int z_z), (4, .int (nI i_z)), (5, .int (nI c_z))] (r_z.toList ++ []) σ')
                  refine hold_M hIτ h9 hml (fun φ hf0 hq0 _ => ?_) (fun φ hf0 hq0 _ => ?_)
                  · skip
                    have hq : zHo n (σ.1 31) (σ.1 32) (σ.1 30 8) (zLy (nI i_z) (σ.1 40) k) (zLy (nI i_z) (σ.1 41) k) (zcn (nI i_z) k) := (zHold_congr hT_z).mp hq0
                    have hf := ht.tr (hf0.wk zfX_M)
                    have hIφ := zQI_eq hI hf.2.2
                    have hnφ : φ.2.2.2 = σ.2.2.2 := congrArg Prod.snd hf.2.2
                    refine zq (σ := φ) hV hIφ hnφ 1 ?_
                    show ((1 : Int32) = 0 → V 125 [(6, .int (zPx (nI i_z) (σ.1 42) k)), (0, .ref 30), (1, .int x_z), (2, .int y_z), (3, .int z_z), (4, .int (nI i_z)), (5, .int (nI c_z))] [] φ) ∧ (¬ (1 : Int32) = 0 → V 116 [(6, .int (zPx (nI i_z) (σ.1 42) k)), (0, .ref 30), (1, .int x_z), (2, .int y_z), (3, .int z_z), (4, .int (nI i_z)), (5, .int (nI c_z))] [] φ)
                    refine ⟨fun hc_z => absurd hc_z (by decide), fun _ => ?_⟩
                    refine zq (σ := φ) hV hIφ hnφ 8 ?_
                    show V 9 [(4, .int ((nI i_z) + 1)), (3, .int (nI c_z)), (2, .int (zPx (nI i_z) (σ.1 42) k)), (1, .int (nI i_z)), (6, .int (zPx (nI i_z) (σ.1 42) k)), (0, .ref 30), (5, .int (nI c_z))] [] φ
                    refine zwk hV [5, 3, 2, 1, 0] rfl ?_
                    obtain ⟨s0_z, hs0, hs2, hy, hz⟩ := hx.resolve_left h_88
                    have hi2 : i_z < 2 ^ k := by omega
                    have hC : x_z = -1 ∨ zBet (σ.1 42) k (nI i_z) x_z = true := Or.inr (by rw [hs0, zBet_M hk hspP hi2 hs2, ← hy, ← hz]; exact decide_eq_true (Or.inr ⟨h_100, by rw [← hc_z]; exact Int32.not_le.mp h_106⟩))
                    rw [nI_1]
                    refine ihi (i_z + 1) (nI i_z) _ _ φ (by omega) hf (Or.inr ⟨i_z, rfl, hi2, rfl, by rw [hc_z]⟩) ?_
                    rw [← hfin]
                    show zCp (zSpH n (σ.1 31) (σ.1 32) (σ.1 30 8) (σ.1 40) (σ.1 41) k) _ r_z (i_z + 1) _ = zCp (zSpH n (σ.1 31) (σ.1 32) (σ.1 30 8) (σ.1 40) (σ.1 41) k) _ r_z (i_z + 1) (if (x_z = -1 ∨ zBet (σ.1 42) k (nI i_z) x_z = true) ∧ (zSpH n (σ.1 31) (σ.1 32) (σ.1 30 8) (σ.1 40) (σ.1 41) k) (nI i_z) = true then nI i_z else x_z)
                    rw [if_pos ⟨hC, zDc_t hq⟩]
                  · skip
                    have hq : ¬ zHo n (σ.1 31) (σ.1 32) (σ.1 30 8) (zLy (nI i_z) (σ.1 40) k) (zLy (nI i_z) (σ.1 41) k) (zcn (nI i_z) k) := fun x_z => hq0 ((zHold_congr hT_z).mpr x_z)
                    have hf := ht.tr (hf0.wk zfX_M)
                    have hIφ := zQI_eq hI hf.2.2
                    have hnφ : φ.2.2.2 = σ.2.2.2 := congrArg Prod.snd hf.2.2
                    refine zq (σ := φ) hV hIφ hnφ 1 ?_
                    show ((0 : Int32) = 0 → V 125 [(6, .int (zPx (nI i_z) (σ.1 42) k)), (0, .ref 30), (1, .int x_z), (2, .int y_z), (3, .int z_z), (4, .int (nI i_z)), (5, .int (nI c_z))] [] φ) ∧ (¬ (0 : Int32) = 0 → V 116 [(6, .int (zPx (nI i_z) (σ.1 42) k)), (0, .ref 30), (1, .int x_z), (2, .int y_z), (3, .int z_z), (4, .int (nI i_z)), (5, .int (nI c_z))] [] φ)
                    refine ⟨fun _ => ?_, fun hc_z => absurd (by decide) hc_z⟩
                    refine zq (σ := φ) hV hIφ hnφ 2 ?_
                    show V 9 [(4, .int ((nI i_z) + 1)), (6, .int (zPx (nI i_z) (σ.1 42) k)), (0, .ref 30), (1, .int x_z), (2, .int y_z), (3, .int z_z), (5, .int (nI c_z))] [] φ
                    refine zwk hV [2, 3, 4, 5, 0] rfl ?_
                    obtain ⟨s0_z, hs0, hs2, hy, hz⟩ := hx.resolve_left h_88
                    have hi2 : i_z < 2 ^ k := by omega
                    have hC : x_z = -1 ∨ zBet (σ.1 42) k (nI i_z) x_z = true := Or.inr (by rw [hs0, zBet_M hk hspP hi2 hs2, ← hy, ← hz]; exact decide_eq_true (Or.inr ⟨h_100, by rw [← hc_z]; exact Int32.not_le.mp h_106⟩))
                    rw [nI_1]
                    refine ihi (i_z + 1) x_z y_z z_z φ (by omega) hf hx ?_
                    rw [← hfin]
                    show zCp (zSpH n (σ.1 31) (σ.1 32) (σ.1 30 8) (σ.1 40) (σ.1 41) k) _ r_z (i_z + 1) _ = zCp (zSpH n (σ.1 31) (σ.1 32) (σ.1 30 8) (σ.1 40) (σ.1 41) k) _ r_z (i_z + 1) (if (x_z = -1 ∨ zBet (σ.1 42) k (nI i_z) x_z = true) ∧ (zSpH n (σ.1 31) (σ.1 32) (σ.1 30 8) (σ.1 40) (σ.1 41) k) (nI i_z) = true then nI i_z else x_z)
                    rw [if_neg (fun q_z => hq (zDc_i.mp q_z.2))]
        | succ r_z ihj =>
          intro j_z c_z τ hjr hc_z ht h9 hT_z
          have hIτ := zQI_eq hI ht.2.2
          have hnτ : τ.2.2.2 = σ.2.2.2 := congrArg Prod.snd ht.2.2
          have hst : τ.1 30 18 = nI k := (ht.1 30 18 rfl).trans hsp
          have e31_z : τ.1 31 = σ.1 31 := funext fun j_z => ht.1 31 j_z rfl
          have e32 : τ.1 32 = σ.1 32 := funext fun j_z => ht.1 32 j_z rfl
          have e42_z : τ.1 42 = σ.1 42 := funext fun j_z => ht.1 42 j_z rfl
          have e8 : τ.1 30 8 = σ.1 30 8 := ht.1 30 8 rfl
          have hjk : j_z < k := by omega
          obtain ⟨e_z, he0, hen⟩ := hspE j_z hjk
          have he : τ.1 40 j_z = nI e_z := (ht.1 40 j_z rfl).trans he0
          have he6 : τ.1 41 j_z = σ.1 41 j_z := ht.1 41 j_z rfl
          have hcj := zcn_le (nI i_z) j_z
          refine zq (σ := τ) hV hIτ hnτ 4 ?_
          show ((τ.1 30 18) ≤ (nI j_z) → V 78 [(0, .ref 30), (1, .int x_z), (2, .int y_z), (3, .int z_z), (4, .int (nI i_z)), (5, .int (nI c_z)), (6, .int (nI j_z))] [] τ) ∧ (¬ (τ.1 30 18) ≤ (nI j_z) → V 40 [(0, .ref 30), (1, .int x_z), (2, .int y_z), (3, .int z_z), (4, .int (nI i_z)), (5, .int (nI c_z)), (6, .int (nI j_z))] [] τ)
          refine ⟨fun hc_z => absurd hc_z (show ¬ (τ.1 30 18) ≤ nI j_z by rw [hst]; exact nI_ge (by omega) (by omega)), fun _ => ?_⟩
          refine zq (σ := τ) hV hIτ hnτ 7 ?_
          show (¬ (((nI i_z) >>> ((nI j_z) &&& 31)) &&& 1) = 1 → V 72 [(0, .ref 30), (1, .int x_z), (2, .int y_z), (3, .int z_z), (4, .int (nI i_z)), (5, .int (nI c_z)), (6, .int (nI j_z))] [] τ) ∧ (¬ (¬ (((nI i_z) >>> ((nI j_z) &&& 31)) &&& 1) = 1) → V 51 [(0, .ref 30), (1, .int x_z), (2, .int y_z), (3, .int z_z), (4, .int (nI i_z)), (5, .int (nI c_z)), (6, .int (nI j_z))] [] τ)
          refine ⟨fun h_48 => ?_, fun h_48 => ?_⟩
          · skip
            refine zq (σ := τ) hV hIτ hnτ 2 ?_
            show V 31 [(6, .int ((nI j_z) + 1)), (0, .ref 30), (1, .int x_z), (2, .int y_z), (3, .int z_z), (4, .int (nI i_z)), (5, .int (nI c_z))] [] τ
            refine zwk hV [1, 2, 3, 4, 5, 6, 0] rfl ?_
            have hb0 : zbt (nI i_z) j_z = 0 := (zbt01 (nI i_z) j_z).resolve_right h_48
            have hcc : zcn (nI i_z) (j_z + 1) = zcn (nI i_z) j_z := if_pos hb0
            have hE1 : zLy (nI i_z) (σ.1 40) (j_z + 1) = zLy (nI i_z) (σ.1 40) j_z := if_pos hb0
            have hS1 : zLy (nI i_z) (σ.1 41) (j_z + 1) = zLy (nI i_z) (σ.1 41) j_z := if_pos hb0
            rw [nI_1]
            exact ihj (j_z + 1) c_z τ (by omega) (by rw [hcc, hc_z]) ht (by rw [hcc]; exact h9) (by rw [hcc, hE1, hS1]; exact hT_z)
          · skip
            have h_48 := Classical.not_not.mp h_48
            refine zq (σ := τ) hV hIτ hnτ 5 ?_
            show vp_in (nI j_z) 7 ∧ V 59 [(0, .ref 30), (1, .int x_z), (2, .int y_z), (3, .int z_z), (4, .int (nI i_z)), (5, .int (nI c_z)), (6, .int (nI j_z))] [.int (τ.1 40 (Int32.toNatClampNeg (nI j_z))), .ref 30] τ
            refine ⟨zix (k := j_z) rfl (by omega) (by decide), ?_⟩
            rw [zcl_k (i := (nI j_z)) (k := j_z) rfl (by omega)]
            refine zq (σ := τ) hV hIτ hnτ 4 ?_
            show vp_in (nI j_z) 7 ∧ V 66 [(0, .ref 30), (1, .int x_z), (2, .int y_z), (3, .int z_z), (4, .int (nI i_z)), (5, .int (nI c_z)), (6, .int (nI j_z))] [.int (τ.1 41 (Int32.toNatClampNeg (nI j_z))), .int (τ.1 40 j_z), .ref 30] τ
            refine ⟨zix (k := j_z) rfl (by omega) (by decide), ?_⟩
            rw [zcl_k (i := (nI j_z)) (k := j_z) rfl (by omega)]
            refine zq (σ := τ) hV hIτ hnτ 1 ?_
            show zSp _ 151 [.ref 30, .int (τ.1 40 j_z), .int (τ.1 41 j_z)] τ (fun r_z σ' => σ'.2.2.2 = τ.2.2.2 + zAl 151 → V 69 [(0, .ref 30), (1, .int x_z), (2, .int y_z), (3, .int z_z), (4, .int (nI i_z)), (5, .int (nI c_z)), (6, .int (nI j_z))] (r_z.toList ++ []) σ')
            have hb1 : ¬ zbt (nI i_z) j_z = 0 := fun q_z => by rw [show zbt (nI i_z) j_z = 1 from h_48] at q_z; exact absurd q_z (by decide)
            have hE1 : zLy (nI i_z) (σ.1 40) (j_z + 1) = upd (zLy (nI i_z) (σ.1 40) j_z) (zcn (nI i_z) j_z) (σ.1 40 j_z) := if_neg hb1
            have hS1 : zLy (nI i_z) (σ.1 41) (j_z + 1) = upd (zLy (nI i_z) (σ.1 41) j_z) (zcn (nI i_z) j_z) (σ.1 41 j_z) := if_neg hb1
            have hEi : zLy (nI i_z) (σ.1 40) (j_z + 1) (zcn (nI i_z) j_z) = nI e_z := by rw [hE1, pk_us]; exact he0
            have hSi : zLy (nI i_z) (σ.1 41) (j_z + 1) (zcn (nI i_z) j_z) = σ.1 41 j_z := by rw [hS1, pk_us]
            have hT2 := zTkM_congr (E' := zLy (nI i_z) (σ.1 40) (j_z + 1)) (S' := zLy (nI i_z) (σ.1 41) (j_z + 1)) (fun q_z hq => by rw [hE1, hS1, pk_un (by omega), pk_un (by omega)]; exact ⟨rfl, rfl⟩) hT_z
            rw [he, he6, ← hSi]
            refine lays_M (n := n) (i := zcn (nI i_z) j_z) (E := zLy (nI i_z) (σ.1 40) (j_z + 1)) (S := zLy (nI i_z) (σ.1 41) (j_z + 1)) (X := σ.1 31) (Y := σ.1 32) (f := σ.1 30 8) hIτ ((ht.1 30 0 rfl).trans hn) hn10 e31_z e32 e8 hB hfb hEi hen (by rw [hSi]; exact hspS j_z hjk) (by omega) h9 hT2 (fun υ hu h9u hTu _ => ?_)
            have hu2 := ht.tr (hu.wk zfLy_M)
            have hcc : zcn (nI i_z) (j_z + 1) = zcn (nI i_z) j_z + 1 := if_neg hb1
            have hIυ := zQI_eq hI hu2.2.2
            have hnυ : υ.2.2.2 = σ.2.2.2 := congrArg Prod.snd hu2.2.2
            refine zq (σ := υ) hV hIυ hnυ 3 ?_
            show V 31 [(6, .int ((nI j_z) + 1)), (5, .int ((nI c_z) + 1)), (0, .ref 30), (1, .int x_z), (2, .int y_z), (3, .int z_z), (4, .int (nI i_z))] [] υ
            refine zwk hV [2, 3, 4, 5, 6, 1, 0] rfl ?_
            rw [nI_1, nI_1]
            exact ihj (j_z + 1) (c_z + 1) υ (by omega) (by rw [hcc, hc_z]) hu2 (by rw [hcc]; exact h9u) (by rw [hcc]; exact hTu)
      refine Hj k 0 0 _ (by omega) rfl (hr.uI rfl) ?_ (fun t_z q_z => absurd q_z (by unfold zMl zcn; split <;> omega))
      show nI 0 = _
      unfold zMl zcn; split <;> rfl
  exact Hi (2 ^ k) 0 (-1) 0 0 σ (by omega) zOnly.rf (Or.inl rfl) (zCp_0 (zDc_f (by rw [zcn_0 k (by omega)]; exact zHo_0)) (z2k hk).2)
set_option maxRecDepth 8000 in
set_option maxHeartbeats 4000000 in
theorem take_M {d : Nat} {σ : zSt} {K : Option Value → zSt → Prop} {n k : Nat} (hI : zQI (kR 30 52) σ.2.2) (hn : σ.1 30 0 = nI n) (hn10 : n ≤ 10) (hB : zHB n (σ.1 31) (σ.1 32)) (hfb : zBt 0 16 (σ.1 30 8)) (hsp : σ.1 30 18 = nI k) (hk : k ≤ 7) (hspE : ∀ j, j < k → ∃ e, σ.1 40 j = nI e ∧ e < n) (hspS : ∀ j, j < k → zBt 0 8 (σ.1 41 j)) (hspP : ∀ j, j < k → zBt 0 1000 (σ.1 42 j)) (hNo : ∀ τ, zOnly zfMh σ τ → (zChe n (σ.1 31) (σ.1 32) (σ.1 30 8) (σ.1 40) (σ.1 41) (σ.1 42) k) = -1 → K (some (.int (-3))) τ)
    (hOk : ∀ τ υ be, zOnly zfMh σ τ → be = (zChe n (σ.1 31) (σ.1 32) (σ.1 30 8) (σ.1 40) (σ.1 41) (σ.1 42) k) → ¬ be = -1 → zOnly (zfTk (zcn be k)) τ υ → υ.1 30 5 = nI (zcn be k) → (∀ q, q < zcn be k → υ.1 35 q = zLy be (σ.1 40) k q ∧ υ.1 36 q = zLy be (σ.1 41) k q) → K (some (.int (zPx be (σ.1 42) k))) υ) : zSp (d + 5) mX9_take [.ref 30] σ K := by
  refine ⟨⟨by decide, Nat.le_of_ble_eq_true rfl⟩, fun V hV => ?_⟩
  refine zq (σ := σ) hV hI rfl 2 ?_
  show zSp _ 164 [.ref 30] σ (fun r_z σ' => σ'.2.2.2 = σ.2.2.2 + zAl 164 → V 4 [(0, .ref 30)] (r_z.toList ++ []) σ')
  refine cheapest_M hI hn hn10 hB hfb hsp hk hspE hspS hspP (fun τ ht _ => ?_)
  have hIτ := zQI_eq hI ht.2.2
  have hnτ : τ.2.2.2 = σ.2.2.2 := congrArg Prod.snd ht.2.2
  generalize hbe : (zChe n (σ.1 31) (σ.1 32) (σ.1 30 8) (σ.1 40) (σ.1 41) (σ.1 42) k) = be
  refine zq (σ := τ) hV hIτ hnτ 4 ?_
  show (¬ be = (-1) → V 13 [(1, .int be), (0, .ref 30)] [] τ) ∧ (¬ (¬ be = (-1)) → V 10 [(1, .int be), (0, .ref 30)] [] τ)
  refine ⟨fun h_7 => ?_, fun h_7 => ?_⟩
  · skip
    refine zq (σ := τ) hV hIτ hnτ 5 ?_
    show V 20 [(2, .int 0), (1, .int be), (0, .ref 30)] [] (zuI τ 30 5 0)
    refine zwk hV [2, 1, 0] rfl ?_
    have Hi : ∀ (r_z : Nat) (i_z : Nat) (υ : zSt), i_z + r_z = k → zOnly (zfTk (zcn be k)) τ υ → υ.1 30 5 = nI (zcn be i_z) → (∀ q_z, q_z < zcn be i_z → υ.1 35 q_z = zLy be (σ.1 40) i_z q_z ∧ υ.1 36 q_z = zLy be (σ.1 41) i_z q_z) → V 20 [(0, .ref 30), (1, .int be), (2, .int (nI i_z))] [] υ := by
      intro r_z
      induction r_z with
      | zero =>
        intro i_z υ hir hu h5 hES
        have huσ : υ.2.2 = σ.2.2 := hu.2.2.trans ht.2.2
        have hIυ := zQI_eq hI huσ
        have hnυ : υ.2.2.2 = σ.2.2.2 := congrArg Prod.snd huσ
        have hsυ : υ.1 30 18 = nI k := (hu.1 30 18 (by unfold zfTk; simp; rfl)).trans ((ht.1 30 18 rfl).trans hsp)
        have u42 : υ.1 42 = σ.1 42 := funext fun j_z => (hu.1 42 j_z (by unfold zfTk; simp)).trans (ht.1 42 j_z rfl)
        refine zq (σ := υ) hV hIυ hnυ 4 ?_
        show ((υ.1 30 18) ≤ (nI i_z) → V 83 [(0, .ref 30), (1, .int be), (2, .int (nI i_z))] [] υ) ∧ (¬ (υ.1 30 18) ≤ (nI i_z) → V 28 [(0, .ref 30), (1, .int be), (2, .int (nI i_z))] [] υ)
        refine ⟨fun _ => ?_, fun hc_z => absurd (show (υ.1 30 18) ≤ nI i_z by rw [hsυ]; exact zge_self (by omega)) hc_z⟩
        refine zq (σ := υ) hV hIυ hnυ 3 ?_
        show zSp _ 163 [.ref 30, .int be] υ (fun r_z σ' => σ'.2.2.2 = υ.2.2.2 + zAl 163 → V 88 [(0, .ref 30), (1, .int be), (2, .int (nI i_z))] (r_z.toList ++ []) σ')
        obtain rfl : k = i_z := by omega
        refine priceOf_M hIυ hsυ hk (fun _ => ?_)
        rw [u42]
        refine zq (σ := υ) hV hIυ hnυ 1 ?_
        show K (some (.int (zPx be (σ.1 42) k))) υ
        exact hOk τ υ be ht hbe.symm h_7 hu h5 hES
      | succ r_z ihi =>
        intro i_z υ hir hu h5 hES
        have huσ : υ.2.2 = σ.2.2 := hu.2.2.trans ht.2.2
        have hIυ := zQI_eq hI huσ
        have hnυ : υ.2.2.2 = σ.2.2.2 := congrArg Prod.snd huσ
        have hsυ : υ.1 30 18 = nI k := (hu.1 30 18 (by unfold zfTk; simp; rfl)).trans ((ht.1 30 18 rfl).trans hsp)
        have u42 : υ.1 42 = σ.1 42 := funext fun j_z => (hu.1 42 j_z (by unfold zfTk; simp)).trans (ht.1 42 j_z rfl)
        have f1_z : υ.1 40 i_z = σ.1 40 i_z := (hu.1 40 i_z (by unfold zfTk; simp)).trans (ht.1 40 i_z rfl)
        have f2_z : υ.1 41 i_z = σ.1 41 i_z := (hu.1 41 i_z (by unfold zfTk; simp)).trans (ht.1 41 i_z rfl)
        have hci := zcn_le be i_z
        refine zq (σ := υ) hV hIυ hnυ 4 ?_
        show ((υ.1 30 18) ≤ (nI i_z) → V 83 [(0, .ref 30), (1, .int be), (2, .int (nI i_z))] [] υ) ∧ (¬ (υ.1 30 18) ≤ (nI i_z) → V 28 [(0, .ref 30), (1, .int be), (2, .int (nI i_z))] [] υ)
        refine ⟨fun hc_z => absurd hc_z (show ¬ (υ.1 30 18) ≤ nI i_z by rw [hsυ]; exact nI_ge (by omega) (by omega)), fun _ => ?_⟩
        refine zq (σ := υ) hV hIυ hnυ 7 ?_
        show (¬ ((be >>> ((nI i_z) &&& 31)) &&& 1) = 1 → V 77 [(0, .ref 30), (1, .int be), (2, .int (nI i_z))] [] υ) ∧ (¬ (¬ ((be >>> ((nI i_z) &&& 31)) &&& 1) = 1) → V 37 [(0, .ref 30), (1, .int be), (2, .int (nI i_z))] [] υ)
        refine ⟨fun h_34 => ?_, fun h_34 => ?_⟩
        · skip
          refine zq (σ := υ) hV hIυ hnυ 2 ?_
          show V 20 [(2, .int ((nI i_z) + 1)), (0, .ref 30), (1, .int be)] [] υ
          refine zwk hV [1, 2, 0] rfl ?_
          rw [nI_1]
          have hb0 : zbt be i_z = 0 := (zbt01 be i_z).resolve_right h_34
          have hc_z : zcn be (i_z + 1) = zcn be i_z := if_pos hb0
          refine ihi (i_z + 1) υ (by omega) hu (by rw [hc_z]; exact h5) (fun q_z hq => ?_)
          rw [hc_z] at hq
          have e1_z : zLy be (σ.1 40) (i_z + 1) = zLy be (σ.1 40) i_z := if_pos hb0
          have e2_z : zLy be (σ.1 41) (i_z + 1) = zLy be (σ.1 41) i_z := if_pos hb0
          rw [e1_z, e2_z]; exact hES q_z hq
        · skip
          have h_34 := Classical.not_not.mp h_34
          refine zq (σ := υ) hV hIυ hnυ 8 ?_
          show vp_in (nI i_z) 7 ∧ V 51 [(0, .ref 30), (1, .int be), (2, .int (nI i_z))] [.int (υ.1 40 (Int32.toNatClampNeg (nI i_z))), .int (υ.1 30 5), .ref 35] υ
          refine ⟨zix (k := i_z) rfl (by omega) (by decide), ?_⟩
          rw [zcl_k (i := (nI i_z)) (k := i_z) rfl (by omega)]
          refine zq (σ := υ) hV hIυ hnυ 1 ?_
          show vp_in (υ.1 30 5) 8 ∧ V 52 [(0, .ref 30), (1, .int be), (2, .int (nI i_z))] [] (zuI υ 35 (Int32.toNatClampNeg (υ.1 30 5)) (υ.1 40 i_z))
          refine ⟨zix (k := (zcn be i_z)) h5 (by omega) (by decide), ?_⟩
          rw [zcl_k (i := (υ.1 30 5)) (k := (zcn be i_z)) h5 (by omega)]
          refine zq (σ := (zuI υ 35 (zcn be i_z) (υ.1 40 i_z))) hV hIυ hnυ 8 ?_
          show vp_in (nI i_z) 7 ∧ V 66 [(0, .ref 30), (1, .int be), (2, .int (nI i_z))] [.int (υ.1 41 (Int32.toNatClampNeg (nI i_z))), .int (υ.1 30 5), .ref 36] (zuI υ 35 (zcn be i_z) (υ.1 40 i_z))
          refine ⟨zix (k := i_z) rfl (by omega) (by decide), ?_⟩
          rw [zcl_k (i := (nI i_z)) (k := i_z) rfl (by omega)]
          refine zq (σ := (zuI υ 35 (zcn be i_z) (υ.1 40 i_z))) hV hIυ hnυ 1 ?_
          show vp_in (υ.1 30 5) 8 ∧ V 67 [(0, .ref 30), (1, .int be), (2, .int (nI i_z))] [] (zuI (zuI υ 35 (zcn be i_z) (υ.1 40 i_z)) 36 (Int32.toNatClampNeg (υ.1 30 5)) (υ.1 41 i_z))
          refine ⟨zix (k := (zcn be i_z)) h5 (by omega) (by decide), ?_⟩
          rw [zcl_k (i := (υ.1 30 5)) (k := (zcn be i_z)) h5 (by omega)]
          refine zq (σ := (zuI (zuI υ 35 (zcn be i_z) (υ.1 40 i_z)) 36 (zcn be i_z) (υ.1 41 i_z))) hV hIυ hnυ 8 ?_
          show V 20 [(2, .int ((nI i_z) + 1)), (0, .ref 30), (1, .int be)] [] (zuI (zuI (zuI υ 35 (zcn be i_z) (υ.1 40 i_z)) 36 (zcn be i_z) (υ.1 41 i_z)) 30 5 ((υ.1 30 5) + 1))
          refine zwk hV [1, 2, 0] rfl ?_
          rw [nI_1]
          have hb1 : ¬ zbt be i_z = 0 := fun q_z => by rw [show zbt be i_z = 1 from h_34] at q_z; exact absurd q_z (by decide)
          have hc_z : zcn be (i_z + 1) = zcn be i_z + 1 := if_neg hb1
          have hm2 := zcn_mono be (show i_z + 1 ≤ k by omega)
          refine ihi (i_z + 1) _ (by omega) (((hu.uI (by unfold zfTk; simp; try omega)).uI (by unfold zfTk; simp; try omega)).uI (by unfold zfTk; simp; try omega)) ?_ ?_
          · show υ.1 30 5 + 1 = _
            rw [h5, nI_1, hc_z]
          · intro q_z hq
            rw [hc_z] at hq
            have e1_z : zLy be (σ.1 40) (i_z + 1) = upd (zLy be (σ.1 40) i_z) (zcn be i_z) (σ.1 40 i_z) := if_neg hb1
            have e2_z : zLy be (σ.1 41) (i_z + 1) = upd (zLy be (σ.1 41) i_z) (zcn be i_z) (σ.1 41 i_z) := if_neg hb1
            rw [e1_z, e2_z]
            simp only [zuI_get]
            unfold upd
            by_cases e_z : q_z = zcn be i_z
            · subst e_z; simp [f1_z, f2_z]
            · have := hES q_z (by omega); simp [e_z, this]
    exact Hi k 0 _ (by omega) (zOnly.rf.uI (by unfold zfTk; simp)) rfl (fun q_z hq => absurd hq (Nat.not_lt_zero q_z))
  · skip
    have h_7 := Classical.not_not.mp h_7
    refine zq (σ := τ) hV hIτ hnτ 2 ?_
    show K (some (.int (-3))) τ
    exact hNo τ ht (hbe.trans h_7)
