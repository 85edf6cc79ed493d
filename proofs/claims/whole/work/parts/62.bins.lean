set_option maxRecDepth 8000 in
set_option maxHeartbeats 4000000 in
theorem ones_M {d : Nat} {σ : zSt} {K : Option Value → zSt → Prop} {x : Int32} (hK : K (some (.int (zOn1 x 12))) σ) : zSp (d + 1) mX9_ones [.int x] σ K := by
  refine ⟨⟨by decide, Nat.le_of_ble_eq_true rfl⟩, fun V hV => ?_⟩
  refine zq (σ := σ) hV zQI_0 rfl 4 ?_
  show V 4 [(2, .int 0), (1, .int 0), (0, .int x)] [] σ
  refine zwk hV [2, 1, 0] rfl ?_
  have Hi : ∀ (r_z : Nat) (i_z : Nat) (a_z : Int32), i_z + r_z = 12 → a_z = zOn1 x i_z → V 4 [(0, .int x), (1, .int a_z), (2, .int (nI i_z))] [] σ := by
    intro r_z
    induction r_z with
    | zero =>
      intro i_z a_z hir ha_z
      refine zq (σ := σ) hV zQI_0 rfl 3 ?_
      show (12 ≤ (nI i_z) → V 24 [(0, .int x), (1, .int a_z), (2, .int (nI i_z))] [] σ) ∧ (¬ 12 ≤ (nI i_z) → V 10 [(0, .int x), (1, .int a_z), (2, .int (nI i_z))] [] σ)
      refine ⟨fun _ => ?_, fun hc_z => absurd (show (12 : Int32) ≤ nI i_z by rw [show i_z = 12 by omega]; decide) hc_z⟩
      refine zq (σ := σ) hV zQI_0 rfl 2 ?_
      show K (some (.int a_z)) σ
      have hi12 : i_z = 12 := by omega
      rw [ha_z, hi12]
      exact hK
    | succ r_z ihi =>
      intro i_z a_z hir ha_z
      refine zq (σ := σ) hV zQI_0 rfl 3 ?_
      show (12 ≤ (nI i_z) → V 24 [(0, .int x), (1, .int a_z), (2, .int (nI i_z))] [] σ) ∧ (¬ 12 ≤ (nI i_z) → V 10 [(0, .int x), (1, .int a_z), (2, .int (nI i_z))] [] σ)
      refine ⟨fun hc_z => absurd hc_z (show ¬ nI 12 ≤ nI i_z from nI_ge (by omega) (by decide)), fun _ => ?_⟩
      refine zq (σ := σ) hV zQI_0 rfl 10 ?_
      show V 4 [(2, .int ((nI i_z) + 1)), (1, .int (a_z + ((x >>> ((nI i_z) &&& 31)) &&& 1))), (0, .int x)] [] σ
      refine zwk hV [2, 1, 0] rfl ?_
      rw [nI_1]
      exact ihi (i_z + 1) _ (by omega) (by rw [ha_z]; rfl)
  exact Hi 12 0 0 rfl rfl
set_option maxRecDepth 8000 in
set_option maxHeartbeats 4000000 in
theorem left_M {d : Nat} {σ : zSt} {K : Option Value → zSt → Prop} {s : Int32} {n S : Nat} {M : Nat → Nat} (hI : zQI (kR 30 52) σ.2.2) (hs : σ.1 30 28 = nI n) (hn : n ≤ 12) (hA : zMok (σ.1 47) M) (hse : s = nI S) (hS : S < 2 ^ n) (hK : ∀ R, zGr M S R → R < 2 ^ n → K (some (.int (nI R))) σ) : zSp (d + 1) mX9_left [.ref 30, .int s] σ K := by
  refine ⟨⟨by decide, Nat.le_of_ble_eq_true rfl⟩, fun V hV => ?_⟩
  subst hse
  refine zq (σ := σ) hV hI rfl 4 ?_
  show V 4 [(3, .int 1), (2, .int (nI S)), (0, .ref 30), (1, .int (nI S))] [] σ
  refine zwk hV [2, 3, 1, 0] rfl ?_
  have H_z : ∀ (N_z X_z : Nat), zSub X_z S → (∀ T, zSelf M T → zSub T S → zSub T X_z) → zPcn X_z n < N_z → V 4 [(0, .ref 30), (1, .int (nI S)), (2, .int (nI X_z)), (3, .int 1)] [] σ := by
    intro N_z
    induction N_z with
    | zero =>
      intro X_z _ _ h_z
      exact absurd h_z (Nat.not_lt_zero _)
    | succ N_z ih_z =>
      intro X_z hXS hXT hXN
      have hX2 := zSub_lt hXS hS
      have h12 := z2n12 hn
      refine zq (σ := σ) hV hI rfl 2 ?_
      show ((1 : Int32) = 0 → V 64 [(0, .ref 30), (1, .int (nI S)), (2, .int (nI X_z)), (3, .int 1)] [] σ) ∧ (¬ (1 : Int32) = 0 → V 8 [(0, .ref 30), (1, .int (nI S)), (2, .int (nI X_z)), (3, .int 1)] [] σ)
      refine ⟨fun hc_z => absurd hc_z (by decide), fun _ => ?_⟩
      refine zq (σ := σ) hV hI rfl 4 ?_
      show V 13 [(4, .int 0), (3, .int 0), (0, .ref 30), (1, .int (nI S)), (2, .int (nI X_z))] [] σ
      refine zwk hV [2, 3, 4, 1, 0] rfl ?_
      have Ha : ∀ (r_z : Nat) (a_z Y : Nat) (o : Bool), a_z + r_z = n → zSub Y S → (∀ T, zSelf M T → zSub T S → zSub T Y) → ((o = true ∧ zPcn Y n < zPcn X_z n) ∨ (o = false ∧ Y = X_z ∧ ∀ b2, b2 < a_z → X_z.testBit b2 = true → M b2 &&& X_z ≠ 0)) → V 13 [(0, .ref 30), (1, .int (nI S)), (2, .int (nI Y)), (3, .int (zb o)), (4, .int (nI a_z))] [] σ := by
        intro r_z
        induction r_z with
        | zero =>
          intro a_z Y o har hYS hYT hor
          have hY2 := zSub_lt hYS hS
          refine zq (σ := σ) hV hI rfl 4 ?_
          show ((σ.1 30 28) ≤ (nI a_z) → V 61 [(0, .ref 30), (1, .int (nI S)), (2, .int (nI Y)), (3, .int (zb o)), (4, .int (nI a_z))] [] σ) ∧ (¬ (σ.1 30 28) ≤ (nI a_z) → V 22 [(0, .ref 30), (1, .int (nI S)), (2, .int (nI Y)), (3, .int (zb o)), (4, .int (nI a_z))] [] σ)
          refine ⟨fun _ => ?_, fun hc_z => absurd (show (σ.1 30 28) ≤ nI a_z by rw [hs]; exact zge_self (by omega)) hc_z⟩
          refine zq (σ := σ) hV hI rfl 1 ?_
          show V 4 [(0, .ref 30), (1, .int (nI S)), (2, .int (nI Y)), (3, .int (zb o)), (4, .int (nI a_z))] [] σ
          refine zwk hV [0, 1, 2, 3] rfl ?_
          rcases hor with ⟨ho, hlt⟩ | ⟨ho, heq, hrl⟩
          · subst ho; exact ih_z Y hYS hYT (by omega)
          · subst ho
            show V 4 [(0, .ref 30), (1, .int (nI S)), (2, .int (nI Y)), (3, .int 0)] [] σ
            refine zq (σ := σ) hV hI rfl 2 ?_
            show ((0 : Int32) = 0 → V 64 [(0, .ref 30), (1, .int (nI S)), (2, .int (nI Y)), (3, .int 0)] [] σ) ∧ (¬ (0 : Int32) = 0 → V 8 [(0, .ref 30), (1, .int (nI S)), (2, .int (nI Y)), (3, .int 0)] [] σ)
            refine ⟨fun _ => ?_, fun hc_z => absurd (by decide) hc_z⟩
            refine zq (σ := σ) hV hI rfl 2 ?_
            show K (some (.int (nI Y))) σ
            refine hK Y ⟨hYS, fun b2 hb_z => ?_, fun T hs2 hT_z => hYT T hT_z hs2⟩ hY2
            rw [heq] at hb_z ⊢
            exact hrl b2 (by have := zbit_lt hX2 hb_z; omega) hb_z
        | succ r_z iha =>
          intro a_z Y o har hYS hYT hor
          have hY2 := zSub_lt hYS hS
          refine zq (σ := σ) hV hI rfl 4 ?_
          show ((σ.1 30 28) ≤ (nI a_z) → V 61 [(0, .ref 30), (1, .int (nI S)), (2, .int (nI Y)), (3, .int (zb o)), (4, .int (nI a_z))] [] σ) ∧ (¬ (σ.1 30 28) ≤ (nI a_z) → V 22 [(0, .ref 30), (1, .int (nI S)), (2, .int (nI Y)), (3, .int (zb o)), (4, .int (nI a_z))] [] σ)
          refine ⟨fun hc_z => absurd hc_z (show ¬ (σ.1 30 28) ≤ nI a_z by rw [hs]; exact nI_ge (by omega) (by omega)), fun _ => ?_⟩
          refine zq (σ := σ) hV hI rfl 7 ?_
          show (¬ (((nI Y) >>> ((nI a_z) &&& 31)) &&& 1) = 1 → V 55 [(0, .ref 30), (1, .int (nI S)), (2, .int (nI Y)), (3, .int (zb o)), (4, .int (nI a_z))] [] σ) ∧ (¬ (¬ (((nI Y) >>> ((nI a_z) &&& 31)) &&& 1) = 1) → V 32 [(0, .ref 30), (1, .int (nI S)), (2, .int (nI Y)), (3, .int (zb o)), (4, .int (nI a_z))] [] σ)
          refine ⟨fun h_29 => ?_, fun h_29 => ?_⟩
          · skip
            refine zq (σ := σ) hV hI rfl 2 ?_
            show V 13 [(4, .int ((nI a_z) + 1)), (0, .ref 30), (1, .int (nI S)), (2, .int (nI Y)), (3, .int (zb o))] [] σ
            refine zwk hV [1, 2, 3, 4, 0] rfl ?_
            rw [nI_1]
            refine iha (a_z + 1) Y o (by omega) hYS hYT (hor.imp id (fun q_z => ⟨q_z.1, q_z.2.1, fun b2 c1_z hb_z => ?_⟩))
            by_cases e_z : b2 = a_z
            · rw [e_z, ← q_z.2.1] at hb_z
              exact absurd ((zbtN1 (by omega) (by omega)).mpr hb_z) h_29
            · exact q_z.2.2 b2 (by omega) hb_z
          · skip
            have h_29 := Classical.not_not.mp h_29
            refine zq (σ := σ) hV hI rfl 4 ?_
            show vp_in (nI a_z) 12 ∧ V 39 [(0, .ref 30), (1, .int (nI S)), (2, .int (nI Y)), (3, .int (zb o)), (4, .int (nI a_z))] [.int (σ.1 47 (Int32.toNatClampNeg (nI a_z)))] σ
            refine ⟨zix (k := a_z) rfl (by omega) (by decide), ?_⟩
            rw [zcl_k (i := (nI a_z)) (k := a_z) rfl (by omega)]
            refine zq (σ := σ) hV hI rfl 3 ?_
            show (¬ ((σ.1 47 a_z) &&& (nI Y)) = 0 → V 55 [(0, .ref 30), (1, .int (nI S)), (2, .int (nI Y)), (3, .int (zb o)), (4, .int (nI a_z))] [] σ) ∧ (¬ (¬ ((σ.1 47 a_z) &&& (nI Y)) = 0) → V 44 [(0, .ref 30), (1, .int (nI S)), (2, .int (nI Y)), (3, .int (zb o)), (4, .int (nI a_z))] [] σ)
            refine ⟨fun h_41 => ?_, fun h_41 => ?_⟩
            · skip
              refine zq (σ := σ) hV hI rfl 2 ?_
              show V 13 [(4, .int ((nI a_z) + 1)), (0, .ref 30), (1, .int (nI S)), (2, .int (nI Y)), (3, .int (zb o))] [] σ
              refine zwk hV [1, 2, 3, 4, 0] rfl ?_
              rw [nI_1]
              refine iha (a_z + 1) Y o (by omega) hYS hYT (hor.imp id (fun q_z => ⟨q_z.1, q_z.2.1, fun b2 c1_z hb_z => ?_⟩))
              by_cases e_z : b2 = a_z
              · rw [e_z]
                obtain ⟨m1_z, m2_z⟩ := hA a_z (by omega)
                intro hz
                rw [m1_z, znand, q_z.2.1] at h_41
                exact h_41 ((znz (Nat.lt_of_le_of_lt Nat.and_le_left m2_z)).mpr hz)
              · exact q_z.2.2 b2 (by omega) hb_z
            · skip
              have h_41 := Classical.not_not.mp h_41
              refine zq (σ := σ) hV hI rfl 12 ?_
              show V 13 [(4, .int ((nI a_z) + 1)), (3, .int 1), (2, .int ((nI Y) &&& ((1 <<< ((nI a_z) &&& 31)) ^^^ (-1)))), (0, .ref 30), (1, .int (nI S))] [] σ
              refine zwk hV [3, 4, 2, 1, 0] rfl ?_
              rw [nI_1]
              have hbit : Y.testBit a_z = true := (zbtN1 (by omega) (by omega)).mp h_29
              obtain ⟨m1_z, m2_z⟩ := hA a_z (by omega)
              have hz : M a_z &&& Y = 0 := by rw [m1_z, znand] at h_41; exact (znz (Nat.lt_of_le_of_lt Nat.and_le_left m2_z)).mp h_41
              rw [zRv_I (show Y < 4096 by omega) (show a_z < 12 by omega)]
              have hrv : zbx M Y a_z = zRv Y a_z := if_pos hz
              obtain ⟨x1_z, x2_z, _⟩ := zbx_ok (M := M) (show Y < 4096 by omega) (show a_z < 12 by omega)
              rw [hrv] at x1_z x2_z
              have hne : zRv Y a_z ≠ Y := fun q_z => by have := zRv_bit (i := a_z) (show Y < 4096 by omega) (show a_z < 12 by omega); rw [q_z, hbit, decide_eq_false (fun y_z => y_z rfl)] at this; exact absurd this (by decide)
              have hcl := zPcn_ne x1_z hY2 hne
              refine iha (a_z + 1) (zRv Y a_z) true (by omega) (fun i_z h_z => hYS i_z (x1_z i_z h_z)) (fun T hT_z hs2 => x2_z T hT_z (hYT T hT_z hs2)) (Or.inl ⟨rfl, ?_⟩)
              rcases hor with c_z | c_z
              · have := c_z.2; omega
              · rw [c_z.2.1] at hcl; rw [c_z.2.1]; exact hcl
      exact Ha n 0 X_z false (by omega) hXS hXT (Or.inr ⟨rfl, rfl, fun b2 c1_z => absurd c1_z (Nat.not_lt_zero b2)⟩)
  exact H_z (zPcn S n + 1) S (fun i_z h_z => h_z) (fun T _ h_z => h_z) (Nat.lt_succ_self _)
set_option maxRecDepth 8000 in
set_option maxHeartbeats 4000000 in
theorem stuck_M {d : Nat} {σ : zSt} {K : Option Value → zSt → Prop} {n N : Nat} {M : Nat → Nat} (hI : zQI (kR 30 52) σ.2.2) (hs : σ.1 30 28 = nI n) (hn : n ≤ 12) (hA : zMok (σ.1 47) M) (hb : σ.1 30 29 = nI N) (hN : N < 2 ^ n) (hK : ∀ R, zGr M N R → R < 2 ^ n → K (some (.int (nI R))) σ) : zSp (d + 2) mX9_stuck [.ref 30] σ K := by
  refine ⟨⟨by decide, Nat.le_of_ble_eq_true rfl⟩, fun V hV => ?_⟩
  refine zq (σ := σ) hV hI rfl 4 ?_
  show zSp _ 182 [.ref 30, .int (σ.1 30 29)] σ (fun r_z σ' => σ'.2.2.2 = σ.2.2.2 + zAl 182 → V 8 [(0, .ref 30)] (r_z.toList ++ []) σ')
  refine left_M hI hs hn hA hb hN (fun R_z hR hR2 _ => ?_)
  refine zq (σ := σ) hV hI rfl 1 ?_
  show K (some (.int (nI R_z))) σ
  exact hK R_z hR hR2
set_option maxRecDepth 8000 in
set_option maxHeartbeats 4000000 in
theorem reach_M {d : Nat} {σ : zSt} {K : Option Value → zSt → Prop} {a : Int32} {n N : Nat} {M : Nat → Nat} (hI : zQI (kR 30 52) σ.2.2) (hs : σ.1 30 28 = nI n) (hn : n ≤ 12) (hA : zMok (σ.1 47) M) (hb : σ.1 30 29 = nI N) (hN : N < 2 ^ n) (hBad : ¬ zBt 0 (n - 1) a → K (some (.int (-2))) σ) (hNot : zBt 0 (n - 1) a → ¬ zBit (σ.1 30 29) a → K (some (.int (-3))) σ) (hNone : ∀ p R, zBt 0 (n - 1) a → zBit (σ.1 30 29) a → a = nI p → p < n → N.testBit p = true → zGr M (zur M N n n (2 ^ p)) R → R ≠ 0 → K (some (.int (-1))) σ) (hOk : ∀ p R, zBt 0 (n - 1) a → zBit (σ.1 30 29) a → a = nI p → p < n → N.testBit p = true → zGr M (zur M N n n (2 ^ p)) R → R = 0 → K (some (.int (zBc (nI (zur M N n n (2 ^ p)))))) σ) : zSp (d + 3) mX9_reach [.ref 30, .int a] σ K := by
  refine ⟨⟨by decide, Nat.le_of_ble_eq_true rfl⟩, fun V hV => ?_⟩
  refine zq (σ := σ) hV hI rfl 3 ?_
  show zSp _ 179 [.ref 30, .int a] σ (fun r_z σ' => σ'.2.2.2 = σ.2.2.2 + zAl 179 → V 5 [(0, .ref 30), (1, .int a)] (r_z.toList ++ []) σ')
  refine isDropped_M hI hs (by omega) (fun hb1 _ => ?_) (fun hb1 _ => ?_)
  · skip
    refine zq (σ := σ) hV hI rfl 1 ?_
    show (¬ (1 : Int32) = 0 → V 11 [(0, .ref 30), (1, .int a)] [] σ) ∧ (¬ (¬ (1 : Int32) = 0) → V 8 [(0, .ref 30), (1, .int a)] [] σ)
    refine ⟨fun _ => ?_, fun hc_z => absurd (by decide) hc_z⟩
    obtain ⟨p_z, hp, hp2, _⟩ := zNat (x := a) (by unfold zBt at hb1; omega)
    have hpm : p_z < n := by unfold zBt at hb1; omega
    refine zq (σ := σ) hV hI rfl 7 ?_
    show (¬ (((σ.1 30 29) >>> (a &&& 31)) &&& 1) = 0 → V 25 [(0, .ref 30), (1, .int a)] [] σ) ∧ (¬ (¬ (((σ.1 30 29) >>> (a &&& 31)) &&& 1) = 0) → V 22 [(0, .ref 30), (1, .int a)] [] σ)
    refine ⟨fun h_19 => ?_, fun h_19 => ?_⟩
    · skip
      refine zq (σ := σ) hV hI rfl 6 ?_
      show V 31 [(3, .int 0), (2, .int (1 <<< (a &&& 31))), (0, .ref 30), (1, .int a)] [] σ
      refine zwk hV [2, 3, 1, 0] rfl ?_
      have Hi : ∀ (r_z : Nat) (i_z : Nat) (x_z : Int32), i_z + r_z = n → zUr (σ.1 47) (σ.1 30 29) n r_z x_z = zAll (σ.1 47) n (σ.1 30 29) a → V 31 [(0, .ref 30), (1, .int a), (2, .int x_z), (3, .int (nI i_z))] [] σ := by
        intro r_z
        induction r_z with
        | zero =>
          intro i_z x_z hin hfin
          refine zq (σ := σ) hV hI rfl 4 ?_
          show ((σ.1 30 28) ≤ (nI i_z) → V 92 [(0, .ref 30), (1, .int a), (2, .int x_z), (3, .int (nI i_z))] [] σ) ∧ (¬ (σ.1 30 28) ≤ (nI i_z) → V 39 [(0, .ref 30), (1, .int a), (2, .int x_z), (3, .int (nI i_z))] [] σ)
          refine ⟨fun _ => ?_, fun hc_z => absurd (show (σ.1 30 28) ≤ nI i_z by rw [hs]; exact zge_self (by omega)) hc_z⟩
          refine zq (σ := σ) hV hI rfl 3 ?_
          show zSp _ 182 [.ref 30, .int x_z] σ (fun r_z σ' => σ'.2.2.2 = σ.2.2.2 + zAl 182 → V 97 [(0, .ref 30), (1, .int a), (2, .int x_z), (3, .int (nI i_z))] (r_z.toList ++ []) σ')
          have hi0_z : i_z = n := by omega
          replace hfin : x_z = _ := hfin
          have hpN : N.testBit p_z = true := by rw [hb, hp] at h_19; exact (zbtN1 (by have := z2n12 hn; omega) (by omega)).mp ((zbt01 (nI N) p_z).resolve_left h_19)
          have hxc : x_z = nI (zur M N n n (2 ^ p_z)) := by rw [hfin, hb, hp]; exact zAll_I hA hN hn (by omega)
          have hsub : zSub (2 ^ p_z) N := fun i_z h_z => by rw [Nat.testBit_two_pow] at h_z; rw [← of_decide_eq_true h_z]; exact hpN
          have hC2 := zSub_lt (zur_ok (M := M) hN n (2 ^ p_z) hsub (by omega)).2.1 hN
          refine left_M hI hs hn hA hxc hC2 (fun R_z hR hR2 _ => ?_)
          refine zq (σ := σ) hV hI rfl 1 ?_
          show ((nI R_z) = 0 → V 102 [(0, .ref 30), (1, .int a), (2, .int x_z), (3, .int (nI i_z))] [] σ) ∧ (¬ (nI R_z) = 0 → V 100 [(0, .ref 30), (1, .int a), (2, .int x_z), (3, .int (nI i_z))] [] σ)
          refine ⟨fun h_97 => ?_, fun h_97 => ?_⟩
          · skip
            refine zq (σ := σ) hV hI rfl 2 ?_
            show zSp _ 184 [.int x_z] σ (fun r_z σ' => σ'.2.2.2 = σ.2.2.2 + zAl 184 → V 106 [(0, .ref 30), (1, .int a), (2, .int x_z), (3, .int (nI i_z))] (r_z.toList ++ []) σ')
            refine ones_M  (fun _ => ?_)
            refine zq (σ := σ) hV hI rfl 1 ?_
            show K (some (.int (zOn1 x_z 12))) σ
            have h12 := z2n12 hn
            rw [hxc, ← zOn_bc (by omega)]
            exact hOk p_z R_z hb1 h_19 hp hpm hpN hR ((znz (by omega)).mp h_97)
          · skip
            refine zq (σ := σ) hV hI rfl 2 ?_
            show K (some (.int (-1))) σ
            have h12 := z2n12 hn
            exact hNone p_z R_z hb1 h_19 hp hpm hpN hR (fun q_z => h_97 ((znz (by omega)).mpr q_z))
        | succ r_z ihi =>
          intro i_z x_z hin hfin
          refine zq (σ := σ) hV hI rfl 4 ?_
          show ((σ.1 30 28) ≤ (nI i_z) → V 92 [(0, .ref 30), (1, .int a), (2, .int x_z), (3, .int (nI i_z))] [] σ) ∧ (¬ (σ.1 30 28) ≤ (nI i_z) → V 39 [(0, .ref 30), (1, .int a), (2, .int x_z), (3, .int (nI i_z))] [] σ)
          refine ⟨fun hc_z => absurd hc_z (show ¬ (σ.1 30 28) ≤ nI i_z by rw [hs]; exact nI_ge (by omega) (by omega)), fun _ => ?_⟩
          refine zq (σ := σ) hV hI rfl 2 ?_
          show V 42 [(4, .int 0), (0, .ref 30), (1, .int a), (2, .int x_z), (3, .int (nI i_z))] [] σ
          refine zwk hV [1, 2, 3, 4, 0] rfl ?_
          have Hj : ∀ (r_z : Nat) (j_z : Nat) (y_z : Int32), j_z + r_z = n → zUj (σ.1 47) (σ.1 30 29) r_z j_z y_z = zUj (σ.1 47) (σ.1 30 29) n 0 x_z → V 42 [(0, .ref 30), (1, .int a), (2, .int y_z), (3, .int (nI i_z)), (4, .int (nI j_z))] [] σ := by
            intro r_z
            induction r_z with
            | zero =>
              intro j_z y_z hjn hend
              replace hend : y_z = zUj (σ.1 47) (σ.1 30 29) n 0 x_z := hend
              refine zq (σ := σ) hV hI rfl 4 ?_
              show ((σ.1 30 28) ≤ (nI j_z) → V 86 [(0, .ref 30), (1, .int a), (2, .int y_z), (3, .int (nI i_z)), (4, .int (nI j_z))] [] σ) ∧ (¬ (σ.1 30 28) ≤ (nI j_z) → V 51 [(0, .ref 30), (1, .int a), (2, .int y_z), (3, .int (nI i_z)), (4, .int (nI j_z))] [] σ)
              refine ⟨fun _ => ?_, fun hc_z => absurd (show (σ.1 30 28) ≤ nI j_z by rw [hs]; exact zge_self (by omega)) hc_z⟩
              refine zq (σ := σ) hV hI rfl 2 ?_
              show V 31 [(3, .int ((nI i_z) + 1)), (0, .ref 30), (1, .int a), (2, .int y_z), (4, .int (nI j_z))] [] σ
              refine zwk hV [1, 2, 3, 0] rfl ?_
              rw [nI_1]
              exact ihi (i_z + 1) _ (by omega) (by rw [← hfin, hend]; rfl)
            | succ r_z ihj =>
              intro j_z y_z hjn hend
              refine zq (σ := σ) hV hI rfl 4 ?_
              show ((σ.1 30 28) ≤ (nI j_z) → V 86 [(0, .ref 30), (1, .int a), (2, .int y_z), (3, .int (nI i_z)), (4, .int (nI j_z))] [] σ) ∧ (¬ (σ.1 30 28) ≤ (nI j_z) → V 51 [(0, .ref 30), (1, .int a), (2, .int y_z), (3, .int (nI i_z)), (4, .int (nI j_z))] [] σ)
              refine ⟨fun hc_z => absurd hc_z (show ¬ (σ.1 30 28) ≤ nI j_z by rw [hs]; exact nI_ge (by omega) (by omega)), fun _ => ?_⟩
              refine zq (σ := σ) hV hI rfl 8 ?_
              show (¬ ((y_z >>> ((nI j_z) &&& 31)) &&& 1) = 1 → V 77 [(0, .ref 30), (1, .int a), (2, .int y_z), (3, .int (nI i_z)), (4, .int (nI j_z))] [.int y_z] σ) ∧ (¬ (¬ ((y_z >>> ((nI j_z) &&& 31)) &&& 1) = 1) → V 62 [(0, .ref 30), (1, .int a), (2, .int y_z), (3, .int (nI i_z)), (4, .int (nI j_z))] [.int y_z] σ)
              refine ⟨fun h_59 => ?_, fun h_59 => ?_⟩
              · skip
                refine zq (σ := σ) hV hI rfl 5 ?_
                show V 42 [(4, .int ((nI j_z) + 1)), (2, .int (y_z ||| 0)), (0, .ref 30), (1, .int a), (3, .int (nI i_z))] [] σ
                refine zwk hV [2, 3, 1, 4, 0] rfl ?_
                rw [nI_1]
                refine ihj (j_z + 1) _ (by omega) ?_
                rw [← hend]
                show zUj (σ.1 47) (σ.1 30 29) r_z (j_z + 1) _ = zUj (σ.1 47) (σ.1 30 29) r_z (j_z + 1) (zUx (σ.1 47) (σ.1 30 29) y_z j_z)
                unfold zUx
                have hz0 : (y_z >>> (nI j_z &&& 31)) &&& 1 = 0 := (zbt01 y_z j_z).resolve_right h_59
                rw [if_pos hz0, zor0]
              · skip
                have h_59 := Classical.not_not.mp h_59
                refine zq (σ := σ) hV hI rfl 4 ?_
                show vp_in (nI j_z) 12 ∧ V 69 [(0, .ref 30), (1, .int a), (2, .int y_z), (3, .int (nI i_z)), (4, .int (nI j_z))] [.int (σ.1 47 (Int32.toNatClampNeg (nI j_z))), .int y_z] σ
                refine ⟨zix (k := j_z) rfl (by omega) (by decide), ?_⟩
                rw [zcl_k (i := (nI j_z)) (k := j_z) rfl (by omega)]
                refine zq (σ := σ) hV hI rfl 8 ?_
                show V 42 [(4, .int ((nI j_z) + 1)), (2, .int (y_z ||| ((σ.1 47 j_z) &&& (σ.1 30 29)))), (0, .ref 30), (1, .int a), (3, .int (nI i_z))] [] σ
                refine zwk hV [2, 3, 1, 4, 0] rfl ?_
                rw [nI_1]
                refine ihj (j_z + 1) _ (by omega) ?_
                rw [← hend]
                show zUj (σ.1 47) (σ.1 30 29) r_z (j_z + 1) _ = zUj (σ.1 47) (σ.1 30 29) r_z (j_z + 1) (zUx (σ.1 47) (σ.1 30 29) y_z j_z)
                unfold zUx
                have hz0 : ¬ (y_z >>> (nI j_z &&& 31)) &&& 1 = 0 := fun q_z => by rw [h_59] at q_z; exact absurd q_z (by decide)
                rw [if_neg hz0]
          exact Hj n 0 _ (by omega) rfl
      exact Hi n 0 _ (by omega) rfl
    · skip
      have h_19 := Classical.not_not.mp h_19
      refine zq (σ := σ) hV hI rfl 2 ?_
      show K (some (.int (-3))) σ
      exact hNot hb1 (fun q_z => q_z h_19)
  · skip
    refine zq (σ := σ) hV hI rfl 1 ?_
    show (¬ (0 : Int32) = 0 → V 11 [(0, .ref 30), (1, .int a)] [] σ) ∧ (¬ (¬ (0 : Int32) = 0) → V 8 [(0, .ref 30), (1, .int a)] [] σ)
    refine ⟨fun hc_z => absurd hc_z (by decide), fun _ => ?_⟩
    refine zq (σ := σ) hV hI rfl 2 ?_
    show K (some (.int (-2))) σ
    exact hBad hb1
