theorem zx60 {k : Nat} : 60 * nI k = nI (k * 60) := by rw [show (60 : Int32) = nI 60 from rfl, pk_mul, Nat.mul_comm]
theorem zx60j {k j : Nat} : 60 * nI k + nI j = nI (k * 60 + j) := by rw [zx60, nI_add]
theorem zx60p {k i q : Nat} : 60 * nI k + nI i + nI q = nI (k * 60 + (i + q)) := by rw [zx60, nI_add, nI_add, Nat.add_assoc]
theorem zx60e {k i : Nat} : 60 * nI k + 2 * nI i = nI (k * 60 + 2 * i) := by rw [zx60, show (2 : Int32) = nI 2 from rfl, pk_mul, nI_add]
theorem zx60o {k i : Nat} : 60 * nI k + 2 * nI i + 1 = nI (k * 60 + (2 * i + 1)) := by rw [zx60e, nI_1, Nat.add_assoc]
def zfSt (k a j : Nat) : Bool := (Nat.beq a 48 && Nat.beq j k) || (Nat.beq a 49 && Nat.beq j k) || (Nat.beq a 50 && (Nat.ble (k * 60) j && Nat.blt j (k * 60 + 60)))
def zfCpM (lo c a j : Nat) : Bool := (Nat.beq a 50 && (Nat.ble lo j && Nat.blt j (lo + c))) || Nat.beq a 51
set_option maxRecDepth 8000 in
set_option maxHeartbeats 4000000 in
theorem sheet_M {d : Nat} {σ : zSt} {K : Option Value → zSt → Prop} {s f c : Int32} (hI : zQI (kR 30 52) σ.2.2) (hBad : ¬ (zBt 0 3 s ∧ zBt 0 2 f ∧ c.toInt ≤ 60) → K (some (.int (-2))) σ) (hSz : (zBt 0 3 s ∧ zBt 0 2 f ∧ c.toInt ≤ 60) → ¬ 0 ≤ c.toInt → K (some (.int (-10 - 5))) (zuI σ 30 35 5)) (hOk : ∀ τ k q, (zBt 0 3 s ∧ zBt 0 2 f ∧ c.toInt ≤ 60) → 0 ≤ c.toInt → s = nI k → k < 4 → c = nI q → q ≤ 60 → zOnly (zfSt k) σ τ → τ.1 48 k = f → τ.1 49 k = c → (∀ j, j < q → τ.1 50 (k * 60 + j) = 0) → K (some (.int c)) τ) : zSp (d + 3) mX9_sheet [.ref 30, .int s, .int f, .int c] σ K := by
  refine ⟨⟨by decide, Nat.le_of_ble_eq_true rfl⟩, fun V hV => ?_⟩
  refine zq (σ := σ) hV hI rfl 2 ?_
  show zSp _ 187 [.int s] σ (fun r_z σ' => σ'.2.2.2 = σ.2.2.2 + zAl 187 → V 4 [(0, .ref 30), (1, .int s), (2, .int f), (3, .int c)] (r_z.toList ++ []) σ')
  refine isSheet_M (fun hb1 _ => ?_) (fun hb1 _ => ?_)
  · skip
    refine zq (σ := σ) hV hI rfl 1 ?_
    show ((1 : Int32) = 0 → V 25 [(0, .ref 30), (1, .int s), (2, .int f), (3, .int c)] [] σ) ∧ (¬ (1 : Int32) = 0 → V 7 [(0, .ref 30), (1, .int s), (2, .int f), (3, .int c)] [] σ)
    refine ⟨fun hc_z => absurd hc_z (by decide), fun _ => ?_⟩
    refine zq (σ := σ) hV hI rfl 5 ?_
    show zSp _ 131 [.long (Int32.toInt64 f), .long 0, .long 2] σ (fun r_z σ' => σ'.2.2.2 = σ.2.2.2 + zAl 131 → V 16 [(0, .ref 30), (1, .int s), (2, .int f), (3, .int c)] (r_z.toList ++ []) σ')
    refine in_M (lo := 0) (hi := 2) (by decide) (by decide) (fun hb2 _ => ?_) (fun hb2 _ => ?_)
    · skip
      refine zq (σ := σ) hV hI rfl 1 ?_
      show ((1 : Int32) = 0 → V 25 [(0, .ref 30), (1, .int s), (2, .int f), (3, .int c)] [] σ) ∧ (¬ (1 : Int32) = 0 → V 19 [(0, .ref 30), (1, .int s), (2, .int f), (3, .int c)] [] σ)
      refine ⟨fun hc_z => absurd hc_z (by decide), fun _ => ?_⟩
      refine zq (σ := σ) hV hI rfl 3 ?_
      show (c ≤ 60 → V 28 [(0, .ref 30), (1, .int s), (2, .int f), (3, .int c)] [] σ) ∧ (¬ c ≤ 60 → V 25 [(0, .ref 30), (1, .int s), (2, .int f), (3, .int c)] [] σ)
      refine ⟨fun h_22 => ?_, fun h_22 => ?_⟩
      · skip
        refine zq (σ := σ) hV hI rfl 2 ?_
        show (0 ≤ c → V 38 [(0, .ref 30), (1, .int s), (2, .int f), (3, .int c)] [] σ) ∧ (¬ 0 ≤ c → V 32 [(0, .ref 30), (1, .int s), (2, .int f), (3, .int c)] [] σ)
        refine ⟨fun h_29 => ?_, fun h_29 => ?_⟩
        · skip
          have hs3 := hb1
          obtain ⟨k_z, hk, _, _⟩ := zNat (x := s) (by unfold zBt at hb1; omega)
          have hk4 : k_z < 4 := by unfold zBt at hb1; omega
          subst hk
          obtain ⟨q0, hq0, _, _⟩ := zNat (x := c) (by rw [zle, zT_lits.1] at h_29; exact h_29)
          have hq60 : q0 ≤ 60 := by rw [zle, show (60 : Int32).toInt = 60 from rfl] at h_22; omega
          subst hq0
          refine zq (σ := σ) hV hI rfl 5 ?_
          show vp_in (nI k_z) 4 ∧ V 45 [(0, .ref 30), (1, .int (nI k_z)), (2, .int f), (3, .int (nI q0))] [] (zuI σ 48 (Int32.toNatClampNeg (nI k_z)) f)
          refine ⟨zix (k := k_z) rfl (by omega) (by decide), ?_⟩
          rw [zcl_k (i := (nI k_z)) (k := k_z) rfl (by omega)]
          refine zq (σ := (zuI σ 48 k_z f)) hV hI rfl 5 ?_
          show vp_in (nI k_z) 4 ∧ V 52 [(0, .ref 30), (1, .int (nI k_z)), (2, .int f), (3, .int (nI q0))] [] (zuI (zuI σ 48 k_z f) 49 (Int32.toNatClampNeg (nI k_z)) (nI q0))
          refine ⟨zix (k := k_z) rfl (by omega) (by decide), ?_⟩
          rw [zcl_k (i := (nI k_z)) (k := k_z) rfl (by omega)]
          refine zq (σ := (zuI (zuI σ 48 k_z f) 49 k_z (nI q0))) hV hI rfl 2 ?_
          show V 55 [(4, .int 0), (0, .ref 30), (1, .int (nI k_z)), (2, .int f), (3, .int (nI q0))] [] (zuI (zuI σ 48 k_z f) 49 k_z (nI q0))
          refine zwk hV [1, 2, 3, 4, 0] rfl ?_
          have Hi : ∀ (r_z : Nat) (i_z : Nat) (τ : zSt), i_z + r_z = q0 → zOnly (zfSt k_z) σ τ → τ.1 48 k_z = f → τ.1 49 k_z = nI q0 → (∀ j_z, j_z < i_z → τ.1 50 (k_z * 60 + j_z) = 0) → V 55 [(0, .ref 30), (1, .int (nI k_z)), (2, .int f), (3, .int (nI q0)), (4, .int (nI i_z))] [] τ := by
            intro r_z
            induction r_z with
            | zero =>
              intro i_z τ hir ht h8 h9 hz
              have hIτ := zQI_eq hI ht.2.2
              have hnτ : τ.2.2.2 = σ.2.2.2 := congrArg Prod.snd ht.2.2
              refine zq (σ := τ) hV hIτ hnτ 3 ?_
              show ((nI q0) ≤ (nI i_z) → V 80 [(0, .ref 30), (1, .int (nI k_z)), (2, .int f), (3, .int (nI q0)), (4, .int (nI i_z))] [] τ) ∧ (¬ (nI q0) ≤ (nI i_z) → V 61 [(0, .ref 30), (1, .int (nI k_z)), (2, .int f), (3, .int (nI q0)), (4, .int (nI i_z))] [] τ)
              refine ⟨fun _ => ?_, fun hc_z => absurd (show nI q0 ≤ nI i_z from zge_self (by omega)) hc_z⟩
              refine zq (σ := τ) hV hIτ hnτ 2 ?_
              show K (some (.int (nI q0))) τ
              obtain rfl : q0 = i_z := by omega
              have hv : zBt 0 3 (nI k_z) ∧ zBt 0 2 f ∧ (nI q0).toInt ≤ 60 := ⟨hs3, hb2, by rw [nI_toInt (by omega)]; omega⟩
              exact hOk τ k_z q0 hv (by rw [nI_toInt (by omega)]; omega) rfl hk4 rfl hq60 ht h8 h9 hz
            | succ r_z ihi =>
              intro i_z τ hir ht h8 h9 hz
              have hIτ := zQI_eq hI ht.2.2
              have hnτ : τ.2.2.2 = σ.2.2.2 := congrArg Prod.snd ht.2.2
              refine zq (σ := τ) hV hIτ hnτ 3 ?_
              show ((nI q0) ≤ (nI i_z) → V 80 [(0, .ref 30), (1, .int (nI k_z)), (2, .int f), (3, .int (nI q0)), (4, .int (nI i_z))] [] τ) ∧ (¬ (nI q0) ≤ (nI i_z) → V 61 [(0, .ref 30), (1, .int (nI k_z)), (2, .int f), (3, .int (nI q0)), (4, .int (nI i_z))] [] τ)
              refine ⟨fun hc_z => absurd hc_z (show ¬ nI q0 ≤ nI i_z from nI_ge (by omega) (by omega)), fun _ => ?_⟩
              refine zq (σ := τ) hV hIτ hnτ 9 ?_
              show vp_in ((60 * (nI k_z)) + (nI i_z)) 240 ∧ V 74 [(0, .ref 30), (1, .int (nI k_z)), (2, .int f), (3, .int (nI q0)), (4, .int (nI i_z))] [] (zuI τ 50 (Int32.toNatClampNeg ((60 * (nI k_z)) + (nI i_z))) 0)
              refine ⟨zix (k := (k_z * 60 + i_z)) zx60j (by omega) (by decide), ?_⟩
              rw [zcl_k (i := ((60 * (nI k_z)) + (nI i_z))) (k := (k_z * 60 + i_z)) zx60j (by omega)]
              refine zq (σ := (zuI τ 50 (k_z * 60 + i_z) 0)) hV hIτ hnτ 2 ?_
              show V 55 [(4, .int ((nI i_z) + 1)), (0, .ref 30), (1, .int (nI k_z)), (2, .int f), (3, .int (nI q0))] [] (zuI τ 50 (k_z * 60 + i_z) 0)
              refine zwk hV [1, 2, 3, 4, 0] rfl ?_
              rw [nI_1]
              refine ihi (i_z + 1) _ (by omega) (ht.uI (by simp [zfSt]; omega)) h8 h9 (fun j_z hj => ?_)
              rw [zuI_get]
              by_cases e_z : j_z = i_z
              · subst e_z; simp
              · rw [if_neg (by omega)]; exact hz j_z (by omega)
          refine Hi q0 0 _ (by omega) ((zOnly.rf.uI (by simp [zfSt])).uI (by simp [zfSt])) ?_ ?_ (fun j_z q_z => absurd q_z (Nat.not_lt_zero j_z))
          · simp [zuI_get]
          · simp [zuI_get]
        · skip
          refine zq (σ := σ) hV hI rfl 3 ?_
          show zSp _ 186 [.ref 30, .int 5] σ (fun r_z σ' => σ'.2.2.2 = σ.2.2.2 + zAl 186 → V 37 [(0, .ref 30), (1, .int s), (2, .int f), (3, .int c)] (r_z.toList ++ []) σ')
          refine met_M hI (fun _ => ?_)
          refine zq (σ := (zuI σ 30 35 5)) hV hI rfl 1 ?_
          show K (some (.int ((-10) - 5))) (zuI σ 30 35 5)
          have hv : (zBt 0 3 s ∧ zBt 0 2 f ∧ c.toInt ≤ 60) := ⟨hb1, hb2, by rw [zle, show (60 : Int32).toInt = 60 from rfl] at h_22; exact h_22⟩
          exact hSz hv (fun q_z => h_29 (by rw [zle, zT_lits.1]; exact q_z))
      · skip
        refine zq (σ := σ) hV hI rfl 2 ?_
        show K (some (.int (-2))) σ
        exact hBad (fun q_z => h_22 (by rw [zle, show (60 : Int32).toInt = 60 from rfl]; exact q_z.2.2))
    · skip
      refine zq (σ := σ) hV hI rfl 1 ?_
      show ((0 : Int32) = 0 → V 25 [(0, .ref 30), (1, .int s), (2, .int f), (3, .int c)] [] σ) ∧ (¬ (0 : Int32) = 0 → V 19 [(0, .ref 30), (1, .int s), (2, .int f), (3, .int c)] [] σ)
      refine ⟨fun _ => ?_, fun hc_z => absurd (by decide) hc_z⟩
      refine zq (σ := σ) hV hI rfl 2 ?_
      show K (some (.int (-2))) σ
      exact hBad (fun q_z => hb2 q_z.2.1)
  · skip
    refine zq (σ := σ) hV hI rfl 1 ?_
    show ((0 : Int32) = 0 → V 25 [(0, .ref 30), (1, .int s), (2, .int f), (3, .int c)] [] σ) ∧ (¬ (0 : Int32) = 0 → V 7 [(0, .ref 30), (1, .int s), (2, .int f), (3, .int c)] [] σ)
    refine ⟨fun _ => ?_, fun hc_z => absurd (by decide) hc_z⟩
    refine zq (σ := σ) hV hI rfl 2 ?_
    show K (some (.int (-2))) σ
    exact hBad (fun q_z => hb1 q_z.1)
set_option maxRecDepth 8000 in
set_option maxHeartbeats 4000000 in
theorem lose_M {d : Nat} {σ : zSt} {K : Option Value → zSt → Prop} {s : Int32} (hI : zQI (kR 30 52) σ.2.2) (hBad : ¬ zBt 0 3 s → K (some (.int (-2))) σ) (hNull : ∀ k, s = nI k → k < 4 → ¬ 0 ≤ σ.1 48 k → K (some (.int (-10 - 1))) (zuI σ 30 35 1)) (hOk : ∀ k, s = nI k → k < 4 → 0 ≤ σ.1 48 k → K (some (.int (σ.1 49 k))) (zuI σ 48 k (-1))) : zSp (d + 3) mX9_lose [.ref 30, .int s] σ K := by
  refine ⟨⟨by decide, Nat.le_of_ble_eq_true rfl⟩, fun V hV => ?_⟩
  refine zq (σ := σ) hV hI rfl 2 ?_
  show zSp _ 187 [.int s] σ (fun r_z σ' => σ'.2.2.2 = σ.2.2.2 + zAl 187 → V 4 [(0, .ref 30), (1, .int s)] (r_z.toList ++ []) σ')
  refine isSheet_M (fun hb1 _ => ?_) (fun hb1 _ => ?_)
  · skip
    refine zq (σ := σ) hV hI rfl 1 ?_
    show (¬ (1 : Int32) = 0 → V 10 [(0, .ref 30), (1, .int s)] [] σ) ∧ (¬ (¬ (1 : Int32) = 0) → V 7 [(0, .ref 30), (1, .int s)] [] σ)
    refine ⟨fun _ => ?_, fun hc_z => absurd (by decide) hc_z⟩
    have hs3 := hb1
    obtain ⟨k_z, hk, _, _⟩ := zNat (x := s) (by unfold zBt at hb1; omega)
    have hk4 : k_z < 4 := by unfold zBt at hb1; omega
    subst hk
    refine zq (σ := σ) hV hI rfl 4 ?_
    show vp_in (nI k_z) 4 ∧ V 16 [(0, .ref 30), (1, .int (nI k_z))] [.int (σ.1 48 (Int32.toNatClampNeg (nI k_z)))] σ
    refine ⟨zix (k := k_z) rfl (by omega) (by decide), ?_⟩
    rw [zcl_k (i := (nI k_z)) (k := k_z) rfl (by omega)]
    refine zq (σ := σ) hV hI rfl 1 ?_
    show (0 ≤ (σ.1 48 k_z) → V 25 [(0, .ref 30), (1, .int (nI k_z))] [] σ) ∧ (¬ 0 ≤ (σ.1 48 k_z) → V 19 [(0, .ref 30), (1, .int (nI k_z))] [] σ)
    refine ⟨fun h_16 => ?_, fun h_16 => ?_⟩
    · skip
      refine zq (σ := σ) hV hI rfl 5 ?_
      show vp_in (nI k_z) 4 ∧ V 32 [(0, .ref 30), (1, .int (nI k_z))] [] (zuI σ 48 (Int32.toNatClampNeg (nI k_z)) (-1))
      refine ⟨zix (k := k_z) rfl (by omega) (by decide), ?_⟩
      rw [zcl_k (i := (nI k_z)) (k := k_z) rfl (by omega)]
      refine zq (σ := (zuI σ 48 k_z (-1))) hV hI rfl 4 ?_
      show vp_in (nI k_z) 4 ∧ V 38 [(0, .ref 30), (1, .int (nI k_z))] [.int (σ.1 49 (Int32.toNatClampNeg (nI k_z)))] (zuI σ 48 k_z (-1))
      refine ⟨zix (k := k_z) rfl (by omega) (by decide), ?_⟩
      rw [zcl_k (i := (nI k_z)) (k := k_z) rfl (by omega)]
      refine zq (σ := (zuI σ 48 k_z (-1))) hV hI rfl 1 ?_
      show K (some (.int (σ.1 49 k_z))) (zuI σ 48 k_z (-1))
      exact hOk k_z rfl hk4 h_16
    · skip
      refine zq (σ := σ) hV hI rfl 3 ?_
      show zSp _ 186 [.ref 30, .int 1] σ (fun r_z σ' => σ'.2.2.2 = σ.2.2.2 + zAl 186 → V 24 [(0, .ref 30), (1, .int (nI k_z))] (r_z.toList ++ []) σ')
      refine met_M hI (fun _ => ?_)
      refine zq (σ := (zuI σ 30 35 1)) hV hI rfl 1 ?_
      show K (some (.int ((-10) - 1))) (zuI σ 30 35 1)
      exact hNull k_z rfl hk4 h_16
  · skip
    refine zq (σ := σ) hV hI rfl 1 ?_
    show (¬ (0 : Int32) = 0 → V 10 [(0, .ref 30), (1, .int s)] [] σ) ∧ (¬ (¬ (0 : Int32) = 0) → V 7 [(0, .ref 30), (1, .int s)] [] σ)
    refine ⟨fun hc_z => absurd hc_z (by decide), fun _ => ?_⟩
    refine zq (σ := σ) hV hI rfl 2 ?_
    show K (some (.int (-2))) σ
    exact hBad hb1
set_option maxRecDepth 8000 in
set_option maxHeartbeats 4000000 in
theorem lacks_M {d : Nat} {σ : zSt} {K : Option Value → zSt → Prop} {f i : Int32} {k : Nat} (hI : zQI (kR 30 52) σ.2.2) (hk4 : k < 4) (hL : 0 ≤ σ.1 48 k → ∃ l, σ.1 49 k = nI l ∧ l ≤ 60) (c1 : ¬ 0 ≤ σ.1 48 k → K (some (.int (-10 - 1))) (zuI σ 30 35 1)) (c3 : 0 ≤ σ.1 48 k → ¬ σ.1 48 k = f → K (some (.int (-10 - 3))) (zuI σ 30 35 3)) (c2 : ∀ l, 0 ≤ σ.1 48 k → σ.1 48 k = f → σ.1 49 k = nI l → l ≤ 60 → ¬ zBt 0 (l - 1) i → K (some (.int (-10 - 2))) (zuI σ 30 35 2)) (c0 : ∀ l, 0 ≤ σ.1 48 k → σ.1 48 k = f → σ.1 49 k = nI l → l ≤ 60 → zBt 0 (l - 1) i → K (some (.int 0)) σ) : zSp (d + 2) mX9_lacks [.ref 30, .int (nI k), .int f, .int i] σ K := by
  refine ⟨⟨by decide, Nat.le_of_ble_eq_true rfl⟩, fun V hV => ?_⟩
  refine zq (σ := σ) hV hI rfl 4 ?_
  show vp_in (nI k) 4 ∧ V 6 [(0, .ref 30), (1, .int (nI k)), (2, .int f), (3, .int i)] [.int (σ.1 48 (Int32.toNatClampNeg (nI k)))] σ
  refine ⟨zix (k := k) rfl (by omega) (by decide), ?_⟩
  rw [zcl_k (i := (nI k)) (k := k) rfl (by omega)]
  refine zq (σ := σ) hV hI rfl 1 ?_
  show (0 ≤ (σ.1 48 k) → V 15 [(0, .ref 30), (1, .int (nI k)), (2, .int f), (3, .int i)] [] σ) ∧ (¬ 0 ≤ (σ.1 48 k) → V 9 [(0, .ref 30), (1, .int (nI k)), (2, .int f), (3, .int i)] [] σ)
  refine ⟨fun h_6 => ?_, fun h_6 => ?_⟩
  · skip
    refine zq (σ := σ) hV hI rfl 4 ?_
    show vp_in (nI k) 4 ∧ V 21 [(0, .ref 30), (1, .int (nI k)), (2, .int f), (3, .int i)] [.int (σ.1 48 (Int32.toNatClampNeg (nI k)))] σ
    refine ⟨zix (k := k) rfl (by omega) (by decide), ?_⟩
    rw [zcl_k (i := (nI k)) (k := k) rfl (by omega)]
    refine zq (σ := σ) hV hI rfl 2 ?_
    show ((σ.1 48 k) = f → V 31 [(0, .ref 30), (1, .int (nI k)), (2, .int f), (3, .int i)] [] σ) ∧ (¬ (σ.1 48 k) = f → V 25 [(0, .ref 30), (1, .int (nI k)), (2, .int f), (3, .int i)] [] σ)
    refine ⟨fun h_22 => ?_, fun h_22 => ?_⟩
    · skip
      obtain ⟨l, hl, hl60⟩ := hL h_6
      refine zq (σ := σ) hV hI rfl 7 ?_
      show vp_in (nI k) 4 ∧ V 40 [(0, .ref 30), (1, .int (nI k)), (2, .int f), (3, .int i)] [.int (σ.1 49 (Int32.toNatClampNeg (nI k))), .long 0, .long (Int32.toInt64 i)] σ
      refine ⟨zix (k := k) rfl (by omega) (by decide), ?_⟩
      rw [zcl_k (i := (nI k)) (k := k) rfl (by omega)]
      refine zq (σ := σ) hV hI rfl 4 ?_
      show zSp _ 131 [.long (Int32.toInt64 i), .long 0, .long (Int32.toInt64 ((σ.1 49 k) - 1))] σ (fun r_z σ' => σ'.2.2.2 = σ.2.2.2 + zAl 131 → V 46 [(0, .ref 30), (1, .int (nI k)), (2, .int f), (3, .int i)] (r_z.toList ++ []) σ')
      refine in_M (lo := 0) (hi := ((l : Nat) : Int) - 1) (by decide) (zpm hl (by omega)) (fun hb1 _ => ?_) (fun hb1 _ => ?_)
      · skip
        refine zq (σ := σ) hV hI rfl 1 ?_
        show ((1 : Int32) = 0 → V 53 [(0, .ref 30), (1, .int (nI k)), (2, .int f), (3, .int i)] [] σ) ∧ (¬ (1 : Int32) = 0 → V 49 [(0, .ref 30), (1, .int (nI k)), (2, .int f), (3, .int i)] [] σ)
        refine ⟨fun hc_z => absurd hc_z (by decide), fun _ => ?_⟩
        refine zq (σ := σ) hV hI rfl 3 ?_
        show K (some (.int 0)) σ
        exact c0 l h_6 h_22 hl hl60 hb1
      · skip
        refine zq (σ := σ) hV hI rfl 1 ?_
        show ((0 : Int32) = 0 → V 53 [(0, .ref 30), (1, .int (nI k)), (2, .int f), (3, .int i)] [] σ) ∧ (¬ (0 : Int32) = 0 → V 49 [(0, .ref 30), (1, .int (nI k)), (2, .int f), (3, .int i)] [] σ)
        refine ⟨fun _ => ?_, fun hc_z => absurd (by decide) hc_z⟩
        refine zq (σ := σ) hV hI rfl 3 ?_
        show zSp _ 186 [.ref 30, .int 2] σ (fun r_z σ' => σ'.2.2.2 = σ.2.2.2 + zAl 186 → V 58 [(0, .ref 30), (1, .int (nI k)), (2, .int f), (3, .int i)] (r_z.toList ++ []) σ')
        refine met_M hI (fun _ => ?_)
        refine zq (σ := (zuI σ 30 35 2)) hV hI rfl 1 ?_
        show K (some (.int ((-10) - 2))) (zuI σ 30 35 2)
        exact c2 l h_6 h_22 hl hl60 hb1
    · skip
      refine zq (σ := σ) hV hI rfl 3 ?_
      show zSp _ 186 [.ref 30, .int 3] σ (fun r_z σ' => σ'.2.2.2 = σ.2.2.2 + zAl 186 → V 30 [(0, .ref 30), (1, .int (nI k)), (2, .int f), (3, .int i)] (r_z.toList ++ []) σ')
      refine met_M hI (fun _ => ?_)
      refine zq (σ := (zuI σ 30 35 3)) hV hI rfl 1 ?_
      show K (some (.int ((-10) - 3))) (zuI σ 30 35 3)
      exact c3 h_6 h_22
  · skip
    refine zq (σ := σ) hV hI rfl 3 ?_
    show zSp _ 186 [.ref 30, .int 1] σ (fun r_z σ' => σ'.2.2.2 = σ.2.2.2 + zAl 186 → V 14 [(0, .ref 30), (1, .int (nI k)), (2, .int f), (3, .int i)] (r_z.toList ++ []) σ')
    refine met_M hI (fun _ => ?_)
    refine zq (σ := (zuI σ 30 35 1)) hV hI rfl 1 ?_
    show K (some (.int ((-10) - 1))) (zuI σ 30 35 1)
    exact c1 h_6
set_option maxRecDepth 8000 in
set_option maxHeartbeats 4000000 in
theorem put_M {d : Nat} {σ : zSt} {K : Option Value → zSt → Prop} {s f i v : Int32} (hI : zQI (kR 30 52) σ.2.2) (hL : ∀ k, k < 4 → 0 ≤ σ.1 48 k → ∃ l, σ.1 49 k = nI l ∧ l ≤ 60) (hBad : ¬ (zBt 0 3 s ∧ zBt 0 2 f) → K (some (.int (-2))) σ) (hNull : ∀ k, (zBt 0 3 s ∧ zBt 0 2 f) → s = nI k → k < 4 → ¬ 0 ≤ σ.1 48 k → K (some (.int (-10 - 1))) (zuI σ 30 35 1)) (hCast : ∀ k, (zBt 0 3 s ∧ zBt 0 2 f) → s = nI k → k < 4 → 0 ≤ σ.1 48 k → ¬ σ.1 48 k = f → K (some (.int (-10 - 3))) (zuI σ 30 35 3))
    (hIndex : ∀ k l, (zBt 0 3 s ∧ zBt 0 2 f) → s = nI k → k < 4 → 0 ≤ σ.1 48 k → σ.1 48 k = f → σ.1 49 k = nI l → ¬ zBt 0 (l - 1) i → K (some (.int (-10 - 2))) (zuI σ 30 35 2)) (hOk : ∀ k l j, (zBt 0 3 s ∧ zBt 0 2 f) → s = nI k → k < 4 → 0 ≤ σ.1 48 k → σ.1 48 k = f → σ.1 49 k = nI l → l ≤ 60 → i = nI j → j < l → K (some (.int 1)) (zuI σ 50 (k * 60 + j) (zKp f v))) : zSp (d + 3) mX9_put [.ref 30, .int s, .int f, .int i, .int v] σ K := by
  refine ⟨⟨by decide, Nat.le_of_ble_eq_true rfl⟩, fun V hV => ?_⟩
  refine zq (σ := σ) hV hI rfl 2 ?_
  show zSp _ 187 [.int s] σ (fun r_z σ' => σ'.2.2.2 = σ.2.2.2 + zAl 187 → V 4 [(0, .ref 30), (1, .int s), (2, .int f), (3, .int i), (4, .int v)] (r_z.toList ++ []) σ')
  refine isSheet_M (fun hb1 _ => ?_) (fun hb1 _ => ?_)
  · skip
    refine zq (σ := σ) hV hI rfl 1 ?_
    show ((1 : Int32) = 0 → V 19 [(0, .ref 30), (1, .int s), (2, .int f), (3, .int i), (4, .int v)] [] σ) ∧ (¬ (1 : Int32) = 0 → V 7 [(0, .ref 30), (1, .int s), (2, .int f), (3, .int i), (4, .int v)] [] σ)
    refine ⟨fun hc_z => absurd hc_z (by decide), fun _ => ?_⟩
    refine zq (σ := σ) hV hI rfl 5 ?_
    show zSp _ 131 [.long (Int32.toInt64 f), .long 0, .long 2] σ (fun r_z σ' => σ'.2.2.2 = σ.2.2.2 + zAl 131 → V 16 [(0, .ref 30), (1, .int s), (2, .int f), (3, .int i), (4, .int v)] (r_z.toList ++ []) σ')
    refine in_M (lo := 0) (hi := 2) (by decide) (by decide) (fun hb2 _ => ?_) (fun hb2 _ => ?_)
    · skip
      refine zq (σ := σ) hV hI rfl 1 ?_
      show (¬ (1 : Int32) = 0 → V 22 [(0, .ref 30), (1, .int s), (2, .int f), (3, .int i), (4, .int v)] [] σ) ∧ (¬ (¬ (1 : Int32) = 0) → V 19 [(0, .ref 30), (1, .int s), (2, .int f), (3, .int i), (4, .int v)] [] σ)
      refine ⟨fun _ => ?_, fun hc_z => absurd (by decide) hc_z⟩
      have hv := (⟨hb1, hb2⟩ : (zBt 0 3 s ∧ zBt 0 2 f))
      have hs3 := hb1
      obtain ⟨k_z, hk, _, _⟩ := zNat (x := s) (by unfold zBt at hb1; omega)
      have hk4 : k_z < 4 := by unfold zBt at hb1; omega
      subst hk
      refine zq (σ := σ) hV hI rfl 5 ?_
      show zSp _ 190 [.ref 30, .int (nI k_z), .int f, .int i] σ (fun r_z σ' => σ'.2.2.2 = σ.2.2.2 + zAl 190 → V 29 [(0, .ref 30), (1, .int (nI k_z)), (2, .int f), (3, .int i), (4, .int v)] (r_z.toList ++ []) σ')
      refine lacks_M hI hk4 (hL k_z hk4) (fun f1_z _ => ?_) (fun f1_z f2_z _ => ?_) (fun l f1_z f2_z hl hl60 f3_z _ => ?_) (fun l f1_z f2_z hl hl60 f3_z _ => ?_)
      · skip
        rw [show (-10 : Int32) - 1 = -11 from by decide]
        refine zq (σ := (zuI σ 30 35 1)) hV hI rfl 3 ?_
        show (((-11) : Int32) = 0 → V 39 [(5, .int (-11)), (0, .ref 30), (1, .int (nI k_z)), (2, .int f), (3, .int i), (4, .int v)] [] (zuI σ 30 35 1)) ∧ (¬ ((-11) : Int32) = 0 → V 36 [(5, .int (-11)), (0, .ref 30), (1, .int (nI k_z)), (2, .int f), (3, .int i), (4, .int v)] [] (zuI σ 30 35 1))
        refine ⟨fun hc_z => absurd hc_z (by decide), fun _ => ?_⟩
        refine zq (σ := (zuI σ 30 35 1)) hV hI rfl 2 ?_
        show K (some (.int (-11))) (zuI σ 30 35 1)
        rw [show (-11 : Int32) = -10 - 1 from by decide]
        exact hNull k_z hv rfl hk4 f1_z
      · skip
        rw [show (-10 : Int32) - 3 = -13 from by decide]
        refine zq (σ := (zuI σ 30 35 3)) hV hI rfl 3 ?_
        show (((-13) : Int32) = 0 → V 39 [(5, .int (-13)), (0, .ref 30), (1, .int (nI k_z)), (2, .int f), (3, .int i), (4, .int v)] [] (zuI σ 30 35 3)) ∧ (¬ ((-13) : Int32) = 0 → V 36 [(5, .int (-13)), (0, .ref 30), (1, .int (nI k_z)), (2, .int f), (3, .int i), (4, .int v)] [] (zuI σ 30 35 3))
        refine ⟨fun hc_z => absurd hc_z (by decide), fun _ => ?_⟩
        refine zq (σ := (zuI σ 30 35 3)) hV hI rfl 2 ?_
        show K (some (.int (-13))) (zuI σ 30 35 3)
        rw [show (-13 : Int32) = -10 - 3 from by decide]
        exact hCast k_z hv rfl hk4 f1_z f2_z
      · skip
        rw [show (-10 : Int32) - 2 = -12 from by decide]
        refine zq (σ := (zuI σ 30 35 2)) hV hI rfl 3 ?_
        show (((-12) : Int32) = 0 → V 39 [(5, .int (-12)), (0, .ref 30), (1, .int (nI k_z)), (2, .int f), (3, .int i), (4, .int v)] [] (zuI σ 30 35 2)) ∧ (¬ ((-12) : Int32) = 0 → V 36 [(5, .int (-12)), (0, .ref 30), (1, .int (nI k_z)), (2, .int f), (3, .int i), (4, .int v)] [] (zuI σ 30 35 2))
        refine ⟨fun hc_z => absurd hc_z (by decide), fun _ => ?_⟩
        refine zq (σ := (zuI σ 30 35 2)) hV hI rfl 2 ?_
        show K (some (.int (-12))) (zuI σ 30 35 2)
        rw [show (-12 : Int32) = -10 - 2 from by decide]
        exact hIndex k_z l hv rfl hk4 f1_z f2_z hl f3_z
      · skip
        obtain ⟨j_z, hj, _, _⟩ := zNat (x := i) (by unfold zBt at f3_z; omega)
        have hjl : j_z < l := by unfold zBt at f3_z; omega
        have x60 : 60 * nI k_z + i = nI (k_z * 60 + j_z) := by rw [hj]; exact zx60j
        refine zq (σ := σ) hV hI rfl 3 ?_
        show ((0 : Int32) = 0 → V 39 [(5, .int 0), (0, .ref 30), (1, .int (nI k_z)), (2, .int f), (3, .int i), (4, .int v)] [] σ) ∧ (¬ (0 : Int32) = 0 → V 36 [(5, .int 0), (0, .ref 30), (1, .int (nI k_z)), (2, .int f), (3, .int i), (4, .int v)] [] σ)
        refine ⟨fun _ => ?_, fun hc_z => absurd (by decide) hc_z⟩
        refine zq (σ := σ) hV hI rfl 9 ?_
        show (¬ f = 0 → V 59 [(5, .int 0), (0, .ref 30), (1, .int (nI k_z)), (2, .int f), (3, .int i), (4, .int v)] [.int ((60 * (nI k_z)) + i), .ref 50] σ) ∧ (¬ (¬ f = 0) → V 53 [(5, .int 0), (0, .ref 30), (1, .int (nI k_z)), (2, .int f), (3, .int i), (4, .int v)] [.int ((60 * (nI k_z)) + i), .ref 50] σ)
        refine ⟨fun h_50 => ?_, fun h_50 => ?_⟩
        · skip
          refine zq (σ := σ) hV hI rfl 3 ?_
          show (¬ f = 1 → V 70 [(5, .int 0), (0, .ref 30), (1, .int (nI k_z)), (2, .int f), (3, .int i), (4, .int v)] [.int ((60 * (nI k_z)) + i), .ref 50] σ) ∧ (¬ (¬ f = 1) → V 64 [(5, .int 0), (0, .ref 30), (1, .int (nI k_z)), (2, .int f), (3, .int i), (4, .int v)] [.int ((60 * (nI k_z)) + i), .ref 50] σ)
          refine ⟨fun h_61 => ?_, fun h_61 => ?_⟩
          · skip
            refine zq (σ := σ) hV hI rfl 2 ?_
            show vp_in ((60 * (nI k_z)) + i) 240 ∧ V 73 [(5, .int 0), (0, .ref 30), (1, .int (nI k_z)), (2, .int f), (3, .int i), (4, .int v)] [] (zuI σ 50 (Int32.toNatClampNeg ((60 * (nI k_z)) + i)) v)
            refine ⟨zix (k := (k_z * 60 + j_z)) x60 (by omega) (by decide), ?_⟩
            rw [zcl_k (i := ((60 * (nI k_z)) + i)) (k := (k_z * 60 + j_z)) x60 (by omega)]
            refine zq (σ := (zuI σ 50 (k_z * 60 + j_z) v)) hV hI rfl 2 ?_
            show K (some (.int 1)) (zuI σ 50 (k_z * 60 + j_z) v)
            have hk := hOk k_z l j_z hv rfl hk4 f1_z f2_z hl hl60 hj hjl
            unfold zKp at hk
            first | (rw [if_pos h_50] at hk; exact hk) | (rw [if_neg h_50, if_pos h_61] at hk; exact hk) | (rw [if_neg h_50, if_neg h_61] at hk; exact hk)
          · skip
            have h_61 := Classical.not_not.mp h_61
            refine zq (σ := σ) hV hI rfl 4 ?_
            show vp_in ((60 * (nI k_z)) + i) 240 ∧ V 73 [(5, .int 0), (0, .ref 30), (1, .int (nI k_z)), (2, .int f), (3, .int i), (4, .int v)] [] (zuI σ 50 (Int32.toNatClampNeg ((60 * (nI k_z)) + i)) ((Int32.toInt16 v).toInt32))
            refine ⟨zix (k := (k_z * 60 + j_z)) x60 (by omega) (by decide), ?_⟩
            rw [zcl_k (i := ((60 * (nI k_z)) + i)) (k := (k_z * 60 + j_z)) x60 (by omega)]
            refine zq (σ := (zuI σ 50 (k_z * 60 + j_z) ((Int32.toInt16 v).toInt32))) hV hI rfl 2 ?_
            show K (some (.int 1)) (zuI σ 50 (k_z * 60 + j_z) ((Int32.toInt16 v).toInt32))
            have hk := hOk k_z l j_z hv rfl hk4 f1_z f2_z hl hl60 hj hjl
            unfold zKp at hk
            first | (rw [if_pos h_50] at hk; exact hk) | (rw [if_neg h_50, if_pos h_61] at hk; exact hk) | (rw [if_neg h_50, if_neg h_61] at hk; exact hk)
        · skip
          have h_50 := Classical.not_not.mp h_50
          refine zq (σ := σ) hV hI rfl 4 ?_
          show vp_in ((60 * (nI k_z)) + i) 240 ∧ V 73 [(5, .int 0), (0, .ref 30), (1, .int (nI k_z)), (2, .int f), (3, .int i), (4, .int v)] [] (zuI σ 50 (Int32.toNatClampNeg ((60 * (nI k_z)) + i)) ((Int32.toInt8 v).toInt32))
          refine ⟨zix (k := (k_z * 60 + j_z)) x60 (by omega) (by decide), ?_⟩
          rw [zcl_k (i := ((60 * (nI k_z)) + i)) (k := (k_z * 60 + j_z)) x60 (by omega)]
          refine zq (σ := (zuI σ 50 (k_z * 60 + j_z) ((Int32.toInt8 v).toInt32))) hV hI rfl 2 ?_
          show K (some (.int 1)) (zuI σ 50 (k_z * 60 + j_z) ((Int32.toInt8 v).toInt32))
          have hk := hOk k_z l j_z hv rfl hk4 f1_z f2_z hl hl60 hj hjl
          unfold zKp at hk
          first | (rw [if_pos h_50] at hk; exact hk) | (rw [if_neg h_50, if_pos h_61] at hk; exact hk) | (rw [if_neg h_50, if_neg h_61] at hk; exact hk)
    · skip
      refine zq (σ := σ) hV hI rfl 1 ?_
      show (¬ (0 : Int32) = 0 → V 22 [(0, .ref 30), (1, .int s), (2, .int f), (3, .int i), (4, .int v)] [] σ) ∧ (¬ (¬ (0 : Int32) = 0) → V 19 [(0, .ref 30), (1, .int s), (2, .int f), (3, .int i), (4, .int v)] [] σ)
      refine ⟨fun hc_z => absurd hc_z (by decide), fun _ => ?_⟩
      refine zq (σ := σ) hV hI rfl 2 ?_
      show K (some (.int (-2))) σ
      exact hBad (fun q_z => hb2 q_z.2)
  · skip
    refine zq (σ := σ) hV hI rfl 1 ?_
    show ((0 : Int32) = 0 → V 19 [(0, .ref 30), (1, .int s), (2, .int f), (3, .int i), (4, .int v)] [] σ) ∧ (¬ (0 : Int32) = 0 → V 7 [(0, .ref 30), (1, .int s), (2, .int f), (3, .int i), (4, .int v)] [] σ)
    refine ⟨fun _ => ?_, fun hc_z => absurd (by decide) hc_z⟩
    refine zq (σ := σ) hV hI rfl 2 ?_
    show K (some (.int (-2))) σ
    exact hBad (fun q_z => hb1 q_z.1)
set_option maxRecDepth 8000 in
set_option maxHeartbeats 4000000 in
theorem get_M {d : Nat} {σ : zSt} {K : Option Value → zSt → Prop} {s f i : Int32} (hI : zQI (kR 30 52) σ.2.2) (hL : ∀ k, k < 4 → 0 ≤ σ.1 48 k → ∃ l, σ.1 49 k = nI l ∧ l ≤ 60) (hBad : ¬ (zBt 0 3 s ∧ zBt 0 2 f) → K (some (.int (-2147483648))) σ) (hNull : ∀ k, (zBt 0 3 s ∧ zBt 0 2 f) → s = nI k → k < 4 → ¬ 0 ≤ σ.1 48 k → K (some (.int (-2147483648))) (zuI σ 30 35 1)) (hCast : ∀ k, (zBt 0 3 s ∧ zBt 0 2 f) → s = nI k → k < 4 → 0 ≤ σ.1 48 k → ¬ σ.1 48 k = f → K (some (.int (-2147483648))) (zuI σ 30 35 3))
    (hIndex : ∀ k l, (zBt 0 3 s ∧ zBt 0 2 f) → s = nI k → k < 4 → 0 ≤ σ.1 48 k → σ.1 48 k = f → σ.1 49 k = nI l → ¬ zBt 0 (l - 1) i → K (some (.int (-2147483648))) (zuI σ 30 35 2)) (hOk : ∀ k l j, (zBt 0 3 s ∧ zBt 0 2 f) → s = nI k → k < 4 → 0 ≤ σ.1 48 k → σ.1 48 k = f → σ.1 49 k = nI l → l ≤ 60 → i = nI j → j < l → K (some (.int (σ.1 50 (k * 60 + j)))) σ) : zSp (d + 3) mX9_get [.ref 30, .int s, .int f, .int i] σ K := by
  refine ⟨⟨by decide, Nat.le_of_ble_eq_true rfl⟩, fun V hV => ?_⟩
  refine zq (σ := σ) hV hI rfl 2 ?_
  show zSp _ 187 [.int s] σ (fun r_z σ' => σ'.2.2.2 = σ.2.2.2 + zAl 187 → V 4 [(0, .ref 30), (1, .int s), (2, .int f), (3, .int i)] (r_z.toList ++ []) σ')
  refine isSheet_M (fun hb1 _ => ?_) (fun hb1 _ => ?_)
  · skip
    refine zq (σ := σ) hV hI rfl 1 ?_
    show ((1 : Int32) = 0 → V 29 [(0, .ref 30), (1, .int s), (2, .int f), (3, .int i)] [] σ) ∧ (¬ (1 : Int32) = 0 → V 7 [(0, .ref 30), (1, .int s), (2, .int f), (3, .int i)] [] σ)
    refine ⟨fun hc_z => absurd hc_z (by decide), fun _ => ?_⟩
    refine zq (σ := σ) hV hI rfl 5 ?_
    show zSp _ 131 [.long (Int32.toInt64 f), .long 0, .long 2] σ (fun r_z σ' => σ'.2.2.2 = σ.2.2.2 + zAl 131 → V 16 [(0, .ref 30), (1, .int s), (2, .int f), (3, .int i)] (r_z.toList ++ []) σ')
    refine in_M (lo := 0) (hi := 2) (by decide) (by decide) (fun hb2 _ => ?_) (fun hb2 _ => ?_)
    · skip
      refine zq (σ := σ) hV hI rfl 1 ?_
      show ((1 : Int32) = 0 → V 29 [(0, .ref 30), (1, .int s), (2, .int f), (3, .int i)] [] σ) ∧ (¬ (1 : Int32) = 0 → V 19 [(0, .ref 30), (1, .int s), (2, .int f), (3, .int i)] [] σ)
      refine ⟨fun hc_z => absurd hc_z (by decide), fun _ => ?_⟩
      have hv := (⟨hb1, hb2⟩ : (zBt 0 3 s ∧ zBt 0 2 f))
      have hs3 := hb1
      obtain ⟨k_z, hk, _, _⟩ := zNat (x := s) (by unfold zBt at hb1; omega)
      have hk4 : k_z < 4 := by unfold zBt at hb1; omega
      subst hk
      refine zq (σ := σ) hV hI rfl 5 ?_
      show zSp _ 190 [.ref 30, .int (nI k_z), .int f, .int i] σ (fun r_z σ' => σ'.2.2.2 = σ.2.2.2 + zAl 190 → V 26 [(0, .ref 30), (1, .int (nI k_z)), (2, .int f), (3, .int i)] (r_z.toList ++ []) σ')
      refine lacks_M hI hk4 (hL k_z hk4) (fun f1_z _ => ?_) (fun f1_z f2_z _ => ?_) (fun l f1_z f2_z hl hl60 f3_z _ => ?_) (fun l f1_z f2_z hl hl60 f3_z _ => ?_)
      · skip
        rw [show (-10 : Int32) - 1 = -11 from by decide]
        refine zq (σ := (zuI σ 30 35 1)) hV hI rfl 1 ?_
        show (((-11) : Int32) = 0 → V 33 [(0, .ref 30), (1, .int (nI k_z)), (2, .int f), (3, .int i)] [] (zuI σ 30 35 1)) ∧ (¬ ((-11) : Int32) = 0 → V 29 [(0, .ref 30), (1, .int (nI k_z)), (2, .int f), (3, .int i)] [] (zuI σ 30 35 1))
        refine ⟨fun hc_z => absurd hc_z (by decide), fun _ => ?_⟩
        refine zq (σ := (zuI σ 30 35 1)) hV hI rfl 2 ?_
        show K (some (.int (-2147483648))) (zuI σ 30 35 1)
        exact hNull k_z hv rfl hk4 f1_z
      · skip
        rw [show (-10 : Int32) - 3 = -13 from by decide]
        refine zq (σ := (zuI σ 30 35 3)) hV hI rfl 1 ?_
        show (((-13) : Int32) = 0 → V 33 [(0, .ref 30), (1, .int (nI k_z)), (2, .int f), (3, .int i)] [] (zuI σ 30 35 3)) ∧ (¬ ((-13) : Int32) = 0 → V 29 [(0, .ref 30), (1, .int (nI k_z)), (2, .int f), (3, .int i)] [] (zuI σ 30 35 3))
        refine ⟨fun hc_z => absurd hc_z (by decide), fun _ => ?_⟩
        refine zq (σ := (zuI σ 30 35 3)) hV hI rfl 2 ?_
        show K (some (.int (-2147483648))) (zuI σ 30 35 3)
        exact hCast k_z hv rfl hk4 f1_z f2_z
      · skip
        rw [show (-10 : Int32) - 2 = -12 from by decide]
        refine zq (σ := (zuI σ 30 35 2)) hV hI rfl 1 ?_
        show (((-12) : Int32) = 0 → V 33 [(0, .ref 30), (1, .int (nI k_z)), (2, .int f), (3, .int i)] [] (zuI σ 30 35 2)) ∧ (¬ ((-12) : Int32) = 0 → V 29 [(0, .ref 30), (1, .int (nI k_z)), (2, .int f), (3, .int i)] [] (zuI σ 30 35 2))
        refine ⟨fun hc_z => absurd hc_z (by decide), fun _ => ?_⟩
        refine zq (σ := (zuI σ 30 35 2)) hV hI rfl 2 ?_
        show K (some (.int (-2147483648))) (zuI σ 30 35 2)
        exact hIndex k_z l hv rfl hk4 f1_z f2_z hl f3_z
      · skip
        obtain ⟨j_z, hj, _, _⟩ := zNat (x := i) (by unfold zBt at f3_z; omega)
        have hjl : j_z < l := by unfold zBt at f3_z; omega
        have x60 : 60 * nI k_z + i = nI (k_z * 60 + j_z) := by rw [hj]; exact zx60j
        refine zq (σ := σ) hV hI rfl 1 ?_
        show ((0 : Int32) = 0 → V 33 [(0, .ref 30), (1, .int (nI k_z)), (2, .int f), (3, .int i)] [] σ) ∧ (¬ (0 : Int32) = 0 → V 29 [(0, .ref 30), (1, .int (nI k_z)), (2, .int f), (3, .int i)] [] σ)
        refine ⟨fun _ => ?_, fun hc_z => absurd (by decide) hc_z⟩
        refine zq (σ := σ) hV hI rfl 8 ?_
        show vp_in ((60 * (nI k_z)) + i) 240 ∧ V 44 [(0, .ref 30), (1, .int (nI k_z)), (2, .int f), (3, .int i)] [.int (σ.1 50 (Int32.toNatClampNeg ((60 * (nI k_z)) + i)))] σ
        refine ⟨zix (k := (k_z * 60 + j_z)) x60 (by omega) (by decide), ?_⟩
        rw [zcl_k (i := ((60 * (nI k_z)) + i)) (k := (k_z * 60 + j_z)) x60 (by omega)]
        refine zq (σ := σ) hV hI rfl 1 ?_
        show K (some (.int (σ.1 50 (k_z * 60 + j_z)))) σ
        exact hOk k_z l j_z hv rfl hk4 f1_z f2_z hl hl60 hj hjl
    · skip
      refine zq (σ := σ) hV hI rfl 1 ?_
      show ((0 : Int32) = 0 → V 29 [(0, .ref 30), (1, .int s), (2, .int f), (3, .int i)] [] σ) ∧ (¬ (0 : Int32) = 0 → V 19 [(0, .ref 30), (1, .int s), (2, .int f), (3, .int i)] [] σ)
      refine ⟨fun _ => ?_, fun hc_z => absurd (by decide) hc_z⟩
      refine zq (σ := σ) hV hI rfl 2 ?_
      show K (some (.int (-2147483648))) σ
      exact hBad (fun q_z => hb2 q_z.2)
  · skip
    refine zq (σ := σ) hV hI rfl 1 ?_
    show ((0 : Int32) = 0 → V 29 [(0, .ref 30), (1, .int s), (2, .int f), (3, .int i)] [] σ) ∧ (¬ (0 : Int32) = 0 → V 7 [(0, .ref 30), (1, .int s), (2, .int f), (3, .int i)] [] σ)
    refine ⟨fun _ => ?_, fun hc_z => absurd (by decide) hc_z⟩
    refine zq (σ := σ) hV hI rfl 2 ?_
    show K (some (.int (-2147483648))) σ
    exact hBad (fun q_z => hb1 q_z.1)
set_option maxRecDepth 8000 in
set_option maxHeartbeats 4000000 in
theorem copy_M {d : Nat} {σ : zSt} {K : Option Value → zSt → Prop} {s i t j c : Int32} (hI : zQI (kR 30 52) σ.2.2) (hL : ∀ k, k < 4 → 0 ≤ σ.1 48 k → ∃ l, σ.1 49 k = nI l ∧ l ≤ 60) (hBad : ¬ (zBt 0 3 s ∧ zBt 0 3 t) → K (some (.int (-2))) σ) (hNull : ∀ a b, s = nI a → a < 4 → t = nI b → b < 4 → (¬ 0 ≤ σ.1 48 a ∨ ¬ 0 ≤ σ.1 48 b) → K (some (.int (-10 - 1))) (zuI σ 30 35 1)) (hStore : ∀ a b, s = nI a → a < 4 → t = nI b → b < 4 → 0 ≤ σ.1 48 a → 0 ≤ σ.1 48 b → ¬ σ.1 48 a = σ.1 48 b → K (some (.int (-10 - 4))) (zuI σ 30 35 4))
    (hIndex : ∀ a b la lb, s = nI a → a < 4 → t = nI b → b < 4 → 0 ≤ σ.1 48 a → 0 ≤ σ.1 48 b → σ.1 48 a = σ.1 48 b → σ.1 49 a = nI la → σ.1 49 b = nI lb → ¬ ((0 ≤ i.toInt ∧ 0 ≤ c.toInt ∧ i.toInt + c.toInt ≤ (la : Int)) ∧ (0 ≤ j.toInt ∧ 0 ≤ c.toInt ∧ j.toInt + c.toInt ≤ (lb : Int))) → K (some (.int (-10 - 2))) (zuI σ 30 35 2))
    (hOk : ∀ τ a b la lb i0 j0 c0, s = nI a → a < 4 → t = nI b → b < 4 → 0 ≤ σ.1 48 a → 0 ≤ σ.1 48 b → σ.1 48 a = σ.1 48 b → σ.1 49 a = nI la → la ≤ 60 → σ.1 49 b = nI lb → lb ≤ 60 → i = nI i0 → j = nI j0 → c = nI c0 → i0 + c0 ≤ la → j0 + c0 ≤ lb → zOnly (zfCpM (b * 60 + j0) c0) σ τ → (∀ q, q < c0 → τ.1 50 (b * 60 + (j0 + q)) = σ.1 50 (a * 60 + (i0 + q))) → K (some (.int 1)) τ) : zSp (d + 3) mX9_copy [.ref 30, .int s, .int i, .int t, .int j, .int c] σ K := by
  refine ⟨⟨by decide, Nat.le_of_ble_eq_true rfl⟩, fun V hV => ?_⟩
  refine zq (σ := σ) hV hI rfl 2 ?_
  show zSp _ 187 [.int s] σ (fun r_z σ' => σ'.2.2.2 = σ.2.2.2 + zAl 187 → V 4 [(0, .ref 30), (1, .int s), (2, .int i), (3, .int t), (4, .int j), (5, .int c)] (r_z.toList ++ []) σ')
  refine isSheet_M (fun hb1 _ => ?_) (fun hb1 _ => ?_)
  · skip
    refine zq (σ := σ) hV hI rfl 1 ?_
    show ((1 : Int32) = 0 → V 14 [(0, .ref 30), (1, .int s), (2, .int i), (3, .int t), (4, .int j), (5, .int c)] [] σ) ∧ (¬ (1 : Int32) = 0 → V 7 [(0, .ref 30), (1, .int s), (2, .int i), (3, .int t), (4, .int j), (5, .int c)] [] σ)
    refine ⟨fun hc_z => absurd hc_z (by decide), fun _ => ?_⟩
    refine zq (σ := σ) hV hI rfl 2 ?_
    show zSp _ 187 [.int t] σ (fun r_z σ' => σ'.2.2.2 = σ.2.2.2 + zAl 187 → V 11 [(0, .ref 30), (1, .int s), (2, .int i), (3, .int t), (4, .int j), (5, .int c)] (r_z.toList ++ []) σ')
    refine isSheet_M (fun hb2 _ => ?_) (fun hb2 _ => ?_)
    · skip
      refine zq (σ := σ) hV hI rfl 1 ?_
      show (¬ (1 : Int32) = 0 → V 17 [(0, .ref 30), (1, .int s), (2, .int i), (3, .int t), (4, .int j), (5, .int c)] [] σ) ∧ (¬ (¬ (1 : Int32) = 0) → V 14 [(0, .ref 30), (1, .int s), (2, .int i), (3, .int t), (4, .int j), (5, .int c)] [] σ)
      refine ⟨fun _ => ?_, fun hc_z => absurd (by decide) hc_z⟩
      have hv := (⟨hb1, hb2⟩ : zBt 0 3 s ∧ zBt 0 3 t)
      obtain ⟨ks_z, hks, _, _⟩ := zNat (x := s) (by unfold zBt at hb1; omega)
      have hks4 : ks_z < 4 := by unfold zBt at hb1; omega
      subst hks
      obtain ⟨kt, hkt, _, _⟩ := zNat (x := t) (by unfold zBt at hb2; omega)
      have hkt4 : kt < 4 := by unfold zBt at hb2; omega
      subst hkt
      refine zq (σ := σ) hV hI rfl 4 ?_
      show vp_in (nI ks_z) 4 ∧ V 23 [(0, .ref 30), (1, .int (nI ks_z)), (2, .int i), (3, .int (nI kt)), (4, .int j), (5, .int c)] [.int (σ.1 48 (Int32.toNatClampNeg (nI ks_z)))] σ
      refine ⟨zix (k := ks_z) rfl (by omega) (by decide), ?_⟩
      rw [zcl_k (i := (nI ks_z)) (k := ks_z) rfl (by omega)]
      refine zq (σ := σ) hV hI rfl 1 ?_
      show ((σ.1 48 ks_z) < 0 → V 35 [(0, .ref 30), (1, .int (nI ks_z)), (2, .int i), (3, .int (nI kt)), (4, .int j), (5, .int c)] [] σ) ∧ (¬ (σ.1 48 ks_z) < 0 → V 26 [(0, .ref 30), (1, .int (nI ks_z)), (2, .int i), (3, .int (nI kt)), (4, .int j), (5, .int c)] [] σ)
      refine ⟨fun h_23 => ?_, fun h_23 => ?_⟩
      · skip
        refine zq (σ := σ) hV hI rfl 3 ?_
        show zSp _ 186 [.ref 30, .int 1] σ (fun r_z σ' => σ'.2.2.2 = σ.2.2.2 + zAl 186 → V 40 [(0, .ref 30), (1, .int (nI ks_z)), (2, .int i), (3, .int (nI kt)), (4, .int j), (5, .int c)] (r_z.toList ++ []) σ')
        refine met_M hI (fun _ => ?_)
        refine zq (σ := (zuI σ 30 35 1)) hV hI rfl 1 ?_
        show K (some (.int ((-10) - 1))) (zuI σ 30 35 1)
        exact hNull ks_z kt rfl hks4 rfl hkt4 (Or.inl (Int32.not_le.mpr h_23))
      · skip
        refine zq (σ := σ) hV hI rfl 4 ?_
        show vp_in (nI kt) 4 ∧ V 32 [(0, .ref 30), (1, .int (nI ks_z)), (2, .int i), (3, .int (nI kt)), (4, .int j), (5, .int c)] [.int (σ.1 48 (Int32.toNatClampNeg (nI kt)))] σ
        refine ⟨zix (k := kt) rfl (by omega) (by decide), ?_⟩
        rw [zcl_k (i := (nI kt)) (k := kt) rfl (by omega)]
        refine zq (σ := σ) hV hI rfl 1 ?_
        show (0 ≤ (σ.1 48 kt) → V 41 [(0, .ref 30), (1, .int (nI ks_z)), (2, .int i), (3, .int (nI kt)), (4, .int j), (5, .int c)] [] σ) ∧ (¬ 0 ≤ (σ.1 48 kt) → V 35 [(0, .ref 30), (1, .int (nI ks_z)), (2, .int i), (3, .int (nI kt)), (4, .int j), (5, .int c)] [] σ)
        refine ⟨fun h_32 => ?_, fun h_32 => ?_⟩
        · skip
          refine zq (σ := σ) hV hI rfl 4 ?_
          show vp_in (nI ks_z) 4 ∧ V 47 [(0, .ref 30), (1, .int (nI ks_z)), (2, .int i), (3, .int (nI kt)), (4, .int j), (5, .int c)] [.int (σ.1 48 (Int32.toNatClampNeg (nI ks_z)))] σ
          refine ⟨zix (k := ks_z) rfl (by omega) (by decide), ?_⟩
          rw [zcl_k (i := (nI ks_z)) (k := ks_z) rfl (by omega)]
          refine zq (σ := σ) hV hI rfl 4 ?_
          show vp_in (nI kt) 4 ∧ V 53 [(0, .ref 30), (1, .int (nI ks_z)), (2, .int i), (3, .int (nI kt)), (4, .int j), (5, .int c)] [.int (σ.1 48 (Int32.toNatClampNeg (nI kt))), .int (σ.1 48 ks_z)] σ
          refine ⟨zix (k := kt) rfl (by omega) (by decide), ?_⟩
          rw [zcl_k (i := (nI kt)) (k := kt) rfl (by omega)]
          refine zq (σ := σ) hV hI rfl 1 ?_
          show ((σ.1 48 ks_z) = (σ.1 48 kt) → V 62 [(0, .ref 30), (1, .int (nI ks_z)), (2, .int i), (3, .int (nI kt)), (4, .int j), (5, .int c)] [] σ) ∧ (¬ (σ.1 48 ks_z) = (σ.1 48 kt) → V 56 [(0, .ref 30), (1, .int (nI ks_z)), (2, .int i), (3, .int (nI kt)), (4, .int j), (5, .int c)] [] σ)
          refine ⟨fun h_53 => ?_, fun h_53 => ?_⟩
          · skip
            have g1 : 0 ≤ σ.1 48 ks_z := Int32.not_lt.mp h_23
            have g2 : 0 ≤ σ.1 48 kt := h_32
            obtain ⟨la, hla, hla60⟩ := hL ks_z hks4 g1
            obtain ⟨lb, hlb, hlb60⟩ := hL kt hkt4 g2
            have e1_z : (Int32.toInt64 i + Int32.toInt64 c).toInt = i.toInt + c.toInt := by have x1_z := zR32 i; have x2_z := zR32 c; rw [zadd64 (by rw [zL, zL]; omega), zL, zL]
            have e2_z : (Int32.toInt64 j + Int32.toInt64 c).toInt = j.toInt + c.toInt := by have x1_z := zR32 j; have x2_z := zR32 c; rw [zadd64 (by rw [zL, zL]; omega), zL, zL]
            refine zq (σ := σ) hV hI rfl 2 ?_
            show (i < 0 → V 111 [(0, .ref 30), (1, .int (nI ks_z)), (2, .int i), (3, .int (nI kt)), (4, .int j), (5, .int c)] [] σ) ∧ (¬ i < 0 → V 66 [(0, .ref 30), (1, .int (nI ks_z)), (2, .int i), (3, .int (nI kt)), (4, .int j), (5, .int c)] [] σ)
            refine ⟨fun h_63 => ?_, fun h_63 => ?_⟩
            · skip
              refine zq (σ := σ) hV hI rfl 3 ?_
              show zSp _ 186 [.ref 30, .int 2] σ (fun r_z σ' => σ'.2.2.2 = σ.2.2.2 + zAl 186 → V 116 [(0, .ref 30), (1, .int (nI ks_z)), (2, .int i), (3, .int (nI kt)), (4, .int j), (5, .int c)] (r_z.toList ++ []) σ')
              refine met_M hI (fun _ => ?_)
              refine zq (σ := (zuI σ 30 35 2)) hV hI rfl 1 ?_
              show K (some (.int ((-10) - 2))) (zuI σ 30 35 2)
              rw [zlt, zT_lits.1] at h_63
              exact hIndex ks_z kt la lb rfl hks4 rfl hkt4 g1 g2 h_53 hla hlb (by omega)
            · skip
              refine zq (σ := σ) hV hI rfl 2 ?_
              show (j < 0 → V 111 [(0, .ref 30), (1, .int (nI ks_z)), (2, .int i), (3, .int (nI kt)), (4, .int j), (5, .int c)] [] σ) ∧ (¬ j < 0 → V 71 [(0, .ref 30), (1, .int (nI ks_z)), (2, .int i), (3, .int (nI kt)), (4, .int j), (5, .int c)] [] σ)
              refine ⟨fun h_68 => ?_, fun h_68 => ?_⟩
              · skip
                refine zq (σ := σ) hV hI rfl 3 ?_
                show zSp _ 186 [.ref 30, .int 2] σ (fun r_z σ' => σ'.2.2.2 = σ.2.2.2 + zAl 186 → V 116 [(0, .ref 30), (1, .int (nI ks_z)), (2, .int i), (3, .int (nI kt)), (4, .int j), (5, .int c)] (r_z.toList ++ []) σ')
                refine met_M hI (fun _ => ?_)
                refine zq (σ := (zuI σ 30 35 2)) hV hI rfl 1 ?_
                show K (some (.int ((-10) - 2))) (zuI σ 30 35 2)
                rw [zlt, zT_lits.1] at h_63
                rw [zlt, zT_lits.1] at h_68
                exact hIndex ks_z kt la lb rfl hks4 rfl hkt4 g1 g2 h_53 hla hlb (by omega)
              · skip
                refine zq (σ := σ) hV hI rfl 2 ?_
                show (c < 0 → V 111 [(0, .ref 30), (1, .int (nI ks_z)), (2, .int i), (3, .int (nI kt)), (4, .int j), (5, .int c)] [] σ) ∧ (¬ c < 0 → V 76 [(0, .ref 30), (1, .int (nI ks_z)), (2, .int i), (3, .int (nI kt)), (4, .int j), (5, .int c)] [] σ)
                refine ⟨fun h_73 => ?_, fun h_73 => ?_⟩
                · skip
                  refine zq (σ := σ) hV hI rfl 3 ?_
                  show zSp _ 186 [.ref 30, .int 2] σ (fun r_z σ' => σ'.2.2.2 = σ.2.2.2 + zAl 186 → V 116 [(0, .ref 30), (1, .int (nI ks_z)), (2, .int i), (3, .int (nI kt)), (4, .int j), (5, .int c)] (r_z.toList ++ []) σ')
                  refine met_M hI (fun _ => ?_)
                  refine zq (σ := (zuI σ 30 35 2)) hV hI rfl 1 ?_
                  show K (some (.int ((-10) - 2))) (zuI σ 30 35 2)
                  rw [zlt, zT_lits.1] at h_63
                  rw [zlt, zT_lits.1] at h_68
                  rw [zlt, zT_lits.1] at h_73
                  exact hIndex ks_z kt la lb rfl hks4 rfl hkt4 g1 g2 h_53 hla hlb (by omega)
                · skip
                  refine zq (σ := σ) hV hI rfl 9 ?_
                  show vp_in (nI ks_z) 4 ∧ V 88 [(0, .ref 30), (1, .int (nI ks_z)), (2, .int i), (3, .int (nI kt)), (4, .int j), (5, .int c)] [.int (σ.1 49 (Int32.toNatClampNeg (nI ks_z))), .long ((Int32.toInt64 i) + (Int32.toInt64 c))] σ
                  refine ⟨zix (k := ks_z) rfl (by omega) (by decide), ?_⟩
                  rw [zcl_k (i := (nI ks_z)) (k := ks_z) rfl (by omega)]
                  refine zq (σ := σ) hV hI rfl 3 ?_
                  show (0 < (lg_cmp ((Int32.toInt64 i) + (Int32.toInt64 c)) (Int32.toInt64 (σ.1 49 ks_z))) → V 111 [(0, .ref 30), (1, .int (nI ks_z)), (2, .int i), (3, .int (nI kt)), (4, .int j), (5, .int c)] [] σ) ∧ (¬ 0 < (lg_cmp ((Int32.toInt64 i) + (Int32.toInt64 c)) (Int32.toInt64 (σ.1 49 ks_z))) → V 93 [(0, .ref 30), (1, .int (nI ks_z)), (2, .int i), (3, .int (nI kt)), (4, .int j), (5, .int c)] [] σ)
                  refine ⟨fun h_90 => ?_, fun h_90 => ?_⟩
                  · skip
                    refine zq (σ := σ) hV hI rfl 3 ?_
                    show zSp _ 186 [.ref 30, .int 2] σ (fun r_z σ' => σ'.2.2.2 = σ.2.2.2 + zAl 186 → V 116 [(0, .ref 30), (1, .int (nI ks_z)), (2, .int i), (3, .int (nI kt)), (4, .int j), (5, .int c)] (r_z.toList ++ []) σ')
                    refine met_M hI (fun _ => ?_)
                    refine zq (σ := (zuI σ 30 35 2)) hV hI rfl 1 ?_
                    show K (some (.int ((-10) - 2))) (zuI σ 30 35 2)
                    rw [zlt, zT_lits.1] at h_63
                    rw [zlt, zT_lits.1] at h_68
                    rw [zlt, zT_lits.1] at h_73
                    rw [zcmp_gt, zlt64, e1_z, zL, hla, nI_toInt (by omega)] at h_90
                    exact hIndex ks_z kt la lb rfl hks4 rfl hkt4 g1 g2 h_53 hla hlb (by omega)
                  · skip
                    refine zq (σ := σ) hV hI rfl 9 ?_
                    show vp_in (nI kt) 4 ∧ V 106 [(0, .ref 30), (1, .int (nI ks_z)), (2, .int i), (3, .int (nI kt)), (4, .int j), (5, .int c)] [.int (σ.1 49 (Int32.toNatClampNeg (nI kt))), .long ((Int32.toInt64 j) + (Int32.toInt64 c))] σ
                    refine ⟨zix (k := kt) rfl (by omega) (by decide), ?_⟩
                    rw [zcl_k (i := (nI kt)) (k := kt) rfl (by omega)]
                    refine zq (σ := σ) hV hI rfl 3 ?_
                    show ((lg_cmp ((Int32.toInt64 j) + (Int32.toInt64 c)) (Int32.toInt64 (σ.1 49 kt))) ≤ 0 → V 117 [(0, .ref 30), (1, .int (nI ks_z)), (2, .int i), (3, .int (nI kt)), (4, .int j), (5, .int c)] [] σ) ∧ (¬ (lg_cmp ((Int32.toInt64 j) + (Int32.toInt64 c)) (Int32.toInt64 (σ.1 49 kt))) ≤ 0 → V 111 [(0, .ref 30), (1, .int (nI ks_z)), (2, .int i), (3, .int (nI kt)), (4, .int j), (5, .int c)] [] σ)
                    refine ⟨fun h_108 => ?_, fun h_108 => ?_⟩
                    · skip
                      rw [zlt, zT_lits.1] at h_63
                      rw [zlt, zT_lits.1] at h_68
                      rw [zlt, zT_lits.1] at h_73
                      rw [zcmp_gt, zlt64, e1_z, zL, hla, nI_toInt (by omega)] at h_90
                      rw [zcmp_le, zle64, e2_z, zL, hlb, nI_toInt (by omega)] at h_108
                      have hrun : ((0 ≤ i.toInt ∧ 0 ≤ c.toInt ∧ i.toInt + c.toInt ≤ (la : Int)) ∧ (0 ≤ j.toInt ∧ 0 ≤ c.toInt ∧ j.toInt + c.toInt ≤ (lb : Int))) := by omega
                      obtain ⟨i0_z, hi0_z, _, _⟩ := zNat (x := i) hrun.1.1
                      obtain ⟨j0, hj0, _, _⟩ := zNat (x := j) hrun.2.1
                      obtain ⟨c0_z, hc0, _, _⟩ := zNat (x := c) hrun.1.2.1
                      have hic : i0_z + c0_z ≤ la := by have := hrun.1.2.2; omega
                      have hjc : j0 + c0_z ≤ lb := by have := hrun.2.2.2; omega
                      subst hi0_z
                      subst hj0
                      subst hc0
                      refine zq (σ := σ) hV hI rfl 2 ?_
                      show V 120 [(6, .int 0), (0, .ref 30), (1, .int (nI ks_z)), (2, .int (nI i0_z)), (3, .int (nI kt)), (4, .int (nI j0)), (5, .int (nI c0_z))] [] σ
                      refine zwk hV [1, 2, 3, 4, 5, 6, 0] rfl ?_
                      have Hp : ∀ (r_z : Nat) (p_z : Nat) (τ : zSt), p_z + r_z = c0_z → zOnly (fun a_z _ => Nat.beq a_z 51) σ τ → (∀ q_z, q_z < p_z → τ.1 51 q_z = σ.1 50 (ks_z * 60 + (i0_z + q_z))) → V 120 [(0, .ref 30), (1, .int (nI ks_z)), (2, .int (nI i0_z)), (3, .int (nI kt)), (4, .int (nI j0)), (5, .int (nI c0_z)), (6, .int (nI p_z))] [] τ := by
                        intro r_z
                        induction r_z with
                        | zero =>
                          intro p_z τ hpr ht hmv
                          have hIτ := zQI_eq hI ht.2.2
                          have hnτ : τ.2.2.2 = σ.2.2.2 := congrArg Prod.snd ht.2.2
                          refine zq (σ := τ) hV hIτ hnτ 3 ?_
                          show ((nI c0_z) ≤ (nI p_z) → V 154 [(0, .ref 30), (1, .int (nI ks_z)), (2, .int (nI i0_z)), (3, .int (nI kt)), (4, .int (nI j0)), (5, .int (nI c0_z)), (6, .int (nI p_z))] [] τ) ∧ (¬ (nI c0_z) ≤ (nI p_z) → V 127 [(0, .ref 30), (1, .int (nI ks_z)), (2, .int (nI i0_z)), (3, .int (nI kt)), (4, .int (nI j0)), (5, .int (nI c0_z)), (6, .int (nI p_z))] [] τ)
                          refine ⟨fun _ => ?_, fun hc_z => absurd (show nI c0_z ≤ nI p_z from zge_self (by omega)) hc_z⟩
                          refine zq (σ := τ) hV hIτ hnτ 2 ?_
                          show V 157 [(6, .int 0), (0, .ref 30), (1, .int (nI ks_z)), (2, .int (nI i0_z)), (3, .int (nI kt)), (4, .int (nI j0)), (5, .int (nI c0_z))] [] τ
                          refine zwk hV [1, 2, 3, 4, 5, 6, 0] rfl ?_
                          have Hq : ∀ (r_z : Nat) (q_z : Nat) (υ : zSt), q_z + r_z = c0_z → zOnly (zfCpM (kt * 60 + j0) c0_z) σ υ → υ.1 51 = τ.1 51 → (∀ x_z, x_z < q_z → υ.1 50 (kt * 60 + (j0 + x_z)) = σ.1 50 (ks_z * 60 + (i0_z + x_z))) → V 157 [(0, .ref 30), (1, .int (nI ks_z)), (2, .int (nI i0_z)), (3, .int (nI kt)), (4, .int (nI j0)), (5, .int (nI c0_z)), (6, .int (nI q_z))] [] υ := by
                            intro r_z
                            induction r_z with
                            | zero =>
                              intro q_z υ hqr hu h51 hwr
                              have hIυ := zQI_eq hI hu.2.2
                              have hnυ : υ.2.2.2 = σ.2.2.2 := congrArg Prod.snd hu.2.2
                              have hm51 : υ.1 51 = τ.1 51 := h51
                              refine zq (σ := υ) hV hIυ hnυ 3 ?_
                              show ((nI c0_z) ≤ (nI q_z) → V 192 [(0, .ref 30), (1, .int (nI ks_z)), (2, .int (nI i0_z)), (3, .int (nI kt)), (4, .int (nI j0)), (5, .int (nI c0_z)), (6, .int (nI q_z))] [] υ) ∧ (¬ (nI c0_z) ≤ (nI q_z) → V 164 [(0, .ref 30), (1, .int (nI ks_z)), (2, .int (nI i0_z)), (3, .int (nI kt)), (4, .int (nI j0)), (5, .int (nI c0_z)), (6, .int (nI q_z))] [] υ)
                              refine ⟨fun _ => ?_, fun hc_z => absurd (show nI c0_z ≤ nI q_z from zge_self (by omega)) hc_z⟩
                              refine zq (σ := υ) hV hIυ hnυ 2 ?_
                              show K (some (.int 1)) υ
                              have hqc : q_z = c0_z := by omega
                              rw [hqc] at hwr
                              exact hOk υ ks_z kt la lb i0_z j0 c0_z rfl hks4 rfl hkt4 g1 g2 h_53 hla hla60 hlb hlb60 rfl rfl rfl hic hjc hu hwr
                            | succ r_z ihq =>
                              intro q_z υ hqr hu h51 hwr
                              have hIυ := zQI_eq hI hu.2.2
                              have hnυ : υ.2.2.2 = σ.2.2.2 := congrArg Prod.snd hu.2.2
                              have hm51 : υ.1 51 = τ.1 51 := h51
                              refine zq (σ := υ) hV hIυ hnυ 3 ?_
                              show ((nI c0_z) ≤ (nI q_z) → V 192 [(0, .ref 30), (1, .int (nI ks_z)), (2, .int (nI i0_z)), (3, .int (nI kt)), (4, .int (nI j0)), (5, .int (nI c0_z)), (6, .int (nI q_z))] [] υ) ∧ (¬ (nI c0_z) ≤ (nI q_z) → V 164 [(0, .ref 30), (1, .int (nI ks_z)), (2, .int (nI i0_z)), (3, .int (nI kt)), (4, .int (nI j0)), (5, .int (nI c0_z)), (6, .int (nI q_z))] [] υ)
                              refine ⟨fun hc_z => absurd hc_z (show ¬ nI c0_z ≤ nI q_z from nI_ge (by omega) (by omega)), fun _ => ?_⟩
                              refine zq (σ := υ) hV hIυ hnυ 13 ?_
                              show vp_in (nI q_z) 60 ∧ V 185 [(0, .ref 30), (1, .int (nI ks_z)), (2, .int (nI i0_z)), (3, .int (nI kt)), (4, .int (nI j0)), (5, .int (nI c0_z)), (6, .int (nI q_z))] [.int (υ.1 51 (Int32.toNatClampNeg (nI q_z))), .int (((60 * (nI kt)) + (nI j0)) + (nI q_z)), .ref 50] υ
                              refine ⟨zix (k := q_z) rfl (by omega) (by decide), ?_⟩
                              rw [zcl_k (i := (nI q_z)) (k := q_z) rfl (by omega)]
                              refine zq (σ := υ) hV hIυ hnυ 1 ?_
                              show vp_in (((60 * (nI kt)) + (nI j0)) + (nI q_z)) 240 ∧ V 186 [(0, .ref 30), (1, .int (nI ks_z)), (2, .int (nI i0_z)), (3, .int (nI kt)), (4, .int (nI j0)), (5, .int (nI c0_z)), (6, .int (nI q_z))] [] (zuI υ 50 (Int32.toNatClampNeg (((60 * (nI kt)) + (nI j0)) + (nI q_z))) (υ.1 51 q_z))
                              refine ⟨zix (k := (kt * 60 + (j0 + q_z))) zx60p (by omega) (by decide), ?_⟩
                              rw [zcl_k (i := (((60 * (nI kt)) + (nI j0)) + (nI q_z))) (k := (kt * 60 + (j0 + q_z))) zx60p (by omega)]
                              refine zq (σ := (zuI υ 50 (kt * 60 + (j0 + q_z)) (υ.1 51 q_z))) hV hIυ hnυ 2 ?_
                              show V 157 [(6, .int ((nI q_z) + 1)), (0, .ref 30), (1, .int (nI ks_z)), (2, .int (nI i0_z)), (3, .int (nI kt)), (4, .int (nI j0)), (5, .int (nI c0_z))] [] (zuI υ 50 (kt * 60 + (j0 + q_z)) (υ.1 51 q_z))
                              refine zwk hV [1, 2, 3, 4, 5, 6, 0] rfl ?_
                              rw [nI_1]
                              refine ihq (q_z + 1) _ (by omega) (hu.uI (by unfold zfCpM; simp; omega)) h51 (fun x_z hx => ?_)
                              rw [zuI_get]
                              by_cases e_z : x_z = q_z
                              · subst e_z; rw [if_pos ⟨rfl, rfl⟩, hm51]; exact hmv x_z (by omega)
                              · rw [if_neg (by omega)]; exact hwr x_z (by omega)
                          exact Hq c0_z 0 τ (by omega) (ht.wk (fun a_z c h_z => (Bool.or_eq_false_iff.mp h_z).2)) rfl (fun x_z c => absurd c (Nat.not_lt_zero x_z))
                        | succ r_z ihp =>
                          intro p_z τ hpr ht hmv
                          have hIτ := zQI_eq hI ht.2.2
                          have hnτ : τ.2.2.2 = σ.2.2.2 := congrArg Prod.snd ht.2.2
                          refine zq (σ := τ) hV hIτ hnτ 3 ?_
                          show ((nI c0_z) ≤ (nI p_z) → V 154 [(0, .ref 30), (1, .int (nI ks_z)), (2, .int (nI i0_z)), (3, .int (nI kt)), (4, .int (nI j0)), (5, .int (nI c0_z)), (6, .int (nI p_z))] [] τ) ∧ (¬ (nI c0_z) ≤ (nI p_z) → V 127 [(0, .ref 30), (1, .int (nI ks_z)), (2, .int (nI i0_z)), (3, .int (nI kt)), (4, .int (nI j0)), (5, .int (nI c0_z)), (6, .int (nI p_z))] [] τ)
                          refine ⟨fun hc_z => absurd hc_z (show ¬ nI c0_z ≤ nI p_z from nI_ge (by omega) (by omega)), fun _ => ?_⟩
                          refine zq (σ := τ) hV hIτ hnτ 13 ?_
                          show vp_in (((60 * (nI ks_z)) + (nI i0_z)) + (nI p_z)) 240 ∧ V 147 [(0, .ref 30), (1, .int (nI ks_z)), (2, .int (nI i0_z)), (3, .int (nI kt)), (4, .int (nI j0)), (5, .int (nI c0_z)), (6, .int (nI p_z))] [.int (τ.1 50 (Int32.toNatClampNeg (((60 * (nI ks_z)) + (nI i0_z)) + (nI p_z)))), .int (nI p_z), .ref 51] τ
                          refine ⟨zix (k := (ks_z * 60 + (i0_z + p_z))) zx60p (by omega) (by decide), ?_⟩
                          rw [zcl_k (i := (((60 * (nI ks_z)) + (nI i0_z)) + (nI p_z))) (k := (ks_z * 60 + (i0_z + p_z))) zx60p (by omega)]
                          refine zq (σ := τ) hV hIτ hnτ 1 ?_
                          show vp_in (nI p_z) 60 ∧ V 148 [(0, .ref 30), (1, .int (nI ks_z)), (2, .int (nI i0_z)), (3, .int (nI kt)), (4, .int (nI j0)), (5, .int (nI c0_z)), (6, .int (nI p_z))] [] (zuI τ 51 (Int32.toNatClampNeg (nI p_z)) (τ.1 50 (ks_z * 60 + (i0_z + p_z))))
                          refine ⟨zix (k := p_z) rfl (by omega) (by decide), ?_⟩
                          rw [zcl_k (i := (nI p_z)) (k := p_z) rfl (by omega)]
                          refine zq (σ := (zuI τ 51 p_z (τ.1 50 (ks_z * 60 + (i0_z + p_z))))) hV hIτ hnτ 2 ?_
                          show V 120 [(6, .int ((nI p_z) + 1)), (0, .ref 30), (1, .int (nI ks_z)), (2, .int (nI i0_z)), (3, .int (nI kt)), (4, .int (nI j0)), (5, .int (nI c0_z))] [] (zuI τ 51 p_z (τ.1 50 (ks_z * 60 + (i0_z + p_z))))
                          refine zwk hV [1, 2, 3, 4, 5, 6, 0] rfl ?_
                          rw [nI_1]
                          refine ihp (p_z + 1) _ (by omega) (ht.uI rfl) (fun q_z hq => ?_)
                          rw [zuI_get]
                          by_cases e_z : q_z = p_z
                          · subst e_z; rw [if_pos ⟨rfl, rfl⟩]; exact ht.1 50 _ rfl
                          · rw [if_neg (fun x_z => e_z x_z.2)]; exact hmv q_z (by omega)
                      exact Hp c0_z 0 σ (by omega) zOnly.rf (fun q_z c => absurd c (Nat.not_lt_zero q_z))
                    · skip
                      refine zq (σ := σ) hV hI rfl 3 ?_
                      show zSp _ 186 [.ref 30, .int 2] σ (fun r_z σ' => σ'.2.2.2 = σ.2.2.2 + zAl 186 → V 116 [(0, .ref 30), (1, .int (nI ks_z)), (2, .int i), (3, .int (nI kt)), (4, .int j), (5, .int c)] (r_z.toList ++ []) σ')
                      refine met_M hI (fun _ => ?_)
                      refine zq (σ := (zuI σ 30 35 2)) hV hI rfl 1 ?_
                      show K (some (.int ((-10) - 2))) (zuI σ 30 35 2)
                      rw [zlt, zT_lits.1] at h_63
                      rw [zlt, zT_lits.1] at h_68
                      rw [zlt, zT_lits.1] at h_73
                      rw [zcmp_gt, zlt64, e1_z, zL, hla, nI_toInt (by omega)] at h_90
                      rw [zcmp_le, zle64, e2_z, zL, hlb, nI_toInt (by omega)] at h_108
                      exact hIndex ks_z kt la lb rfl hks4 rfl hkt4 g1 g2 h_53 hla hlb (by omega)
          · skip
            refine zq (σ := σ) hV hI rfl 3 ?_
            show zSp _ 186 [.ref 30, .int 4] σ (fun r_z σ' => σ'.2.2.2 = σ.2.2.2 + zAl 186 → V 61 [(0, .ref 30), (1, .int (nI ks_z)), (2, .int i), (3, .int (nI kt)), (4, .int j), (5, .int c)] (r_z.toList ++ []) σ')
            refine met_M hI (fun _ => ?_)
            refine zq (σ := (zuI σ 30 35 4)) hV hI rfl 1 ?_
            show K (some (.int ((-10) - 4))) (zuI σ 30 35 4)
            exact hStore ks_z kt rfl hks4 rfl hkt4 (Int32.not_lt.mp h_23) h_32 h_53
        · skip
          refine zq (σ := σ) hV hI rfl 3 ?_
          show zSp _ 186 [.ref 30, .int 1] σ (fun r_z σ' => σ'.2.2.2 = σ.2.2.2 + zAl 186 → V 40 [(0, .ref 30), (1, .int (nI ks_z)), (2, .int i), (3, .int (nI kt)), (4, .int j), (5, .int c)] (r_z.toList ++ []) σ')
          refine met_M hI (fun _ => ?_)
          refine zq (σ := (zuI σ 30 35 1)) hV hI rfl 1 ?_
          show K (some (.int ((-10) - 1))) (zuI σ 30 35 1)
          exact hNull ks_z kt rfl hks4 rfl hkt4 (Or.inr h_32)
    · skip
      refine zq (σ := σ) hV hI rfl 1 ?_
      show (¬ (0 : Int32) = 0 → V 17 [(0, .ref 30), (1, .int s), (2, .int i), (3, .int t), (4, .int j), (5, .int c)] [] σ) ∧ (¬ (¬ (0 : Int32) = 0) → V 14 [(0, .ref 30), (1, .int s), (2, .int i), (3, .int t), (4, .int j), (5, .int c)] [] σ)
      refine ⟨fun hc_z => absurd hc_z (by decide), fun _ => ?_⟩
      refine zq (σ := σ) hV hI rfl 2 ?_
      show K (some (.int (-2))) σ
      exact hBad (fun q_z => hb2 q_z.2)
  · skip
    refine zq (σ := σ) hV hI rfl 1 ?_
    show ((0 : Int32) = 0 → V 14 [(0, .ref 30), (1, .int s), (2, .int i), (3, .int t), (4, .int j), (5, .int c)] [] σ) ∧ (¬ (0 : Int32) = 0 → V 7 [(0, .ref 30), (1, .int s), (2, .int i), (3, .int t), (4, .int j), (5, .int c)] [] σ)
    refine ⟨fun _ => ?_, fun hc_z => absurd (by decide) hc_z⟩
    refine zq (σ := σ) hV hI rfl 2 ?_
    show K (some (.int (-2))) σ
    exact hBad (fun q_z => hb1 q_z.1)
