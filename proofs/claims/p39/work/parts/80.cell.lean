variable {zx : Nat × (Nat → Int32)}
/-- cell k of the script -/
def zCe (zx : Nat × (Nat → Int32)) (k : Nat) : Int32 := if k < zx.1 then zx.2 k else 763049417 * (nI k + 3)
/-- a number from 0 on below n -/
def zUp (x : Int32) (n : Nat) : Nat := (x.toBitVec.toNat % 2 ^ 31) % n
theorem zUp_lt {x : Int32} {n : Nat} (h : 0 < n) : zUp x n < n := Nat.mod_lt _ h
set_option maxRecDepth 8000 in
theorem cell_ok {d : Nat} {σ : zSt} {K : Option Value → zSt → Prop} {i : Int32} {k : Nat} (hL : zx.1 ≤ 260) (e : i = nI k) (hk : k < 1000) (hK : K (some (.int (zCe zx k))) σ) : zSp zx (d + 1) mL_cell [.ref zsc, .int i] σ K := by
  subst e
  refine ⟨⟨by decide, Nat.le_of_ble_eq_true rfl⟩, fun V hV => ?_⟩
  refine zq (σ := σ) hV zQI_0 rfl 4 ?_
  show (nI zx.1 ≤ nI k → V 12 [(0, .ref zsc), (1, .int (nI k))] [] σ) ∧ (¬ nI zx.1 ≤ nI k → V 6 [(0, .ref zsc), (1, .int (nI k))] [] σ)
  refine ⟨fun h => ?_, fun h => ?_⟩
  · have h2 := (nI_leI (a := zx.1) (b := k) (by omega) (by omega)).mp h
    refine zq (σ := σ) hV zQI_0 rfl 6 ?_
    show K (some (.int (763049417 * (nI k + 3)))) σ
    unfold zCe at hK
    rw [if_neg (by omega)] at hK
    exact hK
  · have h2 : k < zx.1 := Nat.not_le.mp (fun q => h ((nI_leI (a := zx.1) (b := k) (by omega) (by omega)).mpr q))
    refine zq (σ := σ) hV zQI_0 rfl 3 ?_
    show vp_in (nI k) zx.1 ∧ V 9 [(0, .ref zsc), (1, .int (nI k))] [.int (zx.2 (Int32.toNatClampNeg (nI k)))] σ
    refine ⟨vp_in_nI h2 (by omega), ?_⟩
    rw [nI_clamp (by omega)]
    refine zq (σ := σ) hV zQI_0 rfl 2 ?_
    show K (some (.int (zx.2 k))) σ
    unfold zCe at hK
    rw [if_pos h2] at hK
    exact hK
set_option maxRecDepth 8000 in
theorem up_ok {d : Nat} {σ : zSt} {K : Option Value → zSt → Prop} {x y : Int32} {n : Nat} (e : y = nI n) (h0 : 0 < n) (hn : n < 1000) (hK : K (some (.int (nI (zUp x n)))) σ) : zSp zx (d + 1) mL_up [.int x, .int y] σ K := by
  subst e
  refine ⟨⟨by decide, Nat.le_of_ble_eq_true rfl⟩, fun V hV => ?_⟩
  refine zq (σ := σ) hV zQI_0 rfl 5 ?_
  show (¬ nI n = 0) ∧ V 6 [(0, .int x), (1, .int (nI n))] [.int ((x &&& 2147483647) - (x &&& 2147483647) / nI n * nI n)] σ
  refine ⟨nI_ne0 h0 (by omega), ?_⟩
  rw [pk_and x 31 (by decide), pk_rem (Nat.mod_lt _ (by decide)) h0 (by omega)]
  refine zq (σ := σ) hV zQI_0 rfl 1 ?_
  exact hK
