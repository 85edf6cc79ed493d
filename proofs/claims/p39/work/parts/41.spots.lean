variable {zx : Nat × (Nat → Int32)}
/-- bit i of a set -/
def zbt (s : Int32) (i : Nat) : Int32 := (s >>> (nI i &&& 31)) &&& 1
def zcn (s : Int32) : Nat → Nat
  | 0 => 0
  | i + 1 => if zbt s i = 0 then zcn s i else zcn s i + 1
theorem zcn_le (s : Int32) : ∀ i, zcn s i ≤ i
  | 0 => Nat.le_refl _
  | i + 1 => by have := zcn_le s i; unfold zcn; split <;> omega
theorem zcn_mono (s : Int32) {i j : Nat} (h : i ≤ j) : zcn s i ≤ zcn s j := by
  induction j with
  | zero => have : i = 0 := by omega
            subst this; exact Nat.le_refl _
  | succ j ih =>
    by_cases q : i = j + 1
    · subst q; exact Nat.le_refl _
    · have h2 := ih (by omega)
      show zcn s i ≤ (if zbt s j = 0 then zcn s j else zcn s j + 1)
      split <;> omega
/-- what is laid out of a row by a set -/
def zLy (s : Int32) (E : Nat → Int32) : Nat → Nat → Int32
  | 0 => fun _ => 0
  | i + 1 => if zbt s i = 0 then zLy s E i else upd (zLy s E i) (zcn s i) (E i)
theorem zLy_in {s : Int32} {E : Nat → Int32} {n : Nat} : ∀ {k : Nat}, (∀ j, j < k → ∃ e, E j = nI e ∧ e < n) → ∀ q, q < zcn s k → ∃ e, zLy s E k q = nI e ∧ e < n
  | 0, _, q, hq => absurd hq (Nat.not_lt_zero q)
  | k + 1, h, q, hq => by
    unfold zcn at hq; unfold zLy
    by_cases c : zbt s k = 0
    · rw [if_pos c] at hq ⊢; exact zLy_in (fun j hj => h j (by omega)) q hq
    · rw [if_neg c] at hq ⊢
      unfold upd
      by_cases e : q = zcn s k
      · rw [if_pos e]; exact h k (by omega)
      · rw [if_neg e]; exact zLy_in (fun j hj => h j (by omega)) q (by omega)
def zPx (s : Int32) (P : Nat → Int32) : Nat → Int32
  | 0 => 0
  | i + 1 => if zbt s i = 0 then zPx s P i else zPx s P i + P i
def zBet (P : Nat → Int32) (k : Nat) (s t : Int32) : Bool := decide (0 < zPx t P k - zPx s P k ∨ (zPx t P k - zPx s P k = 0 ∧ zBc s < zBc t))
def zCp (H : Int32 → Bool) (B : Int32 → Int32 → Bool) : Nat → Nat → Int32 → Int32
  | 0, _, b => b
  | r + 1, i, b => zCp H B r (i + 1) (if (b = -1 ∨ B (nI i) b = true) ∧ H (nI i) = true then nI i else b)
/-- whether the spots of a set hold -/
noncomputable def zSpH (n : Nat) (X Y : Nat → Int32) (f : Int32) (E S : Nat → Int32) (k : Nat) (s : Int32) : Bool := zDc (zHo n X Y f (zLy s E k) (zLy s S k) (zcn s k))
/-- the cheapest set -/
noncomputable def zChe (n : Nat) (X Y : Nat → Int32) (f : Int32) (E S P : Nat → Int32) (k : Nat) : Int32 := zCp (zSpH n X Y f E S k) (zBet P k) (2 ^ k - 1) 1 (-1)
theorem zshl {k : Nat} (h : k ≤ 7) : (1 : Int32) <<< (nI k &&& 31) = nI (2 ^ k) := by
  rcases (show k = 0 ∨ k = 1 ∨ k = 2 ∨ k = 3 ∨ k = 4 ∨ k = 5 ∨ k = 6 ∨ k = 7 by omega) with h | h | h | h | h | h | h | h <;> subst h <;> decide
theorem z2k {k : Nat} (h : k ≤ 7) : 2 ^ k ≤ 128 ∧ 1 ≤ 2 ^ k := by
  rcases (show k = 0 ∨ k = 1 ∨ k = 2 ∨ k = 3 ∨ k = 4 ∨ k = 5 ∨ k = 6 ∨ k = 7 by omega) with h | h | h | h | h | h | h | h <;> subst h <;> decide
def zfL (h c a j : Nat) : Bool := (Nat.beq a h && Nat.beq j 2) || ((Nat.beq a (h + 1) || Nat.beq a (h + 2)) && Nat.blt j c)
set_option maxRecDepth 8000 in
set_option maxHeartbeats 4000000 in
theorem price_ok {d : Nat} {σ : zSt} {K : Option Value → zSt → Prop} {s : Int32} {k : Nat} (hI : zQI (kR 14 18) σ.2.2) (hs : σ.1 14 3 = nI k) (hk : k ≤ 7) (hK : K (some (.int (zPx s (σ.1 17) k))) σ) : zSp zx (d + 2) mX6_price [.ref 14, .int s] σ K := by
  refine ⟨⟨by decide, Nat.le_of_ble_eq_true rfl⟩, fun V hV => ?_⟩
  refine zq (σ := σ) hV hI rfl 4 ?_
  show V 4 [(3, .int 0), (2, .int 0), (0, .ref 14), (1, .int s)] [] σ
  refine zwk hV [2, 3, 1, 0] rfl ?_
  have Hi : ∀ (r : Nat) (i : Nat) (x : Int32), i + r = k → x = zPx s (σ.1 17) i → V 4 [(0, .ref 14), (1, .int s), (2, .int x), (3, .int (nI i))] [] σ := by
    intro r
    induction r with
    | zero =>
      intro i x hir hx
      refine zq (σ := σ) hV hI rfl 4 ?_
      show ((σ.1 14 3) ≤ (nI i) → V 37 [(0, .ref 14), (1, .int s), (2, .int x), (3, .int (nI i))] [] σ) ∧ (¬ (σ.1 14 3) ≤ (nI i) → V 12 [(0, .ref 14), (1, .int s), (2, .int x), (3, .int (nI i))] [] σ)
      refine ⟨fun _ => ?_, fun hc => absurd (show (σ.1 14 3) ≤ nI i by rw [hs]; exact zge_self (by omega)) hc⟩
      refine zq (σ := σ) hV hI rfl 2 ?_
      show K (some (.int x)) σ
      obtain rfl : i = k := by omega
      rw [hx]
      exact hK
    | succ r ihi =>
      intro i x hir hx
      refine zq (σ := σ) hV hI rfl 4 ?_
      show ((σ.1 14 3) ≤ (nI i) → V 37 [(0, .ref 14), (1, .int s), (2, .int x), (3, .int (nI i))] [] σ) ∧ (¬ (σ.1 14 3) ≤ (nI i) → V 12 [(0, .ref 14), (1, .int s), (2, .int x), (3, .int (nI i))] [] σ)
      refine ⟨fun hc => absurd hc (show ¬ (σ.1 14 3) ≤ nI i by rw [hs]; exact nI_ge (by omega) (by omega)), fun _ => ?_⟩
      refine zq (σ := σ) hV hI rfl 6 ?_
      show (((s >>> ((nI i) &&& 31)) &&& 1) = 0 → V 31 [(0, .ref 14), (1, .int s), (2, .int x), (3, .int (nI i))] [] σ) ∧ (¬ ((s >>> ((nI i) &&& 31)) &&& 1) = 0 → V 20 [(0, .ref 14), (1, .int s), (2, .int x), (3, .int (nI i))] [] σ)
      refine ⟨fun h_17 => ?_, fun h_17 => ?_⟩
      · skip
        refine zq (σ := σ) hV hI rfl 2 ?_
        show V 4 [(3, .int ((nI i) + 1)), (0, .ref 14), (1, .int s), (2, .int x)] [] σ
        refine zwk hV [1, 2, 3, 0] rfl ?_
        rw [nI_1]
        refine ihi (i + 1) _ (by omega) ?_
        show _ = (if zbt s i = 0 then zPx s (σ.1 17) i else zPx s (σ.1 17) i + σ.1 17 i)
        have c : zbt s i = 0 := h_17
        rw [if_pos c]
        exact hx
      · skip
        refine zq (σ := σ) hV hI rfl 5 ?_
        show zSp _ _ 79 [.ref 17, .int (nI i)] σ (fun r σ' => σ'.2.2.2 = σ.2.2.2 + zAl 79 → V 29 [(0, .ref 14), (1, .int s), (2, .int x), (3, .int (nI i))] (r.toList ++ [.int x]) σ')
        refine item_17 (zA_of hI rfl) rfl (by omega) (fun _ => ?_)
        refine zq (σ := σ) hV hI rfl 4 ?_
        show V 4 [(3, .int ((nI i) + 1)), (2, .int (x + (σ.1 17 i))), (0, .ref 14), (1, .int s)] [] σ
        refine zwk hV [2, 3, 1, 0] rfl ?_
        rw [nI_1]
        refine ihi (i + 1) _ (by omega) ?_
        show _ = (if zbt s i = 0 then zPx s (σ.1 17) i else zPx s (σ.1 17) i + σ.1 17 i)
        have c : ¬ zbt s i = 0 := h_17
        rw [if_neg c, hx]
  exact Hi k 0 0 (by omega) rfl
set_option maxRecDepth 8000 in
set_option maxHeartbeats 4000000 in
theorem isBetter_ok {d : Nat} {σ : zSt} {K : Option Value → zSt → Prop} {s t : Int32} {k : Nat} (hI : zQI (kR 14 18) σ.2.2) (hs : σ.1 14 3 = nI k) (hk : k ≤ 7) (h1 : zBet (σ.1 17) k s t = true → K (some (.int 1)) σ) (h0 : ¬ zBet (σ.1 17) k s t = true → K (some (.int 0)) σ) : zSp zx (d + 3) mX6_isBetter [.ref 14, .int s, .int t] σ K := by
  refine ⟨⟨by decide, Nat.le_of_ble_eq_true rfl⟩, fun V hV => ?_⟩
  refine zq (σ := σ) hV hI rfl 3 ?_
  show zSp _ _ 40 [.ref 14, .int t] σ (fun r σ' => σ'.2.2.2 = σ.2.2.2 + zAl 40 → V 5 [(0, .ref 14), (1, .int s), (2, .int t)] (r.toList ++ []) σ')
  refine price_ok (zR_of hI rfl rfl) hs hk (fun _ => ?_)
  refine zq (σ := σ) hV hI rfl 3 ?_
  show zSp _ _ 40 [.ref 14, .int s] σ (fun r σ' => σ'.2.2.2 = σ.2.2.2 + zAl 40 → V 10 [(0, .ref 14), (1, .int s), (2, .int t)] (r.toList ++ [.int (zPx t (σ.1 17) k)]) σ')
  refine price_ok (zR_of hI rfl rfl) hs hk (fun _ => ?_)
  refine zq (σ := σ) hV hI rfl 4 ?_
  show (0 < ((zPx t (σ.1 17) k) - (zPx s (σ.1 17) k)) → V 31 [(3, .int ((zPx t (σ.1 17) k) - (zPx s (σ.1 17) k))), (0, .ref 14), (1, .int s), (2, .int t)] [] σ) ∧ (¬ 0 < ((zPx t (σ.1 17) k) - (zPx s (σ.1 17) k)) → V 16 [(3, .int ((zPx t (σ.1 17) k) - (zPx s (σ.1 17) k))), (0, .ref 14), (1, .int s), (2, .int t)] [] σ)
  refine ⟨fun h_13 => ?_, fun h_13 => ?_⟩
  · skip
    refine zq (σ := σ) hV hI rfl 3 ?_
    show ((1 : Int32) = 0 ∨ (1 : Int32) = 1) ∧ K (some (.int 1)) σ
    refine ⟨by decide, ?_⟩
    refine h1 ?_
    unfold zBet
    refine decide_eq_true ?_
    first | exact Or.inl h_13 | exact Or.inr ⟨h_17, Int32.not_le.mp h_28⟩
  · skip
    refine zq (σ := σ) hV hI rfl 2 ?_
    show (¬ ((zPx t (σ.1 17) k) - (zPx s (σ.1 17) k)) = 0 → V 35 [(3, .int ((zPx t (σ.1 17) k) - (zPx s (σ.1 17) k))), (0, .ref 14), (1, .int s), (2, .int t)] [] σ) ∧ (¬ (¬ ((zPx t (σ.1 17) k) - (zPx s (σ.1 17) k)) = 0) → V 20 [(3, .int ((zPx t (σ.1 17) k) - (zPx s (σ.1 17) k))), (0, .ref 14), (1, .int s), (2, .int t)] [] σ)
    refine ⟨fun h_17 => ?_, fun h_17 => ?_⟩
    · skip
      refine zq (σ := σ) hV hI rfl 2 ?_
      show ((0 : Int32) = 0 ∨ (0 : Int32) = 1) ∧ K (some (.int 0)) σ
      refine ⟨by decide, ?_⟩
      refine h0 ?_
      unfold zBet
      rw [Bool.not_eq_true]
      refine decide_eq_false ?_
      first | exact fun q => q.elim h_13 (fun x => h_17 x.1) | exact fun q => q.elim h_13 (fun x => Int32.not_le.mpr x.2 h_28)
    · skip
      have h_17 := Classical.not_not.mp h_17
      refine zq (σ := σ) hV hI rfl 2 ?_
      show zSp _ _ 81 [.int s] σ (fun r σ' => σ'.2.2.2 = σ.2.2.2 + zAl 81 → V 24 [(3, .int ((zPx t (σ.1 17) k) - (zPx s (σ.1 17) k))), (0, .ref 14), (1, .int s), (2, .int t)] (r.toList ++ []) σ')
      refine bits_ok  (fun _ => ?_)
      refine zq (σ := σ) hV hI rfl 2 ?_
      show zSp _ _ 81 [.int t] σ (fun r σ' => σ'.2.2.2 = σ.2.2.2 + zAl 81 → V 28 [(3, .int ((zPx t (σ.1 17) k) - (zPx s (σ.1 17) k))), (0, .ref 14), (1, .int s), (2, .int t)] (r.toList ++ [.int (zBc s)]) σ')
      refine bits_ok  (fun _ => ?_)
      refine zq (σ := σ) hV hI rfl 1 ?_
      show ((zBc t) ≤ (zBc s) → V 35 [(3, .int ((zPx t (σ.1 17) k) - (zPx s (σ.1 17) k))), (0, .ref 14), (1, .int s), (2, .int t)] [] σ) ∧ (¬ (zBc t) ≤ (zBc s) → V 31 [(3, .int ((zPx t (σ.1 17) k) - (zPx s (σ.1 17) k))), (0, .ref 14), (1, .int s), (2, .int t)] [] σ)
      refine ⟨fun h_28 => ?_, fun h_28 => ?_⟩
      · skip
        refine zq (σ := σ) hV hI rfl 2 ?_
        show ((0 : Int32) = 0 ∨ (0 : Int32) = 1) ∧ K (some (.int 0)) σ
        refine ⟨by decide, ?_⟩
        refine h0 ?_
        unfold zBet
        rw [Bool.not_eq_true]
        refine decide_eq_false ?_
        first | exact fun q => q.elim h_13 (fun x => h_17 x.1) | exact fun q => q.elim h_13 (fun x => Int32.not_le.mpr x.2 h_28)
      · skip
        refine zq (σ := σ) hV hI rfl 3 ?_
        show ((1 : Int32) = 0 ∨ (1 : Int32) = 1) ∧ K (some (.int 1)) σ
        refine ⟨by decide, ?_⟩
        refine h1 ?_
        unfold zBet
        refine decide_eq_true ?_
        first | exact Or.inl h_13 | exact Or.inr ⟨h_17, Int32.not_le.mp h_28⟩
set_option maxRecDepth 8000 in
set_option maxHeartbeats 4000000 in
theorem layOut_7 {d : Nat} {σ : zSt} {K : Option Value → zSt → Prop} {s : Int32} {k : Nat} (hI : zQI (kR 4 18) σ.2.2) (hs : σ.1 14 3 = nI k) (hk : k ≤ 7) (hK : ∀ τ, zOnly (zfL 7 (zcn s k)) σ τ → τ.1 7 2 = nI (zcn s k) → (∀ q, q < zcn s k → τ.1 8 q = zLy s (σ.1 15) k q ∧ τ.1 9 q = zLy s (σ.1 16) k q) → K none τ) : zSp zx (d + 4) mX6_layOut [.ref 14, .int s, .ref 7] σ K := by
  refine ⟨⟨by decide, Nat.le_of_ble_eq_true rfl⟩, fun V hV => ?_⟩
  refine zq (σ := σ) hV hI rfl 2 ?_
  show zSp _ _ 9 [.ref 7] σ (fun r σ' => σ'.2.2.2 = σ.2.2.2 + zAl 9 → V 4 [(0, .ref 14), (1, .int s), (2, .ref 7)] (r.toList ++ []) σ')
  refine hclear_7 (zR_of hI rfl rfl) (fun _ => ?_)
  refine zq (σ := (zuI σ 7 2 0)) hV hI rfl 2 ?_
  show V 6 [(3, .int 0), (0, .ref 14), (1, .int s), (2, .ref 7)] [] (zuI σ 7 2 0)
  refine zwk hV [1, 2, 3, 0] rfl ?_
  have Hi : ∀ (r : Nat) (i : Nat) (τ : zSt), i + r = k → zOnly (zfL 7 (zcn s k)) σ τ → τ.1 7 2 = nI (zcn s i) → (∀ q, q < zcn s i → τ.1 8 q = zLy s (σ.1 15) i q ∧ τ.1 9 q = zLy s (σ.1 16) i q) → V 6 [(0, .ref 14), (1, .int s), (2, .ref 7), (3, .int (nI i))] [] τ := by
    intro r
    induction r with
    | zero =>
      intro i τ hir ht h7 hES
      have hIτ := zQI_eq hI ht.2.2
      have hnτ : τ.2.2.2 = σ.2.2.2 := congrArg Prod.snd ht.2.2
      have hst : τ.1 14 3 = nI k := (ht.1 14 3 (by unfold zfL; simp)).trans hs
      refine zq (σ := τ) hV hIτ hnτ 4 ?_
      show ((τ.1 14 3) ≤ (nI i) → V 48 [(0, .ref 14), (1, .int s), (2, .ref 7), (3, .int (nI i))] [] τ) ∧ (¬ (τ.1 14 3) ≤ (nI i) → V 14 [(0, .ref 14), (1, .int s), (2, .ref 7), (3, .int (nI i))] [] τ)
      refine ⟨fun _ => ?_, fun hc => absurd (show (τ.1 14 3) ≤ nI i by rw [hst]; exact zge_self (by omega)) hc⟩
      refine zq (σ := τ) hV hIτ hnτ 1 ?_
      show K none τ
      obtain rfl : i = k := by omega
      exact hK τ ht h7 hES
    | succ r ihi =>
      intro i τ hir ht h7 hES
      have hIτ := zQI_eq hI ht.2.2
      have hnτ : τ.2.2.2 = σ.2.2.2 := congrArg Prod.snd ht.2.2
      have hst : τ.1 14 3 = nI k := (ht.1 14 3 (by unfold zfL; simp)).trans hs
      refine zq (σ := τ) hV hIτ hnτ 4 ?_
      show ((τ.1 14 3) ≤ (nI i) → V 48 [(0, .ref 14), (1, .int s), (2, .ref 7), (3, .int (nI i))] [] τ) ∧ (¬ (τ.1 14 3) ≤ (nI i) → V 14 [(0, .ref 14), (1, .int s), (2, .ref 7), (3, .int (nI i))] [] τ)
      refine ⟨fun hc => absurd hc (show ¬ (τ.1 14 3) ≤ nI i by rw [hst]; exact nI_ge (by omega) (by omega)), fun _ => ?_⟩
      refine zq (σ := τ) hV hIτ hnτ 6 ?_
      show (((s >>> ((nI i) &&& 31)) &&& 1) = 0 → V 42 [(0, .ref 14), (1, .int s), (2, .ref 7), (3, .int (nI i))] [] τ) ∧ (¬ ((s >>> ((nI i) &&& 31)) &&& 1) = 0 → V 22 [(0, .ref 14), (1, .int s), (2, .ref 7), (3, .int (nI i))] [] τ)
      refine ⟨fun h_19 => ?_, fun h_19 => ?_⟩
      · skip
        refine zq (σ := τ) hV hIτ hnτ 2 ?_
        show V 6 [(3, .int ((nI i) + 1)), (0, .ref 14), (1, .int s), (2, .ref 7)] [] τ
        refine zwk hV [1, 2, 3, 0] rfl ?_
        rw [nI_1]
        have hc : zcn s (i + 1) = zcn s i := if_pos h_19
        refine ihi (i + 1) _ (by omega) ht (by rw [hc]; exact h7) (fun q hq => ?_)
        rw [hc] at hq
        have e1 : zLy s (σ.1 15) (i + 1) = zLy s (σ.1 15) i := if_pos h_19
        have e2 : zLy s (σ.1 16) (i + 1) = zLy s (σ.1 16) i := if_pos h_19
        rw [e1, e2]; exact hES q hq
      · skip
        refine zq (σ := τ) hV hIτ hnτ 5 ?_
        show zSp _ _ 79 [.ref 15, .int (nI i)] τ (fun r σ' => σ'.2.2.2 = τ.2.2.2 + zAl 79 → V 31 [(0, .ref 14), (1, .int s), (2, .ref 7), (3, .int (nI i))] (r.toList ++ [.ref 7]) σ')
        refine item_15 (zA_of hIτ rfl) rfl (by omega) (fun _ => ?_)
        refine zq (σ := τ) hV hIτ hnτ 4 ?_
        show zSp _ _ 79 [.ref 16, .int (nI i)] τ (fun r σ' => σ'.2.2.2 = τ.2.2.2 + zAl 79 → V 39 [(0, .ref 14), (1, .int s), (2, .ref 7), (3, .int (nI i))] (r.toList ++ [.int (τ.1 15 i), .ref 7]) σ')
        refine item_16 (zA_of hIτ rfl) rfl (by omega) (fun _ => ?_)
        refine zq (σ := τ) hV hIτ hnτ 1 ?_
        show zSp _ _ 10 [.ref 7, .int (τ.1 15 i), .int (τ.1 16 i)] τ (fun r σ' => σ'.2.2.2 = τ.2.2.2 + zAl 10 → V 42 [(0, .ref 14), (1, .int s), (2, .ref 7), (3, .int (nI i))] (r.toList ++ []) σ')
        have hcn := zcn_le s i
        refine hadd_7 (zR_of hIτ rfl rfl) (m := zcn s i) h7 (by omega) (fun _ => ?_)
        refine zq (σ := (zuI (zuI (zuI τ 8 (zcn s i) (τ.1 15 i)) 9 (zcn s i) (τ.1 16 i)) 7 2 (nI (zcn s i + 1)))) hV hIτ hnτ 2 ?_
        show V 6 [(3, .int ((nI i) + 1)), (0, .ref 14), (1, .int s), (2, .ref 7)] [] (zuI (zuI (zuI τ 8 (zcn s i) (τ.1 15 i)) 9 (zcn s i) (τ.1 16 i)) 7 2 (nI (zcn s i + 1)))
        refine zwk hV [1, 2, 3, 0] rfl ?_
        rw [nI_1]
        have hc : zcn s (i + 1) = zcn s i + 1 := if_neg h_19
        have hm2 := zcn_mono s (show i + 1 ≤ k by omega)
        refine ihi (i + 1) _ (by omega) (((ht.uI (by unfold zfL; simp; try omega)).uI (by unfold zfL; simp; try omega)).uI (by unfold zfL; simp; try omega)) ?_ ?_
        · rw [hc]; simp [zuI_get]
        · intro q hq
          rw [hc] at hq
          have e1 : zLy s (σ.1 15) (i + 1) = upd (zLy s (σ.1 15) i) (zcn s i) (σ.1 15 i) := if_neg h_19
          have e2 : zLy s (σ.1 16) (i + 1) = upd (zLy s (σ.1 16) i) (zcn s i) (σ.1 16 i) := if_neg h_19
          rw [e1, e2]
          have f1 : τ.1 15 i = σ.1 15 i := ht.1 15 i (by unfold zfL; simp)
          have f2 : τ.1 16 i = σ.1 16 i := ht.1 16 i (by unfold zfL; simp)
          simp only [zuI_get]
          unfold upd
          by_cases e : q = zcn s i
          · subst e; simp [f1, f2]
          · have := hES q (by omega); simp [e, this]
  exact Hi k 0 _ (by omega) (zOnly.rf.uI (by unfold zfL; simp)) rfl (fun q hq => absurd hq (Nat.not_lt_zero q))
set_option maxRecDepth 8000 in
set_option maxHeartbeats 4000000 in
theorem layOut_4 {d : Nat} {σ : zSt} {K : Option Value → zSt → Prop} {s : Int32} {k : Nat} (hI : zQI (kR 4 18) σ.2.2) (hs : σ.1 14 3 = nI k) (hk : k ≤ 7) (hK : ∀ τ, zOnly (zfL 4 (zcn s k)) σ τ → τ.1 4 2 = nI (zcn s k) → (∀ q, q < zcn s k → τ.1 5 q = zLy s (σ.1 15) k q ∧ τ.1 6 q = zLy s (σ.1 16) k q) → K none τ) : zSp zx (d + 4) mX6_layOut [.ref 14, .int s, .ref 4] σ K := by
  refine ⟨⟨by decide, Nat.le_of_ble_eq_true rfl⟩, fun V hV => ?_⟩
  refine zq (σ := σ) hV hI rfl 2 ?_
  show zSp _ _ 9 [.ref 4] σ (fun r σ' => σ'.2.2.2 = σ.2.2.2 + zAl 9 → V 4 [(0, .ref 14), (1, .int s), (2, .ref 4)] (r.toList ++ []) σ')
  refine hclear_4 (zR_of hI rfl rfl) (fun _ => ?_)
  refine zq (σ := (zuI σ 4 2 0)) hV hI rfl 2 ?_
  show V 6 [(3, .int 0), (0, .ref 14), (1, .int s), (2, .ref 4)] [] (zuI σ 4 2 0)
  refine zwk hV [1, 2, 3, 0] rfl ?_
  have Hi : ∀ (r : Nat) (i : Nat) (τ : zSt), i + r = k → zOnly (zfL 4 (zcn s k)) σ τ → τ.1 4 2 = nI (zcn s i) → (∀ q, q < zcn s i → τ.1 5 q = zLy s (σ.1 15) i q ∧ τ.1 6 q = zLy s (σ.1 16) i q) → V 6 [(0, .ref 14), (1, .int s), (2, .ref 4), (3, .int (nI i))] [] τ := by
    intro r
    induction r with
    | zero =>
      intro i τ hir ht h7 hES
      have hIτ := zQI_eq hI ht.2.2
      have hnτ : τ.2.2.2 = σ.2.2.2 := congrArg Prod.snd ht.2.2
      have hst : τ.1 14 3 = nI k := (ht.1 14 3 (by unfold zfL; simp)).trans hs
      refine zq (σ := τ) hV hIτ hnτ 4 ?_
      show ((τ.1 14 3) ≤ (nI i) → V 48 [(0, .ref 14), (1, .int s), (2, .ref 4), (3, .int (nI i))] [] τ) ∧ (¬ (τ.1 14 3) ≤ (nI i) → V 14 [(0, .ref 14), (1, .int s), (2, .ref 4), (3, .int (nI i))] [] τ)
      refine ⟨fun _ => ?_, fun hc => absurd (show (τ.1 14 3) ≤ nI i by rw [hst]; exact zge_self (by omega)) hc⟩
      refine zq (σ := τ) hV hIτ hnτ 1 ?_
      show K none τ
      obtain rfl : i = k := by omega
      exact hK τ ht h7 hES
    | succ r ihi =>
      intro i τ hir ht h7 hES
      have hIτ := zQI_eq hI ht.2.2
      have hnτ : τ.2.2.2 = σ.2.2.2 := congrArg Prod.snd ht.2.2
      have hst : τ.1 14 3 = nI k := (ht.1 14 3 (by unfold zfL; simp)).trans hs
      refine zq (σ := τ) hV hIτ hnτ 4 ?_
      show ((τ.1 14 3) ≤ (nI i) → V 48 [(0, .ref 14), (1, .int s), (2, .ref 4), (3, .int (nI i))] [] τ) ∧ (¬ (τ.1 14 3) ≤ (nI i) → V 14 [(0, .ref 14), (1, .int s), (2, .ref 4), (3, .int (nI i))] [] τ)
      refine ⟨fun hc => absurd hc (show ¬ (τ.1 14 3) ≤ nI i by rw [hst]; exact nI_ge (by omega) (by omega)), fun _ => ?_⟩
      refine zq (σ := τ) hV hIτ hnτ 6 ?_
      show (((s >>> ((nI i) &&& 31)) &&& 1) = 0 → V 42 [(0, .ref 14), (1, .int s), (2, .ref 4), (3, .int (nI i))] [] τ) ∧ (¬ ((s >>> ((nI i) &&& 31)) &&& 1) = 0 → V 22 [(0, .ref 14), (1, .int s), (2, .ref 4), (3, .int (nI i))] [] τ)
      refine ⟨fun h_19 => ?_, fun h_19 => ?_⟩
      · skip
        refine zq (σ := τ) hV hIτ hnτ 2 ?_
        show V 6 [(3, .int ((nI i) + 1)), (0, .ref 14), (1, .int s), (2, .ref 4)] [] τ
        refine zwk hV [1, 2, 3, 0] rfl ?_
        rw [nI_1]
        have hc : zcn s (i + 1) = zcn s i := if_pos h_19
        refine ihi (i + 1) _ (by omega) ht (by rw [hc]; exact h7) (fun q hq => ?_)
        rw [hc] at hq
        have e1 : zLy s (σ.1 15) (i + 1) = zLy s (σ.1 15) i := if_pos h_19
        have e2 : zLy s (σ.1 16) (i + 1) = zLy s (σ.1 16) i := if_pos h_19
        rw [e1, e2]; exact hES q hq
      · skip
        refine zq (σ := τ) hV hIτ hnτ 5 ?_
        show zSp _ _ 79 [.ref 15, .int (nI i)] τ (fun r σ' => σ'.2.2.2 = τ.2.2.2 + zAl 79 → V 31 [(0, .ref 14), (1, .int s), (2, .ref 4), (3, .int (nI i))] (r.toList ++ [.ref 4]) σ')
        refine item_15 (zA_of hIτ rfl) rfl (by omega) (fun _ => ?_)
        refine zq (σ := τ) hV hIτ hnτ 4 ?_
        show zSp _ _ 79 [.ref 16, .int (nI i)] τ (fun r σ' => σ'.2.2.2 = τ.2.2.2 + zAl 79 → V 39 [(0, .ref 14), (1, .int s), (2, .ref 4), (3, .int (nI i))] (r.toList ++ [.int (τ.1 15 i), .ref 4]) σ')
        refine item_16 (zA_of hIτ rfl) rfl (by omega) (fun _ => ?_)
        refine zq (σ := τ) hV hIτ hnτ 1 ?_
        show zSp _ _ 10 [.ref 4, .int (τ.1 15 i), .int (τ.1 16 i)] τ (fun r σ' => σ'.2.2.2 = τ.2.2.2 + zAl 10 → V 42 [(0, .ref 14), (1, .int s), (2, .ref 4), (3, .int (nI i))] (r.toList ++ []) σ')
        have hcn := zcn_le s i
        refine hadd_4 (zR_of hIτ rfl rfl) (m := zcn s i) h7 (by omega) (fun _ => ?_)
        refine zq (σ := (zuI (zuI (zuI τ 5 (zcn s i) (τ.1 15 i)) 6 (zcn s i) (τ.1 16 i)) 4 2 (nI (zcn s i + 1)))) hV hIτ hnτ 2 ?_
        show V 6 [(3, .int ((nI i) + 1)), (0, .ref 14), (1, .int s), (2, .ref 4)] [] (zuI (zuI (zuI τ 5 (zcn s i) (τ.1 15 i)) 6 (zcn s i) (τ.1 16 i)) 4 2 (nI (zcn s i + 1)))
        refine zwk hV [1, 2, 3, 0] rfl ?_
        rw [nI_1]
        have hc : zcn s (i + 1) = zcn s i + 1 := if_neg h_19
        have hm2 := zcn_mono s (show i + 1 ≤ k by omega)
        refine ihi (i + 1) _ (by omega) (((ht.uI (by unfold zfL; simp; try omega)).uI (by unfold zfL; simp; try omega)).uI (by unfold zfL; simp; try omega)) ?_ ?_
        · rw [hc]; simp [zuI_get]
        · intro q hq
          rw [hc] at hq
          have e1 : zLy s (σ.1 15) (i + 1) = upd (zLy s (σ.1 15) i) (zcn s i) (σ.1 15 i) := if_neg h_19
          have e2 : zLy s (σ.1 16) (i + 1) = upd (zLy s (σ.1 16) i) (zcn s i) (σ.1 16 i) := if_neg h_19
          rw [e1, e2]
          have f1 : τ.1 15 i = σ.1 15 i := ht.1 15 i (by unfold zfL; simp)
          have f2 : τ.1 16 i = σ.1 16 i := ht.1 16 i (by unfold zfL; simp)
          simp only [zuI_get]
          unfold upd
          by_cases e : q = zcn s i
          · subst e; simp [f1, f2]
          · have := hES q (by omega); simp [e, this]
  exact Hi k 0 _ (by omega) (zOnly.rf.uI (by unfold zfL; simp)) rfl (fun q hq => absurd hq (Nat.not_lt_zero q))
theorem zfL_C {c : Nat} (a j : Nat) (h : zfC a j = false) : zfL 7 c a j = false := by
  unfold zfC at h; unfold zfL
  rw [Bool.and_eq_false_iff] at h
  have c1 : ∀ x y, Nat.ble x y = false ↔ y < x := fun x y => by rw [← Bool.not_eq_true, Nat.ble_eq]; omega
  have c2 : ∀ y, Nat.beq a y = false ↔ a ≠ y := fun y => by rw [← Bool.not_eq_true, Nat.beq_eq]
  rw [Bool.or_eq_false_iff, Bool.and_eq_false_iff, Bool.and_eq_false_iff, Bool.or_eq_false_iff]
  simp only [c1, c2] at h ⊢
  omega
set_option maxRecDepth 8000 in
set_option maxHeartbeats 4000000 in
theorem cheapest_C {d : Nat} {σ : zSt} {K : Option Value → zSt → Prop} {n k : Nat} (hI : zQI (kR 0 30) σ.2.2) (hn : σ.1 1 2 = nI n) (hn10 : n ≤ 10) (hsp : σ.1 14 3 = nI k) (hk : k ≤ 7) (hspE : ∀ j, j < k → ∃ e, σ.1 15 j = nI e ∧ e < n) (hK : ∀ τ, zOnly zfC σ τ → K (some (.int (zChe n (σ.1 2) (σ.1 3) (σ.1 0 9) (σ.1 15) (σ.1 16) (σ.1 17) k))) τ) : zSp zx (d + 5) mX8_cheapest [.ref 0] σ K := by
  refine ⟨⟨by decide, Nat.le_of_ble_eq_true rfl⟩, fun V hV => ?_⟩
  refine zq (σ := σ) hV hI rfl 4 ?_
  show V 4 [(2, .int 1), (1, .int (-1)), (0, .ref 0)] [] σ
  refine zwk hV [2, 1, 0] rfl ?_
  have Hi : ∀ (r : Nat) (i : Nat) (x : Int32) (τ : zSt), i + r = 2 ^ k → zOnly zfC σ τ → zCp (zSpH n (σ.1 2) (σ.1 3) (σ.1 0 9) (σ.1 15) (σ.1 16) k) (zBet (σ.1 17) k) r i x = (zChe n (σ.1 2) (σ.1 3) (σ.1 0 9) (σ.1 15) (σ.1 16) (σ.1 17) k) → V 4 [(0, .ref 0), (1, .int x), (2, .int (nI i))] [] τ := by
    intro r
    induction r with
    | zero =>
      intro i x τ hir ht hfin
      have hIτ := zQI_eq hI ht.2.2
      have hnτ : τ.2.2.2 = σ.2.2.2 := congrArg Prod.snd ht.2.2
      have hst : τ.1 14 3 = nI k := (ht.1 14 3 rfl).trans hsp
      have e15 : τ.1 15 = σ.1 15 := funext fun j => ht.1 15 j rfl
      have e16 : τ.1 16 = σ.1 16 := funext fun j => ht.1 16 j rfl
      have e17 : τ.1 17 = σ.1 17 := funext fun j => ht.1 17 j rfl
      refine zq (σ := τ) hV hIτ hnτ 5 ?_
      show zSp _ _ 37 [.ref 14] τ (fun r σ' => σ'.2.2.2 = τ.2.2.2 + zAl 37 → V 13 [(0, .ref 0), (1, .int x), (2, .int (nI i))] (r.toList ++ [.int 1, .int (nI i)]) σ')
      refine ssize_ok (zR_of hIτ rfl rfl) (fun _ => ?_)
      rw [hst]
      refine zq (σ := τ) hV hIτ hnτ 2 ?_
      show ((1 <<< ((nI k) &&& 31)) ≤ (nI i) → V 69 [(0, .ref 0), (1, .int x), (2, .int (nI i))] [] τ) ∧ (¬ (1 <<< ((nI k) &&& 31)) ≤ (nI i) → V 17 [(0, .ref 0), (1, .int x), (2, .int (nI i))] [] τ)
      refine ⟨fun _ => ?_, fun hc => absurd (show (1 : Int32) <<< (nI k &&& 31) ≤ nI i by rw [zshl hk]; exact zge_self (by omega)) hc⟩
      refine zq (σ := τ) hV hIτ hnτ 2 ?_
      show K (some (.int x)) τ
      replace hfin : x = _ := hfin
      rw [hfin]
      exact hK τ ht
    | succ r ihi =>
      intro i x τ hir ht hfin
      have hIτ := zQI_eq hI ht.2.2
      have hnτ : τ.2.2.2 = σ.2.2.2 := congrArg Prod.snd ht.2.2
      have hst : τ.1 14 3 = nI k := (ht.1 14 3 rfl).trans hsp
      have e15 : τ.1 15 = σ.1 15 := funext fun j => ht.1 15 j rfl
      have e16 : τ.1 16 = σ.1 16 := funext fun j => ht.1 16 j rfl
      have e17 : τ.1 17 = σ.1 17 := funext fun j => ht.1 17 j rfl
      refine zq (σ := τ) hV hIτ hnτ 5 ?_
      show zSp _ _ 37 [.ref 14] τ (fun r σ' => σ'.2.2.2 = τ.2.2.2 + zAl 37 → V 13 [(0, .ref 0), (1, .int x), (2, .int (nI i))] (r.toList ++ [.int 1, .int (nI i)]) σ')
      refine ssize_ok (zR_of hIτ rfl rfl) (fun _ => ?_)
      rw [hst]
      refine zq (σ := τ) hV hIτ hnτ 2 ?_
      show ((1 <<< ((nI k) &&& 31)) ≤ (nI i) → V 69 [(0, .ref 0), (1, .int x), (2, .int (nI i))] [] τ) ∧ (¬ (1 <<< ((nI k) &&& 31)) ≤ (nI i) → V 17 [(0, .ref 0), (1, .int x), (2, .int (nI i))] [] τ)
      refine ⟨fun hc => absurd hc (show ¬ (1 : Int32) <<< (nI k &&& 31) ≤ nI i by rw [zshl hk]; exact nI_ge (by omega) (by have := z2k hk; omega)), fun _ => ?_⟩
      refine zq (σ := τ) hV hIτ hnτ 3 ?_
      show (x = (-1) → V 34 [(0, .ref 0), (1, .int x), (2, .int (nI i))] [] τ) ∧ (¬ x = (-1) → V 22 [(0, .ref 0), (1, .int x), (2, .int (nI i))] [] τ)
      refine ⟨fun h_19 => ?_, fun h_19 => ?_⟩
      · skip
        refine zq (σ := τ) hV hIτ hnτ 6 ?_
        show zSp _ _ 42 [.ref 14, .int (nI i), .ref 7] τ (fun r σ' => σ'.2.2.2 = τ.2.2.2 + zAl 42 → V 46 [(0, .ref 0), (1, .int x), (2, .int (nI i))] (r.toList ++ []) σ')
        refine layOut_7 (zR_of hIτ rfl rfl) hst hk (fun υ hu0 h7 hES _ => ?_)
        rw [e15, e16] at hES
        have hu : zOnly zfC σ υ := ht.tr (hu0.wk zfL_C)
        have hIυ := zQI_eq hI hu.2.2
        have hnυ : υ.2.2.2 = σ.2.2.2 := congrArg Prod.snd hu.2.2
        refine zq (σ := υ) hV hIυ hnυ 4 ?_
        show zSp _ _ 65 [.ref 0, .ref 7] υ (fun r σ' => σ'.2.2.2 = υ.2.2.2 + zAl 65 → V 54 [(0, .ref 0), (1, .int x), (2, .int (nI i))] (r.toList ++ []) σ')
        have hcn := zcn_le (nI i) k
        refine heldT hI hn hn10 hu h7 (by omega) hES (zLy_in hspE) (fun φ hf hf7 hfe hq _ => ?_) (fun φ hf hf7 hfe hq _ => ?_)
        · skip
          have hIφ := zQI_eq hI hf.2.2
          have hnφ : φ.2.2.2 = σ.2.2.2 := congrArg Prod.snd hf.2.2
          refine zq (σ := φ) hV hIφ hnφ 1 ?_
          show ((1 : Int32) = 0 → V 61 [(0, .ref 0), (1, .int x), (2, .int (nI i))] [] φ) ∧ (¬ (1 : Int32) = 0 → V 57 [(0, .ref 0), (1, .int x), (2, .int (nI i))] [] φ)
          refine ⟨fun hc => absurd hc (by decide), fun _ => ?_⟩
          refine zq (σ := φ) hV hIφ hnφ 5 ?_
          show V 4 [(2, .int ((nI i) + 1)), (1, .int (nI i)), (0, .ref 0)] [] φ
          refine zwk hV [2, 1, 0] rfl ?_
          rw [nI_1]
          refine ihi (i + 1) _ φ (by omega) hf ?_
          rw [← hfin]
          show zCp (zSpH n (σ.1 2) (σ.1 3) (σ.1 0 9) (σ.1 15) (σ.1 16) k) _ r (i + 1) _ = zCp (zSpH n (σ.1 2) (σ.1 3) (σ.1 0 9) (σ.1 15) (σ.1 16) k) _ r (i + 1) (if (x = -1 ∨ zBet (σ.1 17) k (nI i) x = true) ∧ (zSpH n (σ.1 2) (σ.1 3) (σ.1 0 9) (σ.1 15) (σ.1 16) k) (nI i) = true then nI i else x)
          rw [if_pos ⟨(Or.inl h_19), zDc_t hq⟩]
        · skip
          have hIφ := zQI_eq hI hf.2.2
          have hnφ : φ.2.2.2 = σ.2.2.2 := congrArg Prod.snd hf.2.2
          refine zq (σ := φ) hV hIφ hnφ 1 ?_
          show ((0 : Int32) = 0 → V 61 [(0, .ref 0), (1, .int x), (2, .int (nI i))] [] φ) ∧ (¬ (0 : Int32) = 0 → V 57 [(0, .ref 0), (1, .int x), (2, .int (nI i))] [] φ)
          refine ⟨fun _ => ?_, fun hc => absurd (by decide) hc⟩
          refine zq (σ := φ) hV hIφ hnφ 4 ?_
          show V 4 [(2, .int ((nI i) + 1)), (1, .int x), (0, .ref 0)] [] φ
          refine zwk hV [2, 1, 0] rfl ?_
          rw [nI_1]
          refine ihi (i + 1) _ φ (by omega) hf ?_
          rw [← hfin]
          show zCp (zSpH n (σ.1 2) (σ.1 3) (σ.1 0 9) (σ.1 15) (σ.1 16) k) _ r (i + 1) _ = zCp (zSpH n (σ.1 2) (σ.1 3) (σ.1 0 9) (σ.1 15) (σ.1 16) k) _ r (i + 1) (if (x = -1 ∨ zBet (σ.1 17) k (nI i) x = true) ∧ (zSpH n (σ.1 2) (σ.1 3) (σ.1 0 9) (σ.1 15) (σ.1 16) k) (nI i) = true then nI i else x)
          rw [if_neg (fun q => hq (zDc_i.mp q.2))]
      · skip
        refine zq (σ := τ) hV hIτ hnτ 5 ?_
        show zSp _ _ 41 [.ref 14, .int (nI i), .int x] τ (fun r σ' => σ'.2.2.2 = τ.2.2.2 + zAl 41 → V 31 [(0, .ref 0), (1, .int x), (2, .int (nI i))] (r.toList ++ []) σ')
        refine isBetter_ok (zR_of hIτ rfl rfl) hst hk (fun hb1 _ => ?_) (fun hb1 _ => ?_)
        · skip
          refine zq (σ := τ) hV hIτ hnτ 1 ?_
          show ((1 : Int32) = 0 → V 63 [(0, .ref 0), (1, .int x), (2, .int (nI i))] [] τ) ∧ (¬ (1 : Int32) = 0 → V 34 [(0, .ref 0), (1, .int x), (2, .int (nI i))] [] τ)
          refine ⟨fun hc => absurd hc (by decide), fun _ => ?_⟩
          refine zq (σ := τ) hV hIτ hnτ 6 ?_
          show zSp _ _ 42 [.ref 14, .int (nI i), .ref 7] τ (fun r σ' => σ'.2.2.2 = τ.2.2.2 + zAl 42 → V 46 [(0, .ref 0), (1, .int x), (2, .int (nI i))] (r.toList ++ []) σ')
          refine layOut_7 (zR_of hIτ rfl rfl) hst hk (fun υ hu0 h7 hES _ => ?_)
          rw [e15, e16] at hES
          have hu : zOnly zfC σ υ := ht.tr (hu0.wk zfL_C)
          have hIυ := zQI_eq hI hu.2.2
          have hnυ : υ.2.2.2 = σ.2.2.2 := congrArg Prod.snd hu.2.2
          refine zq (σ := υ) hV hIυ hnυ 4 ?_
          show zSp _ _ 65 [.ref 0, .ref 7] υ (fun r σ' => σ'.2.2.2 = υ.2.2.2 + zAl 65 → V 54 [(0, .ref 0), (1, .int x), (2, .int (nI i))] (r.toList ++ []) σ')
          have hcn := zcn_le (nI i) k
          refine heldT hI hn hn10 hu h7 (by omega) hES (zLy_in hspE) (fun φ hf hf7 hfe hq _ => ?_) (fun φ hf hf7 hfe hq _ => ?_)
          · skip
            have hIφ := zQI_eq hI hf.2.2
            have hnφ : φ.2.2.2 = σ.2.2.2 := congrArg Prod.snd hf.2.2
            refine zq (σ := φ) hV hIφ hnφ 1 ?_
            show ((1 : Int32) = 0 → V 61 [(0, .ref 0), (1, .int x), (2, .int (nI i))] [] φ) ∧ (¬ (1 : Int32) = 0 → V 57 [(0, .ref 0), (1, .int x), (2, .int (nI i))] [] φ)
            refine ⟨fun hc => absurd hc (by decide), fun _ => ?_⟩
            refine zq (σ := φ) hV hIφ hnφ 5 ?_
            show V 4 [(2, .int ((nI i) + 1)), (1, .int (nI i)), (0, .ref 0)] [] φ
            refine zwk hV [2, 1, 0] rfl ?_
            rw [nI_1]
            refine ihi (i + 1) _ φ (by omega) hf ?_
            rw [← hfin]
            show zCp (zSpH n (σ.1 2) (σ.1 3) (σ.1 0 9) (σ.1 15) (σ.1 16) k) _ r (i + 1) _ = zCp (zSpH n (σ.1 2) (σ.1 3) (σ.1 0 9) (σ.1 15) (σ.1 16) k) _ r (i + 1) (if (x = -1 ∨ zBet (σ.1 17) k (nI i) x = true) ∧ (zSpH n (σ.1 2) (σ.1 3) (σ.1 0 9) (σ.1 15) (σ.1 16) k) (nI i) = true then nI i else x)
            rw [if_pos ⟨(Or.inr (by have y := hb1; rw [e17] at y; exact y)), zDc_t hq⟩]
          · skip
            have hIφ := zQI_eq hI hf.2.2
            have hnφ : φ.2.2.2 = σ.2.2.2 := congrArg Prod.snd hf.2.2
            refine zq (σ := φ) hV hIφ hnφ 1 ?_
            show ((0 : Int32) = 0 → V 61 [(0, .ref 0), (1, .int x), (2, .int (nI i))] [] φ) ∧ (¬ (0 : Int32) = 0 → V 57 [(0, .ref 0), (1, .int x), (2, .int (nI i))] [] φ)
            refine ⟨fun _ => ?_, fun hc => absurd (by decide) hc⟩
            refine zq (σ := φ) hV hIφ hnφ 4 ?_
            show V 4 [(2, .int ((nI i) + 1)), (1, .int x), (0, .ref 0)] [] φ
            refine zwk hV [2, 1, 0] rfl ?_
            rw [nI_1]
            refine ihi (i + 1) _ φ (by omega) hf ?_
            rw [← hfin]
            show zCp (zSpH n (σ.1 2) (σ.1 3) (σ.1 0 9) (σ.1 15) (σ.1 16) k) _ r (i + 1) _ = zCp (zSpH n (σ.1 2) (σ.1 3) (σ.1 0 9) (σ.1 15) (σ.1 16) k) _ r (i + 1) (if (x = -1 ∨ zBet (σ.1 17) k (nI i) x = true) ∧ (zSpH n (σ.1 2) (σ.1 3) (σ.1 0 9) (σ.1 15) (σ.1 16) k) (nI i) = true then nI i else x)
            rw [if_neg (fun q => hq (zDc_i.mp q.2))]
        · skip
          refine zq (σ := τ) hV hIτ hnτ 1 ?_
          show ((0 : Int32) = 0 → V 63 [(0, .ref 0), (1, .int x), (2, .int (nI i))] [] τ) ∧ (¬ (0 : Int32) = 0 → V 34 [(0, .ref 0), (1, .int x), (2, .int (nI i))] [] τ)
          refine ⟨fun _ => ?_, fun hc => absurd (by decide) hc⟩
          refine zq (σ := τ) hV hIτ hnτ 2 ?_
          show V 4 [(2, .int ((nI i) + 1)), (0, .ref 0), (1, .int x)] [] τ
          refine zwk hV [1, 2, 0] rfl ?_
          rw [nI_1]
          refine ihi (i + 1) _ τ (by omega) ht ?_
          rw [← hfin]
          show zCp (zSpH n (σ.1 2) (σ.1 3) (σ.1 0 9) (σ.1 15) (σ.1 16) k) _ r (i + 1) _ = zCp (zSpH n (σ.1 2) (σ.1 3) (σ.1 0 9) (σ.1 15) (σ.1 16) k) _ r (i + 1) (if (x = -1 ∨ zBet (σ.1 17) k (nI i) x = true) ∧ (zSpH n (σ.1 2) (σ.1 3) (σ.1 0 9) (σ.1 15) (σ.1 16) k) (nI i) = true then nI i else x)
          rw [if_neg (fun q => q.1.elim h_19 (fun y => hb1 (by rw [e17]; exact y)))]
  exact Hi (2 ^ k - 1) 1 (-1) σ (by have := z2k hk; omega) zOnly.rf rfl
set_option maxRecDepth 8000 in
set_option maxHeartbeats 4000000 in
theorem take_C {d : Nat} {σ : zSt} {K : Option Value → zSt → Prop} {n k : Nat} (hI : zQI (kR 0 30) σ.2.2) (hn : σ.1 1 2 = nI n) (hn10 : n ≤ 10) (hsp : σ.1 14 3 = nI k) (hk : k ≤ 7) (hspE : ∀ j, j < k → ∃ e, σ.1 15 j = nI e ∧ e < n) (hNo : ∀ τ, zOnly zfC σ τ → (zChe n (σ.1 2) (σ.1 3) (σ.1 0 9) (σ.1 15) (σ.1 16) (σ.1 17) k) = -1 → K (some (.int (-3))) τ)
    (hOk : ∀ τ υ be, zOnly zfC σ τ → be = (zChe n (σ.1 2) (σ.1 3) (σ.1 0 9) (σ.1 15) (σ.1 16) (σ.1 17) k) → ¬ be = -1 → zOnly (zfL 4 (zcn be k)) τ υ → υ.1 4 2 = nI (zcn be k) → (∀ q, q < zcn be k → υ.1 5 q = zLy be (σ.1 15) k q ∧ υ.1 6 q = zLy be (σ.1 16) k q) → K (some (.int (zPx be (σ.1 17) k))) υ) : zSp zx (d + 6) mX8_take [.ref 0] σ K := by
  refine ⟨⟨by decide, Nat.le_of_ble_eq_true rfl⟩, fun V hV => ?_⟩
  refine zq (σ := σ) hV hI rfl 2 ?_
  show zSp _ _ 67 [.ref 0] σ (fun r σ' => σ'.2.2.2 = σ.2.2.2 + zAl 67 → V 4 [(0, .ref 0)] (r.toList ++ []) σ')
  refine cheapest_C hI hn hn10 hsp hk hspE (fun τ ht _ => ?_)
  have hIτ := zQI_eq hI ht.2.2
  have hnτ : τ.2.2.2 = σ.2.2.2 := congrArg Prod.snd ht.2.2
  generalize hbe : (zChe n (σ.1 2) (σ.1 3) (σ.1 0 9) (σ.1 15) (σ.1 16) (σ.1 17) k) = be
  refine zq (σ := τ) hV hIτ hnτ 4 ?_
  show (¬ be = (-1) → V 13 [(1, .int be), (0, .ref 0)] [] τ) ∧ (¬ (¬ be = (-1)) → V 10 [(1, .int be), (0, .ref 0)] [] τ)
  refine ⟨fun h_7 => ?_, fun h_7 => ?_⟩
  · skip
    refine zq (σ := τ) hV hIτ hnτ 6 ?_
    show zSp _ _ 42 [.ref 14, .int be, .ref 4] τ (fun r σ' => σ'.2.2.2 = τ.2.2.2 + zAl 42 → V 25 [(1, .int be), (0, .ref 0)] (r.toList ++ []) σ')
    have hst : τ.1 14 3 = nI k := (ht.1 14 3 rfl).trans hsp
    have e15 : τ.1 15 = σ.1 15 := funext fun j => ht.1 15 j rfl
    have e16 : τ.1 16 = σ.1 16 := funext fun j => ht.1 16 j rfl
    have e17 : τ.1 17 = σ.1 17 := funext fun j => ht.1 17 j rfl
    refine layOut_4 (zR_of hIτ rfl rfl) hst hk (fun υ hu h4 hES _ => ?_)
    rw [e15, e16] at hES
    have hIυ := zQI_eq hIτ hu.2.2
    have hnυ : υ.2.2.2 = σ.2.2.2 := (congrArg Prod.snd hu.2.2).trans hnτ
    have hsu : υ.1 14 3 = nI k := (hu.1 14 3 (by unfold zfL; simp)).trans hst
    have eu7 : υ.1 17 = τ.1 17 := funext fun j => hu.1 17 j (by unfold zfL; simp)
    refine zq (σ := υ) hV hIυ hnυ 4 ?_
    show zSp _ _ 40 [.ref 14, .int be] υ (fun r σ' => σ'.2.2.2 = υ.2.2.2 + zAl 40 → V 33 [(1, .int be), (0, .ref 0)] (r.toList ++ []) σ')
    refine price_ok (zR_of hIυ rfl rfl) hsu hk (fun _ => ?_)
    rw [eu7, e17]
    refine zq (σ := υ) hV hIυ hnυ 1 ?_
    show K (some (.int (zPx be (σ.1 17) k))) υ
    exact hOk τ υ be ht hbe.symm h_7 hu h4 hES
  · skip
    have h_7 := Classical.not_not.mp h_7
    refine zq (σ := τ) hV hIτ hnτ 2 ?_
    show K (some (.int (-3))) τ
    exact hNo τ ht (hbe.trans h_7)
