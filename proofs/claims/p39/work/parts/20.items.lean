variable {zx : Nat × (Nat → Int32)}
def kA (a : Nat) : Nat → Bool := fun b => Nat.beq b a
def kR (lo hi : Nat) : Nat → Bool := fun b => Nat.ble lo b && Nat.blt b hi
theorem zA_of {Kn : Nat → Bool} {q : (Nat → Nat → Value) × Nat} {a : Nat} (h : zQI Kn q) (ha : Kn a = true) : zQI (kA a) q := fun b hb => by
  rw [Nat.eq_of_beq_eq_true hb]; exact h a ha
theorem zR_of {lo hi lo' hi' : Nat} {q : (Nat → Nat → Value) × Nat} (h : zQI (kR lo hi) q) (h1 : Nat.ble lo lo' = true) (h2 : Nat.ble hi' hi = true) : zQI (kR lo' hi') q := fun b hb => by
  refine h b ?_
  unfold kR at hb ⊢
  rw [Bool.and_eq_true] at hb ⊢
  exact ⟨Nat.ble_eq.mpr (Nat.le_trans (Nat.le_of_ble_eq_true h1) (Nat.le_of_ble_eq_true hb.1)), Nat.ble_eq.mpr (Nat.le_trans (Nat.le_of_ble_eq_true hb.2) (Nat.le_of_ble_eq_true h2))⟩
theorem zix {i : Int32} {k n : Nat} (e : i = nI k) (hk : k < n) (hn : n < 2 ^ 31) : vp_in i n := by rw [e]; exact vp_in_nI hk hn
theorem zcl_k {i : Int32} {k : Nat} (e : i = nI k) (hk : k < 2 ^ 31) : i.toNatClampNeg = k := by rw [e]; exact nI_clamp hk
set_option maxRecDepth 4000 in
theorem item_2 {d : Nat} {σ : zSt} {i : Int32} {k : Nat} {K : Option Value → zSt → Prop} (hI : zQI (kA 2) σ.2.2) (e : i = nI k) (hk : k < 10) (hK : K (some (.int (σ.1 2 k))) σ) : zSp zx (d + 1) mX8_item [.ref 2, .int i] σ K := by
  refine ⟨⟨by decide, Nat.le_of_ble_eq_true rfl⟩, fun V hV => ?_⟩
  subst e
  refine zq (σ := σ) hV hI rfl 4 ?_
  show ((nI k) < 0 → V 20 [(0, .ref 2), (1, .int (nI k))] [] σ) ∧ (¬ (nI k) < 0 → V 8 [(0, .ref 2), (1, .int (nI k))] [] σ)
  refine ⟨fun hc => absurd hc (nI_pos (by omega)), fun _ => ?_⟩
  refine zq (σ := σ) hV hI rfl 4 ?_
  show (10 ≤ (nI k) → V 20 [(0, .ref 2), (1, .int (nI k))] [] σ) ∧ (¬ 10 ≤ (nI k) → V 14 [(0, .ref 2), (1, .int (nI k))] [] σ)
  refine ⟨fun hc => absurd hc (show ¬ nI 10 ≤ nI k from nI_ge hk (by decide)), fun _ => ?_⟩
  refine zq (σ := σ) hV hI rfl 3 ?_
  show vp_in (nI k) 10 ∧ V 17 [(0, .ref 2), (1, .int (nI k))] [.int (σ.1 2 (Int32.toNatClampNeg (nI k)))] σ
  refine ⟨vp_in_nI hk (by decide), ?_⟩
  refine zq (σ := σ) hV hI rfl 2 ?_
  show K (some (.int (σ.1 2 (Int32.toNatClampNeg (nI k))))) σ
  rw [nI_clamp (by omega)]
  exact hK
set_option maxRecDepth 4000 in
theorem setItem_2 {d : Nat} {σ : zSt} {i v : Int32} {k : Nat} {K : Option Value → zSt → Prop} (hI : zQI (kA 2) σ.2.2) (e : i = nI k) (hk : k < 10) (hK : K none (zuI σ 2 k v)) : zSp zx (d + 1) mX8_setItem [.ref 2, .int i, .int v] σ K := by
  refine ⟨⟨by decide, Nat.le_of_ble_eq_true rfl⟩, fun V hV => ?_⟩
  subst e
  refine zq (σ := σ) hV hI rfl 4 ?_
  show ((nI k) < 0 → V 18 [(0, .ref 2), (1, .int (nI k)), (2, .int v)] [] σ) ∧ (¬ (nI k) < 0 → V 8 [(0, .ref 2), (1, .int (nI k)), (2, .int v)] [] σ)
  refine ⟨fun hc => absurd hc (nI_pos (by omega)), fun _ => ?_⟩
  refine zq (σ := σ) hV hI rfl 4 ?_
  show (10 ≤ (nI k) → V 18 [(0, .ref 2), (1, .int (nI k)), (2, .int v)] [] σ) ∧ (¬ 10 ≤ (nI k) → V 14 [(0, .ref 2), (1, .int (nI k)), (2, .int v)] [] σ)
  refine ⟨fun hc => absurd hc (show ¬ nI 10 ≤ nI k from nI_ge hk (by decide)), fun _ => ?_⟩
  refine zq (σ := σ) hV hI rfl 4 ?_
  show vp_in (nI k) 10 ∧ V 18 [(0, .ref 2), (1, .int (nI k)), (2, .int v)] [] (zuI σ 2 (Int32.toNatClampNeg (nI k)) v)
  refine ⟨vp_in_nI hk (by decide), ?_⟩
  refine zq (σ := (zuI σ 2 (Int32.toNatClampNeg (nI k)) v)) hV hI rfl 1 ?_
  show K none (zuI σ 2 (Int32.toNatClampNeg (nI k)) v)
  rw [nI_clamp (by omega)]
  exact hK
set_option maxRecDepth 4000 in
theorem item_3 {d : Nat} {σ : zSt} {i : Int32} {k : Nat} {K : Option Value → zSt → Prop} (hI : zQI (kA 3) σ.2.2) (e : i = nI k) (hk : k < 10) (hK : K (some (.int (σ.1 3 k))) σ) : zSp zx (d + 1) mX8_item [.ref 3, .int i] σ K := by
  refine ⟨⟨by decide, Nat.le_of_ble_eq_true rfl⟩, fun V hV => ?_⟩
  subst e
  refine zq (σ := σ) hV hI rfl 4 ?_
  show ((nI k) < 0 → V 20 [(0, .ref 3), (1, .int (nI k))] [] σ) ∧ (¬ (nI k) < 0 → V 8 [(0, .ref 3), (1, .int (nI k))] [] σ)
  refine ⟨fun hc => absurd hc (nI_pos (by omega)), fun _ => ?_⟩
  refine zq (σ := σ) hV hI rfl 4 ?_
  show (10 ≤ (nI k) → V 20 [(0, .ref 3), (1, .int (nI k))] [] σ) ∧ (¬ 10 ≤ (nI k) → V 14 [(0, .ref 3), (1, .int (nI k))] [] σ)
  refine ⟨fun hc => absurd hc (show ¬ nI 10 ≤ nI k from nI_ge hk (by decide)), fun _ => ?_⟩
  refine zq (σ := σ) hV hI rfl 3 ?_
  show vp_in (nI k) 10 ∧ V 17 [(0, .ref 3), (1, .int (nI k))] [.int (σ.1 3 (Int32.toNatClampNeg (nI k)))] σ
  refine ⟨vp_in_nI hk (by decide), ?_⟩
  refine zq (σ := σ) hV hI rfl 2 ?_
  show K (some (.int (σ.1 3 (Int32.toNatClampNeg (nI k))))) σ
  rw [nI_clamp (by omega)]
  exact hK
set_option maxRecDepth 4000 in
theorem setItem_3 {d : Nat} {σ : zSt} {i v : Int32} {k : Nat} {K : Option Value → zSt → Prop} (hI : zQI (kA 3) σ.2.2) (e : i = nI k) (hk : k < 10) (hK : K none (zuI σ 3 k v)) : zSp zx (d + 1) mX8_setItem [.ref 3, .int i, .int v] σ K := by
  refine ⟨⟨by decide, Nat.le_of_ble_eq_true rfl⟩, fun V hV => ?_⟩
  subst e
  refine zq (σ := σ) hV hI rfl 4 ?_
  show ((nI k) < 0 → V 18 [(0, .ref 3), (1, .int (nI k)), (2, .int v)] [] σ) ∧ (¬ (nI k) < 0 → V 8 [(0, .ref 3), (1, .int (nI k)), (2, .int v)] [] σ)
  refine ⟨fun hc => absurd hc (nI_pos (by omega)), fun _ => ?_⟩
  refine zq (σ := σ) hV hI rfl 4 ?_
  show (10 ≤ (nI k) → V 18 [(0, .ref 3), (1, .int (nI k)), (2, .int v)] [] σ) ∧ (¬ 10 ≤ (nI k) → V 14 [(0, .ref 3), (1, .int (nI k)), (2, .int v)] [] σ)
  refine ⟨fun hc => absurd hc (show ¬ nI 10 ≤ nI k from nI_ge hk (by decide)), fun _ => ?_⟩
  refine zq (σ := σ) hV hI rfl 4 ?_
  show vp_in (nI k) 10 ∧ V 18 [(0, .ref 3), (1, .int (nI k)), (2, .int v)] [] (zuI σ 3 (Int32.toNatClampNeg (nI k)) v)
  refine ⟨vp_in_nI hk (by decide), ?_⟩
  refine zq (σ := (zuI σ 3 (Int32.toNatClampNeg (nI k)) v)) hV hI rfl 1 ?_
  show K none (zuI σ 3 (Int32.toNatClampNeg (nI k)) v)
  rw [nI_clamp (by omega)]
  exact hK
set_option maxRecDepth 4000 in
theorem item_5 {d : Nat} {σ : zSt} {i : Int32} {k : Nat} {K : Option Value → zSt → Prop} (hI : zQI (kA 5) σ.2.2) (e : i = nI k) (hk : k < 8) (hK : K (some (.int (σ.1 5 k))) σ) : zSp zx (d + 1) mX8_item [.ref 5, .int i] σ K := by
  refine ⟨⟨by decide, Nat.le_of_ble_eq_true rfl⟩, fun V hV => ?_⟩
  subst e
  refine zq (σ := σ) hV hI rfl 4 ?_
  show ((nI k) < 0 → V 20 [(0, .ref 5), (1, .int (nI k))] [] σ) ∧ (¬ (nI k) < 0 → V 8 [(0, .ref 5), (1, .int (nI k))] [] σ)
  refine ⟨fun hc => absurd hc (nI_pos (by omega)), fun _ => ?_⟩
  refine zq (σ := σ) hV hI rfl 4 ?_
  show (8 ≤ (nI k) → V 20 [(0, .ref 5), (1, .int (nI k))] [] σ) ∧ (¬ 8 ≤ (nI k) → V 14 [(0, .ref 5), (1, .int (nI k))] [] σ)
  refine ⟨fun hc => absurd hc (show ¬ nI 8 ≤ nI k from nI_ge hk (by decide)), fun _ => ?_⟩
  refine zq (σ := σ) hV hI rfl 3 ?_
  show vp_in (nI k) 8 ∧ V 17 [(0, .ref 5), (1, .int (nI k))] [.int (σ.1 5 (Int32.toNatClampNeg (nI k)))] σ
  refine ⟨vp_in_nI hk (by decide), ?_⟩
  refine zq (σ := σ) hV hI rfl 2 ?_
  show K (some (.int (σ.1 5 (Int32.toNatClampNeg (nI k))))) σ
  rw [nI_clamp (by omega)]
  exact hK
set_option maxRecDepth 4000 in
theorem setItem_5 {d : Nat} {σ : zSt} {i v : Int32} {k : Nat} {K : Option Value → zSt → Prop} (hI : zQI (kA 5) σ.2.2) (e : i = nI k) (hk : k < 8) (hK : K none (zuI σ 5 k v)) : zSp zx (d + 1) mX8_setItem [.ref 5, .int i, .int v] σ K := by
  refine ⟨⟨by decide, Nat.le_of_ble_eq_true rfl⟩, fun V hV => ?_⟩
  subst e
  refine zq (σ := σ) hV hI rfl 4 ?_
  show ((nI k) < 0 → V 18 [(0, .ref 5), (1, .int (nI k)), (2, .int v)] [] σ) ∧ (¬ (nI k) < 0 → V 8 [(0, .ref 5), (1, .int (nI k)), (2, .int v)] [] σ)
  refine ⟨fun hc => absurd hc (nI_pos (by omega)), fun _ => ?_⟩
  refine zq (σ := σ) hV hI rfl 4 ?_
  show (8 ≤ (nI k) → V 18 [(0, .ref 5), (1, .int (nI k)), (2, .int v)] [] σ) ∧ (¬ 8 ≤ (nI k) → V 14 [(0, .ref 5), (1, .int (nI k)), (2, .int v)] [] σ)
  refine ⟨fun hc => absurd hc (show ¬ nI 8 ≤ nI k from nI_ge hk (by decide)), fun _ => ?_⟩
  refine zq (σ := σ) hV hI rfl 4 ?_
  show vp_in (nI k) 8 ∧ V 18 [(0, .ref 5), (1, .int (nI k)), (2, .int v)] [] (zuI σ 5 (Int32.toNatClampNeg (nI k)) v)
  refine ⟨vp_in_nI hk (by decide), ?_⟩
  refine zq (σ := (zuI σ 5 (Int32.toNatClampNeg (nI k)) v)) hV hI rfl 1 ?_
  show K none (zuI σ 5 (Int32.toNatClampNeg (nI k)) v)
  rw [nI_clamp (by omega)]
  exact hK
set_option maxRecDepth 4000 in
theorem item_6 {d : Nat} {σ : zSt} {i : Int32} {k : Nat} {K : Option Value → zSt → Prop} (hI : zQI (kA 6) σ.2.2) (e : i = nI k) (hk : k < 8) (hK : K (some (.int (σ.1 6 k))) σ) : zSp zx (d + 1) mX8_item [.ref 6, .int i] σ K := by
  refine ⟨⟨by decide, Nat.le_of_ble_eq_true rfl⟩, fun V hV => ?_⟩
  subst e
  refine zq (σ := σ) hV hI rfl 4 ?_
  show ((nI k) < 0 → V 20 [(0, .ref 6), (1, .int (nI k))] [] σ) ∧ (¬ (nI k) < 0 → V 8 [(0, .ref 6), (1, .int (nI k))] [] σ)
  refine ⟨fun hc => absurd hc (nI_pos (by omega)), fun _ => ?_⟩
  refine zq (σ := σ) hV hI rfl 4 ?_
  show (8 ≤ (nI k) → V 20 [(0, .ref 6), (1, .int (nI k))] [] σ) ∧ (¬ 8 ≤ (nI k) → V 14 [(0, .ref 6), (1, .int (nI k))] [] σ)
  refine ⟨fun hc => absurd hc (show ¬ nI 8 ≤ nI k from nI_ge hk (by decide)), fun _ => ?_⟩
  refine zq (σ := σ) hV hI rfl 3 ?_
  show vp_in (nI k) 8 ∧ V 17 [(0, .ref 6), (1, .int (nI k))] [.int (σ.1 6 (Int32.toNatClampNeg (nI k)))] σ
  refine ⟨vp_in_nI hk (by decide), ?_⟩
  refine zq (σ := σ) hV hI rfl 2 ?_
  show K (some (.int (σ.1 6 (Int32.toNatClampNeg (nI k))))) σ
  rw [nI_clamp (by omega)]
  exact hK
set_option maxRecDepth 4000 in
theorem setItem_6 {d : Nat} {σ : zSt} {i v : Int32} {k : Nat} {K : Option Value → zSt → Prop} (hI : zQI (kA 6) σ.2.2) (e : i = nI k) (hk : k < 8) (hK : K none (zuI σ 6 k v)) : zSp zx (d + 1) mX8_setItem [.ref 6, .int i, .int v] σ K := by
  refine ⟨⟨by decide, Nat.le_of_ble_eq_true rfl⟩, fun V hV => ?_⟩
  subst e
  refine zq (σ := σ) hV hI rfl 4 ?_
  show ((nI k) < 0 → V 18 [(0, .ref 6), (1, .int (nI k)), (2, .int v)] [] σ) ∧ (¬ (nI k) < 0 → V 8 [(0, .ref 6), (1, .int (nI k)), (2, .int v)] [] σ)
  refine ⟨fun hc => absurd hc (nI_pos (by omega)), fun _ => ?_⟩
  refine zq (σ := σ) hV hI rfl 4 ?_
  show (8 ≤ (nI k) → V 18 [(0, .ref 6), (1, .int (nI k)), (2, .int v)] [] σ) ∧ (¬ 8 ≤ (nI k) → V 14 [(0, .ref 6), (1, .int (nI k)), (2, .int v)] [] σ)
  refine ⟨fun hc => absurd hc (show ¬ nI 8 ≤ nI k from nI_ge hk (by decide)), fun _ => ?_⟩
  refine zq (σ := σ) hV hI rfl 4 ?_
  show vp_in (nI k) 8 ∧ V 18 [(0, .ref 6), (1, .int (nI k)), (2, .int v)] [] (zuI σ 6 (Int32.toNatClampNeg (nI k)) v)
  refine ⟨vp_in_nI hk (by decide), ?_⟩
  refine zq (σ := (zuI σ 6 (Int32.toNatClampNeg (nI k)) v)) hV hI rfl 1 ?_
  show K none (zuI σ 6 (Int32.toNatClampNeg (nI k)) v)
  rw [nI_clamp (by omega)]
  exact hK
set_option maxRecDepth 4000 in
theorem item_8 {d : Nat} {σ : zSt} {i : Int32} {k : Nat} {K : Option Value → zSt → Prop} (hI : zQI (kA 8) σ.2.2) (e : i = nI k) (hk : k < 8) (hK : K (some (.int (σ.1 8 k))) σ) : zSp zx (d + 1) mX8_item [.ref 8, .int i] σ K := by
  refine ⟨⟨by decide, Nat.le_of_ble_eq_true rfl⟩, fun V hV => ?_⟩
  subst e
  refine zq (σ := σ) hV hI rfl 4 ?_
  show ((nI k) < 0 → V 20 [(0, .ref 8), (1, .int (nI k))] [] σ) ∧ (¬ (nI k) < 0 → V 8 [(0, .ref 8), (1, .int (nI k))] [] σ)
  refine ⟨fun hc => absurd hc (nI_pos (by omega)), fun _ => ?_⟩
  refine zq (σ := σ) hV hI rfl 4 ?_
  show (8 ≤ (nI k) → V 20 [(0, .ref 8), (1, .int (nI k))] [] σ) ∧ (¬ 8 ≤ (nI k) → V 14 [(0, .ref 8), (1, .int (nI k))] [] σ)
  refine ⟨fun hc => absurd hc (show ¬ nI 8 ≤ nI k from nI_ge hk (by decide)), fun _ => ?_⟩
  refine zq (σ := σ) hV hI rfl 3 ?_
  show vp_in (nI k) 8 ∧ V 17 [(0, .ref 8), (1, .int (nI k))] [.int (σ.1 8 (Int32.toNatClampNeg (nI k)))] σ
  refine ⟨vp_in_nI hk (by decide), ?_⟩
  refine zq (σ := σ) hV hI rfl 2 ?_
  show K (some (.int (σ.1 8 (Int32.toNatClampNeg (nI k))))) σ
  rw [nI_clamp (by omega)]
  exact hK
set_option maxRecDepth 4000 in
theorem setItem_8 {d : Nat} {σ : zSt} {i v : Int32} {k : Nat} {K : Option Value → zSt → Prop} (hI : zQI (kA 8) σ.2.2) (e : i = nI k) (hk : k < 8) (hK : K none (zuI σ 8 k v)) : zSp zx (d + 1) mX8_setItem [.ref 8, .int i, .int v] σ K := by
  refine ⟨⟨by decide, Nat.le_of_ble_eq_true rfl⟩, fun V hV => ?_⟩
  subst e
  refine zq (σ := σ) hV hI rfl 4 ?_
  show ((nI k) < 0 → V 18 [(0, .ref 8), (1, .int (nI k)), (2, .int v)] [] σ) ∧ (¬ (nI k) < 0 → V 8 [(0, .ref 8), (1, .int (nI k)), (2, .int v)] [] σ)
  refine ⟨fun hc => absurd hc (nI_pos (by omega)), fun _ => ?_⟩
  refine zq (σ := σ) hV hI rfl 4 ?_
  show (8 ≤ (nI k) → V 18 [(0, .ref 8), (1, .int (nI k)), (2, .int v)] [] σ) ∧ (¬ 8 ≤ (nI k) → V 14 [(0, .ref 8), (1, .int (nI k)), (2, .int v)] [] σ)
  refine ⟨fun hc => absurd hc (show ¬ nI 8 ≤ nI k from nI_ge hk (by decide)), fun _ => ?_⟩
  refine zq (σ := σ) hV hI rfl 4 ?_
  show vp_in (nI k) 8 ∧ V 18 [(0, .ref 8), (1, .int (nI k)), (2, .int v)] [] (zuI σ 8 (Int32.toNatClampNeg (nI k)) v)
  refine ⟨vp_in_nI hk (by decide), ?_⟩
  refine zq (σ := (zuI σ 8 (Int32.toNatClampNeg (nI k)) v)) hV hI rfl 1 ?_
  show K none (zuI σ 8 (Int32.toNatClampNeg (nI k)) v)
  rw [nI_clamp (by omega)]
  exact hK
set_option maxRecDepth 4000 in
theorem item_9 {d : Nat} {σ : zSt} {i : Int32} {k : Nat} {K : Option Value → zSt → Prop} (hI : zQI (kA 9) σ.2.2) (e : i = nI k) (hk : k < 8) (hK : K (some (.int (σ.1 9 k))) σ) : zSp zx (d + 1) mX8_item [.ref 9, .int i] σ K := by
  refine ⟨⟨by decide, Nat.le_of_ble_eq_true rfl⟩, fun V hV => ?_⟩
  subst e
  refine zq (σ := σ) hV hI rfl 4 ?_
  show ((nI k) < 0 → V 20 [(0, .ref 9), (1, .int (nI k))] [] σ) ∧ (¬ (nI k) < 0 → V 8 [(0, .ref 9), (1, .int (nI k))] [] σ)
  refine ⟨fun hc => absurd hc (nI_pos (by omega)), fun _ => ?_⟩
  refine zq (σ := σ) hV hI rfl 4 ?_
  show (8 ≤ (nI k) → V 20 [(0, .ref 9), (1, .int (nI k))] [] σ) ∧ (¬ 8 ≤ (nI k) → V 14 [(0, .ref 9), (1, .int (nI k))] [] σ)
  refine ⟨fun hc => absurd hc (show ¬ nI 8 ≤ nI k from nI_ge hk (by decide)), fun _ => ?_⟩
  refine zq (σ := σ) hV hI rfl 3 ?_
  show vp_in (nI k) 8 ∧ V 17 [(0, .ref 9), (1, .int (nI k))] [.int (σ.1 9 (Int32.toNatClampNeg (nI k)))] σ
  refine ⟨vp_in_nI hk (by decide), ?_⟩
  refine zq (σ := σ) hV hI rfl 2 ?_
  show K (some (.int (σ.1 9 (Int32.toNatClampNeg (nI k))))) σ
  rw [nI_clamp (by omega)]
  exact hK
set_option maxRecDepth 4000 in
theorem setItem_9 {d : Nat} {σ : zSt} {i v : Int32} {k : Nat} {K : Option Value → zSt → Prop} (hI : zQI (kA 9) σ.2.2) (e : i = nI k) (hk : k < 8) (hK : K none (zuI σ 9 k v)) : zSp zx (d + 1) mX8_setItem [.ref 9, .int i, .int v] σ K := by
  refine ⟨⟨by decide, Nat.le_of_ble_eq_true rfl⟩, fun V hV => ?_⟩
  subst e
  refine zq (σ := σ) hV hI rfl 4 ?_
  show ((nI k) < 0 → V 18 [(0, .ref 9), (1, .int (nI k)), (2, .int v)] [] σ) ∧ (¬ (nI k) < 0 → V 8 [(0, .ref 9), (1, .int (nI k)), (2, .int v)] [] σ)
  refine ⟨fun hc => absurd hc (nI_pos (by omega)), fun _ => ?_⟩
  refine zq (σ := σ) hV hI rfl 4 ?_
  show (8 ≤ (nI k) → V 18 [(0, .ref 9), (1, .int (nI k)), (2, .int v)] [] σ) ∧ (¬ 8 ≤ (nI k) → V 14 [(0, .ref 9), (1, .int (nI k)), (2, .int v)] [] σ)
  refine ⟨fun hc => absurd hc (show ¬ nI 8 ≤ nI k from nI_ge hk (by decide)), fun _ => ?_⟩
  refine zq (σ := σ) hV hI rfl 4 ?_
  show vp_in (nI k) 8 ∧ V 18 [(0, .ref 9), (1, .int (nI k)), (2, .int v)] [] (zuI σ 9 (Int32.toNatClampNeg (nI k)) v)
  refine ⟨vp_in_nI hk (by decide), ?_⟩
  refine zq (σ := (zuI σ 9 (Int32.toNatClampNeg (nI k)) v)) hV hI rfl 1 ?_
  show K none (zuI σ 9 (Int32.toNatClampNeg (nI k)) v)
  rw [nI_clamp (by omega)]
  exact hK
set_option maxRecDepth 4000 in
theorem item_11 {d : Nat} {σ : zSt} {i : Int32} {k : Nat} {K : Option Value → zSt → Prop} (hI : zQI (kA 11) σ.2.2) (e : i = nI k) (hk : k < 16) (hK : K (some (.int (σ.1 11 k))) σ) : zSp zx (d + 1) mX8_item [.ref 11, .int i] σ K := by
  refine ⟨⟨by decide, Nat.le_of_ble_eq_true rfl⟩, fun V hV => ?_⟩
  subst e
  refine zq (σ := σ) hV hI rfl 4 ?_
  show ((nI k) < 0 → V 20 [(0, .ref 11), (1, .int (nI k))] [] σ) ∧ (¬ (nI k) < 0 → V 8 [(0, .ref 11), (1, .int (nI k))] [] σ)
  refine ⟨fun hc => absurd hc (nI_pos (by omega)), fun _ => ?_⟩
  refine zq (σ := σ) hV hI rfl 4 ?_
  show (16 ≤ (nI k) → V 20 [(0, .ref 11), (1, .int (nI k))] [] σ) ∧ (¬ 16 ≤ (nI k) → V 14 [(0, .ref 11), (1, .int (nI k))] [] σ)
  refine ⟨fun hc => absurd hc (show ¬ nI 16 ≤ nI k from nI_ge hk (by decide)), fun _ => ?_⟩
  refine zq (σ := σ) hV hI rfl 3 ?_
  show vp_in (nI k) 16 ∧ V 17 [(0, .ref 11), (1, .int (nI k))] [.int (σ.1 11 (Int32.toNatClampNeg (nI k)))] σ
  refine ⟨vp_in_nI hk (by decide), ?_⟩
  refine zq (σ := σ) hV hI rfl 2 ?_
  show K (some (.int (σ.1 11 (Int32.toNatClampNeg (nI k))))) σ
  rw [nI_clamp (by omega)]
  exact hK
set_option maxRecDepth 4000 in
theorem setItem_11 {d : Nat} {σ : zSt} {i v : Int32} {k : Nat} {K : Option Value → zSt → Prop} (hI : zQI (kA 11) σ.2.2) (e : i = nI k) (hk : k < 16) (hK : K none (zuI σ 11 k v)) : zSp zx (d + 1) mX8_setItem [.ref 11, .int i, .int v] σ K := by
  refine ⟨⟨by decide, Nat.le_of_ble_eq_true rfl⟩, fun V hV => ?_⟩
  subst e
  refine zq (σ := σ) hV hI rfl 4 ?_
  show ((nI k) < 0 → V 18 [(0, .ref 11), (1, .int (nI k)), (2, .int v)] [] σ) ∧ (¬ (nI k) < 0 → V 8 [(0, .ref 11), (1, .int (nI k)), (2, .int v)] [] σ)
  refine ⟨fun hc => absurd hc (nI_pos (by omega)), fun _ => ?_⟩
  refine zq (σ := σ) hV hI rfl 4 ?_
  show (16 ≤ (nI k) → V 18 [(0, .ref 11), (1, .int (nI k)), (2, .int v)] [] σ) ∧ (¬ 16 ≤ (nI k) → V 14 [(0, .ref 11), (1, .int (nI k)), (2, .int v)] [] σ)
  refine ⟨fun hc => absurd hc (show ¬ nI 16 ≤ nI k from nI_ge hk (by decide)), fun _ => ?_⟩
  refine zq (σ := σ) hV hI rfl 4 ?_
  show vp_in (nI k) 16 ∧ V 18 [(0, .ref 11), (1, .int (nI k)), (2, .int v)] [] (zuI σ 11 (Int32.toNatClampNeg (nI k)) v)
  refine ⟨vp_in_nI hk (by decide), ?_⟩
  refine zq (σ := (zuI σ 11 (Int32.toNatClampNeg (nI k)) v)) hV hI rfl 1 ?_
  show K none (zuI σ 11 (Int32.toNatClampNeg (nI k)) v)
  rw [nI_clamp (by omega)]
  exact hK
set_option maxRecDepth 4000 in
theorem item_12 {d : Nat} {σ : zSt} {i : Int32} {k : Nat} {K : Option Value → zSt → Prop} (hI : zQI (kA 12) σ.2.2) (e : i = nI k) (hk : k < 16) (hK : K (some (.int (σ.1 12 k))) σ) : zSp zx (d + 1) mX8_item [.ref 12, .int i] σ K := by
  refine ⟨⟨by decide, Nat.le_of_ble_eq_true rfl⟩, fun V hV => ?_⟩
  subst e
  refine zq (σ := σ) hV hI rfl 4 ?_
  show ((nI k) < 0 → V 20 [(0, .ref 12), (1, .int (nI k))] [] σ) ∧ (¬ (nI k) < 0 → V 8 [(0, .ref 12), (1, .int (nI k))] [] σ)
  refine ⟨fun hc => absurd hc (nI_pos (by omega)), fun _ => ?_⟩
  refine zq (σ := σ) hV hI rfl 4 ?_
  show (16 ≤ (nI k) → V 20 [(0, .ref 12), (1, .int (nI k))] [] σ) ∧ (¬ 16 ≤ (nI k) → V 14 [(0, .ref 12), (1, .int (nI k))] [] σ)
  refine ⟨fun hc => absurd hc (show ¬ nI 16 ≤ nI k from nI_ge hk (by decide)), fun _ => ?_⟩
  refine zq (σ := σ) hV hI rfl 3 ?_
  show vp_in (nI k) 16 ∧ V 17 [(0, .ref 12), (1, .int (nI k))] [.int (σ.1 12 (Int32.toNatClampNeg (nI k)))] σ
  refine ⟨vp_in_nI hk (by decide), ?_⟩
  refine zq (σ := σ) hV hI rfl 2 ?_
  show K (some (.int (σ.1 12 (Int32.toNatClampNeg (nI k))))) σ
  rw [nI_clamp (by omega)]
  exact hK
set_option maxRecDepth 4000 in
theorem setItem_12 {d : Nat} {σ : zSt} {i v : Int32} {k : Nat} {K : Option Value → zSt → Prop} (hI : zQI (kA 12) σ.2.2) (e : i = nI k) (hk : k < 16) (hK : K none (zuI σ 12 k v)) : zSp zx (d + 1) mX8_setItem [.ref 12, .int i, .int v] σ K := by
  refine ⟨⟨by decide, Nat.le_of_ble_eq_true rfl⟩, fun V hV => ?_⟩
  subst e
  refine zq (σ := σ) hV hI rfl 4 ?_
  show ((nI k) < 0 → V 18 [(0, .ref 12), (1, .int (nI k)), (2, .int v)] [] σ) ∧ (¬ (nI k) < 0 → V 8 [(0, .ref 12), (1, .int (nI k)), (2, .int v)] [] σ)
  refine ⟨fun hc => absurd hc (nI_pos (by omega)), fun _ => ?_⟩
  refine zq (σ := σ) hV hI rfl 4 ?_
  show (16 ≤ (nI k) → V 18 [(0, .ref 12), (1, .int (nI k)), (2, .int v)] [] σ) ∧ (¬ 16 ≤ (nI k) → V 14 [(0, .ref 12), (1, .int (nI k)), (2, .int v)] [] σ)
  refine ⟨fun hc => absurd hc (show ¬ nI 16 ≤ nI k from nI_ge hk (by decide)), fun _ => ?_⟩
  refine zq (σ := σ) hV hI rfl 4 ?_
  show vp_in (nI k) 16 ∧ V 18 [(0, .ref 12), (1, .int (nI k)), (2, .int v)] [] (zuI σ 12 (Int32.toNatClampNeg (nI k)) v)
  refine ⟨vp_in_nI hk (by decide), ?_⟩
  refine zq (σ := (zuI σ 12 (Int32.toNatClampNeg (nI k)) v)) hV hI rfl 1 ?_
  show K none (zuI σ 12 (Int32.toNatClampNeg (nI k)) v)
  rw [nI_clamp (by omega)]
  exact hK
set_option maxRecDepth 4000 in
theorem item_13 {d : Nat} {σ : zSt} {i : Int32} {k : Nat} {K : Option Value → zSt → Prop} (hI : zQI (kA 13) σ.2.2) (e : i = nI k) (hk : k < 16) (hK : K (some (.int (σ.1 13 k))) σ) : zSp zx (d + 1) mX8_item [.ref 13, .int i] σ K := by
  refine ⟨⟨by decide, Nat.le_of_ble_eq_true rfl⟩, fun V hV => ?_⟩
  subst e
  refine zq (σ := σ) hV hI rfl 4 ?_
  show ((nI k) < 0 → V 20 [(0, .ref 13), (1, .int (nI k))] [] σ) ∧ (¬ (nI k) < 0 → V 8 [(0, .ref 13), (1, .int (nI k))] [] σ)
  refine ⟨fun hc => absurd hc (nI_pos (by omega)), fun _ => ?_⟩
  refine zq (σ := σ) hV hI rfl 4 ?_
  show (16 ≤ (nI k) → V 20 [(0, .ref 13), (1, .int (nI k))] [] σ) ∧ (¬ 16 ≤ (nI k) → V 14 [(0, .ref 13), (1, .int (nI k))] [] σ)
  refine ⟨fun hc => absurd hc (show ¬ nI 16 ≤ nI k from nI_ge hk (by decide)), fun _ => ?_⟩
  refine zq (σ := σ) hV hI rfl 3 ?_
  show vp_in (nI k) 16 ∧ V 17 [(0, .ref 13), (1, .int (nI k))] [.int (σ.1 13 (Int32.toNatClampNeg (nI k)))] σ
  refine ⟨vp_in_nI hk (by decide), ?_⟩
  refine zq (σ := σ) hV hI rfl 2 ?_
  show K (some (.int (σ.1 13 (Int32.toNatClampNeg (nI k))))) σ
  rw [nI_clamp (by omega)]
  exact hK
set_option maxRecDepth 4000 in
theorem setItem_13 {d : Nat} {σ : zSt} {i v : Int32} {k : Nat} {K : Option Value → zSt → Prop} (hI : zQI (kA 13) σ.2.2) (e : i = nI k) (hk : k < 16) (hK : K none (zuI σ 13 k v)) : zSp zx (d + 1) mX8_setItem [.ref 13, .int i, .int v] σ K := by
  refine ⟨⟨by decide, Nat.le_of_ble_eq_true rfl⟩, fun V hV => ?_⟩
  subst e
  refine zq (σ := σ) hV hI rfl 4 ?_
  show ((nI k) < 0 → V 18 [(0, .ref 13), (1, .int (nI k)), (2, .int v)] [] σ) ∧ (¬ (nI k) < 0 → V 8 [(0, .ref 13), (1, .int (nI k)), (2, .int v)] [] σ)
  refine ⟨fun hc => absurd hc (nI_pos (by omega)), fun _ => ?_⟩
  refine zq (σ := σ) hV hI rfl 4 ?_
  show (16 ≤ (nI k) → V 18 [(0, .ref 13), (1, .int (nI k)), (2, .int v)] [] σ) ∧ (¬ 16 ≤ (nI k) → V 14 [(0, .ref 13), (1, .int (nI k)), (2, .int v)] [] σ)
  refine ⟨fun hc => absurd hc (show ¬ nI 16 ≤ nI k from nI_ge hk (by decide)), fun _ => ?_⟩
  refine zq (σ := σ) hV hI rfl 4 ?_
  show vp_in (nI k) 16 ∧ V 18 [(0, .ref 13), (1, .int (nI k)), (2, .int v)] [] (zuI σ 13 (Int32.toNatClampNeg (nI k)) v)
  refine ⟨vp_in_nI hk (by decide), ?_⟩
  refine zq (σ := (zuI σ 13 (Int32.toNatClampNeg (nI k)) v)) hV hI rfl 1 ?_
  show K none (zuI σ 13 (Int32.toNatClampNeg (nI k)) v)
  rw [nI_clamp (by omega)]
  exact hK
set_option maxRecDepth 4000 in
theorem item_15 {d : Nat} {σ : zSt} {i : Int32} {k : Nat} {K : Option Value → zSt → Prop} (hI : zQI (kA 15) σ.2.2) (e : i = nI k) (hk : k < 7) (hK : K (some (.int (σ.1 15 k))) σ) : zSp zx (d + 1) mX8_item [.ref 15, .int i] σ K := by
  refine ⟨⟨by decide, Nat.le_of_ble_eq_true rfl⟩, fun V hV => ?_⟩
  subst e
  refine zq (σ := σ) hV hI rfl 4 ?_
  show ((nI k) < 0 → V 20 [(0, .ref 15), (1, .int (nI k))] [] σ) ∧ (¬ (nI k) < 0 → V 8 [(0, .ref 15), (1, .int (nI k))] [] σ)
  refine ⟨fun hc => absurd hc (nI_pos (by omega)), fun _ => ?_⟩
  refine zq (σ := σ) hV hI rfl 4 ?_
  show (7 ≤ (nI k) → V 20 [(0, .ref 15), (1, .int (nI k))] [] σ) ∧ (¬ 7 ≤ (nI k) → V 14 [(0, .ref 15), (1, .int (nI k))] [] σ)
  refine ⟨fun hc => absurd hc (show ¬ nI 7 ≤ nI k from nI_ge hk (by decide)), fun _ => ?_⟩
  refine zq (σ := σ) hV hI rfl 3 ?_
  show vp_in (nI k) 7 ∧ V 17 [(0, .ref 15), (1, .int (nI k))] [.int (σ.1 15 (Int32.toNatClampNeg (nI k)))] σ
  refine ⟨vp_in_nI hk (by decide), ?_⟩
  refine zq (σ := σ) hV hI rfl 2 ?_
  show K (some (.int (σ.1 15 (Int32.toNatClampNeg (nI k))))) σ
  rw [nI_clamp (by omega)]
  exact hK
set_option maxRecDepth 4000 in
theorem setItem_15 {d : Nat} {σ : zSt} {i v : Int32} {k : Nat} {K : Option Value → zSt → Prop} (hI : zQI (kA 15) σ.2.2) (e : i = nI k) (hk : k < 7) (hK : K none (zuI σ 15 k v)) : zSp zx (d + 1) mX8_setItem [.ref 15, .int i, .int v] σ K := by
  refine ⟨⟨by decide, Nat.le_of_ble_eq_true rfl⟩, fun V hV => ?_⟩
  subst e
  refine zq (σ := σ) hV hI rfl 4 ?_
  show ((nI k) < 0 → V 18 [(0, .ref 15), (1, .int (nI k)), (2, .int v)] [] σ) ∧ (¬ (nI k) < 0 → V 8 [(0, .ref 15), (1, .int (nI k)), (2, .int v)] [] σ)
  refine ⟨fun hc => absurd hc (nI_pos (by omega)), fun _ => ?_⟩
  refine zq (σ := σ) hV hI rfl 4 ?_
  show (7 ≤ (nI k) → V 18 [(0, .ref 15), (1, .int (nI k)), (2, .int v)] [] σ) ∧ (¬ 7 ≤ (nI k) → V 14 [(0, .ref 15), (1, .int (nI k)), (2, .int v)] [] σ)
  refine ⟨fun hc => absurd hc (show ¬ nI 7 ≤ nI k from nI_ge hk (by decide)), fun _ => ?_⟩
  refine zq (σ := σ) hV hI rfl 4 ?_
  show vp_in (nI k) 7 ∧ V 18 [(0, .ref 15), (1, .int (nI k)), (2, .int v)] [] (zuI σ 15 (Int32.toNatClampNeg (nI k)) v)
  refine ⟨vp_in_nI hk (by decide), ?_⟩
  refine zq (σ := (zuI σ 15 (Int32.toNatClampNeg (nI k)) v)) hV hI rfl 1 ?_
  show K none (zuI σ 15 (Int32.toNatClampNeg (nI k)) v)
  rw [nI_clamp (by omega)]
  exact hK
set_option maxRecDepth 4000 in
theorem item_16 {d : Nat} {σ : zSt} {i : Int32} {k : Nat} {K : Option Value → zSt → Prop} (hI : zQI (kA 16) σ.2.2) (e : i = nI k) (hk : k < 7) (hK : K (some (.int (σ.1 16 k))) σ) : zSp zx (d + 1) mX8_item [.ref 16, .int i] σ K := by
  refine ⟨⟨by decide, Nat.le_of_ble_eq_true rfl⟩, fun V hV => ?_⟩
  subst e
  refine zq (σ := σ) hV hI rfl 4 ?_
  show ((nI k) < 0 → V 20 [(0, .ref 16), (1, .int (nI k))] [] σ) ∧ (¬ (nI k) < 0 → V 8 [(0, .ref 16), (1, .int (nI k))] [] σ)
  refine ⟨fun hc => absurd hc (nI_pos (by omega)), fun _ => ?_⟩
  refine zq (σ := σ) hV hI rfl 4 ?_
  show (7 ≤ (nI k) → V 20 [(0, .ref 16), (1, .int (nI k))] [] σ) ∧ (¬ 7 ≤ (nI k) → V 14 [(0, .ref 16), (1, .int (nI k))] [] σ)
  refine ⟨fun hc => absurd hc (show ¬ nI 7 ≤ nI k from nI_ge hk (by decide)), fun _ => ?_⟩
  refine zq (σ := σ) hV hI rfl 3 ?_
  show vp_in (nI k) 7 ∧ V 17 [(0, .ref 16), (1, .int (nI k))] [.int (σ.1 16 (Int32.toNatClampNeg (nI k)))] σ
  refine ⟨vp_in_nI hk (by decide), ?_⟩
  refine zq (σ := σ) hV hI rfl 2 ?_
  show K (some (.int (σ.1 16 (Int32.toNatClampNeg (nI k))))) σ
  rw [nI_clamp (by omega)]
  exact hK
set_option maxRecDepth 4000 in
theorem setItem_16 {d : Nat} {σ : zSt} {i v : Int32} {k : Nat} {K : Option Value → zSt → Prop} (hI : zQI (kA 16) σ.2.2) (e : i = nI k) (hk : k < 7) (hK : K none (zuI σ 16 k v)) : zSp zx (d + 1) mX8_setItem [.ref 16, .int i, .int v] σ K := by
  refine ⟨⟨by decide, Nat.le_of_ble_eq_true rfl⟩, fun V hV => ?_⟩
  subst e
  refine zq (σ := σ) hV hI rfl 4 ?_
  show ((nI k) < 0 → V 18 [(0, .ref 16), (1, .int (nI k)), (2, .int v)] [] σ) ∧ (¬ (nI k) < 0 → V 8 [(0, .ref 16), (1, .int (nI k)), (2, .int v)] [] σ)
  refine ⟨fun hc => absurd hc (nI_pos (by omega)), fun _ => ?_⟩
  refine zq (σ := σ) hV hI rfl 4 ?_
  show (7 ≤ (nI k) → V 18 [(0, .ref 16), (1, .int (nI k)), (2, .int v)] [] σ) ∧ (¬ 7 ≤ (nI k) → V 14 [(0, .ref 16), (1, .int (nI k)), (2, .int v)] [] σ)
  refine ⟨fun hc => absurd hc (show ¬ nI 7 ≤ nI k from nI_ge hk (by decide)), fun _ => ?_⟩
  refine zq (σ := σ) hV hI rfl 4 ?_
  show vp_in (nI k) 7 ∧ V 18 [(0, .ref 16), (1, .int (nI k)), (2, .int v)] [] (zuI σ 16 (Int32.toNatClampNeg (nI k)) v)
  refine ⟨vp_in_nI hk (by decide), ?_⟩
  refine zq (σ := (zuI σ 16 (Int32.toNatClampNeg (nI k)) v)) hV hI rfl 1 ?_
  show K none (zuI σ 16 (Int32.toNatClampNeg (nI k)) v)
  rw [nI_clamp (by omega)]
  exact hK
set_option maxRecDepth 4000 in
theorem item_17 {d : Nat} {σ : zSt} {i : Int32} {k : Nat} {K : Option Value → zSt → Prop} (hI : zQI (kA 17) σ.2.2) (e : i = nI k) (hk : k < 7) (hK : K (some (.int (σ.1 17 k))) σ) : zSp zx (d + 1) mX8_item [.ref 17, .int i] σ K := by
  refine ⟨⟨by decide, Nat.le_of_ble_eq_true rfl⟩, fun V hV => ?_⟩
  subst e
  refine zq (σ := σ) hV hI rfl 4 ?_
  show ((nI k) < 0 → V 20 [(0, .ref 17), (1, .int (nI k))] [] σ) ∧ (¬ (nI k) < 0 → V 8 [(0, .ref 17), (1, .int (nI k))] [] σ)
  refine ⟨fun hc => absurd hc (nI_pos (by omega)), fun _ => ?_⟩
  refine zq (σ := σ) hV hI rfl 4 ?_
  show (7 ≤ (nI k) → V 20 [(0, .ref 17), (1, .int (nI k))] [] σ) ∧ (¬ 7 ≤ (nI k) → V 14 [(0, .ref 17), (1, .int (nI k))] [] σ)
  refine ⟨fun hc => absurd hc (show ¬ nI 7 ≤ nI k from nI_ge hk (by decide)), fun _ => ?_⟩
  refine zq (σ := σ) hV hI rfl 3 ?_
  show vp_in (nI k) 7 ∧ V 17 [(0, .ref 17), (1, .int (nI k))] [.int (σ.1 17 (Int32.toNatClampNeg (nI k)))] σ
  refine ⟨vp_in_nI hk (by decide), ?_⟩
  refine zq (σ := σ) hV hI rfl 2 ?_
  show K (some (.int (σ.1 17 (Int32.toNatClampNeg (nI k))))) σ
  rw [nI_clamp (by omega)]
  exact hK
set_option maxRecDepth 4000 in
theorem setItem_17 {d : Nat} {σ : zSt} {i v : Int32} {k : Nat} {K : Option Value → zSt → Prop} (hI : zQI (kA 17) σ.2.2) (e : i = nI k) (hk : k < 7) (hK : K none (zuI σ 17 k v)) : zSp zx (d + 1) mX8_setItem [.ref 17, .int i, .int v] σ K := by
  refine ⟨⟨by decide, Nat.le_of_ble_eq_true rfl⟩, fun V hV => ?_⟩
  subst e
  refine zq (σ := σ) hV hI rfl 4 ?_
  show ((nI k) < 0 → V 18 [(0, .ref 17), (1, .int (nI k)), (2, .int v)] [] σ) ∧ (¬ (nI k) < 0 → V 8 [(0, .ref 17), (1, .int (nI k)), (2, .int v)] [] σ)
  refine ⟨fun hc => absurd hc (nI_pos (by omega)), fun _ => ?_⟩
  refine zq (σ := σ) hV hI rfl 4 ?_
  show (7 ≤ (nI k) → V 18 [(0, .ref 17), (1, .int (nI k)), (2, .int v)] [] σ) ∧ (¬ 7 ≤ (nI k) → V 14 [(0, .ref 17), (1, .int (nI k)), (2, .int v)] [] σ)
  refine ⟨fun hc => absurd hc (show ¬ nI 7 ≤ nI k from nI_ge hk (by decide)), fun _ => ?_⟩
  refine zq (σ := σ) hV hI rfl 4 ?_
  show vp_in (nI k) 7 ∧ V 18 [(0, .ref 17), (1, .int (nI k)), (2, .int v)] [] (zuI σ 17 (Int32.toNatClampNeg (nI k)) v)
  refine ⟨vp_in_nI hk (by decide), ?_⟩
  refine zq (σ := (zuI σ 17 (Int32.toNatClampNeg (nI k)) v)) hV hI rfl 1 ?_
  show K none (zuI σ 17 (Int32.toNatClampNeg (nI k)) v)
  rw [nI_clamp (by omega)]
  exact hK
set_option maxRecDepth 4000 in
theorem item_27 {d : Nat} {σ : zSt} {i : Int32} {k : Nat} {K : Option Value → zSt → Prop} (hI : zQI (kA 27) σ.2.2) (e : i = nI k) (hk : k < 4) (hK : K (some (.int (σ.1 27 k))) σ) : zSp zx (d + 1) mX8_item [.ref 27, .int i] σ K := by
  refine ⟨⟨by decide, Nat.le_of_ble_eq_true rfl⟩, fun V hV => ?_⟩
  subst e
  refine zq (σ := σ) hV hI rfl 4 ?_
  show ((nI k) < 0 → V 20 [(0, .ref 27), (1, .int (nI k))] [] σ) ∧ (¬ (nI k) < 0 → V 8 [(0, .ref 27), (1, .int (nI k))] [] σ)
  refine ⟨fun hc => absurd hc (nI_pos (by omega)), fun _ => ?_⟩
  refine zq (σ := σ) hV hI rfl 4 ?_
  show (4 ≤ (nI k) → V 20 [(0, .ref 27), (1, .int (nI k))] [] σ) ∧ (¬ 4 ≤ (nI k) → V 14 [(0, .ref 27), (1, .int (nI k))] [] σ)
  refine ⟨fun hc => absurd hc (show ¬ nI 4 ≤ nI k from nI_ge hk (by decide)), fun _ => ?_⟩
  refine zq (σ := σ) hV hI rfl 3 ?_
  show vp_in (nI k) 4 ∧ V 17 [(0, .ref 27), (1, .int (nI k))] [.int (σ.1 27 (Int32.toNatClampNeg (nI k)))] σ
  refine ⟨vp_in_nI hk (by decide), ?_⟩
  refine zq (σ := σ) hV hI rfl 2 ?_
  show K (some (.int (σ.1 27 (Int32.toNatClampNeg (nI k))))) σ
  rw [nI_clamp (by omega)]
  exact hK
set_option maxRecDepth 4000 in
theorem setItem_27 {d : Nat} {σ : zSt} {i v : Int32} {k : Nat} {K : Option Value → zSt → Prop} (hI : zQI (kA 27) σ.2.2) (e : i = nI k) (hk : k < 4) (hK : K none (zuI σ 27 k v)) : zSp zx (d + 1) mX8_setItem [.ref 27, .int i, .int v] σ K := by
  refine ⟨⟨by decide, Nat.le_of_ble_eq_true rfl⟩, fun V hV => ?_⟩
  subst e
  refine zq (σ := σ) hV hI rfl 4 ?_
  show ((nI k) < 0 → V 18 [(0, .ref 27), (1, .int (nI k)), (2, .int v)] [] σ) ∧ (¬ (nI k) < 0 → V 8 [(0, .ref 27), (1, .int (nI k)), (2, .int v)] [] σ)
  refine ⟨fun hc => absurd hc (nI_pos (by omega)), fun _ => ?_⟩
  refine zq (σ := σ) hV hI rfl 4 ?_
  show (4 ≤ (nI k) → V 18 [(0, .ref 27), (1, .int (nI k)), (2, .int v)] [] σ) ∧ (¬ 4 ≤ (nI k) → V 14 [(0, .ref 27), (1, .int (nI k)), (2, .int v)] [] σ)
  refine ⟨fun hc => absurd hc (show ¬ nI 4 ≤ nI k from nI_ge hk (by decide)), fun _ => ?_⟩
  refine zq (σ := σ) hV hI rfl 4 ?_
  show vp_in (nI k) 4 ∧ V 18 [(0, .ref 27), (1, .int (nI k)), (2, .int v)] [] (zuI σ 27 (Int32.toNatClampNeg (nI k)) v)
  refine ⟨vp_in_nI hk (by decide), ?_⟩
  refine zq (σ := (zuI σ 27 (Int32.toNatClampNeg (nI k)) v)) hV hI rfl 1 ?_
  show K none (zuI σ 27 (Int32.toNatClampNeg (nI k)) v)
  rw [nI_clamp (by omega)]
  exact hK
set_option maxRecDepth 4000 in
theorem item_28 {d : Nat} {σ : zSt} {i : Int32} {k : Nat} {K : Option Value → zSt → Prop} (hI : zQI (kA 28) σ.2.2) (e : i = nI k) (hk : k < 4) (hK : K (some (.int (σ.1 28 k))) σ) : zSp zx (d + 1) mX8_item [.ref 28, .int i] σ K := by
  refine ⟨⟨by decide, Nat.le_of_ble_eq_true rfl⟩, fun V hV => ?_⟩
  subst e
  refine zq (σ := σ) hV hI rfl 4 ?_
  show ((nI k) < 0 → V 20 [(0, .ref 28), (1, .int (nI k))] [] σ) ∧ (¬ (nI k) < 0 → V 8 [(0, .ref 28), (1, .int (nI k))] [] σ)
  refine ⟨fun hc => absurd hc (nI_pos (by omega)), fun _ => ?_⟩
  refine zq (σ := σ) hV hI rfl 4 ?_
  show (4 ≤ (nI k) → V 20 [(0, .ref 28), (1, .int (nI k))] [] σ) ∧ (¬ 4 ≤ (nI k) → V 14 [(0, .ref 28), (1, .int (nI k))] [] σ)
  refine ⟨fun hc => absurd hc (show ¬ nI 4 ≤ nI k from nI_ge hk (by decide)), fun _ => ?_⟩
  refine zq (σ := σ) hV hI rfl 3 ?_
  show vp_in (nI k) 4 ∧ V 17 [(0, .ref 28), (1, .int (nI k))] [.int (σ.1 28 (Int32.toNatClampNeg (nI k)))] σ
  refine ⟨vp_in_nI hk (by decide), ?_⟩
  refine zq (σ := σ) hV hI rfl 2 ?_
  show K (some (.int (σ.1 28 (Int32.toNatClampNeg (nI k))))) σ
  rw [nI_clamp (by omega)]
  exact hK
set_option maxRecDepth 4000 in
theorem setItem_28 {d : Nat} {σ : zSt} {i v : Int32} {k : Nat} {K : Option Value → zSt → Prop} (hI : zQI (kA 28) σ.2.2) (e : i = nI k) (hk : k < 4) (hK : K none (zuI σ 28 k v)) : zSp zx (d + 1) mX8_setItem [.ref 28, .int i, .int v] σ K := by
  refine ⟨⟨by decide, Nat.le_of_ble_eq_true rfl⟩, fun V hV => ?_⟩
  subst e
  refine zq (σ := σ) hV hI rfl 4 ?_
  show ((nI k) < 0 → V 18 [(0, .ref 28), (1, .int (nI k)), (2, .int v)] [] σ) ∧ (¬ (nI k) < 0 → V 8 [(0, .ref 28), (1, .int (nI k)), (2, .int v)] [] σ)
  refine ⟨fun hc => absurd hc (nI_pos (by omega)), fun _ => ?_⟩
  refine zq (σ := σ) hV hI rfl 4 ?_
  show (4 ≤ (nI k) → V 18 [(0, .ref 28), (1, .int (nI k)), (2, .int v)] [] σ) ∧ (¬ 4 ≤ (nI k) → V 14 [(0, .ref 28), (1, .int (nI k)), (2, .int v)] [] σ)
  refine ⟨fun hc => absurd hc (show ¬ nI 4 ≤ nI k from nI_ge hk (by decide)), fun _ => ?_⟩
  refine zq (σ := σ) hV hI rfl 4 ?_
  show vp_in (nI k) 4 ∧ V 18 [(0, .ref 28), (1, .int (nI k)), (2, .int v)] [] (zuI σ 28 (Int32.toNatClampNeg (nI k)) v)
  refine ⟨vp_in_nI hk (by decide), ?_⟩
  refine zq (σ := (zuI σ 28 (Int32.toNatClampNeg (nI k)) v)) hV hI rfl 1 ?_
  show K none (zuI σ 28 (Int32.toNatClampNeg (nI k)) v)
  rw [nI_clamp (by omega)]
  exact hK
set_option maxRecDepth 4000 in
theorem item_29 {d : Nat} {σ : zSt} {i : Int32} {k : Nat} {K : Option Value → zSt → Prop} (hI : zQI (kA 29) σ.2.2) (e : i = nI k) (hk : k < 240) (hK : K (some (.int (σ.1 29 k))) σ) : zSp zx (d + 1) mX8_item [.ref 29, .int i] σ K := by
  refine ⟨⟨by decide, Nat.le_of_ble_eq_true rfl⟩, fun V hV => ?_⟩
  subst e
  refine zq (σ := σ) hV hI rfl 4 ?_
  show ((nI k) < 0 → V 20 [(0, .ref 29), (1, .int (nI k))] [] σ) ∧ (¬ (nI k) < 0 → V 8 [(0, .ref 29), (1, .int (nI k))] [] σ)
  refine ⟨fun hc => absurd hc (nI_pos (by omega)), fun _ => ?_⟩
  refine zq (σ := σ) hV hI rfl 4 ?_
  show (240 ≤ (nI k) → V 20 [(0, .ref 29), (1, .int (nI k))] [] σ) ∧ (¬ 240 ≤ (nI k) → V 14 [(0, .ref 29), (1, .int (nI k))] [] σ)
  refine ⟨fun hc => absurd hc (show ¬ nI 240 ≤ nI k from nI_ge hk (by decide)), fun _ => ?_⟩
  refine zq (σ := σ) hV hI rfl 3 ?_
  show vp_in (nI k) 240 ∧ V 17 [(0, .ref 29), (1, .int (nI k))] [.int (σ.1 29 (Int32.toNatClampNeg (nI k)))] σ
  refine ⟨vp_in_nI hk (by decide), ?_⟩
  refine zq (σ := σ) hV hI rfl 2 ?_
  show K (some (.int (σ.1 29 (Int32.toNatClampNeg (nI k))))) σ
  rw [nI_clamp (by omega)]
  exact hK
set_option maxRecDepth 4000 in
theorem setItem_29 {d : Nat} {σ : zSt} {i v : Int32} {k : Nat} {K : Option Value → zSt → Prop} (hI : zQI (kA 29) σ.2.2) (e : i = nI k) (hk : k < 240) (hK : K none (zuI σ 29 k v)) : zSp zx (d + 1) mX8_setItem [.ref 29, .int i, .int v] σ K := by
  refine ⟨⟨by decide, Nat.le_of_ble_eq_true rfl⟩, fun V hV => ?_⟩
  subst e
  refine zq (σ := σ) hV hI rfl 4 ?_
  show ((nI k) < 0 → V 18 [(0, .ref 29), (1, .int (nI k)), (2, .int v)] [] σ) ∧ (¬ (nI k) < 0 → V 8 [(0, .ref 29), (1, .int (nI k)), (2, .int v)] [] σ)
  refine ⟨fun hc => absurd hc (nI_pos (by omega)), fun _ => ?_⟩
  refine zq (σ := σ) hV hI rfl 4 ?_
  show (240 ≤ (nI k) → V 18 [(0, .ref 29), (1, .int (nI k)), (2, .int v)] [] σ) ∧ (¬ 240 ≤ (nI k) → V 14 [(0, .ref 29), (1, .int (nI k)), (2, .int v)] [] σ)
  refine ⟨fun hc => absurd hc (show ¬ nI 240 ≤ nI k from nI_ge hk (by decide)), fun _ => ?_⟩
  refine zq (σ := σ) hV hI rfl 4 ?_
  show vp_in (nI k) 240 ∧ V 18 [(0, .ref 29), (1, .int (nI k)), (2, .int v)] [] (zuI σ 29 (Int32.toNatClampNeg (nI k)) v)
  refine ⟨vp_in_nI hk (by decide), ?_⟩
  refine zq (σ := (zuI σ 29 (Int32.toNatClampNeg (nI k)) v)) hV hI rfl 1 ?_
  show K none (zuI σ 29 (Int32.toNatClampNeg (nI k)) v)
  rw [nI_clamp (by omega)]
  exact hK
