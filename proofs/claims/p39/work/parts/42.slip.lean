variable {zx : Nat × (Nat → Int32)}
theorem zdiv3 {q : Nat} (h : q < 2 ^ 31) : nI q / 3 = nI (q / 3) := by
  rw [zeq, Int32.toInt_div, nI_toInt h, nI_toInt (show q / 3 < 2 ^ 31 by omega)]
  rw [show (3 : Int32).toInt = 3 from by decide, Int.tdiv_eq_ediv_of_nonneg (by omega)]
  rw [Int.bmod_eq_of_le (by omega) (by omega)]
  omega
theorem zrem3 {q : Nat} (h : q < 2 ^ 31) : nI q - nI q / 3 * 3 = nI (q % 3) := by
  rw [zdiv3 h, show (3 : Int32) = nI 3 from rfl, pk_mul]
  rw [zeq, zsub (by rw [nI_toInt h, nI_toInt (by omega)]; omega), nI_toInt h, nI_toInt (by omega), nI_toInt (by omega)]
  omega
def zCl (x : Int32) : Int32 := if x < 0 then 0 else if 8 < x then 8 else x
theorem zCl_eq (x : Int32) : (if (if 0 < x then x else 0) < 8 then (if 0 < x then x else 0) else 8) = zCl x := by
  unfold zCl
  have z0 : (0 : Int32).toInt = 0 := rfl
  have z8 : (8 : Int32).toInt = 8 := rfl
  by_cases h1 : 0 < x
  · rw [if_pos h1]
    have h1' := h1
    rw [zlt, z0] at h1'
    rw [if_neg (show ¬ x < 0 by rw [zlt, z0]; omega)]
    by_cases h2 : x < 8
    · rw [if_pos h2]
      rw [zlt, z8] at h2
      rw [if_neg (show ¬ 8 < x by rw [zlt, z8]; omega)]
    · rw [if_neg h2]
      rw [zlt, z8] at h2
      by_cases h3 : 8 < x
      · rw [if_pos h3]
      · rw [if_neg h3]
        rw [zlt, z8] at h3
        rw [zeq, z8]; omega
  · rw [if_neg h1, if_pos (by decide)]
    rw [zlt, z0] at h1
    by_cases h2 : x < 0
    · rw [if_pos h2]
    · rw [if_neg h2]
      rw [zlt, z0] at h2
      rw [if_neg (show ¬ 8 < x by rw [zlt, z8]; omega)]
      rw [zeq, z0]; omega
def zdg (w i : Nat) : Nat := w / 3 ^ i % 3
/-- where finger i stands in way w of slipping by d -/
def zWy (S : Nat → Int32) (d : Int32) (w i : Nat) : Int32 := zCl (S i + (nI (zdg w i) - 1) * d)
theorem zdig (f : Nat → Nat) (hf : ∀ i, f i < 3) : ∀ m, ∃ w, w < 3 ^ m ∧ ∀ i, i < m → zdg w i = f i := by
  intro m
  induction m generalizing f with
  | zero => exact ⟨0, by decide, fun i hi => absurd hi (Nat.not_lt_zero i)⟩
  | succ m ih =>
    obtain ⟨w, hw, h⟩ := ih (fun i => f (i + 1)) (fun i => hf (i + 1))
    have h0 := hf 0
    refine ⟨f 0 + 3 * w, by rw [Nat.pow_succ]; omega, fun i hi => ?_⟩
    cases i with
    | zero => unfold zdg; rw [Nat.pow_zero, Nat.div_one]; omega
    | succ i =>
      have := h i (by omega)
      unfold zdg at this ⊢
      rw [Nat.pow_succ, Nat.mul_comm (3 ^ i) 3, ← Nat.div_div_eq_div_mul, show (f 0 + 3 * w) / 3 = w by omega]
      exact this
/-- a way that is looked at -/
def zUs (S : Nat → Int32) (d : Int32) (m w : Nat) : Prop := ∀ i, i < m → ¬ (¬ zdg w i = 1 ∧ zWy S d w i = S i)
theorem zUs_all {S : Nat → Int32} {d : Int32} {m : Nat} {P : (Nat → Int32) → Prop} (hP : ∀ A B, (∀ i, i < m → A i = B i) → P A → P B) (hS : ∀ i, i < m → zBt 0 8 (S i)) (h : ∀ w, w < 3 ^ m → zUs S d m w → P (zWy S d w)) : ∀ w, w < 3 ^ m → P (zWy S d w) := by
  intro w hw
  have h1 : ∀ i, i < m → zCl (S i + (nI 1 - 1) * d) = S i := fun i hi => by
    have hb := hS i hi
    unfold zBt at hb
    rw [show nI 1 - 1 = (0 : Int32) from by decide, Int32.zero_mul, Int32.add_zero]
    unfold zCl
    rw [if_neg (by rw [zlt, show (0 : Int32).toInt = 0 from rfl]; omega), if_neg (by rw [zlt, show (8 : Int32).toInt = 8 from rfl]; omega)]
  obtain ⟨v, hv, hd⟩ := zdig (fun i => if zWy S d w i = S i then 1 else zdg w i) (fun i => by
    show (if _ then 1 else zdg w i) < 3
    split
    · decide
    · exact Nat.mod_lt _ (by decide)) m
  have he : ∀ i, i < m → zWy S d v i = zWy S d w i := fun i hi => by
    by_cases c : zWy S d w i = S i
    · have q := hd i hi
      rw [if_pos c] at q
      rw [c]; unfold zWy; rw [q]; exact h1 i hi
    · have q := hd i hi
      rw [if_neg c] at q
      unfold zWy; rw [q]
  refine hP _ _ he (h v hv (fun i hi q => ?_))
  rw [he i hi] at q
  have q2 := hd i hi
  rw [if_pos q.2] at q2
  exact q.1 q2
theorem zn1 {k : Nat} (h : k < 3) : nI k = 1 ↔ k = 1 := by
  rcases (show k = 0 ∨ k = 1 ∨ k = 2 by omega) with h | h | h <;> subst h <;> decide
set_option maxRecDepth 8000 in
set_option maxHeartbeats 4000000 in
theorem slide_ok {d : Nat} {σ : zSt} {K : Option Value → zSt → Prop} {d0 : Int32} {m w : Nat} (hI : zQI (kR 0 30) σ.2.2) (hs : σ.1 4 2 = nI m) (hm : m ≤ 4) (hw : w < 81) (h1 : ∀ τ, zOnly zfC σ τ → τ.1 7 2 = nI m → (∀ j, j < m → τ.1 8 j = σ.1 5 j ∧ τ.1 9 j = zWy (σ.1 6) d0 w j) → zUs (σ.1 6) d0 m w → K (some (.int 1)) τ) (h0 : ∀ τ, zOnly zfC σ τ → ¬ zUs (σ.1 6) d0 m w → K (some (.int 0)) τ) : zSp zx (d + 5) mX8_slide [.ref 0, .int (nI w), .int d0] σ K := by
  refine ⟨⟨by decide, Nat.le_of_ble_eq_true rfl⟩, fun V hV => ?_⟩
  refine zq (σ := σ) hV hI rfl 5 ?_
  show zSp _ _ 12 [.ref 7, .ref 4] σ (fun r σ' => σ'.2.2.2 = σ.2.2.2 + zAl 12 → V 11 [(0, .ref 0), (1, .int (nI w)), (2, .int d0)] (r.toList ++ []) σ')
  refine become_ok (zR_of hI rfl rfl) hs (by omega) (fun τ ht0 h7 hES _ => ?_)
  have ht := ht0.wk zf7_C
  have hIτ := zQI_eq hI ht.2.2
  have hnτ : τ.2.2.2 = σ.2.2.2 := congrArg Prod.snd ht.2.2
  refine zq (σ := τ) hV hIτ hnτ 4 ?_
  show V 16 [(4, .int 0), (3, .int (nI w)), (0, .ref 0), (1, .int (nI w)), (2, .int d0)] [] τ
  refine zwk hV [2, 3, 4, 1, 0] rfl ?_
  have Hi : ∀ (r : Nat) (i q : Nat) (τ : zSt), i + r = m → q = w / 3 ^ i → zOnly zfC σ τ → τ.1 7 2 = nI m → (∀ j, j < m → τ.1 8 j = σ.1 5 j ∧ (j < i → τ.1 9 j = zWy (σ.1 6) d0 w j)) → (∀ j, j < i → ¬ (¬ zdg w j = 1 ∧ zWy (σ.1 6) d0 w j = σ.1 6 j)) → V 16 [(0, .ref 0), (1, .int (nI w)), (2, .int d0), (3, .int (nI q)), (4, .int (nI i))] [] τ := by
    intro r
    induction r with
    | zero =>
      intro i q τ hir hq ht h7 hES hus
      have hIτ := zQI_eq hI ht.2.2
      have hnτ : τ.2.2.2 = σ.2.2.2 := congrArg Prod.snd ht.2.2
      have hst : τ.1 4 2 = nI m := (ht.1 4 2 rfl).trans hs
      refine zq (σ := τ) hV hIτ hnτ 4 ?_
      show zSp _ _ 6 [.ref 4] τ (fun r σ' => σ'.2.2.2 = τ.2.2.2 + zAl 6 → V 25 [(0, .ref 0), (1, .int (nI w)), (2, .int d0), (3, .int (nI q)), (4, .int (nI i))] (r.toList ++ [.int (nI i)]) σ')
      refine hsize_4 (zR_of hIτ rfl rfl) (fun _ => ?_)
      refine zq (σ := τ) hV hIτ hnτ 1 ?_
      show ((τ.1 4 2) ≤ (nI i) → V 106 [(0, .ref 0), (1, .int (nI w)), (2, .int d0), (3, .int (nI q)), (4, .int (nI i))] [] τ) ∧ (¬ (τ.1 4 2) ≤ (nI i) → V 28 [(0, .ref 0), (1, .int (nI w)), (2, .int d0), (3, .int (nI q)), (4, .int (nI i))] [] τ)
      refine ⟨fun _ => ?_, fun hc => absurd (show (τ.1 4 2) ≤ nI i by rw [hst]; exact zge_self (by omega)) hc⟩
      refine zq (σ := τ) hV hIτ hnτ 2 ?_
      show ((1 : Int32) = 0 ∨ (1 : Int32) = 1) ∧ K (some (.int 1)) τ
      refine ⟨by decide, ?_⟩
      obtain rfl : i = m := by omega
      exact h1 τ ht h7 (fun j hj => ⟨(hES j hj).1, (hES j hj).2 hj⟩) hus
    | succ r ihi =>
      intro i q τ hir hq ht h7 hES hus
      have hIτ := zQI_eq hI ht.2.2
      have hnτ : τ.2.2.2 = σ.2.2.2 := congrArg Prod.snd ht.2.2
      have hst : τ.1 4 2 = nI m := (ht.1 4 2 rfl).trans hs
      have hS6 : τ.1 6 i = σ.1 6 i := ht.1 6 i rfl
      have h5 : τ.1 5 i = σ.1 5 i := ht.1 5 i rfl
      have hq3 : q ≤ w := by rw [hq]; exact Nat.div_le_self _ _
      refine zq (σ := τ) hV hIτ hnτ 4 ?_
      show zSp _ _ 6 [.ref 4] τ (fun r σ' => σ'.2.2.2 = τ.2.2.2 + zAl 6 → V 25 [(0, .ref 0), (1, .int (nI w)), (2, .int d0), (3, .int (nI q)), (4, .int (nI i))] (r.toList ++ [.int (nI i)]) σ')
      refine hsize_4 (zR_of hIτ rfl rfl) (fun _ => ?_)
      refine zq (σ := τ) hV hIτ hnτ 1 ?_
      show ((τ.1 4 2) ≤ (nI i) → V 106 [(0, .ref 0), (1, .int (nI w)), (2, .int d0), (3, .int (nI q)), (4, .int (nI i))] [] τ) ∧ (¬ (τ.1 4 2) ≤ (nI i) → V 28 [(0, .ref 0), (1, .int (nI w)), (2, .int d0), (3, .int (nI q)), (4, .int (nI i))] [] τ)
      refine ⟨fun hc => absurd hc (show ¬ (τ.1 4 2) ≤ nI i by rw [hst]; exact nI_ge (by omega) (by omega)), fun _ => ?_⟩
      refine zq (σ := τ) hV hIτ hnτ 4 ?_
      show zSp _ _ 8 [.ref 4, .int (nI i)] τ (fun r σ' => σ'.2.2.2 = τ.2.2.2 + zAl 8 → V 37 [(0, .ref 0), (1, .int (nI w)), (2, .int d0), (3, .int (nI q)), (4, .int (nI i))] (r.toList ++ []) σ')
      refine heighth_4 (zR_of hIτ rfl rfl) rfl (by omega) (fun _ => ?_)
      rw [hS6]
      refine zq (σ := τ) hV hIτ hnτ 7 ?_
      show (¬ (3 : Int32) = 0) ∧ V 47 [(5, .int (σ.1 6 i)), (0, .ref 0), (1, .int (nI w)), (2, .int d0), (3, .int (nI q)), (4, .int (nI i))] [.int ((nI q) - (nI q) / 3 * 3), .int (σ.1 6 i), .int 0, .int 8] τ
      refine ⟨by decide, ?_⟩
      refine zq (σ := τ) hV hIτ hnτ 8 ?_
      show V 60 [(6, .int (if (if 0 < ((σ.1 6 i) + ((((nI q) - (nI q) / 3 * 3) - 1) * d0)) then ((σ.1 6 i) + ((((nI q) - (nI q) / 3 * 3) - 1) * d0)) else 0) < 8 then (if 0 < ((σ.1 6 i) + ((((nI q) - (nI q) / 3 * 3) - 1) * d0)) then ((σ.1 6 i) + ((((nI q) - (nI q) / 3 * 3) - 1) * d0)) else 0) else 8)), (5, .int (σ.1 6 i)), (0, .ref 0), (1, .int (nI w)), (2, .int d0), (3, .int (nI q)), (4, .int (nI i))] [] τ
      have e60 : (if (if 0 < ((σ.1 6 i) + ((((nI q) - (nI q) / 3 * 3) - 1) * d0)) then ((σ.1 6 i) + ((((nI q) - (nI q) / 3 * 3) - 1) * d0)) else 0) < 8 then (if 0 < ((σ.1 6 i) + ((((nI q) - (nI q) / 3 * 3) - 1) * d0)) then ((σ.1 6 i) + ((((nI q) - (nI q) / 3 * 3) - 1) * d0)) else 0) else 8) = zWy (σ.1 6) d0 w i := by rw [zrem3 (by omega), show q % 3 = zdg w i by rw [hq]; rfl, zCl_eq]; rfl
      rw [e60]
      refine zq (σ := τ) hV hIτ hnτ 3 ?_
      show (¬ (3 : Int32) = 0) ∧ V 63 [(6, .int (zWy (σ.1 6) d0 w i)), (5, .int (σ.1 6 i)), (0, .ref 0), (1, .int (nI w)), (2, .int d0), (3, .int (nI q)), (4, .int (nI i))] [.int ((nI q) - (nI q) / 3 * 3)] τ
      refine ⟨by decide, ?_⟩
      refine zq (σ := τ) hV hIτ hnτ 2 ?_
      show (((nI q) - (nI q) / 3 * 3) = 1 → V 76 [(6, .int (zWy (σ.1 6) d0 w i)), (5, .int (σ.1 6 i)), (0, .ref 0), (1, .int (nI w)), (2, .int d0), (3, .int (nI q)), (4, .int (nI i))] [] τ) ∧ (¬ ((nI q) - (nI q) / 3 * 3) = 1 → V 67 [(6, .int (zWy (σ.1 6) d0 w i)), (5, .int (σ.1 6 i)), (0, .ref 0), (1, .int (nI w)), (2, .int d0), (3, .int (nI q)), (4, .int (nI i))] [] τ)
      refine ⟨fun h_64 => ?_, fun h_64 => ?_⟩
      · skip
        refine zq (σ := τ) hV hIτ hnτ 7 ?_
        show zSp _ _ 7 [.ref 4, .int (nI i)] τ (fun r σ' => σ'.2.2.2 = τ.2.2.2 + zAl 7 → V 91 [(6, .int (zWy (σ.1 6) d0 w i)), (5, .int (σ.1 6 i)), (0, .ref 0), (1, .int (nI w)), (2, .int d0), (3, .int (nI q)), (4, .int (nI i))] (r.toList ++ [.int (nI i), .ref 7]) σ')
        refine hedge_4 (zR_of hIτ rfl rfl) rfl (by omega) (fun _ => ?_)
        refine zq (σ := τ) hV hIτ hnτ 2 ?_
        show zSp _ _ 11 [.ref 7, .int (nI i), .int (τ.1 5 i), .int (zWy (σ.1 6) d0 w i)] τ (fun r σ' => σ'.2.2.2 = τ.2.2.2 + zAl 11 → V 96 [(6, .int (zWy (σ.1 6) d0 w i)), (5, .int (σ.1 6 i)), (0, .ref 0), (1, .int (nI w)), (2, .int d0), (3, .int (nI q)), (4, .int (nI i))] (r.toList ++ []) σ')
        refine hstand_7 (zR_of hIτ rfl rfl) rfl (by omega) (fun _ => ?_)
        refine zq (σ := (zuI (zuI τ 8 i (τ.1 5 i)) 9 i (zWy (σ.1 6) d0 w i))) hV hIτ hnτ 3 ?_
        show (¬ (3 : Int32) = 0) ∧ V 99 [(6, .int (zWy (σ.1 6) d0 w i)), (5, .int (σ.1 6 i)), (0, .ref 0), (1, .int (nI w)), (2, .int d0), (3, .int (nI q)), (4, .int (nI i))] [.int ((nI q) / 3)] (zuI (zuI τ 8 i (τ.1 5 i)) 9 i (zWy (σ.1 6) d0 w i))
        refine ⟨by decide, ?_⟩
        refine zq (σ := (zuI (zuI τ 8 i (τ.1 5 i)) 9 i (zWy (σ.1 6) d0 w i))) hV hIτ hnτ 3 ?_
        show V 16 [(4, .int ((nI i) + 1)), (3, .int ((nI q) / 3)), (6, .int (zWy (σ.1 6) d0 w i)), (5, .int (σ.1 6 i)), (0, .ref 0), (1, .int (nI w)), (2, .int d0)] [] (zuI (zuI τ 8 i (τ.1 5 i)) 9 i (zWy (σ.1 6) d0 w i))
        refine zwk hV [4, 5, 6, 1, 0] rfl ?_
        rw [nI_1, zdiv3 (by omega)]
        refine ihi (i + 1) (q / 3) _ (by omega) (by rw [hq, Nat.div_div_eq_div_mul, Nat.pow_succ]) ((ht.uI rfl).uI rfl) h7 (fun j hj => ?_) (fun j hj => ?_)
        · simp only [zuI_get]
          by_cases e : j = i
          · subst e; simp [h5]
          · have := hES j hj; simp [e, this.1]; intro hji; exact this.2 (by omega)
        · by_cases e : j = i
          · subst e; rintro ⟨c1, c2⟩
            rw [zrem3 (by omega), show q % 3 = zdg w j by rw [hq]; rfl] at h_64; exact c1 ((zn1 (by unfold zdg; omega)).mp h_64)
          · exact hus j (by omega)
      · skip
        refine zq (σ := τ) hV hIτ hnτ 3 ?_
        show (¬ (zWy (σ.1 6) d0 w i) = (σ.1 6 i) → V 76 [(6, .int (zWy (σ.1 6) d0 w i)), (5, .int (σ.1 6 i)), (0, .ref 0), (1, .int (nI w)), (2, .int d0), (3, .int (nI q)), (4, .int (nI i))] [] τ) ∧ (¬ (¬ (zWy (σ.1 6) d0 w i) = (σ.1 6 i)) → V 74 [(6, .int (zWy (σ.1 6) d0 w i)), (5, .int (σ.1 6 i)), (0, .ref 0), (1, .int (nI w)), (2, .int d0), (3, .int (nI q)), (4, .int (nI i))] [] τ)
        refine ⟨fun h_71 => ?_, fun h_71 => ?_⟩
        · skip
          refine zq (σ := τ) hV hIτ hnτ 7 ?_
          show zSp _ _ 7 [.ref 4, .int (nI i)] τ (fun r σ' => σ'.2.2.2 = τ.2.2.2 + zAl 7 → V 91 [(6, .int (zWy (σ.1 6) d0 w i)), (5, .int (σ.1 6 i)), (0, .ref 0), (1, .int (nI w)), (2, .int d0), (3, .int (nI q)), (4, .int (nI i))] (r.toList ++ [.int (nI i), .ref 7]) σ')
          refine hedge_4 (zR_of hIτ rfl rfl) rfl (by omega) (fun _ => ?_)
          refine zq (σ := τ) hV hIτ hnτ 2 ?_
          show zSp _ _ 11 [.ref 7, .int (nI i), .int (τ.1 5 i), .int (zWy (σ.1 6) d0 w i)] τ (fun r σ' => σ'.2.2.2 = τ.2.2.2 + zAl 11 → V 96 [(6, .int (zWy (σ.1 6) d0 w i)), (5, .int (σ.1 6 i)), (0, .ref 0), (1, .int (nI w)), (2, .int d0), (3, .int (nI q)), (4, .int (nI i))] (r.toList ++ []) σ')
          refine hstand_7 (zR_of hIτ rfl rfl) rfl (by omega) (fun _ => ?_)
          refine zq (σ := (zuI (zuI τ 8 i (τ.1 5 i)) 9 i (zWy (σ.1 6) d0 w i))) hV hIτ hnτ 3 ?_
          show (¬ (3 : Int32) = 0) ∧ V 99 [(6, .int (zWy (σ.1 6) d0 w i)), (5, .int (σ.1 6 i)), (0, .ref 0), (1, .int (nI w)), (2, .int d0), (3, .int (nI q)), (4, .int (nI i))] [.int ((nI q) / 3)] (zuI (zuI τ 8 i (τ.1 5 i)) 9 i (zWy (σ.1 6) d0 w i))
          refine ⟨by decide, ?_⟩
          refine zq (σ := (zuI (zuI τ 8 i (τ.1 5 i)) 9 i (zWy (σ.1 6) d0 w i))) hV hIτ hnτ 3 ?_
          show V 16 [(4, .int ((nI i) + 1)), (3, .int ((nI q) / 3)), (6, .int (zWy (σ.1 6) d0 w i)), (5, .int (σ.1 6 i)), (0, .ref 0), (1, .int (nI w)), (2, .int d0)] [] (zuI (zuI τ 8 i (τ.1 5 i)) 9 i (zWy (σ.1 6) d0 w i))
          refine zwk hV [4, 5, 6, 1, 0] rfl ?_
          rw [nI_1, zdiv3 (by omega)]
          refine ihi (i + 1) (q / 3) _ (by omega) (by rw [hq, Nat.div_div_eq_div_mul, Nat.pow_succ]) ((ht.uI rfl).uI rfl) h7 (fun j hj => ?_) (fun j hj => ?_)
          · simp only [zuI_get]
            by_cases e : j = i
            · subst e; simp [h5]
            · have := hES j hj; simp [e, this.1]; intro hji; exact this.2 (by omega)
          · by_cases e : j = i
            · subst e; rintro ⟨c1, c2⟩
              exact h_71 c2
            · exact hus j (by omega)
        · skip
          have h_71 := Classical.not_not.mp h_71
          refine zq (σ := τ) hV hIτ hnτ 2 ?_
          show ((0 : Int32) = 0 ∨ (0 : Int32) = 1) ∧ K (some (.int 0)) τ
          refine ⟨by decide, ?_⟩
          rw [zrem3 (by omega), show q % 3 = zdg w i by rw [hq]; rfl] at h_64
          exact h0 τ ht (fun x => x i (by omega) ⟨fun c => h_64 (by rw [c]; rfl), h_71⟩)
  exact Hi m 0 w τ (by omega) (by rw [Nat.pow_zero, Nat.div_one]) ht h7 (fun j hj => ⟨(hES j hj).1, fun c => absurd c (Nat.not_lt_zero j)⟩) (fun j c => absurd c (Nat.not_lt_zero j))
/-- whether fingers hold in all ways of slipping by d -/
def zHw (n : Nat) (X Y : Nat → Int32) (f : Int32) (E S : Nat → Int32) (m : Nat) (d0 : Int32) : Prop := ∀ w, w < 3 ^ m → zHo n X Y f E (zWy S d0 w) m
theorem z3k {k : Nat} (h : k ≤ 4) : 3 ^ k ≤ 81 := by
  rcases (show k = 0 ∨ k = 1 ∨ k = 2 ∨ k = 3 ∨ k = 4 by omega) with h | h | h | h | h <;> subst h <;> decide
set_option maxRecDepth 8000 in
set_option maxHeartbeats 4000000 in
theorem isHeldWithin_ok {d : Nat} {σ : zSt} {K : Option Value → zSt → Prop} {d0 : Int32} {n m : Nat} (hI : zQI (kR 0 30) σ.2.2) (hn : σ.1 1 2 = nI n) (hn10 : n ≤ 10) (hs : σ.1 4 2 = nI m) (hm : m ≤ 4) (hE : ∀ i, i < m → ∃ e, σ.1 5 i = nI e ∧ e < n) (hS : ∀ i, i < m → zBt 0 8 (σ.1 6 i)) (h1 : ∀ τ, zOnly zfC σ τ → zHw n (σ.1 2) (σ.1 3) (σ.1 0 9) (σ.1 5) (σ.1 6) m d0 → K (some (.int 1)) τ) (h0 : ∀ τ, zOnly zfC σ τ → ¬ zHw n (σ.1 2) (σ.1 3) (σ.1 0 9) (σ.1 5) (σ.1 6) m d0 → K (some (.int 0)) τ) : zSp zx (d + 6) mX8_isHeldWithin [.ref 0, .int d0] σ K := by
  refine ⟨⟨by decide, Nat.le_of_ble_eq_true rfl⟩, fun V hV => ?_⟩
  refine zq (σ := σ) hV hI rfl 4 ?_
  show V 4 [(3, .int 0), (2, .int 1), (0, .ref 0), (1, .int d0)] [] σ
  refine zwk hV [2, 3, 1, 0] rfl ?_
  have Hi : ∀ (r : Nat) (i : Nat), i + r = m → V 4 [(0, .ref 0), (1, .int d0), (2, .int (nI (3 ^ i))), (3, .int (nI i))] [] σ := by
    intro r
    induction r with
    | zero =>
      intro i him
      refine zq (σ := σ) hV hI rfl 4 ?_
      show zSp _ _ 6 [.ref 4] σ (fun r σ' => σ'.2.2.2 = σ.2.2.2 + zAl 6 → V 12 [(0, .ref 0), (1, .int d0), (2, .int (nI (3 ^ i))), (3, .int (nI i))] (r.toList ++ [.int (nI i)]) σ')
      refine hsize_4 (zR_of hI rfl rfl) (fun _ => ?_)
      refine zq (σ := σ) hV hI rfl 1 ?_
      show ((σ.1 4 2) ≤ (nI i) → V 30 [(0, .ref 0), (1, .int d0), (2, .int (nI (3 ^ i))), (3, .int (nI i))] [] σ) ∧ (¬ (σ.1 4 2) ≤ (nI i) → V 15 [(0, .ref 0), (1, .int d0), (2, .int (nI (3 ^ i))), (3, .int (nI i))] [] σ)
      refine ⟨fun _ => ?_, fun hc => absurd (show (σ.1 4 2) ≤ nI i by rw [hs]; exact zge_self (by omega)) hc⟩
      refine zq (σ := σ) hV hI rfl 2 ?_
      show V 32 [(3, .int 0), (0, .ref 0), (1, .int d0), (2, .int (nI (3 ^ i)))] [] σ
      refine zwk hV [1, 2, 3, 0] rfl ?_
      obtain rfl : m = i := by omega
      have h39 := z3k hm
      have Hv : ∀ (r : Nat) (v : Nat) (τ : zSt), v + r = 3 ^ m → zOnly zfC σ τ → (∀ j, j < v → zUs (σ.1 6) d0 m j → zHo n (σ.1 2) (σ.1 3) (σ.1 0 9) (σ.1 5) (zWy (σ.1 6) d0 j) m) → V 32 [(0, .ref 0), (1, .int d0), (2, .int (nI (3 ^ m))), (3, .int (nI v))] [] τ := by
        intro r
        induction r with
        | zero =>
          intro v τ hvr ht hws
          have hIτ := zQI_eq hI ht.2.2
          have hnτ : τ.2.2.2 = σ.2.2.2 := congrArg Prod.snd ht.2.2
          have hst : τ.1 4 2 = nI m := (ht.1 4 2 rfl).trans hs
          have e5 : τ.1 5 = σ.1 5 := funext fun j => ht.1 5 j rfl
          have e6 : τ.1 6 = σ.1 6 := funext fun j => ht.1 6 j rfl
          refine zq (σ := τ) hV hIτ hnτ 3 ?_
          show ((nI (3 ^ m)) ≤ (nI v) → V 65 [(0, .ref 0), (1, .int d0), (2, .int (nI (3 ^ m))), (3, .int (nI v))] [] τ) ∧ (¬ (nI (3 ^ m)) ≤ (nI v) → V 37 [(0, .ref 0), (1, .int d0), (2, .int (nI (3 ^ m))), (3, .int (nI v))] [] τ)
          refine ⟨fun _ => ?_, fun hc => absurd (show nI (3 ^ m) ≤ nI v from zge_self (by omega)) hc⟩
          refine zq (σ := τ) hV hIτ hnτ 2 ?_
          show ((1 : Int32) = 0 ∨ (1 : Int32) = 1) ∧ K (some (.int 1)) τ
          refine ⟨by decide, ?_⟩
          refine h1 τ ht (zUs_all (P := fun A => zHo n (σ.1 2) (σ.1 3) (σ.1 0 9) (σ.1 5) A m) (fun A B hAB => (zHo_congr (fun j hj => ⟨rfl, hAB j hj⟩)).mp) hS (fun j hj => hws j (by omega)))
        | succ r ihv =>
          intro v τ hvr ht hws
          have hIτ := zQI_eq hI ht.2.2
          have hnτ : τ.2.2.2 = σ.2.2.2 := congrArg Prod.snd ht.2.2
          have hst : τ.1 4 2 = nI m := (ht.1 4 2 rfl).trans hs
          have e5 : τ.1 5 = σ.1 5 := funext fun j => ht.1 5 j rfl
          have e6 : τ.1 6 = σ.1 6 := funext fun j => ht.1 6 j rfl
          refine zq (σ := τ) hV hIτ hnτ 3 ?_
          show ((nI (3 ^ m)) ≤ (nI v) → V 65 [(0, .ref 0), (1, .int d0), (2, .int (nI (3 ^ m))), (3, .int (nI v))] [] τ) ∧ (¬ (nI (3 ^ m)) ≤ (nI v) → V 37 [(0, .ref 0), (1, .int d0), (2, .int (nI (3 ^ m))), (3, .int (nI v))] [] τ)
          refine ⟨fun hc => absurd hc (show ¬ nI (3 ^ m) ≤ nI v from nI_ge (by omega) (by omega)), fun _ => ?_⟩
          refine zq (σ := τ) hV hIτ hnτ 4 ?_
          show zSp _ _ 64 [.ref 0, .int (nI v), .int d0] τ (fun r σ' => σ'.2.2.2 = τ.2.2.2 + zAl 64 → V 43 [(0, .ref 0), (1, .int d0), (2, .int (nI (3 ^ m))), (3, .int (nI v))] (r.toList ++ []) σ')
          have h39 := z3k hm
          refine slide_ok hIτ hst hm (by omega) (fun υ hu0 h7 hES hus _ => ?_) (fun υ hu0 hus _ => ?_)
          · skip
            rw [e5, e6] at hES
            rw [e6] at hus
            have hu := ht.tr hu0
            have hIυ := zQI_eq hI hu.2.2
            have hnυ : υ.2.2.2 = σ.2.2.2 := congrArg Prod.snd hu.2.2
            refine zq (σ := υ) hV hIυ hnυ 1 ?_
            show ((1 : Int32) = 0 → V 59 [(0, .ref 0), (1, .int d0), (2, .int (nI (3 ^ m))), (3, .int (nI v))] [] υ) ∧ (¬ (1 : Int32) = 0 → V 46 [(0, .ref 0), (1, .int d0), (2, .int (nI (3 ^ m))), (3, .int (nI v))] [] υ)
            refine ⟨fun hc => absurd hc (by decide), fun _ => ?_⟩
            refine zq (σ := υ) hV hIυ hnυ 4 ?_
            show zSp _ _ 65 [.ref 0, .ref 7] υ (fun r σ' => σ'.2.2.2 = υ.2.2.2 + zAl 65 → V 54 [(0, .ref 0), (1, .int d0), (2, .int (nI (3 ^ m))), (3, .int (nI v))] (r.toList ++ []) σ')
            refine heldT hI hn hn10 hu h7 (by omega) hES hE (fun φ hf hf7 hfe hq _ => ?_) (fun φ hf hf7 hfe hq _ => ?_)
            · skip
              have hIφ := zQI_eq hI hf.2.2
              have hnφ : φ.2.2.2 = σ.2.2.2 := congrArg Prod.snd hf.2.2
              refine zq (σ := φ) hV hIφ hnφ 1 ?_
              show (¬ (1 : Int32) = 0 → V 59 [(0, .ref 0), (1, .int d0), (2, .int (nI (3 ^ m))), (3, .int (nI v))] [] φ) ∧ (¬ (¬ (1 : Int32) = 0) → V 57 [(0, .ref 0), (1, .int d0), (2, .int (nI (3 ^ m))), (3, .int (nI v))] [] φ)
              refine ⟨fun _ => ?_, fun hc => absurd (by decide) hc⟩
              refine zq (σ := φ) hV hIφ hnφ 2 ?_
              show V 32 [(3, .int ((nI v) + 1)), (0, .ref 0), (1, .int d0), (2, .int (nI (3 ^ m)))] [] φ
              refine zwk hV [1, 2, 3, 0] rfl ?_
              rw [nI_1]
              refine ihv (v + 1) φ (by omega) hf (fun j hj => ?_)
              by_cases e : j = v
              · subst e; exact fun x => hq
              · exact hws j (by omega)
            · skip
              have hIφ := zQI_eq hI hf.2.2
              have hnφ : φ.2.2.2 = σ.2.2.2 := congrArg Prod.snd hf.2.2
              refine zq (σ := φ) hV hIφ hnφ 1 ?_
              show (¬ (0 : Int32) = 0 → V 59 [(0, .ref 0), (1, .int d0), (2, .int (nI (3 ^ m))), (3, .int (nI v))] [] φ) ∧ (¬ (¬ (0 : Int32) = 0) → V 57 [(0, .ref 0), (1, .int d0), (2, .int (nI (3 ^ m))), (3, .int (nI v))] [] φ)
              refine ⟨fun hc => absurd hc (by decide), fun _ => ?_⟩
              refine zq (σ := φ) hV hIφ hnφ 2 ?_
              show ((0 : Int32) = 0 ∨ (0 : Int32) = 1) ∧ K (some (.int 0)) φ
              refine ⟨by decide, ?_⟩
              exact h0 φ hf (fun x => hq (x v (by omega)))
          · skip
            rw [e6] at hus
            have hu := ht.tr hu0
            have hIυ := zQI_eq hI hu.2.2
            have hnυ : υ.2.2.2 = σ.2.2.2 := congrArg Prod.snd hu.2.2
            refine zq (σ := υ) hV hIυ hnυ 1 ?_
            show ((0 : Int32) = 0 → V 59 [(0, .ref 0), (1, .int d0), (2, .int (nI (3 ^ m))), (3, .int (nI v))] [] υ) ∧ (¬ (0 : Int32) = 0 → V 46 [(0, .ref 0), (1, .int d0), (2, .int (nI (3 ^ m))), (3, .int (nI v))] [] υ)
            refine ⟨fun _ => ?_, fun hc => absurd (by decide) hc⟩
            refine zq (σ := υ) hV hIυ hnυ 2 ?_
            show V 32 [(3, .int ((nI v) + 1)), (0, .ref 0), (1, .int d0), (2, .int (nI (3 ^ m)))] [] υ
            refine zwk hV [1, 2, 3, 0] rfl ?_
            rw [nI_1]
            refine ihv (v + 1) υ (by omega) hu (fun j hj => ?_)
            by_cases e : j = v
            · subst e; exact fun x => absurd x hus
            · exact hws j (by omega)
      exact Hv (3 ^ m) 0 σ (by omega) zOnly.rf (fun j c => absurd c (Nat.not_lt_zero j))
    | succ r ihi =>
      intro i him
      refine zq (σ := σ) hV hI rfl 4 ?_
      show zSp _ _ 6 [.ref 4] σ (fun r σ' => σ'.2.2.2 = σ.2.2.2 + zAl 6 → V 12 [(0, .ref 0), (1, .int d0), (2, .int (nI (3 ^ i))), (3, .int (nI i))] (r.toList ++ [.int (nI i)]) σ')
      refine hsize_4 (zR_of hI rfl rfl) (fun _ => ?_)
      refine zq (σ := σ) hV hI rfl 1 ?_
      show ((σ.1 4 2) ≤ (nI i) → V 30 [(0, .ref 0), (1, .int d0), (2, .int (nI (3 ^ i))), (3, .int (nI i))] [] σ) ∧ (¬ (σ.1 4 2) ≤ (nI i) → V 15 [(0, .ref 0), (1, .int d0), (2, .int (nI (3 ^ i))), (3, .int (nI i))] [] σ)
      refine ⟨fun hc => absurd hc (show ¬ (σ.1 4 2) ≤ nI i by rw [hs]; exact nI_ge (by omega) (by omega)), fun _ => ?_⟩
      refine zq (σ := σ) hV hI rfl 3 ?_
      show (4 ≤ (nI i) → V 30 [(0, .ref 0), (1, .int d0), (2, .int (nI (3 ^ i))), (3, .int (nI i))] [] σ) ∧ (¬ 4 ≤ (nI i) → V 20 [(0, .ref 0), (1, .int d0), (2, .int (nI (3 ^ i))), (3, .int (nI i))] [] σ)
      refine ⟨fun hc => absurd hc (show ¬ nI 4 ≤ nI i from nI_ge (by omega) (by decide)), fun _ => ?_⟩
      refine zq (σ := σ) hV hI rfl 6 ?_
      show V 4 [(3, .int ((nI i) + 1)), (2, .int ((nI (3 ^ i)) * 3)), (0, .ref 0), (1, .int d0)] [] σ
      refine zwk hV [2, 3, 1, 0] rfl ?_
      rw [nI_1, show nI (3 ^ i) * 3 = nI (3 ^ (i + 1)) by rw [show (3 : Int32) = nI 3 from rfl, pk_mul, Nat.pow_succ]]
      exact ihi (i + 1) (by omega)
  exact Hi m 0 (by omega)
