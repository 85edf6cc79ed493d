variable {zx : Nat × (Nat → Int32)}
def zDX (n : Nat) (X : Nat → Int32) (e : Nat) : Int32 := X (zNx n e) - X e
def zPX (n : Nat) (X : Nat → Int32) (e : Nat) (s : Int32) : Int32 := 8 * X e + s * zDX n X e
def zTi (f : Int32) (t : Nat) : Nat := if f = 0 then t else t / 2
def zEd (E : Nat → Int32) (i : Nat) : Nat := (E i).toNatClampNeg
def zT1 (n : Nat) (X Y : Nat → Int32) (f : Int32) (E : Nat → Int32) (t : Nat) : Int32 := if f = 0 ∨ t % 2 = 0 then (-16) * zDX n Y (zEd E (zTi f t)) + f * zDX n X (zEd E (zTi f t)) else (-16) * zDX n Y (zEd E (zTi f t)) - f * zDX n X (zEd E (zTi f t))
def zT2 (n : Nat) (X Y : Nat → Int32) (f : Int32) (E : Nat → Int32) (t : Nat) : Int32 := if f = 0 ∨ t % 2 = 0 then 16 * zDX n X (zEd E (zTi f t)) + f * zDX n Y (zEd E (zTi f t)) else 16 * zDX n X (zEd E (zTi f t)) - f * zDX n Y (zEd E (zTi f t))
def zT3 (n : Nat) (X Y : Nat → Int32) (f : Int32) (E S : Nat → Int32) (t : Nat) : Int32 := zPX n X (zEd E (zTi f t)) (S (zTi f t)) * zT2 n X Y f E t - zPX n Y (zEd E (zTi f t)) (S (zTi f t)) * zT1 n X Y f E t
/-- how many triples the first i fingers have -/
def zMl (f : Int32) (i : Nat) : Nat := if f = 0 then i else 2 * i
theorem zMl_0 {f : Int32} (h : f = 0) (i : Nat) : zMl f i = i := if_pos h
theorem zMl_1 {f : Int32} (h : ¬ f = 0) (i : Nat) : zMl f i = 2 * i := if_neg h
theorem zMl_le {f : Int32} {i : Nat} (h : i ≤ 8) : zMl f i ≤ 16 := by unfold zMl; split <;> omega
def zfT (a j : Nat) : Bool := (Nat.beq a 10 && Nat.beq j 3) || (Nat.ble 11 a && Nat.ble a 13)
def zTok (n : Nat) (X Y : Nat → Int32) (f : Int32) (E S : Nat → Int32) (m : Nat) (τ : zSt) : Prop := ∀ t, t < m → τ.1 11 t = zT1 n X Y f E t ∧ τ.1 12 t = zT2 n X Y f E t ∧ τ.1 13 t = zT3 n X Y f E S t
theorem zT_0 {n : Nat} {X Y : Nat → Int32} {f : Int32} {E S : Nat → Int32} {i e : Nat} (hf : f = 0) (hZ : zEd E i = e) :
    zT1 n X Y f E i = (-16) * (Y (zNx n e) - Y e) + f * (X (zNx n e) - X e) ∧ zT2 n X Y f E i = 16 * (X (zNx n e) - X e) + f * (Y (zNx n e) - Y e) ∧
    zT3 n X Y f E S i = (8 * X e + S i * (X (zNx n e) - X e)) * (16 * (X (zNx n e) - X e) + f * (Y (zNx n e) - Y e)) - (8 * Y e + S i * (Y (zNx n e) - Y e)) * ((-16) * (Y (zNx n e) - Y e) + f * (X (zNx n e) - X e)) := by
  have h1 : zTi f i = i := if_pos hf
  have h2 : (f = 0 ∨ i % 2 = 0) := Or.inl hf
  simp only [zT3, zT1, zT2, zPX, zDX, h1, hZ, if_pos h2, and_self]
theorem zT_1 {n : Nat} {X Y : Nat → Int32} {f : Int32} {E S : Nat → Int32} {i e : Nat} (hf : ¬ f = 0) (hZ : zEd E i = e) :
    (zT1 n X Y f E (2 * i) = (-16) * (Y (zNx n e) - Y e) + f * (X (zNx n e) - X e) ∧ zT2 n X Y f E (2 * i) = 16 * (X (zNx n e) - X e) + f * (Y (zNx n e) - Y e) ∧
    zT3 n X Y f E S (2 * i) = (8 * X e + S i * (X (zNx n e) - X e)) * (16 * (X (zNx n e) - X e) + f * (Y (zNx n e) - Y e)) - (8 * Y e + S i * (Y (zNx n e) - Y e)) * ((-16) * (Y (zNx n e) - Y e) + f * (X (zNx n e) - X e))) ∧
    zT1 n X Y f E (2 * i + 1) = (-16) * (Y (zNx n e) - Y e) - f * (X (zNx n e) - X e) ∧ zT2 n X Y f E (2 * i + 1) = 16 * (X (zNx n e) - X e) - f * (Y (zNx n e) - Y e) ∧
    zT3 n X Y f E S (2 * i + 1) = (8 * X e + S i * (X (zNx n e) - X e)) * (16 * (X (zNx n e) - X e) - f * (Y (zNx n e) - Y e)) - (8 * Y e + S i * (Y (zNx n e) - Y e)) * ((-16) * (Y (zNx n e) - Y e) - f * (X (zNx n e) - X e)) := by
  have h1 : zTi f (2 * i) = i := by unfold zTi; rw [if_neg hf]; omega
  have h1' : zTi f (2 * i + 1) = i := by unfold zTi; rw [if_neg hf]; omega
  have h2 : (f = 0 ∨ (2 * i) % 2 = 0) := Or.inr (by omega)
  have h2' : ¬ (f = 0 ∨ (2 * i + 1) % 2 = 0) := by rintro (h | h); exact hf h; omega
  simp only [zT3, zT1, zT2, zPX, zDX, h1, h1', hZ, if_pos h2, if_neg h2', and_self]
set_option maxRecDepth 8000 in
set_option maxHeartbeats 4000000 in
theorem press_4 {d : Nat} {σ : zSt} {K : Option Value → zSt → Prop} {f : Int32} {n m : Nat} (hI : zQI (kR 1 14) σ.2.2) (hn : σ.1 1 2 = nI n) (hn10 : n ≤ 10) (hs : σ.1 4 2 = nI m) (hm : m ≤ 8) (hE : ∀ i, i < m → ∃ e, σ.1 5 i = nI e ∧ e < n) (hK : ∀ τ, zOnly zfT σ τ → τ.1 10 3 = nI (zMl f m) → zTok n (σ.1 2) (σ.1 3) f (σ.1 5) (σ.1 6) (zMl f m) τ → K none τ) : zSp zx (d + 3) mX7_press [.ref 10, .ref 4, .ref 1, .int f] σ K := by
  refine ⟨⟨by decide, Nat.le_of_ble_eq_true rfl⟩, fun V hV => ?_⟩
  refine zq (σ := σ) hV hI rfl 5 ?_
  show V 8 [(4, .int 0), (0, .ref 10), (1, .ref 4), (2, .ref 1), (3, .int f)] [] (zuI σ 10 3 0)
  refine zwk hV [1, 2, 3, 4, 0] rfl ?_
  have H : ∀ (r i : Nat) (τ : zSt), i + r = m → zOnly zfT σ τ → τ.1 10 3 = nI (zMl f i) → zTok n (σ.1 2) (σ.1 3) f (σ.1 5) (σ.1 6) (zMl f i) τ → V 8 [(0, .ref 10), (1, .ref 4), (2, .ref 1), (3, .int f), (4, .int (nI i))] [] τ := by
    intro r
    induction r with
    | zero =>
      intro i τ hin ht h10 hj
      have hIt := zQI_eq hI ht.2.2
      have hnt : τ.2.2.2 = σ.2.2.2 := congrArg Prod.snd ht.2.2
      have hst : τ.1 4 2 = nI m := (ht.1 4 2 rfl).trans hs
      refine zq (σ := τ) hV hIt hnt 3 ?_
      show zSp _ _ 6 [.ref 4] τ (fun r σ' => σ'.2.2.2 = τ.2.2.2 + zAl 6 → V 14 [(0, .ref 10), (1, .ref 4), (2, .ref 1), (3, .int f), (4, .int (nI i))] (r.toList ++ [.int (nI i)]) σ')
      refine hsize_4 (zR_of hIt rfl rfl) (fun _ => ?_)
      refine zq (σ := τ) hV hIt hnt 1 ?_
      show ((τ.1 4 2) ≤ (nI i) → V 149 [(0, .ref 10), (1, .ref 4), (2, .ref 1), (3, .int f), (4, .int (nI i))] [] τ) ∧ (¬ (τ.1 4 2) ≤ (nI i) → V 17 [(0, .ref 10), (1, .ref 4), (2, .ref 1), (3, .int f), (4, .int (nI i))] [] τ)
      refine ⟨fun _ => ?_, fun hc => absurd (show τ.1 4 2 ≤ nI i by rw [hst, show i = m by omega]; exact Int32.le_refl _) hc⟩
      refine zq (σ := τ) hV hIt hnt 1 ?_
      show K none τ
      obtain rfl : i = m := by omega
      exact hK τ ht h10 hj
    | succ r ih =>
      intro i τ hin ht h10 hj
      have hIt := zQI_eq hI ht.2.2
      have hnt : τ.2.2.2 = σ.2.2.2 := congrArg Prod.snd ht.2.2
      have hst : τ.1 4 2 = nI m := (ht.1 4 2 rfl).trans hs
      have hmi : i < m := by omega
      have hml := @zMl_le f (i + 1) (by omega)
      obtain ⟨e, he0, hen⟩ := hE i hmi
      have he : τ.1 5 i = nI e := (ht.1 5 i rfl).trans he0
      have hZ : zEd (σ.1 5) i = e := by unfold zEd; rw [he0]; exact nI_clamp (by omega)
      have hX : τ.1 2 = σ.1 2 := funext fun j => ht.1 2 j rfl
      have hY : τ.1 3 = σ.1 3 := funext fun j => ht.1 3 j rfl
      have hSt : τ.1 6 i = σ.1 6 i := ht.1 6 i rfl
      replace hn : τ.1 1 2 = nI n := (ht.1 1 2 rfl).trans hn
      have hze := zNx_lt hen
      have hm1 : zMl f i < 16 ∧ (¬ f = 0 → zMl f i + 1 < 16) := by unfold zMl at hml ⊢; split <;> rename_i q <;> simp only [q, if_true, if_false] at hml <;> omega
      refine zq (σ := τ) hV hIt hnt 3 ?_
      show zSp _ _ 6 [.ref 4] τ (fun r σ' => σ'.2.2.2 = τ.2.2.2 + zAl 6 → V 14 [(0, .ref 10), (1, .ref 4), (2, .ref 1), (3, .int f), (4, .int (nI i))] (r.toList ++ [.int (nI i)]) σ')
      refine hsize_4 (zR_of hIt rfl rfl) (fun _ => ?_)
      refine zq (σ := τ) hV hIt hnt 1 ?_
      show ((τ.1 4 2) ≤ (nI i) → V 149 [(0, .ref 10), (1, .ref 4), (2, .ref 1), (3, .int f), (4, .int (nI i))] [] τ) ∧ (¬ (τ.1 4 2) ≤ (nI i) → V 17 [(0, .ref 10), (1, .ref 4), (2, .ref 1), (3, .int f), (4, .int (nI i))] [] τ)
      refine ⟨fun hc => absurd hc (show ¬ τ.1 4 2 ≤ nI i by rw [hst]; exact nI_ge hmi (by omega)), fun _ => ?_⟩
      refine zq (σ := τ) hV hIt hnt 3 ?_
      show zSp _ _ 7 [.ref 4, .int (nI i)] τ (fun r σ' => σ'.2.2.2 = τ.2.2.2 + zAl 7 → V 23 [(0, .ref 10), (1, .ref 4), (2, .ref 1), (3, .int f), (4, .int (nI i))] (r.toList ++ []) σ')
      refine hedge_4 (zR_of hIt rfl rfl) rfl (by omega) (fun _ => ?_)
      refine zq (σ := τ) hV hIt hnt 4 ?_
      show zSp _ _ 8 [.ref 4, .int (nI i)] τ (fun r σ' => σ'.2.2.2 = τ.2.2.2 + zAl 8 → V 31 [(5, .int (τ.1 5 i)), (0, .ref 10), (1, .ref 4), (2, .ref 1), (3, .int f), (4, .int (nI i))] (r.toList ++ []) σ')
      refine heighth_4 (zR_of hIt rfl rfl) rfl (by omega) (fun _ => ?_)
      refine zq (σ := τ) hV hIt hnt 4 ?_
      show zSp _ _ 21 [.ref 1, .int (τ.1 5 i)] τ (fun r σ' => σ'.2.2.2 = τ.2.2.2 + zAl 21 → V 39 [(6, .int (τ.1 6 i)), (5, .int (τ.1 5 i)), (0, .ref 10), (1, .ref 4), (2, .ref 1), (3, .int f), (4, .int (nI i))] (r.toList ++ []) σ')
      refine dx_ok (zR_of hIt rfl rfl) hn (by omega) he (by omega) (fun _ => ?_)
      refine zq (σ := τ) hV hIt hnt 4 ?_
      show zSp _ _ 22 [.ref 1, .int (τ.1 5 i)] τ (fun r σ' => σ'.2.2.2 = τ.2.2.2 + zAl 22 → V 47 [(7, .int ((τ.1 2 (zNx n e)) - (τ.1 2 e))), (6, .int (τ.1 6 i)), (5, .int (τ.1 5 i)), (0, .ref 10), (1, .ref 4), (2, .ref 1), (3, .int f), (4, .int (nI i))] (r.toList ++ []) σ')
      refine dy_ok (zR_of hIt rfl rfl) hn (by omega) he (by omega) (fun _ => ?_)
      refine zq (σ := τ) hV hIt hnt 5 ?_
      show zSp _ _ 18 [.ref 1, .int (τ.1 5 i)] τ (fun r σ' => σ'.2.2.2 = τ.2.2.2 + zAl 18 → V 57 [(8, .int ((τ.1 3 (zNx n e)) - (τ.1 3 e))), (7, .int ((τ.1 2 (zNx n e)) - (τ.1 2 e))), (6, .int (τ.1 6 i)), (5, .int (τ.1 5 i)), (0, .ref 10), (1, .ref 4), (2, .ref 1), (3, .int f), (4, .int (nI i))] (r.toList ++ [.int 8]) σ')
      refine x_ok (zR_of hIt rfl rfl) he (by omega) (fun _ => ?_)
      refine zq (σ := τ) hV hIt hnt 10 ?_
      show zSp _ _ 19 [.ref 1, .int (τ.1 5 i)] τ (fun r σ' => σ'.2.2.2 = τ.2.2.2 + zAl 19 → V 74 [(9, .int ((8 * (τ.1 2 e)) + ((τ.1 6 i) * ((τ.1 2 (zNx n e)) - (τ.1 2 e))))), (8, .int ((τ.1 3 (zNx n e)) - (τ.1 3 e))), (7, .int ((τ.1 2 (zNx n e)) - (τ.1 2 e))), (6, .int (τ.1 6 i)), (5, .int (τ.1 5 i)), (0, .ref 10), (1, .ref 4), (2, .ref 1), (3, .int f), (4, .int (nI i))] (r.toList ++ [.int 8]) σ')
      refine y_ok (zR_of hIt rfl rfl) he (by omega) (fun _ => ?_)
      refine zq (σ := τ) hV hIt hnt 24 ?_
      show zSp _ _ 47 [.ref 10, .int ((8 * (τ.1 2 e)) + ((τ.1 6 i) * ((τ.1 2 (zNx n e)) - (τ.1 2 e)))), .int ((8 * (τ.1 3 e)) + ((τ.1 6 i) * ((τ.1 3 (zNx n e)) - (τ.1 3 e)))), .int (((-16) * ((τ.1 3 (zNx n e)) - (τ.1 3 e))) + (f * ((τ.1 2 (zNx n e)) - (τ.1 2 e)))), .int ((16 * ((τ.1 2 (zNx n e)) - (τ.1 2 e))) + (f * ((τ.1 3 (zNx n e)) - (τ.1 3 e))))] τ (fun r σ' => σ'.2.2.2 = τ.2.2.2 + zAl 47 → V 111 [(10, .int ((8 * (τ.1 3 e)) + ((τ.1 6 i) * ((τ.1 3 (zNx n e)) - (τ.1 3 e))))), (9, .int ((8 * (τ.1 2 e)) + ((τ.1 6 i) * ((τ.1 2 (zNx n e)) - (τ.1 2 e))))), (8, .int ((τ.1 3 (zNx n e)) - (τ.1 3 e))), (7, .int ((τ.1 2 (zNx n e)) - (τ.1 2 e))), (6, .int (τ.1 6 i)), (5, .int (τ.1 5 i)), (0, .ref 10), (1, .ref 4), (2, .ref 1), (3, .int f), (4, .int (nI i))] (r.toList ++ []) σ')
      refine tadd_ok (zR_of hIt rfl rfl) (m := (zMl f i)) h10 hm1.1 (fun _ => ?_)
      refine zq (σ := (zuI (zuI (zuI (zuI τ 11 (zMl f i) (((-16) * ((τ.1 3 (zNx n e)) - (τ.1 3 e))) + (f * ((τ.1 2 (zNx n e)) - (τ.1 2 e))))) 12 (zMl f i) ((16 * ((τ.1 2 (zNx n e)) - (τ.1 2 e))) + (f * ((τ.1 3 (zNx n e)) - (τ.1 3 e))))) 13 (zMl f i) (((8 * (τ.1 2 e)) + ((τ.1 6 i) * ((τ.1 2 (zNx n e)) - (τ.1 2 e)))) * ((16 * ((τ.1 2 (zNx n e)) - (τ.1 2 e))) + (f * ((τ.1 3 (zNx n e)) - (τ.1 3 e)))) - ((8 * (τ.1 3 e)) + ((τ.1 6 i) * ((τ.1 3 (zNx n e)) - (τ.1 3 e)))) * (((-16) * ((τ.1 3 (zNx n e)) - (τ.1 3 e))) + (f * ((τ.1 2 (zNx n e)) - (τ.1 2 e)))))) 10 3 (nI ((zMl f i) + 1)))) hV hIt hnt 2 ?_
      show (f = 0 → V 143 [(10, .int ((8 * (τ.1 3 e)) + ((τ.1 6 i) * ((τ.1 3 (zNx n e)) - (τ.1 3 e))))), (9, .int ((8 * (τ.1 2 e)) + ((τ.1 6 i) * ((τ.1 2 (zNx n e)) - (τ.1 2 e))))), (8, .int ((τ.1 3 (zNx n e)) - (τ.1 3 e))), (7, .int ((τ.1 2 (zNx n e)) - (τ.1 2 e))), (6, .int (τ.1 6 i)), (5, .int (τ.1 5 i)), (0, .ref 10), (1, .ref 4), (2, .ref 1), (3, .int f), (4, .int (nI i))] [] (zuI (zuI (zuI (zuI τ 11 (zMl f i) (((-16) * ((τ.1 3 (zNx n e)) - (τ.1 3 e))) + (f * ((τ.1 2 (zNx n e)) - (τ.1 2 e))))) 12 (zMl f i) ((16 * ((τ.1 2 (zNx n e)) - (τ.1 2 e))) + (f * ((τ.1 3 (zNx n e)) - (τ.1 3 e))))) 13 (zMl f i) (((8 * (τ.1 2 e)) + ((τ.1 6 i) * ((τ.1 2 (zNx n e)) - (τ.1 2 e)))) * ((16 * ((τ.1 2 (zNx n e)) - (τ.1 2 e))) + (f * ((τ.1 3 (zNx n e)) - (τ.1 3 e)))) - ((8 * (τ.1 3 e)) + ((τ.1 6 i) * ((τ.1 3 (zNx n e)) - (τ.1 3 e)))) * (((-16) * ((τ.1 3 (zNx n e)) - (τ.1 3 e))) + (f * ((τ.1 2 (zNx n e)) - (τ.1 2 e)))))) 10 3 (nI ((zMl f i) + 1)))) ∧ (¬ f = 0 → V 115 [(10, .int ((8 * (τ.1 3 e)) + ((τ.1 6 i) * ((τ.1 3 (zNx n e)) - (τ.1 3 e))))), (9, .int ((8 * (τ.1 2 e)) + ((τ.1 6 i) * ((τ.1 2 (zNx n e)) - (τ.1 2 e))))), (8, .int ((τ.1 3 (zNx n e)) - (τ.1 3 e))), (7, .int ((τ.1 2 (zNx n e)) - (τ.1 2 e))), (6, .int (τ.1 6 i)), (5, .int (τ.1 5 i)), (0, .ref 10), (1, .ref 4), (2, .ref 1), (3, .int f), (4, .int (nI i))] [] (zuI (zuI (zuI (zuI τ 11 (zMl f i) (((-16) * ((τ.1 3 (zNx n e)) - (τ.1 3 e))) + (f * ((τ.1 2 (zNx n e)) - (τ.1 2 e))))) 12 (zMl f i) ((16 * ((τ.1 2 (zNx n e)) - (τ.1 2 e))) + (f * ((τ.1 3 (zNx n e)) - (τ.1 3 e))))) 13 (zMl f i) (((8 * (τ.1 2 e)) + ((τ.1 6 i) * ((τ.1 2 (zNx n e)) - (τ.1 2 e)))) * ((16 * ((τ.1 2 (zNx n e)) - (τ.1 2 e))) + (f * ((τ.1 3 (zNx n e)) - (τ.1 3 e)))) - ((8 * (τ.1 3 e)) + ((τ.1 6 i) * ((τ.1 3 (zNx n e)) - (τ.1 3 e)))) * (((-16) * ((τ.1 3 (zNx n e)) - (τ.1 3 e))) + (f * ((τ.1 2 (zNx n e)) - (τ.1 2 e)))))) 10 3 (nI ((zMl f i) + 1))))
      refine ⟨fun h_112 => ?_, fun h_112 => ?_⟩
      · skip
        refine zq (σ := (zuI (zuI (zuI (zuI τ 11 (zMl f i) (((-16) * ((τ.1 3 (zNx n e)) - (τ.1 3 e))) + (f * ((τ.1 2 (zNx n e)) - (τ.1 2 e))))) 12 (zMl f i) ((16 * ((τ.1 2 (zNx n e)) - (τ.1 2 e))) + (f * ((τ.1 3 (zNx n e)) - (τ.1 3 e))))) 13 (zMl f i) (((8 * (τ.1 2 e)) + ((τ.1 6 i) * ((τ.1 2 (zNx n e)) - (τ.1 2 e)))) * ((16 * ((τ.1 2 (zNx n e)) - (τ.1 2 e))) + (f * ((τ.1 3 (zNx n e)) - (τ.1 3 e)))) - ((8 * (τ.1 3 e)) + ((τ.1 6 i) * ((τ.1 3 (zNx n e)) - (τ.1 3 e)))) * (((-16) * ((τ.1 3 (zNx n e)) - (τ.1 3 e))) + (f * ((τ.1 2 (zNx n e)) - (τ.1 2 e)))))) 10 3 (nI ((zMl f i) + 1)))) hV hIt hnt 2 ?_
        show V 8 [(4, .int ((nI i) + 1)), (10, .int ((8 * (τ.1 3 e)) + ((τ.1 6 i) * ((τ.1 3 (zNx n e)) - (τ.1 3 e))))), (9, .int ((8 * (τ.1 2 e)) + ((τ.1 6 i) * ((τ.1 2 (zNx n e)) - (τ.1 2 e))))), (8, .int ((τ.1 3 (zNx n e)) - (τ.1 3 e))), (7, .int ((τ.1 2 (zNx n e)) - (τ.1 2 e))), (6, .int (τ.1 6 i)), (5, .int (τ.1 5 i)), (0, .ref 10), (1, .ref 4), (2, .ref 1), (3, .int f)] [] (zuI (zuI (zuI (zuI τ 11 (zMl f i) (((-16) * ((τ.1 3 (zNx n e)) - (τ.1 3 e))) + (f * ((τ.1 2 (zNx n e)) - (τ.1 2 e))))) 12 (zMl f i) ((16 * ((τ.1 2 (zNx n e)) - (τ.1 2 e))) + (f * ((τ.1 3 (zNx n e)) - (τ.1 3 e))))) 13 (zMl f i) (((8 * (τ.1 2 e)) + ((τ.1 6 i) * ((τ.1 2 (zNx n e)) - (τ.1 2 e)))) * ((16 * ((τ.1 2 (zNx n e)) - (τ.1 2 e))) + (f * ((τ.1 3 (zNx n e)) - (τ.1 3 e)))) - ((8 * (τ.1 3 e)) + ((τ.1 6 i) * ((τ.1 3 (zNx n e)) - (τ.1 3 e)))) * (((-16) * ((τ.1 3 (zNx n e)) - (τ.1 3 e))) + (f * ((τ.1 2 (zNx n e)) - (τ.1 2 e)))))) 10 3 (nI ((zMl f i) + 1)))
        refine zwk hV [7, 8, 9, 10, 0] rfl ?_
        rw [nI_1]
        refine ih (i + 1) _ (by omega) ((((ht.uI rfl).uI rfl).uI rfl).uI rfl) ?_ (fun t q => ?_)
        · show nI (zMl f i + 1) = _
          rw [zMl_0 h_112, zMl_0 h_112]
        · rw [zMl_0 h_112] at q
          have hs3 := @zT_0 n (σ.1 2) (σ.1 3) f (σ.1 5) (σ.1 6) i e h_112 hZ
          simp only [zuI_get, zMl_0 h_112, hX, hY, hSt]
          by_cases hti : t = i
          · subst hti; simp [hs3.1, hs3.2.1, hs3.2.2]
          · have := hj t (by rw [zMl_0 h_112]; omega); simp [hti, this.1, this.2.1, this.2.2]
      · skip
        refine zq (σ := (zuI (zuI (zuI (zuI τ 11 (zMl f i) (((-16) * ((τ.1 3 (zNx n e)) - (τ.1 3 e))) + (f * ((τ.1 2 (zNx n e)) - (τ.1 2 e))))) 12 (zMl f i) ((16 * ((τ.1 2 (zNx n e)) - (τ.1 2 e))) + (f * ((τ.1 3 (zNx n e)) - (τ.1 3 e))))) 13 (zMl f i) (((8 * (τ.1 2 e)) + ((τ.1 6 i) * ((τ.1 2 (zNx n e)) - (τ.1 2 e)))) * ((16 * ((τ.1 2 (zNx n e)) - (τ.1 2 e))) + (f * ((τ.1 3 (zNx n e)) - (τ.1 3 e)))) - ((8 * (τ.1 3 e)) + ((τ.1 6 i) * ((τ.1 3 (zNx n e)) - (τ.1 3 e)))) * (((-16) * ((τ.1 3 (zNx n e)) - (τ.1 3 e))) + (f * ((τ.1 2 (zNx n e)) - (τ.1 2 e)))))) 10 3 (nI ((zMl f i) + 1)))) hV hIt hnt 18 ?_
        show zSp _ _ 47 [.ref 10, .int ((8 * (τ.1 2 e)) + ((τ.1 6 i) * ((τ.1 2 (zNx n e)) - (τ.1 2 e)))), .int ((8 * (τ.1 3 e)) + ((τ.1 6 i) * ((τ.1 3 (zNx n e)) - (τ.1 3 e)))), .int (((-16) * ((τ.1 3 (zNx n e)) - (τ.1 3 e))) - (f * ((τ.1 2 (zNx n e)) - (τ.1 2 e)))), .int ((16 * ((τ.1 2 (zNx n e)) - (τ.1 2 e))) - (f * ((τ.1 3 (zNx n e)) - (τ.1 3 e))))] (zuI (zuI (zuI (zuI τ 11 (zMl f i) (((-16) * ((τ.1 3 (zNx n e)) - (τ.1 3 e))) + (f * ((τ.1 2 (zNx n e)) - (τ.1 2 e))))) 12 (zMl f i) ((16 * ((τ.1 2 (zNx n e)) - (τ.1 2 e))) + (f * ((τ.1 3 (zNx n e)) - (τ.1 3 e))))) 13 (zMl f i) (((8 * (τ.1 2 e)) + ((τ.1 6 i) * ((τ.1 2 (zNx n e)) - (τ.1 2 e)))) * ((16 * ((τ.1 2 (zNx n e)) - (τ.1 2 e))) + (f * ((τ.1 3 (zNx n e)) - (τ.1 3 e)))) - ((8 * (τ.1 3 e)) + ((τ.1 6 i) * ((τ.1 3 (zNx n e)) - (τ.1 3 e)))) * (((-16) * ((τ.1 3 (zNx n e)) - (τ.1 3 e))) + (f * ((τ.1 2 (zNx n e)) - (τ.1 2 e)))))) 10 3 (nI ((zMl f i) + 1))) (fun r σ' => σ'.2.2.2 = (zuI (zuI (zuI (zuI τ 11 (zMl f i) (((-16) * ((τ.1 3 (zNx n e)) - (τ.1 3 e))) + (f * ((τ.1 2 (zNx n e)) - (τ.1 2 e))))) 12 (zMl f i) ((16 * ((τ.1 2 (zNx n e)) - (τ.1 2 e))) + (f * ((τ.1 3 (zNx n e)) - (τ.1 3 e))))) 13 (zMl f i) (((8 * (τ.1 2 e)) + ((τ.1 6 i) * ((τ.1 2 (zNx n e)) - (τ.1 2 e)))) * ((16 * ((τ.1 2 (zNx n e)) - (τ.1 2 e))) + (f * ((τ.1 3 (zNx n e)) - (τ.1 3 e)))) - ((8 * (τ.1 3 e)) + ((τ.1 6 i) * ((τ.1 3 (zNx n e)) - (τ.1 3 e)))) * (((-16) * ((τ.1 3 (zNx n e)) - (τ.1 3 e))) + (f * ((τ.1 2 (zNx n e)) - (τ.1 2 e)))))) 10 3 (nI ((zMl f i) + 1))).2.2.2 + zAl 47 → V 143 [(10, .int ((8 * (τ.1 3 e)) + ((τ.1 6 i) * ((τ.1 3 (zNx n e)) - (τ.1 3 e))))), (9, .int ((8 * (τ.1 2 e)) + ((τ.1 6 i) * ((τ.1 2 (zNx n e)) - (τ.1 2 e))))), (8, .int ((τ.1 3 (zNx n e)) - (τ.1 3 e))), (7, .int ((τ.1 2 (zNx n e)) - (τ.1 2 e))), (6, .int (τ.1 6 i)), (5, .int (τ.1 5 i)), (0, .ref 10), (1, .ref 4), (2, .ref 1), (3, .int f), (4, .int (nI i))] (r.toList ++ []) σ')
        refine tadd_ok (zR_of hIt rfl rfl) (m := (zMl f i + 1)) rfl (hm1.2 h_112) (fun _ => ?_)
        refine zq (σ := (zuI (zuI (zuI (zuI (zuI (zuI (zuI (zuI τ 11 (zMl f i) (((-16) * ((τ.1 3 (zNx n e)) - (τ.1 3 e))) + (f * ((τ.1 2 (zNx n e)) - (τ.1 2 e))))) 12 (zMl f i) ((16 * ((τ.1 2 (zNx n e)) - (τ.1 2 e))) + (f * ((τ.1 3 (zNx n e)) - (τ.1 3 e))))) 13 (zMl f i) (((8 * (τ.1 2 e)) + ((τ.1 6 i) * ((τ.1 2 (zNx n e)) - (τ.1 2 e)))) * ((16 * ((τ.1 2 (zNx n e)) - (τ.1 2 e))) + (f * ((τ.1 3 (zNx n e)) - (τ.1 3 e)))) - ((8 * (τ.1 3 e)) + ((τ.1 6 i) * ((τ.1 3 (zNx n e)) - (τ.1 3 e)))) * (((-16) * ((τ.1 3 (zNx n e)) - (τ.1 3 e))) + (f * ((τ.1 2 (zNx n e)) - (τ.1 2 e)))))) 10 3 (nI ((zMl f i) + 1))) 11 (zMl f i + 1) (((-16) * ((τ.1 3 (zNx n e)) - (τ.1 3 e))) - (f * ((τ.1 2 (zNx n e)) - (τ.1 2 e))))) 12 (zMl f i + 1) ((16 * ((τ.1 2 (zNx n e)) - (τ.1 2 e))) - (f * ((τ.1 3 (zNx n e)) - (τ.1 3 e))))) 13 (zMl f i + 1) (((8 * (τ.1 2 e)) + ((τ.1 6 i) * ((τ.1 2 (zNx n e)) - (τ.1 2 e)))) * ((16 * ((τ.1 2 (zNx n e)) - (τ.1 2 e))) - (f * ((τ.1 3 (zNx n e)) - (τ.1 3 e)))) - ((8 * (τ.1 3 e)) + ((τ.1 6 i) * ((τ.1 3 (zNx n e)) - (τ.1 3 e)))) * (((-16) * ((τ.1 3 (zNx n e)) - (τ.1 3 e))) - (f * ((τ.1 2 (zNx n e)) - (τ.1 2 e)))))) 10 3 (nI ((zMl f i + 1) + 1)))) hV hIt hnt 2 ?_
        show V 8 [(4, .int ((nI i) + 1)), (10, .int ((8 * (τ.1 3 e)) + ((τ.1 6 i) * ((τ.1 3 (zNx n e)) - (τ.1 3 e))))), (9, .int ((8 * (τ.1 2 e)) + ((τ.1 6 i) * ((τ.1 2 (zNx n e)) - (τ.1 2 e))))), (8, .int ((τ.1 3 (zNx n e)) - (τ.1 3 e))), (7, .int ((τ.1 2 (zNx n e)) - (τ.1 2 e))), (6, .int (τ.1 6 i)), (5, .int (τ.1 5 i)), (0, .ref 10), (1, .ref 4), (2, .ref 1), (3, .int f)] [] (zuI (zuI (zuI (zuI (zuI (zuI (zuI (zuI τ 11 (zMl f i) (((-16) * ((τ.1 3 (zNx n e)) - (τ.1 3 e))) + (f * ((τ.1 2 (zNx n e)) - (τ.1 2 e))))) 12 (zMl f i) ((16 * ((τ.1 2 (zNx n e)) - (τ.1 2 e))) + (f * ((τ.1 3 (zNx n e)) - (τ.1 3 e))))) 13 (zMl f i) (((8 * (τ.1 2 e)) + ((τ.1 6 i) * ((τ.1 2 (zNx n e)) - (τ.1 2 e)))) * ((16 * ((τ.1 2 (zNx n e)) - (τ.1 2 e))) + (f * ((τ.1 3 (zNx n e)) - (τ.1 3 e)))) - ((8 * (τ.1 3 e)) + ((τ.1 6 i) * ((τ.1 3 (zNx n e)) - (τ.1 3 e)))) * (((-16) * ((τ.1 3 (zNx n e)) - (τ.1 3 e))) + (f * ((τ.1 2 (zNx n e)) - (τ.1 2 e)))))) 10 3 (nI ((zMl f i) + 1))) 11 (zMl f i + 1) (((-16) * ((τ.1 3 (zNx n e)) - (τ.1 3 e))) - (f * ((τ.1 2 (zNx n e)) - (τ.1 2 e))))) 12 (zMl f i + 1) ((16 * ((τ.1 2 (zNx n e)) - (τ.1 2 e))) - (f * ((τ.1 3 (zNx n e)) - (τ.1 3 e))))) 13 (zMl f i + 1) (((8 * (τ.1 2 e)) + ((τ.1 6 i) * ((τ.1 2 (zNx n e)) - (τ.1 2 e)))) * ((16 * ((τ.1 2 (zNx n e)) - (τ.1 2 e))) - (f * ((τ.1 3 (zNx n e)) - (τ.1 3 e)))) - ((8 * (τ.1 3 e)) + ((τ.1 6 i) * ((τ.1 3 (zNx n e)) - (τ.1 3 e)))) * (((-16) * ((τ.1 3 (zNx n e)) - (τ.1 3 e))) - (f * ((τ.1 2 (zNx n e)) - (τ.1 2 e)))))) 10 3 (nI ((zMl f i + 1) + 1)))
        refine zwk hV [7, 8, 9, 10, 0] rfl ?_
        rw [nI_1]
        refine ih (i + 1) _ (by omega) ((((((((ht.uI rfl).uI rfl).uI rfl).uI rfl).uI rfl).uI rfl).uI rfl).uI rfl) ?_ (fun t q => ?_)
        · show nI (zMl f i + 1 + 1) = _
          rw [zMl_1 h_112, zMl_1 h_112]; rfl
        · rw [zMl_1 h_112] at q
          have hs3 := @zT_1 n (σ.1 2) (σ.1 3) f (σ.1 5) (σ.1 6) i e h_112 hZ
          simp only [zuI_get, zMl_1 h_112, hX, hY, hSt]
          by_cases hti : t = 2 * i
          · subst hti; simp [hs3.1.1, hs3.1.2.1, hs3.1.2.2]
          · by_cases hti2 : t = 2 * i + 1
            · subst hti2; simp [hs3.2.1, hs3.2.2.1, hs3.2.2.2]
            · have := hj t (by rw [zMl_1 h_112]; omega); simp [hti, hti2, this.1, this.2.1, this.2.2]
  refine H m 0 _ (by omega) (zOnly.rf.uI rfl) ?_ (fun t q => absurd q (by unfold zMl; split <;> omega))
  show nI 0 = _
  unfold zMl; split <;> rfl
set_option maxRecDepth 8000 in
set_option maxHeartbeats 4000000 in
theorem press_7 {d : Nat} {σ : zSt} {K : Option Value → zSt → Prop} {f : Int32} {n m : Nat} (hI : zQI (kR 1 14) σ.2.2) (hn : σ.1 1 2 = nI n) (hn10 : n ≤ 10) (hs : σ.1 7 2 = nI m) (hm : m ≤ 8) (hE : ∀ i, i < m → ∃ e, σ.1 8 i = nI e ∧ e < n) (hK : ∀ τ, zOnly zfT σ τ → τ.1 10 3 = nI (zMl f m) → zTok n (σ.1 2) (σ.1 3) f (σ.1 8) (σ.1 9) (zMl f m) τ → K none τ) : zSp zx (d + 3) mX7_press [.ref 10, .ref 7, .ref 1, .int f] σ K := by
  refine ⟨⟨by decide, Nat.le_of_ble_eq_true rfl⟩, fun V hV => ?_⟩
  refine zq (σ := σ) hV hI rfl 5 ?_
  show V 8 [(4, .int 0), (0, .ref 10), (1, .ref 7), (2, .ref 1), (3, .int f)] [] (zuI σ 10 3 0)
  refine zwk hV [1, 2, 3, 4, 0] rfl ?_
  have H : ∀ (r i : Nat) (τ : zSt), i + r = m → zOnly zfT σ τ → τ.1 10 3 = nI (zMl f i) → zTok n (σ.1 2) (σ.1 3) f (σ.1 8) (σ.1 9) (zMl f i) τ → V 8 [(0, .ref 10), (1, .ref 7), (2, .ref 1), (3, .int f), (4, .int (nI i))] [] τ := by
    intro r
    induction r with
    | zero =>
      intro i τ hin ht h10 hj
      have hIt := zQI_eq hI ht.2.2
      have hnt : τ.2.2.2 = σ.2.2.2 := congrArg Prod.snd ht.2.2
      have hst : τ.1 7 2 = nI m := (ht.1 7 2 rfl).trans hs
      refine zq (σ := τ) hV hIt hnt 3 ?_
      show zSp _ _ 6 [.ref 7] τ (fun r σ' => σ'.2.2.2 = τ.2.2.2 + zAl 6 → V 14 [(0, .ref 10), (1, .ref 7), (2, .ref 1), (3, .int f), (4, .int (nI i))] (r.toList ++ [.int (nI i)]) σ')
      refine hsize_7 (zR_of hIt rfl rfl) (fun _ => ?_)
      refine zq (σ := τ) hV hIt hnt 1 ?_
      show ((τ.1 7 2) ≤ (nI i) → V 149 [(0, .ref 10), (1, .ref 7), (2, .ref 1), (3, .int f), (4, .int (nI i))] [] τ) ∧ (¬ (τ.1 7 2) ≤ (nI i) → V 17 [(0, .ref 10), (1, .ref 7), (2, .ref 1), (3, .int f), (4, .int (nI i))] [] τ)
      refine ⟨fun _ => ?_, fun hc => absurd (show τ.1 7 2 ≤ nI i by rw [hst, show i = m by omega]; exact Int32.le_refl _) hc⟩
      refine zq (σ := τ) hV hIt hnt 1 ?_
      show K none τ
      obtain rfl : i = m := by omega
      exact hK τ ht h10 hj
    | succ r ih =>
      intro i τ hin ht h10 hj
      have hIt := zQI_eq hI ht.2.2
      have hnt : τ.2.2.2 = σ.2.2.2 := congrArg Prod.snd ht.2.2
      have hst : τ.1 7 2 = nI m := (ht.1 7 2 rfl).trans hs
      have hmi : i < m := by omega
      have hml := @zMl_le f (i + 1) (by omega)
      obtain ⟨e, he0, hen⟩ := hE i hmi
      have he : τ.1 8 i = nI e := (ht.1 8 i rfl).trans he0
      have hZ : zEd (σ.1 8) i = e := by unfold zEd; rw [he0]; exact nI_clamp (by omega)
      have hX : τ.1 2 = σ.1 2 := funext fun j => ht.1 2 j rfl
      have hY : τ.1 3 = σ.1 3 := funext fun j => ht.1 3 j rfl
      have hSt : τ.1 9 i = σ.1 9 i := ht.1 9 i rfl
      replace hn : τ.1 1 2 = nI n := (ht.1 1 2 rfl).trans hn
      have hze := zNx_lt hen
      have hm1 : zMl f i < 16 ∧ (¬ f = 0 → zMl f i + 1 < 16) := by unfold zMl at hml ⊢; split <;> rename_i q <;> simp only [q, if_true, if_false] at hml <;> omega
      refine zq (σ := τ) hV hIt hnt 3 ?_
      show zSp _ _ 6 [.ref 7] τ (fun r σ' => σ'.2.2.2 = τ.2.2.2 + zAl 6 → V 14 [(0, .ref 10), (1, .ref 7), (2, .ref 1), (3, .int f), (4, .int (nI i))] (r.toList ++ [.int (nI i)]) σ')
      refine hsize_7 (zR_of hIt rfl rfl) (fun _ => ?_)
      refine zq (σ := τ) hV hIt hnt 1 ?_
      show ((τ.1 7 2) ≤ (nI i) → V 149 [(0, .ref 10), (1, .ref 7), (2, .ref 1), (3, .int f), (4, .int (nI i))] [] τ) ∧ (¬ (τ.1 7 2) ≤ (nI i) → V 17 [(0, .ref 10), (1, .ref 7), (2, .ref 1), (3, .int f), (4, .int (nI i))] [] τ)
      refine ⟨fun hc => absurd hc (show ¬ τ.1 7 2 ≤ nI i by rw [hst]; exact nI_ge hmi (by omega)), fun _ => ?_⟩
      refine zq (σ := τ) hV hIt hnt 3 ?_
      show zSp _ _ 7 [.ref 7, .int (nI i)] τ (fun r σ' => σ'.2.2.2 = τ.2.2.2 + zAl 7 → V 23 [(0, .ref 10), (1, .ref 7), (2, .ref 1), (3, .int f), (4, .int (nI i))] (r.toList ++ []) σ')
      refine hedge_7 (zR_of hIt rfl rfl) rfl (by omega) (fun _ => ?_)
      refine zq (σ := τ) hV hIt hnt 4 ?_
      show zSp _ _ 8 [.ref 7, .int (nI i)] τ (fun r σ' => σ'.2.2.2 = τ.2.2.2 + zAl 8 → V 31 [(5, .int (τ.1 8 i)), (0, .ref 10), (1, .ref 7), (2, .ref 1), (3, .int f), (4, .int (nI i))] (r.toList ++ []) σ')
      refine heighth_7 (zR_of hIt rfl rfl) rfl (by omega) (fun _ => ?_)
      refine zq (σ := τ) hV hIt hnt 4 ?_
      show zSp _ _ 21 [.ref 1, .int (τ.1 8 i)] τ (fun r σ' => σ'.2.2.2 = τ.2.2.2 + zAl 21 → V 39 [(6, .int (τ.1 9 i)), (5, .int (τ.1 8 i)), (0, .ref 10), (1, .ref 7), (2, .ref 1), (3, .int f), (4, .int (nI i))] (r.toList ++ []) σ')
      refine dx_ok (zR_of hIt rfl rfl) hn (by omega) he (by omega) (fun _ => ?_)
      refine zq (σ := τ) hV hIt hnt 4 ?_
      show zSp _ _ 22 [.ref 1, .int (τ.1 8 i)] τ (fun r σ' => σ'.2.2.2 = τ.2.2.2 + zAl 22 → V 47 [(7, .int ((τ.1 2 (zNx n e)) - (τ.1 2 e))), (6, .int (τ.1 9 i)), (5, .int (τ.1 8 i)), (0, .ref 10), (1, .ref 7), (2, .ref 1), (3, .int f), (4, .int (nI i))] (r.toList ++ []) σ')
      refine dy_ok (zR_of hIt rfl rfl) hn (by omega) he (by omega) (fun _ => ?_)
      refine zq (σ := τ) hV hIt hnt 5 ?_
      show zSp _ _ 18 [.ref 1, .int (τ.1 8 i)] τ (fun r σ' => σ'.2.2.2 = τ.2.2.2 + zAl 18 → V 57 [(8, .int ((τ.1 3 (zNx n e)) - (τ.1 3 e))), (7, .int ((τ.1 2 (zNx n e)) - (τ.1 2 e))), (6, .int (τ.1 9 i)), (5, .int (τ.1 8 i)), (0, .ref 10), (1, .ref 7), (2, .ref 1), (3, .int f), (4, .int (nI i))] (r.toList ++ [.int 8]) σ')
      refine x_ok (zR_of hIt rfl rfl) he (by omega) (fun _ => ?_)
      refine zq (σ := τ) hV hIt hnt 10 ?_
      show zSp _ _ 19 [.ref 1, .int (τ.1 8 i)] τ (fun r σ' => σ'.2.2.2 = τ.2.2.2 + zAl 19 → V 74 [(9, .int ((8 * (τ.1 2 e)) + ((τ.1 9 i) * ((τ.1 2 (zNx n e)) - (τ.1 2 e))))), (8, .int ((τ.1 3 (zNx n e)) - (τ.1 3 e))), (7, .int ((τ.1 2 (zNx n e)) - (τ.1 2 e))), (6, .int (τ.1 9 i)), (5, .int (τ.1 8 i)), (0, .ref 10), (1, .ref 7), (2, .ref 1), (3, .int f), (4, .int (nI i))] (r.toList ++ [.int 8]) σ')
      refine y_ok (zR_of hIt rfl rfl) he (by omega) (fun _ => ?_)
      refine zq (σ := τ) hV hIt hnt 24 ?_
      show zSp _ _ 47 [.ref 10, .int ((8 * (τ.1 2 e)) + ((τ.1 9 i) * ((τ.1 2 (zNx n e)) - (τ.1 2 e)))), .int ((8 * (τ.1 3 e)) + ((τ.1 9 i) * ((τ.1 3 (zNx n e)) - (τ.1 3 e)))), .int (((-16) * ((τ.1 3 (zNx n e)) - (τ.1 3 e))) + (f * ((τ.1 2 (zNx n e)) - (τ.1 2 e)))), .int ((16 * ((τ.1 2 (zNx n e)) - (τ.1 2 e))) + (f * ((τ.1 3 (zNx n e)) - (τ.1 3 e))))] τ (fun r σ' => σ'.2.2.2 = τ.2.2.2 + zAl 47 → V 111 [(10, .int ((8 * (τ.1 3 e)) + ((τ.1 9 i) * ((τ.1 3 (zNx n e)) - (τ.1 3 e))))), (9, .int ((8 * (τ.1 2 e)) + ((τ.1 9 i) * ((τ.1 2 (zNx n e)) - (τ.1 2 e))))), (8, .int ((τ.1 3 (zNx n e)) - (τ.1 3 e))), (7, .int ((τ.1 2 (zNx n e)) - (τ.1 2 e))), (6, .int (τ.1 9 i)), (5, .int (τ.1 8 i)), (0, .ref 10), (1, .ref 7), (2, .ref 1), (3, .int f), (4, .int (nI i))] (r.toList ++ []) σ')
      refine tadd_ok (zR_of hIt rfl rfl) (m := (zMl f i)) h10 hm1.1 (fun _ => ?_)
      refine zq (σ := (zuI (zuI (zuI (zuI τ 11 (zMl f i) (((-16) * ((τ.1 3 (zNx n e)) - (τ.1 3 e))) + (f * ((τ.1 2 (zNx n e)) - (τ.1 2 e))))) 12 (zMl f i) ((16 * ((τ.1 2 (zNx n e)) - (τ.1 2 e))) + (f * ((τ.1 3 (zNx n e)) - (τ.1 3 e))))) 13 (zMl f i) (((8 * (τ.1 2 e)) + ((τ.1 9 i) * ((τ.1 2 (zNx n e)) - (τ.1 2 e)))) * ((16 * ((τ.1 2 (zNx n e)) - (τ.1 2 e))) + (f * ((τ.1 3 (zNx n e)) - (τ.1 3 e)))) - ((8 * (τ.1 3 e)) + ((τ.1 9 i) * ((τ.1 3 (zNx n e)) - (τ.1 3 e)))) * (((-16) * ((τ.1 3 (zNx n e)) - (τ.1 3 e))) + (f * ((τ.1 2 (zNx n e)) - (τ.1 2 e)))))) 10 3 (nI ((zMl f i) + 1)))) hV hIt hnt 2 ?_
      show (f = 0 → V 143 [(10, .int ((8 * (τ.1 3 e)) + ((τ.1 9 i) * ((τ.1 3 (zNx n e)) - (τ.1 3 e))))), (9, .int ((8 * (τ.1 2 e)) + ((τ.1 9 i) * ((τ.1 2 (zNx n e)) - (τ.1 2 e))))), (8, .int ((τ.1 3 (zNx n e)) - (τ.1 3 e))), (7, .int ((τ.1 2 (zNx n e)) - (τ.1 2 e))), (6, .int (τ.1 9 i)), (5, .int (τ.1 8 i)), (0, .ref 10), (1, .ref 7), (2, .ref 1), (3, .int f), (4, .int (nI i))] [] (zuI (zuI (zuI (zuI τ 11 (zMl f i) (((-16) * ((τ.1 3 (zNx n e)) - (τ.1 3 e))) + (f * ((τ.1 2 (zNx n e)) - (τ.1 2 e))))) 12 (zMl f i) ((16 * ((τ.1 2 (zNx n e)) - (τ.1 2 e))) + (f * ((τ.1 3 (zNx n e)) - (τ.1 3 e))))) 13 (zMl f i) (((8 * (τ.1 2 e)) + ((τ.1 9 i) * ((τ.1 2 (zNx n e)) - (τ.1 2 e)))) * ((16 * ((τ.1 2 (zNx n e)) - (τ.1 2 e))) + (f * ((τ.1 3 (zNx n e)) - (τ.1 3 e)))) - ((8 * (τ.1 3 e)) + ((τ.1 9 i) * ((τ.1 3 (zNx n e)) - (τ.1 3 e)))) * (((-16) * ((τ.1 3 (zNx n e)) - (τ.1 3 e))) + (f * ((τ.1 2 (zNx n e)) - (τ.1 2 e)))))) 10 3 (nI ((zMl f i) + 1)))) ∧ (¬ f = 0 → V 115 [(10, .int ((8 * (τ.1 3 e)) + ((τ.1 9 i) * ((τ.1 3 (zNx n e)) - (τ.1 3 e))))), (9, .int ((8 * (τ.1 2 e)) + ((τ.1 9 i) * ((τ.1 2 (zNx n e)) - (τ.1 2 e))))), (8, .int ((τ.1 3 (zNx n e)) - (τ.1 3 e))), (7, .int ((τ.1 2 (zNx n e)) - (τ.1 2 e))), (6, .int (τ.1 9 i)), (5, .int (τ.1 8 i)), (0, .ref 10), (1, .ref 7), (2, .ref 1), (3, .int f), (4, .int (nI i))] [] (zuI (zuI (zuI (zuI τ 11 (zMl f i) (((-16) * ((τ.1 3 (zNx n e)) - (τ.1 3 e))) + (f * ((τ.1 2 (zNx n e)) - (τ.1 2 e))))) 12 (zMl f i) ((16 * ((τ.1 2 (zNx n e)) - (τ.1 2 e))) + (f * ((τ.1 3 (zNx n e)) - (τ.1 3 e))))) 13 (zMl f i) (((8 * (τ.1 2 e)) + ((τ.1 9 i) * ((τ.1 2 (zNx n e)) - (τ.1 2 e)))) * ((16 * ((τ.1 2 (zNx n e)) - (τ.1 2 e))) + (f * ((τ.1 3 (zNx n e)) - (τ.1 3 e)))) - ((8 * (τ.1 3 e)) + ((τ.1 9 i) * ((τ.1 3 (zNx n e)) - (τ.1 3 e)))) * (((-16) * ((τ.1 3 (zNx n e)) - (τ.1 3 e))) + (f * ((τ.1 2 (zNx n e)) - (τ.1 2 e)))))) 10 3 (nI ((zMl f i) + 1))))
      refine ⟨fun h_112 => ?_, fun h_112 => ?_⟩
      · skip
        refine zq (σ := (zuI (zuI (zuI (zuI τ 11 (zMl f i) (((-16) * ((τ.1 3 (zNx n e)) - (τ.1 3 e))) + (f * ((τ.1 2 (zNx n e)) - (τ.1 2 e))))) 12 (zMl f i) ((16 * ((τ.1 2 (zNx n e)) - (τ.1 2 e))) + (f * ((τ.1 3 (zNx n e)) - (τ.1 3 e))))) 13 (zMl f i) (((8 * (τ.1 2 e)) + ((τ.1 9 i) * ((τ.1 2 (zNx n e)) - (τ.1 2 e)))) * ((16 * ((τ.1 2 (zNx n e)) - (τ.1 2 e))) + (f * ((τ.1 3 (zNx n e)) - (τ.1 3 e)))) - ((8 * (τ.1 3 e)) + ((τ.1 9 i) * ((τ.1 3 (zNx n e)) - (τ.1 3 e)))) * (((-16) * ((τ.1 3 (zNx n e)) - (τ.1 3 e))) + (f * ((τ.1 2 (zNx n e)) - (τ.1 2 e)))))) 10 3 (nI ((zMl f i) + 1)))) hV hIt hnt 2 ?_
        show V 8 [(4, .int ((nI i) + 1)), (10, .int ((8 * (τ.1 3 e)) + ((τ.1 9 i) * ((τ.1 3 (zNx n e)) - (τ.1 3 e))))), (9, .int ((8 * (τ.1 2 e)) + ((τ.1 9 i) * ((τ.1 2 (zNx n e)) - (τ.1 2 e))))), (8, .int ((τ.1 3 (zNx n e)) - (τ.1 3 e))), (7, .int ((τ.1 2 (zNx n e)) - (τ.1 2 e))), (6, .int (τ.1 9 i)), (5, .int (τ.1 8 i)), (0, .ref 10), (1, .ref 7), (2, .ref 1), (3, .int f)] [] (zuI (zuI (zuI (zuI τ 11 (zMl f i) (((-16) * ((τ.1 3 (zNx n e)) - (τ.1 3 e))) + (f * ((τ.1 2 (zNx n e)) - (τ.1 2 e))))) 12 (zMl f i) ((16 * ((τ.1 2 (zNx n e)) - (τ.1 2 e))) + (f * ((τ.1 3 (zNx n e)) - (τ.1 3 e))))) 13 (zMl f i) (((8 * (τ.1 2 e)) + ((τ.1 9 i) * ((τ.1 2 (zNx n e)) - (τ.1 2 e)))) * ((16 * ((τ.1 2 (zNx n e)) - (τ.1 2 e))) + (f * ((τ.1 3 (zNx n e)) - (τ.1 3 e)))) - ((8 * (τ.1 3 e)) + ((τ.1 9 i) * ((τ.1 3 (zNx n e)) - (τ.1 3 e)))) * (((-16) * ((τ.1 3 (zNx n e)) - (τ.1 3 e))) + (f * ((τ.1 2 (zNx n e)) - (τ.1 2 e)))))) 10 3 (nI ((zMl f i) + 1)))
        refine zwk hV [7, 8, 9, 10, 0] rfl ?_
        rw [nI_1]
        refine ih (i + 1) _ (by omega) ((((ht.uI rfl).uI rfl).uI rfl).uI rfl) ?_ (fun t q => ?_)
        · show nI (zMl f i + 1) = _
          rw [zMl_0 h_112, zMl_0 h_112]
        · rw [zMl_0 h_112] at q
          have hs3 := @zT_0 n (σ.1 2) (σ.1 3) f (σ.1 8) (σ.1 9) i e h_112 hZ
          simp only [zuI_get, zMl_0 h_112, hX, hY, hSt]
          by_cases hti : t = i
          · subst hti; simp [hs3.1, hs3.2.1, hs3.2.2]
          · have := hj t (by rw [zMl_0 h_112]; omega); simp [hti, this.1, this.2.1, this.2.2]
      · skip
        refine zq (σ := (zuI (zuI (zuI (zuI τ 11 (zMl f i) (((-16) * ((τ.1 3 (zNx n e)) - (τ.1 3 e))) + (f * ((τ.1 2 (zNx n e)) - (τ.1 2 e))))) 12 (zMl f i) ((16 * ((τ.1 2 (zNx n e)) - (τ.1 2 e))) + (f * ((τ.1 3 (zNx n e)) - (τ.1 3 e))))) 13 (zMl f i) (((8 * (τ.1 2 e)) + ((τ.1 9 i) * ((τ.1 2 (zNx n e)) - (τ.1 2 e)))) * ((16 * ((τ.1 2 (zNx n e)) - (τ.1 2 e))) + (f * ((τ.1 3 (zNx n e)) - (τ.1 3 e)))) - ((8 * (τ.1 3 e)) + ((τ.1 9 i) * ((τ.1 3 (zNx n e)) - (τ.1 3 e)))) * (((-16) * ((τ.1 3 (zNx n e)) - (τ.1 3 e))) + (f * ((τ.1 2 (zNx n e)) - (τ.1 2 e)))))) 10 3 (nI ((zMl f i) + 1)))) hV hIt hnt 18 ?_
        show zSp _ _ 47 [.ref 10, .int ((8 * (τ.1 2 e)) + ((τ.1 9 i) * ((τ.1 2 (zNx n e)) - (τ.1 2 e)))), .int ((8 * (τ.1 3 e)) + ((τ.1 9 i) * ((τ.1 3 (zNx n e)) - (τ.1 3 e)))), .int (((-16) * ((τ.1 3 (zNx n e)) - (τ.1 3 e))) - (f * ((τ.1 2 (zNx n e)) - (τ.1 2 e)))), .int ((16 * ((τ.1 2 (zNx n e)) - (τ.1 2 e))) - (f * ((τ.1 3 (zNx n e)) - (τ.1 3 e))))] (zuI (zuI (zuI (zuI τ 11 (zMl f i) (((-16) * ((τ.1 3 (zNx n e)) - (τ.1 3 e))) + (f * ((τ.1 2 (zNx n e)) - (τ.1 2 e))))) 12 (zMl f i) ((16 * ((τ.1 2 (zNx n e)) - (τ.1 2 e))) + (f * ((τ.1 3 (zNx n e)) - (τ.1 3 e))))) 13 (zMl f i) (((8 * (τ.1 2 e)) + ((τ.1 9 i) * ((τ.1 2 (zNx n e)) - (τ.1 2 e)))) * ((16 * ((τ.1 2 (zNx n e)) - (τ.1 2 e))) + (f * ((τ.1 3 (zNx n e)) - (τ.1 3 e)))) - ((8 * (τ.1 3 e)) + ((τ.1 9 i) * ((τ.1 3 (zNx n e)) - (τ.1 3 e)))) * (((-16) * ((τ.1 3 (zNx n e)) - (τ.1 3 e))) + (f * ((τ.1 2 (zNx n e)) - (τ.1 2 e)))))) 10 3 (nI ((zMl f i) + 1))) (fun r σ' => σ'.2.2.2 = (zuI (zuI (zuI (zuI τ 11 (zMl f i) (((-16) * ((τ.1 3 (zNx n e)) - (τ.1 3 e))) + (f * ((τ.1 2 (zNx n e)) - (τ.1 2 e))))) 12 (zMl f i) ((16 * ((τ.1 2 (zNx n e)) - (τ.1 2 e))) + (f * ((τ.1 3 (zNx n e)) - (τ.1 3 e))))) 13 (zMl f i) (((8 * (τ.1 2 e)) + ((τ.1 9 i) * ((τ.1 2 (zNx n e)) - (τ.1 2 e)))) * ((16 * ((τ.1 2 (zNx n e)) - (τ.1 2 e))) + (f * ((τ.1 3 (zNx n e)) - (τ.1 3 e)))) - ((8 * (τ.1 3 e)) + ((τ.1 9 i) * ((τ.1 3 (zNx n e)) - (τ.1 3 e)))) * (((-16) * ((τ.1 3 (zNx n e)) - (τ.1 3 e))) + (f * ((τ.1 2 (zNx n e)) - (τ.1 2 e)))))) 10 3 (nI ((zMl f i) + 1))).2.2.2 + zAl 47 → V 143 [(10, .int ((8 * (τ.1 3 e)) + ((τ.1 9 i) * ((τ.1 3 (zNx n e)) - (τ.1 3 e))))), (9, .int ((8 * (τ.1 2 e)) + ((τ.1 9 i) * ((τ.1 2 (zNx n e)) - (τ.1 2 e))))), (8, .int ((τ.1 3 (zNx n e)) - (τ.1 3 e))), (7, .int ((τ.1 2 (zNx n e)) - (τ.1 2 e))), (6, .int (τ.1 9 i)), (5, .int (τ.1 8 i)), (0, .ref 10), (1, .ref 7), (2, .ref 1), (3, .int f), (4, .int (nI i))] (r.toList ++ []) σ')
        refine tadd_ok (zR_of hIt rfl rfl) (m := (zMl f i + 1)) rfl (hm1.2 h_112) (fun _ => ?_)
        refine zq (σ := (zuI (zuI (zuI (zuI (zuI (zuI (zuI (zuI τ 11 (zMl f i) (((-16) * ((τ.1 3 (zNx n e)) - (τ.1 3 e))) + (f * ((τ.1 2 (zNx n e)) - (τ.1 2 e))))) 12 (zMl f i) ((16 * ((τ.1 2 (zNx n e)) - (τ.1 2 e))) + (f * ((τ.1 3 (zNx n e)) - (τ.1 3 e))))) 13 (zMl f i) (((8 * (τ.1 2 e)) + ((τ.1 9 i) * ((τ.1 2 (zNx n e)) - (τ.1 2 e)))) * ((16 * ((τ.1 2 (zNx n e)) - (τ.1 2 e))) + (f * ((τ.1 3 (zNx n e)) - (τ.1 3 e)))) - ((8 * (τ.1 3 e)) + ((τ.1 9 i) * ((τ.1 3 (zNx n e)) - (τ.1 3 e)))) * (((-16) * ((τ.1 3 (zNx n e)) - (τ.1 3 e))) + (f * ((τ.1 2 (zNx n e)) - (τ.1 2 e)))))) 10 3 (nI ((zMl f i) + 1))) 11 (zMl f i + 1) (((-16) * ((τ.1 3 (zNx n e)) - (τ.1 3 e))) - (f * ((τ.1 2 (zNx n e)) - (τ.1 2 e))))) 12 (zMl f i + 1) ((16 * ((τ.1 2 (zNx n e)) - (τ.1 2 e))) - (f * ((τ.1 3 (zNx n e)) - (τ.1 3 e))))) 13 (zMl f i + 1) (((8 * (τ.1 2 e)) + ((τ.1 9 i) * ((τ.1 2 (zNx n e)) - (τ.1 2 e)))) * ((16 * ((τ.1 2 (zNx n e)) - (τ.1 2 e))) - (f * ((τ.1 3 (zNx n e)) - (τ.1 3 e)))) - ((8 * (τ.1 3 e)) + ((τ.1 9 i) * ((τ.1 3 (zNx n e)) - (τ.1 3 e)))) * (((-16) * ((τ.1 3 (zNx n e)) - (τ.1 3 e))) - (f * ((τ.1 2 (zNx n e)) - (τ.1 2 e)))))) 10 3 (nI ((zMl f i + 1) + 1)))) hV hIt hnt 2 ?_
        show V 8 [(4, .int ((nI i) + 1)), (10, .int ((8 * (τ.1 3 e)) + ((τ.1 9 i) * ((τ.1 3 (zNx n e)) - (τ.1 3 e))))), (9, .int ((8 * (τ.1 2 e)) + ((τ.1 9 i) * ((τ.1 2 (zNx n e)) - (τ.1 2 e))))), (8, .int ((τ.1 3 (zNx n e)) - (τ.1 3 e))), (7, .int ((τ.1 2 (zNx n e)) - (τ.1 2 e))), (6, .int (τ.1 9 i)), (5, .int (τ.1 8 i)), (0, .ref 10), (1, .ref 7), (2, .ref 1), (3, .int f)] [] (zuI (zuI (zuI (zuI (zuI (zuI (zuI (zuI τ 11 (zMl f i) (((-16) * ((τ.1 3 (zNx n e)) - (τ.1 3 e))) + (f * ((τ.1 2 (zNx n e)) - (τ.1 2 e))))) 12 (zMl f i) ((16 * ((τ.1 2 (zNx n e)) - (τ.1 2 e))) + (f * ((τ.1 3 (zNx n e)) - (τ.1 3 e))))) 13 (zMl f i) (((8 * (τ.1 2 e)) + ((τ.1 9 i) * ((τ.1 2 (zNx n e)) - (τ.1 2 e)))) * ((16 * ((τ.1 2 (zNx n e)) - (τ.1 2 e))) + (f * ((τ.1 3 (zNx n e)) - (τ.1 3 e)))) - ((8 * (τ.1 3 e)) + ((τ.1 9 i) * ((τ.1 3 (zNx n e)) - (τ.1 3 e)))) * (((-16) * ((τ.1 3 (zNx n e)) - (τ.1 3 e))) + (f * ((τ.1 2 (zNx n e)) - (τ.1 2 e)))))) 10 3 (nI ((zMl f i) + 1))) 11 (zMl f i + 1) (((-16) * ((τ.1 3 (zNx n e)) - (τ.1 3 e))) - (f * ((τ.1 2 (zNx n e)) - (τ.1 2 e))))) 12 (zMl f i + 1) ((16 * ((τ.1 2 (zNx n e)) - (τ.1 2 e))) - (f * ((τ.1 3 (zNx n e)) - (τ.1 3 e))))) 13 (zMl f i + 1) (((8 * (τ.1 2 e)) + ((τ.1 9 i) * ((τ.1 2 (zNx n e)) - (τ.1 2 e)))) * ((16 * ((τ.1 2 (zNx n e)) - (τ.1 2 e))) - (f * ((τ.1 3 (zNx n e)) - (τ.1 3 e)))) - ((8 * (τ.1 3 e)) + ((τ.1 9 i) * ((τ.1 3 (zNx n e)) - (τ.1 3 e)))) * (((-16) * ((τ.1 3 (zNx n e)) - (τ.1 3 e))) - (f * ((τ.1 2 (zNx n e)) - (τ.1 2 e)))))) 10 3 (nI ((zMl f i + 1) + 1)))
        refine zwk hV [7, 8, 9, 10, 0] rfl ?_
        rw [nI_1]
        refine ih (i + 1) _ (by omega) ((((((((ht.uI rfl).uI rfl).uI rfl).uI rfl).uI rfl).uI rfl).uI rfl).uI rfl) ?_ (fun t q => ?_)
        · show nI (zMl f i + 1 + 1) = _
          rw [zMl_1 h_112, zMl_1 h_112]; rfl
        · rw [zMl_1 h_112] at q
          have hs3 := @zT_1 n (σ.1 2) (σ.1 3) f (σ.1 8) (σ.1 9) i e h_112 hZ
          simp only [zuI_get, zMl_1 h_112, hX, hY, hSt]
          by_cases hti : t = 2 * i
          · subst hti; simp [hs3.1.1, hs3.1.2.1, hs3.1.2.2]
          · by_cases hti2 : t = 2 * i + 1
            · subst hti2; simp [hs3.2.1, hs3.2.2.1, hs3.2.2.2]
            · have := hj t (by rw [zMl_1 h_112]; omega); simp [hti, hti2, this.1, this.2.1, this.2.2]
  refine H m 0 _ (by omega) (zOnly.rf.uI rfl) ?_ (fun t q => absurd q (by unfold zMl; split <;> omega))
  show nI 0 = _
  unfold zMl; split <;> rfl
def zPr (A B C : Nat → Int64) (c1 c2 c3 : Int64) (t : Nat) : Int64 := c1 * A t + c2 * B t + c3 * C t
def zBl (A B C : Nat → Int64) (c1 c2 c3 : Int64) : Nat → Bool
  | 0 => false
  | t + 1 => zBl A B C c1 c2 c3 t || decide (zPr A B C c1 c2 c3 t < 0)
def zAb (A B C : Nat → Int64) (c1 c2 c3 : Int64) : Nat → Bool
  | 0 => false
  | t + 1 => zAb A B C c1 c2 c3 t || decide (0 < zPr A B C c1 c2 c3 t)
theorem zBl_mono {A B C : Nat → Int64} {c1 c2 c3 : Int64} {t m : Nat} (h : zBl A B C c1 c2 c3 t = true) (hm : t ≤ m) : zBl A B C c1 c2 c3 m = true := by
  induction m with
  | zero => rw [← Nat.le_zero.mp hm]; exact h
  | succ m ih =>
    by_cases q : t = m + 1
    · rw [← q]; exact h
    · rw [zBl, ih (by omega)]; rfl
theorem zAb_mono {A B C : Nat → Int64} {c1 c2 c3 : Int64} {t m : Nat} (h : zAb A B C c1 c2 c3 t = true) (hm : t ≤ m) : zAb A B C c1 c2 c3 m = true := by
  induction m with
  | zero => rw [← Nat.le_zero.mp hm]; exact h
  | succ m ih =>
    by_cases q : t = m + 1
    · rw [← q]; exact h
    · rw [zAb, ih (by omega)]; rfl
def zsg (b a : Bool) : Int32 := match b, a with
  | false, false => 0
  | true, false => 1
  | false, true => 2
  | true, true => 3
