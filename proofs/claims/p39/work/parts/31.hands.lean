variable {zx : Nat × (Nat → Int32)}
def zfPo (a j : Nat) : Bool := Nat.beq a 1 && Nat.ble 2 j
set_option maxRecDepth 8000 in
set_option maxHeartbeats 4000000 in
theorem close_ok {d : Nat} {σ : zSt} {K : Option Value → zSt → Prop} {n : Nat} (hI : zQI (kR 1 4) σ.2.2) (h10 : n ≤ 10) (hK : ∀ τ, zOnly zfPo σ τ → τ.1 1 2 = nI n → τ.1 1 3 = zAr n (σ.1 2) (σ.1 3) n → τ.1 1 4 = zMx n (σ.1 2) (σ.1 3) n → τ.1 1 5 = zMy n (σ.1 2) (σ.1 3) n → K none τ) : zSp zx (d + 3) mX3_close [.ref 1, .int (nI n)] σ K := by
  refine ⟨⟨by decide, Nat.le_of_ble_eq_true rfl⟩, fun V hV => ?_⟩
  refine zq (σ := σ) hV hI rfl 14 ?_
  show V 22 [(2, .int 0), (0, .ref 1), (1, .int (nI n))] [] (zuI (zuI (zuI (zuI σ 1 2 (nI n)) 1 3 0) 1 4 0) 1 5 0)
  refine zwk hV [1, 2, 0] rfl ?_
  have H : ∀ (m i : Nat) (τ : zSt), i + m = n → zOnly zfPo σ τ → τ.1 1 2 = nI n → τ.1 1 3 = zAr n (σ.1 2) (σ.1 3) i → τ.1 1 4 = zMx n (σ.1 2) (σ.1 3) i → τ.1 1 5 = zMy n (σ.1 2) (σ.1 3) i → V 22 [(0, .ref 1), (1, .int (nI n)), (2, .int (nI i))] [] τ := by
    intro m
    induction m with
    | zero =>
      intro i τ hin ht hn h3 h4 h5
      have hIt := zQI_eq hI ht.2.2
      have hnt : τ.2.2.2 = σ.2.2.2 := congrArg Prod.snd ht.2.2
      refine zq (σ := τ) hV hIt hnt 3 ?_
      show ((nI n) ≤ (nI i) → V 121 [(0, .ref 1), (1, .int (nI n)), (2, .int (nI i))] [] τ) ∧ (¬ (nI n) ≤ (nI i) → V 27 [(0, .ref 1), (1, .int (nI n)), (2, .int (nI i))] [] τ)
      refine ⟨fun _ => ?_, fun hc => absurd (show nI n ≤ nI i by rw [show i = n by omega]; exact Int32.le_refl _) hc⟩
      refine zq (σ := τ) hV hIt hnt 1 ?_
      show K none τ
      obtain rfl : i = n := by omega
      exact hK τ ht hn h3 h4 h5
    | succ m ih =>
      intro i τ hin ht hn h3 h4 h5
      have hIt := zQI_eq hI ht.2.2
      have hnt : τ.2.2.2 = σ.2.2.2 := congrArg Prod.snd ht.2.2
      have hin2 : i < n := by omega
      have hj := zNx_lt hin2
      have hX : τ.1 2 = σ.1 2 := funext fun j => ht.1 2 j rfl
      have hY : τ.1 3 = σ.1 3 := funext fun j => ht.1 3 j rfl
      refine zq (σ := τ) hV hIt hnt 3 ?_
      show ((nI n) ≤ (nI i) → V 121 [(0, .ref 1), (1, .int (nI n)), (2, .int (nI i))] [] τ) ∧ (¬ (nI n) ≤ (nI i) → V 27 [(0, .ref 1), (1, .int (nI n)), (2, .int (nI i))] [] τ)
      refine ⟨fun hc => absurd hc (show ¬ nI n ≤ nI i from nI_ge hin2 (by omega)), fun _ => ?_⟩
      refine zq (σ := τ) hV hIt hnt 3 ?_
      show zSp _ _ 20 [.ref 1, .int (nI i)] τ (fun r σ' => σ'.2.2.2 = τ.2.2.2 + zAl 20 → V 32 [(0, .ref 1), (1, .int (nI n)), (2, .int (nI i))] (r.toList ++ []) σ')
      refine next_ok (zR_of hIt rfl rfl) hn (by omega) rfl (by omega) (fun _ => ?_)
      refine zq (σ := τ) hV hIt hnt 4 ?_
      show zSp _ _ 18 [.ref 1, .int (nI i)] τ (fun r σ' => σ'.2.2.2 = τ.2.2.2 + zAl 18 → V 38 [(3, .int (nI (zNx n i))), (0, .ref 1), (1, .int (nI n)), (2, .int (nI i))] (r.toList ++ []) σ')
      refine x_ok (zR_of hIt rfl rfl) rfl (by omega) (fun _ => ?_)
      refine zq (σ := τ) hV hIt hnt 3 ?_
      show zSp _ _ 19 [.ref 1, .int (nI (zNx n i))] τ (fun r σ' => σ'.2.2.2 = τ.2.2.2 + zAl 19 → V 43 [(3, .int (nI (zNx n i))), (0, .ref 1), (1, .int (nI n)), (2, .int (nI i))] (r.toList ++ [.int (τ.1 2 i)]) σ')
      refine y_ok (zR_of hIt rfl rfl) rfl (by omega) (fun _ => ?_)
      refine zq (σ := τ) hV hIt hnt 4 ?_
      show zSp _ _ 19 [.ref 1, .int (nI i)] τ (fun r σ' => σ'.2.2.2 = τ.2.2.2 + zAl 19 → V 49 [(3, .int (nI (zNx n i))), (0, .ref 1), (1, .int (nI n)), (2, .int (nI i))] (r.toList ++ [.int ((τ.1 2 i) * (τ.1 3 (zNx n i)))]) σ')
      refine y_ok (zR_of hIt rfl rfl) rfl (by omega) (fun _ => ?_)
      refine zq (σ := τ) hV hIt hnt 3 ?_
      show zSp _ _ 18 [.ref 1, .int (nI (zNx n i))] τ (fun r σ' => σ'.2.2.2 = τ.2.2.2 + zAl 18 → V 54 [(3, .int (nI (zNx n i))), (0, .ref 1), (1, .int (nI n)), (2, .int (nI i))] (r.toList ++ [.int (τ.1 3 i), .int ((τ.1 2 i) * (τ.1 3 (zNx n i)))]) σ')
      refine x_ok (zR_of hIt rfl rfl) rfl (by omega) (fun _ => ?_)
      refine zq (σ := τ) hV hIt hnt 15 ?_
      show zSp _ _ 18 [.ref 1, .int (nI i)] (zuI τ 1 3 ((τ.1 1 3) + (((τ.1 2 i) * (τ.1 3 (zNx n i))) - ((τ.1 3 i) * (τ.1 2 (zNx n i)))))) (fun r σ' => σ'.2.2.2 = (zuI τ 1 3 ((τ.1 1 3) + (((τ.1 2 i) * (τ.1 3 (zNx n i))) - ((τ.1 3 i) * (τ.1 2 (zNx n i)))))).2.2.2 + zAl 18 → V 79 [(4, .int (((τ.1 2 i) * (τ.1 3 (zNx n i))) - ((τ.1 3 i) * (τ.1 2 (zNx n i))))), (3, .int (nI (zNx n i))), (0, .ref 1), (1, .int (nI n)), (2, .int (nI i))] (r.toList ++ [.int (τ.1 1 4), .ref 1]) σ')
      refine x_ok (zR_of hIt rfl rfl) rfl (by omega) (fun _ => ?_)
      refine zq (σ := (zuI τ 1 3 ((τ.1 1 3) + (((τ.1 2 i) * (τ.1 3 (zNx n i))) - ((τ.1 3 i) * (τ.1 2 (zNx n i))))))) hV hIt hnt 3 ?_
      show zSp _ _ 18 [.ref 1, .int (nI (zNx n i))] (zuI τ 1 3 ((τ.1 1 3) + (((τ.1 2 i) * (τ.1 3 (zNx n i))) - ((τ.1 3 i) * (τ.1 2 (zNx n i)))))) (fun r σ' => σ'.2.2.2 = (zuI τ 1 3 ((τ.1 1 3) + (((τ.1 2 i) * (τ.1 3 (zNx n i))) - ((τ.1 3 i) * (τ.1 2 (zNx n i)))))).2.2.2 + zAl 18 → V 84 [(4, .int (((τ.1 2 i) * (τ.1 3 (zNx n i))) - ((τ.1 3 i) * (τ.1 2 (zNx n i))))), (3, .int (nI (zNx n i))), (0, .ref 1), (1, .int (nI n)), (2, .int (nI i))] (r.toList ++ [.int (τ.1 2 i), .int (τ.1 1 4), .ref 1]) σ')
      refine x_ok (zR_of hIt rfl rfl) rfl (by omega) (fun _ => ?_)
      refine zq (σ := (zuI τ 1 3 ((τ.1 1 3) + (((τ.1 2 i) * (τ.1 3 (zNx n i))) - ((τ.1 3 i) * (τ.1 2 (zNx n i))))))) hV hIt hnt 11 ?_
      show zSp _ _ 19 [.ref 1, .int (nI i)] (zuI (zuI τ 1 3 ((τ.1 1 3) + (((τ.1 2 i) * (τ.1 3 (zNx n i))) - ((τ.1 3 i) * (τ.1 2 (zNx n i)))))) 1 4 ((τ.1 1 4) + (((τ.1 2 i) + (τ.1 2 (zNx n i))) * (((τ.1 2 i) * (τ.1 3 (zNx n i))) - ((τ.1 3 i) * (τ.1 2 (zNx n i))))))) (fun r σ' => σ'.2.2.2 = (zuI (zuI τ 1 3 ((τ.1 1 3) + (((τ.1 2 i) * (τ.1 3 (zNx n i))) - ((τ.1 3 i) * (τ.1 2 (zNx n i)))))) 1 4 ((τ.1 1 4) + (((τ.1 2 i) + (τ.1 2 (zNx n i))) * (((τ.1 2 i) * (τ.1 3 (zNx n i))) - ((τ.1 3 i) * (τ.1 2 (zNx n i))))))).2.2.2 + zAl 19 → V 102 [(4, .int (((τ.1 2 i) * (τ.1 3 (zNx n i))) - ((τ.1 3 i) * (τ.1 2 (zNx n i))))), (3, .int (nI (zNx n i))), (0, .ref 1), (1, .int (nI n)), (2, .int (nI i))] (r.toList ++ [.int (τ.1 1 5), .ref 1]) σ')
      refine y_ok (zR_of hIt rfl rfl) rfl (by omega) (fun _ => ?_)
      refine zq (σ := (zuI (zuI τ 1 3 ((τ.1 1 3) + (((τ.1 2 i) * (τ.1 3 (zNx n i))) - ((τ.1 3 i) * (τ.1 2 (zNx n i)))))) 1 4 ((τ.1 1 4) + (((τ.1 2 i) + (τ.1 2 (zNx n i))) * (((τ.1 2 i) * (τ.1 3 (zNx n i))) - ((τ.1 3 i) * (τ.1 2 (zNx n i)))))))) hV hIt hnt 3 ?_
      show zSp _ _ 19 [.ref 1, .int (nI (zNx n i))] (zuI (zuI τ 1 3 ((τ.1 1 3) + (((τ.1 2 i) * (τ.1 3 (zNx n i))) - ((τ.1 3 i) * (τ.1 2 (zNx n i)))))) 1 4 ((τ.1 1 4) + (((τ.1 2 i) + (τ.1 2 (zNx n i))) * (((τ.1 2 i) * (τ.1 3 (zNx n i))) - ((τ.1 3 i) * (τ.1 2 (zNx n i))))))) (fun r σ' => σ'.2.2.2 = (zuI (zuI τ 1 3 ((τ.1 1 3) + (((τ.1 2 i) * (τ.1 3 (zNx n i))) - ((τ.1 3 i) * (τ.1 2 (zNx n i)))))) 1 4 ((τ.1 1 4) + (((τ.1 2 i) + (τ.1 2 (zNx n i))) * (((τ.1 2 i) * (τ.1 3 (zNx n i))) - ((τ.1 3 i) * (τ.1 2 (zNx n i))))))).2.2.2 + zAl 19 → V 107 [(4, .int (((τ.1 2 i) * (τ.1 3 (zNx n i))) - ((τ.1 3 i) * (τ.1 2 (zNx n i))))), (3, .int (nI (zNx n i))), (0, .ref 1), (1, .int (nI n)), (2, .int (nI i))] (r.toList ++ [.int (τ.1 3 i), .int (τ.1 1 5), .ref 1]) σ')
      refine y_ok (zR_of hIt rfl rfl) rfl (by omega) (fun _ => ?_)
      refine zq (σ := (zuI (zuI τ 1 3 ((τ.1 1 3) + (((τ.1 2 i) * (τ.1 3 (zNx n i))) - ((τ.1 3 i) * (τ.1 2 (zNx n i)))))) 1 4 ((τ.1 1 4) + (((τ.1 2 i) + (τ.1 2 (zNx n i))) * (((τ.1 2 i) * (τ.1 3 (zNx n i))) - ((τ.1 3 i) * (τ.1 2 (zNx n i)))))))) hV hIt hnt 7 ?_
      show V 22 [(2, .int ((nI i) + 1)), (4, .int (((τ.1 2 i) * (τ.1 3 (zNx n i))) - ((τ.1 3 i) * (τ.1 2 (zNx n i))))), (3, .int (nI (zNx n i))), (0, .ref 1), (1, .int (nI n))] [] (zuI (zuI (zuI τ 1 3 ((τ.1 1 3) + (((τ.1 2 i) * (τ.1 3 (zNx n i))) - ((τ.1 3 i) * (τ.1 2 (zNx n i)))))) 1 4 ((τ.1 1 4) + (((τ.1 2 i) + (τ.1 2 (zNx n i))) * (((τ.1 2 i) * (τ.1 3 (zNx n i))) - ((τ.1 3 i) * (τ.1 2 (zNx n i))))))) 1 5 ((τ.1 1 5) + (((τ.1 3 i) + (τ.1 3 (zNx n i))) * (((τ.1 2 i) * (τ.1 3 (zNx n i))) - ((τ.1 3 i) * (τ.1 2 (zNx n i)))))))
      refine zwk hV [3, 4, 0] rfl ?_
      rw [nI_1]
      refine ih (i + 1) _ (by omega) (((ht.uI rfl).uI rfl).uI rfl) hn ?_ ?_ ?_
      · rw [zAr, ← h3]; simp only [zTu, ← hX, ← hY]; rfl
      · rw [zMx, ← h4]; simp only [zTu, ← hX, ← hY]; rfl
      · rw [zMy, ← h5]; simp only [zTu, ← hX, ← hY]; rfl
  refine H n 0 _ (by omega) ?_ rfl rfl rfl rfl
  exact (((zOnly.rf.uI rfl).uI rfl).uI rfl).uI rfl
set_option maxRecDepth 8000 in
set_option maxHeartbeats 4000000 in
theorem hsize_4 {d : Nat} {σ : zSt} {K : Option Value → zSt → Prop} (hI : zQI (kR 4 7) σ.2.2) (hK : K (some (.int (σ.1 4 2))) σ) : zSp zx (d + 1) mX2_size [.ref 4] σ K := by
  refine ⟨⟨by decide, Nat.le_of_ble_eq_true rfl⟩, fun V hV => ?_⟩
  refine zq (σ := σ) hV hI rfl 3 ?_
  show K (some (.int (σ.1 4 2))) σ
  exact hK
set_option maxRecDepth 8000 in
set_option maxHeartbeats 4000000 in
theorem hedge_4 {d : Nat} {σ : zSt} {K : Option Value → zSt → Prop} {i : Int32} {k : Nat} (hI : zQI (kR 4 7) σ.2.2) (e : i = nI k) (hk : k < 8) (hK : K (some (.int (σ.1 5 k))) σ) : zSp zx (d + 2) mX2_edge [.ref 4, .int i] σ K := by
  refine ⟨⟨by decide, Nat.le_of_ble_eq_true rfl⟩, fun V hV => ?_⟩
  subst e
  refine zq (σ := σ) hV hI rfl 4 ?_
  show zSp _ _ 79 [.ref 5, .int (nI k)] σ (fun r σ' => σ'.2.2.2 = σ.2.2.2 + zAl 79 → V 8 [(0, .ref 4), (1, .int (nI k))] (r.toList ++ []) σ')
  refine item_5 (zA_of hI rfl) rfl (by omega) (fun _ => ?_)
  refine zq (σ := σ) hV hI rfl 1 ?_
  show K (some (.int (σ.1 5 k))) σ
  exact hK
set_option maxRecDepth 8000 in
set_option maxHeartbeats 4000000 in
theorem heighth_4 {d : Nat} {σ : zSt} {K : Option Value → zSt → Prop} {i : Int32} {k : Nat} (hI : zQI (kR 4 7) σ.2.2) (e : i = nI k) (hk : k < 8) (hK : K (some (.int (σ.1 6 k))) σ) : zSp zx (d + 2) mX2_eighth [.ref 4, .int i] σ K := by
  refine ⟨⟨by decide, Nat.le_of_ble_eq_true rfl⟩, fun V hV => ?_⟩
  subst e
  refine zq (σ := σ) hV hI rfl 4 ?_
  show zSp _ _ 79 [.ref 6, .int (nI k)] σ (fun r σ' => σ'.2.2.2 = σ.2.2.2 + zAl 79 → V 8 [(0, .ref 4), (1, .int (nI k))] (r.toList ++ []) σ')
  refine item_6 (zA_of hI rfl) rfl (by omega) (fun _ => ?_)
  refine zq (σ := σ) hV hI rfl 1 ?_
  show K (some (.int (σ.1 6 k))) σ
  exact hK
set_option maxRecDepth 8000 in
set_option maxHeartbeats 4000000 in
theorem hclear_4 {d : Nat} {σ : zSt} {K : Option Value → zSt → Prop} (hI : zQI (kR 4 7) σ.2.2) (hK : K none (zuI σ 4 2 0)) : zSp zx (d + 1) mX2_clear [.ref 4] σ K := by
  refine ⟨⟨by decide, Nat.le_of_ble_eq_true rfl⟩, fun V hV => ?_⟩
  refine zq (σ := σ) hV hI rfl 4 ?_
  show K none (zuI σ 4 2 0)
  exact hK
set_option maxRecDepth 8000 in
set_option maxHeartbeats 4000000 in
theorem hstand_4 {d : Nat} {σ : zSt} {K : Option Value → zSt → Prop} {i ed s : Int32} {k : Nat} (hI : zQI (kR 4 7) σ.2.2) (e : i = nI k) (hk : k < 8) (hK : K none (zuI (zuI σ 5 k ed) 6 k s)) : zSp zx (d + 2) mX2_stand [.ref 4, .int i, .int ed, .int s] σ K := by
  refine ⟨⟨by decide, Nat.le_of_ble_eq_true rfl⟩, fun V hV => ?_⟩
  subst e
  refine zq (σ := σ) hV hI rfl 5 ?_
  show zSp _ _ 80 [.ref 5, .int (nI k), .int ed] σ (fun r σ' => σ'.2.2.2 = σ.2.2.2 + zAl 80 → V 9 [(0, .ref 4), (1, .int (nI k)), (2, .int ed), (3, .int s)] (r.toList ++ []) σ')
  refine setItem_5 (zA_of hI rfl) rfl (by omega) (fun _ => ?_)
  refine zq (σ := (zuI σ 5 k ed)) hV hI rfl 5 ?_
  show zSp _ _ 80 [.ref 6, .int (nI k), .int s] (zuI σ 5 k ed) (fun r σ' => σ'.2.2.2 = (zuI σ 5 k ed).2.2.2 + zAl 80 → V 18 [(0, .ref 4), (1, .int (nI k)), (2, .int ed), (3, .int s)] (r.toList ++ []) σ')
  refine setItem_6 (zA_of hI rfl) rfl (by omega) (fun _ => ?_)
  refine zq (σ := (zuI (zuI σ 5 k ed) 6 k s)) hV hI rfl 1 ?_
  show K none (zuI (zuI σ 5 k ed) 6 k s)
  exact hK
set_option maxRecDepth 8000 in
set_option maxHeartbeats 4000000 in
theorem hadd_4 {d : Nat} {σ : zSt} {K : Option Value → zSt → Prop} {ed s : Int32} {m : Nat} (hI : zQI (kR 4 7) σ.2.2) (hs : σ.1 4 2 = nI m) (hm : m < 8) (hK : K none (zuI (zuI (zuI σ 5 m ed) 6 m s) 4 2 (nI (m + 1)))) : zSp zx (d + 3) mX2_add [.ref 4, .int ed, .int s] σ K := by
  refine ⟨⟨by decide, Nat.le_of_ble_eq_true rfl⟩, fun V hV => ?_⟩
  refine zq (σ := σ) hV hI rfl 6 ?_
  show zSp _ _ 11 [.ref 4, .int (σ.1 4 2), .int ed, .int s] σ (fun r σ' => σ'.2.2.2 = σ.2.2.2 + zAl 11 → V 10 [(0, .ref 4), (1, .int ed), (2, .int s)] (r.toList ++ []) σ')
  refine hstand_4 (zR_of hI rfl rfl) hs (by omega) (fun _ => ?_)
  refine zq (σ := (zuI (zuI σ 5 m ed) 6 m s)) hV hI rfl 7 ?_
  show K none (zuI (zuI (zuI σ 5 m ed) 6 m s) 4 2 ((σ.1 4 2) + 1))
  rw [show (σ.1 4 2) + 1 = nI (m + 1) by rw [hs, nI_1]]
  exact hK
set_option maxRecDepth 8000 in
set_option maxHeartbeats 4000000 in
theorem hsize_7 {d : Nat} {σ : zSt} {K : Option Value → zSt → Prop} (hI : zQI (kR 7 10) σ.2.2) (hK : K (some (.int (σ.1 7 2))) σ) : zSp zx (d + 1) mX2_size [.ref 7] σ K := by
  refine ⟨⟨by decide, Nat.le_of_ble_eq_true rfl⟩, fun V hV => ?_⟩
  refine zq (σ := σ) hV hI rfl 3 ?_
  show K (some (.int (σ.1 7 2))) σ
  exact hK
set_option maxRecDepth 8000 in
set_option maxHeartbeats 4000000 in
theorem hedge_7 {d : Nat} {σ : zSt} {K : Option Value → zSt → Prop} {i : Int32} {k : Nat} (hI : zQI (kR 7 10) σ.2.2) (e : i = nI k) (hk : k < 8) (hK : K (some (.int (σ.1 8 k))) σ) : zSp zx (d + 2) mX2_edge [.ref 7, .int i] σ K := by
  refine ⟨⟨by decide, Nat.le_of_ble_eq_true rfl⟩, fun V hV => ?_⟩
  subst e
  refine zq (σ := σ) hV hI rfl 4 ?_
  show zSp _ _ 79 [.ref 8, .int (nI k)] σ (fun r σ' => σ'.2.2.2 = σ.2.2.2 + zAl 79 → V 8 [(0, .ref 7), (1, .int (nI k))] (r.toList ++ []) σ')
  refine item_8 (zA_of hI rfl) rfl (by omega) (fun _ => ?_)
  refine zq (σ := σ) hV hI rfl 1 ?_
  show K (some (.int (σ.1 8 k))) σ
  exact hK
set_option maxRecDepth 8000 in
set_option maxHeartbeats 4000000 in
theorem heighth_7 {d : Nat} {σ : zSt} {K : Option Value → zSt → Prop} {i : Int32} {k : Nat} (hI : zQI (kR 7 10) σ.2.2) (e : i = nI k) (hk : k < 8) (hK : K (some (.int (σ.1 9 k))) σ) : zSp zx (d + 2) mX2_eighth [.ref 7, .int i] σ K := by
  refine ⟨⟨by decide, Nat.le_of_ble_eq_true rfl⟩, fun V hV => ?_⟩
  subst e
  refine zq (σ := σ) hV hI rfl 4 ?_
  show zSp _ _ 79 [.ref 9, .int (nI k)] σ (fun r σ' => σ'.2.2.2 = σ.2.2.2 + zAl 79 → V 8 [(0, .ref 7), (1, .int (nI k))] (r.toList ++ []) σ')
  refine item_9 (zA_of hI rfl) rfl (by omega) (fun _ => ?_)
  refine zq (σ := σ) hV hI rfl 1 ?_
  show K (some (.int (σ.1 9 k))) σ
  exact hK
set_option maxRecDepth 8000 in
set_option maxHeartbeats 4000000 in
theorem hclear_7 {d : Nat} {σ : zSt} {K : Option Value → zSt → Prop} (hI : zQI (kR 7 10) σ.2.2) (hK : K none (zuI σ 7 2 0)) : zSp zx (d + 1) mX2_clear [.ref 7] σ K := by
  refine ⟨⟨by decide, Nat.le_of_ble_eq_true rfl⟩, fun V hV => ?_⟩
  refine zq (σ := σ) hV hI rfl 4 ?_
  show K none (zuI σ 7 2 0)
  exact hK
set_option maxRecDepth 8000 in
set_option maxHeartbeats 4000000 in
theorem hstand_7 {d : Nat} {σ : zSt} {K : Option Value → zSt → Prop} {i ed s : Int32} {k : Nat} (hI : zQI (kR 7 10) σ.2.2) (e : i = nI k) (hk : k < 8) (hK : K none (zuI (zuI σ 8 k ed) 9 k s)) : zSp zx (d + 2) mX2_stand [.ref 7, .int i, .int ed, .int s] σ K := by
  refine ⟨⟨by decide, Nat.le_of_ble_eq_true rfl⟩, fun V hV => ?_⟩
  subst e
  refine zq (σ := σ) hV hI rfl 5 ?_
  show zSp _ _ 80 [.ref 8, .int (nI k), .int ed] σ (fun r σ' => σ'.2.2.2 = σ.2.2.2 + zAl 80 → V 9 [(0, .ref 7), (1, .int (nI k)), (2, .int ed), (3, .int s)] (r.toList ++ []) σ')
  refine setItem_8 (zA_of hI rfl) rfl (by omega) (fun _ => ?_)
  refine zq (σ := (zuI σ 8 k ed)) hV hI rfl 5 ?_
  show zSp _ _ 80 [.ref 9, .int (nI k), .int s] (zuI σ 8 k ed) (fun r σ' => σ'.2.2.2 = (zuI σ 8 k ed).2.2.2 + zAl 80 → V 18 [(0, .ref 7), (1, .int (nI k)), (2, .int ed), (3, .int s)] (r.toList ++ []) σ')
  refine setItem_9 (zA_of hI rfl) rfl (by omega) (fun _ => ?_)
  refine zq (σ := (zuI (zuI σ 8 k ed) 9 k s)) hV hI rfl 1 ?_
  show K none (zuI (zuI σ 8 k ed) 9 k s)
  exact hK
set_option maxRecDepth 8000 in
set_option maxHeartbeats 4000000 in
theorem hadd_7 {d : Nat} {σ : zSt} {K : Option Value → zSt → Prop} {ed s : Int32} {m : Nat} (hI : zQI (kR 7 10) σ.2.2) (hs : σ.1 7 2 = nI m) (hm : m < 8) (hK : K none (zuI (zuI (zuI σ 8 m ed) 9 m s) 7 2 (nI (m + 1)))) : zSp zx (d + 3) mX2_add [.ref 7, .int ed, .int s] σ K := by
  refine ⟨⟨by decide, Nat.le_of_ble_eq_true rfl⟩, fun V hV => ?_⟩
  refine zq (σ := σ) hV hI rfl 6 ?_
  show zSp _ _ 11 [.ref 7, .int (σ.1 7 2), .int ed, .int s] σ (fun r σ' => σ'.2.2.2 = σ.2.2.2 + zAl 11 → V 10 [(0, .ref 7), (1, .int ed), (2, .int s)] (r.toList ++ []) σ')
  refine hstand_7 (zR_of hI rfl rfl) hs (by omega) (fun _ => ?_)
  refine zq (σ := (zuI (zuI σ 8 m ed) 9 m s)) hV hI rfl 7 ?_
  show K none (zuI (zuI (zuI σ 8 m ed) 9 m s) 7 2 ((σ.1 7 2) + 1))
  rw [show (σ.1 7 2) + 1 = nI (m + 1) by rw [hs, nI_1]]
  exact hK
def zf7 (a _ : Nat) : Bool := Nat.ble 7 a && Nat.ble a 9
set_option maxRecDepth 8000 in
set_option maxHeartbeats 4000000 in
theorem become_ok {d : Nat} {σ : zSt} {K : Option Value → zSt → Prop} {n : Nat} (hI : zQI (kR 4 10) σ.2.2) (hs : σ.1 4 2 = nI n) (h8 : n ≤ 8) (hK : ∀ τ, zOnly zf7 σ τ → τ.1 7 2 = nI n → (∀ j, j < n → τ.1 8 j = σ.1 5 j ∧ τ.1 9 j = σ.1 6 j) → K none τ) : zSp zx (d + 4) mX2_become [.ref 7, .ref 4] σ K := by
  refine ⟨⟨by decide, Nat.le_of_ble_eq_true rfl⟩, fun V hV => ?_⟩
  refine zq (σ := σ) hV hI rfl 2 ?_
  show zSp _ _ 9 [.ref 7] σ (fun r σ' => σ'.2.2.2 = σ.2.2.2 + zAl 9 → V 4 [(0, .ref 7), (1, .ref 4)] (r.toList ++ []) σ')
  refine hclear_7 (zR_of hI rfl rfl) (fun _ => ?_)
  refine zq (σ := (zuI σ 7 2 0)) hV hI rfl 2 ?_
  show V 6 [(2, .int 0), (0, .ref 7), (1, .ref 4)] [] (zuI σ 7 2 0)
  refine zwk hV [1, 2, 0] rfl ?_
  have H : ∀ (m i : Nat) (τ : zSt), i + m = n → zOnly zf7 σ τ → τ.1 7 2 = nI i → (∀ j, j < i → τ.1 8 j = σ.1 5 j ∧ τ.1 9 j = σ.1 6 j) → V 6 [(0, .ref 7), (1, .ref 4), (2, .int (nI i))] [] τ := by
    intro m
    induction m with
    | zero =>
      intro i τ hin ht h7 hj
      have hIt := zQI_eq hI ht.2.2
      have hnt : τ.2.2.2 = σ.2.2.2 := congrArg Prod.snd ht.2.2
      have h4 : τ.1 4 2 = nI n := (ht.1 4 2 rfl).trans hs
      refine zq (σ := τ) hV hIt hnt 3 ?_
      show zSp _ _ 6 [.ref 4] τ (fun r σ' => σ'.2.2.2 = τ.2.2.2 + zAl 6 → V 11 [(0, .ref 7), (1, .ref 4), (2, .int (nI i))] (r.toList ++ [.int (nI i)]) σ')
      refine hsize_4 (zR_of hIt rfl rfl) (fun _ => ?_)
      refine zq (σ := τ) hV hIt hnt 1 ?_
      show ((τ.1 4 2) ≤ (nI i) → V 34 [(0, .ref 7), (1, .ref 4), (2, .int (nI i))] [] τ) ∧ (¬ (τ.1 4 2) ≤ (nI i) → V 14 [(0, .ref 7), (1, .ref 4), (2, .int (nI i))] [] τ)
      refine ⟨fun _ => ?_, fun hc => absurd (show τ.1 4 2 ≤ nI i by rw [h4, show i = n by omega]; exact Int32.le_refl _) hc⟩
      refine zq (σ := τ) hV hIt hnt 1 ?_
      show K none τ
      obtain rfl : i = n := by omega
      exact hK τ ht h7 hj
    | succ m ih =>
      intro i τ hin ht h7 hj
      have hIt := zQI_eq hI ht.2.2
      have hnt : τ.2.2.2 = σ.2.2.2 := congrArg Prod.snd ht.2.2
      have h4 : τ.1 4 2 = nI n := (ht.1 4 2 rfl).trans hs
      refine zq (σ := τ) hV hIt hnt 3 ?_
      show zSp _ _ 6 [.ref 4] τ (fun r σ' => σ'.2.2.2 = τ.2.2.2 + zAl 6 → V 11 [(0, .ref 7), (1, .ref 4), (2, .int (nI i))] (r.toList ++ [.int (nI i)]) σ')
      refine hsize_4 (zR_of hIt rfl rfl) (fun _ => ?_)
      refine zq (σ := τ) hV hIt hnt 1 ?_
      show ((τ.1 4 2) ≤ (nI i) → V 34 [(0, .ref 7), (1, .ref 4), (2, .int (nI i))] [] τ) ∧ (¬ (τ.1 4 2) ≤ (nI i) → V 14 [(0, .ref 7), (1, .ref 4), (2, .int (nI i))] [] τ)
      refine ⟨fun hc => absurd hc (show ¬ τ.1 4 2 ≤ nI i by rw [h4]; exact nI_ge (by omega) (by omega)), fun _ => ?_⟩
      refine zq (σ := τ) hV hIt hnt 4 ?_
      show zSp _ _ 7 [.ref 4, .int (nI i)] τ (fun r σ' => σ'.2.2.2 = τ.2.2.2 + zAl 7 → V 20 [(0, .ref 7), (1, .ref 4), (2, .int (nI i))] (r.toList ++ [.ref 7]) σ')
      refine hedge_4 (zR_of hIt rfl rfl) rfl (by omega) (fun _ => ?_)
      refine zq (σ := τ) hV hIt hnt 3 ?_
      show zSp _ _ 8 [.ref 4, .int (nI i)] τ (fun r σ' => σ'.2.2.2 = τ.2.2.2 + zAl 8 → V 25 [(0, .ref 7), (1, .ref 4), (2, .int (nI i))] (r.toList ++ [.int (τ.1 5 i), .ref 7]) σ')
      refine heighth_4 (zR_of hIt rfl rfl) rfl (by omega) (fun _ => ?_)
      refine zq (σ := τ) hV hIt hnt 1 ?_
      show zSp _ _ 10 [.ref 7, .int (τ.1 5 i), .int (τ.1 6 i)] τ (fun r σ' => σ'.2.2.2 = τ.2.2.2 + zAl 10 → V 28 [(0, .ref 7), (1, .ref 4), (2, .int (nI i))] (r.toList ++ []) σ')
      refine hadd_7 (zR_of hIt rfl rfl) (m := i) h7 (by omega) (fun _ => ?_)
      refine zq (σ := (zuI (zuI (zuI τ 8 i (τ.1 5 i)) 9 i (τ.1 6 i)) 7 2 (nI (i + 1)))) hV hIt hnt 2 ?_
      show V 6 [(2, .int ((nI i) + 1)), (0, .ref 7), (1, .ref 4)] [] (zuI (zuI (zuI τ 8 i (τ.1 5 i)) 9 i (τ.1 6 i)) 7 2 (nI (i + 1)))
      refine zwk hV [1, 2, 0] rfl ?_
      rw [nI_1]
      refine ih (i + 1) _ (by omega) (((ht.uI rfl).uI rfl).uI rfl) rfl (fun j q => ?_)
      have e5 := ht.1 5 i rfl
      have e6 := ht.1 6 i rfl
      simp only [zuI_get]
      by_cases hji : j = i
      · subst hji; simp [e5, e6]
      · have := hj j (by omega); simp [hji, this]
  refine H n 0 _ (by omega) (zOnly.rf.uI rfl) rfl (fun j q => absurd q (Nat.not_lt_zero j))
set_option maxRecDepth 8000 in
set_option maxHeartbeats 4000000 in
theorem tsize_ok {d : Nat} {σ : zSt} {K : Option Value → zSt → Prop} (hI : zQI (kR 10 14) σ.2.2) (hK : K (some (.int (σ.1 10 3))) σ) : zSp zx (d + 1) mX7_size [.ref 10] σ K := by
  refine ⟨⟨by decide, Nat.le_of_ble_eq_true rfl⟩, fun V hV => ?_⟩
  refine zq (σ := σ) hV hI rfl 3 ?_
  show K (some (.int (σ.1 10 3))) σ
  exact hK
set_option maxRecDepth 8000 in
set_option maxHeartbeats 4000000 in
theorem tadd_ok {d : Nat} {σ : zSt} {K : Option Value → zSt → Prop} {x y pp q : Int32} {m : Nat} (hI : zQI (kR 10 14) σ.2.2) (hs : σ.1 10 3 = nI m) (hm : m < 16) (hK : K none (zuI (zuI (zuI (zuI σ 11 m pp) 12 m q) 13 m (x * q - y * pp)) 10 3 (nI (m + 1)))) : zSp zx (d + 2) mX7_add [.ref 10, .int x, .int y, .int pp, .int q] σ K := by
  refine ⟨⟨by decide, Nat.le_of_ble_eq_true rfl⟩, fun V hV => ?_⟩
  refine zq (σ := σ) hV hI rfl 6 ?_
  show zSp _ _ 80 [.ref 11, .int (σ.1 10 3), .int pp] σ (fun r σ' => σ'.2.2.2 = σ.2.2.2 + zAl 80 → V 12 [(0, .ref 10), (1, .int x), (2, .int y), (3, .int pp), (4, .int q)] (r.toList ++ []) σ')
  refine setItem_11 (zA_of hI rfl) hs (by omega) (fun _ => ?_)
  refine zq (σ := (zuI σ 11 m pp)) hV hI rfl 6 ?_
  show zSp _ _ 80 [.ref 12, .int (σ.1 10 3), .int q] (zuI σ 11 m pp) (fun r σ' => σ'.2.2.2 = (zuI σ 11 m pp).2.2.2 + zAl 80 → V 25 [(0, .ref 10), (1, .int x), (2, .int y), (3, .int pp), (4, .int q)] (r.toList ++ []) σ')
  refine setItem_12 (zA_of hI rfl) hs (by omega) (fun _ => ?_)
  refine zq (σ := (zuI (zuI σ 11 m pp) 12 m q)) hV hI rfl 12 ?_
  show zSp _ _ 80 [.ref 13, .int (σ.1 10 3), .int ((x * q) - (y * pp))] (zuI (zuI σ 11 m pp) 12 m q) (fun r σ' => σ'.2.2.2 = (zuI (zuI σ 11 m pp) 12 m q).2.2.2 + zAl 80 → V 44 [(0, .ref 10), (1, .int x), (2, .int y), (3, .int pp), (4, .int q)] (r.toList ++ []) σ')
  refine setItem_13 (zA_of hI rfl) hs (by omega) (fun _ => ?_)
  refine zq (σ := (zuI (zuI (zuI σ 11 m pp) 12 m q) 13 m ((x * q) - (y * pp)))) hV hI rfl 7 ?_
  show K none (zuI (zuI (zuI (zuI σ 11 m pp) 12 m q) 13 m ((x * q) - (y * pp))) 10 3 ((σ.1 10 3) + 1))
  rw [show (σ.1 10 3) + 1 = nI (m + 1) by rw [hs, nI_1]]
  exact hK
set_option maxRecDepth 8000 in
set_option maxHeartbeats 4000000 in
theorem tpart_ok {d : Nat} {σ : zSt} {K : Option Value → zSt → Prop} {t w : Int32} {k : Nat} (hI : zQI (kR 10 14) σ.2.2) (e : t = nI k) (hk : k < 16) (hK : K (some (.int (if w = 0 then σ.1 11 k else if w = 1 then σ.1 12 k else σ.1 13 k))) σ) : zSp zx (d + 2) mX7_part [.ref 10, .int t, .int w] σ K := by
  refine ⟨⟨by decide, Nat.le_of_ble_eq_true rfl⟩, fun V hV => ?_⟩
  subst e
  refine zq (σ := σ) hV hI rfl 2 ?_
  show (¬ w = 0 → V 15 [(0, .ref 10), (1, .int (nI k)), (2, .int w)] [] σ) ∧ (¬ (¬ w = 0) → V 4 [(0, .ref 10), (1, .int (nI k)), (2, .int w)] [] σ)
  refine ⟨fun h_1 => ?_, fun h_1 => ?_⟩
  · skip
    refine zq (σ := σ) hV hI rfl 3 ?_
    show (¬ w = 1 → V 31 [(0, .ref 10), (1, .int (nI k)), (2, .int w)] [] σ) ∧ (¬ (¬ w = 1) → V 20 [(0, .ref 10), (1, .int (nI k)), (2, .int w)] [] σ)
    refine ⟨fun h_17 => ?_, fun h_17 => ?_⟩
    · skip
      refine zq (σ := σ) hV hI rfl 4 ?_
      show zSp _ _ 79 [.ref 13, .int (nI k)] σ (fun r σ' => σ'.2.2.2 = σ.2.2.2 + zAl 79 → V 39 [(0, .ref 10), (1, .int (nI k)), (2, .int w)] (r.toList ++ []) σ')
      refine item_13 (zA_of hI rfl) rfl (by omega) (fun _ => ?_)
      refine zq (σ := σ) hV hI rfl 1 ?_
      show K (some (.int (σ.1 13 k))) σ
      first | (rw [if_pos h_1] at hK; exact hK) | (rw [if_neg h_1, if_pos h_17] at hK; exact hK) | (rw [if_neg h_1, if_neg h_17] at hK; exact hK)
    · skip
      have h_17 := Classical.not_not.mp h_17
      refine zq (σ := σ) hV hI rfl 4 ?_
      show zSp _ _ 79 [.ref 12, .int (nI k)] σ (fun r σ' => σ'.2.2.2 = σ.2.2.2 + zAl 79 → V 28 [(0, .ref 10), (1, .int (nI k)), (2, .int w)] (r.toList ++ []) σ')
      refine item_12 (zA_of hI rfl) rfl (by omega) (fun _ => ?_)
      refine zq (σ := σ) hV hI rfl 2 ?_
      show K (some (.int (σ.1 12 k))) σ
      first | (rw [if_pos h_1] at hK; exact hK) | (rw [if_neg h_1, if_pos h_17] at hK; exact hK) | (rw [if_neg h_1, if_neg h_17] at hK; exact hK)
  · skip
    have h_1 := Classical.not_not.mp h_1
    refine zq (σ := σ) hV hI rfl 4 ?_
    show zSp _ _ 79 [.ref 11, .int (nI k)] σ (fun r σ' => σ'.2.2.2 = σ.2.2.2 + zAl 79 → V 12 [(0, .ref 10), (1, .int (nI k)), (2, .int w)] (r.toList ++ []) σ')
    refine item_11 (zA_of hI rfl) rfl (by omega) (fun _ => ?_)
    refine zq (σ := σ) hV hI rfl 2 ?_
    show K (some (.int (σ.1 11 k))) σ
    first | (rw [if_pos h_1] at hK; exact hK) | (rw [if_neg h_1, if_pos h_17] at hK; exact hK) | (rw [if_neg h_1, if_neg h_17] at hK; exact hK)
set_option maxRecDepth 8000 in
set_option maxHeartbeats 4000000 in
theorem tnormal_ok {d : Nat} {σ : zSt} {K : Option Value → zSt → Prop} {w : Int32} (hI : zQI (kR 10 14) σ.2.2) (hK : K (some (.long (if w = 0 then σ.2.1 10 4 else if w = 1 then σ.2.1 10 5 else σ.2.1 10 6))) σ) : zSp zx (d + 1) mX7_normal [.ref 10, .int w] σ K := by
  refine ⟨⟨by decide, Nat.le_of_ble_eq_true rfl⟩, fun V hV => ?_⟩
  refine zq (σ := σ) hV hI rfl 2 ?_
  show (¬ w = 0 → V 11 [(0, .ref 10), (1, .int w)] [] σ) ∧ (¬ (¬ w = 0) → V 4 [(0, .ref 10), (1, .int w)] [] σ)
  refine ⟨fun h_1 => ?_, fun h_1 => ?_⟩
  · skip
    refine zq (σ := σ) hV hI rfl 3 ?_
    show (¬ w = 1 → V 23 [(0, .ref 10), (1, .int w)] [] σ) ∧ (¬ (¬ w = 1) → V 16 [(0, .ref 10), (1, .int w)] [] σ)
    refine ⟨fun h_13 => ?_, fun h_13 => ?_⟩
    · skip
      refine zq (σ := σ) hV hI rfl 3 ?_
      show K (some (.long (σ.2.1 10 6))) σ
      first | (rw [if_pos h_1] at hK; exact hK) | (rw [if_neg h_1, if_pos h_13] at hK; exact hK) | (rw [if_neg h_1, if_neg h_13] at hK; exact hK)
    · skip
      have h_13 := Classical.not_not.mp h_13
      refine zq (σ := σ) hV hI rfl 4 ?_
      show K (some (.long (σ.2.1 10 5))) σ
      first | (rw [if_pos h_1] at hK; exact hK) | (rw [if_neg h_1, if_pos h_13] at hK; exact hK) | (rw [if_neg h_1, if_neg h_13] at hK; exact hK)
  · skip
    have h_1 := Classical.not_not.mp h_1
    refine zq (σ := σ) hV hI rfl 4 ?_
    show K (some (.long (σ.2.1 10 4))) σ
    first | (rw [if_pos h_1] at hK; exact hK) | (rw [if_neg h_1, if_pos h_13] at hK; exact hK) | (rw [if_neg h_1, if_neg h_13] at hK; exact hK)
def zX1 (A B C : Nat → Int64) (u v : Nat) : Int64 := B u * C v - C u * B v
def zX2 (A B C : Nat → Int64) (u v : Nat) : Int64 := C u * A v - A u * C v
def zX3 (A B C : Nat → Int64) (u v : Nat) : Int64 := A u * B v - B u * A v
def zNz (A B C : Nat → Int64) (u v : Nat) : Prop := zX1 A B C u v ≠ 0 ∨ zX2 A B C u v ≠ 0 ∨ zX3 A B C u v ≠ 0
abbrev zl (f : Nat → Int32) : Nat → Int64 := fun t => Int32.toInt64 (f t)
abbrev zA11 (σ : zSt) : Nat → Int64 := zl (σ.1 11)
abbrev zA12 (σ : zSt) : Nat → Int64 := zl (σ.1 12)
abbrev zA13 (σ : zSt) : Nat → Int64 := zl (σ.1 13)
def zCx (σ : zSt) (u v : Nat) : zSt := zuJ (zuJ (zuJ σ 10 4 (zX1 (zA11 σ) (zA12 σ) (zA13 σ) u v)) 10 5 (zX2 (zA11 σ) (zA12 σ) (zA13 σ) u v)) 10 6 (zX3 (zA11 σ) (zA12 σ) (zA13 σ) u v)
set_option maxRecDepth 8000 in
set_option maxHeartbeats 4000000 in
theorem cross_ok {d : Nat} {σ : zSt} {K : Option Value → zSt → Prop} {a b : Int32} {u v : Nat} (hI : zQI (kR 10 14) σ.2.2) (ea : a = nI u) (hu : u < 16) (eb : b = nI v) (hv : v < 16) (h1 : zNz (zA11 σ) (zA12 σ) (zA13 σ) u v → K (some (.int 1)) (zCx σ u v)) (h0 : ¬ zNz (zA11 σ) (zA12 σ) (zA13 σ) u v → K (some (.int 0)) (zCx σ u v)) : zSp zx (d + 2) mX7_cross [.ref 10, .int a, .int b] σ K := by
  refine ⟨⟨by decide, Nat.le_of_ble_eq_true rfl⟩, fun V hV => ?_⟩
  subst ea
  subst eb
  refine zq (σ := σ) hV hI rfl 4 ?_
  show zSp _ _ 79 [.ref 11, .int (nI u)] σ (fun r σ' => σ'.2.2.2 = σ.2.2.2 + zAl 79 → V 8 [(0, .ref 10), (1, .int (nI u)), (2, .int (nI v))] (r.toList ++ []) σ')
  refine item_11 (zA_of hI rfl) rfl (by omega) (fun _ => ?_)
  refine zq (σ := σ) hV hI rfl 6 ?_
  show zSp _ _ 79 [.ref 12, .int (nI u)] σ (fun r σ' => σ'.2.2.2 = σ.2.2.2 + zAl 79 → V 18 [(3, .long (Int32.toInt64 (σ.1 11 u))), (0, .ref 10), (1, .int (nI u)), (2, .int (nI v))] (r.toList ++ []) σ')
  refine item_12 (zA_of hI rfl) rfl (by omega) (fun _ => ?_)
  refine zq (σ := σ) hV hI rfl 6 ?_
  show zSp _ _ 79 [.ref 13, .int (nI u)] σ (fun r σ' => σ'.2.2.2 = σ.2.2.2 + zAl 79 → V 29 [(5, .long (Int32.toInt64 (σ.1 12 u))), (3, .long (Int32.toInt64 (σ.1 11 u))), (0, .ref 10), (1, .int (nI u)), (2, .int (nI v))] (r.toList ++ []) σ')
  refine item_13 (zA_of hI rfl) rfl (by omega) (fun _ => ?_)
  refine zq (σ := σ) hV hI rfl 6 ?_
  show zSp _ _ 79 [.ref 11, .int (nI v)] σ (fun r σ' => σ'.2.2.2 = σ.2.2.2 + zAl 79 → V 40 [(7, .long (Int32.toInt64 (σ.1 13 u))), (5, .long (Int32.toInt64 (σ.1 12 u))), (3, .long (Int32.toInt64 (σ.1 11 u))), (0, .ref 10), (1, .int (nI u)), (2, .int (nI v))] (r.toList ++ []) σ')
  refine item_11 (zA_of hI rfl) rfl (by omega) (fun _ => ?_)
  refine zq (σ := σ) hV hI rfl 6 ?_
  show zSp _ _ 79 [.ref 12, .int (nI v)] σ (fun r σ' => σ'.2.2.2 = σ.2.2.2 + zAl 79 → V 51 [(9, .long (Int32.toInt64 (σ.1 11 v))), (7, .long (Int32.toInt64 (σ.1 13 u))), (5, .long (Int32.toInt64 (σ.1 12 u))), (3, .long (Int32.toInt64 (σ.1 11 u))), (0, .ref 10), (1, .int (nI u)), (2, .int (nI v))] (r.toList ++ []) σ')
  refine item_12 (zA_of hI rfl) rfl (by omega) (fun _ => ?_)
  refine zq (σ := σ) hV hI rfl 6 ?_
  show zSp _ _ 79 [.ref 13, .int (nI v)] σ (fun r σ' => σ'.2.2.2 = σ.2.2.2 + zAl 79 → V 62 [(11, .long (Int32.toInt64 (σ.1 12 v))), (9, .long (Int32.toInt64 (σ.1 11 v))), (7, .long (Int32.toInt64 (σ.1 13 u))), (5, .long (Int32.toInt64 (σ.1 12 u))), (3, .long (Int32.toInt64 (σ.1 11 u))), (0, .ref 10), (1, .int (nI u)), (2, .int (nI v))] (r.toList ++ []) σ')
  refine item_13 (zA_of hI rfl) rfl (by omega) (fun _ => ?_)
  refine zq (σ := σ) hV hI rfl 34 ?_
  show (¬ (lg_cmp (((Int32.toInt64 (σ.1 12 u)) * (Int32.toInt64 (σ.1 13 v))) - ((Int32.toInt64 (σ.1 13 u)) * (Int32.toInt64 (σ.1 12 v)))) 0) = 0 → V 135 [(13, .long (Int32.toInt64 (σ.1 13 v))), (11, .long (Int32.toInt64 (σ.1 12 v))), (9, .long (Int32.toInt64 (σ.1 11 v))), (7, .long (Int32.toInt64 (σ.1 13 u))), (5, .long (Int32.toInt64 (σ.1 12 u))), (3, .long (Int32.toInt64 (σ.1 11 u))), (0, .ref 10), (1, .int (nI u)), (2, .int (nI v))] [] (zuJ (zuJ (zuJ σ 10 4 (((Int32.toInt64 (σ.1 12 u)) * (Int32.toInt64 (σ.1 13 v))) - ((Int32.toInt64 (σ.1 13 u)) * (Int32.toInt64 (σ.1 12 v))))) 10 5 (((Int32.toInt64 (σ.1 13 u)) * (Int32.toInt64 (σ.1 11 v))) - ((Int32.toInt64 (σ.1 11 u)) * (Int32.toInt64 (σ.1 13 v))))) 10 6 (((Int32.toInt64 (σ.1 11 u)) * (Int32.toInt64 (σ.1 12 v))) - ((Int32.toInt64 (σ.1 12 u)) * (Int32.toInt64 (σ.1 11 v)))))) ∧ (¬ (¬ (lg_cmp (((Int32.toInt64 (σ.1 12 u)) * (Int32.toInt64 (σ.1 13 v))) - ((Int32.toInt64 (σ.1 13 u)) * (Int32.toInt64 (σ.1 12 v)))) 0) = 0) → V 117 [(13, .long (Int32.toInt64 (σ.1 13 v))), (11, .long (Int32.toInt64 (σ.1 12 v))), (9, .long (Int32.toInt64 (σ.1 11 v))), (7, .long (Int32.toInt64 (σ.1 13 u))), (5, .long (Int32.toInt64 (σ.1 12 u))), (3, .long (Int32.toInt64 (σ.1 11 u))), (0, .ref 10), (1, .int (nI u)), (2, .int (nI v))] [] (zuJ (zuJ (zuJ σ 10 4 (((Int32.toInt64 (σ.1 12 u)) * (Int32.toInt64 (σ.1 13 v))) - ((Int32.toInt64 (σ.1 13 u)) * (Int32.toInt64 (σ.1 12 v))))) 10 5 (((Int32.toInt64 (σ.1 13 u)) * (Int32.toInt64 (σ.1 11 v))) - ((Int32.toInt64 (σ.1 11 u)) * (Int32.toInt64 (σ.1 13 v))))) 10 6 (((Int32.toInt64 (σ.1 11 u)) * (Int32.toInt64 (σ.1 12 v))) - ((Int32.toInt64 (σ.1 12 u)) * (Int32.toInt64 (σ.1 11 v))))))
  refine ⟨fun h_114 => ?_, fun h_114 => ?_⟩
  · skip
    refine zq (σ := (zuJ (zuJ (zuJ σ 10 4 (((Int32.toInt64 (σ.1 12 u)) * (Int32.toInt64 (σ.1 13 v))) - ((Int32.toInt64 (σ.1 13 u)) * (Int32.toInt64 (σ.1 12 v))))) 10 5 (((Int32.toInt64 (σ.1 13 u)) * (Int32.toInt64 (σ.1 11 v))) - ((Int32.toInt64 (σ.1 11 u)) * (Int32.toInt64 (σ.1 13 v))))) 10 6 (((Int32.toInt64 (σ.1 11 u)) * (Int32.toInt64 (σ.1 12 v))) - ((Int32.toInt64 (σ.1 12 u)) * (Int32.toInt64 (σ.1 11 v)))))) hV hI rfl 3 ?_
    show ((1 : Int32) = 0 ∨ (1 : Int32) = 1) ∧ K (some (.int 1)) (zuJ (zuJ (zuJ σ 10 4 (((Int32.toInt64 (σ.1 12 u)) * (Int32.toInt64 (σ.1 13 v))) - ((Int32.toInt64 (σ.1 13 u)) * (Int32.toInt64 (σ.1 12 v))))) 10 5 (((Int32.toInt64 (σ.1 13 u)) * (Int32.toInt64 (σ.1 11 v))) - ((Int32.toInt64 (σ.1 11 u)) * (Int32.toInt64 (σ.1 13 v))))) 10 6 (((Int32.toInt64 (σ.1 11 u)) * (Int32.toInt64 (σ.1 12 v))) - ((Int32.toInt64 (σ.1 12 u)) * (Int32.toInt64 (σ.1 11 v)))))
    refine ⟨by decide, ?_⟩
    first | exact h1 (Or.inl (fun q => h_114 (zcmp_eq.mpr q))) | exact h1 (Or.inr (Or.inl (fun q => h_123 (zcmp_eq.mpr q)))) | exact h1 (Or.inr (Or.inr (fun q => h_132 (zcmp_eq.mpr q))))
  · skip
    have h_114 := Classical.not_not.mp h_114
    refine zq (σ := (zuJ (zuJ (zuJ σ 10 4 (((Int32.toInt64 (σ.1 12 u)) * (Int32.toInt64 (σ.1 13 v))) - ((Int32.toInt64 (σ.1 13 u)) * (Int32.toInt64 (σ.1 12 v))))) 10 5 (((Int32.toInt64 (σ.1 13 u)) * (Int32.toInt64 (σ.1 11 v))) - ((Int32.toInt64 (σ.1 11 u)) * (Int32.toInt64 (σ.1 13 v))))) 10 6 (((Int32.toInt64 (σ.1 11 u)) * (Int32.toInt64 (σ.1 12 v))) - ((Int32.toInt64 (σ.1 12 u)) * (Int32.toInt64 (σ.1 11 v)))))) hV hI rfl 5 ?_
    show (¬ (lg_cmp (((Int32.toInt64 (σ.1 13 u)) * (Int32.toInt64 (σ.1 11 v))) - ((Int32.toInt64 (σ.1 11 u)) * (Int32.toInt64 (σ.1 13 v)))) 0) = 0 → V 135 [(13, .long (Int32.toInt64 (σ.1 13 v))), (11, .long (Int32.toInt64 (σ.1 12 v))), (9, .long (Int32.toInt64 (σ.1 11 v))), (7, .long (Int32.toInt64 (σ.1 13 u))), (5, .long (Int32.toInt64 (σ.1 12 u))), (3, .long (Int32.toInt64 (σ.1 11 u))), (0, .ref 10), (1, .int (nI u)), (2, .int (nI v))] [] (zuJ (zuJ (zuJ σ 10 4 (((Int32.toInt64 (σ.1 12 u)) * (Int32.toInt64 (σ.1 13 v))) - ((Int32.toInt64 (σ.1 13 u)) * (Int32.toInt64 (σ.1 12 v))))) 10 5 (((Int32.toInt64 (σ.1 13 u)) * (Int32.toInt64 (σ.1 11 v))) - ((Int32.toInt64 (σ.1 11 u)) * (Int32.toInt64 (σ.1 13 v))))) 10 6 (((Int32.toInt64 (σ.1 11 u)) * (Int32.toInt64 (σ.1 12 v))) - ((Int32.toInt64 (σ.1 12 u)) * (Int32.toInt64 (σ.1 11 v)))))) ∧ (¬ (¬ (lg_cmp (((Int32.toInt64 (σ.1 13 u)) * (Int32.toInt64 (σ.1 11 v))) - ((Int32.toInt64 (σ.1 11 u)) * (Int32.toInt64 (σ.1 13 v)))) 0) = 0) → V 126 [(13, .long (Int32.toInt64 (σ.1 13 v))), (11, .long (Int32.toInt64 (σ.1 12 v))), (9, .long (Int32.toInt64 (σ.1 11 v))), (7, .long (Int32.toInt64 (σ.1 13 u))), (5, .long (Int32.toInt64 (σ.1 12 u))), (3, .long (Int32.toInt64 (σ.1 11 u))), (0, .ref 10), (1, .int (nI u)), (2, .int (nI v))] [] (zuJ (zuJ (zuJ σ 10 4 (((Int32.toInt64 (σ.1 12 u)) * (Int32.toInt64 (σ.1 13 v))) - ((Int32.toInt64 (σ.1 13 u)) * (Int32.toInt64 (σ.1 12 v))))) 10 5 (((Int32.toInt64 (σ.1 13 u)) * (Int32.toInt64 (σ.1 11 v))) - ((Int32.toInt64 (σ.1 11 u)) * (Int32.toInt64 (σ.1 13 v))))) 10 6 (((Int32.toInt64 (σ.1 11 u)) * (Int32.toInt64 (σ.1 12 v))) - ((Int32.toInt64 (σ.1 12 u)) * (Int32.toInt64 (σ.1 11 v))))))
    refine ⟨fun h_123 => ?_, fun h_123 => ?_⟩
    · skip
      refine zq (σ := (zuJ (zuJ (zuJ σ 10 4 (((Int32.toInt64 (σ.1 12 u)) * (Int32.toInt64 (σ.1 13 v))) - ((Int32.toInt64 (σ.1 13 u)) * (Int32.toInt64 (σ.1 12 v))))) 10 5 (((Int32.toInt64 (σ.1 13 u)) * (Int32.toInt64 (σ.1 11 v))) - ((Int32.toInt64 (σ.1 11 u)) * (Int32.toInt64 (σ.1 13 v))))) 10 6 (((Int32.toInt64 (σ.1 11 u)) * (Int32.toInt64 (σ.1 12 v))) - ((Int32.toInt64 (σ.1 12 u)) * (Int32.toInt64 (σ.1 11 v)))))) hV hI rfl 3 ?_
      show ((1 : Int32) = 0 ∨ (1 : Int32) = 1) ∧ K (some (.int 1)) (zuJ (zuJ (zuJ σ 10 4 (((Int32.toInt64 (σ.1 12 u)) * (Int32.toInt64 (σ.1 13 v))) - ((Int32.toInt64 (σ.1 13 u)) * (Int32.toInt64 (σ.1 12 v))))) 10 5 (((Int32.toInt64 (σ.1 13 u)) * (Int32.toInt64 (σ.1 11 v))) - ((Int32.toInt64 (σ.1 11 u)) * (Int32.toInt64 (σ.1 13 v))))) 10 6 (((Int32.toInt64 (σ.1 11 u)) * (Int32.toInt64 (σ.1 12 v))) - ((Int32.toInt64 (σ.1 12 u)) * (Int32.toInt64 (σ.1 11 v)))))
      refine ⟨by decide, ?_⟩
      first | exact h1 (Or.inl (fun q => h_114 (zcmp_eq.mpr q))) | exact h1 (Or.inr (Or.inl (fun q => h_123 (zcmp_eq.mpr q)))) | exact h1 (Or.inr (Or.inr (fun q => h_132 (zcmp_eq.mpr q))))
    · skip
      have h_123 := Classical.not_not.mp h_123
      refine zq (σ := (zuJ (zuJ (zuJ σ 10 4 (((Int32.toInt64 (σ.1 12 u)) * (Int32.toInt64 (σ.1 13 v))) - ((Int32.toInt64 (σ.1 13 u)) * (Int32.toInt64 (σ.1 12 v))))) 10 5 (((Int32.toInt64 (σ.1 13 u)) * (Int32.toInt64 (σ.1 11 v))) - ((Int32.toInt64 (σ.1 11 u)) * (Int32.toInt64 (σ.1 13 v))))) 10 6 (((Int32.toInt64 (σ.1 11 u)) * (Int32.toInt64 (σ.1 12 v))) - ((Int32.toInt64 (σ.1 12 u)) * (Int32.toInt64 (σ.1 11 v)))))) hV hI rfl 5 ?_
      show ((lg_cmp (((Int32.toInt64 (σ.1 11 u)) * (Int32.toInt64 (σ.1 12 v))) - ((Int32.toInt64 (σ.1 12 u)) * (Int32.toInt64 (σ.1 11 v)))) 0) = 0 → V 139 [(13, .long (Int32.toInt64 (σ.1 13 v))), (11, .long (Int32.toInt64 (σ.1 12 v))), (9, .long (Int32.toInt64 (σ.1 11 v))), (7, .long (Int32.toInt64 (σ.1 13 u))), (5, .long (Int32.toInt64 (σ.1 12 u))), (3, .long (Int32.toInt64 (σ.1 11 u))), (0, .ref 10), (1, .int (nI u)), (2, .int (nI v))] [] (zuJ (zuJ (zuJ σ 10 4 (((Int32.toInt64 (σ.1 12 u)) * (Int32.toInt64 (σ.1 13 v))) - ((Int32.toInt64 (σ.1 13 u)) * (Int32.toInt64 (σ.1 12 v))))) 10 5 (((Int32.toInt64 (σ.1 13 u)) * (Int32.toInt64 (σ.1 11 v))) - ((Int32.toInt64 (σ.1 11 u)) * (Int32.toInt64 (σ.1 13 v))))) 10 6 (((Int32.toInt64 (σ.1 11 u)) * (Int32.toInt64 (σ.1 12 v))) - ((Int32.toInt64 (σ.1 12 u)) * (Int32.toInt64 (σ.1 11 v)))))) ∧ (¬ (lg_cmp (((Int32.toInt64 (σ.1 11 u)) * (Int32.toInt64 (σ.1 12 v))) - ((Int32.toInt64 (σ.1 12 u)) * (Int32.toInt64 (σ.1 11 v)))) 0) = 0 → V 135 [(13, .long (Int32.toInt64 (σ.1 13 v))), (11, .long (Int32.toInt64 (σ.1 12 v))), (9, .long (Int32.toInt64 (σ.1 11 v))), (7, .long (Int32.toInt64 (σ.1 13 u))), (5, .long (Int32.toInt64 (σ.1 12 u))), (3, .long (Int32.toInt64 (σ.1 11 u))), (0, .ref 10), (1, .int (nI u)), (2, .int (nI v))] [] (zuJ (zuJ (zuJ σ 10 4 (((Int32.toInt64 (σ.1 12 u)) * (Int32.toInt64 (σ.1 13 v))) - ((Int32.toInt64 (σ.1 13 u)) * (Int32.toInt64 (σ.1 12 v))))) 10 5 (((Int32.toInt64 (σ.1 13 u)) * (Int32.toInt64 (σ.1 11 v))) - ((Int32.toInt64 (σ.1 11 u)) * (Int32.toInt64 (σ.1 13 v))))) 10 6 (((Int32.toInt64 (σ.1 11 u)) * (Int32.toInt64 (σ.1 12 v))) - ((Int32.toInt64 (σ.1 12 u)) * (Int32.toInt64 (σ.1 11 v))))))
      refine ⟨fun h_132 => ?_, fun h_132 => ?_⟩
      · skip
        refine zq (σ := (zuJ (zuJ (zuJ σ 10 4 (((Int32.toInt64 (σ.1 12 u)) * (Int32.toInt64 (σ.1 13 v))) - ((Int32.toInt64 (σ.1 13 u)) * (Int32.toInt64 (σ.1 12 v))))) 10 5 (((Int32.toInt64 (σ.1 13 u)) * (Int32.toInt64 (σ.1 11 v))) - ((Int32.toInt64 (σ.1 11 u)) * (Int32.toInt64 (σ.1 13 v))))) 10 6 (((Int32.toInt64 (σ.1 11 u)) * (Int32.toInt64 (σ.1 12 v))) - ((Int32.toInt64 (σ.1 12 u)) * (Int32.toInt64 (σ.1 11 v)))))) hV hI rfl 2 ?_
        show ((0 : Int32) = 0 ∨ (0 : Int32) = 1) ∧ K (some (.int 0)) (zuJ (zuJ (zuJ σ 10 4 (((Int32.toInt64 (σ.1 12 u)) * (Int32.toInt64 (σ.1 13 v))) - ((Int32.toInt64 (σ.1 13 u)) * (Int32.toInt64 (σ.1 12 v))))) 10 5 (((Int32.toInt64 (σ.1 13 u)) * (Int32.toInt64 (σ.1 11 v))) - ((Int32.toInt64 (σ.1 11 u)) * (Int32.toInt64 (σ.1 13 v))))) 10 6 (((Int32.toInt64 (σ.1 11 u)) * (Int32.toInt64 (σ.1 12 v))) - ((Int32.toInt64 (σ.1 12 u)) * (Int32.toInt64 (σ.1 11 v)))))
        refine ⟨by decide, ?_⟩
        exact h0 (fun q => q.elim (fun q => q (zcmp_eq.mp h_114)) (fun q => q.elim (fun q => q (zcmp_eq.mp h_123)) (fun q => q (zcmp_eq.mp h_132))))
      · skip
        refine zq (σ := (zuJ (zuJ (zuJ σ 10 4 (((Int32.toInt64 (σ.1 12 u)) * (Int32.toInt64 (σ.1 13 v))) - ((Int32.toInt64 (σ.1 13 u)) * (Int32.toInt64 (σ.1 12 v))))) 10 5 (((Int32.toInt64 (σ.1 13 u)) * (Int32.toInt64 (σ.1 11 v))) - ((Int32.toInt64 (σ.1 11 u)) * (Int32.toInt64 (σ.1 13 v))))) 10 6 (((Int32.toInt64 (σ.1 11 u)) * (Int32.toInt64 (σ.1 12 v))) - ((Int32.toInt64 (σ.1 12 u)) * (Int32.toInt64 (σ.1 11 v)))))) hV hI rfl 3 ?_
        show ((1 : Int32) = 0 ∨ (1 : Int32) = 1) ∧ K (some (.int 1)) (zuJ (zuJ (zuJ σ 10 4 (((Int32.toInt64 (σ.1 12 u)) * (Int32.toInt64 (σ.1 13 v))) - ((Int32.toInt64 (σ.1 13 u)) * (Int32.toInt64 (σ.1 12 v))))) 10 5 (((Int32.toInt64 (σ.1 13 u)) * (Int32.toInt64 (σ.1 11 v))) - ((Int32.toInt64 (σ.1 11 u)) * (Int32.toInt64 (σ.1 13 v))))) 10 6 (((Int32.toInt64 (σ.1 11 u)) * (Int32.toInt64 (σ.1 12 v))) - ((Int32.toInt64 (σ.1 12 u)) * (Int32.toInt64 (σ.1 11 v)))))
        refine ⟨by decide, ?_⟩
        first | exact h1 (Or.inl (fun q => h_114 (zcmp_eq.mpr q))) | exact h1 (Or.inr (Or.inl (fun q => h_123 (zcmp_eq.mpr q)))) | exact h1 (Or.inr (Or.inr (fun q => h_132 (zcmp_eq.mpr q))))
set_option maxRecDepth 8000 in
set_option maxHeartbeats 4000000 in
theorem turn_1 {d : Nat} {σ : zSt} {K : Option Value → zSt → Prop} (hI : zQI (kR 10 14) σ.2.2) (hK : K none (zuJ (zuJ (zuJ σ 10 4 (-σ.2.1 10 4)) 10 5 (-σ.2.1 10 5)) 10 6 (-σ.2.1 10 6))) : zSp zx (d + 1) mX7_turnIfBelow [.ref 10, .int 1] σ K := by
  refine ⟨⟨by decide, Nat.le_of_ble_eq_true rfl⟩, fun V hV => ?_⟩
  refine zq (σ := σ) hV hI rfl 3 ?_
  show (¬ (1 : Int32) = 1 → V 32 [(0, .ref 10), (1, .int 1)] [] σ) ∧ (¬ (¬ (1 : Int32) = 1) → V 5 [(0, .ref 10), (1, .int 1)] [] σ)
  refine ⟨fun hc => absurd hc (by decide), fun _ => ?_⟩
  refine zq (σ := σ) hV hI rfl 16 ?_
  show K none (zuJ (zuJ (zuJ σ 10 4 (-(σ.2.1 10 4))) 10 5 (-(σ.2.1 10 5))) 10 6 (-(σ.2.1 10 6)))
  exact hK
set_option maxRecDepth 8000 in
set_option maxHeartbeats 4000000 in
theorem turn_0 {d : Nat} {σ : zSt} {K : Option Value → zSt → Prop} (hI : zQI (kR 10 14) σ.2.2) (hK : K none σ) : zSp zx (d + 1) mX7_turnIfBelow [.ref 10, .int 0] σ K := by
  refine ⟨⟨by decide, Nat.le_of_ble_eq_true rfl⟩, fun V hV => ?_⟩
  refine zq (σ := σ) hV hI rfl 3 ?_
  show (¬ (0 : Int32) = 1 → V 32 [(0, .ref 10), (1, .int 0)] [] σ) ∧ (¬ (¬ (0 : Int32) = 1) → V 5 [(0, .ref 10), (1, .int 0)] [] σ)
  refine ⟨fun _ => ?_, fun hc => absurd (by decide) hc⟩
  refine zq (σ := σ) hV hI rfl 1 ?_
  show K none σ
  exact hK
set_option maxRecDepth 8000 in
set_option maxHeartbeats 4000000 in
theorem turn_2 {d : Nat} {σ : zSt} {K : Option Value → zSt → Prop} (hI : zQI (kR 10 14) σ.2.2) (hK : K none σ) : zSp zx (d + 1) mX7_turnIfBelow [.ref 10, .int 2] σ K := by
  refine ⟨⟨by decide, Nat.le_of_ble_eq_true rfl⟩, fun V hV => ?_⟩
  refine zq (σ := σ) hV hI rfl 3 ?_
  show (¬ (2 : Int32) = 1 → V 32 [(0, .ref 10), (1, .int 2)] [] σ) ∧ (¬ (¬ (2 : Int32) = 1) → V 5 [(0, .ref 10), (1, .int 2)] [] σ)
  refine ⟨fun _ => ?_, fun hc => absurd (by decide) hc⟩
  refine zq (σ := σ) hV hI rfl 1 ?_
  show K none σ
  exact hK
