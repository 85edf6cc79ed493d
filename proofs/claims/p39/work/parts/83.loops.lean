variable {zx : Nat × (Nat → Int32)} {n k s F j M : Nat} {X Y E S su sv sw : Nat → Int32} {g f0 wv : Int32} {V : Nat → zLo → List Value → zSt → Prop}
theorem zUp_b {x : Int32} {n M : Nat} (h0 : 0 < n) (hM : n ≤ M + 1) (hM2 : M < 2 ^ 30) : zBt 0 M (nI (zUp x n)) := by
  have h := zUp_lt (x := x) h0
  unfold zBt; rw [nI_toInt (by omega)]; omega
theorem zWh_01 : zWh n X Y E S g k = 0 ∨ zWh n X Y E S g k = 1 := by
  rcases Classical.em (zHo n X Y g E S k) with h | h
  · exact Or.inr (zWh_t h)
  · exact Or.inl (zWh_f h)
theorem zWh_imp {n' k' : Nat} {X' Y' E' S' : Nat → Int32} {g' : Int32} (h : zHo n X Y g E S k → zHo n' X' Y' g' E' S' k') : zWh n X Y E S g k ≤ zWh n' X' Y' E' S' g' k' := by
  rcases Classical.em (zHo n X Y g E S k) with q | q
  · rw [zWh_t q, zWh_t (h q)]; decide
  · rw [zWh_f q]
    rcases @zWh_01 n' k' X' Y' E' S' g' with r | r <;> rw [r] <;> decide
theorem zWh_nn (a : Int32) (h : a = -1 ∨ a = 0) : a ≤ zWh n X Y E S g k := by
  rcases h with h | h <;> rcases @zWh_01 n k X Y E S g with r | r <;> rw [h, r] <;> decide
theorem zlNe (x : Int32) : ¬ Int32.toInt64 x = -9223372036854775806 := fun q => by
  rw [zeq64, zL] at q
  have h := zR32 x
  have e : (-9223372036854775806 : Int64).toInt = -9223372036854775806 := by decide
  omega
theorem zg_nn (h : zBt 0 16 g) : ¬ g < 0 := by rw [zlt]; unfold zBt at h; have := zT_lits.1; omega
theorem zbt01 (a : Int32) (i : Nat) : zbt a i = 0 ∨ zbt a i = 1 := by
  obtain ⟨j, h1, h2⟩ := pk_andE (a >>> (nI i &&& 31)) (m := 1) 1 (by decide)
  unfold zbt; rw [h2]
  rcases (show j = 0 ∨ j = 1 by omega) with e | e <;> rw [e]
  · exact Or.inl rfl
  · exact Or.inr rfl
theorem zPx_congr {P Q : Nat → Int32} (a : Int32) : ∀ k, (∀ i, i < k → P i = Q i) → zPx a P k = zPx a Q k
  | 0, _ => rfl
  | k + 1, h => by
    unfold zPx
    rw [zPx_congr a k (fun i hi => h i (by omega)), h k (by omega)]
theorem zEs_up {e q : Int32} {i : Nat} (h : zEs n E S k) (he : e = nI i) (hi : i < n) (hq : zBt 0 8 q) : zEs n (upd E k e) (upd S k q) (k + 1) := by
  refine ⟨fun l hl => ?_, fun l hl => ?_⟩
  · by_cases w : l = k
    · rw [w, pk_us]; exact ⟨i, he, hi⟩
    · rw [pk_un w]; exact h.1 l (by omega)
  · by_cases w : l = k
    · rw [w, pk_us]; exact hq
    · rw [pk_un w]; exact h.2 l (by omega)
set_option maxRecDepth 8000 in
set_option maxHeartbeats 4000000 in
theorem zlA (hV : zOk (zSp zx 7) zx mL_law 31 V (fun (r : Option Value) (_ : zSt) => r = some (.int 1))) (hn10 : n ≤ 10) (hB : zHB n X Y) (hk : k ≤ 8) (hE : zEs n E S k) (hnx : ∀ g τ, zBt 0 16 g → zLS n X Y E S k g s su sv sw τ → V 440 [(0, .ref zsc), (1, .ref 0), (3, .int (nI n)), (4, .int (nI F)), (5, .int wv), (6, .int (nI j))] [] τ) : ∀ (r q : Nat) (g : Int32) (τ : zSt) (la : Int32), q + r = 5 → zBt 0 16 g → zLS n X Y E S k g s su sv sw τ → ((q = 0 ∧ la = -1) ∨ (1 ≤ q ∧ la = zWh n X Y E S (nI (4 * (q - 1))) k)) → V 401 [(0, .ref zsc), (1, .ref 0), (3, .int (nI n)), (4, .int (nI F)), (5, .int wv), (6, .int (nI j)), (11, .int la), (12, .int (nI (4 * q)))] [] τ := by
  intro r
  induction r with
  | zero =>
    intro q g τ la hqr hg hs hla
    refine zq (σ := τ) hV hs.1.1 hs.1.2 3 ?_
    show (17 ≤ (nI (4 * q)) → V 440 [(0, .ref zsc), (1, .ref 0), (3, .int (nI n)), (4, .int (nI F)), (5, .int wv), (6, .int (nI j)), (11, .int la), (12, .int (nI (4 * q)))] [] τ) ∧ (¬ 17 ≤ (nI (4 * q)) → V 408 [(0, .ref zsc), (1, .ref 0), (3, .int (nI n)), (4, .int (nI F)), (5, .int wv), (6, .int (nI j)), (11, .int la), (12, .int (nI (4 * q)))] [] τ)
    refine ⟨fun _ => ?_, fun hc => absurd (show (17 : Int32) ≤ nI (4 * q) by rw [show q = 5 by omega]; decide) hc⟩
    refine zwk hV [0, 1, 2, 3, 4, 5] rfl ?_
    exact hnx g τ hg hs
  | succ r ihA =>
    intro q g τ la hqr hg hs hla
    have hfq : zBt 0 16 (nI (4 * q)) := by unfold zBt; rw [nI_toInt (by omega)]; omega
    have hle : la ≤ zWh n X Y E S (nI (4 * q)) k := by
      rcases hla with ⟨_, h⟩ | ⟨h1, h⟩
      · exact zWh_nn _ (Or.inl h)
      · rw [h]
        refine zWh_imp (fun y => zHo_fric hB ?_ hfq ?_ hn10 hE.1 hE.2 y)
        · unfold zBt; rw [nI_toInt (by omega)]; omega
        · rw [nI_toInt (by omega), nI_toInt (by omega)]; omega
    refine zq (σ := τ) hV hs.1.1 hs.1.2 3 ?_
    show (17 ≤ (nI (4 * q)) → V 440 [(0, .ref zsc), (1, .ref 0), (3, .int (nI n)), (4, .int (nI F)), (5, .int wv), (6, .int (nI j)), (11, .int la), (12, .int (nI (4 * q)))] [] τ) ∧ (¬ 17 ≤ (nI (4 * q)) → V 408 [(0, .ref zsc), (1, .ref 0), (3, .int (nI n)), (4, .int (nI F)), (5, .int wv), (6, .int (nI j)), (11, .int la), (12, .int (nI (4 * q)))] [] τ)
    refine ⟨fun hc => absurd hc (show ¬ (17 : Int32) ≤ nI (4 * q) from nI_ge (a := 4 * q) (b := 17) (by omega) (by decide)), fun _ => ?_⟩
    refine zq (σ := τ) hV hs.1.1 hs.1.2 3 ?_
    show zSp _ _ 57 [.ref 0, .int (nI (4 * q))] τ (fun r σ' => σ'.2.2.2 = τ.2.2.2 + zAl 57 → V 414 [(0, .ref zsc), (1, .ref 0), (3, .int (nI n)), (4, .int (nI F)), (5, .int wv), (6, .int (nI j)), (11, .int la), (12, .int (nI (4 * q)))] (r.toList ++ []) σ')
    refine friction_L hs hfq (fun τ1 hs1 _ => ?_)
    refine zq (σ := τ1) hV hs1.1.1 hs1.1.2 1 ?_
    show (g < 0 → V 426 [(0, .ref zsc), (1, .ref 0), (3, .int (nI n)), (4, .int (nI F)), (5, .int wv), (6, .int (nI j)), (11, .int la), (12, .int (nI (4 * q)))] [] τ1) ∧ (¬ g < 0 → V 417 [(0, .ref zsc), (1, .ref 0), (3, .int (nI n)), (4, .int (nI F)), (5, .int wv), (6, .int (nI j)), (11, .int la), (12, .int (nI (4 * q)))] [] τ1)
    refine ⟨fun hc => absurd hc (zg_nn hg), fun _ => ?_⟩
    refine zq (σ := τ1) hV hs1.1.1 hs1.1.2 2 ?_
    show zSp _ _ 59 [.ref 0] τ1 (fun r σ' => σ'.2.2.2 = τ1.2.2.2 + zAl 59 → V 421 [(0, .ref zsc), (1, .ref 0), (3, .int (nI n)), (4, .int (nI F)), (5, .int wv), (6, .int (nI j)), (11, .int la), (12, .int (nI (4 * q)))] (r.toList ++ []) σ')
    refine holds_L hs1 hn10 (by omega) hE (fun τ2 hs2 _ => ?_)
    refine zq (σ := τ2) hV hs2.1.1 hs2.1.2 2 ?_
    show (la ≤ (zWh n X Y E S (nI (4 * q)) k) → V 428 [(0, .ref zsc), (1, .ref 0), (3, .int (nI n)), (4, .int (nI F)), (5, .int wv), (6, .int (nI j)), (11, .int la), (12, .int (nI (4 * q)))] [] τ2) ∧ (¬ la ≤ (zWh n X Y E S (nI (4 * q)) k) → V 426 [(0, .ref zsc), (1, .ref 0), (3, .int (nI n)), (4, .int (nI F)), (5, .int wv), (6, .int (nI j)), (11, .int la), (12, .int (nI (4 * q)))] [] τ2)
    refine ⟨fun _ => ?_, fun hc => absurd hle hc⟩
    refine zq (σ := τ2) hV hs2.1.1 hs2.1.2 2 ?_
    show zSp _ _ 59 [.ref 0] τ2 (fun r σ' => σ'.2.2.2 = τ2.2.2.2 + zAl 59 → V 432 [(0, .ref zsc), (1, .ref 0), (3, .int (nI n)), (4, .int (nI F)), (5, .int wv), (6, .int (nI j)), (11, .int la), (12, .int (nI (4 * q)))] (r.toList ++ []) σ')
    refine holds_L hs2 hn10 (by omega) hE (fun τ3 hs3 _ => ?_)
    refine zq (σ := τ3) hV hs3.1.1 hs3.1.2 3 ?_
    show V 401 [(12, .int ((nI (4 * q)) + 4)), (11, .int (zWh n X Y E S (nI (4 * q)) k)), (0, .ref zsc), (1, .ref 0), (3, .int (nI n)), (4, .int (nI F)), (5, .int wv), (6, .int (nI j))] [] τ3
    refine zwk hV [2, 3, 4, 5, 6, 7, 1, 0] rfl ?_
    rw [show nI (4 * q) + 4 = nI (4 * (q + 1)) from zn_a (a := 4 * q) (b := 4) rfl rfl]
    refine ihA (q + 1) _ _ _ (by omega) hfq hs3 (Or.inr ⟨by omega, ?_⟩)
    rw [show q + 1 - 1 = q by omega]
set_option maxRecDepth 8000 in
set_option maxHeartbeats 4000000 in
theorem zlC (hV : zOk (zSp zx 7) zx mL_law 31 V (fun (r : Option Value) (_ : zSt) => r = some (.int 1))) (hn10 : n ≤ 10) (hk : k ≤ 8) (hE : zEs n E S k) {wi : Int32} (hnx : ∀ τ, zLS n X Y E S k g s su sv sw τ → V 170 [(0, .ref zsc), (1, .ref 0), (3, .int (nI n)), (4, .int (nI F)), (5, .int wv), (6, .int (nI j)), (7, .int wi), (8, .int (nI (zMl g k)))] [] τ) : ∀ (r t : Nat) (τ : zSt), t + r = zMl g k → zLS n X Y E S k g s su sv sw τ → V 143 [(0, .ref zsc), (1, .ref 0), (3, .int (nI n)), (4, .int (nI F)), (5, .int wv), (6, .int (nI j)), (7, .int wi), (8, .int (nI t))] [] τ := by
  intro r
  induction r with
  | zero =>
    intro t τ htr hs
    have hm16 := @zMl_le g k hk
    refine zq (σ := τ) hV hs.1.1 hs.1.2 4 ?_
    show zSp _ _ 58 [.ref 0, .int (nI t), .int 0] τ (fun r σ' => σ'.2.2.2 = τ.2.2.2 + zAl 58 → V 150 [(0, .ref zsc), (1, .ref 0), (3, .int (nI n)), (4, .int (nI F)), (5, .int wv), (6, .int (nI j)), (7, .int wi), (8, .int (nI t))] (r.toList ++ []) σ')
    refine push_Lx hs hn10 (by omega) hE (by rw [show t = zMl g k by omega]) (fun τ1 hs1 _ => ?_)
    refine zq (σ := τ1) hV hs1.1.1 hs1.1.2 3 ?_
    show ((lg_cmp (-9223372036854775806) (-9223372036854775806)) = 0 → V 170 [(0, .ref zsc), (1, .ref 0), (3, .int (nI n)), (4, .int (nI F)), (5, .int wv), (6, .int (nI j)), (7, .int wi), (8, .int (nI t))] [] τ1) ∧ (¬ (lg_cmp (-9223372036854775806) (-9223372036854775806)) = 0 → V 157 [(0, .ref zsc), (1, .ref 0), (3, .int (nI n)), (4, .int (nI F)), (5, .int wv), (6, .int (nI j)), (7, .int wi), (8, .int (nI t))] [] τ1)
    refine ⟨fun _ => ?_, fun hc => absurd (zcmp_eq.mpr rfl) hc⟩
    refine zwk hV [0, 1, 2, 3, 4, 5, 6, 7] rfl ?_
    rw [show t = zMl g k by omega]
    exact hnx _ hs1
  | succ r ihC =>
    intro t τ htr hs
    have hm16 := @zMl_le g k hk
    refine zq (σ := τ) hV hs.1.1 hs.1.2 4 ?_
    show zSp _ _ 58 [.ref 0, .int (nI t), .int 0] τ (fun r σ' => σ'.2.2.2 = τ.2.2.2 + zAl 58 → V 150 [(0, .ref zsc), (1, .ref 0), (3, .int (nI n)), (4, .int (nI F)), (5, .int wv), (6, .int (nI j)), (7, .int wi), (8, .int (nI t))] (r.toList ++ []) σ')
    refine push_L0 hs hn10 (by omega) hE (j := t) rfl (by omega) (fun τ1 hs1 _ => ?_)
    refine zq (σ := τ1) hV hs1.1.1 hs1.1.2 3 ?_
    show ((lg_cmp (zA1 n X Y E g t) (-9223372036854775806)) = 0 → V 170 [(0, .ref zsc), (1, .ref 0), (3, .int (nI n)), (4, .int (nI F)), (5, .int wv), (6, .int (nI j)), (7, .int wi), (8, .int (nI t))] [] τ1) ∧ (¬ (lg_cmp (zA1 n X Y E g t) (-9223372036854775806)) = 0 → V 157 [(0, .ref zsc), (1, .ref 0), (3, .int (nI n)), (4, .int (nI F)), (5, .int wv), (6, .int (nI j)), (7, .int wi), (8, .int (nI t))] [] τ1)
    refine ⟨fun hc => absurd hc (fun y => zlNe _ (zcmp_eq.mp y)), fun _ => ?_⟩
    refine zq (σ := τ1) hV hs1.1.1 hs1.1.2 3 ?_
    show (16 ≤ (nI t) → V 170 [(0, .ref zsc), (1, .ref 0), (3, .int (nI n)), (4, .int (nI F)), (5, .int wv), (6, .int (nI j)), (7, .int wi), (8, .int (nI t))] [] τ1) ∧ (¬ 16 ≤ (nI t) → V 164 [(0, .ref zsc), (1, .ref 0), (3, .int (nI n)), (4, .int (nI F)), (5, .int wv), (6, .int (nI j)), (7, .int wi), (8, .int (nI t))] [] τ1)
    refine ⟨fun hc => absurd hc (nI_ge (a := t) (b := 16) (by omega) (by decide)), fun _ => ?_⟩
    refine zq (σ := τ1) hV hs1.1.1 hs1.1.2 2 ?_
    show V 143 [(8, .int ((nI t) + 1)), (0, .ref zsc), (1, .ref 0), (3, .int (nI n)), (4, .int (nI F)), (5, .int wv), (6, .int (nI j)), (7, .int wi)] [] τ1
    refine zwk hV [1, 2, 3, 4, 5, 6, 7, 0] rfl ?_
    rw [nI_1 t]
    exact ihC (t + 1) _ (by omega) hs1
set_option maxRecDepth 8000 in
set_option maxHeartbeats 4000000 in
theorem zlB (hV : zOk (zSp zx 7) zx mL_law 31 V (fun (r : Option Value) (_ : zSt) => r = some (.int 1))) (hn10 : n ≤ 10) (hk : k ≤ 8) (hE : zEs n E S k) {a b c : Int64} (hge : ∀ t, t < zMl g k → ¬ a * zA1 n X Y E g t + b * zA2 n X Y E g t + c * zA3 n X Y E S g t < 0) (hso : ∃ t, t < zMl g k ∧ 0 < a * zA1 n X Y E g t + b * zA2 n X Y E g t + c * zA3 n X Y E S g t) (hnx : ∀ τ, zLS n X Y E S k g s su sv sw τ → V 367 [(0, .ref zsc), (1, .ref 0), (3, .int (nI n)), (4, .int (nI F)), (5, .int wv), (6, .int (nI j)), (8, .int (nI (zMl g k))), (9, .long a), (11, .long b), (13, .long c), (15, .int 1)] [] τ) : ∀ (r t : Nat) (τ : zSt) (sm : Int32), t + r = zMl g k → zLS n X Y E S k g s su sv sw τ → (sm = 1 ∨ (sm = 0 ∧ ∀ i, i < t → ¬ 0 < a * zA1 n X Y E g i + b * zA2 n X Y E g i + c * zA3 n X Y E S g i)) → V 292 [(0, .ref zsc), (1, .ref 0), (3, .int (nI n)), (4, .int (nI F)), (5, .int wv), (6, .int (nI j)), (8, .int (nI (zMl g k))), (9, .long a), (11, .long b), (13, .long c), (15, .int sm), (16, .int (nI t))] [] τ := by
  intro r
  induction r with
  | zero =>
    intro t τ sm htr hs hsm
    have hm16 := @zMl_le g k hk
    refine zq (σ := τ) hV hs.1.1 hs.1.2 3 ?_
    show ((nI (zMl g k)) ≤ (nI t) → V 367 [(0, .ref zsc), (1, .ref 0), (3, .int (nI n)), (4, .int (nI F)), (5, .int wv), (6, .int (nI j)), (8, .int (nI (zMl g k))), (9, .long a), (11, .long b), (13, .long c), (15, .int sm), (16, .int (nI t))] [] τ) ∧ (¬ (nI (zMl g k)) ≤ (nI t) → V 299 [(0, .ref zsc), (1, .ref 0), (3, .int (nI n)), (4, .int (nI F)), (5, .int wv), (6, .int (nI j)), (8, .int (nI (zMl g k))), (9, .long a), (11, .long b), (13, .long c), (15, .int sm), (16, .int (nI t))] [] τ)
    refine ⟨fun _ => ?_, fun hc => absurd (nI_le (a := zMl g k) (b := t) (by omega) (by omega)) hc⟩
    refine zwk hV [0, 1, 2, 3, 4, 5, 6, 7, 8, 9, 10] rfl ?_
    have e1 : sm = 1 := by
      rcases hsm with h | ⟨_, h⟩
      · exact h
      · obtain ⟨i, hi, hl⟩ := hso
        exact absurd hl (h i (by omega))
    rw [e1]
    exact hnx τ hs
  | succ r ihB =>
    intro t τ sm htr hs hsm
    have hm16 := @zMl_le g k hk
    refine zq (σ := τ) hV hs.1.1 hs.1.2 3 ?_
    show ((nI (zMl g k)) ≤ (nI t) → V 367 [(0, .ref zsc), (1, .ref 0), (3, .int (nI n)), (4, .int (nI F)), (5, .int wv), (6, .int (nI j)), (8, .int (nI (zMl g k))), (9, .long a), (11, .long b), (13, .long c), (15, .int sm), (16, .int (nI t))] [] τ) ∧ (¬ (nI (zMl g k)) ≤ (nI t) → V 299 [(0, .ref zsc), (1, .ref 0), (3, .int (nI n)), (4, .int (nI F)), (5, .int wv), (6, .int (nI j)), (8, .int (nI (zMl g k))), (9, .long a), (11, .long b), (13, .long c), (15, .int sm), (16, .int (nI t))] [] τ)
    refine ⟨fun hc => absurd hc (nI_ge (a := t) (b := zMl g k) (by omega) (by omega)), fun _ => ?_⟩
    refine zq (σ := τ) hV hs.1.1 hs.1.2 5 ?_
    show zSp _ _ 58 [.ref 0, .int (nI t), .int 0] τ (fun r σ' => σ'.2.2.2 = τ.2.2.2 + zAl 58 → V 308 [(0, .ref zsc), (1, .ref 0), (3, .int (nI n)), (4, .int (nI F)), (5, .int wv), (6, .int (nI j)), (8, .int (nI (zMl g k))), (9, .long a), (11, .long b), (13, .long c), (15, .int sm), (16, .int (nI t))] (r.toList ++ [.long a]) σ')
    refine push_L0 hs hn10 (by omega) hE (j := t) rfl (by omega) (fun τ1 hs1 _ => ?_)
    refine zq (σ := τ1) hV hs1.1.1 hs1.1.2 6 ?_
    show zSp _ _ 58 [.ref 0, .int (nI t), .int 1] τ1 (fun r σ' => σ'.2.2.2 = τ1.2.2.2 + zAl 58 → V 318 [(0, .ref zsc), (1, .ref 0), (3, .int (nI n)), (4, .int (nI F)), (5, .int wv), (6, .int (nI j)), (8, .int (nI (zMl g k))), (9, .long a), (11, .long b), (13, .long c), (15, .int sm), (16, .int (nI t))] (r.toList ++ [.long b, .long (a * (zA1 n X Y E g t))]) σ')
    refine push_L1 hs1 hn10 (by omega) hE (j := t) rfl (by omega) (fun τ2 hs2 _ => ?_)
    refine zq (σ := τ2) hV hs2.1.1 hs2.1.2 7 ?_
    show zSp _ _ 58 [.ref 0, .int (nI t), .int 2] τ2 (fun r σ' => σ'.2.2.2 = τ2.2.2.2 + zAl 58 → V 329 [(0, .ref zsc), (1, .ref 0), (3, .int (nI n)), (4, .int (nI F)), (5, .int wv), (6, .int (nI j)), (8, .int (nI (zMl g k))), (9, .long a), (11, .long b), (13, .long c), (15, .int sm), (16, .int (nI t))] (r.toList ++ [.long c, .long ((a * (zA1 n X Y E g t)) + (b * (zA2 n X Y E g t)))]) σ')
    refine push_L2 hs2 hn10 (by omega) hE (j := t) rfl (by omega) (fun τ3 hs3 _ => ?_)
    refine zq (σ := τ3) hV hs3.1.1 hs3.1.2 5 ?_
    show (¬ sm = 0 → V 345 [(17, .long (((a * (zA1 n X Y E g t)) + (b * (zA2 n X Y E g t))) + (c * (zA3 n X Y E S g t)))), (0, .ref zsc), (1, .ref 0), (3, .int (nI n)), (4, .int (nI F)), (5, .int wv), (6, .int (nI j)), (8, .int (nI (zMl g k))), (9, .long a), (11, .long b), (13, .long c), (15, .int sm), (16, .int (nI t))] [] τ3) ∧ (¬ (¬ sm = 0) → V 338 [(17, .long (((a * (zA1 n X Y E g t)) + (b * (zA2 n X Y E g t))) + (c * (zA3 n X Y E S g t)))), (0, .ref zsc), (1, .ref 0), (3, .int (nI n)), (4, .int (nI F)), (5, .int wv), (6, .int (nI j)), (8, .int (nI (zMl g k))), (9, .long a), (11, .long b), (13, .long c), (15, .int sm), (16, .int (nI t))] [] τ3)
    refine ⟨fun h_335 => ?_, fun h_335 => ?_⟩
    · skip
      refine zq (σ := τ3) hV hs3.1.1 hs3.1.2 7 ?_
      show (0 ≤ (lg_cmp (((a * (zA1 n X Y E g t)) + (b * (zA2 n X Y E g t))) + (c * (zA3 n X Y E S g t))) 0) → V 361 [(15, .int 1), (17, .long (((a * (zA1 n X Y E g t)) + (b * (zA2 n X Y E g t))) + (c * (zA3 n X Y E S g t)))), (0, .ref zsc), (1, .ref 0), (3, .int (nI n)), (4, .int (nI F)), (5, .int wv), (6, .int (nI j)), (8, .int (nI (zMl g k))), (9, .long a), (11, .long b), (13, .long c), (16, .int (nI t))] [] τ3) ∧ (¬ 0 ≤ (lg_cmp (((a * (zA1 n X Y E g t)) + (b * (zA2 n X Y E g t))) + (c * (zA3 n X Y E S g t))) 0) → V 359 [(15, .int 1), (17, .long (((a * (zA1 n X Y E g t)) + (b * (zA2 n X Y E g t))) + (c * (zA3 n X Y E S g t)))), (0, .ref zsc), (1, .ref 0), (3, .int (nI n)), (4, .int (nI F)), (5, .int wv), (6, .int (nI j)), (8, .int (nI (zMl g k))), (9, .long a), (11, .long b), (13, .long c), (16, .int (nI t))] [] τ3)
      refine ⟨fun _ => ?_, fun hc => absurd (zcmp_ge.mpr (Int64.not_lt.mp (hge t (by omega)))) hc⟩
      refine zq (σ := τ3) hV hs3.1.1 hs3.1.2 2 ?_
      show V 292 [(16, .int ((nI t) + 1)), (15, .int 1), (17, .long (((a * (zA1 n X Y E g t)) + (b * (zA2 n X Y E g t))) + (c * (zA3 n X Y E S g t)))), (0, .ref zsc), (1, .ref 0), (3, .int (nI n)), (4, .int (nI F)), (5, .int wv), (6, .int (nI j)), (8, .int (nI (zMl g k))), (9, .long a), (11, .long b), (13, .long c)] [] τ3
      refine zwk hV [3, 4, 5, 6, 7, 8, 9, 10, 11, 12, 1, 0] rfl ?_
      rw [nI_1 t]
      exact ihB (t + 1) _ _ (by omega) hs3 (Or.inl rfl)
    · skip
      have h_335 := Classical.not_not.mp h_335
      refine zq (σ := τ3) hV hs3.1.1 hs3.1.2 4 ?_
      show ((lg_cmp (((a * (zA1 n X Y E g t)) + (b * (zA2 n X Y E g t))) + (c * (zA3 n X Y E S g t))) 0) ≤ 0 → V 349 [(17, .long (((a * (zA1 n X Y E g t)) + (b * (zA2 n X Y E g t))) + (c * (zA3 n X Y E S g t)))), (0, .ref zsc), (1, .ref 0), (3, .int (nI n)), (4, .int (nI F)), (5, .int wv), (6, .int (nI j)), (8, .int (nI (zMl g k))), (9, .long a), (11, .long b), (13, .long c), (15, .int sm), (16, .int (nI t))] [] τ3) ∧ (¬ (lg_cmp (((a * (zA1 n X Y E g t)) + (b * (zA2 n X Y E g t))) + (c * (zA3 n X Y E S g t))) 0) ≤ 0 → V 345 [(17, .long (((a * (zA1 n X Y E g t)) + (b * (zA2 n X Y E g t))) + (c * (zA3 n X Y E S g t)))), (0, .ref zsc), (1, .ref 0), (3, .int (nI n)), (4, .int (nI F)), (5, .int wv), (6, .int (nI j)), (8, .int (nI (zMl g k))), (9, .long a), (11, .long b), (13, .long c), (15, .int sm), (16, .int (nI t))] [] τ3)
      refine ⟨fun h_342 => ?_, fun h_342 => ?_⟩
      · skip
        refine zq (σ := τ3) hV hs3.1.1 hs3.1.2 6 ?_
        show (0 ≤ (lg_cmp (((a * (zA1 n X Y E g t)) + (b * (zA2 n X Y E g t))) + (c * (zA3 n X Y E S g t))) 0) → V 361 [(15, .int 0), (17, .long (((a * (zA1 n X Y E g t)) + (b * (zA2 n X Y E g t))) + (c * (zA3 n X Y E S g t)))), (0, .ref zsc), (1, .ref 0), (3, .int (nI n)), (4, .int (nI F)), (5, .int wv), (6, .int (nI j)), (8, .int (nI (zMl g k))), (9, .long a), (11, .long b), (13, .long c), (16, .int (nI t))] [] τ3) ∧ (¬ 0 ≤ (lg_cmp (((a * (zA1 n X Y E g t)) + (b * (zA2 n X Y E g t))) + (c * (zA3 n X Y E S g t))) 0) → V 359 [(15, .int 0), (17, .long (((a * (zA1 n X Y E g t)) + (b * (zA2 n X Y E g t))) + (c * (zA3 n X Y E S g t)))), (0, .ref zsc), (1, .ref 0), (3, .int (nI n)), (4, .int (nI F)), (5, .int wv), (6, .int (nI j)), (8, .int (nI (zMl g k))), (9, .long a), (11, .long b), (13, .long c), (16, .int (nI t))] [] τ3)
        refine ⟨fun _ => ?_, fun hc => absurd (zcmp_ge.mpr (Int64.not_lt.mp (hge t (by omega)))) hc⟩
        refine zq (σ := τ3) hV hs3.1.1 hs3.1.2 2 ?_
        show V 292 [(16, .int ((nI t) + 1)), (15, .int 0), (17, .long (((a * (zA1 n X Y E g t)) + (b * (zA2 n X Y E g t))) + (c * (zA3 n X Y E S g t)))), (0, .ref zsc), (1, .ref 0), (3, .int (nI n)), (4, .int (nI F)), (5, .int wv), (6, .int (nI j)), (8, .int (nI (zMl g k))), (9, .long a), (11, .long b), (13, .long c)] [] τ3
        refine zwk hV [3, 4, 5, 6, 7, 8, 9, 10, 11, 12, 1, 0] rfl ?_
        rw [nI_1 t]
        refine ihB (t + 1) _ _ (by omega) hs3 (Or.inr ⟨rfl, fun i hi => ?_⟩)
        by_cases e : i = t
        · rw [e]; exact Int64.not_lt.mpr (zcmp_le.mp h_342)
        · rcases hsm with h | ⟨_, h⟩
          · rw [h] at h_335; exact absurd h_335 (by decide)
          · exact h i (by omega)
      · skip
        refine zq (σ := τ3) hV hs3.1.1 hs3.1.2 7 ?_
        show (0 ≤ (lg_cmp (((a * (zA1 n X Y E g t)) + (b * (zA2 n X Y E g t))) + (c * (zA3 n X Y E S g t))) 0) → V 361 [(15, .int 1), (17, .long (((a * (zA1 n X Y E g t)) + (b * (zA2 n X Y E g t))) + (c * (zA3 n X Y E S g t)))), (0, .ref zsc), (1, .ref 0), (3, .int (nI n)), (4, .int (nI F)), (5, .int wv), (6, .int (nI j)), (8, .int (nI (zMl g k))), (9, .long a), (11, .long b), (13, .long c), (16, .int (nI t))] [] τ3) ∧ (¬ 0 ≤ (lg_cmp (((a * (zA1 n X Y E g t)) + (b * (zA2 n X Y E g t))) + (c * (zA3 n X Y E S g t))) 0) → V 359 [(15, .int 1), (17, .long (((a * (zA1 n X Y E g t)) + (b * (zA2 n X Y E g t))) + (c * (zA3 n X Y E S g t)))), (0, .ref zsc), (1, .ref 0), (3, .int (nI n)), (4, .int (nI F)), (5, .int wv), (6, .int (nI j)), (8, .int (nI (zMl g k))), (9, .long a), (11, .long b), (13, .long c), (16, .int (nI t))] [] τ3)
        refine ⟨fun _ => ?_, fun hc => absurd (zcmp_ge.mpr (Int64.not_lt.mp (hge t (by omega)))) hc⟩
        refine zq (σ := τ3) hV hs3.1.1 hs3.1.2 2 ?_
        show V 292 [(16, .int ((nI t) + 1)), (15, .int 1), (17, .long (((a * (zA1 n X Y E g t)) + (b * (zA2 n X Y E g t))) + (c * (zA3 n X Y E S g t)))), (0, .ref zsc), (1, .ref 0), (3, .int (nI n)), (4, .int (nI F)), (5, .int wv), (6, .int (nI j)), (8, .int (nI (zMl g k))), (9, .long a), (11, .long b), (13, .long c)] [] τ3
        refine zwk hV [3, 4, 5, 6, 7, 8, 9, 10, 11, 12, 1, 0] rfl ?_
        rw [nI_1 t]
        exact ihB (t + 1) _ _ (by omega) hs3 (Or.inl rfl)
