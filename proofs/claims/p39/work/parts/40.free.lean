variable {zx : Nat × (Nat → Int32)}
theorem zHo_congr {n : Nat} {X Y : Nat → Int32} {f : Int32} {E S E' S' : Nat → Int32} {m : Nat} (h : ∀ i, i < m → E i = E' i ∧ S i = S' i) : zHo n X Y f E S m ↔ zHo n X Y f E' S' m := zHold_congr (fun t ht => by
  have hi : zTi f t < m := by unfold zMl at ht; unfold zTi; by_cases q : f = 0 <;> simp only [q, if_true, if_false] at ht ⊢ <;> omega
  obtain ⟨h1, h2⟩ := h _ hi
  have h3 : zEd E (zTi f t) = zEd E' (zTi f t) := by unfold zEd; rw [h1]
  simp only [zl, zT3, zT1, zT2, h3, h2, and_self])
noncomputable def zDc (q : Prop) : Bool := @decide q (Classical.propDecidable q)
theorem zDc_t {q : Prop} (h : q) : zDc q = true := by unfold zDc; exact @decide_eq_true q (Classical.propDecidable q) h
theorem zDc_f {q : Prop} (h : ¬ q) : zDc q = false := by unfold zDc; exact @decide_eq_false q (Classical.propDecidable q) h
theorem zDc_i {q : Prop} : zDc q = true ↔ q := by
  rcases Classical.em q with h | h
  · exact ⟨fun _ => h, fun _ => zDc_t h⟩
  · exact ⟨fun e => absurd ((zDc_f h).symm.trans e) (by decide), fun e => absurd e h⟩
theorem zDc_congr {q q' : Prop} (h : q ↔ q') : zDc q = zDc q' := by rw [propext h]
def zfC (a _j : Nat) : Bool := Nat.ble 7 a && Nat.ble a 13
theorem zfW_C (a j : Nat) (h : zfC a j = false) : zfW a j = false := by
  unfold zfC at h; unfold zfW
  rw [Bool.and_eq_false_iff] at h
  rw [Bool.or_eq_false_iff, Bool.and_eq_false_iff, Bool.and_eq_false_iff]
  have c1 : ∀ x y, Nat.ble x y = false ↔ y < x := fun x y => by rw [← Bool.not_eq_true, Nat.ble_eq]; omega
  have c2 : Nat.beq a 10 = false ↔ a ≠ 10 := by rw [← Bool.not_eq_true, Nat.beq_eq]
  simp only [c1, c2] at h ⊢
  omega
theorem zf7_C (a j : Nat) (h : zfC a j = false) : zf7 a j = false := by
  unfold zfC at h; unfold zf7
  rw [Bool.and_eq_false_iff] at h ⊢
  have c1 : ∀ x y, Nat.ble x y = false ↔ y < x := fun x y => by rw [← Bool.not_eq_true, Nat.ble_eq]; omega
  simp only [c1] at h ⊢
  omega
theorem heldT {d : Nat} {σ τ : zSt} {K : Option Value → zSt → Prop} {n m : Nat} {E S : Nat → Int32} (hI : zQI (kR 0 30) σ.2.2) (hn : σ.1 1 2 = nI n) (hn10 : n ≤ 10) (ht : zOnly zfC σ τ) (hs : τ.1 7 2 = nI m) (hm : m ≤ 8) (hES : ∀ i, i < m → τ.1 8 i = E i ∧ τ.1 9 i = S i) (hE : ∀ i, i < m → ∃ e, E i = nI e ∧ e < n)
    (h1 : ∀ υ, zOnly zfC σ υ → υ.1 7 2 = nI m → (∀ i, υ.1 8 i = τ.1 8 i ∧ υ.1 9 i = τ.1 9 i) → zHo n (σ.1 2) (σ.1 3) (σ.1 0 9) E S m → K (some (.int 1)) υ)
    (h0 : ∀ υ, zOnly zfC σ υ → υ.1 7 2 = nI m → (∀ i, υ.1 8 i = τ.1 8 i ∧ υ.1 9 i = τ.1 9 i) → ¬ zHo n (σ.1 2) (σ.1 3) (σ.1 0 9) E S m → K (some (.int 0)) υ) : zSp zx (d + 4) mX8_isHeldBy [.ref 0, .ref 7] τ K := by
  have hX : τ.1 2 = σ.1 2 := funext fun j => ht.1 2 j rfl
  have hY : τ.1 3 = σ.1 3 := funext fun j => ht.1 3 j rfl
  have hF : τ.1 0 9 = σ.1 0 9 := ht.1 0 9 rfl
  have hC : zHo n (τ.1 2) (τ.1 3) (τ.1 0 9) (τ.1 8) (τ.1 9) m ↔ zHo n (σ.1 2) (σ.1 3) (σ.1 0 9) E S m := by rw [hX, hY, hF]; exact zHo_congr hES
  refine isHeldBy_7 (zQI_eq hI ht.2.2) ((ht.1 1 2 rfl).trans hn) hn10 hs hm (fun i hi => by rw [(hES i hi).1]; exact hE i hi) (fun υ hu q => ?_) (fun υ hu q => ?_)
  · exact h1 υ (ht.tr (hu.wk zfW_C)) ((hu.1 7 2 rfl).trans hs) (fun i => ⟨hu.1 8 i rfl, hu.1 9 i rfl⟩) (hC.mp q)
  · exact h0 υ (ht.tr (hu.wk zfW_C)) ((hu.1 7 2 rfl).trans hs) (fun i => ⟨hu.1 8 i rfl, hu.1 9 i rfl⟩) (fun x => q (hC.mpr x))
def zFr (P : Nat → Bool) : Nat → Nat → Int32 → Int32
  | 0, _, x => x
  | r + 1, k, x => zFr P r (k + 1) (if P k = true then x ||| (1 <<< (nI k &&& 31)) else x)
/-- where one finger may stand: bits -/
noncomputable def zFree (n : Nat) (X Y : Nat → Int32) (f : Int32) (E S : Nat → Int32) (m v : Nat) : Int32 := zFr (fun k => zDc (zHo n X Y f E (upd S v (nI k)) m)) 9 0 0
theorem z8_ge {k : Nat} (h : k < 9) : ¬ (8 : Int32) < nI k := by rw [zlt, nI_toInt (by omega)]; have := zT_lits.2.2.2.2.1; omega
set_option maxRecDepth 8000 in
set_option maxHeartbeats 4000000 in
theorem free_C {d : Nat} {σ : zSt} {K : Option Value → zSt → Prop} {v : Int32} {n m : Nat} (hI : zQI (kR 0 30) σ.2.2) (hn : σ.1 1 2 = nI n) (hn10 : n ≤ 10) (hs : σ.1 4 2 = nI m) (hm : m ≤ 8) (hE : ∀ i, i < m → ∃ e, σ.1 5 i = nI e ∧ e < n) (hBad : ¬ zBt 0 (m - 1) v → K (some (.int (-2))) σ) (hOk : ∀ τ j, zOnly zfC σ τ → v = nI j → j < m → K (some (.int (zFree n (σ.1 2) (σ.1 3) (σ.1 0 9) (σ.1 5) (σ.1 6) m j))) τ) : zSp zx (d + 5) mX8_free [.ref 0, .int v] σ K := by
  refine ⟨⟨by decide, Nat.le_of_ble_eq_true rfl⟩, fun V hV => ?_⟩
  refine zq (σ := σ) hV hI rfl 3 ?_
  show zSp _ _ 78 [.ref 0, .int v] σ (fun r σ' => σ'.2.2.2 = σ.2.2.2 + zAl 78 → V 5 [(0, .ref 0), (1, .int v)] (r.toList ++ []) σ')
  refine isFinger_ok (zR_of hI rfl rfl) hs (by omega) (fun hb1 _ => ?_) (fun hb1 _ => ?_)
  · skip
    refine zq (σ := σ) hV hI rfl 1 ?_
    show (¬ (1 : Int32) = 0 → V 11 [(0, .ref 0), (1, .int v)] [] σ) ∧ (¬ (¬ (1 : Int32) = 0) → V 8 [(0, .ref 0), (1, .int v)] [] σ)
    refine ⟨fun _ => ?_, fun hc => absurd (by decide) hc⟩
    obtain ⟨j, hj, hj2, _⟩ := zNat (x := v) (by unfold zBt at hb1; omega)
    have hjm : j < m := by unfold zBt at hb1; omega
    refine zq (σ := σ) hV hI rfl 5 ?_
    show zSp _ _ 12 [.ref 7, .ref 4] σ (fun r σ' => σ'.2.2.2 = σ.2.2.2 + zAl 12 → V 22 [(0, .ref 0), (1, .int v)] (r.toList ++ []) σ')
    refine become_ok (zR_of hI rfl rfl) hs (by omega) (fun τ ht0 h7 hES _ => ?_)
    have ht := ht0.wk zf7_C
    have hIτ := zQI_eq hI ht.2.2
    have hnτ : τ.2.2.2 = σ.2.2.2 := congrArg Prod.snd ht.2.2
    refine zq (σ := τ) hV hIτ hnτ 4 ?_
    show V 26 [(3, .int 0), (2, .int 0), (0, .ref 0), (1, .int v)] [] τ
    refine zwk hV [2, 3, 1, 0] rfl ?_
    have Hk : ∀ (r : Nat) (k : Nat) (x : Int32) (τ : zSt), k + r = 9 → zOnly zfC σ τ → τ.1 7 2 = nI m → (∀ i, i < m → τ.1 8 i = σ.1 5 i ∧ (¬ i = j → τ.1 9 i = σ.1 6 i)) → zFr (fun k => zDc (zHo n (σ.1 2) (σ.1 3) (σ.1 0 9) (σ.1 5) (upd (σ.1 6) j (nI k)) m)) r k x = zFree n (σ.1 2) (σ.1 3) (σ.1 0 9) (σ.1 5) (σ.1 6) m j → V 26 [(0, .ref 0), (1, .int v), (2, .int x), (3, .int (nI k))] [] τ := by
      intro r
      induction r with
      | zero =>
        intro k x τ hkr ht h7 hES hfin
        have hIτ := zQI_eq hI ht.2.2
        have hnτ : τ.2.2.2 = σ.2.2.2 := congrArg Prod.snd ht.2.2
        refine zq (σ := τ) hV hIτ hnτ 3 ?_
        show (8 < (nI k) → V 72 [(0, .ref 0), (1, .int v), (2, .int x), (3, .int (nI k))] [] τ) ∧ (¬ 8 < (nI k) → V 32 [(0, .ref 0), (1, .int v), (2, .int x), (3, .int (nI k))] [] τ)
        refine ⟨fun _ => ?_, fun hc => absurd (show (8 : Int32) < nI k by rw [show k = 9 by omega]; decide) hc⟩
        refine zq (σ := τ) hV hIτ hnτ 2 ?_
        show K (some (.int x)) τ
        replace hfin : x = _ := hfin
        rw [hfin]
        exact hOk τ j ht hj hjm
      | succ r ihk =>
        intro k x τ hkr ht h7 hES hfin
        have hIτ := zQI_eq hI ht.2.2
        have hnτ : τ.2.2.2 = σ.2.2.2 := congrArg Prod.snd ht.2.2
        refine zq (σ := τ) hV hIτ hnτ 3 ?_
        show (8 < (nI k) → V 72 [(0, .ref 0), (1, .int v), (2, .int x), (3, .int (nI k))] [] τ) ∧ (¬ 8 < (nI k) → V 32 [(0, .ref 0), (1, .int v), (2, .int x), (3, .int (nI k))] [] τ)
        refine ⟨fun hc => absurd hc (show ¬ (8 : Int32) < nI k from z8_ge (by omega)), fun _ => ?_⟩
        refine zq (σ := τ) hV hIτ hnτ 7 ?_
        show zSp _ _ 7 [.ref 4, .int v] τ (fun r σ' => σ'.2.2.2 = τ.2.2.2 + zAl 7 → V 45 [(0, .ref 0), (1, .int v), (2, .int x), (3, .int (nI k))] (r.toList ++ [.int v, .ref 7]) σ')
        refine hedge_4 (zR_of hIτ rfl rfl) hj (by omega) (fun _ => ?_)
        refine zq (σ := τ) hV hIτ hnτ 2 ?_
        show zSp _ _ 11 [.ref 7, .int v, .int (τ.1 5 j), .int (nI k)] τ (fun r σ' => σ'.2.2.2 = τ.2.2.2 + zAl 11 → V 49 [(0, .ref 0), (1, .int v), (2, .int x), (3, .int (nI k))] (r.toList ++ []) σ')
        refine hstand_7 (zR_of hIτ rfl rfl) hj (by omega) (fun _ => ?_)
        refine zq (σ := (zuI (zuI τ 8 j (τ.1 5 j)) 9 j (nI k))) hV hIτ hnτ 4 ?_
        show zSp _ _ 65 [.ref 0, .ref 7] (zuI (zuI τ 8 j (τ.1 5 j)) 9 j (nI k)) (fun r σ' => σ'.2.2.2 = (zuI (zuI τ 8 j (τ.1 5 j)) 9 j (nI k)).2.2.2 + zAl 65 → V 57 [(0, .ref 0), (1, .int v), (2, .int x), (3, .int (nI k))] (r.toList ++ []) σ')
        have hE8 : τ.1 5 j = σ.1 5 j := ht.1 5 j rfl
        refine heldT hI hn hn10 (E := σ.1 5) (S := upd (σ.1 6) j (nI k)) ((ht.uI rfl).uI rfl) h7 hm (fun i hi => ?_) hE (fun υ hu hu7 hue hq _ => ?_) (fun υ hu hu7 hue hq _ => ?_)
        · simp only [zuI_get]
          unfold upd
          by_cases e : i = j
          · subst e; simp [hE8]
          · have := hES i hi; simp [e, this]
        · skip
          have hIυ := zQI_eq hI hu.2.2
          have hnυ : υ.2.2.2 = σ.2.2.2 := congrArg Prod.snd hu.2.2
          refine zq (σ := υ) hV hIυ hnυ 1 ?_
          show ((1 : Int32) = 0 → V 66 [(0, .ref 0), (1, .int v), (2, .int x), (3, .int (nI k))] [] υ) ∧ (¬ (1 : Int32) = 0 → V 60 [(0, .ref 0), (1, .int v), (2, .int x), (3, .int (nI k))] [] υ)
          refine ⟨fun hc => absurd hc (by decide), fun _ => ?_⟩
          refine zq (σ := υ) hV hIυ hnυ 8 ?_
          show V 26 [(3, .int ((nI k) + 1)), (2, .int (x ||| (1 <<< ((nI k) &&& 31)))), (0, .ref 0), (1, .int v)] [] υ
          refine zwk hV [2, 3, 1, 0] rfl ?_
          rw [nI_1]
          refine ihk (k + 1) _ υ (by omega) hu hu7 (fun i hi => ?_) ?_
          · rw [(hue i).1, (hue i).2, zuI_get, zuI_get, zuI_get, zuI_get]
            by_cases e : i = j
            · subst e; simp [hE8]
            · have := hES i hi; simp [e, this]
          · rw [← hfin]
            show _ = zFr (fun k => zDc (zHo n (σ.1 2) (σ.1 3) (σ.1 0 9) (σ.1 5) (upd (σ.1 6) j (nI k)) m)) r (k + 1) (if zDc (zHo n (σ.1 2) (σ.1 3) (σ.1 0 9) (σ.1 5) (upd (σ.1 6) j (nI k)) m) = true then x ||| (1 <<< (nI k &&& 31)) else x)
            rw [zDc_t hq, if_pos rfl]
        · skip
          have hIυ := zQI_eq hI hu.2.2
          have hnυ : υ.2.2.2 = σ.2.2.2 := congrArg Prod.snd hu.2.2
          refine zq (σ := υ) hV hIυ hnυ 1 ?_
          show ((0 : Int32) = 0 → V 66 [(0, .ref 0), (1, .int v), (2, .int x), (3, .int (nI k))] [] υ) ∧ (¬ (0 : Int32) = 0 → V 60 [(0, .ref 0), (1, .int v), (2, .int x), (3, .int (nI k))] [] υ)
          refine ⟨fun _ => ?_, fun hc => absurd (by decide) hc⟩
          refine zq (σ := υ) hV hIυ hnυ 2 ?_
          show V 26 [(3, .int ((nI k) + 1)), (0, .ref 0), (1, .int v), (2, .int x)] [] υ
          refine zwk hV [1, 2, 3, 0] rfl ?_
          rw [nI_1]
          refine ihk (k + 1) _ υ (by omega) hu hu7 (fun i hi => ?_) ?_
          · rw [(hue i).1, (hue i).2, zuI_get, zuI_get, zuI_get, zuI_get]
            by_cases e : i = j
            · subst e; simp [hE8]
            · have := hES i hi; simp [e, this]
          · rw [← hfin]
            show _ = zFr (fun k => zDc (zHo n (σ.1 2) (σ.1 3) (σ.1 0 9) (σ.1 5) (upd (σ.1 6) j (nI k)) m)) r (k + 1) (if zDc (zHo n (σ.1 2) (σ.1 3) (σ.1 0 9) (σ.1 5) (upd (σ.1 6) j (nI k)) m) = true then x ||| (1 <<< (nI k &&& 31)) else x)
            rw [zDc_f hq, if_neg (by decide)]
    exact Hk 9 0 0 τ rfl ht h7 (fun i hi => ⟨(hES i hi).1, fun _ => (hES i hi).2⟩) rfl
  · skip
    refine zq (σ := σ) hV hI rfl 1 ?_
    show (¬ (0 : Int32) = 0 → V 11 [(0, .ref 0), (1, .int v)] [] σ) ∧ (¬ (¬ (0 : Int32) = 0) → V 8 [(0, .ref 0), (1, .int v)] [] σ)
    refine ⟨fun hc => absurd hc (by decide), fun _ => ?_⟩
    refine zq (σ := σ) hV hI rfl 2 ?_
    show K (some (.int (-2))) σ
    exact hBad hb1
