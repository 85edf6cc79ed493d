theorem zn_a {x y : Int32} {a b : Nat} (h : x = nI a) (g : y = nI b) : x + y = nI (a + b) := by rw [h, g, nI_add]
theorem zn_m {x y : Int32} {a b : Nat} (h : x = nI a) (g : y = nI b) : x * y = nI (a * b) := by rw [h, g, pk_mul]
theorem zn_s {x y : Int32} {a b : Nat} (q : b ≤ a) (h : x = nI a) (g : y = nI b) : x - y = nI (a - b) := by rw [h, g, pk_sub q]
def zDa (c : Nat → Int32) : Nat → Nat → Int64 → Int64
  | 0, _, h => h
  | r + 1, i, h => zDa c r (i + 1) (if i = 6 then h else 31 * h + Int32.toInt64 (c i))
def zDb (X Y : Nat → Int32) : Nat → Nat → Int64 → Int64
  | 0, _, h => h
  | r + 1, i, h => zDb X Y r (i + 1) (31 * (31 * h + Int32.toInt64 (X i)) + Int32.toInt64 (Y i))
def zDt (A B C : Nat → Int64) : Nat → Nat → Int64 → Int64
  | 0, _, h => h
  | r + 1, t, h => zDt A B C r (t + 1) (31 * (31 * (31 * h + A t) + B t) + C t)
/-- the digest -/
noncomputable def zDgst (c : Nat → Int32) (n : Nat) (X Y : Nat → Int32) (f : Int32) (E S : Nat → Int32) (m : Nat) (po st : Int32) : Int64 := 31 * (31 * (31 * zDt (zl (zT1 n X Y f E)) (zl (zT2 n X Y f E)) (zl (zT3 n X Y f E S)) (zMl f m) 0 (zDb X Y n 0 (zDa c 9 0 17)) + Int32.toInt64 (zb (zDc (zHo n X Y f E S m)))) + Int32.toInt64 po) + Int32.toInt64 st
set_option maxRecDepth 8000 in
set_option maxHeartbeats 4000000 in
theorem digest_C {d : Nat} {σ : zSt} {K : Option Value → zSt → Prop} {n m mp l nb : Nat} (hI : zQI (kR 0 30) σ.2.2) (hn : σ.1 1 2 = nI n) (hn10 : n ≤ 10) (hs : σ.1 4 2 = nI m) (hm : m ≤ 8) (hE : ∀ i, i < m → ∃ e, σ.1 5 i = nI e ∧ e < n) (hp : σ.1 18 2 = nI mp) (hmp : mp ≤ 20) (hl : σ.1 28 0 = nI l) (hl60 : l ≤ 60) (hb : σ.1 24 2 = nI nb) (hnb : nb ≤ 12) (hK : ∀ τ, zOnly zfW σ τ → K (some (.long (zDgst (fun w => zCt (σ.1 1 2) (σ.1 4 2) (σ.1 0 9) (σ.1 14 3) (σ.1 18 2) (σ.1 21 2) (σ.1 26 3) (σ.1 24 1) (σ.1 24 2) (nI w)) n (σ.1 2) (σ.1 3) (σ.1 0 9) (σ.1 5) (σ.1 6) m (zCo (zFp n (σ.1 2) (σ.1 3) (σ.1 19) (σ.1 20) (fun j => σ.1 29 (0 * 60 + j)) l mp) 81) (zStk (σ.1 25) nb (σ.1 24 1))))) τ) : zSp (d + 6) mX8_digest [.ref 0] σ K := by
  refine ⟨⟨by decide, Nat.le_of_ble_eq_true rfl⟩, fun V hV => ?_⟩
  refine zq (σ := σ) hV hI rfl 4 ?_
  show V 6 [(3, .int 0), (1, .long 17), (0, .ref 0)] [] σ
  refine zwk hV [2, 1, 0] rfl ?_
  have Ha : ∀ (r : Nat) (i : Nat) (h : Int64), i + r = 9 → zDa (fun w => zCt (σ.1 1 2) (σ.1 4 2) (σ.1 0 9) (σ.1 14 3) (σ.1 18 2) (σ.1 21 2) (σ.1 26 3) (σ.1 24 1) (σ.1 24 2) (nI w)) r i h = zDa (fun w => zCt (σ.1 1 2) (σ.1 4 2) (σ.1 0 9) (σ.1 14 3) (σ.1 18 2) (σ.1 21 2) (σ.1 26 3) (σ.1 24 1) (σ.1 24 2) (nI w)) 9 0 17 → V 6 [(0, .ref 0), (1, .long h), (3, .int (nI i))] [] σ := by
    intro r
    induction r with
    | zero =>
      intro i h hir hfin
      refine zq (σ := σ) hV hI rfl 3 ?_
      show (8 < (nI i) → V 37 [(0, .ref 0), (1, .long h), (3, .int (nI i))] [] σ) ∧ (¬ 8 < (nI i) → V 12 [(0, .ref 0), (1, .long h), (3, .int (nI i))] [] σ)
      refine ⟨fun _ => ?_, fun hc => absurd (show (8 : Int32) < nI i by rw [show i = 9 by omega]; decide) hc⟩
      refine zq (σ := σ) hV hI rfl 2 ?_
      show V 39 [(3, .int 0), (0, .ref 0), (1, .long h)] [] σ
      refine zwk hV [1, 2, 0] rfl ?_
      have Hb : ∀ (r : Nat) (i : Nat) (g : Int64), i + r = n → zDb (σ.1 2) (σ.1 3) r i g = zDb (σ.1 2) (σ.1 3) n 0 (zDa (fun w => zCt (σ.1 1 2) (σ.1 4 2) (σ.1 0 9) (σ.1 14 3) (σ.1 18 2) (σ.1 21 2) (σ.1 26 3) (σ.1 24 1) (σ.1 24 2) (nI w)) 9 0 17) → V 39 [(0, .ref 0), (1, .long g), (3, .int (nI i))] [] σ := by
        intro r
        induction r with
        | zero =>
          intro i g hirb hgin
          refine zq (σ := σ) hV hI rfl 4 ?_
          show zSp _ 27 [.ref 1] σ (fun r σ' => σ'.2.2.2 = σ.2.2.2 + zAl 27 → V 47 [(0, .ref 0), (1, .long g), (3, .int (nI i))] (r.toList ++ [.int (nI i)]) σ')
          refine corners_ok (zR_of hI rfl rfl) (fun _ => ?_)
          refine zq (σ := σ) hV hI rfl 1 ?_
          show ((σ.1 1 2) ≤ (nI i) → V 88 [(0, .ref 0), (1, .long g), (3, .int (nI i))] [] σ) ∧ (¬ (σ.1 1 2) ≤ (nI i) → V 50 [(0, .ref 0), (1, .long g), (3, .int (nI i))] [] σ)
          refine ⟨fun _ => ?_, fun hc => absurd (show (σ.1 1 2) ≤ nI i by rw [hn]; exact zge_self (by omega)) hc⟩
          refine zq (σ := σ) hV hI rfl 9 ?_
          show zSp _ 68 [.ref 10, .ref 4, .ref 1, .int (σ.1 0 9)] σ (fun r σ' => σ'.2.2.2 = σ.2.2.2 + zAl 68 → V 107 [(0, .ref 0), (1, .long g), (3, .int (nI i))] (r.toList ++ []) σ')
          refine press_4 (zR_of hI rfl rfl) hn hn10 hs hm hE (fun τ ht h10 hT _ => ?_)
          have htW := ht.wk zfT_W
          have hIτ := zQI_eq hI ht.2.2
          have hnτ : τ.2.2.2 = σ.2.2.2 := congrArg Prod.snd ht.2.2
          have e2 : τ.1 2 = σ.1 2 := funext fun j => ht.1 2 j rfl
          have e3 : τ.1 3 = σ.1 3 := funext fun j => ht.1 3 j rfl
          have e5 : τ.1 5 = σ.1 5 := funext fun j => ht.1 5 j rfl
          have e6 : τ.1 6 = σ.1 6 := funext fun j => ht.1 6 j rfl
          have e19 : τ.1 19 = σ.1 19 := funext fun j => ht.1 19 j rfl
          have e20 : τ.1 20 = σ.1 20 := funext fun j => ht.1 20 j rfl
          have e25 : τ.1 25 = σ.1 25 := funext fun j => ht.1 25 j rfl
          have e9 : τ.1 0 9 = σ.1 0 9 := ht.1 0 9 rfl
          have hml := @zMl_le (σ.1 0 9) m hm
          refine zq (σ := τ) hV hIτ hnτ 2 ?_
          show V 109 [(3, .int 0), (0, .ref 0), (1, .long g)] [] τ
          refine zwk hV [1, 2, 0] rfl ?_
          have Ht : ∀ (r : Nat) (t : Nat) (q : Int64), t + r = zMl (σ.1 0 9) m → zDt (zl (zT1 n (σ.1 2) (σ.1 3) (σ.1 0 9) (σ.1 5))) (zl (zT2 n (σ.1 2) (σ.1 3) (σ.1 0 9) (σ.1 5))) (zl (zT3 n (σ.1 2) (σ.1 3) (σ.1 0 9) (σ.1 5) (σ.1 6))) r t q = zDt (zl (zT1 n (σ.1 2) (σ.1 3) (σ.1 0 9) (σ.1 5))) (zl (zT2 n (σ.1 2) (σ.1 3) (σ.1 0 9) (σ.1 5))) (zl (zT3 n (σ.1 2) (σ.1 3) (σ.1 0 9) (σ.1 5) (σ.1 6))) (zMl (σ.1 0 9) m) 0 (zDb (σ.1 2) (σ.1 3) n 0 (zDa (fun w => zCt (σ.1 1 2) (σ.1 4 2) (σ.1 0 9) (σ.1 14 3) (σ.1 18 2) (σ.1 21 2) (σ.1 26 3) (σ.1 24 1) (σ.1 24 2) (nI w)) 9 0 17)) → V 109 [(0, .ref 0), (1, .long q), (3, .int (nI t))] [] τ := by
            intro r
            induction r with
            | zero =>
              intro t q htr hqin
              refine zq (σ := τ) hV hIτ hnτ 4 ?_
              show zSp _ 66 [.ref 10] τ (fun r σ' => σ'.2.2.2 = τ.2.2.2 + zAl 66 → V 117 [(0, .ref 0), (1, .long q), (3, .int (nI t))] (r.toList ++ [.int (nI t)]) σ')
              refine tsize_ok (zR_of hIτ rfl rfl) (fun _ => ?_)
              rw [h10]
              refine zq (σ := τ) hV hIτ hnτ 1 ?_
              show ((nI (zMl (σ.1 0 9) m)) ≤ (nI t) → V 159 [(0, .ref 0), (1, .long q), (3, .int (nI t))] [] τ) ∧ (¬ (nI (zMl (σ.1 0 9) m)) ≤ (nI t) → V 120 [(0, .ref 0), (1, .long q), (3, .int (nI t))] [] τ)
              refine ⟨fun _ => ?_, fun hc => absurd (show nI (zMl (σ.1 0 9) m) ≤ nI t from zge_self (by omega)) hc⟩
              refine zq (σ := τ) hV hIτ hnτ 5 ?_
              show zSp _ 86 [.ref 0] τ (fun r σ' => σ'.2.2.2 = τ.2.2.2 + zAl 86 → V 168 [(0, .ref 0), (1, .long q), (3, .int (nI t))] (r.toList ++ [.long (31 * q)]) σ')
              refine holds_C hIτ ((ht.1 1 2 rfl).trans hn) hn10 ((ht.1 4 2 rfl).trans hs) hm (by rw [e5]; exact hE) (fun υ hu0 hq _ => ?_) (fun υ hu0 hq _ => ?_)
              · skip
                have hu := htW.tr hu0
                have hIυ := zQI_eq hI hu.2.2
                have hnυ : υ.2.2.2 = σ.2.2.2 := congrArg Prod.snd hu.2.2
                rw [e2, e3, e9, e5, e6] at hq
                have u2 : υ.1 2 = σ.1 2 := funext fun j => hu.1 2 j rfl
                have u3 : υ.1 3 = σ.1 3 := funext fun j => hu.1 3 j rfl
                have u19 : υ.1 19 = σ.1 19 := funext fun j => hu.1 19 j rfl
                have u20 : υ.1 20 = σ.1 20 := funext fun j => hu.1 20 j rfl
                have u25 : υ.1 25 = σ.1 25 := funext fun j => hu.1 25 j rfl
                have u29 : υ.1 29 = σ.1 29 := funext fun j => hu.1 29 j rfl
                have u24 : υ.1 24 1 = σ.1 24 1 := hu.1 24 1 rfl
                refine zq (σ := υ) hV hIυ hnυ 8 ?_
                show zSp _ 99 [.ref 0] υ (fun r σ' => σ'.2.2.2 = υ.2.2.2 + zAl 99 → V 180 [(1, .long ((31 * q) + (Int32.toInt64 1))), (0, .ref 0), (3, .int (nI t))] (r.toList ++ [.long (31 * ((31 * q) + (Int32.toInt64 1)))]) σ')
                refine poses_C hIυ ((hu.1 1 2 rfl).trans hn) hn10 ((hu.1 18 2 rfl).trans hp) hmp ((hu.1 28 0 rfl).trans hl) hl60 ?_
                rw [u2, u3, u19, u20, u29]
                intro _
                refine zq (σ := υ) hV hIυ hnυ 8 ?_
                show zSp _ 109 [.ref 0] υ (fun r σ' => σ'.2.2.2 = υ.2.2.2 + zAl 109 → V 192 [(1, .long ((31 * ((31 * q) + (Int32.toInt64 1))) + (Int32.toInt64 (zCo (zFp n (σ.1 2) (σ.1 3) (σ.1 19) (σ.1 20) (fun j => σ.1 29 (0 * 60 + j)) l mp) 81)))), (0, .ref 0), (3, .int (nI t))] (r.toList ++ [.long (31 * ((31 * ((31 * q) + (Int32.toInt64 1))) + (Int32.toInt64 (zCo (zFp n (σ.1 2) (σ.1 3) (σ.1 19) (σ.1 20) (fun j => σ.1 29 (0 * 60 + j)) l mp) 81))))]) σ')
                refine stuck_C hIυ ((hu.1 24 2 rfl).trans hb) hnb ?_
                rw [u25, u24]
                intro _
                refine zq (σ := υ) hV hIυ hnυ 3 ?_
                show K (some (.long ((31 * ((31 * ((31 * q) + (Int32.toInt64 1))) + (Int32.toInt64 (zCo (zFp n (σ.1 2) (σ.1 3) (σ.1 19) (σ.1 20) (fun j => σ.1 29 (0 * 60 + j)) l mp) 81)))) + (Int32.toInt64 (zStk (σ.1 25) nb (σ.1 24 1)))))) υ
                replace hqin : q = _ := hqin
                have hk := hK υ hu
                unfold zDgst at hk
                rw [zDc_t hq] at hk
                rw [hqin]
                exact hk
              · skip
                have hu := htW.tr hu0
                have hIυ := zQI_eq hI hu.2.2
                have hnυ : υ.2.2.2 = σ.2.2.2 := congrArg Prod.snd hu.2.2
                rw [e2, e3, e9, e5, e6] at hq
                have u2 : υ.1 2 = σ.1 2 := funext fun j => hu.1 2 j rfl
                have u3 : υ.1 3 = σ.1 3 := funext fun j => hu.1 3 j rfl
                have u19 : υ.1 19 = σ.1 19 := funext fun j => hu.1 19 j rfl
                have u20 : υ.1 20 = σ.1 20 := funext fun j => hu.1 20 j rfl
                have u25 : υ.1 25 = σ.1 25 := funext fun j => hu.1 25 j rfl
                have u29 : υ.1 29 = σ.1 29 := funext fun j => hu.1 29 j rfl
                have u24 : υ.1 24 1 = σ.1 24 1 := hu.1 24 1 rfl
                refine zq (σ := υ) hV hIυ hnυ 8 ?_
                show zSp _ 99 [.ref 0] υ (fun r σ' => σ'.2.2.2 = υ.2.2.2 + zAl 99 → V 180 [(1, .long ((31 * q) + (Int32.toInt64 0))), (0, .ref 0), (3, .int (nI t))] (r.toList ++ [.long (31 * ((31 * q) + (Int32.toInt64 0)))]) σ')
                refine poses_C hIυ ((hu.1 1 2 rfl).trans hn) hn10 ((hu.1 18 2 rfl).trans hp) hmp ((hu.1 28 0 rfl).trans hl) hl60 ?_
                rw [u2, u3, u19, u20, u29]
                intro _
                refine zq (σ := υ) hV hIυ hnυ 8 ?_
                show zSp _ 109 [.ref 0] υ (fun r σ' => σ'.2.2.2 = υ.2.2.2 + zAl 109 → V 192 [(1, .long ((31 * ((31 * q) + (Int32.toInt64 0))) + (Int32.toInt64 (zCo (zFp n (σ.1 2) (σ.1 3) (σ.1 19) (σ.1 20) (fun j => σ.1 29 (0 * 60 + j)) l mp) 81)))), (0, .ref 0), (3, .int (nI t))] (r.toList ++ [.long (31 * ((31 * ((31 * q) + (Int32.toInt64 0))) + (Int32.toInt64 (zCo (zFp n (σ.1 2) (σ.1 3) (σ.1 19) (σ.1 20) (fun j => σ.1 29 (0 * 60 + j)) l mp) 81))))]) σ')
                refine stuck_C hIυ ((hu.1 24 2 rfl).trans hb) hnb ?_
                rw [u25, u24]
                intro _
                refine zq (σ := υ) hV hIυ hnυ 3 ?_
                show K (some (.long ((31 * ((31 * ((31 * q) + (Int32.toInt64 0))) + (Int32.toInt64 (zCo (zFp n (σ.1 2) (σ.1 3) (σ.1 19) (σ.1 20) (fun j => σ.1 29 (0 * 60 + j)) l mp) 81)))) + (Int32.toInt64 (zStk (σ.1 25) nb (σ.1 24 1)))))) υ
                replace hqin : q = _ := hqin
                have hk := hK υ hu
                unfold zDgst at hk
                rw [zDc_f hq] at hk
                rw [hqin]
                exact hk
            | succ r iht =>
              intro t q htr hqin
              refine zq (σ := τ) hV hIτ hnτ 4 ?_
              show zSp _ 66 [.ref 10] τ (fun r σ' => σ'.2.2.2 = τ.2.2.2 + zAl 66 → V 117 [(0, .ref 0), (1, .long q), (3, .int (nI t))] (r.toList ++ [.int (nI t)]) σ')
              refine tsize_ok (zR_of hIτ rfl rfl) (fun _ => ?_)
              rw [h10]
              refine zq (σ := τ) hV hIτ hnτ 1 ?_
              show ((nI (zMl (σ.1 0 9) m)) ≤ (nI t) → V 159 [(0, .ref 0), (1, .long q), (3, .int (nI t))] [] τ) ∧ (¬ (nI (zMl (σ.1 0 9) m)) ≤ (nI t) → V 120 [(0, .ref 0), (1, .long q), (3, .int (nI t))] [] τ)
              refine ⟨fun hc => absurd hc (show ¬ nI (zMl (σ.1 0 9) m) ≤ nI t from nI_ge (by omega) (by omega)), fun _ => ?_⟩
              refine zq (σ := τ) hV hIτ hnτ 2 ?_
              show V 123 [(4, .int 0), (0, .ref 0), (1, .long q), (3, .int (nI t))] [] τ
              refine zwk hV [1, 2, 3, 0] rfl ?_
              refine zq (σ := τ) hV hIτ hnτ 3 ?_
              show (3 ≤ (0 : Int32) → V 153 [(0, .ref 0), (1, .long q), (3, .int (nI t)), (4, .int 0)] [] τ) ∧ (¬ 3 ≤ (0 : Int32) → V 129 [(0, .ref 0), (1, .long q), (3, .int (nI t)), (4, .int 0)] [] τ)
              refine ⟨fun hc => absurd hc (by decide), fun _ => ?_⟩
              refine zq (σ := τ) hV hIτ hnτ 8 ?_
              show zSp _ 67 [.ref 10, .int (nI t), .int 0] τ (fun r σ' => σ'.2.2.2 = τ.2.2.2 + zAl 67 → V 144 [(0, .ref 0), (1, .long q), (3, .int (nI t)), (4, .int 0)] (r.toList ++ [.long (31 * q)]) σ')
              refine tpart_ok (zR_of hIτ rfl rfl) rfl (by omega) (fun _ => ?_)
              rw [if_pos rfl, (hT t (by omega)).1]
              refine zq (σ := τ) hV hIτ hnτ 5 ?_
              show V 123 [(4, .int (0 + 1)), (1, .long ((31 * q) + (Int32.toInt64 (zT1 n (σ.1 2) (σ.1 3) (σ.1 0 9) (σ.1 5) t)))), (0, .ref 0), (3, .int (nI t))] [] τ
              rw [show ((0 + 1) : Int32) = 1 from by decide]
              refine zwk hV [2, 1, 3, 0] rfl ?_
              refine zq (σ := τ) hV hIτ hnτ 3 ?_
              show (3 ≤ (1 : Int32) → V 153 [(0, .ref 0), (1, .long ((31 * q) + (Int32.toInt64 (zT1 n (σ.1 2) (σ.1 3) (σ.1 0 9) (σ.1 5) t)))), (3, .int (nI t)), (4, .int 1)] [] τ) ∧ (¬ 3 ≤ (1 : Int32) → V 129 [(0, .ref 0), (1, .long ((31 * q) + (Int32.toInt64 (zT1 n (σ.1 2) (σ.1 3) (σ.1 0 9) (σ.1 5) t)))), (3, .int (nI t)), (4, .int 1)] [] τ)
              refine ⟨fun hc => absurd hc (by decide), fun _ => ?_⟩
              refine zq (σ := τ) hV hIτ hnτ 8 ?_
              show zSp _ 67 [.ref 10, .int (nI t), .int 1] τ (fun r σ' => σ'.2.2.2 = τ.2.2.2 + zAl 67 → V 144 [(0, .ref 0), (1, .long ((31 * q) + (Int32.toInt64 (zT1 n (σ.1 2) (σ.1 3) (σ.1 0 9) (σ.1 5) t)))), (3, .int (nI t)), (4, .int 1)] (r.toList ++ [.long (31 * ((31 * q) + (Int32.toInt64 (zT1 n (σ.1 2) (σ.1 3) (σ.1 0 9) (σ.1 5) t))))]) σ')
              refine tpart_ok (zR_of hIτ rfl rfl) rfl (by omega) (fun _ => ?_)
              rw [if_neg (by decide), if_pos rfl, (hT t (by omega)).2.1]
              refine zq (σ := τ) hV hIτ hnτ 5 ?_
              show V 123 [(4, .int (1 + 1)), (1, .long ((31 * ((31 * q) + (Int32.toInt64 (zT1 n (σ.1 2) (σ.1 3) (σ.1 0 9) (σ.1 5) t)))) + (Int32.toInt64 (zT2 n (σ.1 2) (σ.1 3) (σ.1 0 9) (σ.1 5) t)))), (0, .ref 0), (3, .int (nI t))] [] τ
              rw [show ((1 + 1) : Int32) = 2 from by decide]
              refine zwk hV [2, 1, 3, 0] rfl ?_
              refine zq (σ := τ) hV hIτ hnτ 3 ?_
              show (3 ≤ (2 : Int32) → V 153 [(0, .ref 0), (1, .long ((31 * ((31 * q) + (Int32.toInt64 (zT1 n (σ.1 2) (σ.1 3) (σ.1 0 9) (σ.1 5) t)))) + (Int32.toInt64 (zT2 n (σ.1 2) (σ.1 3) (σ.1 0 9) (σ.1 5) t)))), (3, .int (nI t)), (4, .int 2)] [] τ) ∧ (¬ 3 ≤ (2 : Int32) → V 129 [(0, .ref 0), (1, .long ((31 * ((31 * q) + (Int32.toInt64 (zT1 n (σ.1 2) (σ.1 3) (σ.1 0 9) (σ.1 5) t)))) + (Int32.toInt64 (zT2 n (σ.1 2) (σ.1 3) (σ.1 0 9) (σ.1 5) t)))), (3, .int (nI t)), (4, .int 2)] [] τ)
              refine ⟨fun hc => absurd hc (by decide), fun _ => ?_⟩
              refine zq (σ := τ) hV hIτ hnτ 8 ?_
              show zSp _ 67 [.ref 10, .int (nI t), .int 2] τ (fun r σ' => σ'.2.2.2 = τ.2.2.2 + zAl 67 → V 144 [(0, .ref 0), (1, .long ((31 * ((31 * q) + (Int32.toInt64 (zT1 n (σ.1 2) (σ.1 3) (σ.1 0 9) (σ.1 5) t)))) + (Int32.toInt64 (zT2 n (σ.1 2) (σ.1 3) (σ.1 0 9) (σ.1 5) t)))), (3, .int (nI t)), (4, .int 2)] (r.toList ++ [.long (31 * ((31 * ((31 * q) + (Int32.toInt64 (zT1 n (σ.1 2) (σ.1 3) (σ.1 0 9) (σ.1 5) t)))) + (Int32.toInt64 (zT2 n (σ.1 2) (σ.1 3) (σ.1 0 9) (σ.1 5) t))))]) σ')
              refine tpart_ok (zR_of hIτ rfl rfl) rfl (by omega) (fun _ => ?_)
              rw [if_neg (by decide), if_neg (by decide), (hT t (by omega)).2.2]
              refine zq (σ := τ) hV hIτ hnτ 5 ?_
              show V 123 [(4, .int (2 + 1)), (1, .long ((31 * ((31 * ((31 * q) + (Int32.toInt64 (zT1 n (σ.1 2) (σ.1 3) (σ.1 0 9) (σ.1 5) t)))) + (Int32.toInt64 (zT2 n (σ.1 2) (σ.1 3) (σ.1 0 9) (σ.1 5) t)))) + (Int32.toInt64 (zT3 n (σ.1 2) (σ.1 3) (σ.1 0 9) (σ.1 5) (σ.1 6) t)))), (0, .ref 0), (3, .int (nI t))] [] τ
              rw [show ((2 + 1) : Int32) = 3 from by decide]
              refine zwk hV [2, 1, 3, 0] rfl ?_
              refine zq (σ := τ) hV hIτ hnτ 3 ?_
              show ((3 : Int32) ≤ 3 → V 153 [(0, .ref 0), (1, .long ((31 * ((31 * ((31 * q) + (Int32.toInt64 (zT1 n (σ.1 2) (σ.1 3) (σ.1 0 9) (σ.1 5) t)))) + (Int32.toInt64 (zT2 n (σ.1 2) (σ.1 3) (σ.1 0 9) (σ.1 5) t)))) + (Int32.toInt64 (zT3 n (σ.1 2) (σ.1 3) (σ.1 0 9) (σ.1 5) (σ.1 6) t)))), (3, .int (nI t)), (4, .int 3)] [] τ) ∧ (¬ (3 : Int32) ≤ 3 → V 129 [(0, .ref 0), (1, .long ((31 * ((31 * ((31 * q) + (Int32.toInt64 (zT1 n (σ.1 2) (σ.1 3) (σ.1 0 9) (σ.1 5) t)))) + (Int32.toInt64 (zT2 n (σ.1 2) (σ.1 3) (σ.1 0 9) (σ.1 5) t)))) + (Int32.toInt64 (zT3 n (σ.1 2) (σ.1 3) (σ.1 0 9) (σ.1 5) (σ.1 6) t)))), (3, .int (nI t)), (4, .int 3)] [] τ)
              refine ⟨fun _ => ?_, fun hc => absurd (by decide) hc⟩
              refine zq (σ := τ) hV hIτ hnτ 2 ?_
              show V 109 [(3, .int ((nI t) + 1)), (0, .ref 0), (1, .long ((31 * ((31 * ((31 * q) + (Int32.toInt64 (zT1 n (σ.1 2) (σ.1 3) (σ.1 0 9) (σ.1 5) t)))) + (Int32.toInt64 (zT2 n (σ.1 2) (σ.1 3) (σ.1 0 9) (σ.1 5) t)))) + (Int32.toInt64 (zT3 n (σ.1 2) (σ.1 3) (σ.1 0 9) (σ.1 5) (σ.1 6) t)))), (4, .int 3)] [] τ
              refine zwk hV [1, 2, 0] rfl ?_
              rw [nI_1]
              exact iht (t + 1) _ (by omega) hqin
          replace hgin : g = _ := hgin
          exact Ht (zMl (σ.1 0 9) m) 0 g (by omega) (by rw [hgin])
        | succ r ihb =>
          intro i g hirb hgin
          refine zq (σ := σ) hV hI rfl 4 ?_
          show zSp _ 27 [.ref 1] σ (fun r σ' => σ'.2.2.2 = σ.2.2.2 + zAl 27 → V 47 [(0, .ref 0), (1, .long g), (3, .int (nI i))] (r.toList ++ [.int (nI i)]) σ')
          refine corners_ok (zR_of hI rfl rfl) (fun _ => ?_)
          refine zq (σ := σ) hV hI rfl 1 ?_
          show ((σ.1 1 2) ≤ (nI i) → V 88 [(0, .ref 0), (1, .long g), (3, .int (nI i))] [] σ) ∧ (¬ (σ.1 1 2) ≤ (nI i) → V 50 [(0, .ref 0), (1, .long g), (3, .int (nI i))] [] σ)
          refine ⟨fun hc => absurd hc (show ¬ (σ.1 1 2) ≤ nI i by rw [hn]; exact nI_ge (by omega) (by omega)), fun _ => ?_⟩
          refine zq (σ := σ) hV hI rfl 7 ?_
          show zSp _ 31 [.ref 1, .int (nI i)] σ (fun r σ' => σ'.2.2.2 = σ.2.2.2 + zAl 31 → V 63 [(0, .ref 0), (1, .long g), (3, .int (nI i))] (r.toList ++ [.long (31 * g)]) σ')
          refine x_ok (zR_of hI rfl rfl) rfl (by omega) (fun _ => ?_)
          refine zq (σ := σ) hV hI rfl 10 ?_
          show zSp _ 32 [.ref 1, .int (nI i)] σ (fun r σ' => σ'.2.2.2 = σ.2.2.2 + zAl 32 → V 79 [(1, .long ((31 * g) + (Int32.toInt64 (σ.1 2 i)))), (0, .ref 0), (3, .int (nI i))] (r.toList ++ [.long (31 * ((31 * g) + (Int32.toInt64 (σ.1 2 i))))]) σ')
          refine y_ok (zR_of hI rfl rfl) rfl (by omega) (fun _ => ?_)
          refine zq (σ := σ) hV hI rfl 5 ?_
          show V 39 [(3, .int ((nI i) + 1)), (1, .long ((31 * ((31 * g) + (Int32.toInt64 (σ.1 2 i)))) + (Int32.toInt64 (σ.1 3 i)))), (0, .ref 0)] [] σ
          refine zwk hV [2, 1, 0] rfl ?_
          rw [nI_1]
          exact ihb (i + 1) _ (by omega) hgin
      replace hfin : h = _ := hfin
      exact Hb n 0 h (by omega) (by rw [hfin])
    | succ r iha =>
      intro i h hir hfin
      refine zq (σ := σ) hV hI rfl 3 ?_
      show (8 < (nI i) → V 37 [(0, .ref 0), (1, .long h), (3, .int (nI i))] [] σ) ∧ (¬ 8 < (nI i) → V 12 [(0, .ref 0), (1, .long h), (3, .int (nI i))] [] σ)
      refine ⟨fun hc => absurd hc (show ¬ (8 : Int32) < nI i from z8_ge (by omega)), fun _ => ?_⟩
      refine zq (σ := σ) hV hI rfl 3 ?_
      show ((nI i) = 6 → V 31 [(0, .ref 0), (1, .long h), (3, .int (nI i))] [] σ) ∧ (¬ (nI i) = 6 → V 18 [(0, .ref 0), (1, .long h), (3, .int (nI i))] [] σ)
      refine ⟨fun h_15 => ?_, fun h_15 => ?_⟩
      · skip
        refine zq (σ := σ) hV hI rfl 2 ?_
        show V 6 [(3, .int ((nI i) + 1)), (0, .ref 0), (1, .long h)] [] σ
        refine zwk hV [1, 2, 0] rfl ?_
        rw [nI_1]
        refine iha (i + 1) _ (by omega) ?_
        rw [← hfin]
        show zDa (fun w => zCt (σ.1 1 2) (σ.1 4 2) (σ.1 0 9) (σ.1 14 3) (σ.1 18 2) (σ.1 21 2) (σ.1 26 3) (σ.1 24 1) (σ.1 24 2) (nI w)) r (i + 1) _ = zDa (fun w => zCt (σ.1 1 2) (σ.1 4 2) (σ.1 0 9) (σ.1 14 3) (σ.1 18 2) (σ.1 21 2) (σ.1 26 3) (σ.1 24 1) (σ.1 24 2) (nI w)) r (i + 1) (if i = 6 then h else 31 * h + Int32.toInt64 ((fun w => zCt (σ.1 1 2) (σ.1 4 2) (σ.1 0 9) (σ.1 14 3) (σ.1 18 2) (σ.1 21 2) (σ.1 26 3) (σ.1 24 1) (σ.1 24 2) (nI w)) i))
        have e15 : nI i = 6 ↔ i = 6 := nI_eq (a := i) (b := 6) (by omega) (by decide)
        rw [if_pos (e15.mp h_15)]
      · skip
        refine zq (σ := σ) hV hI rfl 6 ?_
        show zSp _ 115 [.ref 0, .int (nI i)] σ (fun r σ' => σ'.2.2.2 = σ.2.2.2 + zAl 115 → V 28 [(0, .ref 0), (1, .long h), (3, .int (nI i))] (r.toList ++ [.long (31 * h)]) σ')
        refine count_C hI (fun _ => ?_)
        refine zq (σ := σ) hV hI rfl 5 ?_
        show V 6 [(3, .int ((nI i) + 1)), (1, .long ((31 * h) + (Int32.toInt64 (zCt (σ.1 1 2) (σ.1 4 2) (σ.1 0 9) (σ.1 14 3) (σ.1 18 2) (σ.1 21 2) (σ.1 26 3) (σ.1 24 1) (σ.1 24 2) (nI i))))), (0, .ref 0)] [] σ
        refine zwk hV [2, 1, 0] rfl ?_
        rw [nI_1]
        refine iha (i + 1) _ (by omega) ?_
        rw [← hfin]
        show zDa (fun w => zCt (σ.1 1 2) (σ.1 4 2) (σ.1 0 9) (σ.1 14 3) (σ.1 18 2) (σ.1 21 2) (σ.1 26 3) (σ.1 24 1) (σ.1 24 2) (nI w)) r (i + 1) _ = zDa (fun w => zCt (σ.1 1 2) (σ.1 4 2) (σ.1 0 9) (σ.1 14 3) (σ.1 18 2) (σ.1 21 2) (σ.1 26 3) (σ.1 24 1) (σ.1 24 2) (nI w)) r (i + 1) (if i = 6 then h else 31 * h + Int32.toInt64 ((fun w => zCt (σ.1 1 2) (σ.1 4 2) (σ.1 0 9) (σ.1 14 3) (σ.1 18 2) (σ.1 21 2) (σ.1 26 3) (σ.1 24 1) (σ.1 24 2) (nI w)) i))
        have e15 : nI i = 6 ↔ i = 6 := nI_eq (a := i) (b := 6) (by omega) (by decide)
        rw [if_neg (fun q => h_15 (e15.mpr q))]
  exact Ha 9 0 17 rfl rfl
/-- whether the first n pairs of a row are a part -/
def zShp (I : Nat → Int32) (n : Nat) : Prop := (∀ i, i < 2 * n → zBt (-30) 30 (I i)) ∧ 0 < zAr n (fun j => I (2 * j)) (fun j => I (2 * j + 1)) n
theorem zNxI {n i : Nat} : (if i + 1 < n then i + 1 else 0) = zNx n i := rfl
set_option maxRecDepth 8000 in
set_option maxHeartbeats 4000000 in
theorem isShape_ok {d : Nat} {σ : zSt} {K : Option Value → zSt → Prop} {k n : Nat} (hI : zQI (kR 0 30) σ.2.2) (hk : k < 4) (hn10 : n ≤ 10) (h1 : zShp (fun j => σ.1 29 (k * 60 + j)) n → K (some (.int 1)) σ) (h0 : ¬ zShp (fun j => σ.1 29 (k * 60 + j)) n → K (some (.int 0)) σ) : zSp (d + 3) mX8_isShape [.ref 0, .int (nI k), .int (nI n)] σ K := by
  refine ⟨⟨by decide, Nat.le_of_ble_eq_true rfl⟩, fun V hV => ?_⟩
  refine zq (σ := σ) hV hI rfl 2 ?_
  show V 2 [(3, .int 0), (0, .ref 0), (1, .int (nI k)), (2, .int (nI n))] [] σ
  refine zwk hV [1, 2, 3, 0] rfl ?_
  have Hi : ∀ (r : Nat) (i : Nat), i + r = 2 * n → (∀ j, j < i → zBt (-30) 30 (σ.1 29 (k * 60 + j))) → V 2 [(0, .ref 0), (1, .int (nI k)), (2, .int (nI n)), (3, .int (nI i))] [] σ := by
    intro r
    induction r with
    | zero =>
      intro i him hall
      refine zq (σ := σ) hV hI rfl 5 ?_
      show ((2 * (nI n)) ≤ (nI i) → V 34 [(0, .ref 0), (1, .int (nI k)), (2, .int (nI n)), (3, .int (nI i))] [] σ) ∧ (¬ (2 * (nI n)) ≤ (nI i) → V 9 [(0, .ref 0), (1, .int (nI k)), (2, .int (nI n)), (3, .int (nI i))] [] σ)
      refine ⟨fun _ => ?_, fun hc => absurd (show (2 : Int32) * nI n ≤ nI i by rw [(show (2 : Int32) * nI n = nI (2 * n) from zn_m (a := 2) rfl rfl)]; exact zge_self (by omega)) hc⟩
      refine zq (σ := σ) hV hI rfl 4 ?_
      show V 39 [(4, .int 0), (3, .int 0), (0, .ref 0), (1, .int (nI k)), (2, .int (nI n))] [] σ
      refine zwk hV [2, 3, 4, 1, 0] rfl ?_
      have Hq : ∀ (r : Nat) (q : Nat) (a : Int32), q + r = n → a = zAr n (fun j => σ.1 29 (k * 60 + 2 * j)) (fun j => σ.1 29 (k * 60 + (2 * j + 1))) q → V 39 [(0, .ref 0), (1, .int (nI k)), (2, .int (nI n)), (3, .int a), (4, .int (nI q))] [] σ := by
        intro r
        induction r with
        | zero =>
          intro q a hqm harea
          refine zq (σ := σ) hV hI rfl 3 ?_
          show ((nI n) ≤ (nI q) → V 127 [(0, .ref 0), (1, .int (nI k)), (2, .int (nI n)), (3, .int a), (4, .int (nI q))] [] σ) ∧ (¬ (nI n) ≤ (nI q) → V 45 [(0, .ref 0), (1, .int (nI k)), (2, .int (nI n)), (3, .int a), (4, .int (nI q))] [] σ)
          refine ⟨fun _ => ?_, fun hc => absurd (show nI n ≤ nI q from zge_self (by omega)) hc⟩
          refine zq (σ := σ) hV hI rfl 2 ?_
          show (a ≤ 0 → V 135 [(0, .ref 0), (1, .int (nI k)), (2, .int (nI n)), (3, .int a), (4, .int (nI q))] [] σ) ∧ (¬ a ≤ 0 → V 131 [(0, .ref 0), (1, .int (nI k)), (2, .int (nI n)), (3, .int a), (4, .int (nI q))] [] σ)
          refine ⟨fun h_128 => ?_, fun h_128 => ?_⟩
          · skip
            refine zq (σ := σ) hV hI rfl 2 ?_
            show ((0 : Int32) = 0 ∨ (0 : Int32) = 1) ∧ K (some (.int 0)) σ
            refine ⟨by decide, ?_⟩
            obtain rfl : i = 2 * n := by omega
            obtain rfl : q = n := by omega
            subst harea
            exact h0 (fun x => Int32.not_le.mpr x.2 h_128)
          · skip
            refine zq (σ := σ) hV hI rfl 3 ?_
            show ((1 : Int32) = 0 ∨ (1 : Int32) = 1) ∧ K (some (.int 1)) σ
            refine ⟨by decide, ?_⟩
            obtain rfl : i = 2 * n := by omega
            obtain rfl : q = n := by omega
            subst harea
            exact h1 ⟨hall, Int32.not_le.mp h_128⟩
        | succ r ihq =>
          intro q a hqm harea
          refine zq (σ := σ) hV hI rfl 3 ?_
          show ((nI n) ≤ (nI q) → V 127 [(0, .ref 0), (1, .int (nI k)), (2, .int (nI n)), (3, .int a), (4, .int (nI q))] [] σ) ∧ (¬ (nI n) ≤ (nI q) → V 45 [(0, .ref 0), (1, .int (nI k)), (2, .int (nI n)), (3, .int a), (4, .int (nI q))] [] σ)
          refine ⟨fun hc => absurd hc (show ¬ nI n ≤ nI q from nI_ge (by omega) (by omega)), fun _ => ?_⟩
          refine zq (σ := σ) hV hI rfl 5 ?_
          show ((nI n) ≤ ((nI q) + 1) → V 60 [(0, .ref 0), (1, .int (nI k)), (2, .int (nI n)), (3, .int a), (4, .int (nI q))] [] σ) ∧ (¬ (nI n) ≤ ((nI q) + 1) → V 53 [(0, .ref 0), (1, .int (nI k)), (2, .int (nI n)), (3, .int a), (4, .int (nI q))] [] σ)
          refine ⟨fun h_50 => ?_, fun h_50 => ?_⟩
          · skip
            refine zq (σ := σ) hV hI rfl 1 ?_
            show V 61 [(0, .ref 0), (1, .int (nI k)), (2, .int (nI n)), (3, .int a), (4, .int (nI q))] [.int 0] σ
            have hnx : zNx n q = 0 := by rw [nI_1, nI_leI (by omega) (by omega)] at h_50; unfold zNx; rw [if_neg (by omega)]
            rw [show (0 : Int32) = nI (zNx n q) by rw [hnx]; rfl]
            have hnl := zNx_lt (show q < n by omega)
            refine zq (σ := σ) hV hI rfl 9 ?_
            show zSp _ 53 [.ref 26, .int (nI k), .int (2 * (nI q))] σ (fun r σ' => σ'.2.2.2 = σ.2.2.2 + zAl 53 → V 76 [(5, .int (nI (zNx n q))), (0, .ref 0), (1, .int (nI k)), (2, .int (nI n)), (3, .int a), (4, .int (nI q))] (r.toList ++ [.int a]) σ')
            refine svalue_ok (zR_of hI rfl rfl) (k := k) rfl (by omega) (j := (2 * q)) (zn_m (a := 2) (b := q) rfl rfl) (by omega) (fun _ => ?_)
            refine zq (σ := σ) hV hI rfl 9 ?_
            show zSp _ 53 [.ref 26, .int (nI k), .int ((2 * (nI (zNx n q))) + 1)] σ (fun r σ' => σ'.2.2.2 = σ.2.2.2 + zAl 53 → V 90 [(5, .int (nI (zNx n q))), (0, .ref 0), (1, .int (nI k)), (2, .int (nI n)), (3, .int a), (4, .int (nI q))] (r.toList ++ [.int (σ.1 29 (k * 60 + (2 * q))), .int a]) σ')
            refine svalue_ok (zR_of hI rfl rfl) (k := k) rfl (by omega) (j := ((2 * (zNx n q)) + 1)) (zn_a (a := (2 * (zNx n q))) (b := 1) (zn_m (a := 2) (b := (zNx n q)) rfl rfl) rfl) (by omega) (fun _ => ?_)
            refine zq (σ := σ) hV hI rfl 10 ?_
            show zSp _ 53 [.ref 26, .int (nI k), .int ((2 * (nI q)) + 1)] σ (fun r σ' => σ'.2.2.2 = σ.2.2.2 + zAl 53 → V 105 [(5, .int (nI (zNx n q))), (0, .ref 0), (1, .int (nI k)), (2, .int (nI n)), (3, .int a), (4, .int (nI q))] (r.toList ++ [.int ((σ.1 29 (k * 60 + (2 * q))) * (σ.1 29 (k * 60 + ((2 * (zNx n q)) + 1)))), .int a]) σ')
            refine svalue_ok (zR_of hI rfl rfl) (k := k) rfl (by omega) (j := ((2 * q) + 1)) (zn_a (a := (2 * q)) (b := 1) (zn_m (a := 2) (b := q) rfl rfl) rfl) (by omega) (fun _ => ?_)
            refine zq (σ := σ) hV hI rfl 7 ?_
            show zSp _ 53 [.ref 26, .int (nI k), .int (2 * (nI (zNx n q)))] σ (fun r σ' => σ'.2.2.2 = σ.2.2.2 + zAl 53 → V 117 [(5, .int (nI (zNx n q))), (0, .ref 0), (1, .int (nI k)), (2, .int (nI n)), (3, .int a), (4, .int (nI q))] (r.toList ++ [.int (σ.1 29 (k * 60 + ((2 * q) + 1))), .int ((σ.1 29 (k * 60 + (2 * q))) * (σ.1 29 (k * 60 + ((2 * (zNx n q)) + 1)))), .int a]) σ')
            refine svalue_ok (zR_of hI rfl rfl) (k := k) rfl (by omega) (j := (2 * (zNx n q))) (zn_m (a := 2) (b := (zNx n q)) rfl rfl) (by omega) (fun _ => ?_)
            refine zq (σ := σ) hV hI rfl 6 ?_
            show V 39 [(4, .int ((nI q) + 1)), (3, .int (a + (((σ.1 29 (k * 60 + (2 * q))) * (σ.1 29 (k * 60 + ((2 * (zNx n q)) + 1)))) - ((σ.1 29 (k * 60 + ((2 * q) + 1))) * (σ.1 29 (k * 60 + (2 * (zNx n q)))))))), (5, .int (nI (zNx n q))), (0, .ref 0), (1, .int (nI k)), (2, .int (nI n))] [] σ
            refine zwk hV [3, 4, 5, 1, 0] rfl ?_
            rw [nI_1]
            refine ihq (q + 1) _ (by omega) ?_
            rw [harea]
            rfl
          · skip
            refine zq (σ := σ) hV hI rfl 4 ?_
            show V 61 [(0, .ref 0), (1, .int (nI k)), (2, .int (nI n)), (3, .int a), (4, .int (nI q))] [.int ((nI q) + 1)] σ
            have hnx : zNx n q = q + 1 := by rw [nI_1, nI_leI (by omega) (by omega)] at h_50; unfold zNx; rw [if_pos (by omega)]
            rw [show (((nI q) + 1) : Int32) = nI (zNx n q) by rw [hnx]; exact nI_1 q]
            have hnl := zNx_lt (show q < n by omega)
            refine zq (σ := σ) hV hI rfl 9 ?_
            show zSp _ 53 [.ref 26, .int (nI k), .int (2 * (nI q))] σ (fun r σ' => σ'.2.2.2 = σ.2.2.2 + zAl 53 → V 76 [(5, .int (nI (zNx n q))), (0, .ref 0), (1, .int (nI k)), (2, .int (nI n)), (3, .int a), (4, .int (nI q))] (r.toList ++ [.int a]) σ')
            refine svalue_ok (zR_of hI rfl rfl) (k := k) rfl (by omega) (j := (2 * q)) (zn_m (a := 2) (b := q) rfl rfl) (by omega) (fun _ => ?_)
            refine zq (σ := σ) hV hI rfl 9 ?_
            show zSp _ 53 [.ref 26, .int (nI k), .int ((2 * (nI (zNx n q))) + 1)] σ (fun r σ' => σ'.2.2.2 = σ.2.2.2 + zAl 53 → V 90 [(5, .int (nI (zNx n q))), (0, .ref 0), (1, .int (nI k)), (2, .int (nI n)), (3, .int a), (4, .int (nI q))] (r.toList ++ [.int (σ.1 29 (k * 60 + (2 * q))), .int a]) σ')
            refine svalue_ok (zR_of hI rfl rfl) (k := k) rfl (by omega) (j := ((2 * (zNx n q)) + 1)) (zn_a (a := (2 * (zNx n q))) (b := 1) (zn_m (a := 2) (b := (zNx n q)) rfl rfl) rfl) (by omega) (fun _ => ?_)
            refine zq (σ := σ) hV hI rfl 10 ?_
            show zSp _ 53 [.ref 26, .int (nI k), .int ((2 * (nI q)) + 1)] σ (fun r σ' => σ'.2.2.2 = σ.2.2.2 + zAl 53 → V 105 [(5, .int (nI (zNx n q))), (0, .ref 0), (1, .int (nI k)), (2, .int (nI n)), (3, .int a), (4, .int (nI q))] (r.toList ++ [.int ((σ.1 29 (k * 60 + (2 * q))) * (σ.1 29 (k * 60 + ((2 * (zNx n q)) + 1)))), .int a]) σ')
            refine svalue_ok (zR_of hI rfl rfl) (k := k) rfl (by omega) (j := ((2 * q) + 1)) (zn_a (a := (2 * q)) (b := 1) (zn_m (a := 2) (b := q) rfl rfl) rfl) (by omega) (fun _ => ?_)
            refine zq (σ := σ) hV hI rfl 7 ?_
            show zSp _ 53 [.ref 26, .int (nI k), .int (2 * (nI (zNx n q)))] σ (fun r σ' => σ'.2.2.2 = σ.2.2.2 + zAl 53 → V 117 [(5, .int (nI (zNx n q))), (0, .ref 0), (1, .int (nI k)), (2, .int (nI n)), (3, .int a), (4, .int (nI q))] (r.toList ++ [.int (σ.1 29 (k * 60 + ((2 * q) + 1))), .int ((σ.1 29 (k * 60 + (2 * q))) * (σ.1 29 (k * 60 + ((2 * (zNx n q)) + 1)))), .int a]) σ')
            refine svalue_ok (zR_of hI rfl rfl) (k := k) rfl (by omega) (j := (2 * (zNx n q))) (zn_m (a := 2) (b := (zNx n q)) rfl rfl) (by omega) (fun _ => ?_)
            refine zq (σ := σ) hV hI rfl 6 ?_
            show V 39 [(4, .int ((nI q) + 1)), (3, .int (a + (((σ.1 29 (k * 60 + (2 * q))) * (σ.1 29 (k * 60 + ((2 * (zNx n q)) + 1)))) - ((σ.1 29 (k * 60 + ((2 * q) + 1))) * (σ.1 29 (k * 60 + (2 * (zNx n q)))))))), (5, .int (nI (zNx n q))), (0, .ref 0), (1, .int (nI k)), (2, .int (nI n))] [] σ
            refine zwk hV [3, 4, 5, 1, 0] rfl ?_
            rw [nI_1]
            refine ihq (q + 1) _ (by omega) ?_
            rw [harea]
            rfl
      exact Hq n 0 0 (by omega) rfl
    | succ r ihi =>
      intro i him hall
      refine zq (σ := σ) hV hI rfl 5 ?_
      show ((2 * (nI n)) ≤ (nI i) → V 34 [(0, .ref 0), (1, .int (nI k)), (2, .int (nI n)), (3, .int (nI i))] [] σ) ∧ (¬ (2 * (nI n)) ≤ (nI i) → V 9 [(0, .ref 0), (1, .int (nI k)), (2, .int (nI n)), (3, .int (nI i))] [] σ)
      refine ⟨fun hc => absurd hc (show ¬ (2 : Int32) * nI n ≤ nI i by rw [(show (2 : Int32) * nI n = nI (2 * n) from zn_m (a := 2) rfl rfl)]; exact nI_ge (by omega) (by omega)), fun _ => ?_⟩
      refine zq (σ := σ) hV hI rfl 5 ?_
      show zSp _ 53 [.ref 26, .int (nI k), .int (nI i)] σ (fun r σ' => σ'.2.2.2 = σ.2.2.2 + zAl 53 → V 18 [(0, .ref 0), (1, .int (nI k)), (2, .int (nI n)), (3, .int (nI i))] (r.toList ++ []) σ')
      refine svalue_ok (zR_of hI rfl rfl) (k := k) rfl (by omega) (j := i) rfl (by omega) (fun _ => ?_)
      refine zq (σ := σ) hV hI rfl 2 ?_
      show zSp _ 118 [.int (σ.1 29 (k * 60 + i)), .int 30] σ (fun r σ' => σ'.2.2.2 = σ.2.2.2 + zAl 118 → V 23 [(0, .ref 0), (1, .int (nI k)), (2, .int (nI n)), (3, .int (nI i))] (r.toList ++ []) σ')
      refine isWithin_ok (k := 30) rfl (by decide) (fun hw _ => ?_) (fun hw _ => ?_)
      · skip
        refine zq (σ := σ) hV hI rfl 1 ?_
        show (¬ (1 : Int32) = 0 → V 28 [(0, .ref 0), (1, .int (nI k)), (2, .int (nI n)), (3, .int (nI i))] [] σ) ∧ (¬ (¬ (1 : Int32) = 0) → V 26 [(0, .ref 0), (1, .int (nI k)), (2, .int (nI n)), (3, .int (nI i))] [] σ)
        refine ⟨fun _ => ?_, fun hc => absurd (by decide) hc⟩
        refine zq (σ := σ) hV hI rfl 2 ?_
        show V 2 [(3, .int ((nI i) + 1)), (0, .ref 0), (1, .int (nI k)), (2, .int (nI n))] [] σ
        refine zwk hV [1, 2, 3, 0] rfl ?_
        rw [nI_1]
        refine ihi (i + 1) (by omega) (fun j hj => ?_)
        by_cases e : j = i
        · subst e; exact hw
        · exact hall j (by omega)
      · skip
        refine zq (σ := σ) hV hI rfl 1 ?_
        show (¬ (0 : Int32) = 0 → V 28 [(0, .ref 0), (1, .int (nI k)), (2, .int (nI n)), (3, .int (nI i))] [] σ) ∧ (¬ (¬ (0 : Int32) = 0) → V 26 [(0, .ref 0), (1, .int (nI k)), (2, .int (nI n)), (3, .int (nI i))] [] σ)
        refine ⟨fun hc => absurd hc (by decide), fun _ => ?_⟩
        refine zq (σ := σ) hV hI rfl 2 ?_
        show ((0 : Int32) = 0 ∨ (0 : Int32) = 1) ∧ K (some (.int 0)) σ
        refine ⟨by decide, ?_⟩
        exact h0 (fun x => hw (x.1 i (by omega)))
  exact Hi (2 * n) 0 (by omega) (fun j q => absurd q (Nat.not_lt_zero j))
def zfSh (n : Nat) (a j : Nat) : Bool := (Nat.beq a 1 && Nat.ble 2 j) || ((Nat.beq a 2 || Nat.beq a 3) && Nat.blt j n) || (Nat.beq a 4 && Nat.beq j 2) || (Nat.beq a 14 && Nat.beq j 3)
theorem zfPo_Sh {n : Nat} (a j : Nat) (h : zfSh n a j = false) : zfPo a j = false := by
  unfold zfSh at h; unfold zfPo
  rw [Bool.or_eq_false_iff, Bool.or_eq_false_iff, Bool.or_eq_false_iff] at h
  exact h.1.1.1
set_option maxRecDepth 8000 in
set_option maxHeartbeats 4000000 in
theorem shape_C {d : Nat} {σ : zSt} {K : Option Value → zSt → Prop} {s c : Int32} (hI : zQI (kR 0 30) σ.2.2) (hL : ∀ k, k < 4 → ∃ l, σ.1 28 k = nI l ∧ l ≤ 60) (hBad : ¬ (zBt 0 3 s ∧ zBt 3 10 c) → K (some (.int (-2))) σ) (hNull : ∀ k n, s = nI k → k < 4 → c = nI n → (3 ≤ n ∧ n ≤ 10) → σ.1 27 k = -1 → K (some (.int (-10 - 1))) (zuI σ 26 3 1)) (hIndex : ∀ k n l, s = nI k → k < 4 → c = nI n → (3 ≤ n ∧ n ≤ 10) → ¬ σ.1 27 k = -1 → σ.1 28 k = nI l → l < 2 * n → K (some (.int (-10 - 2))) (zuI σ 26 3 2))
    (hNot : ∀ k n l, s = nI k → k < 4 → c = nI n → (3 ≤ n ∧ n ≤ 10) → ¬ σ.1 27 k = -1 → σ.1 28 k = nI l → 2 * n ≤ l → ¬ zShp (fun j => σ.1 29 (k * 60 + j)) n → K (some (.int (-3))) σ)
    (hOk : ∀ τ k n l, s = nI k → k < 4 → c = nI n → (3 ≤ n ∧ n ≤ 10) → ¬ σ.1 27 k = -1 → σ.1 28 k = nI l → 2 * n ≤ l → zShp (fun j => σ.1 29 (k * 60 + j)) n → zOnly (zfSh n) σ τ → τ.1 1 2 = nI n → (∀ j, j < n → τ.1 2 j = σ.1 29 (k * 60 + 2 * j) ∧ τ.1 3 j = σ.1 29 (k * 60 + (2 * j + 1))) → τ.1 1 3 = zAr n (τ.1 2) (τ.1 3) n → τ.1 1 4 = zMx n (τ.1 2) (τ.1 3) n → τ.1 1 5 = zMy n (τ.1 2) (τ.1 3) n → τ.1 4 2 = 0 → τ.1 14 3 = 0 → K (some (.int (τ.1 1 3))) τ) : zSp (d + 4) mX8_shape [.ref 0, .int s, .int c] σ K := by
  refine ⟨⟨by decide, Nat.le_of_ble_eq_true rfl⟩, fun V hV => ?_⟩
  refine zq (σ := σ) hV hI rfl 2 ?_
  show zSp _ 122 [.int s] σ (fun r σ' => σ'.2.2.2 = σ.2.2.2 + zAl 122 → V 4 [(0, .ref 0), (1, .int s), (2, .int c)] (r.toList ++ []) σ')
  refine isSheet_ok (fun hb1 _ => ?_) (fun hb1 _ => ?_)
  · skip
    refine zq (σ := σ) hV hI rfl 1 ?_
    show ((1 : Int32) = 0 → V 18 [(0, .ref 0), (1, .int s), (2, .int c)] [] σ) ∧ (¬ (1 : Int32) = 0 → V 7 [(0, .ref 0), (1, .int s), (2, .int c)] [] σ)
    refine ⟨fun hc => absurd hc (by decide), fun _ => ?_⟩
    refine zq (σ := σ) hV hI rfl 3 ?_
    show (c < 3 → V 18 [(0, .ref 0), (1, .int s), (2, .int c)] [] σ) ∧ (¬ c < 3 → V 12 [(0, .ref 0), (1, .int s), (2, .int c)] [] σ)
    refine ⟨fun h_9 => ?_, fun h_9 => ?_⟩
    · skip
      refine zq (σ := σ) hV hI rfl 2 ?_
      show K (some (.int (-2))) σ
      refine hBad (fun q => ?_)
      have q3 := q.2
      unfold zBt at q3
      simp only [zlt, zle] at h_9
      simp at h_9
      omega
    · skip
      refine zq (σ := σ) hV hI rfl 3 ?_
      show (c ≤ 10 → V 21 [(0, .ref 0), (1, .int s), (2, .int c)] [] σ) ∧ (¬ c ≤ 10 → V 18 [(0, .ref 0), (1, .int s), (2, .int c)] [] σ)
      refine ⟨fun h_15 => ?_, fun h_15 => ?_⟩
      · skip
        obtain ⟨k, hk, hk2, _⟩ := zNat (x := s) (by unfold zBt at hb1; omega)
        have hk4 : k < 4 := by unfold zBt at hb1; omega
        have hc : zBt 3 10 c := by
          simp only [zlt, zle] at h_9 h_15
          unfold zBt
          simp at h_9 h_15 ⊢
          omega
        obtain ⟨n, hcn, hcn2, _⟩ := zNat (x := c) (by unfold zBt at hc; omega)
        have hn10 : 3 ≤ n ∧ n ≤ 10 := by unfold zBt at hc; omega
        have hs3 := hb1
        subst hk
        subst hcn
        refine zq (σ := σ) hV hI rfl 4 ?_
        show zSp _ 50 [.ref 26, .int (nI k)] σ (fun r σ' => σ'.2.2.2 = σ.2.2.2 + zAl 50 → V 29 [(0, .ref 0), (1, .int (nI k)), (2, .int (nI n))] (r.toList ++ []) σ')
        refine isLost_ok (zR_of hI rfl rfl) rfl (by omega) (fun hb2 _ => ?_) (fun hb2 _ => ?_)
        · skip
          refine zq (σ := σ) hV hI rfl 1 ?_
          show ((1 : Int32) = 0 → V 41 [(0, .ref 0), (1, .int (nI k)), (2, .int (nI n))] [] σ) ∧ (¬ (1 : Int32) = 0 → V 32 [(0, .ref 0), (1, .int (nI k)), (2, .int (nI n))] [] σ)
          refine ⟨fun hc => absurd hc (by decide), fun _ => ?_⟩
          refine zq (σ := σ) hV hI rfl 4 ?_
          show zSp _ 47 [.ref 26, .int 1] σ (fun r σ' => σ'.2.2.2 = σ.2.2.2 + zAl 47 → V 40 [(0, .ref 0), (1, .int (nI k)), (2, .int (nI n))] (r.toList ++ []) σ')
          refine find_ok (zR_of hI rfl rfl) (fun _ => ?_)
          refine zq (σ := (zuI σ 26 3 1)) hV hI rfl 1 ?_
          show K (some (.int ((-10) - 1))) (zuI σ 26 3 1)
          exact hNull k n rfl hk4 rfl hn10 hb2
        · skip
          refine zq (σ := σ) hV hI rfl 1 ?_
          show ((0 : Int32) = 0 → V 41 [(0, .ref 0), (1, .int (nI k)), (2, .int (nI n))] [] σ) ∧ (¬ (0 : Int32) = 0 → V 32 [(0, .ref 0), (1, .int (nI k)), (2, .int (nI n))] [] σ)
          refine ⟨fun _ => ?_, fun hc => absurd (by decide) hc⟩
          refine zq (σ := σ) hV hI rfl 4 ?_
          show zSp _ 49 [.ref 26, .int (nI k)] σ (fun r σ' => σ'.2.2.2 = σ.2.2.2 + zAl 49 → V 49 [(0, .ref 0), (1, .int (nI k)), (2, .int (nI n))] (r.toList ++ []) σ')
          obtain ⟨l, hl, hl60⟩ := hL k hk4
          refine slength_ok (zR_of hI rfl rfl) (k := k) rfl hk4 (fun _ => ?_)
          rw [hl]
          refine zq (σ := σ) hV hI rfl 4 ?_
          show ((2 * (nI n)) ≤ (nI l) → V 64 [(0, .ref 0), (1, .int (nI k)), (2, .int (nI n))] [] σ) ∧ (¬ (2 * (nI n)) ≤ (nI l) → V 55 [(0, .ref 0), (1, .int (nI k)), (2, .int (nI n))] [] σ)
          refine ⟨fun h_52 => ?_, fun h_52 => ?_⟩
          · skip
            refine zq (σ := σ) hV hI rfl 4 ?_
            show zSp _ 77 [.ref 0, .int (nI k), .int (nI n)] σ (fun r σ' => σ'.2.2.2 = σ.2.2.2 + zAl 77 → V 70 [(0, .ref 0), (1, .int (nI k)), (2, .int (nI n))] (r.toList ++ []) σ')
            have hll : 2 * n ≤ l := by rw [show (2 : Int32) * nI n = nI (2 * n) from zn_m (a := 2) rfl rfl, nI_leI (by omega) (by omega)] at h_52; exact h_52
            refine isShape_ok hI hk4 hn10.2 (fun hb3 _ => ?_) (fun hb3 _ => ?_)
            · skip
              refine zq (σ := σ) hV hI rfl 1 ?_
              show (¬ (1 : Int32) = 0 → V 76 [(0, .ref 0), (1, .int (nI k)), (2, .int (nI n))] [] σ) ∧ (¬ (¬ (1 : Int32) = 0) → V 73 [(0, .ref 0), (1, .int (nI k)), (2, .int (nI n))] [] σ)
              refine ⟨fun _ => ?_, fun hc => absurd (by decide) hc⟩
              refine zq (σ := σ) hV hI rfl 2 ?_
              show V 78 [(3, .int 0), (0, .ref 0), (1, .int (nI k)), (2, .int (nI n))] [] σ
              refine zwk hV [1, 2, 3, 0] rfl ?_
              have Hi : ∀ (r : Nat) (i : Nat) (τ : zSt), i + r = n → zOnly (zfSh n) σ τ → (∀ j, j < i → τ.1 2 j = σ.1 29 (k * 60 + 2 * j) ∧ τ.1 3 j = σ.1 29 (k * 60 + (2 * j + 1))) → V 78 [(0, .ref 0), (1, .int (nI k)), (2, .int (nI n)), (3, .int (nI i))] [] τ := by
                intro r
                induction r with
                | zero =>
                  intro i τ hir ht hXY
                  have hIτ := zQI_eq hI ht.2.2
                  have hnτ : τ.2.2.2 = σ.2.2.2 := congrArg Prod.snd ht.2.2
                  have eI : ∀ j, τ.1 29 j = σ.1 29 j := fun j => ht.1 29 j rfl
                  refine zq (σ := τ) hV hIτ hnτ 3 ?_
                  show ((nI n) ≤ (nI i) → V 121 [(0, .ref 0), (1, .int (nI k)), (2, .int (nI n)), (3, .int (nI i))] [] τ) ∧ (¬ (nI n) ≤ (nI i) → V 83 [(0, .ref 0), (1, .int (nI k)), (2, .int (nI n)), (3, .int (nI i))] [] τ)
                  refine ⟨fun _ => ?_, fun hc => absurd (show nI n ≤ nI i from zge_self (by omega)) hc⟩
                  refine zq (σ := τ) hV hIτ hnτ 4 ?_
                  show zSp _ 26 [.ref 1, .int (nI n)] τ (fun r σ' => σ'.2.2.2 = τ.2.2.2 + zAl 26 → V 129 [(0, .ref 0), (1, .int (nI k)), (2, .int (nI n)), (3, .int (nI i))] (r.toList ++ []) σ')
                  refine close_ok (zR_of hIτ rfl rfl) (n := n) hn10.2 (fun υ hu0 hcn har hmx hmy _ => ?_)
                  have hu : zOnly (zfSh n) σ υ := ht.tr (hu0.wk zfPo_Sh)
                  have hIυ := zQI_eq hI hu.2.2
                  have hnυ : υ.2.2.2 = σ.2.2.2 := congrArg Prod.snd hu.2.2
                  have x2 : υ.1 2 = τ.1 2 := funext fun j => hu0.1 2 j rfl
                  have x3 : υ.1 3 = τ.1 3 := funext fun j => hu0.1 3 j rfl
                  refine zq (σ := υ) hV hIυ hnυ 3 ?_
                  show zSp _ 20 [.ref 4] υ (fun r σ' => σ'.2.2.2 = υ.2.2.2 + zAl 20 → V 136 [(0, .ref 0), (1, .int (nI k)), (2, .int (nI n)), (3, .int (nI i))] (r.toList ++ []) σ')
                  refine hclear_4 (zR_of hIυ rfl rfl) (fun _ => ?_)
                  refine zq (σ := (zuI υ 4 2 0)) hV hIυ hnυ 3 ?_
                  show zSp _ 60 [.ref 14] (zuI υ 4 2 0) (fun r σ' => σ'.2.2.2 = (zuI υ 4 2 0).2.2.2 + zAl 60 → V 143 [(0, .ref 0), (1, .int (nI k)), (2, .int (nI n)), (3, .int (nI i))] (r.toList ++ []) σ')
                  refine sclear_ok (zR_of hIυ rfl rfl) (fun _ => ?_)
                  refine zq (σ := (zuI (zuI υ 4 2 0) 14 3 0)) hV hIυ hnυ 3 ?_
                  show zSp _ 28 [.ref 1] (zuI (zuI υ 4 2 0) 14 3 0) (fun r σ' => σ'.2.2.2 = (zuI (zuI υ 4 2 0) 14 3 0).2.2.2 + zAl 28 → V 150 [(0, .ref 0), (1, .int (nI k)), (2, .int (nI n)), (3, .int (nI i))] (r.toList ++ []) σ')
                  refine area_ok (zR_of hIυ rfl rfl) (fun _ => ?_)
                  show V 150 [(0, .ref 0), (1, .int (nI k)), (2, .int (nI n)), (3, .int (nI i))] [.int (υ.1 1 3)] (zuI (zuI υ 4 2 0) 14 3 0)
                  refine zq (σ := (zuI (zuI υ 4 2 0) 14 3 0)) hV hIυ hnυ 1 ?_
                  show K (some (.int (υ.1 1 3))) (zuI (zuI υ 4 2 0) 14 3 0)
                  obtain rfl : i = n := by omega
                  refine hOk (zuI (zuI υ 4 2 0) 14 3 0) k i l rfl hk4 rfl hn10 hb2 hl hll hb3 ((hu.uI (by simp [zfSh])).uI (by simp [zfSh])) hcn (fun j hj => ?_) ?_ ?_ ?_ rfl rfl
                  · show υ.1 2 j = _ ∧ υ.1 3 j = _
                    rw [x2, x3]; exact hXY j hj
                  · show υ.1 1 3 = zAr i (υ.1 2) (υ.1 3) i
                    rw [x2, x3]; exact har
                  · show υ.1 1 4 = zMx i (υ.1 2) (υ.1 3) i
                    rw [x2, x3]; exact hmx
                  · show υ.1 1 5 = zMy i (υ.1 2) (υ.1 3) i
                    rw [x2, x3]; exact hmy
                | succ r ihi =>
                  intro i τ hir ht hXY
                  have hIτ := zQI_eq hI ht.2.2
                  have hnτ : τ.2.2.2 = σ.2.2.2 := congrArg Prod.snd ht.2.2
                  have hn10i : i < n := by omega
                  have eI : ∀ j, τ.1 29 j = σ.1 29 j := fun j => ht.1 29 j rfl
                  refine zq (σ := τ) hV hIτ hnτ 3 ?_
                  show ((nI n) ≤ (nI i) → V 121 [(0, .ref 0), (1, .int (nI k)), (2, .int (nI n)), (3, .int (nI i))] [] τ) ∧ (¬ (nI n) ≤ (nI i) → V 83 [(0, .ref 0), (1, .int (nI k)), (2, .int (nI n)), (3, .int (nI i))] [] τ)
                  refine ⟨fun hc => absurd hc (show ¬ nI n ≤ nI i from nI_ge (by omega) (by omega)), fun _ => ?_⟩
                  refine zq (σ := τ) hV hIτ hnτ 10 ?_
                  show zSp _ 53 [.ref 26, .int (nI k), .int (2 * (nI i))] τ (fun r σ' => σ'.2.2.2 = τ.2.2.2 + zAl 53 → V 99 [(0, .ref 0), (1, .int (nI k)), (2, .int (nI n)), (3, .int (nI i))] (r.toList ++ [.int (nI i), .ref 1]) σ')
                  refine svalue_ok (zR_of hIτ rfl rfl) (k := k) rfl (by omega) (j := (2 * i)) (zn_m (a := 2) (b := i) rfl rfl) (by omega) (fun _ => ?_)
                  refine zq (σ := τ) hV hIτ hnτ 9 ?_
                  show zSp _ 53 [.ref 26, .int (nI k), .int ((2 * (nI i)) + 1)] τ (fun r σ' => σ'.2.2.2 = τ.2.2.2 + zAl 53 → V 112 [(0, .ref 0), (1, .int (nI k)), (2, .int (nI n)), (3, .int (nI i))] (r.toList ++ [.int (τ.1 29 (k * 60 + (2 * i))), .int (nI i), .ref 1]) σ')
                  refine svalue_ok (zR_of hIτ rfl rfl) (k := k) rfl (by omega) (j := ((2 * i) + 1)) (zn_a (a := (2 * i)) (b := 1) (zn_m (a := 2) (b := i) rfl rfl) rfl) (by omega) (fun _ => ?_)
                  refine zq (σ := τ) hV hIτ hnτ 1 ?_
                  show zSp _ 25 [.ref 1, .int (nI i), .int (τ.1 29 (k * 60 + (2 * i))), .int (τ.1 29 (k * 60 + ((2 * i) + 1)))] τ (fun r σ' => σ'.2.2.2 = τ.2.2.2 + zAl 25 → V 115 [(0, .ref 0), (1, .int (nI k)), (2, .int (nI n)), (3, .int (nI i))] (r.toList ++ []) σ')
                  refine setCorner_ok (zR_of hIτ rfl rfl) (k := i) rfl (by omega) (fun _ => ?_)
                  rw [eI, eI]
                  refine zq (σ := (zuI (zuI τ 2 i (σ.1 29 (k * 60 + (2 * i)))) 3 i (σ.1 29 (k * 60 + ((2 * i) + 1))))) hV hIτ hnτ 2 ?_
                  show V 78 [(3, .int ((nI i) + 1)), (0, .ref 0), (1, .int (nI k)), (2, .int (nI n))] [] (zuI (zuI τ 2 i (σ.1 29 (k * 60 + (2 * i)))) 3 i (σ.1 29 (k * 60 + ((2 * i) + 1))))
                  refine zwk hV [1, 2, 3, 0] rfl ?_
                  rw [nI_1]
                  refine ihi (i + 1) _ (by omega) ((ht.uI (by simp [zfSh, hn10i])).uI (by simp [zfSh, hn10i])) (fun j hj => ?_)
                  simp only [zuI_get]
                  by_cases e : j = i
                  · subst e; simp
                  · have := hXY j (by omega); simp [e, this.1, this.2]
              exact Hi n 0 σ (by omega) zOnly.rf (fun j q => absurd q (Nat.not_lt_zero j))
            · skip
              refine zq (σ := σ) hV hI rfl 1 ?_
              show (¬ (0 : Int32) = 0 → V 76 [(0, .ref 0), (1, .int (nI k)), (2, .int (nI n))] [] σ) ∧ (¬ (¬ (0 : Int32) = 0) → V 73 [(0, .ref 0), (1, .int (nI k)), (2, .int (nI n))] [] σ)
              refine ⟨fun hc => absurd hc (by decide), fun _ => ?_⟩
              refine zq (σ := σ) hV hI rfl 2 ?_
              show K (some (.int (-3))) σ
              exact hNot k n l rfl hk4 rfl hn10 hb2 hl hll hb3
          · skip
            refine zq (σ := σ) hV hI rfl 4 ?_
            show zSp _ 47 [.ref 26, .int 2] σ (fun r σ' => σ'.2.2.2 = σ.2.2.2 + zAl 47 → V 63 [(0, .ref 0), (1, .int (nI k)), (2, .int (nI n))] (r.toList ++ []) σ')
            refine find_ok (zR_of hI rfl rfl) (fun _ => ?_)
            refine zq (σ := (zuI σ 26 3 2)) hV hI rfl 1 ?_
            show K (some (.int ((-10) - 2))) (zuI σ 26 3 2)
            have hll : ¬ 2 * n ≤ l := by rw [show (2 : Int32) * nI n = nI (2 * n) from zn_m (a := 2) rfl rfl, nI_leI (by omega) (by omega)] at h_52; exact h_52
            exact hIndex k n l rfl hk4 rfl hn10 hb2 hl (by omega)
      · skip
        refine zq (σ := σ) hV hI rfl 2 ?_
        show K (some (.int (-2))) σ
        refine hBad (fun q => ?_)
        have q3 := q.2
        unfold zBt at q3
        simp only [zlt, zle] at h_9 h_15
        simp at h_9 h_15
        omega
  · skip
    refine zq (σ := σ) hV hI rfl 1 ?_
    show ((0 : Int32) = 0 → V 18 [(0, .ref 0), (1, .int s), (2, .int c)] [] σ) ∧ (¬ (0 : Int32) = 0 → V 7 [(0, .ref 0), (1, .int s), (2, .int c)] [] σ)
    refine ⟨fun _ => ?_, fun hc => absurd (by decide) hc⟩
    refine zq (σ := σ) hV hI rfl 2 ?_
    show K (some (.int (-2))) σ
    exact hBad (fun q => hb1 q.1)
/-- which of c items are written after some steps -/
def zCw (i j c st q : Nat) : Prop := (i < j ∧ c ≤ q + st) ∨ (¬ i < j ∧ q < st)
def zfCp (lo c : Nat) (a j : Nat) : Bool := Nat.beq a 29 && (Nat.ble lo j && Nat.blt j (lo + c))
set_option maxRecDepth 8000 in
set_option maxHeartbeats 4000000 in
theorem copy_C {d : Nat} {σ : zSt} {K : Option Value → zSt → Prop} {s i t j c : Int32} (hI : zQI (kR 0 30) σ.2.2) (hL : ∀ k, k < 4 → ∃ l, σ.1 28 k = nI l ∧ l ≤ 60) (hBad : ¬ (zBt 0 3 s ∧ zBt 0 3 t) → K (some (.int (-2))) σ) (hNull : ∀ a b, s = nI a → a < 4 → t = nI b → b < 4 → (σ.1 27 a = -1 ∨ σ.1 27 b = -1) → K (some (.int (-10 - 1))) (zuI σ 26 3 1)) (hStore : ∀ a b, s = nI a → a < 4 → t = nI b → b < 4 → ¬ σ.1 27 a = -1 → ¬ σ.1 27 b = -1 → ¬ σ.1 27 a = σ.1 27 b → K (some (.int (-10 - 4))) (zuI σ 26 3 4))
    (hIndex : ∀ a b la lb, s = nI a → a < 4 → t = nI b → b < 4 → ¬ σ.1 27 a = -1 → ¬ σ.1 27 b = -1 → σ.1 27 a = σ.1 27 b → σ.1 28 a = nI la → σ.1 28 b = nI lb → ¬ ((0 ≤ i.toInt ∧ 0 ≤ c.toInt ∧ i.toInt + c.toInt ≤ (la : Int)) ∧ (0 ≤ j.toInt ∧ 0 ≤ c.toInt ∧ j.toInt + c.toInt ≤ (lb : Int))) → K (some (.int (-10 - 2))) (zuI σ 26 3 2))
    (hOk : ∀ τ a b la lb i0 j0 c0, s = nI a → a < 4 → t = nI b → b < 4 → ¬ σ.1 27 a = -1 → ¬ σ.1 27 b = -1 → σ.1 27 a = σ.1 27 b → σ.1 28 a = nI la → la ≤ 60 → σ.1 28 b = nI lb → lb ≤ 60 → i = nI i0 → j = nI j0 → c = nI c0 → i0 + c0 ≤ la → j0 + c0 ≤ lb → zOnly (zfCp (b * 60 + j0) c0) σ τ → (∀ q, q < c0 → τ.1 29 (b * 60 + (j0 + q)) = zKp (σ.1 27 b) (σ.1 29 (a * 60 + (i0 + q)))) → K (some (.int 1)) τ) : zSp (d + 4) mX8_copy [.ref 0, .int s, .int i, .int t, .int j, .int c] σ K := by
  refine ⟨⟨by decide, Nat.le_of_ble_eq_true rfl⟩, fun V hV => ?_⟩
  refine zq (σ := σ) hV hI rfl 2 ?_
  show zSp _ 122 [.int s] σ (fun r σ' => σ'.2.2.2 = σ.2.2.2 + zAl 122 → V 4 [(0, .ref 0), (1, .int s), (2, .int i), (3, .int t), (4, .int j), (5, .int c)] (r.toList ++ []) σ')
  refine isSheet_ok (fun hb1 _ => ?_) (fun hb1 _ => ?_)
  · skip
    refine zq (σ := σ) hV hI rfl 1 ?_
    show ((1 : Int32) = 0 → V 14 [(0, .ref 0), (1, .int s), (2, .int i), (3, .int t), (4, .int j), (5, .int c)] [] σ) ∧ (¬ (1 : Int32) = 0 → V 7 [(0, .ref 0), (1, .int s), (2, .int i), (3, .int t), (4, .int j), (5, .int c)] [] σ)
    refine ⟨fun hc => absurd hc (by decide), fun _ => ?_⟩
    refine zq (σ := σ) hV hI rfl 2 ?_
    show zSp _ 122 [.int t] σ (fun r σ' => σ'.2.2.2 = σ.2.2.2 + zAl 122 → V 11 [(0, .ref 0), (1, .int s), (2, .int i), (3, .int t), (4, .int j), (5, .int c)] (r.toList ++ []) σ')
    refine isSheet_ok (fun hb2 _ => ?_) (fun hb2 _ => ?_)
    · skip
      refine zq (σ := σ) hV hI rfl 1 ?_
      show (¬ (1 : Int32) = 0 → V 17 [(0, .ref 0), (1, .int s), (2, .int i), (3, .int t), (4, .int j), (5, .int c)] [] σ) ∧ (¬ (¬ (1 : Int32) = 0) → V 14 [(0, .ref 0), (1, .int s), (2, .int i), (3, .int t), (4, .int j), (5, .int c)] [] σ)
      refine ⟨fun _ => ?_, fun hc => absurd (by decide) hc⟩
      obtain ⟨ks, hks, _, _⟩ := zNat (x := s) (by unfold zBt at hb1; omega)
      have hks4 : ks < 4 := by unfold zBt at hb1; omega
      obtain ⟨kt, hkt, _, _⟩ := zNat (x := t) (by unfold zBt at hb2; omega)
      have hkt4 : kt < 4 := by unfold zBt at hb2; omega
      subst hks
      subst hkt
      refine zq (σ := σ) hV hI rfl 4 ?_
      show zSp _ 50 [.ref 26, .int (nI ks)] σ (fun r σ' => σ'.2.2.2 = σ.2.2.2 + zAl 50 → V 25 [(0, .ref 0), (1, .int (nI ks)), (2, .int i), (3, .int (nI kt)), (4, .int j), (5, .int c)] (r.toList ++ []) σ')
      refine isLost_ok (zR_of hI rfl rfl) rfl (by omega) (fun hb3 _ => ?_) (fun hb3 _ => ?_)
      · skip
        refine zq (σ := σ) hV hI rfl 1 ?_
        show (¬ (1 : Int32) = 0 → V 39 [(0, .ref 0), (1, .int (nI ks)), (2, .int i), (3, .int (nI kt)), (4, .int j), (5, .int c)] [] σ) ∧ (¬ (¬ (1 : Int32) = 0) → V 28 [(0, .ref 0), (1, .int (nI ks)), (2, .int i), (3, .int (nI kt)), (4, .int j), (5, .int c)] [] σ)
        refine ⟨fun _ => ?_, fun hc => absurd (by decide) hc⟩
        refine zq (σ := σ) hV hI rfl 4 ?_
        show zSp _ 47 [.ref 26, .int 1] σ (fun r σ' => σ'.2.2.2 = σ.2.2.2 + zAl 47 → V 47 [(0, .ref 0), (1, .int (nI ks)), (2, .int i), (3, .int (nI kt)), (4, .int j), (5, .int c)] (r.toList ++ []) σ')
        refine find_ok (zR_of hI rfl rfl) (fun _ => ?_)
        refine zq (σ := (zuI σ 26 3 1)) hV hI rfl 1 ?_
        show K (some (.int ((-10) - 1))) (zuI σ 26 3 1)
        exact hNull ks kt rfl hks4 rfl hkt4 (Or.inl hb3)
      · skip
        refine zq (σ := σ) hV hI rfl 1 ?_
        show (¬ (0 : Int32) = 0 → V 39 [(0, .ref 0), (1, .int (nI ks)), (2, .int i), (3, .int (nI kt)), (4, .int j), (5, .int c)] [] σ) ∧ (¬ (¬ (0 : Int32) = 0) → V 28 [(0, .ref 0), (1, .int (nI ks)), (2, .int i), (3, .int (nI kt)), (4, .int j), (5, .int c)] [] σ)
        refine ⟨fun hc => absurd hc (by decide), fun _ => ?_⟩
        refine zq (σ := σ) hV hI rfl 4 ?_
        show zSp _ 50 [.ref 26, .int (nI kt)] σ (fun r σ' => σ'.2.2.2 = σ.2.2.2 + zAl 50 → V 36 [(0, .ref 0), (1, .int (nI ks)), (2, .int i), (3, .int (nI kt)), (4, .int j), (5, .int c)] (r.toList ++ []) σ')
        refine isLost_ok (zR_of hI rfl rfl) rfl (by omega) (fun hb4 _ => ?_) (fun hb4 _ => ?_)
        · skip
          refine zq (σ := σ) hV hI rfl 1 ?_
          show ((1 : Int32) = 0 → V 48 [(0, .ref 0), (1, .int (nI ks)), (2, .int i), (3, .int (nI kt)), (4, .int j), (5, .int c)] [] σ) ∧ (¬ (1 : Int32) = 0 → V 39 [(0, .ref 0), (1, .int (nI ks)), (2, .int i), (3, .int (nI kt)), (4, .int j), (5, .int c)] [] σ)
          refine ⟨fun hc => absurd hc (by decide), fun _ => ?_⟩
          refine zq (σ := σ) hV hI rfl 4 ?_
          show zSp _ 47 [.ref 26, .int 1] σ (fun r σ' => σ'.2.2.2 = σ.2.2.2 + zAl 47 → V 47 [(0, .ref 0), (1, .int (nI ks)), (2, .int i), (3, .int (nI kt)), (4, .int j), (5, .int c)] (r.toList ++ []) σ')
          refine find_ok (zR_of hI rfl rfl) (fun _ => ?_)
          refine zq (σ := (zuI σ 26 3 1)) hV hI rfl 1 ?_
          show K (some (.int ((-10) - 1))) (zuI σ 26 3 1)
          exact hNull ks kt rfl hks4 rfl hkt4 (Or.inr hb4)
        · skip
          refine zq (σ := σ) hV hI rfl 1 ?_
          show ((0 : Int32) = 0 → V 48 [(0, .ref 0), (1, .int (nI ks)), (2, .int i), (3, .int (nI kt)), (4, .int j), (5, .int c)] [] σ) ∧ (¬ (0 : Int32) = 0 → V 39 [(0, .ref 0), (1, .int (nI ks)), (2, .int i), (3, .int (nI kt)), (4, .int j), (5, .int c)] [] σ)
          refine ⟨fun _ => ?_, fun hc => absurd (by decide) hc⟩
          refine zq (σ := σ) hV hI rfl 4 ?_
          show zSp _ 48 [.ref 26, .int (nI ks)] σ (fun r σ' => σ'.2.2.2 = σ.2.2.2 + zAl 48 → V 56 [(0, .ref 0), (1, .int (nI ks)), (2, .int i), (3, .int (nI kt)), (4, .int j), (5, .int c)] (r.toList ++ []) σ')
          refine sform_ok (zR_of hI rfl rfl) rfl (by omega) (fun _ => ?_)
          refine zq (σ := σ) hV hI rfl 4 ?_
          show zSp _ 48 [.ref 26, .int (nI kt)] σ (fun r σ' => σ'.2.2.2 = σ.2.2.2 + zAl 48 → V 64 [(0, .ref 0), (1, .int (nI ks)), (2, .int i), (3, .int (nI kt)), (4, .int j), (5, .int c)] (r.toList ++ [.int (σ.1 27 ks)]) σ')
          refine sform_ok (zR_of hI rfl rfl) rfl (by omega) (fun _ => ?_)
          refine zq (σ := σ) hV hI rfl 1 ?_
          show ((σ.1 27 ks) = (σ.1 27 kt) → V 76 [(0, .ref 0), (1, .int (nI ks)), (2, .int i), (3, .int (nI kt)), (4, .int j), (5, .int c)] [] σ) ∧ (¬ (σ.1 27 ks) = (σ.1 27 kt) → V 67 [(0, .ref 0), (1, .int (nI ks)), (2, .int i), (3, .int (nI kt)), (4, .int j), (5, .int c)] [] σ)
          refine ⟨fun h_64 => ?_, fun h_64 => ?_⟩
          · skip
            refine zq (σ := σ) hV hI rfl 6 ?_
            show zSp _ 57 [.ref 26, .int (nI ks), .int i, .int c] σ (fun r σ' => σ'.2.2.2 = σ.2.2.2 + zAl 57 → V 87 [(0, .ref 0), (1, .int (nI ks)), (2, .int i), (3, .int (nI kt)), (4, .int j), (5, .int c)] (r.toList ++ []) σ')
            obtain ⟨la, hla, hla60⟩ := hL ks hks4
            refine hasRun_ok (zR_of hI rfl rfl) (k := ks) rfl hks4 hla hla60 (fun hb5 _ => ?_) (fun hb5 _ => ?_)
            · skip
              refine zq (σ := σ) hV hI rfl 1 ?_
              show ((1 : Int32) = 0 → V 105 [(0, .ref 0), (1, .int (nI ks)), (2, .int i), (3, .int (nI kt)), (4, .int j), (5, .int c)] [] σ) ∧ (¬ (1 : Int32) = 0 → V 90 [(0, .ref 0), (1, .int (nI ks)), (2, .int i), (3, .int (nI kt)), (4, .int j), (5, .int c)] [] σ)
              refine ⟨fun hc => absurd hc (by decide), fun _ => ?_⟩
              refine zq (σ := σ) hV hI rfl 6 ?_
              show zSp _ 57 [.ref 26, .int (nI kt), .int j, .int c] σ (fun r σ' => σ'.2.2.2 = σ.2.2.2 + zAl 57 → V 102 [(0, .ref 0), (1, .int (nI ks)), (2, .int i), (3, .int (nI kt)), (4, .int j), (5, .int c)] (r.toList ++ []) σ')
              obtain ⟨lb, hlb, hlb60⟩ := hL kt hkt4
              refine hasRun_ok (zR_of hI rfl rfl) (k := kt) rfl hkt4 hlb hlb60 (fun hb6 _ => ?_) (fun hb6 _ => ?_)
              · skip
                refine zq (σ := σ) hV hI rfl 1 ?_
                show (¬ (1 : Int32) = 0 → V 114 [(0, .ref 0), (1, .int (nI ks)), (2, .int i), (3, .int (nI kt)), (4, .int j), (5, .int c)] [] σ) ∧ (¬ (¬ (1 : Int32) = 0) → V 105 [(0, .ref 0), (1, .int (nI ks)), (2, .int i), (3, .int (nI kt)), (4, .int j), (5, .int c)] [] σ)
                refine ⟨fun _ => ?_, fun hc => absurd (by decide) hc⟩
                obtain ⟨i0, hi0, _, _⟩ := zNat (x := i) hb5.1
                obtain ⟨j0, hj0, _, _⟩ := zNat (x := j) hb6.1
                obtain ⟨c0, hc0, _, _⟩ := zNat (x := c) hb5.2.1
                have hic : i0 + c0 ≤ la := by have := hb5.2.2; omega
                have hjc : j0 + c0 ≤ lb := by have := hb6.2.2; omega
                subst hi0
                subst hj0
                subst hc0
                refine zq (σ := σ) hV hI rfl 2 ?_
                show V 117 [(6, .int 0), (0, .ref 0), (1, .int (nI ks)), (2, .int (nI i0)), (3, .int (nI kt)), (4, .int (nI j0)), (5, .int (nI c0))] [] σ
                refine zwk hV [1, 2, 3, 4, 5, 6, 0] rfl ?_
                have Hp : ∀ (r : Nat) (p : Nat) (τ : zSt), p + r = c0 → zOnly (zfCp (kt * 60 + j0) c0) σ τ → (∀ q, q < c0 → zCw i0 j0 c0 p q → τ.1 29 (kt * 60 + (j0 + q)) = zKp (σ.1 27 kt) (σ.1 29 (ks * 60 + (i0 + q)))) → (∀ y, (∀ q, q < c0 → zCw i0 j0 c0 p q → ¬ y = kt * 60 + (j0 + q)) → τ.1 29 y = σ.1 29 y) → V 117 [(0, .ref 0), (1, .int (nI ks)), (2, .int (nI i0)), (3, .int (nI kt)), (4, .int (nI j0)), (5, .int (nI c0)), (6, .int (nI p))] [] τ := by
                  intro r
                  induction r with
                  | zero =>
                    intro p τ hpr ht hwr hun
                    have hIτ := zQI_eq hI ht.2.2
                    have hnτ : τ.2.2.2 = σ.2.2.2 := congrArg Prod.snd ht.2.2
                    have hF : τ.1 27 kt = σ.1 27 kt := ht.1 27 kt rfl
                    refine zq (σ := τ) hV hIτ hnτ 3 ?_
                    show ((nI c0) ≤ (nI p) → V 175 [(0, .ref 0), (1, .int (nI ks)), (2, .int (nI i0)), (3, .int (nI kt)), (4, .int (nI j0)), (5, .int (nI c0)), (6, .int (nI p))] [] τ) ∧ (¬ (nI c0) ≤ (nI p) → V 124 [(0, .ref 0), (1, .int (nI ks)), (2, .int (nI i0)), (3, .int (nI kt)), (4, .int (nI j0)), (5, .int (nI c0)), (6, .int (nI p))] [] τ)
                    refine ⟨fun _ => ?_, fun hc => absurd (show nI c0 ≤ nI p from zge_self (by omega)) hc⟩
                    refine zq (σ := τ) hV hIτ hnτ 2 ?_
                    show K (some (.int 1)) τ
                    exact hOk τ ks kt la lb i0 j0 c0 rfl hks4 rfl hkt4 hb3 hb4 h_64 hla hla60 hlb hlb60 rfl rfl rfl hic hjc ht (fun q hq => hwr q hq (by unfold zCw; omega))
                  | succ r ihp =>
                    intro p τ hpr ht hwr hun
                    have hIτ := zQI_eq hI ht.2.2
                    have hnτ : τ.2.2.2 = σ.2.2.2 := congrArg Prod.snd ht.2.2
                    have hF : τ.1 27 kt = σ.1 27 kt := ht.1 27 kt rfl
                    refine zq (σ := τ) hV hIτ hnτ 3 ?_
                    show ((nI c0) ≤ (nI p) → V 175 [(0, .ref 0), (1, .int (nI ks)), (2, .int (nI i0)), (3, .int (nI kt)), (4, .int (nI j0)), (5, .int (nI c0)), (6, .int (nI p))] [] τ) ∧ (¬ (nI c0) ≤ (nI p) → V 124 [(0, .ref 0), (1, .int (nI ks)), (2, .int (nI i0)), (3, .int (nI kt)), (4, .int (nI j0)), (5, .int (nI c0)), (6, .int (nI p))] [] τ)
                    refine ⟨fun hc => absurd hc (show ¬ nI c0 ≤ nI p from nI_ge (by omega) (by omega)), fun _ => ?_⟩
                    refine zq (σ := τ) hV hIτ hnτ 3 ?_
                    show ((nI j0) ≤ (nI i0) → V 140 [(0, .ref 0), (1, .int (nI ks)), (2, .int (nI i0)), (3, .int (nI kt)), (4, .int (nI j0)), (5, .int (nI c0)), (6, .int (nI p))] [] τ) ∧ (¬ (nI j0) ≤ (nI i0) → V 130 [(0, .ref 0), (1, .int (nI ks)), (2, .int (nI i0)), (3, .int (nI kt)), (4, .int (nI j0)), (5, .int (nI c0)), (6, .int (nI p))] [] τ)
                    refine ⟨fun h_127 => ?_, fun h_127 => ?_⟩
                    · skip
                      refine zq (σ := τ) hV hIτ hnτ 1 ?_
                      show V 142 [(0, .ref 0), (1, .int (nI ks)), (2, .int (nI i0)), (3, .int (nI kt)), (4, .int (nI j0)), (5, .int (nI c0)), (6, .int (nI p))] [.int (nI p)] τ
                      rw [nI_leI (by omega) (by omega)] at h_127
                      have hcw : p < c0 ∧ (∀ q, q < c0 → (zCw i0 j0 c0 (p + 1) q ↔ (zCw i0 j0 c0 p q ∨ q = p))) ∧ ¬ zCw i0 j0 c0 p p := by
                        unfold zCw
                        exact ⟨by omega, fun q hq => by omega, by omega⟩
                      refine zq (σ := τ) hV hIτ hnτ 14 ?_
                      show zSp _ 53 [.ref 26, .int (nI ks), .int ((nI i0) + (nI p))] τ (fun r σ' => σ'.2.2.2 = τ.2.2.2 + zAl 53 → V 166 [(7, .int (nI p)), (0, .ref 0), (1, .int (nI ks)), (2, .int (nI i0)), (3, .int (nI kt)), (4, .int (nI j0)), (5, .int (nI c0)), (6, .int (nI p))] (r.toList ++ [.int ((nI j0) + (nI p)), .int (nI kt), .ref 26]) σ')
                      refine svalue_ok (zR_of hIτ rfl rfl) (k := ks) rfl (by omega) (j := (i0 + p)) (zn_a (a := i0) (b := p) rfl rfl) (by omega) (fun _ => ?_)
                      refine zq (σ := τ) hV hIτ hnτ 1 ?_
                      show zSp _ 55 [.ref 26, .int (nI kt), .int ((nI j0) + (nI p)), .int (τ.1 29 (ks * 60 + (i0 + p)))] τ (fun r σ' => σ'.2.2.2 = τ.2.2.2 + zAl 55 → V 169 [(7, .int (nI p)), (0, .ref 0), (1, .int (nI ks)), (2, .int (nI i0)), (3, .int (nI kt)), (4, .int (nI j0)), (5, .int (nI c0)), (6, .int (nI p))] (r.toList ++ []) σ')
                      refine write_ok (zR_of hIτ rfl rfl) (k := kt) rfl hkt4 (j := (j0 + p)) (zn_a (a := j0) (b := p) rfl rfl) (by omega) (fun _ => ?_)
                      rw [hF]
                      have hrd : τ.1 29 (ks * 60 + (i0 + p)) = σ.1 29 (ks * 60 + (i0 + p)) := hun _ (fun q hq hw => by have := hcw.1; unfold zCw at hw; omega)
                      rw [hrd]
                      refine zq (σ := (zuI τ 29 (kt * 60 + (j0 + p)) (zKp (σ.1 27 kt) (σ.1 29 (ks * 60 + (i0 + p)))))) hV hIτ hnτ 2 ?_
                      show V 117 [(6, .int ((nI p) + 1)), (7, .int (nI p)), (0, .ref 0), (1, .int (nI ks)), (2, .int (nI i0)), (3, .int (nI kt)), (4, .int (nI j0)), (5, .int (nI c0))] [] (zuI τ 29 (kt * 60 + (j0 + p)) (zKp (σ.1 27 kt) (σ.1 29 (ks * 60 + (i0 + p)))))
                      refine zwk hV [2, 3, 4, 5, 6, 7, 0] rfl ?_
                      rw [nI_1]
                      refine ihp (p + 1) _ (by omega) (ht.uI (by unfold zfCp; simp; omega)) (fun q hq hw => ?_) (fun y hy => ?_)
                      · rw [zuI_get]
                        by_cases e : q = p
                        · subst e; rw [if_pos ⟨rfl, rfl⟩]
                        · rw [if_neg (by omega)]; exact hwr q hq (((hcw.2.1 q hq).mp hw).resolve_right e)
                      · rw [zuI_get, if_neg (fun x => hy p hcw.1 ((hcw.2.1 p hcw.1).mpr (Or.inr rfl)) x.2)]
                        exact hun y (fun q hq hw => hy q hq ((hcw.2.1 q hq).mpr (Or.inl hw)))
                    · skip
                      refine zq (σ := τ) hV hIτ hnτ 6 ?_
                      show V 142 [(0, .ref 0), (1, .int (nI ks)), (2, .int (nI i0)), (3, .int (nI kt)), (4, .int (nI j0)), (5, .int (nI c0)), (6, .int (nI p))] [.int (((nI c0) - 1) - (nI p))] τ
                      rw [nI_leI (by omega) (by omega)] at h_127
                      rw [show (((nI c0) - 1) - (nI p)) = nI ((c0 - 1) - p) from (zn_s (by omega) (a := (c0 - 1)) (b := p) (zn_s (by omega) (a := c0) (b := 1) rfl rfl) rfl)]
                      obtain ⟨it, hit⟩ : ∃ it, it = ((c0 - 1) - p) := ⟨_, rfl⟩
                      rw [← hit]
                      have hcw : it < c0 ∧ (∀ q, q < c0 → (zCw i0 j0 c0 (p + 1) q ↔ (zCw i0 j0 c0 p q ∨ q = it))) ∧ ¬ zCw i0 j0 c0 p it := by
                        unfold zCw
                        exact ⟨by omega, fun q hq => by omega, by omega⟩
                      refine zq (σ := τ) hV hIτ hnτ 14 ?_
                      show zSp _ 53 [.ref 26, .int (nI ks), .int ((nI i0) + (nI it))] τ (fun r σ' => σ'.2.2.2 = τ.2.2.2 + zAl 53 → V 166 [(7, .int (nI it)), (0, .ref 0), (1, .int (nI ks)), (2, .int (nI i0)), (3, .int (nI kt)), (4, .int (nI j0)), (5, .int (nI c0)), (6, .int (nI p))] (r.toList ++ [.int ((nI j0) + (nI it)), .int (nI kt), .ref 26]) σ')
                      refine svalue_ok (zR_of hIτ rfl rfl) (k := ks) rfl (by omega) (j := (i0 + it)) (zn_a (a := i0) (b := it) rfl rfl) (by omega) (fun _ => ?_)
                      refine zq (σ := τ) hV hIτ hnτ 1 ?_
                      show zSp _ 55 [.ref 26, .int (nI kt), .int ((nI j0) + (nI it)), .int (τ.1 29 (ks * 60 + (i0 + it)))] τ (fun r σ' => σ'.2.2.2 = τ.2.2.2 + zAl 55 → V 169 [(7, .int (nI it)), (0, .ref 0), (1, .int (nI ks)), (2, .int (nI i0)), (3, .int (nI kt)), (4, .int (nI j0)), (5, .int (nI c0)), (6, .int (nI p))] (r.toList ++ []) σ')
                      refine write_ok (zR_of hIτ rfl rfl) (k := kt) rfl hkt4 (j := (j0 + it)) (zn_a (a := j0) (b := it) rfl rfl) (by omega) (fun _ => ?_)
                      rw [hF]
                      have hrd : τ.1 29 (ks * 60 + (i0 + it)) = σ.1 29 (ks * 60 + (i0 + it)) := hun _ (fun q hq hw => by have := hcw.1; unfold zCw at hw; omega)
                      rw [hrd]
                      refine zq (σ := (zuI τ 29 (kt * 60 + (j0 + it)) (zKp (σ.1 27 kt) (σ.1 29 (ks * 60 + (i0 + it)))))) hV hIτ hnτ 2 ?_
                      show V 117 [(6, .int ((nI p) + 1)), (7, .int (nI it)), (0, .ref 0), (1, .int (nI ks)), (2, .int (nI i0)), (3, .int (nI kt)), (4, .int (nI j0)), (5, .int (nI c0))] [] (zuI τ 29 (kt * 60 + (j0 + it)) (zKp (σ.1 27 kt) (σ.1 29 (ks * 60 + (i0 + it)))))
                      refine zwk hV [2, 3, 4, 5, 6, 7, 0] rfl ?_
                      rw [nI_1]
                      refine ihp (p + 1) _ (by omega) (ht.uI (by unfold zfCp; simp; omega)) (fun q hq hw => ?_) (fun y hy => ?_)
                      · rw [zuI_get]
                        by_cases e : q = it
                        · subst e; rw [if_pos ⟨rfl, rfl⟩]
                        · rw [if_neg (by omega)]; exact hwr q hq (((hcw.2.1 q hq).mp hw).resolve_right e)
                      · rw [zuI_get, if_neg (fun x => hy it hcw.1 ((hcw.2.1 it hcw.1).mpr (Or.inr rfl)) x.2)]
                        exact hun y (fun q hq hw => hy q hq ((hcw.2.1 q hq).mpr (Or.inl hw)))
                exact Hp c0 0 σ (by omega) zOnly.rf (fun q hq hw => by unfold zCw at hw; omega) (fun y _ => rfl)
              · skip
                refine zq (σ := σ) hV hI rfl 1 ?_
                show (¬ (0 : Int32) = 0 → V 114 [(0, .ref 0), (1, .int (nI ks)), (2, .int i), (3, .int (nI kt)), (4, .int j), (5, .int c)] [] σ) ∧ (¬ (¬ (0 : Int32) = 0) → V 105 [(0, .ref 0), (1, .int (nI ks)), (2, .int i), (3, .int (nI kt)), (4, .int j), (5, .int c)] [] σ)
                refine ⟨fun hc => absurd hc (by decide), fun _ => ?_⟩
                refine zq (σ := σ) hV hI rfl 4 ?_
                show zSp _ 47 [.ref 26, .int 2] σ (fun r σ' => σ'.2.2.2 = σ.2.2.2 + zAl 47 → V 113 [(0, .ref 0), (1, .int (nI ks)), (2, .int i), (3, .int (nI kt)), (4, .int j), (5, .int c)] (r.toList ++ []) σ')
                refine find_ok (zR_of hI rfl rfl) (fun _ => ?_)
                refine zq (σ := (zuI σ 26 3 2)) hV hI rfl 1 ?_
                show K (some (.int ((-10) - 2))) (zuI σ 26 3 2)
                exact hIndex ks kt la lb rfl hks4 rfl hkt4 hb3 hb4 h_64 hla hlb (fun q => hb6 q.2)
            · skip
              refine zq (σ := σ) hV hI rfl 1 ?_
              show ((0 : Int32) = 0 → V 105 [(0, .ref 0), (1, .int (nI ks)), (2, .int i), (3, .int (nI kt)), (4, .int j), (5, .int c)] [] σ) ∧ (¬ (0 : Int32) = 0 → V 90 [(0, .ref 0), (1, .int (nI ks)), (2, .int i), (3, .int (nI kt)), (4, .int j), (5, .int c)] [] σ)
              refine ⟨fun _ => ?_, fun hc => absurd (by decide) hc⟩
              refine zq (σ := σ) hV hI rfl 4 ?_
              show zSp _ 47 [.ref 26, .int 2] σ (fun r σ' => σ'.2.2.2 = σ.2.2.2 + zAl 47 → V 113 [(0, .ref 0), (1, .int (nI ks)), (2, .int i), (3, .int (nI kt)), (4, .int j), (5, .int c)] (r.toList ++ []) σ')
              refine find_ok (zR_of hI rfl rfl) (fun _ => ?_)
              refine zq (σ := (zuI σ 26 3 2)) hV hI rfl 1 ?_
              show K (some (.int ((-10) - 2))) (zuI σ 26 3 2)
              obtain ⟨lb, hlb, hlb60⟩ := hL kt hkt4
              exact hIndex ks kt la lb rfl hks4 rfl hkt4 hb3 hb4 h_64 hla hlb (fun q => hb5 q.1)
          · skip
            refine zq (σ := σ) hV hI rfl 4 ?_
            show zSp _ 47 [.ref 26, .int 4] σ (fun r σ' => σ'.2.2.2 = σ.2.2.2 + zAl 47 → V 75 [(0, .ref 0), (1, .int (nI ks)), (2, .int i), (3, .int (nI kt)), (4, .int j), (5, .int c)] (r.toList ++ []) σ')
            refine find_ok (zR_of hI rfl rfl) (fun _ => ?_)
            refine zq (σ := (zuI σ 26 3 4)) hV hI rfl 1 ?_
            show K (some (.int ((-10) - 4))) (zuI σ 26 3 4)
            exact hStore ks kt rfl hks4 rfl hkt4 hb3 hb4 h_64
    · skip
      refine zq (σ := σ) hV hI rfl 1 ?_
      show (¬ (0 : Int32) = 0 → V 17 [(0, .ref 0), (1, .int s), (2, .int i), (3, .int t), (4, .int j), (5, .int c)] [] σ) ∧ (¬ (¬ (0 : Int32) = 0) → V 14 [(0, .ref 0), (1, .int s), (2, .int i), (3, .int t), (4, .int j), (5, .int c)] [] σ)
      refine ⟨fun hc => absurd hc (by decide), fun _ => ?_⟩
      refine zq (σ := σ) hV hI rfl 2 ?_
      show K (some (.int (-2))) σ
      exact hBad (fun q => hb2 q.2)
  · skip
    refine zq (σ := σ) hV hI rfl 1 ?_
    show ((0 : Int32) = 0 → V 14 [(0, .ref 0), (1, .int s), (2, .int i), (3, .int t), (4, .int j), (5, .int c)] [] σ) ∧ (¬ (0 : Int32) = 0 → V 7 [(0, .ref 0), (1, .int s), (2, .int i), (3, .int t), (4, .int j), (5, .int c)] [] σ)
    refine ⟨fun _ => ?_, fun hc => absurd (by decide) hc⟩
    refine zq (σ := σ) hV hI rfl 2 ?_
    show K (some (.int (-2))) σ
    exact hBad (fun q => hb1 q.1)
