set_option maxRecDepth 8000 in
set_option maxHeartbeats 4000000 in
theorem count_M {d : Nat} {σ : zSt} {K : Option Value → zSt → Prop} {w : Int32} (hI : zQI (kR 30 52) σ.2.2) (hb : ∃ N, σ.1 30 29 = nI N ∧ N < 4096) (hK : K (some (.int (zCt (σ.1 30 0) (σ.1 30 5) (σ.1 30 8) (σ.1 30 18) (σ.1 30 22) (σ.1 30 25) (σ.1 30 35) (σ.1 30 29) (σ.1 30 28) w))) σ) : zSp (d + 2) mX9_count [.ref 30, .int w] σ K := by
  refine ⟨⟨by decide, Nat.le_of_ble_eq_true rfl⟩, fun V hV => ?_⟩
  refine zq (σ := σ) hV hI rfl 2 ?_
  show ((Int32.toInt w < 0 ∨ 8 < Int32.toInt w) → V 100 [(0, .ref 30), (1, .int w)] [] σ) ∧ ((¬ Int32.toInt w < 0 ∧ ¬ 8 < Int32.toInt w) → ∃ off_z, (#[51, 56, 61, 66, 71, 76, 81, 86, 94] : Array Int)[(Int32.toInt w - 0).toNat]? = some off_z ∧ 0 ≤ ((1 : Nat) : Int) + off_z ∧ V (ztg 1 off_z) [(0, .ref 30), (1, .int w)] [] σ)
  refine ⟨fun hsw => ?_, fun hsw => ?_⟩
  · skip
    refine zq (σ := σ) hV hI rfl 2 ?_
    show K (some (.int (-2))) σ
    have e_z : zCt (σ.1 30 0) (σ.1 30 5) (σ.1 30 8) (σ.1 30 18) (σ.1 30 22) (σ.1 30 25) (σ.1 30 35) (σ.1 30 29) (σ.1 30 28) w = -2 := zCt_no (by unfold zBt; omega)
    rw [e_z] at hK
    exact hK
  · skip
    rcases (show Int32.toInt w = 0 ∨ Int32.toInt w = 1 ∨ Int32.toInt w = 2 ∨ Int32.toInt w = 3 ∨ Int32.toInt w = 4 ∨ Int32.toInt w = 5 ∨ Int32.toInt w = 6 ∨ Int32.toInt w = 7 ∨ Int32.toInt w = 8 by omega) with hx | hx | hx | hx | hx | hx | hx | hx | hx
    · skip
      refine ⟨51, by rw [hx]; rfl, by decide, ?_⟩
      show V 52 [(0, .ref 30), (1, .int w)] [] σ
      refine zq (σ := σ) hV hI rfl 3 ?_
      show K (some (.int (σ.1 30 0))) σ
      obtain rfl : w = 0 := by rw [zeq, hx]; rfl
      exact hK
    · skip
      refine ⟨56, by rw [hx]; rfl, by decide, ?_⟩
      show V 57 [(0, .ref 30), (1, .int w)] [] σ
      refine zq (σ := σ) hV hI rfl 3 ?_
      show K (some (.int (σ.1 30 5))) σ
      obtain rfl : w = 1 := by rw [zeq, hx]; rfl
      exact hK
    · skip
      refine ⟨61, by rw [hx]; rfl, by decide, ?_⟩
      show V 62 [(0, .ref 30), (1, .int w)] [] σ
      refine zq (σ := σ) hV hI rfl 3 ?_
      show K (some (.int (σ.1 30 8))) σ
      obtain rfl : w = 2 := by rw [zeq, hx]; rfl
      exact hK
    · skip
      refine ⟨66, by rw [hx]; rfl, by decide, ?_⟩
      show V 67 [(0, .ref 30), (1, .int w)] [] σ
      refine zq (σ := σ) hV hI rfl 3 ?_
      show K (some (.int (σ.1 30 18))) σ
      obtain rfl : w = 3 := by rw [zeq, hx]; rfl
      exact hK
    · skip
      refine ⟨71, by rw [hx]; rfl, by decide, ?_⟩
      show V 72 [(0, .ref 30), (1, .int w)] [] σ
      refine zq (σ := σ) hV hI rfl 3 ?_
      show K (some (.int (σ.1 30 22))) σ
      obtain rfl : w = 4 := by rw [zeq, hx]; rfl
      exact hK
    · skip
      refine ⟨76, by rw [hx]; rfl, by decide, ?_⟩
      show V 77 [(0, .ref 30), (1, .int w)] [] σ
      refine zq (σ := σ) hV hI rfl 3 ?_
      show K (some (.int (σ.1 30 25))) σ
      obtain rfl : w = 5 := by rw [zeq, hx]; rfl
      exact hK
    · skip
      refine ⟨81, by rw [hx]; rfl, by decide, ?_⟩
      show V 82 [(0, .ref 30), (1, .int w)] [] σ
      refine zq (σ := σ) hV hI rfl 3 ?_
      show K (some (.int (σ.1 30 35))) σ
      obtain rfl : w = 6 := by rw [zeq, hx]; rfl
      exact hK
    · skip
      refine ⟨86, by rw [hx]; rfl, by decide, ?_⟩
      show V 87 [(0, .ref 30), (1, .int w)] [] σ
      refine zq (σ := σ) hV hI rfl 3 ?_
      show zSp _ 184 [.int (σ.1 30 29)] σ (fun r_z σ' => σ'.2.2.2 = σ.2.2.2 + zAl 184 → V 94 [(0, .ref 30), (1, .int w)] (r_z.toList ++ []) σ')
      refine ones_M  (fun _ => ?_)
      refine zq (σ := σ) hV hI rfl 1 ?_
      show K (some (.int (zOn1 (σ.1 30 29) 12))) σ
      obtain rfl : w = 7 := by rw [zeq, hx]; rfl
      obtain ⟨N_z, hb, hN_z⟩ := hb
      have e_z : zCt (σ.1 30 0) (σ.1 30 5) (σ.1 30 8) (σ.1 30 18) (σ.1 30 22) (σ.1 30 25) (σ.1 30 35) (σ.1 30 29) (σ.1 30 28) 7 = zBc (σ.1 30 29) := rfl
      rw [e_z, hb, zOn_bc hN_z, ← hb] at hK
      exact hK
    · skip
      refine ⟨94, by rw [hx]; rfl, by decide, ?_⟩
      show V 95 [(0, .ref 30), (1, .int w)] [] σ
      refine zq (σ := σ) hV hI rfl 3 ?_
      show K (some (.int (σ.1 30 28))) σ
      obtain rfl : w = 8 := by rw [zeq, hx]; rfl
      exact hK
set_option maxRecDepth 8000 in
set_option maxHeartbeats 4000000 in
theorem digest_M {d : Nat} {σ : zSt} {K : Option Value → zSt → Prop} {n m mp l nb N : Nat} {M : Nat → Nat} (hI : zQI (kR 30 52) σ.2.2) (hn : σ.1 30 0 = nI n) (hn10 : n ≤ 10) (hB : zHB n (σ.1 31) (σ.1 32)) (hfb : zBt 0 16 (σ.1 30 8)) (hs : σ.1 30 5 = nI m) (hm : m ≤ 8) (hE : ∀ i, i < m → ∃ e, σ.1 35 i = nI e ∧ e < n) (hS : ∀ i, i < m → zBt 0 8 (σ.1 36 i)) (hp : σ.1 30 22 = nI mp) (hmp : mp ≤ 20) (hpb : ∀ j, j < mp → zBt (-40) 40 (σ.1 43 j) ∧ zBt (-40) 40 (σ.1 44 j)) (hl : (σ.1 48 0 < 0 ∧ l = 0) ∨ (¬ σ.1 48 0 < 0 ∧ σ.1 49 0 = nI l)) (hl60 : l ≤ 60) (hbn : σ.1 30 28 = nI nb) (hnb : nb ≤ 12) (hA : zMok (σ.1 47) M) (hb : σ.1 30 29 = nI N) (hN : N < 2 ^ nb) (hK : ∀ τ R, zOnly zfMh σ τ → zGr M N R → R < 2 ^ nb → K (some (.long (zDgst (fun w => zCt (σ.1 30 0) (σ.1 30 5) (σ.1 30 8) (σ.1 30 18) (σ.1 30 22) (σ.1 30 25) (σ.1 30 35) (σ.1 30 29) (σ.1 30 28) (nI w)) n (σ.1 31) (σ.1 32) (σ.1 30 8) (σ.1 35) (σ.1 36) m (zCo (zFp n (σ.1 31) (σ.1 32) (σ.1 43) (σ.1 44) (σ.1 50) l mp) 81) (nI R)))) τ) : zSp (d + 5) mX9_digest [.ref 30] σ K := by
  refine ⟨⟨by decide, Nat.le_of_ble_eq_true rfl⟩, fun V hV => ?_⟩
  refine zq (σ := σ) hV hI rfl 4 ?_
  show V 6 [(3, .int 0), (1, .long 17), (0, .ref 30)] [] σ
  refine zwk hV [2, 1, 0] rfl ?_
  have Ha : ∀ (r_z : Nat) (i_z : Nat) (h_z : Int64), i_z + r_z = 9 → zDa (fun w_z => zCt (σ.1 30 0) (σ.1 30 5) (σ.1 30 8) (σ.1 30 18) (σ.1 30 22) (σ.1 30 25) (σ.1 30 35) (σ.1 30 29) (σ.1 30 28) (nI w_z)) r_z i_z h_z = zDa (fun w_z => zCt (σ.1 30 0) (σ.1 30 5) (σ.1 30 8) (σ.1 30 18) (σ.1 30 22) (σ.1 30 25) (σ.1 30 35) (σ.1 30 29) (σ.1 30 28) (nI w_z)) 9 0 17 → V 6 [(0, .ref 30), (1, .long h_z), (3, .int (nI i_z))] [] σ := by
    intro r_z
    induction r_z with
    | zero =>
      intro i_z h_z hir hfin
      refine zq (σ := σ) hV hI rfl 3 ?_
      show (9 ≤ (nI i_z) → V 41 [(0, .ref 30), (1, .long h_z), (3, .int (nI i_z))] [] σ) ∧ (¬ 9 ≤ (nI i_z) → V 12 [(0, .ref 30), (1, .long h_z), (3, .int (nI i_z))] [] σ)
      refine ⟨fun _ => ?_, fun hc_z => absurd (show (9 : Int32) ≤ nI i_z by rw [show i_z = 9 by omega]; decide) hc_z⟩
      refine zq (σ := σ) hV hI rfl 2 ?_
      show V 43 [(3, .int 0), (0, .ref 30), (1, .long h_z)] [] σ
      refine zwk hV [1, 2, 0] rfl ?_
      have Hb_z : ∀ (r_z : Nat) (i_z : Nat) (g_z : Int64), i_z + r_z = n → zDb (σ.1 31) (σ.1 32) r_z i_z g_z = zDb (σ.1 31) (σ.1 32) n 0 (zDa (fun w_z => zCt (σ.1 30 0) (σ.1 30 5) (σ.1 30 8) (σ.1 30 18) (σ.1 30 22) (σ.1 30 25) (σ.1 30 35) (σ.1 30 29) (σ.1 30 28) (nI w_z)) 9 0 17) → V 43 [(0, .ref 30), (1, .long g_z), (3, .int (nI i_z))] [] σ := by
        intro r_z
        induction r_z with
        | zero =>
          intro i_z g_z hirb hgin
          refine zq (σ := σ) hV hI rfl 4 ?_
          show ((σ.1 30 0) ≤ (nI i_z) → V 85 [(0, .ref 30), (1, .long g_z), (3, .int (nI i_z))] [] σ) ∧ (¬ (σ.1 30 0) ≤ (nI i_z) → V 51 [(0, .ref 30), (1, .long g_z), (3, .int (nI i_z))] [] σ)
          refine ⟨fun _ => ?_, fun hc_z => absurd (show (σ.1 30 0) ≤ nI i_z by rw [hn]; exact zge_self (by omega)) hc_z⟩
          refine zq (σ := σ) hV hI rfl 2 ?_
          show zSp _ 152 [.ref 30] σ (fun r_z σ' => σ'.2.2.2 = σ.2.2.2 + zAl 152 → V 89 [(0, .ref 30), (1, .long g_z), (3, .int (nI i_z))] (r_z.toList ++ []) σ')
          refine layAll_M hI hn hn10 hB hfb hs hm hE hS (fun τ ht h9 hT_z _ => ?_)
          have hml := @zMl_le (σ.1 30 8) m hm
          have htM := ht.wk zfLy_M
          have hIτ := zQI_eq hI ht.2.2
          have hnτ : τ.2.2.2 = σ.2.2.2 := congrArg Prod.snd ht.2.2
          refine zq (σ := τ) hV hIτ hnτ 2 ?_
          show V 91 [(3, .int 0), (0, .ref 30), (1, .long g_z)] [] τ
          refine zwk hV [1, 2, 0] rfl ?_
          have Ht : ∀ (r_z : Nat) (t_z : Nat) (q_z : Int64), t_z + r_z = zMl (σ.1 30 8) m → zDt (zl (zT1 n (σ.1 31) (σ.1 32) (σ.1 30 8) (σ.1 35))) (zl (zT2 n (σ.1 31) (σ.1 32) (σ.1 30 8) (σ.1 35))) (zl (zT3 n (σ.1 31) (σ.1 32) (σ.1 30 8) (σ.1 35) (σ.1 36))) r_z t_z q_z = zDt (zl (zT1 n (σ.1 31) (σ.1 32) (σ.1 30 8) (σ.1 35))) (zl (zT2 n (σ.1 31) (σ.1 32) (σ.1 30 8) (σ.1 35))) (zl (zT3 n (σ.1 31) (σ.1 32) (σ.1 30 8) (σ.1 35) (σ.1 36))) (zMl (σ.1 30 8) m) 0 (zDb (σ.1 31) (σ.1 32) n 0 (zDa (fun w_z => zCt (σ.1 30 0) (σ.1 30 5) (σ.1 30 8) (σ.1 30 18) (σ.1 30 22) (σ.1 30 25) (σ.1 30 35) (σ.1 30 29) (σ.1 30 28) (nI w_z)) 9 0 17)) → V 91 [(0, .ref 30), (1, .long q_z), (3, .int (nI t_z))] [] τ := by
            intro r_z
            induction r_z with
            | zero =>
              intro t_z q_z htr hqin
              refine zq (σ := τ) hV hIτ hnτ 4 ?_
              show ((τ.1 30 9) ≤ (nI t_z) → V 144 [(0, .ref 30), (1, .long q_z), (3, .int (nI t_z))] [] τ) ∧ (¬ (τ.1 30 9) ≤ (nI t_z) → V 99 [(0, .ref 30), (1, .long q_z), (3, .int (nI t_z))] [] τ)
              refine ⟨fun _ => ?_, fun hc_z => absurd (show τ.1 30 9 ≤ nI t_z by rw [h9]; exact zge_self (by omega)) hc_z⟩
              refine zq (σ := τ) hV hIτ hnτ 5 ?_
              show zSp _ 155 [.ref 30] τ (fun r_z σ' => σ'.2.2.2 = τ.2.2.2 + zAl 155 → V 153 [(0, .ref 30), (1, .long q_z), (3, .int (nI t_z))] (r_z.toList ++ [.long (31 * q_z)]) σ')
              refine hold_M hIτ h9 hml (fun υ hu0 hq0 _ => ?_) (fun υ hu0 hq0 _ => ?_)
              · skip
                have hq : zHo n (σ.1 31) (σ.1 32) (σ.1 30 8) (σ.1 35) (σ.1 36) m := (zHold_congr hT_z).mp hq0
                have hu := htM.tr (hu0.wk zfX_M)
                have hIυ := zQI_eq hI hu.2.2
                have hnυ : υ.2.2.2 = σ.2.2.2 := congrArg Prod.snd hu.2.2
                have u31 : υ.1 31 = σ.1 31 := funext fun j_z => hu.1 31 j_z rfl
                have u32 : υ.1 32 = σ.1 32 := funext fun j_z => hu.1 32 j_z rfl
                have u43 : υ.1 43 = σ.1 43 := funext fun j_z => hu.1 43 j_z rfl
                have u44 : υ.1 44 = σ.1 44 := funext fun j_z => hu.1 44 j_z rfl
                have u47 : υ.1 47 = σ.1 47 := funext fun j_z => hu.1 47 j_z rfl
                have u50 : υ.1 50 = σ.1 50 := funext fun j_z => hu.1 50 j_z rfl
                have ub_z : υ.1 30 29 = nI N := (hu.1 30 29 rfl).trans hb
                refine zq (σ := υ) hV hIυ hnυ 1 ?_
                show ((1 : Int32) = 0 → V 160 [(0, .ref 30), (1, .long q_z), (3, .int (nI t_z))] [.long (31 * q_z)] υ) ∧ (¬ (1 : Int32) = 0 → V 156 [(0, .ref 30), (1, .long q_z), (3, .int (nI t_z))] [.long (31 * q_z)] υ)
                refine ⟨fun hc_z => absurd hc_z (by decide), fun _ => ?_⟩
                refine zq (σ := υ) hV hIυ hnυ 10 ?_
                show zSp _ 172 [.ref 30] υ (fun r_z σ' => σ'.2.2.2 = υ.2.2.2 + zAl 172 → V 173 [(1, .long ((31 * q_z) + (Int32.toInt64 1))), (0, .ref 30), (3, .int (nI t_z))] (r_z.toList ++ [.long (31 * ((31 * q_z) + (Int32.toInt64 1)))]) σ')
                refine poses_M hIυ ((hu.1 30 0 rfl).trans hn) hn10 (by rw [u31, u32]; exact hB) ((hu.1 30 22 rfl).trans hp) hmp (by rw [u43, u44]; exact hpb) (by rw [show υ.1 48 0 = σ.1 48 0 from hu.1 48 0 rfl, show υ.1 49 0 = σ.1 49 0 from hu.1 49 0 rfl]; exact hl) hl60 ?_
                rw [u31, u32, u43, u44, u50]
                intro _
                refine zq (σ := υ) hV hIυ hnυ 8 ?_
                show zSp _ 185 [.ref 30] υ (fun r_z σ' => σ'.2.2.2 = υ.2.2.2 + zAl 185 → V 185 [(1, .long ((31 * ((31 * q_z) + (Int32.toInt64 1))) + (Int32.toInt64 (zCo (zFp n (σ.1 31) (σ.1 32) (σ.1 43) (σ.1 44) (σ.1 50) l mp) 81)))), (0, .ref 30), (3, .int (nI t_z))] (r_z.toList ++ [.long (31 * ((31 * ((31 * q_z) + (Int32.toInt64 1))) + (Int32.toInt64 (zCo (zFp n (σ.1 31) (σ.1 32) (σ.1 43) (σ.1 44) (σ.1 50) l mp) 81))))]) σ')
                refine stuck_M hIυ ((hu.1 30 28 rfl).trans hbn) hnb (by rw [u47]; exact hA) ub_z hN (fun R_z hR hR2 _ => ?_)
                refine zq (σ := υ) hV hIυ hnυ 3 ?_
                show K (some (.long ((31 * ((31 * ((31 * q_z) + (Int32.toInt64 1))) + (Int32.toInt64 (zCo (zFp n (σ.1 31) (σ.1 32) (σ.1 43) (σ.1 44) (σ.1 50) l mp) 81)))) + (Int32.toInt64 (nI R_z))))) υ
                replace hqin : q_z = _ := hqin
                have hk := hK υ R_z hu hR hR2
                unfold zDgst at hk
                rw [zDc_t hq] at hk
                rw [hqin]
                exact hk
              · skip
                have hq : ¬ zHo n (σ.1 31) (σ.1 32) (σ.1 30 8) (σ.1 35) (σ.1 36) m := fun x_z => hq0 ((zHold_congr hT_z).mpr x_z)
                have hu := htM.tr (hu0.wk zfX_M)
                have hIυ := zQI_eq hI hu.2.2
                have hnυ : υ.2.2.2 = σ.2.2.2 := congrArg Prod.snd hu.2.2
                have u31 : υ.1 31 = σ.1 31 := funext fun j_z => hu.1 31 j_z rfl
                have u32 : υ.1 32 = σ.1 32 := funext fun j_z => hu.1 32 j_z rfl
                have u43 : υ.1 43 = σ.1 43 := funext fun j_z => hu.1 43 j_z rfl
                have u44 : υ.1 44 = σ.1 44 := funext fun j_z => hu.1 44 j_z rfl
                have u47 : υ.1 47 = σ.1 47 := funext fun j_z => hu.1 47 j_z rfl
                have u50 : υ.1 50 = σ.1 50 := funext fun j_z => hu.1 50 j_z rfl
                have ub_z : υ.1 30 29 = nI N := (hu.1 30 29 rfl).trans hb
                refine zq (σ := υ) hV hIυ hnυ 1 ?_
                show ((0 : Int32) = 0 → V 160 [(0, .ref 30), (1, .long q_z), (3, .int (nI t_z))] [.long (31 * q_z)] υ) ∧ (¬ (0 : Int32) = 0 → V 156 [(0, .ref 30), (1, .long q_z), (3, .int (nI t_z))] [.long (31 * q_z)] υ)
                refine ⟨fun _ => ?_, fun hc_z => absurd (by decide) hc_z⟩
                refine zq (σ := υ) hV hIυ hnυ 9 ?_
                show zSp _ 172 [.ref 30] υ (fun r_z σ' => σ'.2.2.2 = υ.2.2.2 + zAl 172 → V 173 [(1, .long ((31 * q_z) + (Int32.toInt64 0))), (0, .ref 30), (3, .int (nI t_z))] (r_z.toList ++ [.long (31 * ((31 * q_z) + (Int32.toInt64 0)))]) σ')
                refine poses_M hIυ ((hu.1 30 0 rfl).trans hn) hn10 (by rw [u31, u32]; exact hB) ((hu.1 30 22 rfl).trans hp) hmp (by rw [u43, u44]; exact hpb) (by rw [show υ.1 48 0 = σ.1 48 0 from hu.1 48 0 rfl, show υ.1 49 0 = σ.1 49 0 from hu.1 49 0 rfl]; exact hl) hl60 ?_
                rw [u31, u32, u43, u44, u50]
                intro _
                refine zq (σ := υ) hV hIυ hnυ 8 ?_
                show zSp _ 185 [.ref 30] υ (fun r_z σ' => σ'.2.2.2 = υ.2.2.2 + zAl 185 → V 185 [(1, .long ((31 * ((31 * q_z) + (Int32.toInt64 0))) + (Int32.toInt64 (zCo (zFp n (σ.1 31) (σ.1 32) (σ.1 43) (σ.1 44) (σ.1 50) l mp) 81)))), (0, .ref 30), (3, .int (nI t_z))] (r_z.toList ++ [.long (31 * ((31 * ((31 * q_z) + (Int32.toInt64 0))) + (Int32.toInt64 (zCo (zFp n (σ.1 31) (σ.1 32) (σ.1 43) (σ.1 44) (σ.1 50) l mp) 81))))]) σ')
                refine stuck_M hIυ ((hu.1 30 28 rfl).trans hbn) hnb (by rw [u47]; exact hA) ub_z hN (fun R_z hR hR2 _ => ?_)
                refine zq (σ := υ) hV hIυ hnυ 3 ?_
                show K (some (.long ((31 * ((31 * ((31 * q_z) + (Int32.toInt64 0))) + (Int32.toInt64 (zCo (zFp n (σ.1 31) (σ.1 32) (σ.1 43) (σ.1 44) (σ.1 50) l mp) 81)))) + (Int32.toInt64 (nI R_z))))) υ
                replace hqin : q_z = _ := hqin
                have hk := hK υ R_z hu hR hR2
                unfold zDgst at hk
                rw [zDc_f hq] at hk
                rw [hqin]
                exact hk
            | succ r_z iht =>
              intro t_z q_z htr hqin
              refine zq (σ := τ) hV hIτ hnτ 4 ?_
              show ((τ.1 30 9) ≤ (nI t_z) → V 144 [(0, .ref 30), (1, .long q_z), (3, .int (nI t_z))] [] τ) ∧ (¬ (τ.1 30 9) ≤ (nI t_z) → V 99 [(0, .ref 30), (1, .long q_z), (3, .int (nI t_z))] [] τ)
              refine ⟨fun hc_z => absurd hc_z (show ¬ τ.1 30 9 ≤ nI t_z by rw [h9]; exact nI_ge (by omega) (by omega)), fun _ => ?_⟩
              refine zq (σ := τ) hV hIτ hnτ 7 ?_
              show vp_in (nI t_z) 16 ∧ V 110 [(0, .ref 30), (1, .long q_z), (3, .int (nI t_z))] [.long (τ.2.1 37 (Int32.toNatClampNeg (nI t_z))), .long (31 * q_z)] τ
              refine ⟨zix (k := t_z) rfl (by omega) (by decide), ?_⟩
              rw [zcl_k (i := (nI t_z)) (k := t_z) rfl (by omega)]
              refine zq (σ := τ) hV hIτ hnτ 9 ?_
              show vp_in (nI t_z) 16 ∧ V 123 [(1, .long ((31 * q_z) + (τ.2.1 37 t_z))), (0, .ref 30), (3, .int (nI t_z))] [.long (τ.2.1 38 (Int32.toNatClampNeg (nI t_z))), .long (31 * ((31 * q_z) + (τ.2.1 37 t_z)))] τ
              refine ⟨zix (k := t_z) rfl (by omega) (by decide), ?_⟩
              rw [zcl_k (i := (nI t_z)) (k := t_z) rfl (by omega)]
              refine zq (σ := τ) hV hIτ hnτ 9 ?_
              show vp_in (nI t_z) 16 ∧ V 136 [(1, .long ((31 * ((31 * q_z) + (τ.2.1 37 t_z))) + (τ.2.1 38 t_z))), (0, .ref 30), (3, .int (nI t_z))] [.long (τ.2.1 39 (Int32.toNatClampNeg (nI t_z))), .long (31 * ((31 * ((31 * q_z) + (τ.2.1 37 t_z))) + (τ.2.1 38 t_z)))] τ
              refine ⟨zix (k := t_z) rfl (by omega) (by decide), ?_⟩
              rw [zcl_k (i := (nI t_z)) (k := t_z) rfl (by omega)]
              refine zq (σ := τ) hV hIτ hnτ 4 ?_
              show V 91 [(3, .int ((nI t_z) + 1)), (1, .long ((31 * ((31 * ((31 * q_z) + (τ.2.1 37 t_z))) + (τ.2.1 38 t_z))) + (τ.2.1 39 t_z))), (0, .ref 30)] [] τ
              refine zwk hV [2, 1, 0] rfl ?_
              rw [nI_1, (hT_z t_z (by omega)).1, (hT_z t_z (by omega)).2.1, (hT_z t_z (by omega)).2.2]
              exact iht (t_z + 1) _ (by omega) hqin
          replace hgin : g_z = _ := hgin
          exact Ht (zMl (σ.1 30 8) m) 0 g_z (by omega) (by rw [hgin])
        | succ r_z ihb =>
          intro i_z g_z hirb hgin
          refine zq (σ := σ) hV hI rfl 4 ?_
          show ((σ.1 30 0) ≤ (nI i_z) → V 85 [(0, .ref 30), (1, .long g_z), (3, .int (nI i_z))] [] σ) ∧ (¬ (σ.1 30 0) ≤ (nI i_z) → V 51 [(0, .ref 30), (1, .long g_z), (3, .int (nI i_z))] [] σ)
          refine ⟨fun hc_z => absurd hc_z (show ¬ (σ.1 30 0) ≤ nI i_z by rw [hn]; exact nI_ge (by omega) (by omega)), fun _ => ?_⟩
          refine zq (σ := σ) hV hI rfl 7 ?_
          show vp_in (nI i_z) 10 ∧ V 62 [(0, .ref 30), (1, .long g_z), (3, .int (nI i_z))] [.int (σ.1 31 (Int32.toNatClampNeg (nI i_z))), .long (31 * g_z)] σ
          refine ⟨zix (k := i_z) rfl (by omega) (by decide), ?_⟩
          rw [zcl_k (i := (nI i_z)) (k := i_z) rfl (by omega)]
          refine zq (σ := σ) hV hI rfl 10 ?_
          show vp_in (nI i_z) 10 ∧ V 76 [(1, .long ((31 * g_z) + (Int32.toInt64 (σ.1 31 i_z)))), (0, .ref 30), (3, .int (nI i_z))] [.int (σ.1 32 (Int32.toNatClampNeg (nI i_z))), .long (31 * ((31 * g_z) + (Int32.toInt64 (σ.1 31 i_z))))] σ
          refine ⟨zix (k := i_z) rfl (by omega) (by decide), ?_⟩
          rw [zcl_k (i := (nI i_z)) (k := i_z) rfl (by omega)]
          refine zq (σ := σ) hV hI rfl 5 ?_
          show V 43 [(3, .int ((nI i_z) + 1)), (1, .long ((31 * ((31 * g_z) + (Int32.toInt64 (σ.1 31 i_z)))) + (Int32.toInt64 (σ.1 32 i_z)))), (0, .ref 30)] [] σ
          refine zwk hV [2, 1, 0] rfl ?_
          rw [nI_1]
          exact ihb (i_z + 1) _ (by omega) hgin
      replace hfin : h_z = _ := hfin
      exact Hb_z n 0 h_z (by omega) (by rw [hfin])
    | succ r_z iha =>
      intro i_z h_z hir hfin
      refine zq (σ := σ) hV hI rfl 3 ?_
      show (9 ≤ (nI i_z) → V 41 [(0, .ref 30), (1, .long h_z), (3, .int (nI i_z))] [] σ) ∧ (¬ 9 ≤ (nI i_z) → V 12 [(0, .ref 30), (1, .long h_z), (3, .int (nI i_z))] [] σ)
      refine ⟨fun hc_z => absurd hc_z (show ¬ nI 9 ≤ nI i_z from nI_ge (by omega) (by decide)), fun _ => ?_⟩
      refine zq (σ := σ) hV hI rfl 3 ?_
      show (¬ (nI i_z) = 6 → V 22 [(0, .ref 30), (1, .long h_z), (3, .int (nI i_z))] [] σ) ∧ (¬ (¬ (nI i_z) = 6) → V 18 [(0, .ref 30), (1, .long h_z), (3, .int (nI i_z))] [] σ)
      refine ⟨fun h_15 => ?_, fun h_15 => ?_⟩
      · skip
        refine zq (σ := σ) hV hI rfl 6 ?_
        show zSp _ 194 [.ref 30, .int (nI i_z)] σ (fun r_z σ' => σ'.2.2.2 = σ.2.2.2 + zAl 194 → V 32 [(0, .ref 30), (1, .long h_z), (3, .int (nI i_z))] (r_z.toList ++ [.long (31 * h_z)]) σ')
        refine count_M hI ⟨N, hb, by have := z2n12 hnb; omega⟩ (fun _ => ?_)
        refine zq (σ := σ) hV hI rfl 5 ?_
        show V 6 [(3, .int ((nI i_z) + 1)), (1, .long ((31 * h_z) + (Int32.toInt64 (zCt (σ.1 30 0) (σ.1 30 5) (σ.1 30 8) (σ.1 30 18) (σ.1 30 22) (σ.1 30 25) (σ.1 30 35) (σ.1 30 29) (σ.1 30 28) (nI i_z))))), (0, .ref 30)] [] σ
        refine zwk hV [2, 1, 0] rfl ?_
        rw [nI_1]
        refine iha (i_z + 1) _ (by omega) ?_
        rw [← hfin]
        show zDa (fun w_z => zCt (σ.1 30 0) (σ.1 30 5) (σ.1 30 8) (σ.1 30 18) (σ.1 30 22) (σ.1 30 25) (σ.1 30 35) (σ.1 30 29) (σ.1 30 28) (nI w_z)) r_z (i_z + 1) _ = zDa (fun w_z => zCt (σ.1 30 0) (σ.1 30 5) (σ.1 30 8) (σ.1 30 18) (σ.1 30 22) (σ.1 30 25) (σ.1 30 35) (σ.1 30 29) (σ.1 30 28) (nI w_z)) r_z (i_z + 1) (if i_z = 6 then h_z else 31 * h_z + Int32.toInt64 ((fun w_z => zCt (σ.1 30 0) (σ.1 30 5) (σ.1 30 8) (σ.1 30 18) (σ.1 30 22) (σ.1 30 25) (σ.1 30 35) (σ.1 30 29) (σ.1 30 28) (nI w_z)) i_z))
        have e15_z : nI i_z = 6 ↔ i_z = 6 := nI_eq (a := i_z) (b := 6) (by omega) (by decide)
        rw [if_neg (fun q_z => h_15 (e15_z.mpr q_z))]
      · skip
        have h_15 := Classical.not_not.mp h_15
        refine zq (σ := σ) hV hI rfl 5 ?_
        show V 6 [(3, .int ((nI i_z) + 1)), (1, .long h_z), (0, .ref 30)] [] σ
        refine zwk hV [2, 1, 0] rfl ?_
        rw [nI_1]
        refine iha (i_z + 1) _ (by omega) ?_
        rw [← hfin]
        show zDa (fun w_z => zCt (σ.1 30 0) (σ.1 30 5) (σ.1 30 8) (σ.1 30 18) (σ.1 30 22) (σ.1 30 25) (σ.1 30 35) (σ.1 30 29) (σ.1 30 28) (nI w_z)) r_z (i_z + 1) _ = zDa (fun w_z => zCt (σ.1 30 0) (σ.1 30 5) (σ.1 30 8) (σ.1 30 18) (σ.1 30 22) (σ.1 30 25) (σ.1 30 35) (σ.1 30 29) (σ.1 30 28) (nI w_z)) r_z (i_z + 1) (if i_z = 6 then h_z else 31 * h_z + Int32.toInt64 ((fun w_z => zCt (σ.1 30 0) (σ.1 30 5) (σ.1 30 8) (σ.1 30 18) (σ.1 30 22) (σ.1 30 25) (σ.1 30 35) (σ.1 30 29) (σ.1 30 28) (nI w_z)) i_z))
        have e15_z : nI i_z = 6 ↔ i_z = 6 := nI_eq (a := i_z) (b := 6) (by omega) (by decide)
        rw [if_pos (e15_z.mp h_15)]
  exact Ha 9 0 17 rfl rfl
