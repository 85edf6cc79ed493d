theorem z8b {a d : Int32} (h : zBt (-40) 40 a) (h2 : zBt (-4) 4 d) : zBt (-1000) 1000 (8 * (a - d)) := by
  have h3 := (zsubB (A := 40) (B := 4) h h2 (by decide)).2
  exact zBtm (zmulB2 (A := 8) (B := 44) ⟨by decide, by decide⟩ h3 (by decide)) (by decide) (by decide)
theorem z4b {i : Nat} (h : i < 9) : zBt (-4) 4 (nI i - 4) := by
  rcases (show i = 0 ∨ i = 1 ∨ i = 2 ∨ i = 3 ∨ i = 4 ∨ i = 5 ∨ i = 6 ∨ i = 7 ∨ i = 8 by omega) with h | h | h | h | h | h | h | h | h <;> subst h <;> exact ⟨by decide, by decide⟩
theorem zdiv9 {q : Nat} (h : q < 2 ^ 31) : nI q / 9 = nI (q / 9) := pk_div (d := 9) h (by decide) (by decide)
theorem zrem9 {q : Nat} (h : q < 2 ^ 31) : nI q - nI q / 9 * 9 = nI (q % 9) := pk_rem (d := 9) h (by decide) (by decide)
set_option maxRecDepth 8000 in
set_option maxHeartbeats 4000000 in
theorem fits_M {d : Nat} {σ : zSt} {K : Option Value → zSt → Prop} {dx dy : Int32} {n m l : Nat} (hI : zQI (kR 30 52) σ.2.2) (hn : σ.1 30 0 = nI n) (hn10 : n ≤ 10) (hB : ∀ j, j < n → zBt (-30) 30 (σ.1 31 j) ∧ zBt (-30) 30 (σ.1 32 j)) (hp : σ.1 30 22 = nI m) (hm : m ≤ 20) (hpb : ∀ j, j < m → zBt (-40) 40 (σ.1 43 j) ∧ zBt (-40) 40 (σ.1 44 j)) (hl : (σ.1 48 0 < 0 ∧ l = 0) ∨ (¬ σ.1 48 0 < 0 ∧ σ.1 49 0 = nI l)) (hl60 : l ≤ 60) (hdx : zBt (-4) 4 dx) (hdy : zBt (-4) 4 dy) (h1 : zFts n (σ.1 31) (σ.1 32) (σ.1 43) (σ.1 44) (σ.1 50) l m dx dy → K (some (.int 1)) σ) (h0 : ¬ zFts n (σ.1 31) (σ.1 32) (σ.1 43) (σ.1 44) (σ.1 50) l m dx dy → K (some (.int 0)) σ) : zSp (d + 3) mX9_fits [.ref 30, .int dx, .int dy] σ K := by
  refine ⟨⟨by decide, Nat.le_of_ble_eq_true rfl⟩, fun V hV => ?_⟩
  refine zq (σ := σ) hV hI rfl 4 ?_
  show V 5 [(4, .int 0), (3, .int 1), (0, .ref 30), (1, .int dx), (2, .int dy)] [] σ
  refine zwk hV [2, 3, 4, 1, 0] rfl ?_
  have Hi : ∀ (r_z : Nat) (i_z : Nat), i_z + r_z = m → (∀ j_z, j_z < i_z → zF1 n (σ.1 31) (σ.1 32) (σ.1 43) (σ.1 44) (σ.1 50) l dx dy j_z) → V 5 [(0, .ref 30), (1, .int dx), (2, .int dy), (3, .int 1), (4, .int (nI i_z))] [] σ := by
    intro r_z
    induction r_z with
    | zero =>
      intro i_z him hall
      refine zq (σ := σ) hV hI rfl 4 ?_
      show ((σ.1 30 22) ≤ (nI i_z) → V 128 [(0, .ref 30), (1, .int dx), (2, .int dy), (3, .int 1), (4, .int (nI i_z))] [] σ) ∧ (¬ (σ.1 30 22) ≤ (nI i_z) → V 14 [(0, .ref 30), (1, .int dx), (2, .int dy), (3, .int 1), (4, .int (nI i_z))] [] σ)
      refine ⟨fun _ => ?_, fun hc_z => absurd (show (σ.1 30 22) ≤ nI i_z by rw [hp]; exact zge_self (by omega)) hc_z⟩
      refine zq (σ := σ) hV hI rfl 2 ?_
      show ((1 : Int32) = 0 ∨ (1 : Int32) = 1) ∧ K (some (.int 1)) σ
      refine ⟨by decide, ?_⟩
      obtain rfl : m = i_z := by omega
      exact h1 hall
    | succ r_z ihi =>
      intro i_z him hall
      refine zq (σ := σ) hV hI rfl 4 ?_
      show ((σ.1 30 22) ≤ (nI i_z) → V 128 [(0, .ref 30), (1, .int dx), (2, .int dy), (3, .int 1), (4, .int (nI i_z))] [] σ) ∧ (¬ (σ.1 30 22) ≤ (nI i_z) → V 14 [(0, .ref 30), (1, .int dx), (2, .int dy), (3, .int 1), (4, .int (nI i_z))] [] σ)
      refine ⟨fun hc_z => absurd hc_z (show ¬ (σ.1 30 22) ≤ nI i_z by rw [hp]; exact nI_ge (by omega) (by omega)), fun _ => ?_⟩
      refine zq (σ := σ) hV hI rfl 2 ?_
      show ((1 : Int32) = 0 → V 128 [(0, .ref 30), (1, .int dx), (2, .int dy), (3, .int 1), (4, .int (nI i_z))] [] σ) ∧ (¬ (1 : Int32) = 0 → V 18 [(0, .ref 30), (1, .int dx), (2, .int dy), (3, .int 1), (4, .int (nI i_z))] [] σ)
      refine ⟨fun hc_z => absurd hc_z (by decide), fun _ => ?_⟩
      refine zq (σ := σ) hV hI rfl 4 ?_
      show vp_in 0 4 ∧ V 24 [(0, .ref 30), (1, .int dx), (2, .int dy), (3, .int 1), (4, .int (nI i_z))] [.int (σ.1 48 (Int32.toNatClampNeg 0))] σ
      refine ⟨zix (k := 0) rfl (by omega) (by decide), ?_⟩
      rw [zcl_k (i := 0) (k := 0) rfl (by omega)]
      refine zq (σ := σ) hV hI rfl 1 ?_
      show ((σ.1 48 0) < 0 → V 38 [(0, .ref 30), (1, .int dx), (2, .int dy), (3, .int 1), (4, .int (nI i_z))] [] σ) ∧ (¬ (σ.1 48 0) < 0 → V 27 [(0, .ref 30), (1, .int dx), (2, .int dy), (3, .int 1), (4, .int (nI i_z))] [] σ)
      refine ⟨fun h_24 => ?_, fun h_24 => ?_⟩
      · skip
        refine zq (σ := σ) hV hI rfl 5 ?_
        show (((-1) : Int32) = 0 → V 62 [(5, .int (-1)), (0, .ref 30), (1, .int dx), (2, .int dy), (3, .int 1), (4, .int (nI i_z))] [] σ) ∧ (¬ ((-1) : Int32) = 0 → V 56 [(5, .int (-1)), (0, .ref 30), (1, .int dx), (2, .int dy), (3, .int 1), (4, .int (nI i_z))] [] σ)
        refine ⟨fun hc_z => absurd hc_z (by decide), fun _ => ?_⟩
        refine zq (σ := σ) hV hI rfl 3 ?_
        show (¬ ((-1) : Int32) = 1 → V 122 [(5, .int (-1)), (0, .ref 30), (1, .int dx), (2, .int dy), (3, .int 1), (4, .int (nI i_z))] [] σ) ∧ (¬ (¬ ((-1) : Int32) = 1) → V 62 [(5, .int (-1)), (0, .ref 30), (1, .int dx), (2, .int dy), (3, .int 1), (4, .int (nI i_z))] [] σ)
        refine ⟨fun _ => ?_, fun hc_z => absurd (by decide) hc_z⟩
        refine zq (σ := σ) hV hI rfl 2 ?_
        show V 5 [(4, .int ((nI i_z) + 1)), (5, .int (-1)), (0, .ref 30), (1, .int dx), (2, .int dy), (3, .int 1)] [] σ
        refine zwk hV [2, 3, 4, 5, 0] rfl ?_
        rw [nI_1]
        refine ihi (i_z + 1) (by omega) (fun j_z hj => ?_)
        by_cases e_z : j_z = i_z
        · subst e_z
          exact (fun q_z => absurd q_z (by rcases hl with c_z | c_z; omega; exact absurd h_24 c_z.1))
        · exact hall j_z (by omega)
      · skip
        refine zq (σ := σ) hV hI rfl 5 ?_
        show vp_in 0 4 ∧ V 35 [(0, .ref 30), (1, .int dx), (2, .int dy), (3, .int 1), (4, .int (nI i_z))] [.int (σ.1 49 (Int32.toNatClampNeg 0)), .int (nI i_z)] σ
        refine ⟨zix (k := 0) rfl (by omega) (by decide), ?_⟩
        rw [zcl_k (i := 0) (k := 0) rfl (by omega)]
        refine zq (σ := σ) hV hI rfl 1 ?_
        show ((nI i_z) < (σ.1 49 0) → V 42 [(0, .ref 30), (1, .int dx), (2, .int dy), (3, .int 1), (4, .int (nI i_z))] [] σ) ∧ (¬ (nI i_z) < (σ.1 49 0) → V 38 [(0, .ref 30), (1, .int dx), (2, .int dy), (3, .int 1), (4, .int (nI i_z))] [] σ)
        refine ⟨fun h_35 => ?_, fun h_35 => ?_⟩
        · skip
          refine zq (σ := σ) hV hI rfl 4 ?_
          show vp_in (nI i_z) 240 ∧ V 49 [(0, .ref 30), (1, .int dx), (2, .int dy), (3, .int 1), (4, .int (nI i_z))] [.int (σ.1 50 (Int32.toNatClampNeg (nI i_z)))] σ
          refine ⟨zix (k := i_z) rfl (by omega) (by decide), ?_⟩
          rw [zcl_k (i := (nI i_z)) (k := i_z) rfl (by omega)]
          refine zq (σ := σ) hV hI rfl 3 ?_
          show ((σ.1 50 i_z) = 0 → V 62 [(5, .int (σ.1 50 i_z)), (0, .ref 30), (1, .int dx), (2, .int dy), (3, .int 1), (4, .int (nI i_z))] [] σ) ∧ (¬ (σ.1 50 i_z) = 0 → V 56 [(5, .int (σ.1 50 i_z)), (0, .ref 30), (1, .int dx), (2, .int dy), (3, .int 1), (4, .int (nI i_z))] [] σ)
          refine ⟨fun h_53 => ?_, fun h_53 => ?_⟩
          · skip
            refine zq (σ := σ) hV hI rfl 6 ?_
            show vp_in (nI i_z) 20 ∧ V 72 [(5, .int (σ.1 50 i_z)), (0, .ref 30), (1, .int dx), (2, .int dy), (3, .int 1), (4, .int (nI i_z))] [.int (σ.1 43 (Int32.toNatClampNeg (nI i_z))), .int 8, .ref 30] σ
            refine ⟨zix (k := i_z) rfl (by omega) (by decide), ?_⟩
            rw [zcl_k (i := (nI i_z)) (k := i_z) rfl (by omega)]
            refine zq (σ := σ) hV hI rfl 8 ?_
            show vp_in (nI i_z) 20 ∧ V 84 [(5, .int (σ.1 50 i_z)), (0, .ref 30), (1, .int dx), (2, .int dy), (3, .int 1), (4, .int (nI i_z))] [.int (σ.1 44 (Int32.toNatClampNeg (nI i_z))), .int 8, .int (8 * ((σ.1 43 i_z) - dx)), .ref 30] σ
            refine ⟨zix (k := i_z) rfl (by omega) (by decide), ?_⟩
            rw [zcl_k (i := (nI i_z)) (k := i_z) rfl (by omega)]
            refine zq (σ := σ) hV hI rfl 4 ?_
            show zSp _ 141 [.ref 30, .int (8 * ((σ.1 43 i_z) - dx)), .int (8 * ((σ.1 44 i_z) - dy))] σ (fun r_z σ' => σ'.2.2.2 = σ.2.2.2 + zAl 141 → V 90 [(5, .int (σ.1 50 i_z)), (0, .ref 30), (1, .int dx), (2, .int dy), (3, .int 1), (4, .int (nI i_z))] (r_z.toList ++ []) σ')
            refine place_M hI hn hn10 hB (z8b (hpb i_z (by omega)).1 hdx) (z8b (hpb i_z (by omega)).2 hdy) (fun _ => ?_)
            refine zq (σ := σ) hV hI rfl 1 ?_
            show ((zSide n (σ.1 31) (σ.1 32) (8 * ((σ.1 43 i_z) - dx)) (8 * ((σ.1 44 i_z) - dy))) ≤ 0 → V 97 [(5, .int (σ.1 50 i_z)), (0, .ref 30), (1, .int dx), (2, .int dy), (3, .int 1), (4, .int (nI i_z))] [] σ) ∧ (¬ (zSide n (σ.1 31) (σ.1 32) (8 * ((σ.1 43 i_z) - dx)) (8 * ((σ.1 44 i_z) - dy))) ≤ 0 → V 93 [(5, .int (σ.1 50 i_z)), (0, .ref 30), (1, .int dx), (2, .int dy), (3, .int 1), (4, .int (nI i_z))] [] σ)
            refine ⟨fun h_90 => ?_, fun h_90 => ?_⟩
            · skip
              refine zq (σ := σ) hV hI rfl 1 ?_
              show V 98 [(5, .int (σ.1 50 i_z)), (0, .ref 30), (1, .int dx), (2, .int dy), (3, .int 1), (4, .int (nI i_z))] [.int 0] σ
              refine zq (σ := σ) hV hI rfl 5 ?_
              show (¬ (σ.1 50 i_z) = 1 → V 112 [(6, .int 0), (5, .int (σ.1 50 i_z)), (0, .ref 30), (1, .int dx), (2, .int dy), (3, .int 1), (4, .int (nI i_z))] [.int 0] σ) ∧ (¬ (¬ (σ.1 50 i_z) = 1) → V 108 [(6, .int 0), (5, .int (σ.1 50 i_z)), (0, .ref 30), (1, .int dx), (2, .int dy), (3, .int 1), (4, .int (nI i_z))] [.int 0] σ)
              refine ⟨fun h_105 => ?_, fun h_105 => ?_⟩
              · skip
                refine zq (σ := σ) hV hI rfl 2 ?_
                show (¬ (0 : Int32) = 0 → V 120 [(6, .int 0), (5, .int (σ.1 50 i_z)), (0, .ref 30), (1, .int dx), (2, .int dy), (3, .int 1), (4, .int (nI i_z))] [] σ) ∧ (¬ (¬ (0 : Int32) = 0) → V 116 [(6, .int 0), (5, .int (σ.1 50 i_z)), (0, .ref 30), (1, .int dx), (2, .int dy), (3, .int 1), (4, .int (nI i_z))] [] σ)
                refine ⟨fun hc_z => absurd hc_z (by decide), fun _ => ?_⟩
                refine zq (σ := σ) hV hI rfl 5 ?_
                show V 5 [(4, .int ((nI i_z) + 1)), (3, .int 1), (6, .int 0), (5, .int (σ.1 50 i_z)), (0, .ref 30), (1, .int dx), (2, .int dy)] [] σ
                refine zwk hV [4, 5, 6, 1, 0] rfl ?_
                rw [nI_1]
                refine ihi (i_z + 1) (by omega) (fun j_z hj => ?_)
                by_cases e_z : j_z = i_z
                · subst e_z
                  exact (fun _ => ⟨fun c_z => absurd c_z h_105, fun _ => zSide_pos.mp h_90⟩)
                · exact hall j_z (by omega)
              · skip
                have h_105 := Classical.not_not.mp h_105
                refine zq (σ := σ) hV hI rfl 3 ?_
                show (¬ (0 : Int32) = 1 → V 120 [(6, .int 0), (5, .int (σ.1 50 i_z)), (0, .ref 30), (1, .int dx), (2, .int dy), (3, .int 1), (4, .int (nI i_z))] [] σ) ∧ (¬ (¬ (0 : Int32) = 1) → V 116 [(6, .int 0), (5, .int (σ.1 50 i_z)), (0, .ref 30), (1, .int dx), (2, .int dy), (3, .int 1), (4, .int (nI i_z))] [] σ)
                refine ⟨fun _ => ?_, fun hc_z => absurd (by decide) hc_z⟩
                refine zq (σ := σ) hV hI rfl 4 ?_
                show V 5 [(4, .int ((nI i_z) + 1)), (3, .int 0), (6, .int 0), (5, .int (σ.1 50 i_z)), (0, .ref 30), (1, .int dx), (2, .int dy)] [] σ
                refine zq (σ := σ) hV hI rfl 4 ?_
                show ((σ.1 30 22) ≤ ((nI i_z) + 1) → V 128 [(4, .int ((nI i_z) + 1)), (3, .int 0), (6, .int 0), (5, .int (σ.1 50 i_z)), (0, .ref 30), (1, .int dx), (2, .int dy)] [] σ) ∧ (¬ (σ.1 30 22) ≤ ((nI i_z) + 1) → V 14 [(4, .int ((nI i_z) + 1)), (3, .int 0), (6, .int 0), (5, .int (σ.1 50 i_z)), (0, .ref 30), (1, .int dx), (2, .int dy)] [] σ)
                refine ⟨fun h_11 => ?_, fun h_11 => ?_⟩
                · skip
                  refine zq (σ := σ) hV hI rfl 2 ?_
                  show ((0 : Int32) = 0 ∨ (0 : Int32) = 1) ∧ K (some (.int 0)) σ
                  refine ⟨by decide, ?_⟩
                  have hil : i_z < l := by rcases hl with c_z | c_z; exact absurd c_z.1 h_24; rw [c_z.2, nI_ltI (by omega) (by omega)] at h_35; exact h_35
                  refine h0 (fun x_z => ?_)
                  have hx := (x_z i_z (by omega) hil).1
                  exact hx h_105 (zSide_pos.mp h_90)
                · skip
                  refine zq (σ := σ) hV hI rfl 2 ?_
                  show ((0 : Int32) = 0 → V 128 [(4, .int ((nI i_z) + 1)), (3, .int 0), (6, .int 0), (5, .int (σ.1 50 i_z)), (0, .ref 30), (1, .int dx), (2, .int dy)] [] σ) ∧ (¬ (0 : Int32) = 0 → V 18 [(4, .int ((nI i_z) + 1)), (3, .int 0), (6, .int 0), (5, .int (σ.1 50 i_z)), (0, .ref 30), (1, .int dx), (2, .int dy)] [] σ)
                  refine ⟨fun _ => ?_, fun hc_z => absurd (by decide) hc_z⟩
                  refine zq (σ := σ) hV hI rfl 2 ?_
                  show ((0 : Int32) = 0 ∨ (0 : Int32) = 1) ∧ K (some (.int 0)) σ
                  refine ⟨by decide, ?_⟩
                  have hil : i_z < l := by rcases hl with c_z | c_z; exact absurd c_z.1 h_24; rw [c_z.2, nI_ltI (by omega) (by omega)] at h_35; exact h_35
                  refine h0 (fun x_z => ?_)
                  have hx := (x_z i_z (by omega) hil).1
                  exact hx h_105 (zSide_pos.mp h_90)
            · skip
              refine zq (σ := σ) hV hI rfl 2 ?_
              show V 98 [(5, .int (σ.1 50 i_z)), (0, .ref 30), (1, .int dx), (2, .int dy), (3, .int 1), (4, .int (nI i_z))] [.int 1] σ
              refine zq (σ := σ) hV hI rfl 5 ?_
              show (¬ (σ.1 50 i_z) = 1 → V 112 [(6, .int 1), (5, .int (σ.1 50 i_z)), (0, .ref 30), (1, .int dx), (2, .int dy), (3, .int 1), (4, .int (nI i_z))] [.int 1] σ) ∧ (¬ (¬ (σ.1 50 i_z) = 1) → V 108 [(6, .int 1), (5, .int (σ.1 50 i_z)), (0, .ref 30), (1, .int dx), (2, .int dy), (3, .int 1), (4, .int (nI i_z))] [.int 1] σ)
              refine ⟨fun h_105 => ?_, fun h_105 => ?_⟩
              · skip
                refine zq (σ := σ) hV hI rfl 2 ?_
                show (¬ (1 : Int32) = 0 → V 120 [(6, .int 1), (5, .int (σ.1 50 i_z)), (0, .ref 30), (1, .int dx), (2, .int dy), (3, .int 1), (4, .int (nI i_z))] [] σ) ∧ (¬ (¬ (1 : Int32) = 0) → V 116 [(6, .int 1), (5, .int (σ.1 50 i_z)), (0, .ref 30), (1, .int dx), (2, .int dy), (3, .int 1), (4, .int (nI i_z))] [] σ)
                refine ⟨fun _ => ?_, fun hc_z => absurd (by decide) hc_z⟩
                refine zq (σ := σ) hV hI rfl 4 ?_
                show V 5 [(4, .int ((nI i_z) + 1)), (3, .int 0), (6, .int 1), (5, .int (σ.1 50 i_z)), (0, .ref 30), (1, .int dx), (2, .int dy)] [] σ
                refine zq (σ := σ) hV hI rfl 4 ?_
                show ((σ.1 30 22) ≤ ((nI i_z) + 1) → V 128 [(4, .int ((nI i_z) + 1)), (3, .int 0), (6, .int 1), (5, .int (σ.1 50 i_z)), (0, .ref 30), (1, .int dx), (2, .int dy)] [] σ) ∧ (¬ (σ.1 30 22) ≤ ((nI i_z) + 1) → V 14 [(4, .int ((nI i_z) + 1)), (3, .int 0), (6, .int 1), (5, .int (σ.1 50 i_z)), (0, .ref 30), (1, .int dx), (2, .int dy)] [] σ)
                refine ⟨fun h_11 => ?_, fun h_11 => ?_⟩
                · skip
                  refine zq (σ := σ) hV hI rfl 2 ?_
                  show ((0 : Int32) = 0 ∨ (0 : Int32) = 1) ∧ K (some (.int 0)) σ
                  refine ⟨by decide, ?_⟩
                  have hil : i_z < l := by rcases hl with c_z | c_z; exact absurd c_z.1 h_24; rw [c_z.2, nI_ltI (by omega) (by omega)] at h_35; exact h_35
                  refine h0 (fun x_z => ?_)
                  have hx := (x_z i_z (by omega) hil).2
                  first | exact h_90 (zSide_pos.mpr (hx h_53)) | exact absurd h_59 h_105
                · skip
                  refine zq (σ := σ) hV hI rfl 2 ?_
                  show ((0 : Int32) = 0 → V 128 [(4, .int ((nI i_z) + 1)), (3, .int 0), (6, .int 1), (5, .int (σ.1 50 i_z)), (0, .ref 30), (1, .int dx), (2, .int dy)] [] σ) ∧ (¬ (0 : Int32) = 0 → V 18 [(4, .int ((nI i_z) + 1)), (3, .int 0), (6, .int 1), (5, .int (σ.1 50 i_z)), (0, .ref 30), (1, .int dx), (2, .int dy)] [] σ)
                  refine ⟨fun _ => ?_, fun hc_z => absurd (by decide) hc_z⟩
                  refine zq (σ := σ) hV hI rfl 2 ?_
                  show ((0 : Int32) = 0 ∨ (0 : Int32) = 1) ∧ K (some (.int 0)) σ
                  refine ⟨by decide, ?_⟩
                  have hil : i_z < l := by rcases hl with c_z | c_z; exact absurd c_z.1 h_24; rw [c_z.2, nI_ltI (by omega) (by omega)] at h_35; exact h_35
                  refine h0 (fun x_z => ?_)
                  have hx := (x_z i_z (by omega) hil).2
                  first | exact h_90 (zSide_pos.mpr (hx h_53)) | exact absurd h_59 h_105
              · skip
                have h_105 := Classical.not_not.mp h_105
                refine zq (σ := σ) hV hI rfl 3 ?_
                show (¬ (1 : Int32) = 1 → V 120 [(6, .int 1), (5, .int (σ.1 50 i_z)), (0, .ref 30), (1, .int dx), (2, .int dy), (3, .int 1), (4, .int (nI i_z))] [] σ) ∧ (¬ (¬ (1 : Int32) = 1) → V 116 [(6, .int 1), (5, .int (σ.1 50 i_z)), (0, .ref 30), (1, .int dx), (2, .int dy), (3, .int 1), (4, .int (nI i_z))] [] σ)
                refine ⟨fun hc_z => absurd hc_z (by decide), fun _ => ?_⟩
                refine zq (σ := σ) hV hI rfl 5 ?_
                show V 5 [(4, .int ((nI i_z) + 1)), (3, .int 1), (6, .int 1), (5, .int (σ.1 50 i_z)), (0, .ref 30), (1, .int dx), (2, .int dy)] [] σ
                refine zwk hV [4, 5, 6, 1, 0] rfl ?_
                rw [nI_1]
                refine ihi (i_z + 1) (by omega) (fun j_z hj => ?_)
                by_cases e_z : j_z = i_z
                · subst e_z
                  exact (fun _ => ⟨fun _ => fun c_z => h_90 (zSide_pos.mpr c_z), fun c_z => absurd (h_105.symm.trans c_z) (by decide)⟩)
                · exact hall j_z (by omega)
          · skip
            refine zq (σ := σ) hV hI rfl 3 ?_
            show (¬ (σ.1 50 i_z) = 1 → V 122 [(5, .int (σ.1 50 i_z)), (0, .ref 30), (1, .int dx), (2, .int dy), (3, .int 1), (4, .int (nI i_z))] [] σ) ∧ (¬ (¬ (σ.1 50 i_z) = 1) → V 62 [(5, .int (σ.1 50 i_z)), (0, .ref 30), (1, .int dx), (2, .int dy), (3, .int 1), (4, .int (nI i_z))] [] σ)
            refine ⟨fun h_59 => ?_, fun h_59 => ?_⟩
            · skip
              refine zq (σ := σ) hV hI rfl 2 ?_
              show V 5 [(4, .int ((nI i_z) + 1)), (5, .int (σ.1 50 i_z)), (0, .ref 30), (1, .int dx), (2, .int dy), (3, .int 1)] [] σ
              refine zwk hV [2, 3, 4, 5, 0] rfl ?_
              rw [nI_1]
              refine ihi (i_z + 1) (by omega) (fun j_z hj => ?_)
              by_cases e_z : j_z = i_z
              · subst e_z
                exact (fun _ => ⟨fun c_z => absurd c_z h_59, fun c_z => absurd c_z h_53⟩)
              · exact hall j_z (by omega)
            · skip
              have h_59 := Classical.not_not.mp h_59
              refine zq (σ := σ) hV hI rfl 6 ?_
              show vp_in (nI i_z) 20 ∧ V 72 [(5, .int (σ.1 50 i_z)), (0, .ref 30), (1, .int dx), (2, .int dy), (3, .int 1), (4, .int (nI i_z))] [.int (σ.1 43 (Int32.toNatClampNeg (nI i_z))), .int 8, .ref 30] σ
              refine ⟨zix (k := i_z) rfl (by omega) (by decide), ?_⟩
              rw [zcl_k (i := (nI i_z)) (k := i_z) rfl (by omega)]
              refine zq (σ := σ) hV hI rfl 8 ?_
              show vp_in (nI i_z) 20 ∧ V 84 [(5, .int (σ.1 50 i_z)), (0, .ref 30), (1, .int dx), (2, .int dy), (3, .int 1), (4, .int (nI i_z))] [.int (σ.1 44 (Int32.toNatClampNeg (nI i_z))), .int 8, .int (8 * ((σ.1 43 i_z) - dx)), .ref 30] σ
              refine ⟨zix (k := i_z) rfl (by omega) (by decide), ?_⟩
              rw [zcl_k (i := (nI i_z)) (k := i_z) rfl (by omega)]
              refine zq (σ := σ) hV hI rfl 4 ?_
              show zSp _ 141 [.ref 30, .int (8 * ((σ.1 43 i_z) - dx)), .int (8 * ((σ.1 44 i_z) - dy))] σ (fun r_z σ' => σ'.2.2.2 = σ.2.2.2 + zAl 141 → V 90 [(5, .int (σ.1 50 i_z)), (0, .ref 30), (1, .int dx), (2, .int dy), (3, .int 1), (4, .int (nI i_z))] (r_z.toList ++ []) σ')
              refine place_M hI hn hn10 hB (z8b (hpb i_z (by omega)).1 hdx) (z8b (hpb i_z (by omega)).2 hdy) (fun _ => ?_)
              refine zq (σ := σ) hV hI rfl 1 ?_
              show ((zSide n (σ.1 31) (σ.1 32) (8 * ((σ.1 43 i_z) - dx)) (8 * ((σ.1 44 i_z) - dy))) ≤ 0 → V 97 [(5, .int (σ.1 50 i_z)), (0, .ref 30), (1, .int dx), (2, .int dy), (3, .int 1), (4, .int (nI i_z))] [] σ) ∧ (¬ (zSide n (σ.1 31) (σ.1 32) (8 * ((σ.1 43 i_z) - dx)) (8 * ((σ.1 44 i_z) - dy))) ≤ 0 → V 93 [(5, .int (σ.1 50 i_z)), (0, .ref 30), (1, .int dx), (2, .int dy), (3, .int 1), (4, .int (nI i_z))] [] σ)
              refine ⟨fun h_90 => ?_, fun h_90 => ?_⟩
              · skip
                refine zq (σ := σ) hV hI rfl 1 ?_
                show V 98 [(5, .int (σ.1 50 i_z)), (0, .ref 30), (1, .int dx), (2, .int dy), (3, .int 1), (4, .int (nI i_z))] [.int 0] σ
                refine zq (σ := σ) hV hI rfl 5 ?_
                show (¬ (σ.1 50 i_z) = 1 → V 112 [(6, .int 0), (5, .int (σ.1 50 i_z)), (0, .ref 30), (1, .int dx), (2, .int dy), (3, .int 1), (4, .int (nI i_z))] [.int 0] σ) ∧ (¬ (¬ (σ.1 50 i_z) = 1) → V 108 [(6, .int 0), (5, .int (σ.1 50 i_z)), (0, .ref 30), (1, .int dx), (2, .int dy), (3, .int 1), (4, .int (nI i_z))] [.int 0] σ)
                refine ⟨fun h_105 => ?_, fun h_105 => ?_⟩
                · skip
                  refine zq (σ := σ) hV hI rfl 2 ?_
                  show (¬ (0 : Int32) = 0 → V 120 [(6, .int 0), (5, .int (σ.1 50 i_z)), (0, .ref 30), (1, .int dx), (2, .int dy), (3, .int 1), (4, .int (nI i_z))] [] σ) ∧ (¬ (¬ (0 : Int32) = 0) → V 116 [(6, .int 0), (5, .int (σ.1 50 i_z)), (0, .ref 30), (1, .int dx), (2, .int dy), (3, .int 1), (4, .int (nI i_z))] [] σ)
                  refine ⟨fun hc_z => absurd hc_z (by decide), fun _ => ?_⟩
                  refine zq (σ := σ) hV hI rfl 5 ?_
                  show V 5 [(4, .int ((nI i_z) + 1)), (3, .int 1), (6, .int 0), (5, .int (σ.1 50 i_z)), (0, .ref 30), (1, .int dx), (2, .int dy)] [] σ
                  refine zwk hV [4, 5, 6, 1, 0] rfl ?_
                  rw [nI_1]
                  refine ihi (i_z + 1) (by omega) (fun j_z hj => ?_)
                  by_cases e_z : j_z = i_z
                  · subst e_z
                    exact (fun _ => ⟨fun c_z => absurd c_z h_105, fun _ => zSide_pos.mp h_90⟩)
                  · exact hall j_z (by omega)
                · skip
                  have h_105 := Classical.not_not.mp h_105
                  refine zq (σ := σ) hV hI rfl 3 ?_
                  show (¬ (0 : Int32) = 1 → V 120 [(6, .int 0), (5, .int (σ.1 50 i_z)), (0, .ref 30), (1, .int dx), (2, .int dy), (3, .int 1), (4, .int (nI i_z))] [] σ) ∧ (¬ (¬ (0 : Int32) = 1) → V 116 [(6, .int 0), (5, .int (σ.1 50 i_z)), (0, .ref 30), (1, .int dx), (2, .int dy), (3, .int 1), (4, .int (nI i_z))] [] σ)
                  refine ⟨fun _ => ?_, fun hc_z => absurd (by decide) hc_z⟩
                  refine zq (σ := σ) hV hI rfl 4 ?_
                  show V 5 [(4, .int ((nI i_z) + 1)), (3, .int 0), (6, .int 0), (5, .int (σ.1 50 i_z)), (0, .ref 30), (1, .int dx), (2, .int dy)] [] σ
                  refine zq (σ := σ) hV hI rfl 4 ?_
                  show ((σ.1 30 22) ≤ ((nI i_z) + 1) → V 128 [(4, .int ((nI i_z) + 1)), (3, .int 0), (6, .int 0), (5, .int (σ.1 50 i_z)), (0, .ref 30), (1, .int dx), (2, .int dy)] [] σ) ∧ (¬ (σ.1 30 22) ≤ ((nI i_z) + 1) → V 14 [(4, .int ((nI i_z) + 1)), (3, .int 0), (6, .int 0), (5, .int (σ.1 50 i_z)), (0, .ref 30), (1, .int dx), (2, .int dy)] [] σ)
                  refine ⟨fun h_11 => ?_, fun h_11 => ?_⟩
                  · skip
                    refine zq (σ := σ) hV hI rfl 2 ?_
                    show ((0 : Int32) = 0 ∨ (0 : Int32) = 1) ∧ K (some (.int 0)) σ
                    refine ⟨by decide, ?_⟩
                    have hil : i_z < l := by rcases hl with c_z | c_z; exact absurd c_z.1 h_24; rw [c_z.2, nI_ltI (by omega) (by omega)] at h_35; exact h_35
                    refine h0 (fun x_z => ?_)
                    have hx := (x_z i_z (by omega) hil).1
                    exact hx h_105 (zSide_pos.mp h_90)
                  · skip
                    refine zq (σ := σ) hV hI rfl 2 ?_
                    show ((0 : Int32) = 0 → V 128 [(4, .int ((nI i_z) + 1)), (3, .int 0), (6, .int 0), (5, .int (σ.1 50 i_z)), (0, .ref 30), (1, .int dx), (2, .int dy)] [] σ) ∧ (¬ (0 : Int32) = 0 → V 18 [(4, .int ((nI i_z) + 1)), (3, .int 0), (6, .int 0), (5, .int (σ.1 50 i_z)), (0, .ref 30), (1, .int dx), (2, .int dy)] [] σ)
                    refine ⟨fun _ => ?_, fun hc_z => absurd (by decide) hc_z⟩
                    refine zq (σ := σ) hV hI rfl 2 ?_
                    show ((0 : Int32) = 0 ∨ (0 : Int32) = 1) ∧ K (some (.int 0)) σ
                    refine ⟨by decide, ?_⟩
                    have hil : i_z < l := by rcases hl with c_z | c_z; exact absurd c_z.1 h_24; rw [c_z.2, nI_ltI (by omega) (by omega)] at h_35; exact h_35
                    refine h0 (fun x_z => ?_)
                    have hx := (x_z i_z (by omega) hil).1
                    exact hx h_105 (zSide_pos.mp h_90)
              · skip
                refine zq (σ := σ) hV hI rfl 2 ?_
                show V 98 [(5, .int (σ.1 50 i_z)), (0, .ref 30), (1, .int dx), (2, .int dy), (3, .int 1), (4, .int (nI i_z))] [.int 1] σ
                refine zq (σ := σ) hV hI rfl 5 ?_
                show (¬ (σ.1 50 i_z) = 1 → V 112 [(6, .int 1), (5, .int (σ.1 50 i_z)), (0, .ref 30), (1, .int dx), (2, .int dy), (3, .int 1), (4, .int (nI i_z))] [.int 1] σ) ∧ (¬ (¬ (σ.1 50 i_z) = 1) → V 108 [(6, .int 1), (5, .int (σ.1 50 i_z)), (0, .ref 30), (1, .int dx), (2, .int dy), (3, .int 1), (4, .int (nI i_z))] [.int 1] σ)
                refine ⟨fun h_105 => ?_, fun h_105 => ?_⟩
                · skip
                  refine zq (σ := σ) hV hI rfl 2 ?_
                  show (¬ (1 : Int32) = 0 → V 120 [(6, .int 1), (5, .int (σ.1 50 i_z)), (0, .ref 30), (1, .int dx), (2, .int dy), (3, .int 1), (4, .int (nI i_z))] [] σ) ∧ (¬ (¬ (1 : Int32) = 0) → V 116 [(6, .int 1), (5, .int (σ.1 50 i_z)), (0, .ref 30), (1, .int dx), (2, .int dy), (3, .int 1), (4, .int (nI i_z))] [] σ)
                  refine ⟨fun _ => ?_, fun hc_z => absurd (by decide) hc_z⟩
                  refine zq (σ := σ) hV hI rfl 4 ?_
                  show V 5 [(4, .int ((nI i_z) + 1)), (3, .int 0), (6, .int 1), (5, .int (σ.1 50 i_z)), (0, .ref 30), (1, .int dx), (2, .int dy)] [] σ
                  refine zq (σ := σ) hV hI rfl 4 ?_
                  show ((σ.1 30 22) ≤ ((nI i_z) + 1) → V 128 [(4, .int ((nI i_z) + 1)), (3, .int 0), (6, .int 1), (5, .int (σ.1 50 i_z)), (0, .ref 30), (1, .int dx), (2, .int dy)] [] σ) ∧ (¬ (σ.1 30 22) ≤ ((nI i_z) + 1) → V 14 [(4, .int ((nI i_z) + 1)), (3, .int 0), (6, .int 1), (5, .int (σ.1 50 i_z)), (0, .ref 30), (1, .int dx), (2, .int dy)] [] σ)
                  refine ⟨fun h_11 => ?_, fun h_11 => ?_⟩
                  · skip
                    refine zq (σ := σ) hV hI rfl 2 ?_
                    show ((0 : Int32) = 0 ∨ (0 : Int32) = 1) ∧ K (some (.int 0)) σ
                    refine ⟨by decide, ?_⟩
                    have hil : i_z < l := by rcases hl with c_z | c_z; exact absurd c_z.1 h_24; rw [c_z.2, nI_ltI (by omega) (by omega)] at h_35; exact h_35
                    refine h0 (fun x_z => ?_)
                    have hx := (x_z i_z (by omega) hil).2
                    first | exact h_90 (zSide_pos.mpr (hx h_53)) | exact absurd h_59 h_105
                  · skip
                    refine zq (σ := σ) hV hI rfl 2 ?_
                    show ((0 : Int32) = 0 → V 128 [(4, .int ((nI i_z) + 1)), (3, .int 0), (6, .int 1), (5, .int (σ.1 50 i_z)), (0, .ref 30), (1, .int dx), (2, .int dy)] [] σ) ∧ (¬ (0 : Int32) = 0 → V 18 [(4, .int ((nI i_z) + 1)), (3, .int 0), (6, .int 1), (5, .int (σ.1 50 i_z)), (0, .ref 30), (1, .int dx), (2, .int dy)] [] σ)
                    refine ⟨fun _ => ?_, fun hc_z => absurd (by decide) hc_z⟩
                    refine zq (σ := σ) hV hI rfl 2 ?_
                    show ((0 : Int32) = 0 ∨ (0 : Int32) = 1) ∧ K (some (.int 0)) σ
                    refine ⟨by decide, ?_⟩
                    have hil : i_z < l := by rcases hl with c_z | c_z; exact absurd c_z.1 h_24; rw [c_z.2, nI_ltI (by omega) (by omega)] at h_35; exact h_35
                    refine h0 (fun x_z => ?_)
                    have hx := (x_z i_z (by omega) hil).2
                    first | exact h_90 (zSide_pos.mpr (hx h_53)) | exact absurd h_59 h_105
                · skip
                  have h_105 := Classical.not_not.mp h_105
                  refine zq (σ := σ) hV hI rfl 3 ?_
                  show (¬ (1 : Int32) = 1 → V 120 [(6, .int 1), (5, .int (σ.1 50 i_z)), (0, .ref 30), (1, .int dx), (2, .int dy), (3, .int 1), (4, .int (nI i_z))] [] σ) ∧ (¬ (¬ (1 : Int32) = 1) → V 116 [(6, .int 1), (5, .int (σ.1 50 i_z)), (0, .ref 30), (1, .int dx), (2, .int dy), (3, .int 1), (4, .int (nI i_z))] [] σ)
                  refine ⟨fun hc_z => absurd hc_z (by decide), fun _ => ?_⟩
                  refine zq (σ := σ) hV hI rfl 5 ?_
                  show V 5 [(4, .int ((nI i_z) + 1)), (3, .int 1), (6, .int 1), (5, .int (σ.1 50 i_z)), (0, .ref 30), (1, .int dx), (2, .int dy)] [] σ
                  refine zwk hV [4, 5, 6, 1, 0] rfl ?_
                  rw [nI_1]
                  refine ihi (i_z + 1) (by omega) (fun j_z hj => ?_)
                  by_cases e_z : j_z = i_z
                  · subst e_z
                    exact (fun _ => ⟨fun _ => fun c_z => h_90 (zSide_pos.mpr c_z), fun c_z => absurd (h_105.symm.trans c_z) (by decide)⟩)
                  · exact hall j_z (by omega)
        · skip
          refine zq (σ := σ) hV hI rfl 5 ?_
          show (((-1) : Int32) = 0 → V 62 [(5, .int (-1)), (0, .ref 30), (1, .int dx), (2, .int dy), (3, .int 1), (4, .int (nI i_z))] [] σ) ∧ (¬ ((-1) : Int32) = 0 → V 56 [(5, .int (-1)), (0, .ref 30), (1, .int dx), (2, .int dy), (3, .int 1), (4, .int (nI i_z))] [] σ)
          refine ⟨fun hc_z => absurd hc_z (by decide), fun _ => ?_⟩
          refine zq (σ := σ) hV hI rfl 3 ?_
          show (¬ ((-1) : Int32) = 1 → V 122 [(5, .int (-1)), (0, .ref 30), (1, .int dx), (2, .int dy), (3, .int 1), (4, .int (nI i_z))] [] σ) ∧ (¬ (¬ ((-1) : Int32) = 1) → V 62 [(5, .int (-1)), (0, .ref 30), (1, .int dx), (2, .int dy), (3, .int 1), (4, .int (nI i_z))] [] σ)
          refine ⟨fun _ => ?_, fun hc_z => absurd (by decide) hc_z⟩
          refine zq (σ := σ) hV hI rfl 2 ?_
          show V 5 [(4, .int ((nI i_z) + 1)), (5, .int (-1)), (0, .ref 30), (1, .int dx), (2, .int dy), (3, .int 1)] [] σ
          refine zwk hV [2, 3, 4, 5, 0] rfl ?_
          rw [nI_1]
          refine ihi (i_z + 1) (by omega) (fun j_z hj => ?_)
          by_cases e_z : j_z = i_z
          · subst e_z
            exact (fun q_z => absurd q_z (by rcases hl with c_z | c_z; exact absurd c_z.1 h_24; rw [c_z.2, nI_ltI (by omega) (by omega)] at h_35; exact h_35))
          · exact hall j_z (by omega)
  exact Hi m 0 (by omega) (fun j_z q_z => absurd q_z (Nat.not_lt_zero j_z))
set_option maxRecDepth 8000 in
set_option maxHeartbeats 4000000 in
theorem poses_M {d : Nat} {σ : zSt} {K : Option Value → zSt → Prop} {n m l : Nat} (hI : zQI (kR 30 52) σ.2.2) (hn : σ.1 30 0 = nI n) (hn10 : n ≤ 10) (hB : ∀ j, j < n → zBt (-30) 30 (σ.1 31 j) ∧ zBt (-30) 30 (σ.1 32 j)) (hp : σ.1 30 22 = nI m) (hm : m ≤ 20) (hpb : ∀ j, j < m → zBt (-40) 40 (σ.1 43 j) ∧ zBt (-40) 40 (σ.1 44 j)) (hl : (σ.1 48 0 < 0 ∧ l = 0) ∨ (¬ σ.1 48 0 < 0 ∧ σ.1 49 0 = nI l)) (hl60 : l ≤ 60) (hK : K (some (.int (zCo (zFp n (σ.1 31) (σ.1 32) (σ.1 43) (σ.1 44) (σ.1 50) l m) 81))) σ) : zSp (d + 4) mX9_poses [.ref 30] σ K := by
  refine ⟨⟨by decide, Nat.le_of_ble_eq_true rfl⟩, fun V hV => ?_⟩
  refine zq (σ := σ) hV hI rfl 4 ?_
  show V 4 [(2, .int 0), (1, .int 0), (0, .ref 30)] [] σ
  refine zwk hV [2, 1, 0] rfl ?_
  have Hq : ∀ (r_z : Nat) (q_z : Nat) (c_z : Int32), q_z + r_z = 81 → c_z = zCo (zFp n (σ.1 31) (σ.1 32) (σ.1 43) (σ.1 44) (σ.1 50) l m) q_z → V 4 [(0, .ref 30), (1, .int c_z), (2, .int (nI q_z))] [] σ := by
    intro r_z
    induction r_z with
    | zero =>
      intro q_z c_z hqr hc_z
      refine zq (σ := σ) hV hI rfl 3 ?_
      show (81 ≤ (nI q_z) → V 43 [(0, .ref 30), (1, .int c_z), (2, .int (nI q_z))] [] σ) ∧ (¬ 81 ≤ (nI q_z) → V 10 [(0, .ref 30), (1, .int c_z), (2, .int (nI q_z))] [] σ)
      refine ⟨fun _ => ?_, fun hc_z => absurd (show (81 : Int32) ≤ nI q_z by rw [show q_z = 81 by omega]; decide) hc_z⟩
      refine zq (σ := σ) hV hI rfl 2 ?_
      show K (some (.int c_z)) σ
      obtain rfl : q_z = 81 := by omega
      rw [hc_z]
      exact hK
    | succ r_z ihq =>
      intro q_z c_z hqr hc_z
      refine zq (σ := σ) hV hI rfl 3 ?_
      show (81 ≤ (nI q_z) → V 43 [(0, .ref 30), (1, .int c_z), (2, .int (nI q_z))] [] σ) ∧ (¬ 81 ≤ (nI q_z) → V 10 [(0, .ref 30), (1, .int c_z), (2, .int (nI q_z))] [] σ)
      refine ⟨fun hc_z => absurd hc_z (show ¬ nI 81 ≤ nI q_z from nI_ge (by omega) (by decide)), fun _ => ?_⟩
      refine zq (σ := σ) hV hI rfl 5 ?_
      show (¬ (9 : Int32) = 0) ∧ V 16 [(0, .ref 30), (1, .int c_z), (2, .int (nI q_z))] [.int ((nI q_z) / 9), .ref 30, .int c_z] σ
      refine ⟨by decide, ?_⟩
      refine zq (σ := σ) hV hI rfl 5 ?_
      show (¬ (9 : Int32) = 0) ∧ V 22 [(0, .ref 30), (1, .int c_z), (2, .int (nI q_z))] [.int ((nI q_z) - (nI q_z) / 9 * 9), .int (((nI q_z) / 9) - 4), .ref 30, .int c_z] σ
      refine ⟨by decide, ?_⟩
      refine zq (σ := σ) hV hI rfl 3 ?_
      show zSp _ 171 [.ref 30, .int (((nI q_z) / 9) - 4), .int (((nI q_z) - (nI q_z) / 9 * 9) - 4)] σ (fun r_z σ' => σ'.2.2.2 = σ.2.2.2 + zAl 171 → V 27 [(0, .ref 30), (1, .int c_z), (2, .int (nI q_z))] (r_z.toList ++ [.int c_z]) σ')
      rw [zrem9 (by omega), zdiv9 (by omega)]
      refine fits_M hI hn hn10 hB hp hm hpb hl hl60 (z4b (by omega)) (z4b (by omega)) (fun hb1 _ => ?_) (fun hb1 _ => ?_)
      · skip
        have hF : (zFp n (σ.1 31) (σ.1 32) (σ.1 43) (σ.1 44) (σ.1 50) l m) q_z = true := zDc_t hb1
        refine zq (σ := σ) hV hI rfl 1 ?_
        show ((1 : Int32) = 0 → V 34 [(0, .ref 30), (1, .int c_z), (2, .int (nI q_z))] [.int c_z] σ) ∧ (¬ (1 : Int32) = 0 → V 30 [(0, .ref 30), (1, .int c_z), (2, .int (nI q_z))] [.int c_z] σ)
        refine ⟨fun hc_z => absurd hc_z (by decide), fun _ => ?_⟩
        refine zq (σ := σ) hV hI rfl 6 ?_
        show V 4 [(2, .int ((nI q_z) + 1)), (1, .int (c_z + 1)), (0, .ref 30)] [] σ
        refine zwk hV [2, 1, 0] rfl ?_
        rw [nI_1]
        refine ihq (q_z + 1) _ (by omega) ?_
        show _ = (if (zFp n (σ.1 31) (σ.1 32) (σ.1 43) (σ.1 44) (σ.1 50) l m) q_z = true then zCo (zFp n (σ.1 31) (σ.1 32) (σ.1 43) (σ.1 44) (σ.1 50) l m) q_z + 1 else zCo (zFp n (σ.1 31) (σ.1 32) (σ.1 43) (σ.1 44) (σ.1 50) l m) q_z)
        rw [hF]
        rw [if_pos rfl, hc_z]
      · skip
        have hF : (zFp n (σ.1 31) (σ.1 32) (σ.1 43) (σ.1 44) (σ.1 50) l m) q_z = false := zDc_f hb1
        refine zq (σ := σ) hV hI rfl 1 ?_
        show ((0 : Int32) = 0 → V 34 [(0, .ref 30), (1, .int c_z), (2, .int (nI q_z))] [.int c_z] σ) ∧ (¬ (0 : Int32) = 0 → V 30 [(0, .ref 30), (1, .int c_z), (2, .int (nI q_z))] [.int c_z] σ)
        refine ⟨fun _ => ?_, fun hc_z => absurd (by decide) hc_z⟩
        refine zq (σ := σ) hV hI rfl 5 ?_
        show V 4 [(2, .int ((nI q_z) + 1)), (1, .int (c_z + 0)), (0, .ref 30)] [] σ
        refine zwk hV [2, 1, 0] rfl ?_
        rw [nI_1]
        refine ihq (q_z + 1) _ (by omega) ?_
        show _ = (if (zFp n (σ.1 31) (σ.1 32) (σ.1 43) (σ.1 44) (σ.1 50) l m) q_z = true then zCo (zFp n (σ.1 31) (σ.1 32) (σ.1 43) (σ.1 44) (σ.1 50) l m) q_z + 1 else zCo (zFp n (σ.1 31) (σ.1 32) (σ.1 43) (σ.1 44) (σ.1 50) l m) q_z)
        rw [hF]
        rw [if_neg (by decide), Int32.add_zero]; exact hc_z
  exact Hq 81 0 0 rfl rfl
set_option maxRecDepth 8000 in
set_option maxHeartbeats 4000000 in
theorem pose_M {d : Nat} {σ : zSt} {K : Option Value → zSt → Prop} {x : Int32} {n m l : Nat} (hI : zQI (kR 30 52) σ.2.2) (hn : σ.1 30 0 = nI n) (hn10 : n ≤ 10) (hB : ∀ j, j < n → zBt (-30) 30 (σ.1 31 j) ∧ zBt (-30) 30 (σ.1 32 j)) (hp : σ.1 30 22 = nI m) (hm : m ≤ 20) (hpb : ∀ j, j < m → zBt (-40) 40 (σ.1 43 j) ∧ zBt (-40) 40 (σ.1 44 j)) (hl : (σ.1 48 0 < 0 ∧ l = 0) ∨ (¬ σ.1 48 0 < 0 ∧ σ.1 49 0 = nI l)) (hl60 : l ≤ 60) (hNo : (∀ p, p < 81 → ¬ ((zFp n (σ.1 31) (σ.1 32) (σ.1 43) (σ.1 44) (σ.1 50) l m) p = true ∧ zCo (zFp n (σ.1 31) (σ.1 32) (σ.1 43) (σ.1 44) (σ.1 50) l m) p = x)) → K (some (.int (-2))) σ) (hOk : ∀ i j, i < 9 → j < 9 → ((zFp n (σ.1 31) (σ.1 32) (σ.1 43) (σ.1 44) (σ.1 50) l m) (9 * i + j) = true ∧ zCo (zFp n (σ.1 31) (σ.1 32) (σ.1 43) (σ.1 44) (σ.1 50) l m) (9 * i + j) = x) → (∀ p, p < 9 * i + j → ¬ ((zFp n (σ.1 31) (σ.1 32) (σ.1 43) (σ.1 44) (σ.1 50) l m) p = true ∧ zCo (zFp n (σ.1 31) (σ.1 32) (σ.1 43) (σ.1 44) (σ.1 50) l m) p = x)) → K (some (.int (nI (10 * i + j)))) σ) : zSp (d + 4) mX9_pose [.ref 30, .int x] σ K := by
  refine ⟨⟨by decide, Nat.le_of_ble_eq_true rfl⟩, fun V hV => ?_⟩
  refine zq (σ := σ) hV hI rfl 4 ?_
  show V 4 [(3, .int 0), (2, .int 0), (0, .ref 30), (1, .int x)] [] σ
  refine zwk hV [2, 3, 1, 0] rfl ?_
  have Hq : ∀ (r_z : Nat) (q_z : Nat) (c_z : Int32), q_z + r_z = 81 → c_z = zCo (zFp n (σ.1 31) (σ.1 32) (σ.1 43) (σ.1 44) (σ.1 50) l m) q_z → (∀ p_z, p_z < q_z → ¬ ((zFp n (σ.1 31) (σ.1 32) (σ.1 43) (σ.1 44) (σ.1 50) l m) p_z = true ∧ zCo (zFp n (σ.1 31) (σ.1 32) (σ.1 43) (σ.1 44) (σ.1 50) l m) p_z = x)) → V 4 [(0, .ref 30), (1, .int x), (2, .int c_z), (3, .int (nI q_z))] [] σ := by
    intro r_z
    induction r_z with
    | zero =>
      intro q_z c_z hqr hc_z hno
      refine zq (σ := σ) hV hI rfl 3 ?_
      show (81 ≤ (nI q_z) → V 56 [(0, .ref 30), (1, .int x), (2, .int c_z), (3, .int (nI q_z))] [] σ) ∧ (¬ 81 ≤ (nI q_z) → V 10 [(0, .ref 30), (1, .int x), (2, .int c_z), (3, .int (nI q_z))] [] σ)
      refine ⟨fun _ => ?_, fun hc_z => absurd (show (81 : Int32) ≤ nI q_z by rw [show q_z = 81 by omega]; decide) hc_z⟩
      refine zq (σ := σ) hV hI rfl 2 ?_
      show K (some (.int (-2))) σ
      exact hNo (fun j_z hj => hno j_z (by omega))
    | succ r_z ihq =>
      intro q_z c_z hqr hc_z hno
      refine zq (σ := σ) hV hI rfl 3 ?_
      show (81 ≤ (nI q_z) → V 56 [(0, .ref 30), (1, .int x), (2, .int c_z), (3, .int (nI q_z))] [] σ) ∧ (¬ 81 ≤ (nI q_z) → V 10 [(0, .ref 30), (1, .int x), (2, .int c_z), (3, .int (nI q_z))] [] σ)
      refine ⟨fun hc_z => absurd hc_z (show ¬ nI 81 ≤ nI q_z from nI_ge (by omega) (by decide)), fun _ => ?_⟩
      refine zq (σ := σ) hV hI rfl 4 ?_
      show (¬ (9 : Int32) = 0) ∧ V 15 [(0, .ref 30), (1, .int x), (2, .int c_z), (3, .int (nI q_z))] [.int ((nI q_z) / 9), .ref 30] σ
      refine ⟨by decide, ?_⟩
      refine zq (σ := σ) hV hI rfl 5 ?_
      show (¬ (9 : Int32) = 0) ∧ V 21 [(0, .ref 30), (1, .int x), (2, .int c_z), (3, .int (nI q_z))] [.int ((nI q_z) - (nI q_z) / 9 * 9), .int (((nI q_z) / 9) - 4), .ref 30] σ
      refine ⟨by decide, ?_⟩
      refine zq (σ := σ) hV hI rfl 3 ?_
      show zSp _ 171 [.ref 30, .int (((nI q_z) / 9) - 4), .int (((nI q_z) - (nI q_z) / 9 * 9) - 4)] σ (fun r_z σ' => σ'.2.2.2 = σ.2.2.2 + zAl 171 → V 26 [(0, .ref 30), (1, .int x), (2, .int c_z), (3, .int (nI q_z))] (r_z.toList ++ []) σ')
      rw [zrem9 (by omega), zdiv9 (by omega)]
      refine fits_M hI hn hn10 hB hp hm hpb hl hl60 (z4b (by omega)) (z4b (by omega)) (fun hb1 _ => ?_) (fun hb1 _ => ?_)
      · skip
        have hF : (zFp n (σ.1 31) (σ.1 32) (σ.1 43) (σ.1 44) (σ.1 50) l m) q_z = true := zDc_t hb1
        refine zq (σ := σ) hV hI rfl 1 ?_
        show ((1 : Int32) = 0 → V 50 [(0, .ref 30), (1, .int x), (2, .int c_z), (3, .int (nI q_z))] [] σ) ∧ (¬ (1 : Int32) = 0 → V 29 [(0, .ref 30), (1, .int x), (2, .int c_z), (3, .int (nI q_z))] [] σ)
        refine ⟨fun hc_z => absurd hc_z (by decide), fun _ => ?_⟩
        refine zq (σ := σ) hV hI rfl 3 ?_
        show (¬ c_z = x → V 47 [(0, .ref 30), (1, .int x), (2, .int c_z), (3, .int (nI q_z))] [] σ) ∧ (¬ (¬ c_z = x) → V 34 [(0, .ref 30), (1, .int x), (2, .int c_z), (3, .int (nI q_z))] [] σ)
        refine ⟨fun h_31 => ?_, fun h_31 => ?_⟩
        · skip
          refine zq (σ := σ) hV hI rfl 3 ?_
          show V 4 [(3, .int ((nI q_z) + 1)), (2, .int (c_z + 1)), (0, .ref 30), (1, .int x)] [] σ
          refine zwk hV [2, 3, 1, 0] rfl ?_
          rw [nI_1]
          refine ihq (q_z + 1) _ (by omega) ?_ (fun j_z hj => ?_)
          · show _ = (if (zFp n (σ.1 31) (σ.1 32) (σ.1 43) (σ.1 44) (σ.1 50) l m) q_z = true then zCo (zFp n (σ.1 31) (σ.1 32) (σ.1 43) (σ.1 44) (σ.1 50) l m) q_z + 1 else zCo (zFp n (σ.1 31) (σ.1 32) (σ.1 43) (σ.1 44) (σ.1 50) l m) q_z)
            rw [hF]
            rw [if_pos rfl, hc_z]
          · by_cases e_z : j_z = q_z
            · rw [e_z, ← hc_z]; exact fun y_z => h_31 y_z.2
            · exact hno j_z (by omega)
        · skip
          have h_31 := Classical.not_not.mp h_31
          refine zq (σ := σ) hV hI rfl 4 ?_
          show (¬ (9 : Int32) = 0) ∧ V 40 [(0, .ref 30), (1, .int x), (2, .int c_z), (3, .int (nI q_z))] [.int ((nI q_z) / 9), .int 10] σ
          refine ⟨by decide, ?_⟩
          refine zq (σ := σ) hV hI rfl 4 ?_
          show (¬ (9 : Int32) = 0) ∧ V 45 [(0, .ref 30), (1, .int x), (2, .int c_z), (3, .int (nI q_z))] [.int ((nI q_z) - (nI q_z) / 9 * 9), .int (10 * ((nI q_z) / 9))] σ
          refine ⟨by decide, ?_⟩
          refine zq (σ := σ) hV hI rfl 2 ?_
          show K (some (.int ((10 * ((nI q_z) / 9)) + ((nI q_z) - (nI q_z) / 9 * 9)))) σ
          rw [zrem9 (by omega), zdiv9 (by omega), show (10 : Int32) = nI 10 from rfl, pk_mul, nI_add]
          have e9_z : 9 * (q_z / 9) + q_z % 9 = q_z := by omega
          exact hOk (q_z / 9) (q_z % 9) (by omega) (by omega) (by rw [e9_z]; exact ⟨hF, hc_z.symm.trans h_31⟩) (by rw [e9_z]; exact hno)
      · skip
        have hF : (zFp n (σ.1 31) (σ.1 32) (σ.1 43) (σ.1 44) (σ.1 50) l m) q_z = false := zDc_f hb1
        refine zq (σ := σ) hV hI rfl 1 ?_
        show ((0 : Int32) = 0 → V 50 [(0, .ref 30), (1, .int x), (2, .int c_z), (3, .int (nI q_z))] [] σ) ∧ (¬ (0 : Int32) = 0 → V 29 [(0, .ref 30), (1, .int x), (2, .int c_z), (3, .int (nI q_z))] [] σ)
        refine ⟨fun _ => ?_, fun hc_z => absurd (by decide) hc_z⟩
        refine zq (σ := σ) hV hI rfl 2 ?_
        show V 4 [(3, .int ((nI q_z) + 1)), (0, .ref 30), (1, .int x), (2, .int c_z)] [] σ
        refine zwk hV [1, 2, 3, 0] rfl ?_
        rw [nI_1]
        refine ihq (q_z + 1) _ (by omega) ?_ (fun j_z hj => ?_)
        · show _ = (if (zFp n (σ.1 31) (σ.1 32) (σ.1 43) (σ.1 44) (σ.1 50) l m) q_z = true then zCo (zFp n (σ.1 31) (σ.1 32) (σ.1 43) (σ.1 44) (σ.1 50) l m) q_z + 1 else zCo (zFp n (σ.1 31) (σ.1 32) (σ.1 43) (σ.1 44) (σ.1 50) l m) q_z)
          rw [hF]
          rw [if_neg (by decide)]; exact hc_z
        · by_cases e_z : j_z = q_z
          · rw [e_z, hF]; exact fun y_z => absurd y_z.1 (by decide)
          · exact hno j_z (by omega)
  exact Hq 81 0 0 rfl rfl (fun j_z hj => absurd hj (Nat.not_lt_zero j_z))
