theorem zX0e : upd zz 1 10 = zX0 := by
  funext j_z
  unfold zX0 upd zz
  by_cases e2_z : j_z = 2
  · rw [if_pos e2_z, if_neg (by omega)]
  · rw [if_neg e2_z]
    by_cases e1_z : j_z = 1
    · rw [if_pos e1_z, if_pos e1_z]
    · rw [if_neg e1_z, if_neg e1_z]; split <;> rfl
theorem zY0e : upd zz 2 10 = zY0 := by
  funext j_z
  unfold zY0 upd zz
  by_cases e2_z : j_z = 2
  · rw [if_pos e2_z, if_pos e2_z]
  · rw [if_neg e2_z, if_neg e2_z]
    by_cases e1_z : j_z = 1
    · rw [if_pos e1_z]
    · rw [if_neg e1_z]; split <;> rfl
theorem zF0e : ∀ k, k < 4 → zF0 k = -1 := by decide
theorem zHB0 : zHB 3 zX0 zY0 := fun j hj => by
  rcases (show j = 0 ∨ j = 1 ∨ j = 2 by omega) with e | e | e <;> rw [e] <;> exact ⟨⟨by decide, by decide⟩, ⟨by decide, by decide⟩⟩
theorem zar0 : 0 < (zAr 3 zX0 zY0 3).toInt := by decide
set_option maxRecDepth 8000 in
theorem zRel0 {υ : zSt} {f1 : Nat → Int32} (hP : zP 52 zR52 (zI52 f1) υ) (p2 : f1 2 = nI 3) (p3 : f1 3 = zAr 3 zX0 zY0 3) (p4 : f1 4 = zMx 3 zX0 zY0 3) (p5 : f1 5 = zMy 3 zX0 zY0 3) (hc : ∀ j, j < 100 → υ.1 45 j = 100000000) : zRel υ := by
  have x0_z : υ.1 0 = zz := zP_mem hP 50 rfl
  have x1_z : υ.1 1 = f1 := zP_mem hP 49 rfl
  have x2_z : υ.1 2 = zX0 := zP_mem hP 48 rfl
  have x3 : υ.1 3 = zY0 := zP_mem hP 47 rfl
  have x4_z : υ.1 4 = zz := zP_mem hP 46 rfl
  have x5_z : υ.1 5 = zz := zP_mem hP 45 rfl
  have x6 : υ.1 6 = zz := zP_mem hP 44 rfl
  have x14 : υ.1 14 = zz := zP_mem hP 36 rfl
  have x15 : υ.1 15 = zz := zP_mem hP 35 rfl
  have x16 : υ.1 16 = zz := zP_mem hP 34 rfl
  have x17 : υ.1 17 = zz := zP_mem hP 33 rfl
  have x18 : υ.1 18 = zz := zP_mem hP 32 rfl
  have x19 : υ.1 19 = zz := zP_mem hP 31 rfl
  have x20 : υ.1 20 = zz := zP_mem hP 30 rfl
  have x21 : υ.1 21 = zz := zP_mem hP 29 rfl
  have x22 : υ.1 22 = zz := zP_mem hP 28 rfl
  have x24 : υ.1 24 = zz := zP_mem hP 26 rfl
  have x25 : υ.1 25 = zz := zP_mem hP 25 rfl
  have x26 : υ.1 26 = zz := zP_mem hP 24 rfl
  have x27 : υ.1 27 = zF0 := zP_mem hP 23 rfl
  have x28 : υ.1 28 = zz := zP_mem hP 22 rfl
  have x30 : υ.1 30 = upd zz 0 3 := zP_mem hP 20 rfl
  have x31 : υ.1 31 = (upd zz 1 10) := zP_mem hP 19 rfl
  have x32 : υ.1 32 = (upd zz 2 10) := zP_mem hP 18 rfl
  have x35 : υ.1 35 = zz := zP_mem hP 15 rfl
  have x36 : υ.1 36 = zz := zP_mem hP 14 rfl
  have x40 : υ.1 40 = zz := zP_mem hP 10 rfl
  have x41 : υ.1 41 = zz := zP_mem hP 9 rfl
  have x42 : υ.1 42 = zz := zP_mem hP 8 rfl
  have x43 : υ.1 43 = zz := zP_mem hP 7 rfl
  have x44 : υ.1 44 = zz := zP_mem hP 6 rfl
  have x47 : υ.1 47 = zz := zP_mem hP 4 rfl
  have x48 : υ.1 48 = zF0 := zP_mem hP 3 rfl
  have n0_z : ∀ j_z, zz j_z = nI 0 := fun j_z => rfl
  refine ⟨zQI_P hP (by decide) rfl, 3, 0, 0, 0, 0, 0, 0, fun _ => 0, fun _ => 0, ?_, ?_, ?_, ?_, ?_, ?_, ?_, ?_, ?_⟩
  · refine ⟨⟨by rw [x1_z]; exact p2, by rw [x30]; rfl, by decide, by decide⟩, ⟨by rw [x31, x2_z]; exact zX0e, by rw [x32, x3]; exact zY0e⟩, by rw [x2_z, x3]; exact zHB0, ⟨by rw [x1_z, x2_z, x3]; exact p3, by rw [x1_z, x2_z, x3]; exact p4, by rw [x1_z, x2_z, x3]; exact p5⟩, by rw [x2_z, x3]; exact zar0⟩
  · exact ⟨⟨by rw [x4_z]; rfl, by rw [x30]; rfl, by decide⟩, ⟨by rw [x35, x5_z], by rw [x36, x6]⟩, fun i_z hi_z => absurd hi_z (Nat.not_lt_zero i_z), fun i_z hi_z => absurd hi_z (Nat.not_lt_zero i_z)⟩
  · exact ⟨by rw [x30, x0_z]; rfl, by rw [x0_z]; exact ⟨by decide, by decide⟩⟩
  · exact ⟨⟨by rw [x14]; rfl, by rw [x30]; rfl, by decide⟩, ⟨by rw [x40, x15], by rw [x41, x16], by rw [x42, x17]⟩, fun i_z hi_z => absurd hi_z (Nat.not_lt_zero i_z), fun i_z hi_z => absurd hi_z (Nat.not_lt_zero i_z), fun i_z hi_z => absurd hi_z (Nat.not_lt_zero i_z)⟩
  · exact ⟨⟨by rw [x18]; rfl, by rw [x30]; rfl, by decide⟩, ⟨by rw [x43, x19], by rw [x44, x20]⟩, fun i_z hi_z => absurd hi_z (Nat.not_lt_zero i_z)⟩
  · exact ⟨⟨by rw [x21]; rfl, by rw [x30]; rfl, by decide⟩, fun i_z j_z hi_z hj => Or.inl ⟨by rw [x22]; rfl, by rw [hc _ (by omega)]; rfl⟩⟩
  · exact ⟨⟨by rw [x24]; rfl, by rw [x30]; rfl, by decide⟩, ⟨by rw [x24]; rfl, by rw [x30]; rfl, by decide⟩, by rw [x47, x25], fun j_z hj => ⟨by rw [x25]; rfl, Nat.zero_lt_succ _⟩⟩
  · intro k_z hk
    refine ⟨⟨by rw [x48, x27], Or.inl (by rw [x27]; exact zF0e k_z hk)⟩, ⟨by rw [x28]; rfl, Nat.zero_le _⟩, fun _ => rfl, fun q_z => absurd (by rw [x27]; exact zF0e k_z hk) q_z, fun j_z hj => absurd hj (Nat.not_lt_zero j_z)⟩
  · show υ.1 30 35 = υ.1 26 3
    rw [x30, x26]; rfl
theorem zscl {L : Nat} {xs : Nat → Int32} {V : Nat → zLo → List Value → zSt → Prop} {K : Option Value → zSt → Prop} {pc : Nat} {i : Int32} {Lo : zLo} {S : List Value} {σ : zSt} (hV : zOk (zSp 7) (L, xs) mL_law 52 V K) (hcd : zcd mL_law pc = some (.iaload, 1)) (hi : vp_in i L) (k : V (pc + 1) Lo (.int (xs i.toNatClampNeg) :: S) σ) : V pc Lo (.int i :: .ref zsc :: S) σ := hV.1 _ _ _ _ (by
  unfold zST; rw [hcd]; exact ⟨⟨rfl, hi⟩, k⟩)
theorem zal {L : Nat} {xs : Nat → Int32} {V : Nat → zLo → List Value → zSt → Prop} {K : Option Value → zSt → Prop} {pc : Nat} {Lo : zLo} {S : List Value} {σ : zSt} (hV : zOk (zSp 7) (L, xs) mL_law 52 V K) (hcd : zcd mL_law pc = some (.arraylength, 1)) (k : V (pc + 1) Lo (.int (nI L) :: S) σ) : V pc Lo (.ref zsc :: S) σ := hV.1 _ _ _ _ (by
  unfold zST; rw [hcd]; exact ⟨rfl, k⟩)
set_option maxRecDepth 8000 in
set_option maxHeartbeats 4000000 in
theorem zcs_0 {L p : Nat} {xs : Nat → Int32} {V : Nat → zLo → List Value → zSt → Prop} {σ : zSt} (hV : zOk (zSp 7) (L, xs) mL_law 52 V (fun r _ => r = some (.int 1))) (hR : zRel σ) (hn : σ.2.2.2 = 52) (hp : p + 6 ≤ L) (hL : L ≤ 3072) (hnx : ∀ υ, zRel υ → υ.2.2.2 = 52 → V 1223 [(0, .ref zsc), (1, .ref 0), (2, .ref 30), (3, .int (nI p))] [] υ) : V 192 [(0, .ref zsc), (1, .ref 0), (2, .ref 30), (3, .int (nI p))] [] σ := by
  have hI := hR.1
  refine zq (σ := σ) hV hI hn 5 ?_
  show V 197 [(0, .ref zsc), (1, .ref 0), (2, .ref 30), (3, .int (nI p))] [.int ((nI p) + 1), .ref zsc, .ref 0] σ
  refine zscl hV rfl (zix (k := (p + 1)) (zn_a (a := p) (b := 1) rfl rfl) (by omega) (by omega)) ?_
  show V 198 [(0, .ref zsc), (1, .ref 0), (2, .ref 30), (3, .int (nI p))] [.int (xs (Int32.toNatClampNeg ((nI p) + 1))), .ref 0] σ
  refine zq (σ := σ) hV hI hn 4 ?_
  show V 202 [(0, .ref zsc), (1, .ref 0), (2, .ref 30), (3, .int (nI p))] [.int ((nI p) + 2), .ref zsc, .int (xs (Int32.toNatClampNeg ((nI p) + 1))), .ref 0] σ
  refine zscl hV rfl (zix (k := (p + 2)) (zn_a (a := p) (b := 2) rfl rfl) (by omega) (by omega)) ?_
  show V 203 [(0, .ref zsc), (1, .ref 0), (2, .ref 30), (3, .int (nI p))] [.int (xs (Int32.toNatClampNeg ((nI p) + 2))), .int (xs (Int32.toNatClampNeg ((nI p) + 1))), .ref 0] σ
  refine zq (σ := σ) hV hI hn 1 ?_
  show zSp _ 76 [.ref 0, .int (xs (Int32.toNatClampNeg ((nI p) + 1))), .int (xs (Int32.toNatClampNeg ((nI p) + 2)))] σ (fun r_z σ' => σ'.2.2.2 = σ.2.2.2 + zAl 76 → V 206 [(0, .ref zsc), (1, .ref 0), (2, .ref 30), (3, .int (nI p))] (r_z.toList ++ []) σ')
  refine L_shape hR (fun rsu τ hIτ ans_z en => ?_)
  have hnτ : τ.2.2.2 = 52 := en.trans (by rw [hn]; rfl)
  refine zq (σ := τ) hV hIτ hnτ 5 ?_
  show V 211 [(0, .ref zsc), (1, .ref 0), (2, .ref 30), (3, .int (nI p))] [.int ((nI p) + 1), .ref zsc, .ref 30, .int rsu] τ
  refine zscl hV rfl (zix (k := (p + 1)) (zn_a (a := p) (b := 1) rfl rfl) (by omega) (by omega)) ?_
  show V 212 [(0, .ref zsc), (1, .ref 0), (2, .ref 30), (3, .int (nI p))] [.int (xs (Int32.toNatClampNeg ((nI p) + 1))), .ref 30, .int rsu] τ
  refine zq (σ := τ) hV hIτ hnτ 4 ?_
  show V 216 [(0, .ref zsc), (1, .ref 0), (2, .ref 30), (3, .int (nI p))] [.int ((nI p) + 2), .ref zsc, .int (xs (Int32.toNatClampNeg ((nI p) + 1))), .ref 30, .int rsu] τ
  refine zscl hV rfl (zix (k := (p + 2)) (zn_a (a := p) (b := 2) rfl rfl) (by omega) (by omega)) ?_
  show V 217 [(0, .ref zsc), (1, .ref 0), (2, .ref 30), (3, .int (nI p))] [.int (xs (Int32.toNatClampNeg ((nI p) + 2))), .int (xs (Int32.toNatClampNeg ((nI p) + 1))), .ref 30, .int rsu] τ
  refine zq (σ := τ) hV hIτ hnτ 1 ?_
  show zSp _ 138 [.ref 30, .int (xs (Int32.toNatClampNeg ((nI p) + 1))), .int (xs (Int32.toNatClampNeg ((nI p) + 2)))] τ (fun r_z σ' => σ'.2.2.2 = τ.2.2.2 + zAl 138 → V 220 [(0, .ref zsc), (1, .ref 0), (2, .ref 30), (3, .int (nI p))] (r_z.toList ++ [.int rsu]) σ')
  refine ans_z _ (fun υ hR2 en2 => ?_)
  have hnυ : υ.2.2.2 = 52 := en2.trans (by rw [hnτ]; rfl)
  have hIυ := hR2.1
  refine zq (σ := υ) hV hIυ hnυ 1 ?_
  show (rsu = rsu → V 1223 [(0, .ref zsc), (1, .ref 0), (2, .ref 30), (3, .int (nI p))] [] υ) ∧ (¬ rsu = rsu → V 223 [(0, .ref zsc), (1, .ref 0), (2, .ref 30), (3, .int (nI p))] [] υ)
  refine ⟨fun _ => ?_, fun hc_z => absurd rfl hc_z⟩
  refine zwk hV [0, 1, 2, 3] rfl ?_
  exact hnx υ hR2 hnυ
set_option maxRecDepth 8000 in
set_option maxHeartbeats 4000000 in
theorem zcs_1 {L p : Nat} {xs : Nat → Int32} {V : Nat → zLo → List Value → zSt → Prop} {σ : zSt} (hV : zOk (zSp 7) (L, xs) mL_law 52 V (fun r _ => r = some (.int 1))) (hR : zRel σ) (hn : σ.2.2.2 = 52) (hp : p + 6 ≤ L) (hL : L ≤ 3072) (hnx : ∀ υ, zRel υ → υ.2.2.2 = 52 → V 1223 [(0, .ref zsc), (1, .ref 0), (2, .ref 30), (3, .int (nI p))] [] υ) : V 225 [(0, .ref zsc), (1, .ref 0), (2, .ref 30), (3, .int (nI p))] [] σ := by
  have hI := hR.1
  refine zq (σ := σ) hV hI hn 5 ?_
  show V 230 [(0, .ref zsc), (1, .ref 0), (2, .ref 30), (3, .int (nI p))] [.int ((nI p) + 1), .ref zsc, .ref 0] σ
  refine zscl hV rfl (zix (k := (p + 1)) (zn_a (a := p) (b := 1) rfl rfl) (by omega) (by omega)) ?_
  show V 231 [(0, .ref zsc), (1, .ref 0), (2, .ref 30), (3, .int (nI p))] [.int (xs (Int32.toNatClampNeg ((nI p) + 1))), .ref 0] σ
  refine zq (σ := σ) hV hI hn 4 ?_
  show V 235 [(0, .ref zsc), (1, .ref 0), (2, .ref 30), (3, .int (nI p))] [.int ((nI p) + 2), .ref zsc, .int (xs (Int32.toNatClampNeg ((nI p) + 1))), .ref 0] σ
  refine zscl hV rfl (zix (k := (p + 2)) (zn_a (a := p) (b := 2) rfl rfl) (by omega) (by omega)) ?_
  show V 236 [(0, .ref zsc), (1, .ref 0), (2, .ref 30), (3, .int (nI p))] [.int (xs (Int32.toNatClampNeg ((nI p) + 2))), .int (xs (Int32.toNatClampNeg ((nI p) + 1))), .ref 0] σ
  refine zq (σ := σ) hV hI hn 1 ?_
  show zSp _ 78 [.ref 0, .int (xs (Int32.toNatClampNeg ((nI p) + 1))), .int (xs (Int32.toNatClampNeg ((nI p) + 2)))] σ (fun r_z σ' => σ'.2.2.2 = σ.2.2.2 + zAl 78 → V 239 [(0, .ref zsc), (1, .ref 0), (2, .ref 30), (3, .int (nI p))] (r_z.toList ++ []) σ')
  refine L_corner hR (fun rsu τ hIτ ans_z en => ?_)
  have hnτ : τ.2.2.2 = 52 := en.trans (by rw [hn]; rfl)
  refine zq (σ := τ) hV hIτ hnτ 5 ?_
  show V 244 [(0, .ref zsc), (1, .ref 0), (2, .ref 30), (3, .int (nI p))] [.int ((nI p) + 1), .ref zsc, .ref 30, .int rsu] τ
  refine zscl hV rfl (zix (k := (p + 1)) (zn_a (a := p) (b := 1) rfl rfl) (by omega) (by omega)) ?_
  show V 245 [(0, .ref zsc), (1, .ref 0), (2, .ref 30), (3, .int (nI p))] [.int (xs (Int32.toNatClampNeg ((nI p) + 1))), .ref 30, .int rsu] τ
  refine zq (σ := τ) hV hIτ hnτ 4 ?_
  show V 249 [(0, .ref zsc), (1, .ref 0), (2, .ref 30), (3, .int (nI p))] [.int ((nI p) + 2), .ref zsc, .int (xs (Int32.toNatClampNeg ((nI p) + 1))), .ref 30, .int rsu] τ
  refine zscl hV rfl (zix (k := (p + 2)) (zn_a (a := p) (b := 2) rfl rfl) (by omega) (by omega)) ?_
  show V 250 [(0, .ref zsc), (1, .ref 0), (2, .ref 30), (3, .int (nI p))] [.int (xs (Int32.toNatClampNeg ((nI p) + 2))), .int (xs (Int32.toNatClampNeg ((nI p) + 1))), .ref 30, .int rsu] τ
  refine zq (σ := τ) hV hIτ hnτ 1 ?_
  show zSp _ 139 [.ref 30, .int (xs (Int32.toNatClampNeg ((nI p) + 1))), .int (xs (Int32.toNatClampNeg ((nI p) + 2)))] τ (fun r_z σ' => σ'.2.2.2 = τ.2.2.2 + zAl 139 → V 253 [(0, .ref zsc), (1, .ref 0), (2, .ref 30), (3, .int (nI p))] (r_z.toList ++ [.int rsu]) σ')
  refine ans_z _ (fun υ hR2 en2 => ?_)
  have hnυ : υ.2.2.2 = 52 := en2.trans (by rw [hnτ]; rfl)
  have hIυ := hR2.1
  refine zq (σ := υ) hV hIυ hnυ 1 ?_
  show (rsu = rsu → V 1223 [(0, .ref zsc), (1, .ref 0), (2, .ref 30), (3, .int (nI p))] [] υ) ∧ (¬ rsu = rsu → V 256 [(0, .ref zsc), (1, .ref 0), (2, .ref 30), (3, .int (nI p))] [] υ)
  refine ⟨fun _ => ?_, fun hc_z => absurd rfl hc_z⟩
  refine zwk hV [0, 1, 2, 3] rfl ?_
  exact hnx υ hR2 hnυ
set_option maxRecDepth 8000 in
set_option maxHeartbeats 4000000 in
theorem zcs_2 {L p : Nat} {xs : Nat → Int32} {V : Nat → zLo → List Value → zSt → Prop} {σ : zSt} (hV : zOk (zSp 7) (L, xs) mL_law 52 V (fun r _ => r = some (.int 1))) (hR : zRel σ) (hn : σ.2.2.2 = 52) (hp : p + 6 ≤ L) (hL : L ≤ 3072) (hnx : ∀ υ, zRel υ → υ.2.2.2 = 52 → V 1223 [(0, .ref zsc), (1, .ref 0), (2, .ref 30), (3, .int (nI p))] [] υ) : V 258 [(0, .ref zsc), (1, .ref 0), (2, .ref 30), (3, .int (nI p))] [] σ := by
  have hI := hR.1
  refine zq (σ := σ) hV hI hn 5 ?_
  show V 263 [(0, .ref zsc), (1, .ref 0), (2, .ref 30), (3, .int (nI p))] [.int ((nI p) + 1), .ref zsc, .ref 0] σ
  refine zscl hV rfl (zix (k := (p + 1)) (zn_a (a := p) (b := 1) rfl rfl) (by omega) (by omega)) ?_
  show V 264 [(0, .ref zsc), (1, .ref 0), (2, .ref 30), (3, .int (nI p))] [.int (xs (Int32.toNatClampNeg ((nI p) + 1))), .ref 0] σ
  refine zq (σ := σ) hV hI hn 1 ?_
  show zSp _ 79 [.ref 0, .int (xs (Int32.toNatClampNeg ((nI p) + 1)))] σ (fun r_z σ' => σ'.2.2.2 = σ.2.2.2 + zAl 79 → V 267 [(0, .ref zsc), (1, .ref 0), (2, .ref 30), (3, .int (nI p))] (r_z.toList ++ []) σ')
  refine L_middle hR (fun rsu τ hIτ ans_z en => ?_)
  have hnτ : τ.2.2.2 = 52 := en.trans (by rw [hn]; rfl)
  refine zq (σ := τ) hV hIτ hnτ 5 ?_
  show V 272 [(0, .ref zsc), (1, .ref 0), (2, .ref 30), (3, .int (nI p))] [.int ((nI p) + 1), .ref zsc, .ref 30, .int rsu] τ
  refine zscl hV rfl (zix (k := (p + 1)) (zn_a (a := p) (b := 1) rfl rfl) (by omega) (by omega)) ?_
  show V 273 [(0, .ref zsc), (1, .ref 0), (2, .ref 30), (3, .int (nI p))] [.int (xs (Int32.toNatClampNeg ((nI p) + 1))), .ref 30, .int rsu] τ
  refine zq (σ := τ) hV hIτ hnτ 1 ?_
  show zSp _ 140 [.ref 30, .int (xs (Int32.toNatClampNeg ((nI p) + 1)))] τ (fun r_z σ' => σ'.2.2.2 = τ.2.2.2 + zAl 140 → V 276 [(0, .ref zsc), (1, .ref 0), (2, .ref 30), (3, .int (nI p))] (r_z.toList ++ [.int rsu]) σ')
  refine ans_z _ (fun υ hR2 en2 => ?_)
  have hnυ : υ.2.2.2 = 52 := en2.trans (by rw [hnτ]; rfl)
  have hIυ := hR2.1
  refine zq (σ := υ) hV hIυ hnυ 1 ?_
  show (rsu = rsu → V 1223 [(0, .ref zsc), (1, .ref 0), (2, .ref 30), (3, .int (nI p))] [] υ) ∧ (¬ rsu = rsu → V 279 [(0, .ref zsc), (1, .ref 0), (2, .ref 30), (3, .int (nI p))] [] υ)
  refine ⟨fun _ => ?_, fun hc_z => absurd rfl hc_z⟩
  refine zwk hV [0, 1, 2, 3] rfl ?_
  exact hnx υ hR2 hnυ
set_option maxRecDepth 8000 in
set_option maxHeartbeats 4000000 in
theorem zcs_3 {L p : Nat} {xs : Nat → Int32} {V : Nat → zLo → List Value → zSt → Prop} {σ : zSt} (hV : zOk (zSp 7) (L, xs) mL_law 52 V (fun r _ => r = some (.int 1))) (hR : zRel σ) (hn : σ.2.2.2 = 52) (hp : p + 6 ≤ L) (hL : L ≤ 3072) (hnx : ∀ υ, zRel υ → υ.2.2.2 = 52 → V 1223 [(0, .ref zsc), (1, .ref 0), (2, .ref 30), (3, .int (nI p))] [] υ) : V 281 [(0, .ref zsc), (1, .ref 0), (2, .ref 30), (3, .int (nI p))] [] σ := by
  have hI := hR.1
  refine zq (σ := σ) hV hI hn 5 ?_
  show V 286 [(0, .ref zsc), (1, .ref 0), (2, .ref 30), (3, .int (nI p))] [.int ((nI p) + 1), .ref zsc, .ref 0] σ
  refine zscl hV rfl (zix (k := (p + 1)) (zn_a (a := p) (b := 1) rfl rfl) (by omega) (by omega)) ?_
  show V 287 [(0, .ref zsc), (1, .ref 0), (2, .ref 30), (3, .int (nI p))] [.int (xs (Int32.toNatClampNeg ((nI p) + 1))), .ref 0] σ
  refine zq (σ := σ) hV hI hn 4 ?_
  show V 291 [(0, .ref zsc), (1, .ref 0), (2, .ref 30), (3, .int (nI p))] [.int ((nI p) + 2), .ref zsc, .int (xs (Int32.toNatClampNeg ((nI p) + 1))), .ref 0] σ
  refine zscl hV rfl (zix (k := (p + 2)) (zn_a (a := p) (b := 2) rfl rfl) (by omega) (by omega)) ?_
  show V 292 [(0, .ref zsc), (1, .ref 0), (2, .ref 30), (3, .int (nI p))] [.int (xs (Int32.toNatClampNeg ((nI p) + 2))), .int (xs (Int32.toNatClampNeg ((nI p) + 1))), .ref 0] σ
  refine zq (σ := σ) hV hI hn 1 ?_
  show zSp _ 80 [.ref 0, .int (xs (Int32.toNatClampNeg ((nI p) + 1))), .int (xs (Int32.toNatClampNeg ((nI p) + 2)))] σ (fun r_z σ' => σ'.2.2.2 = σ.2.2.2 + zAl 80 → V 295 [(0, .ref zsc), (1, .ref 0), (2, .ref 30), (3, .int (nI p))] (r_z.toList ++ []) σ')
  refine L_isIn hR (fun rsu τ hIτ ans_z en => ?_)
  have hnτ : τ.2.2.2 = 52 := en.trans (by rw [hn]; rfl)
  refine zq (σ := τ) hV hIτ hnτ 5 ?_
  show V 300 [(0, .ref zsc), (1, .ref 0), (2, .ref 30), (3, .int (nI p))] [.int ((nI p) + 1), .ref zsc, .ref 30, .int rsu] τ
  refine zscl hV rfl (zix (k := (p + 1)) (zn_a (a := p) (b := 1) rfl rfl) (by omega) (by omega)) ?_
  show V 301 [(0, .ref zsc), (1, .ref 0), (2, .ref 30), (3, .int (nI p))] [.int (xs (Int32.toNatClampNeg ((nI p) + 1))), .ref 30, .int rsu] τ
  refine zq (σ := τ) hV hIτ hnτ 4 ?_
  show V 305 [(0, .ref zsc), (1, .ref 0), (2, .ref 30), (3, .int (nI p))] [.int ((nI p) + 2), .ref zsc, .int (xs (Int32.toNatClampNeg ((nI p) + 1))), .ref 30, .int rsu] τ
  refine zscl hV rfl (zix (k := (p + 2)) (zn_a (a := p) (b := 2) rfl rfl) (by omega) (by omega)) ?_
  show V 306 [(0, .ref zsc), (1, .ref 0), (2, .ref 30), (3, .int (nI p))] [.int (xs (Int32.toNatClampNeg ((nI p) + 2))), .int (xs (Int32.toNatClampNeg ((nI p) + 1))), .ref 30, .int rsu] τ
  refine zq (σ := τ) hV hIτ hnτ 1 ?_
  show zSp _ 143 [.ref 30, .int (xs (Int32.toNatClampNeg ((nI p) + 1))), .int (xs (Int32.toNatClampNeg ((nI p) + 2)))] τ (fun r_z σ' => σ'.2.2.2 = τ.2.2.2 + zAl 143 → V 309 [(0, .ref zsc), (1, .ref 0), (2, .ref 30), (3, .int (nI p))] (r_z.toList ++ [.int rsu]) σ')
  refine ans_z _ (fun υ hR2 en2 => ?_)
  have hnυ : υ.2.2.2 = 52 := en2.trans (by rw [hnτ]; rfl)
  have hIυ := hR2.1
  refine zq (σ := υ) hV hIυ hnυ 1 ?_
  show (rsu = rsu → V 1223 [(0, .ref zsc), (1, .ref 0), (2, .ref 30), (3, .int (nI p))] [] υ) ∧ (¬ rsu = rsu → V 312 [(0, .ref zsc), (1, .ref 0), (2, .ref 30), (3, .int (nI p))] [] υ)
  refine ⟨fun _ => ?_, fun hc_z => absurd rfl hc_z⟩
  refine zwk hV [0, 1, 2, 3] rfl ?_
  exact hnx υ hR2 hnυ
set_option maxRecDepth 8000 in
set_option maxHeartbeats 4000000 in
theorem zcs_4 {L p : Nat} {xs : Nat → Int32} {V : Nat → zLo → List Value → zSt → Prop} {σ : zSt} (hV : zOk (zSp 7) (L, xs) mL_law 52 V (fun r _ => r = some (.int 1))) (hR : zRel σ) (hn : σ.2.2.2 = 52) (hp : p + 6 ≤ L) (hL : L ≤ 3072) (hnx : ∀ υ, zRel υ → υ.2.2.2 = 52 → V 1223 [(0, .ref zsc), (1, .ref 0), (2, .ref 30), (3, .int (nI p))] [] υ) : V 314 [(0, .ref zsc), (1, .ref 0), (2, .ref 30), (3, .int (nI p))] [] σ := by
  have hI := hR.1
  refine zq (σ := σ) hV hI hn 5 ?_
  show V 319 [(0, .ref zsc), (1, .ref 0), (2, .ref 30), (3, .int (nI p))] [.int ((nI p) + 1), .ref zsc, .ref 0] σ
  refine zscl hV rfl (zix (k := (p + 1)) (zn_a (a := p) (b := 1) rfl rfl) (by omega) (by omega)) ?_
  show V 320 [(0, .ref zsc), (1, .ref 0), (2, .ref 30), (3, .int (nI p))] [.int (xs (Int32.toNatClampNeg ((nI p) + 1))), .ref 0] σ
  refine zq (σ := σ) hV hI hn 4 ?_
  show V 324 [(0, .ref zsc), (1, .ref 0), (2, .ref 30), (3, .int (nI p))] [.int ((nI p) + 2), .ref zsc, .int (xs (Int32.toNatClampNeg ((nI p) + 1))), .ref 0] σ
  refine zscl hV rfl (zix (k := (p + 2)) (zn_a (a := p) (b := 2) rfl rfl) (by omega) (by omega)) ?_
  show V 325 [(0, .ref zsc), (1, .ref 0), (2, .ref 30), (3, .int (nI p))] [.int (xs (Int32.toNatClampNeg ((nI p) + 2))), .int (xs (Int32.toNatClampNeg ((nI p) + 1))), .ref 0] σ
  refine zq (σ := σ) hV hI hn 1 ?_
  show zSp _ 81 [.ref 0, .int (xs (Int32.toNatClampNeg ((nI p) + 1))), .int (xs (Int32.toNatClampNeg ((nI p) + 2)))] σ (fun r_z σ' => σ'.2.2.2 = σ.2.2.2 + zAl 81 → V 328 [(0, .ref zsc), (1, .ref 0), (2, .ref 30), (3, .int (nI p))] (r_z.toList ++ []) σ')
  refine L_finger hR (fun rsu τ hIτ ans_z en => ?_)
  have hnτ : τ.2.2.2 = 52 := en.trans (by rw [hn]; rfl)
  refine zq (σ := τ) hV hIτ hnτ 5 ?_
  show V 333 [(0, .ref zsc), (1, .ref 0), (2, .ref 30), (3, .int (nI p))] [.int ((nI p) + 1), .ref zsc, .ref 30, .int rsu] τ
  refine zscl hV rfl (zix (k := (p + 1)) (zn_a (a := p) (b := 1) rfl rfl) (by omega) (by omega)) ?_
  show V 334 [(0, .ref zsc), (1, .ref 0), (2, .ref 30), (3, .int (nI p))] [.int (xs (Int32.toNatClampNeg ((nI p) + 1))), .ref 30, .int rsu] τ
  refine zq (σ := τ) hV hIτ hnτ 4 ?_
  show V 338 [(0, .ref zsc), (1, .ref 0), (2, .ref 30), (3, .int (nI p))] [.int ((nI p) + 2), .ref zsc, .int (xs (Int32.toNatClampNeg ((nI p) + 1))), .ref 30, .int rsu] τ
  refine zscl hV rfl (zix (k := (p + 2)) (zn_a (a := p) (b := 2) rfl rfl) (by omega) (by omega)) ?_
  show V 339 [(0, .ref zsc), (1, .ref 0), (2, .ref 30), (3, .int (nI p))] [.int (xs (Int32.toNatClampNeg ((nI p) + 2))), .int (xs (Int32.toNatClampNeg ((nI p) + 1))), .ref 30, .int rsu] τ
  refine zq (σ := τ) hV hIτ hnτ 1 ?_
  show zSp _ 146 [.ref 30, .int (xs (Int32.toNatClampNeg ((nI p) + 1))), .int (xs (Int32.toNatClampNeg ((nI p) + 2)))] τ (fun r_z σ' => σ'.2.2.2 = τ.2.2.2 + zAl 146 → V 342 [(0, .ref zsc), (1, .ref 0), (2, .ref 30), (3, .int (nI p))] (r_z.toList ++ [.int rsu]) σ')
  refine ans_z _ (fun υ hR2 en2 => ?_)
  have hnυ : υ.2.2.2 = 52 := en2.trans (by rw [hnτ]; rfl)
  have hIυ := hR2.1
  refine zq (σ := υ) hV hIυ hnυ 1 ?_
  show (rsu = rsu → V 1223 [(0, .ref zsc), (1, .ref 0), (2, .ref 30), (3, .int (nI p))] [] υ) ∧ (¬ rsu = rsu → V 345 [(0, .ref zsc), (1, .ref 0), (2, .ref 30), (3, .int (nI p))] [] υ)
  refine ⟨fun _ => ?_, fun hc_z => absurd rfl hc_z⟩
  refine zwk hV [0, 1, 2, 3] rfl ?_
  exact hnx υ hR2 hnυ
set_option maxRecDepth 8000 in
set_option maxHeartbeats 4000000 in
theorem zcs_5 {L p : Nat} {xs : Nat → Int32} {V : Nat → zLo → List Value → zSt → Prop} {σ : zSt} (hV : zOk (zSp 7) (L, xs) mL_law 52 V (fun r _ => r = some (.int 1))) (hR : zRel σ) (hn : σ.2.2.2 = 52) (hp : p + 6 ≤ L) (hL : L ≤ 3072) (hnx : ∀ υ, zRel υ → υ.2.2.2 = 52 → V 1223 [(0, .ref zsc), (1, .ref 0), (2, .ref 30), (3, .int (nI p))] [] υ) : V 347 [(0, .ref zsc), (1, .ref 0), (2, .ref 30), (3, .int (nI p))] [] σ := by
  have hI := hR.1
  refine zq (σ := σ) hV hI hn 5 ?_
  show V 352 [(0, .ref zsc), (1, .ref 0), (2, .ref 30), (3, .int (nI p))] [.int ((nI p) + 1), .ref zsc, .ref 0] σ
  refine zscl hV rfl (zix (k := (p + 1)) (zn_a (a := p) (b := 1) rfl rfl) (by omega) (by omega)) ?_
  show V 353 [(0, .ref zsc), (1, .ref 0), (2, .ref 30), (3, .int (nI p))] [.int (xs (Int32.toNatClampNeg ((nI p) + 1))), .ref 0] σ
  refine zq (σ := σ) hV hI hn 4 ?_
  show V 357 [(0, .ref zsc), (1, .ref 0), (2, .ref 30), (3, .int (nI p))] [.int ((nI p) + 2), .ref zsc, .int (xs (Int32.toNatClampNeg ((nI p) + 1))), .ref 0] σ
  refine zscl hV rfl (zix (k := (p + 2)) (zn_a (a := p) (b := 2) rfl rfl) (by omega) (by omega)) ?_
  show V 358 [(0, .ref zsc), (1, .ref 0), (2, .ref 30), (3, .int (nI p))] [.int (xs (Int32.toNatClampNeg ((nI p) + 2))), .int (xs (Int32.toNatClampNeg ((nI p) + 1))), .ref 0] σ
  refine zq (σ := σ) hV hI hn 4 ?_
  show V 362 [(0, .ref zsc), (1, .ref 0), (2, .ref 30), (3, .int (nI p))] [.int ((nI p) + 3), .ref zsc, .int (xs (Int32.toNatClampNeg ((nI p) + 2))), .int (xs (Int32.toNatClampNeg ((nI p) + 1))), .ref 0] σ
  refine zscl hV rfl (zix (k := (p + 3)) (zn_a (a := p) (b := 3) rfl rfl) (by omega) (by omega)) ?_
  show V 363 [(0, .ref zsc), (1, .ref 0), (2, .ref 30), (3, .int (nI p))] [.int (xs (Int32.toNatClampNeg ((nI p) + 3))), .int (xs (Int32.toNatClampNeg ((nI p) + 2))), .int (xs (Int32.toNatClampNeg ((nI p) + 1))), .ref 0] σ
  refine zq (σ := σ) hV hI hn 1 ?_
  show zSp _ 82 [.ref 0, .int (xs (Int32.toNatClampNeg ((nI p) + 1))), .int (xs (Int32.toNatClampNeg ((nI p) + 2))), .int (xs (Int32.toNatClampNeg ((nI p) + 3)))] σ (fun r_z σ' => σ'.2.2.2 = σ.2.2.2 + zAl 82 → V 366 [(0, .ref zsc), (1, .ref 0), (2, .ref 30), (3, .int (nI p))] (r_z.toList ++ []) σ')
  refine L_move hR (fun rsu τ hIτ ans_z en => ?_)
  have hnτ : τ.2.2.2 = 52 := en.trans (by rw [hn]; rfl)
  refine zq (σ := τ) hV hIτ hnτ 5 ?_
  show V 371 [(0, .ref zsc), (1, .ref 0), (2, .ref 30), (3, .int (nI p))] [.int ((nI p) + 1), .ref zsc, .ref 30, .int rsu] τ
  refine zscl hV rfl (zix (k := (p + 1)) (zn_a (a := p) (b := 1) rfl rfl) (by omega) (by omega)) ?_
  show V 372 [(0, .ref zsc), (1, .ref 0), (2, .ref 30), (3, .int (nI p))] [.int (xs (Int32.toNatClampNeg ((nI p) + 1))), .ref 30, .int rsu] τ
  refine zq (σ := τ) hV hIτ hnτ 4 ?_
  show V 376 [(0, .ref zsc), (1, .ref 0), (2, .ref 30), (3, .int (nI p))] [.int ((nI p) + 2), .ref zsc, .int (xs (Int32.toNatClampNeg ((nI p) + 1))), .ref 30, .int rsu] τ
  refine zscl hV rfl (zix (k := (p + 2)) (zn_a (a := p) (b := 2) rfl rfl) (by omega) (by omega)) ?_
  show V 377 [(0, .ref zsc), (1, .ref 0), (2, .ref 30), (3, .int (nI p))] [.int (xs (Int32.toNatClampNeg ((nI p) + 2))), .int (xs (Int32.toNatClampNeg ((nI p) + 1))), .ref 30, .int rsu] τ
  refine zq (σ := τ) hV hIτ hnτ 4 ?_
  show V 381 [(0, .ref zsc), (1, .ref 0), (2, .ref 30), (3, .int (nI p))] [.int ((nI p) + 3), .ref zsc, .int (xs (Int32.toNatClampNeg ((nI p) + 2))), .int (xs (Int32.toNatClampNeg ((nI p) + 1))), .ref 30, .int rsu] τ
  refine zscl hV rfl (zix (k := (p + 3)) (zn_a (a := p) (b := 3) rfl rfl) (by omega) (by omega)) ?_
  show V 382 [(0, .ref zsc), (1, .ref 0), (2, .ref 30), (3, .int (nI p))] [.int (xs (Int32.toNatClampNeg ((nI p) + 3))), .int (xs (Int32.toNatClampNeg ((nI p) + 2))), .int (xs (Int32.toNatClampNeg ((nI p) + 1))), .ref 30, .int rsu] τ
  refine zq (σ := τ) hV hIτ hnτ 1 ?_
  show zSp _ 147 [.ref 30, .int (xs (Int32.toNatClampNeg ((nI p) + 1))), .int (xs (Int32.toNatClampNeg ((nI p) + 2))), .int (xs (Int32.toNatClampNeg ((nI p) + 3)))] τ (fun r_z σ' => σ'.2.2.2 = τ.2.2.2 + zAl 147 → V 385 [(0, .ref zsc), (1, .ref 0), (2, .ref 30), (3, .int (nI p))] (r_z.toList ++ [.int rsu]) σ')
  refine ans_z _ (fun υ hR2 en2 => ?_)
  have hnυ : υ.2.2.2 = 52 := en2.trans (by rw [hnτ]; rfl)
  have hIυ := hR2.1
  refine zq (σ := υ) hV hIυ hnυ 1 ?_
  show (rsu = rsu → V 1223 [(0, .ref zsc), (1, .ref 0), (2, .ref 30), (3, .int (nI p))] [] υ) ∧ (¬ rsu = rsu → V 388 [(0, .ref zsc), (1, .ref 0), (2, .ref 30), (3, .int (nI p))] [] υ)
  refine ⟨fun _ => ?_, fun hc_z => absurd rfl hc_z⟩
  refine zwk hV [0, 1, 2, 3] rfl ?_
  exact hnx υ hR2 hnυ
set_option maxRecDepth 8000 in
set_option maxHeartbeats 4000000 in
theorem zcs_6 {L p : Nat} {xs : Nat → Int32} {V : Nat → zLo → List Value → zSt → Prop} {σ : zSt} (hV : zOk (zSp 7) (L, xs) mL_law 52 V (fun r _ => r = some (.int 1))) (hR : zRel σ) (hn : σ.2.2.2 = 52) (hp : p + 6 ≤ L) (hL : L ≤ 3072) (hnx : ∀ υ, zRel υ → υ.2.2.2 = 52 → V 1223 [(0, .ref zsc), (1, .ref 0), (2, .ref 30), (3, .int (nI p))] [] υ) : V 390 [(0, .ref zsc), (1, .ref 0), (2, .ref 30), (3, .int (nI p))] [] σ := by
  have hI := hR.1
  refine zq (σ := σ) hV hI hn 2 ?_
  show zSp _ 83 [.ref 0] σ (fun r_z σ' => σ'.2.2.2 = σ.2.2.2 + zAl 83 → V 394 [(0, .ref zsc), (1, .ref 0), (2, .ref 30), (3, .int (nI p))] (r_z.toList ++ []) σ')
  refine L_release hR (fun rsu τ hIτ ans_z en => ?_)
  have hnτ : τ.2.2.2 = 52 := en.trans (by rw [hn]; rfl)
  refine zq (σ := τ) hV hIτ hnτ 2 ?_
  show zSp _ 148 [.ref 30] τ (fun r_z σ' => σ'.2.2.2 = τ.2.2.2 + zAl 148 → V 398 [(0, .ref zsc), (1, .ref 0), (2, .ref 30), (3, .int (nI p))] (r_z.toList ++ [.int rsu]) σ')
  refine ans_z _ (fun υ hR2 en2 => ?_)
  have hnυ : υ.2.2.2 = 52 := en2.trans (by rw [hnτ]; rfl)
  have hIυ := hR2.1
  refine zq (σ := υ) hV hIυ hnυ 1 ?_
  show (rsu = rsu → V 1223 [(0, .ref zsc), (1, .ref 0), (2, .ref 30), (3, .int (nI p))] [] υ) ∧ (¬ rsu = rsu → V 401 [(0, .ref zsc), (1, .ref 0), (2, .ref 30), (3, .int (nI p))] [] υ)
  refine ⟨fun _ => ?_, fun hc_z => absurd rfl hc_z⟩
  refine zwk hV [0, 1, 2, 3] rfl ?_
  exact hnx υ hR2 hnυ
set_option maxRecDepth 8000 in
set_option maxHeartbeats 4000000 in
theorem zcs_7 {L p : Nat} {xs : Nat → Int32} {V : Nat → zLo → List Value → zSt → Prop} {σ : zSt} (hV : zOk (zSp 7) (L, xs) mL_law 52 V (fun r _ => r = some (.int 1))) (hR : zRel σ) (hn : σ.2.2.2 = 52) (hp : p + 6 ≤ L) (hL : L ≤ 3072) (hnx : ∀ υ, zRel υ → υ.2.2.2 = 52 → V 1223 [(0, .ref zsc), (1, .ref 0), (2, .ref 30), (3, .int (nI p))] [] υ) : V 403 [(0, .ref zsc), (1, .ref 0), (2, .ref 30), (3, .int (nI p))] [] σ := by
  have hI := hR.1
  refine zq (σ := σ) hV hI hn 5 ?_
  show V 408 [(0, .ref zsc), (1, .ref 0), (2, .ref 30), (3, .int (nI p))] [.int ((nI p) + 1), .ref zsc, .ref 0] σ
  refine zscl hV rfl (zix (k := (p + 1)) (zn_a (a := p) (b := 1) rfl rfl) (by omega) (by omega)) ?_
  show V 409 [(0, .ref zsc), (1, .ref 0), (2, .ref 30), (3, .int (nI p))] [.int (xs (Int32.toNatClampNeg ((nI p) + 1))), .ref 0] σ
  refine zq (σ := σ) hV hI hn 1 ?_
  show zSp _ 84 [.ref 0, .int (xs (Int32.toNatClampNeg ((nI p) + 1)))] σ (fun r_z σ' => σ'.2.2.2 = σ.2.2.2 + zAl 84 → V 412 [(0, .ref zsc), (1, .ref 0), (2, .ref 30), (3, .int (nI p))] (r_z.toList ++ []) σ')
  refine L_friction hR (fun rsu τ hIτ ans_z en => ?_)
  have hnτ : τ.2.2.2 = 52 := en.trans (by rw [hn]; rfl)
  refine zq (σ := τ) hV hIτ hnτ 5 ?_
  show V 417 [(0, .ref zsc), (1, .ref 0), (2, .ref 30), (3, .int (nI p))] [.int ((nI p) + 1), .ref zsc, .ref 30, .int rsu] τ
  refine zscl hV rfl (zix (k := (p + 1)) (zn_a (a := p) (b := 1) rfl rfl) (by omega) (by omega)) ?_
  show V 418 [(0, .ref zsc), (1, .ref 0), (2, .ref 30), (3, .int (nI p))] [.int (xs (Int32.toNatClampNeg ((nI p) + 1))), .ref 30, .int rsu] τ
  refine zq (σ := τ) hV hIτ hnτ 1 ?_
  show zSp _ 149 [.ref 30, .int (xs (Int32.toNatClampNeg ((nI p) + 1)))] τ (fun r_z σ' => σ'.2.2.2 = τ.2.2.2 + zAl 149 → V 421 [(0, .ref zsc), (1, .ref 0), (2, .ref 30), (3, .int (nI p))] (r_z.toList ++ [.int rsu]) σ')
  refine ans_z _ (fun υ hR2 en2 => ?_)
  have hnυ : υ.2.2.2 = 52 := en2.trans (by rw [hnτ]; rfl)
  have hIυ := hR2.1
  refine zq (σ := υ) hV hIυ hnυ 1 ?_
  show (rsu = rsu → V 1223 [(0, .ref zsc), (1, .ref 0), (2, .ref 30), (3, .int (nI p))] [] υ) ∧ (¬ rsu = rsu → V 424 [(0, .ref zsc), (1, .ref 0), (2, .ref 30), (3, .int (nI p))] [] υ)
  refine ⟨fun _ => ?_, fun hc_z => absurd rfl hc_z⟩
  refine zwk hV [0, 1, 2, 3] rfl ?_
  exact hnx υ hR2 hnυ
set_option maxRecDepth 8000 in
set_option maxHeartbeats 4000000 in
theorem zcs_8 {L p : Nat} {xs : Nat → Int32} {V : Nat → zLo → List Value → zSt → Prop} {σ : zSt} (hV : zOk (zSp 7) (L, xs) mL_law 52 V (fun r _ => r = some (.int 1))) (hR : zRel σ) (hn : σ.2.2.2 = 52) (hp : p + 6 ≤ L) (hL : L ≤ 3072) (hnx : ∀ υ, zRel υ → υ.2.2.2 = 52 → V 1223 [(0, .ref zsc), (1, .ref 0), (2, .ref 30), (3, .int (nI p))] [] υ) : V 426 [(0, .ref zsc), (1, .ref 0), (2, .ref 30), (3, .int (nI p))] [] σ := by
  have hI := hR.1
  refine zq (σ := σ) hV hI hn 5 ?_
  show V 431 [(0, .ref zsc), (1, .ref 0), (2, .ref 30), (3, .int (nI p))] [.int ((nI p) + 1), .ref zsc, .ref 0] σ
  refine zscl hV rfl (zix (k := (p + 1)) (zn_a (a := p) (b := 1) rfl rfl) (by omega) (by omega)) ?_
  show V 432 [(0, .ref zsc), (1, .ref 0), (2, .ref 30), (3, .int (nI p))] [.int (xs (Int32.toNatClampNeg ((nI p) + 1))), .ref 0] σ
  refine zq (σ := σ) hV hI hn 4 ?_
  show V 436 [(0, .ref zsc), (1, .ref 0), (2, .ref 30), (3, .int (nI p))] [.int ((nI p) + 2), .ref zsc, .int (xs (Int32.toNatClampNeg ((nI p) + 1))), .ref 0] σ
  refine zscl hV rfl (zix (k := (p + 2)) (zn_a (a := p) (b := 2) rfl rfl) (by omega) (by omega)) ?_
  show V 437 [(0, .ref zsc), (1, .ref 0), (2, .ref 30), (3, .int (nI p))] [.int (xs (Int32.toNatClampNeg ((nI p) + 2))), .int (xs (Int32.toNatClampNeg ((nI p) + 1))), .ref 0] σ
  refine zq (σ := σ) hV hI hn 1 ?_
  show zSp _ 85 [.ref 0, .int (xs (Int32.toNatClampNeg ((nI p) + 1))), .int (xs (Int32.toNatClampNeg ((nI p) + 2)))] σ (fun r_z σ' => σ'.2.2.2 = σ.2.2.2 + zAl 85 → V 440 [(0, .ref zsc), (1, .ref 0), (2, .ref 30), (3, .int (nI p))] (r_z.toList ++ []) σ')
  refine L_push hR (fun rsu τ hIτ ans_z en => ?_)
  have hnτ : τ.2.2.2 = 52 := en.trans (by rw [hn]; rfl)
  refine zq (σ := τ) hV hIτ hnτ 5 ?_
  show V 445 [(0, .ref zsc), (1, .ref 0), (2, .ref 30), (3, .int (nI p))] [.int ((nI p) + 1), .ref zsc, .ref 30, .long rsu] τ
  refine zscl hV rfl (zix (k := (p + 1)) (zn_a (a := p) (b := 1) rfl rfl) (by omega) (by omega)) ?_
  show V 446 [(0, .ref zsc), (1, .ref 0), (2, .ref 30), (3, .int (nI p))] [.int (xs (Int32.toNatClampNeg ((nI p) + 1))), .ref 30, .long rsu] τ
  refine zq (σ := τ) hV hIτ hnτ 4 ?_
  show V 450 [(0, .ref zsc), (1, .ref 0), (2, .ref 30), (3, .int (nI p))] [.int ((nI p) + 2), .ref zsc, .int (xs (Int32.toNatClampNeg ((nI p) + 1))), .ref 30, .long rsu] τ
  refine zscl hV rfl (zix (k := (p + 2)) (zn_a (a := p) (b := 2) rfl rfl) (by omega) (by omega)) ?_
  show V 451 [(0, .ref zsc), (1, .ref 0), (2, .ref 30), (3, .int (nI p))] [.int (xs (Int32.toNatClampNeg ((nI p) + 2))), .int (xs (Int32.toNatClampNeg ((nI p) + 1))), .ref 30, .long rsu] τ
  refine zq (σ := τ) hV hIτ hnτ 1 ?_
  show zSp _ 156 [.ref 30, .int (xs (Int32.toNatClampNeg ((nI p) + 1))), .int (xs (Int32.toNatClampNeg ((nI p) + 2)))] τ (fun r_z σ' => σ'.2.2.2 = τ.2.2.2 + zAl 156 → V 454 [(0, .ref zsc), (1, .ref 0), (2, .ref 30), (3, .int (nI p))] (r_z.toList ++ [.long rsu]) σ')
  refine ans_z _ (fun υ hR2 en2 => ?_)
  have hnυ : υ.2.2.2 = 52 := en2.trans (by rw [hnτ]; rfl)
  have hIυ := hR2.1
  refine zq (σ := υ) hV hIυ hnυ 2 ?_
  show ((lg_cmp rsu rsu) = 0 → V 1223 [(0, .ref zsc), (1, .ref 0), (2, .ref 30), (3, .int (nI p))] [] υ) ∧ (¬ (lg_cmp rsu rsu) = 0 → V 458 [(0, .ref zsc), (1, .ref 0), (2, .ref 30), (3, .int (nI p))] [] υ)
  refine ⟨fun _ => ?_, fun hc_z => absurd (zcmp_eq.mpr rfl) hc_z⟩
  refine zwk hV [0, 1, 2, 3] rfl ?_
  exact hnx υ hR2 hnυ
set_option maxRecDepth 8000 in
set_option maxHeartbeats 4000000 in
theorem zcs_9 {L p : Nat} {xs : Nat → Int32} {V : Nat → zLo → List Value → zSt → Prop} {σ : zSt} (hV : zOk (zSp 7) (L, xs) mL_law 52 V (fun r _ => r = some (.int 1))) (hR : zRel σ) (hn : σ.2.2.2 = 52) (hp : p + 6 ≤ L) (hL : L ≤ 3072) (hnx : ∀ υ, zRel υ → υ.2.2.2 = 52 → V 1223 [(0, .ref zsc), (1, .ref 0), (2, .ref 30), (3, .int (nI p))] [] υ) : V 460 [(0, .ref zsc), (1, .ref 0), (2, .ref 30), (3, .int (nI p))] [] σ := by
  have hI := hR.1
  refine zq (σ := σ) hV hI hn 2 ?_
  show zSp _ 86 [.ref 0] σ (fun r_z σ' => σ'.2.2.2 = σ.2.2.2 + zAl 86 → V 464 [(0, .ref zsc), (1, .ref 0), (2, .ref 30), (3, .int (nI p))] (r_z.toList ++ []) σ')
  refine L_holds hR (fun rsu τ hIτ ans_z en => ?_)
  have hnτ : τ.2.2.2 = 52 := en.trans (by rw [hn]; rfl)
  refine zq (σ := τ) hV hIτ hnτ 2 ?_
  show zSp _ 157 [.ref 30] τ (fun r_z σ' => σ'.2.2.2 = τ.2.2.2 + zAl 157 → V 468 [(0, .ref zsc), (1, .ref 0), (2, .ref 30), (3, .int (nI p))] (r_z.toList ++ [.int rsu]) σ')
  refine ans_z _ (fun υ hR2 en2 => ?_)
  have hnυ : υ.2.2.2 = 52 := en2.trans (by rw [hnτ]; rfl)
  have hIυ := hR2.1
  refine zq (σ := υ) hV hIυ hnυ 1 ?_
  show (rsu = rsu → V 1223 [(0, .ref zsc), (1, .ref 0), (2, .ref 30), (3, .int (nI p))] [] υ) ∧ (¬ rsu = rsu → V 471 [(0, .ref zsc), (1, .ref 0), (2, .ref 30), (3, .int (nI p))] [] υ)
  refine ⟨fun _ => ?_, fun hc_z => absurd rfl hc_z⟩
  refine zwk hV [0, 1, 2, 3] rfl ?_
  exact hnx υ hR2 hnυ
set_option maxRecDepth 8000 in
set_option maxHeartbeats 4000000 in
theorem zcs_10 {L p : Nat} {xs : Nat → Int32} {V : Nat → zLo → List Value → zSt → Prop} {σ : zSt} (hV : zOk (zSp 7) (L, xs) mL_law 52 V (fun r _ => r = some (.int 1))) (hR : zRel σ) (hn : σ.2.2.2 = 52) (hp : p + 6 ≤ L) (hL : L ≤ 3072) (hnx : ∀ υ, zRel υ → υ.2.2.2 = 52 → V 1223 [(0, .ref zsc), (1, .ref 0), (2, .ref 30), (3, .int (nI p))] [] υ) : V 473 [(0, .ref zsc), (1, .ref 0), (2, .ref 30), (3, .int (nI p))] [] σ := by
  have hI := hR.1
  refine zq (σ := σ) hV hI hn 5 ?_
  show V 478 [(0, .ref zsc), (1, .ref 0), (2, .ref 30), (3, .int (nI p))] [.int ((nI p) + 1), .ref zsc, .ref 0] σ
  refine zscl hV rfl (zix (k := (p + 1)) (zn_a (a := p) (b := 1) rfl rfl) (by omega) (by omega)) ?_
  show V 479 [(0, .ref zsc), (1, .ref 0), (2, .ref 30), (3, .int (nI p))] [.int (xs (Int32.toNatClampNeg ((nI p) + 1))), .ref 0] σ
  refine zq (σ := σ) hV hI hn 1 ?_
  show zSp _ 87 [.ref 0, .int (xs (Int32.toNatClampNeg ((nI p) + 1)))] σ (fun r_z σ' => σ'.2.2.2 = σ.2.2.2 + zAl 87 → V 482 [(0, .ref zsc), (1, .ref 0), (2, .ref 30), (3, .int (nI p))] (r_z.toList ++ []) σ')
  refine L_witness hR (fun rsu τ hIτ ans_z en => ?_)
  have hnτ : τ.2.2.2 = 52 := en.trans (by rw [hn]; rfl)
  refine zq (σ := τ) hV hIτ hnτ 5 ?_
  show V 487 [(0, .ref zsc), (1, .ref 0), (2, .ref 30), (3, .int (nI p))] [.int ((nI p) + 1), .ref zsc, .ref 30, .long rsu] τ
  refine zscl hV rfl (zix (k := (p + 1)) (zn_a (a := p) (b := 1) rfl rfl) (by omega) (by omega)) ?_
  show V 488 [(0, .ref zsc), (1, .ref 0), (2, .ref 30), (3, .int (nI p))] [.int (xs (Int32.toNatClampNeg ((nI p) + 1))), .ref 30, .long rsu] τ
  refine zq (σ := τ) hV hIτ hnτ 1 ?_
  show zSp _ 158 [.ref 30, .int (xs (Int32.toNatClampNeg ((nI p) + 1)))] τ (fun r_z σ' => σ'.2.2.2 = τ.2.2.2 + zAl 158 → V 491 [(0, .ref zsc), (1, .ref 0), (2, .ref 30), (3, .int (nI p))] (r_z.toList ++ [.long rsu]) σ')
  refine ans_z _ (fun υ hR2 en2 => ?_)
  have hnυ : υ.2.2.2 = 52 := en2.trans (by rw [hnτ]; rfl)
  have hIυ := hR2.1
  refine zq (σ := υ) hV hIυ hnυ 2 ?_
  show ((lg_cmp rsu rsu) = 0 → V 1223 [(0, .ref zsc), (1, .ref 0), (2, .ref 30), (3, .int (nI p))] [] υ) ∧ (¬ (lg_cmp rsu rsu) = 0 → V 495 [(0, .ref zsc), (1, .ref 0), (2, .ref 30), (3, .int (nI p))] [] υ)
  refine ⟨fun _ => ?_, fun hc_z => absurd (zcmp_eq.mpr rfl) hc_z⟩
  refine zwk hV [0, 1, 2, 3] rfl ?_
  exact hnx υ hR2 hnυ
set_option maxRecDepth 8000 in
set_option maxHeartbeats 4000000 in
theorem zcs_11 {L p : Nat} {xs : Nat → Int32} {V : Nat → zLo → List Value → zSt → Prop} {σ : zSt} (hV : zOk (zSp 7) (L, xs) mL_law 52 V (fun r _ => r = some (.int 1))) (hR : zRel σ) (hn : σ.2.2.2 = 52) (hp : p + 6 ≤ L) (hL : L ≤ 3072) (hnx : ∀ υ, zRel υ → υ.2.2.2 = 52 → V 1223 [(0, .ref zsc), (1, .ref 0), (2, .ref 30), (3, .int (nI p))] [] υ) : V 497 [(0, .ref zsc), (1, .ref 0), (2, .ref 30), (3, .int (nI p))] [] σ := by
  have hI := hR.1
  refine zq (σ := σ) hV hI hn 5 ?_
  show V 502 [(0, .ref zsc), (1, .ref 0), (2, .ref 30), (3, .int (nI p))] [.int ((nI p) + 1), .ref zsc, .ref 0] σ
  refine zscl hV rfl (zix (k := (p + 1)) (zn_a (a := p) (b := 1) rfl rfl) (by omega) (by omega)) ?_
  show V 503 [(0, .ref zsc), (1, .ref 0), (2, .ref 30), (3, .int (nI p))] [.int (xs (Int32.toNatClampNeg ((nI p) + 1))), .ref 0] σ
  refine zq (σ := σ) hV hI hn 1 ?_
  show zSp _ 88 [.ref 0, .int (xs (Int32.toNatClampNeg ((nI p) + 1)))] σ (fun r_z σ' => σ'.2.2.2 = σ.2.2.2 + zAl 88 → V 506 [(0, .ref zsc), (1, .ref 0), (2, .ref 30), (3, .int (nI p))] (r_z.toList ++ []) σ')
  refine L_free hR (fun rsu τ hIτ ans_z en => ?_)
  have hnτ : τ.2.2.2 = 52 := en.trans (by rw [hn]; rfl)
  refine zq (σ := τ) hV hIτ hnτ 5 ?_
  show V 511 [(0, .ref zsc), (1, .ref 0), (2, .ref 30), (3, .int (nI p))] [.int ((nI p) + 1), .ref zsc, .ref 30, .int rsu] τ
  refine zscl hV rfl (zix (k := (p + 1)) (zn_a (a := p) (b := 1) rfl rfl) (by omega) (by omega)) ?_
  show V 512 [(0, .ref zsc), (1, .ref 0), (2, .ref 30), (3, .int (nI p))] [.int (xs (Int32.toNatClampNeg ((nI p) + 1))), .ref 30, .int rsu] τ
  refine zq (σ := τ) hV hIτ hnτ 1 ?_
  show zSp _ 159 [.ref 30, .int (xs (Int32.toNatClampNeg ((nI p) + 1)))] τ (fun r_z σ' => σ'.2.2.2 = τ.2.2.2 + zAl 159 → V 515 [(0, .ref zsc), (1, .ref 0), (2, .ref 30), (3, .int (nI p))] (r_z.toList ++ [.int rsu]) σ')
  refine ans_z _ (fun υ hR2 en2 => ?_)
  have hnυ : υ.2.2.2 = 52 := en2.trans (by rw [hnτ]; rfl)
  have hIυ := hR2.1
  refine zq (σ := υ) hV hIυ hnυ 1 ?_
  show (rsu = rsu → V 1223 [(0, .ref zsc), (1, .ref 0), (2, .ref 30), (3, .int (nI p))] [] υ) ∧ (¬ rsu = rsu → V 518 [(0, .ref zsc), (1, .ref 0), (2, .ref 30), (3, .int (nI p))] [] υ)
  refine ⟨fun _ => ?_, fun hc_z => absurd rfl hc_z⟩
  refine zwk hV [0, 1, 2, 3] rfl ?_
  exact hnx υ hR2 hnυ
set_option maxRecDepth 8000 in
set_option maxHeartbeats 4000000 in
theorem zcs_12 {L p : Nat} {xs : Nat → Int32} {V : Nat → zLo → List Value → zSt → Prop} {σ : zSt} (hV : zOk (zSp 7) (L, xs) mL_law 52 V (fun r _ => r = some (.int 1))) (hR : zRel σ) (hn : σ.2.2.2 = 52) (hp : p + 6 ≤ L) (hL : L ≤ 3072) (hnx : ∀ υ, zRel υ → υ.2.2.2 = 52 → V 1223 [(0, .ref zsc), (1, .ref 0), (2, .ref 30), (3, .int (nI p))] [] υ) : V 520 [(0, .ref zsc), (1, .ref 0), (2, .ref 30), (3, .int (nI p))] [] σ := by
  have hI := hR.1
  refine zq (σ := σ) hV hI hn 2 ?_
  show zSp _ 89 [.ref 0] σ (fun r_z σ' => σ'.2.2.2 = σ.2.2.2 + zAl 89 → V 524 [(0, .ref zsc), (1, .ref 0), (2, .ref 30), (3, .int (nI p))] (r_z.toList ++ []) σ')
  refine L_slip hR (fun rsu τ hIτ ans_z en => ?_)
  have hnτ : τ.2.2.2 = 52 := en.trans (by rw [hn]; rfl)
  refine zq (σ := τ) hV hIτ hnτ 2 ?_
  show zSp _ 161 [.ref 30] τ (fun r_z σ' => σ'.2.2.2 = τ.2.2.2 + zAl 161 → V 528 [(0, .ref zsc), (1, .ref 0), (2, .ref 30), (3, .int (nI p))] (r_z.toList ++ [.int rsu]) σ')
  refine ans_z _ (fun υ hR2 en2 => ?_)
  have hnυ : υ.2.2.2 = 52 := en2.trans (by rw [hnτ]; rfl)
  have hIυ := hR2.1
  refine zq (σ := υ) hV hIυ hnυ 1 ?_
  show (rsu = rsu → V 1223 [(0, .ref zsc), (1, .ref 0), (2, .ref 30), (3, .int (nI p))] [] υ) ∧ (¬ rsu = rsu → V 531 [(0, .ref zsc), (1, .ref 0), (2, .ref 30), (3, .int (nI p))] [] υ)
  refine ⟨fun _ => ?_, fun hc_z => absurd rfl hc_z⟩
  refine zwk hV [0, 1, 2, 3] rfl ?_
  exact hnx υ hR2 hnυ
set_option maxRecDepth 8000 in
set_option maxHeartbeats 4000000 in
theorem zcs_13 {L p : Nat} {xs : Nat → Int32} {V : Nat → zLo → List Value → zSt → Prop} {σ : zSt} (hV : zOk (zSp 7) (L, xs) mL_law 52 V (fun r _ => r = some (.int 1))) (hR : zRel σ) (hn : σ.2.2.2 = 52) (hp : p + 6 ≤ L) (hL : L ≤ 3072) (hnx : ∀ υ, zRel υ → υ.2.2.2 = 52 → V 1223 [(0, .ref zsc), (1, .ref 0), (2, .ref 30), (3, .int (nI p))] [] υ) : V 533 [(0, .ref zsc), (1, .ref 0), (2, .ref 30), (3, .int (nI p))] [] σ := by
  have hI := hR.1
  refine zq (σ := σ) hV hI hn 5 ?_
  show V 538 [(0, .ref zsc), (1, .ref 0), (2, .ref 30), (3, .int (nI p))] [.int ((nI p) + 1), .ref zsc, .ref 0] σ
  refine zscl hV rfl (zix (k := (p + 1)) (zn_a (a := p) (b := 1) rfl rfl) (by omega) (by omega)) ?_
  show V 539 [(0, .ref zsc), (1, .ref 0), (2, .ref 30), (3, .int (nI p))] [.int (xs (Int32.toNatClampNeg ((nI p) + 1))), .ref 0] σ
  refine zq (σ := σ) hV hI hn 4 ?_
  show V 543 [(0, .ref zsc), (1, .ref 0), (2, .ref 30), (3, .int (nI p))] [.int ((nI p) + 2), .ref zsc, .int (xs (Int32.toNatClampNeg ((nI p) + 1))), .ref 0] σ
  refine zscl hV rfl (zix (k := (p + 2)) (zn_a (a := p) (b := 2) rfl rfl) (by omega) (by omega)) ?_
  show V 544 [(0, .ref zsc), (1, .ref 0), (2, .ref 30), (3, .int (nI p))] [.int (xs (Int32.toNatClampNeg ((nI p) + 2))), .int (xs (Int32.toNatClampNeg ((nI p) + 1))), .ref 0] σ
  refine zq (σ := σ) hV hI hn 4 ?_
  show V 548 [(0, .ref zsc), (1, .ref 0), (2, .ref 30), (3, .int (nI p))] [.int ((nI p) + 3), .ref zsc, .int (xs (Int32.toNatClampNeg ((nI p) + 2))), .int (xs (Int32.toNatClampNeg ((nI p) + 1))), .ref 0] σ
  refine zscl hV rfl (zix (k := (p + 3)) (zn_a (a := p) (b := 3) rfl rfl) (by omega) (by omega)) ?_
  show V 549 [(0, .ref zsc), (1, .ref 0), (2, .ref 30), (3, .int (nI p))] [.int (xs (Int32.toNatClampNeg ((nI p) + 3))), .int (xs (Int32.toNatClampNeg ((nI p) + 2))), .int (xs (Int32.toNatClampNeg ((nI p) + 1))), .ref 0] σ
  refine zq (σ := σ) hV hI hn 1 ?_
  show zSp _ 93 [.ref 0, .int (xs (Int32.toNatClampNeg ((nI p) + 1))), .int (xs (Int32.toNatClampNeg ((nI p) + 2))), .int (xs (Int32.toNatClampNeg ((nI p) + 3)))] σ (fun r_z σ' => σ'.2.2.2 = σ.2.2.2 + zAl 93 → V 552 [(0, .ref zsc), (1, .ref 0), (2, .ref 30), (3, .int (nI p))] (r_z.toList ++ []) σ')
  refine L_spot hR (fun rsu τ hIτ ans_z en => ?_)
  have hnτ : τ.2.2.2 = 52 := en.trans (by rw [hn]; rfl)
  refine zq (σ := τ) hV hIτ hnτ 5 ?_
  show V 557 [(0, .ref zsc), (1, .ref 0), (2, .ref 30), (3, .int (nI p))] [.int ((nI p) + 1), .ref zsc, .ref 30, .int rsu] τ
  refine zscl hV rfl (zix (k := (p + 1)) (zn_a (a := p) (b := 1) rfl rfl) (by omega) (by omega)) ?_
  show V 558 [(0, .ref zsc), (1, .ref 0), (2, .ref 30), (3, .int (nI p))] [.int (xs (Int32.toNatClampNeg ((nI p) + 1))), .ref 30, .int rsu] τ
  refine zq (σ := τ) hV hIτ hnτ 4 ?_
  show V 562 [(0, .ref zsc), (1, .ref 0), (2, .ref 30), (3, .int (nI p))] [.int ((nI p) + 2), .ref zsc, .int (xs (Int32.toNatClampNeg ((nI p) + 1))), .ref 30, .int rsu] τ
  refine zscl hV rfl (zix (k := (p + 2)) (zn_a (a := p) (b := 2) rfl rfl) (by omega) (by omega)) ?_
  show V 563 [(0, .ref zsc), (1, .ref 0), (2, .ref 30), (3, .int (nI p))] [.int (xs (Int32.toNatClampNeg ((nI p) + 2))), .int (xs (Int32.toNatClampNeg ((nI p) + 1))), .ref 30, .int rsu] τ
  refine zq (σ := τ) hV hIτ hnτ 4 ?_
  show V 567 [(0, .ref zsc), (1, .ref 0), (2, .ref 30), (3, .int (nI p))] [.int ((nI p) + 3), .ref zsc, .int (xs (Int32.toNatClampNeg ((nI p) + 2))), .int (xs (Int32.toNatClampNeg ((nI p) + 1))), .ref 30, .int rsu] τ
  refine zscl hV rfl (zix (k := (p + 3)) (zn_a (a := p) (b := 3) rfl rfl) (by omega) (by omega)) ?_
  show V 568 [(0, .ref zsc), (1, .ref 0), (2, .ref 30), (3, .int (nI p))] [.int (xs (Int32.toNatClampNeg ((nI p) + 3))), .int (xs (Int32.toNatClampNeg ((nI p) + 2))), .int (xs (Int32.toNatClampNeg ((nI p) + 1))), .ref 30, .int rsu] τ
  refine zq (σ := τ) hV hIτ hnτ 1 ?_
  show zSp _ 162 [.ref 30, .int (xs (Int32.toNatClampNeg ((nI p) + 1))), .int (xs (Int32.toNatClampNeg ((nI p) + 2))), .int (xs (Int32.toNatClampNeg ((nI p) + 3)))] τ (fun r_z σ' => σ'.2.2.2 = τ.2.2.2 + zAl 162 → V 571 [(0, .ref zsc), (1, .ref 0), (2, .ref 30), (3, .int (nI p))] (r_z.toList ++ [.int rsu]) σ')
  refine ans_z _ (fun υ hR2 en2 => ?_)
  have hnυ : υ.2.2.2 = 52 := en2.trans (by rw [hnτ]; rfl)
  have hIυ := hR2.1
  refine zq (σ := υ) hV hIυ hnυ 1 ?_
  show (rsu = rsu → V 1223 [(0, .ref zsc), (1, .ref 0), (2, .ref 30), (3, .int (nI p))] [] υ) ∧ (¬ rsu = rsu → V 574 [(0, .ref zsc), (1, .ref 0), (2, .ref 30), (3, .int (nI p))] [] υ)
  refine ⟨fun _ => ?_, fun hc_z => absurd rfl hc_z⟩
  refine zwk hV [0, 1, 2, 3] rfl ?_
  exact hnx υ hR2 hnυ
set_option maxRecDepth 8000 in
set_option maxHeartbeats 4000000 in
theorem zcs_14 {L p : Nat} {xs : Nat → Int32} {V : Nat → zLo → List Value → zSt → Prop} {σ : zSt} (hV : zOk (zSp 7) (L, xs) mL_law 52 V (fun r _ => r = some (.int 1))) (hR : zRel σ) (hn : σ.2.2.2 = 52) (hp : p + 6 ≤ L) (hL : L ≤ 3072) (hnx : ∀ υ, zRel υ → υ.2.2.2 = 52 → V 1223 [(0, .ref zsc), (1, .ref 0), (2, .ref 30), (3, .int (nI p))] [] υ) : V 576 [(0, .ref zsc), (1, .ref 0), (2, .ref 30), (3, .int (nI p))] [] σ := by
  have hI := hR.1
  refine zq (σ := σ) hV hI hn 2 ?_
  show zSp _ 94 [.ref 0] σ (fun r_z σ' => σ'.2.2.2 = σ.2.2.2 + zAl 94 → V 580 [(0, .ref zsc), (1, .ref 0), (2, .ref 30), (3, .int (nI p))] (r_z.toList ++ []) σ')
  refine L_cheapest hR (fun rsu τ hIτ ans_z en => ?_)
  have hnτ : τ.2.2.2 = 52 := en.trans (by rw [hn]; rfl)
  refine zq (σ := τ) hV hIτ hnτ 2 ?_
  show zSp _ 164 [.ref 30] τ (fun r_z σ' => σ'.2.2.2 = τ.2.2.2 + zAl 164 → V 584 [(0, .ref zsc), (1, .ref 0), (2, .ref 30), (3, .int (nI p))] (r_z.toList ++ [.int rsu]) σ')
  refine ans_z _ (fun υ hR2 en2 => ?_)
  have hnυ : υ.2.2.2 = 52 := en2.trans (by rw [hnτ]; rfl)
  have hIυ := hR2.1
  refine zq (σ := υ) hV hIυ hnυ 1 ?_
  show (rsu = rsu → V 1223 [(0, .ref zsc), (1, .ref 0), (2, .ref 30), (3, .int (nI p))] [] υ) ∧ (¬ rsu = rsu → V 587 [(0, .ref zsc), (1, .ref 0), (2, .ref 30), (3, .int (nI p))] [] υ)
  refine ⟨fun _ => ?_, fun hc_z => absurd rfl hc_z⟩
  refine zwk hV [0, 1, 2, 3] rfl ?_
  exact hnx υ hR2 hnυ
set_option maxRecDepth 8000 in
set_option maxHeartbeats 4000000 in
theorem zcs_15 {L p : Nat} {xs : Nat → Int32} {V : Nat → zLo → List Value → zSt → Prop} {σ : zSt} (hV : zOk (zSp 7) (L, xs) mL_law 52 V (fun r _ => r = some (.int 1))) (hR : zRel σ) (hn : σ.2.2.2 = 52) (hp : p + 6 ≤ L) (hL : L ≤ 3072) (hnx : ∀ υ, zRel υ → υ.2.2.2 = 52 → V 1223 [(0, .ref zsc), (1, .ref 0), (2, .ref 30), (3, .int (nI p))] [] υ) : V 589 [(0, .ref zsc), (1, .ref 0), (2, .ref 30), (3, .int (nI p))] [] σ := by
  have hI := hR.1
  refine zq (σ := σ) hV hI hn 2 ?_
  show zSp _ 95 [.ref 0] σ (fun r_z σ' => σ'.2.2.2 = σ.2.2.2 + zAl 95 → V 593 [(0, .ref zsc), (1, .ref 0), (2, .ref 30), (3, .int (nI p))] (r_z.toList ++ []) σ')
  refine L_take hR (fun rsu τ hIτ ans_z en => ?_)
  have hnτ : τ.2.2.2 = 52 := en.trans (by rw [hn]; rfl)
  refine zq (σ := τ) hV hIτ hnτ 2 ?_
  show zSp _ 165 [.ref 30] τ (fun r_z σ' => σ'.2.2.2 = τ.2.2.2 + zAl 165 → V 597 [(0, .ref zsc), (1, .ref 0), (2, .ref 30), (3, .int (nI p))] (r_z.toList ++ [.int rsu]) σ')
  refine ans_z _ (fun υ hR2 en2 => ?_)
  have hnυ : υ.2.2.2 = 52 := en2.trans (by rw [hnτ]; rfl)
  have hIυ := hR2.1
  refine zq (σ := υ) hV hIυ hnυ 1 ?_
  show (rsu = rsu → V 1223 [(0, .ref zsc), (1, .ref 0), (2, .ref 30), (3, .int (nI p))] [] υ) ∧ (¬ rsu = rsu → V 600 [(0, .ref zsc), (1, .ref 0), (2, .ref 30), (3, .int (nI p))] [] υ)
  refine ⟨fun _ => ?_, fun hc_z => absurd rfl hc_z⟩
  refine zwk hV [0, 1, 2, 3] rfl ?_
  exact hnx υ hR2 hnυ
set_option maxRecDepth 8000 in
set_option maxHeartbeats 4000000 in
theorem zcs_16 {L p : Nat} {xs : Nat → Int32} {V : Nat → zLo → List Value → zSt → Prop} {σ : zSt} (hV : zOk (zSp 7) (L, xs) mL_law 52 V (fun r _ => r = some (.int 1))) (hR : zRel σ) (hn : σ.2.2.2 = 52) (hp : p + 6 ≤ L) (hL : L ≤ 3072) (hnx : ∀ υ, zRel υ → υ.2.2.2 = 52 → V 1223 [(0, .ref zsc), (1, .ref 0), (2, .ref 30), (3, .int (nI p))] [] υ) : V 602 [(0, .ref zsc), (1, .ref 0), (2, .ref 30), (3, .int (nI p))] [] σ := by
  have hI := hR.1
  refine zq (σ := σ) hV hI hn 5 ?_
  show V 607 [(0, .ref zsc), (1, .ref 0), (2, .ref 30), (3, .int (nI p))] [.int ((nI p) + 1), .ref zsc, .ref 0] σ
  refine zscl hV rfl (zix (k := (p + 1)) (zn_a (a := p) (b := 1) rfl rfl) (by omega) (by omega)) ?_
  show V 608 [(0, .ref zsc), (1, .ref 0), (2, .ref 30), (3, .int (nI p))] [.int (xs (Int32.toNatClampNeg ((nI p) + 1))), .ref 0] σ
  refine zq (σ := σ) hV hI hn 4 ?_
  show V 612 [(0, .ref zsc), (1, .ref 0), (2, .ref 30), (3, .int (nI p))] [.int ((nI p) + 2), .ref zsc, .int (xs (Int32.toNatClampNeg ((nI p) + 1))), .ref 0] σ
  refine zscl hV rfl (zix (k := (p + 2)) (zn_a (a := p) (b := 2) rfl rfl) (by omega) (by omega)) ?_
  show V 613 [(0, .ref zsc), (1, .ref 0), (2, .ref 30), (3, .int (nI p))] [.int (xs (Int32.toNatClampNeg ((nI p) + 2))), .int (xs (Int32.toNatClampNeg ((nI p) + 1))), .ref 0] σ
  refine zq (σ := σ) hV hI hn 4 ?_
  show V 617 [(0, .ref zsc), (1, .ref 0), (2, .ref 30), (3, .int (nI p))] [.int ((nI p) + 3), .ref zsc, .int (xs (Int32.toNatClampNeg ((nI p) + 2))), .int (xs (Int32.toNatClampNeg ((nI p) + 1))), .ref 0] σ
  refine zscl hV rfl (zix (k := (p + 3)) (zn_a (a := p) (b := 3) rfl rfl) (by omega) (by omega)) ?_
  show V 618 [(0, .ref zsc), (1, .ref 0), (2, .ref 30), (3, .int (nI p))] [.int (xs (Int32.toNatClampNeg ((nI p) + 3))), .int (xs (Int32.toNatClampNeg ((nI p) + 2))), .int (xs (Int32.toNatClampNeg ((nI p) + 1))), .ref 0] σ
  refine zq (σ := σ) hV hI hn 4 ?_
  show V 622 [(0, .ref zsc), (1, .ref 0), (2, .ref 30), (3, .int (nI p))] [.int ((nI p) + 4), .ref zsc, .int (xs (Int32.toNatClampNeg ((nI p) + 3))), .int (xs (Int32.toNatClampNeg ((nI p) + 2))), .int (xs (Int32.toNatClampNeg ((nI p) + 1))), .ref 0] σ
  refine zscl hV rfl (zix (k := (p + 4)) (zn_a (a := p) (b := 4) rfl rfl) (by omega) (by omega)) ?_
  show V 623 [(0, .ref zsc), (1, .ref 0), (2, .ref 30), (3, .int (nI p))] [.int (xs (Int32.toNatClampNeg ((nI p) + 4))), .int (xs (Int32.toNatClampNeg ((nI p) + 3))), .int (xs (Int32.toNatClampNeg ((nI p) + 2))), .int (xs (Int32.toNatClampNeg ((nI p) + 1))), .ref 0] σ
  refine zq (σ := σ) hV hI hn 1 ?_
  show zSp _ 96 [.ref 0, .int (xs (Int32.toNatClampNeg ((nI p) + 1))), .int (xs (Int32.toNatClampNeg ((nI p) + 2))), .int (xs (Int32.toNatClampNeg ((nI p) + 3))), .int (xs (Int32.toNatClampNeg ((nI p) + 4)))] σ (fun r_z σ' => σ'.2.2.2 = σ.2.2.2 + zAl 96 → V 626 [(0, .ref zsc), (1, .ref 0), (2, .ref 30), (3, .int (nI p))] (r_z.toList ++ []) σ')
  refine L_lifts hR (fun rsu τ hIτ ans_z en => ?_)
  have hnτ : τ.2.2.2 = 52 := en.trans (by rw [hn]; rfl)
  refine zq (σ := τ) hV hIτ hnτ 5 ?_
  show V 631 [(0, .ref zsc), (1, .ref 0), (2, .ref 30), (3, .int (nI p))] [.int ((nI p) + 1), .ref zsc, .ref 30, .int rsu] τ
  refine zscl hV rfl (zix (k := (p + 1)) (zn_a (a := p) (b := 1) rfl rfl) (by omega) (by omega)) ?_
  show V 632 [(0, .ref zsc), (1, .ref 0), (2, .ref 30), (3, .int (nI p))] [.int (xs (Int32.toNatClampNeg ((nI p) + 1))), .ref 30, .int rsu] τ
  refine zq (σ := τ) hV hIτ hnτ 4 ?_
  show V 636 [(0, .ref zsc), (1, .ref 0), (2, .ref 30), (3, .int (nI p))] [.int ((nI p) + 2), .ref zsc, .int (xs (Int32.toNatClampNeg ((nI p) + 1))), .ref 30, .int rsu] τ
  refine zscl hV rfl (zix (k := (p + 2)) (zn_a (a := p) (b := 2) rfl rfl) (by omega) (by omega)) ?_
  show V 637 [(0, .ref zsc), (1, .ref 0), (2, .ref 30), (3, .int (nI p))] [.int (xs (Int32.toNatClampNeg ((nI p) + 2))), .int (xs (Int32.toNatClampNeg ((nI p) + 1))), .ref 30, .int rsu] τ
  refine zq (σ := τ) hV hIτ hnτ 4 ?_
  show V 641 [(0, .ref zsc), (1, .ref 0), (2, .ref 30), (3, .int (nI p))] [.int ((nI p) + 3), .ref zsc, .int (xs (Int32.toNatClampNeg ((nI p) + 2))), .int (xs (Int32.toNatClampNeg ((nI p) + 1))), .ref 30, .int rsu] τ
  refine zscl hV rfl (zix (k := (p + 3)) (zn_a (a := p) (b := 3) rfl rfl) (by omega) (by omega)) ?_
  show V 642 [(0, .ref zsc), (1, .ref 0), (2, .ref 30), (3, .int (nI p))] [.int (xs (Int32.toNatClampNeg ((nI p) + 3))), .int (xs (Int32.toNatClampNeg ((nI p) + 2))), .int (xs (Int32.toNatClampNeg ((nI p) + 1))), .ref 30, .int rsu] τ
  refine zq (σ := τ) hV hIτ hnτ 4 ?_
  show V 646 [(0, .ref zsc), (1, .ref 0), (2, .ref 30), (3, .int (nI p))] [.int ((nI p) + 4), .ref zsc, .int (xs (Int32.toNatClampNeg ((nI p) + 3))), .int (xs (Int32.toNatClampNeg ((nI p) + 2))), .int (xs (Int32.toNatClampNeg ((nI p) + 1))), .ref 30, .int rsu] τ
  refine zscl hV rfl (zix (k := (p + 4)) (zn_a (a := p) (b := 4) rfl rfl) (by omega) (by omega)) ?_
  show V 647 [(0, .ref zsc), (1, .ref 0), (2, .ref 30), (3, .int (nI p))] [.int (xs (Int32.toNatClampNeg ((nI p) + 4))), .int (xs (Int32.toNatClampNeg ((nI p) + 3))), .int (xs (Int32.toNatClampNeg ((nI p) + 2))), .int (xs (Int32.toNatClampNeg ((nI p) + 1))), .ref 30, .int rsu] τ
  refine zq (σ := τ) hV hIτ hnτ 1 ?_
  show zSp _ 168 [.ref 30, .int (xs (Int32.toNatClampNeg ((nI p) + 1))), .int (xs (Int32.toNatClampNeg ((nI p) + 2))), .int (xs (Int32.toNatClampNeg ((nI p) + 3))), .int (xs (Int32.toNatClampNeg ((nI p) + 4)))] τ (fun r_z σ' => σ'.2.2.2 = τ.2.2.2 + zAl 168 → V 650 [(0, .ref zsc), (1, .ref 0), (2, .ref 30), (3, .int (nI p))] (r_z.toList ++ [.int rsu]) σ')
  refine ans_z _ (fun υ hR2 en2 => ?_)
  have hnυ : υ.2.2.2 = 52 := en2.trans (by rw [hnτ]; rfl)
  have hIυ := hR2.1
  refine zq (σ := υ) hV hIυ hnυ 1 ?_
  show (rsu = rsu → V 1223 [(0, .ref zsc), (1, .ref 0), (2, .ref 30), (3, .int (nI p))] [] υ) ∧ (¬ rsu = rsu → V 653 [(0, .ref zsc), (1, .ref 0), (2, .ref 30), (3, .int (nI p))] [] υ)
  refine ⟨fun _ => ?_, fun hc_z => absurd rfl hc_z⟩
  refine zwk hV [0, 1, 2, 3] rfl ?_
  exact hnx υ hR2 hnυ
set_option maxRecDepth 8000 in
set_option maxHeartbeats 4000000 in
theorem zcs_17 {L p : Nat} {xs : Nat → Int32} {V : Nat → zLo → List Value → zSt → Prop} {σ : zSt} (hV : zOk (zSp 7) (L, xs) mL_law 52 V (fun r _ => r = some (.int 1))) (hR : zRel σ) (hn : σ.2.2.2 = 52) (hp : p + 6 ≤ L) (hL : L ≤ 3072) (hnx : ∀ υ, zRel υ → υ.2.2.2 = 52 → V 1223 [(0, .ref zsc), (1, .ref 0), (2, .ref 30), (3, .int (nI p))] [] υ) : V 655 [(0, .ref zsc), (1, .ref 0), (2, .ref 30), (3, .int (nI p))] [] σ := by
  have hI := hR.1
  refine zq (σ := σ) hV hI hn 5 ?_
  show V 660 [(0, .ref zsc), (1, .ref 0), (2, .ref 30), (3, .int (nI p))] [.int ((nI p) + 1), .ref zsc, .ref 0] σ
  refine zscl hV rfl (zix (k := (p + 1)) (zn_a (a := p) (b := 1) rfl rfl) (by omega) (by omega)) ?_
  show V 661 [(0, .ref zsc), (1, .ref 0), (2, .ref 30), (3, .int (nI p))] [.int (xs (Int32.toNatClampNeg ((nI p) + 1))), .ref 0] σ
  refine zq (σ := σ) hV hI hn 4 ?_
  show V 665 [(0, .ref zsc), (1, .ref 0), (2, .ref 30), (3, .int (nI p))] [.int ((nI p) + 2), .ref zsc, .int (xs (Int32.toNatClampNeg ((nI p) + 1))), .ref 0] σ
  refine zscl hV rfl (zix (k := (p + 2)) (zn_a (a := p) (b := 2) rfl rfl) (by omega) (by omega)) ?_
  show V 666 [(0, .ref zsc), (1, .ref 0), (2, .ref 30), (3, .int (nI p))] [.int (xs (Int32.toNatClampNeg ((nI p) + 2))), .int (xs (Int32.toNatClampNeg ((nI p) + 1))), .ref 0] σ
  refine zq (σ := σ) hV hI hn 4 ?_
  show V 670 [(0, .ref zsc), (1, .ref 0), (2, .ref 30), (3, .int (nI p))] [.int ((nI p) + 3), .ref zsc, .int (xs (Int32.toNatClampNeg ((nI p) + 2))), .int (xs (Int32.toNatClampNeg ((nI p) + 1))), .ref 0] σ
  refine zscl hV rfl (zix (k := (p + 3)) (zn_a (a := p) (b := 3) rfl rfl) (by omega) (by omega)) ?_
  show V 671 [(0, .ref zsc), (1, .ref 0), (2, .ref 30), (3, .int (nI p))] [.int (xs (Int32.toNatClampNeg ((nI p) + 3))), .int (xs (Int32.toNatClampNeg ((nI p) + 2))), .int (xs (Int32.toNatClampNeg ((nI p) + 1))), .ref 0] σ
  refine zq (σ := σ) hV hI hn 1 ?_
  show zSp _ 97 [.ref 0, .int (xs (Int32.toNatClampNeg ((nI p) + 1))), .int (xs (Int32.toNatClampNeg ((nI p) + 2))), .int (xs (Int32.toNatClampNeg ((nI p) + 3)))] σ (fun r_z σ' => σ'.2.2.2 = σ.2.2.2 + zAl 97 → V 674 [(0, .ref zsc), (1, .ref 0), (2, .ref 30), (3, .int (nI p))] (r_z.toList ++ []) σ')
  refine L_seal hR (fun rsu τ hIτ ans_z en => ?_)
  have hnτ : τ.2.2.2 = 52 := en.trans (by rw [hn]; rfl)
  refine zq (σ := τ) hV hIτ hnτ 5 ?_
  show V 679 [(0, .ref zsc), (1, .ref 0), (2, .ref 30), (3, .int (nI p))] [.int ((nI p) + 1), .ref zsc, .ref 30, .int rsu] τ
  refine zscl hV rfl (zix (k := (p + 1)) (zn_a (a := p) (b := 1) rfl rfl) (by omega) (by omega)) ?_
  show V 680 [(0, .ref zsc), (1, .ref 0), (2, .ref 30), (3, .int (nI p))] [.int (xs (Int32.toNatClampNeg ((nI p) + 1))), .ref 30, .int rsu] τ
  refine zq (σ := τ) hV hIτ hnτ 4 ?_
  show V 684 [(0, .ref zsc), (1, .ref 0), (2, .ref 30), (3, .int (nI p))] [.int ((nI p) + 2), .ref zsc, .int (xs (Int32.toNatClampNeg ((nI p) + 1))), .ref 30, .int rsu] τ
  refine zscl hV rfl (zix (k := (p + 2)) (zn_a (a := p) (b := 2) rfl rfl) (by omega) (by omega)) ?_
  show V 685 [(0, .ref zsc), (1, .ref 0), (2, .ref 30), (3, .int (nI p))] [.int (xs (Int32.toNatClampNeg ((nI p) + 2))), .int (xs (Int32.toNatClampNeg ((nI p) + 1))), .ref 30, .int rsu] τ
  refine zq (σ := τ) hV hIτ hnτ 4 ?_
  show V 689 [(0, .ref zsc), (1, .ref 0), (2, .ref 30), (3, .int (nI p))] [.int ((nI p) + 3), .ref zsc, .int (xs (Int32.toNatClampNeg ((nI p) + 2))), .int (xs (Int32.toNatClampNeg ((nI p) + 1))), .ref 30, .int rsu] τ
  refine zscl hV rfl (zix (k := (p + 3)) (zn_a (a := p) (b := 3) rfl rfl) (by omega) (by omega)) ?_
  show V 690 [(0, .ref zsc), (1, .ref 0), (2, .ref 30), (3, .int (nI p))] [.int (xs (Int32.toNatClampNeg ((nI p) + 3))), .int (xs (Int32.toNatClampNeg ((nI p) + 2))), .int (xs (Int32.toNatClampNeg ((nI p) + 1))), .ref 30, .int rsu] τ
  refine zq (σ := τ) hV hIτ hnτ 1 ?_
  show zSp _ 169 [.ref 30, .int (xs (Int32.toNatClampNeg ((nI p) + 1))), .int (xs (Int32.toNatClampNeg ((nI p) + 2))), .int (xs (Int32.toNatClampNeg ((nI p) + 3)))] τ (fun r_z σ' => σ'.2.2.2 = τ.2.2.2 + zAl 169 → V 693 [(0, .ref zsc), (1, .ref 0), (2, .ref 30), (3, .int (nI p))] (r_z.toList ++ [.int rsu]) σ')
  refine ans_z _ (fun υ hR2 en2 => ?_)
  have hnυ : υ.2.2.2 = 52 := en2.trans (by rw [hnτ]; rfl)
  have hIυ := hR2.1
  refine zq (σ := υ) hV hIυ hnυ 1 ?_
  show (rsu = rsu → V 1223 [(0, .ref zsc), (1, .ref 0), (2, .ref 30), (3, .int (nI p))] [] υ) ∧ (¬ rsu = rsu → V 696 [(0, .ref zsc), (1, .ref 0), (2, .ref 30), (3, .int (nI p))] [] υ)
  refine ⟨fun _ => ?_, fun hc_z => absurd rfl hc_z⟩
  refine zwk hV [0, 1, 2, 3] rfl ?_
  exact hnx υ hR2 hnυ
set_option maxRecDepth 8000 in
set_option maxHeartbeats 4000000 in
theorem zcs_18 {L p : Nat} {xs : Nat → Int32} {V : Nat → zLo → List Value → zSt → Prop} {σ : zSt} (hV : zOk (zSp 7) (L, xs) mL_law 52 V (fun r _ => r = some (.int 1))) (hR : zRel σ) (hn : σ.2.2.2 = 52) (hp : p + 6 ≤ L) (hL : L ≤ 3072) (hnx : ∀ υ, zRel υ → υ.2.2.2 = 52 → V 1223 [(0, .ref zsc), (1, .ref 0), (2, .ref 30), (3, .int (nI p))] [] υ) : V 698 [(0, .ref zsc), (1, .ref 0), (2, .ref 30), (3, .int (nI p))] [] σ := by
  have hI := hR.1
  refine zq (σ := σ) hV hI hn 5 ?_
  show V 703 [(0, .ref zsc), (1, .ref 0), (2, .ref 30), (3, .int (nI p))] [.int ((nI p) + 1), .ref zsc, .ref 0] σ
  refine zscl hV rfl (zix (k := (p + 1)) (zn_a (a := p) (b := 1) rfl rfl) (by omega) (by omega)) ?_
  show V 704 [(0, .ref zsc), (1, .ref 0), (2, .ref 30), (3, .int (nI p))] [.int (xs (Int32.toNatClampNeg ((nI p) + 1))), .ref 0] σ
  refine zq (σ := σ) hV hI hn 4 ?_
  show V 708 [(0, .ref zsc), (1, .ref 0), (2, .ref 30), (3, .int (nI p))] [.int ((nI p) + 2), .ref zsc, .int (xs (Int32.toNatClampNeg ((nI p) + 1))), .ref 0] σ
  refine zscl hV rfl (zix (k := (p + 2)) (zn_a (a := p) (b := 2) rfl rfl) (by omega) (by omega)) ?_
  show V 709 [(0, .ref zsc), (1, .ref 0), (2, .ref 30), (3, .int (nI p))] [.int (xs (Int32.toNatClampNeg ((nI p) + 2))), .int (xs (Int32.toNatClampNeg ((nI p) + 1))), .ref 0] σ
  refine zq (σ := σ) hV hI hn 1 ?_
  show zSp _ 98 [.ref 0, .int (xs (Int32.toNatClampNeg ((nI p) + 1))), .int (xs (Int32.toNatClampNeg ((nI p) + 2)))] σ (fun r_z σ' => σ'.2.2.2 = σ.2.2.2 + zAl 98 → V 712 [(0, .ref zsc), (1, .ref 0), (2, .ref 30), (3, .int (nI p))] (r_z.toList ++ []) σ')
  refine L_probe hR (fun rsu τ hIτ ans_z en => ?_)
  have hnτ : τ.2.2.2 = 52 := en.trans (by rw [hn]; rfl)
  refine zq (σ := τ) hV hIτ hnτ 5 ?_
  show V 717 [(0, .ref zsc), (1, .ref 0), (2, .ref 30), (3, .int (nI p))] [.int ((nI p) + 1), .ref zsc, .ref 30, .int rsu] τ
  refine zscl hV rfl (zix (k := (p + 1)) (zn_a (a := p) (b := 1) rfl rfl) (by omega) (by omega)) ?_
  show V 718 [(0, .ref zsc), (1, .ref 0), (2, .ref 30), (3, .int (nI p))] [.int (xs (Int32.toNatClampNeg ((nI p) + 1))), .ref 30, .int rsu] τ
  refine zq (σ := τ) hV hIτ hnτ 4 ?_
  show V 722 [(0, .ref zsc), (1, .ref 0), (2, .ref 30), (3, .int (nI p))] [.int ((nI p) + 2), .ref zsc, .int (xs (Int32.toNatClampNeg ((nI p) + 1))), .ref 30, .int rsu] τ
  refine zscl hV rfl (zix (k := (p + 2)) (zn_a (a := p) (b := 2) rfl rfl) (by omega) (by omega)) ?_
  show V 723 [(0, .ref zsc), (1, .ref 0), (2, .ref 30), (3, .int (nI p))] [.int (xs (Int32.toNatClampNeg ((nI p) + 2))), .int (xs (Int32.toNatClampNeg ((nI p) + 1))), .ref 30, .int rsu] τ
  refine zq (σ := τ) hV hIτ hnτ 1 ?_
  show zSp _ 170 [.ref 30, .int (xs (Int32.toNatClampNeg ((nI p) + 1))), .int (xs (Int32.toNatClampNeg ((nI p) + 2)))] τ (fun r_z σ' => σ'.2.2.2 = τ.2.2.2 + zAl 170 → V 726 [(0, .ref zsc), (1, .ref 0), (2, .ref 30), (3, .int (nI p))] (r_z.toList ++ [.int rsu]) σ')
  refine ans_z _ (fun υ hR2 en2 => ?_)
  have hnυ : υ.2.2.2 = 52 := en2.trans (by rw [hnτ]; rfl)
  have hIυ := hR2.1
  refine zq (σ := υ) hV hIυ hnυ 1 ?_
  show (rsu = rsu → V 1223 [(0, .ref zsc), (1, .ref 0), (2, .ref 30), (3, .int (nI p))] [] υ) ∧ (¬ rsu = rsu → V 729 [(0, .ref zsc), (1, .ref 0), (2, .ref 30), (3, .int (nI p))] [] υ)
  refine ⟨fun _ => ?_, fun hc_z => absurd rfl hc_z⟩
  refine zwk hV [0, 1, 2, 3] rfl ?_
  exact hnx υ hR2 hnυ
set_option maxRecDepth 8000 in
set_option maxHeartbeats 4000000 in
theorem zcs_19 {L p : Nat} {xs : Nat → Int32} {V : Nat → zLo → List Value → zSt → Prop} {σ : zSt} (hV : zOk (zSp 7) (L, xs) mL_law 52 V (fun r _ => r = some (.int 1))) (hR : zRel σ) (hn : σ.2.2.2 = 52) (hp : p + 6 ≤ L) (hL : L ≤ 3072) (hnx : ∀ υ, zRel υ → υ.2.2.2 = 52 → V 1223 [(0, .ref zsc), (1, .ref 0), (2, .ref 30), (3, .int (nI p))] [] υ) : V 731 [(0, .ref zsc), (1, .ref 0), (2, .ref 30), (3, .int (nI p))] [] σ := by
  have hI := hR.1
  refine zq (σ := σ) hV hI hn 2 ?_
  show zSp _ 99 [.ref 0] σ (fun r_z σ' => σ'.2.2.2 = σ.2.2.2 + zAl 99 → V 735 [(0, .ref zsc), (1, .ref 0), (2, .ref 30), (3, .int (nI p))] (r_z.toList ++ []) σ')
  refine L_poses hR (fun rsu τ hIτ ans_z en => ?_)
  have hnτ : τ.2.2.2 = 52 := en.trans (by rw [hn]; rfl)
  refine zq (σ := τ) hV hIτ hnτ 2 ?_
  show zSp _ 172 [.ref 30] τ (fun r_z σ' => σ'.2.2.2 = τ.2.2.2 + zAl 172 → V 739 [(0, .ref zsc), (1, .ref 0), (2, .ref 30), (3, .int (nI p))] (r_z.toList ++ [.int rsu]) σ')
  refine ans_z _ (fun υ hR2 en2 => ?_)
  have hnυ : υ.2.2.2 = 52 := en2.trans (by rw [hnτ]; rfl)
  have hIυ := hR2.1
  refine zq (σ := υ) hV hIυ hnυ 1 ?_
  show (rsu = rsu → V 1223 [(0, .ref zsc), (1, .ref 0), (2, .ref 30), (3, .int (nI p))] [] υ) ∧ (¬ rsu = rsu → V 742 [(0, .ref zsc), (1, .ref 0), (2, .ref 30), (3, .int (nI p))] [] υ)
  refine ⟨fun _ => ?_, fun hc_z => absurd rfl hc_z⟩
  refine zwk hV [0, 1, 2, 3] rfl ?_
  exact hnx υ hR2 hnυ
set_option maxRecDepth 8000 in
set_option maxHeartbeats 4000000 in
theorem zcs_20 {L p : Nat} {xs : Nat → Int32} {V : Nat → zLo → List Value → zSt → Prop} {σ : zSt} (hV : zOk (zSp 7) (L, xs) mL_law 52 V (fun r _ => r = some (.int 1))) (hR : zRel σ) (hn : σ.2.2.2 = 52) (hp : p + 6 ≤ L) (hL : L ≤ 3072) (hnx : ∀ υ, zRel υ → υ.2.2.2 = 52 → V 1223 [(0, .ref zsc), (1, .ref 0), (2, .ref 30), (3, .int (nI p))] [] υ) : V 744 [(0, .ref zsc), (1, .ref 0), (2, .ref 30), (3, .int (nI p))] [] σ := by
  have hI := hR.1
  refine zq (σ := σ) hV hI hn 5 ?_
  show V 749 [(0, .ref zsc), (1, .ref 0), (2, .ref 30), (3, .int (nI p))] [.int ((nI p) + 1), .ref zsc, .ref 0] σ
  refine zscl hV rfl (zix (k := (p + 1)) (zn_a (a := p) (b := 1) rfl rfl) (by omega) (by omega)) ?_
  show V 750 [(0, .ref zsc), (1, .ref 0), (2, .ref 30), (3, .int (nI p))] [.int (xs (Int32.toNatClampNeg ((nI p) + 1))), .ref 0] σ
  refine zq (σ := σ) hV hI hn 1 ?_
  show zSp _ 100 [.ref 0, .int (xs (Int32.toNatClampNeg ((nI p) + 1)))] σ (fun r_z σ' => σ'.2.2.2 = σ.2.2.2 + zAl 100 → V 753 [(0, .ref zsc), (1, .ref 0), (2, .ref 30), (3, .int (nI p))] (r_z.toList ++ []) σ')
  refine L_pose hR (fun rsu τ hIτ ans_z en => ?_)
  have hnτ : τ.2.2.2 = 52 := en.trans (by rw [hn]; rfl)
  refine zq (σ := τ) hV hIτ hnτ 5 ?_
  show V 758 [(0, .ref zsc), (1, .ref 0), (2, .ref 30), (3, .int (nI p))] [.int ((nI p) + 1), .ref zsc, .ref 30, .int rsu] τ
  refine zscl hV rfl (zix (k := (p + 1)) (zn_a (a := p) (b := 1) rfl rfl) (by omega) (by omega)) ?_
  show V 759 [(0, .ref zsc), (1, .ref 0), (2, .ref 30), (3, .int (nI p))] [.int (xs (Int32.toNatClampNeg ((nI p) + 1))), .ref 30, .int rsu] τ
  refine zq (σ := τ) hV hIτ hnτ 1 ?_
  show zSp _ 173 [.ref 30, .int (xs (Int32.toNatClampNeg ((nI p) + 1)))] τ (fun r_z σ' => σ'.2.2.2 = τ.2.2.2 + zAl 173 → V 762 [(0, .ref zsc), (1, .ref 0), (2, .ref 30), (3, .int (nI p))] (r_z.toList ++ [.int rsu]) σ')
  refine ans_z _ (fun υ hR2 en2 => ?_)
  have hnυ : υ.2.2.2 = 52 := en2.trans (by rw [hnτ]; rfl)
  have hIυ := hR2.1
  refine zq (σ := υ) hV hIυ hnυ 1 ?_
  show (rsu = rsu → V 1223 [(0, .ref zsc), (1, .ref 0), (2, .ref 30), (3, .int (nI p))] [] υ) ∧ (¬ rsu = rsu → V 765 [(0, .ref zsc), (1, .ref 0), (2, .ref 30), (3, .int (nI p))] [] υ)
  refine ⟨fun _ => ?_, fun hc_z => absurd rfl hc_z⟩
  refine zwk hV [0, 1, 2, 3] rfl ?_
  exact hnx υ hR2 hnυ
set_option maxRecDepth 8000 in
set_option maxHeartbeats 4000000 in
theorem zcs_21 {L p : Nat} {xs : Nat → Int32} {V : Nat → zLo → List Value → zSt → Prop} {σ : zSt} (hV : zOk (zSp 7) (L, xs) mL_law 52 V (fun r _ => r = some (.int 1))) (hR : zRel σ) (hn : σ.2.2.2 = 52) (hp : p + 6 ≤ L) (hL : L ≤ 3072) (hnx : ∀ υ, zRel υ → υ.2.2.2 = 52 → V 1223 [(0, .ref zsc), (1, .ref 0), (2, .ref 30), (3, .int (nI p))] [] υ) : V 767 [(0, .ref zsc), (1, .ref 0), (2, .ref 30), (3, .int (nI p))] [] σ := by
  have hI := hR.1
  refine zq (σ := σ) hV hI hn 2 ?_
  show zSp _ 102 [.ref 0] σ (fun r_z σ' => σ'.2.2.2 = σ.2.2.2 + zAl 102 → V 771 [(0, .ref zsc), (1, .ref 0), (2, .ref 30), (3, .int (nI p))] (r_z.toList ++ []) σ')
  refine L_grip hR (fun rsu τ hIτ ans_z en => ?_)
  have hnτ : τ.2.2.2 = 52 := en.trans (by rw [hn]; rfl)
  refine zq (σ := τ) hV hIτ hnτ 2 ?_
  show zSp _ 174 [.ref 30] τ (fun r_z σ' => σ'.2.2.2 = τ.2.2.2 + zAl 174 → V 775 [(0, .ref zsc), (1, .ref 0), (2, .ref 30), (3, .int (nI p))] (r_z.toList ++ [.int rsu]) σ')
  refine ans_z _ (fun υ hR2 en2 => ?_)
  have hnυ : υ.2.2.2 = 52 := en2.trans (by rw [hnτ]; rfl)
  have hIυ := hR2.1
  refine zq (σ := υ) hV hIυ hnυ 1 ?_
  show (rsu = rsu → V 1223 [(0, .ref zsc), (1, .ref 0), (2, .ref 30), (3, .int (nI p))] [] υ) ∧ (¬ rsu = rsu → V 778 [(0, .ref zsc), (1, .ref 0), (2, .ref 30), (3, .int (nI p))] [] υ)
  refine ⟨fun _ => ?_, fun hc_z => absurd rfl hc_z⟩
  refine zwk hV [0, 1, 2, 3] rfl ?_
  exact hnx υ hR2 hnυ
set_option maxRecDepth 8000 in
set_option maxHeartbeats 4000000 in
theorem zcs_22 {L p : Nat} {xs : Nat → Int32} {V : Nat → zLo → List Value → zSt → Prop} {σ : zSt} (hV : zOk (zSp 7) (L, xs) mL_law 52 V (fun r _ => r = some (.int 1))) (hR : zRel σ) (hn : σ.2.2.2 = 52) (hp : p + 6 ≤ L) (hL : L ≤ 3072) (hnx : ∀ υ, zRel υ → υ.2.2.2 = 52 → V 1223 [(0, .ref zsc), (1, .ref 0), (2, .ref 30), (3, .int (nI p))] [] υ) : V 780 [(0, .ref zsc), (1, .ref 0), (2, .ref 30), (3, .int (nI p))] [] σ := by
  have hI := hR.1
  refine zq (σ := σ) hV hI hn 5 ?_
  show V 785 [(0, .ref zsc), (1, .ref 0), (2, .ref 30), (3, .int (nI p))] [.int ((nI p) + 1), .ref zsc, .ref 0] σ
  refine zscl hV rfl (zix (k := (p + 1)) (zn_a (a := p) (b := 1) rfl rfl) (by omega) (by omega)) ?_
  show V 786 [(0, .ref zsc), (1, .ref 0), (2, .ref 30), (3, .int (nI p))] [.int (xs (Int32.toNatClampNeg ((nI p) + 1))), .ref 0] σ
  refine zq (σ := σ) hV hI hn 4 ?_
  show V 790 [(0, .ref zsc), (1, .ref 0), (2, .ref 30), (3, .int (nI p))] [.int ((nI p) + 2), .ref zsc, .int (xs (Int32.toNatClampNeg ((nI p) + 1))), .ref 0] σ
  refine zscl hV rfl (zix (k := (p + 2)) (zn_a (a := p) (b := 2) rfl rfl) (by omega) (by omega)) ?_
  show V 791 [(0, .ref zsc), (1, .ref 0), (2, .ref 30), (3, .int (nI p))] [.int (xs (Int32.toNatClampNeg ((nI p) + 2))), .int (xs (Int32.toNatClampNeg ((nI p) + 1))), .ref 0] σ
  refine zq (σ := σ) hV hI hn 4 ?_
  show V 795 [(0, .ref zsc), (1, .ref 0), (2, .ref 30), (3, .int (nI p))] [.int ((nI p) + 3), .ref zsc, .int (xs (Int32.toNatClampNeg ((nI p) + 2))), .int (xs (Int32.toNatClampNeg ((nI p) + 1))), .ref 0] σ
  refine zscl hV rfl (zix (k := (p + 3)) (zn_a (a := p) (b := 3) rfl rfl) (by omega) (by omega)) ?_
  show V 796 [(0, .ref zsc), (1, .ref 0), (2, .ref 30), (3, .int (nI p))] [.int (xs (Int32.toNatClampNeg ((nI p) + 3))), .int (xs (Int32.toNatClampNeg ((nI p) + 2))), .int (xs (Int32.toNatClampNeg ((nI p) + 1))), .ref 0] σ
  refine zq (σ := σ) hV hI hn 1 ?_
  show zSp _ 103 [.ref 0, .int (xs (Int32.toNatClampNeg ((nI p) + 1))), .int (xs (Int32.toNatClampNeg ((nI p) + 2))), .int (xs (Int32.toNatClampNeg ((nI p) + 3)))] σ (fun r_z σ' => σ'.2.2.2 = σ.2.2.2 + zAl 103 → V 799 [(0, .ref zsc), (1, .ref 0), (2, .ref 30), (3, .int (nI p))] (r_z.toList ++ []) σ')
  refine L_link hR (fun rsu τ hIτ ans_z en => ?_)
  have hnτ : τ.2.2.2 = 52 := en.trans (by rw [hn]; rfl)
  refine zq (σ := τ) hV hIτ hnτ 5 ?_
  show V 804 [(0, .ref zsc), (1, .ref 0), (2, .ref 30), (3, .int (nI p))] [.int ((nI p) + 1), .ref zsc, .ref 30, .int rsu] τ
  refine zscl hV rfl (zix (k := (p + 1)) (zn_a (a := p) (b := 1) rfl rfl) (by omega) (by omega)) ?_
  show V 805 [(0, .ref zsc), (1, .ref 0), (2, .ref 30), (3, .int (nI p))] [.int (xs (Int32.toNatClampNeg ((nI p) + 1))), .ref 30, .int rsu] τ
  refine zq (σ := τ) hV hIτ hnτ 4 ?_
  show V 809 [(0, .ref zsc), (1, .ref 0), (2, .ref 30), (3, .int (nI p))] [.int ((nI p) + 2), .ref zsc, .int (xs (Int32.toNatClampNeg ((nI p) + 1))), .ref 30, .int rsu] τ
  refine zscl hV rfl (zix (k := (p + 2)) (zn_a (a := p) (b := 2) rfl rfl) (by omega) (by omega)) ?_
  show V 810 [(0, .ref zsc), (1, .ref 0), (2, .ref 30), (3, .int (nI p))] [.int (xs (Int32.toNatClampNeg ((nI p) + 2))), .int (xs (Int32.toNatClampNeg ((nI p) + 1))), .ref 30, .int rsu] τ
  refine zq (σ := τ) hV hIτ hnτ 4 ?_
  show V 814 [(0, .ref zsc), (1, .ref 0), (2, .ref 30), (3, .int (nI p))] [.int ((nI p) + 3), .ref zsc, .int (xs (Int32.toNatClampNeg ((nI p) + 2))), .int (xs (Int32.toNatClampNeg ((nI p) + 1))), .ref 30, .int rsu] τ
  refine zscl hV rfl (zix (k := (p + 3)) (zn_a (a := p) (b := 3) rfl rfl) (by omega) (by omega)) ?_
  show V 815 [(0, .ref zsc), (1, .ref 0), (2, .ref 30), (3, .int (nI p))] [.int (xs (Int32.toNatClampNeg ((nI p) + 3))), .int (xs (Int32.toNatClampNeg ((nI p) + 2))), .int (xs (Int32.toNatClampNeg ((nI p) + 1))), .ref 30, .int rsu] τ
  refine zq (σ := τ) hV hIτ hnτ 1 ?_
  show zSp _ 176 [.ref 30, .int (xs (Int32.toNatClampNeg ((nI p) + 1))), .int (xs (Int32.toNatClampNeg ((nI p) + 2))), .int (xs (Int32.toNatClampNeg ((nI p) + 3)))] τ (fun r_z σ' => σ'.2.2.2 = τ.2.2.2 + zAl 176 → V 818 [(0, .ref zsc), (1, .ref 0), (2, .ref 30), (3, .int (nI p))] (r_z.toList ++ [.int rsu]) σ')
  refine ans_z _ (fun υ hR2 en2 => ?_)
  have hnυ : υ.2.2.2 = 52 := en2.trans (by rw [hnτ]; rfl)
  have hIυ := hR2.1
  refine zq (σ := υ) hV hIυ hnυ 1 ?_
  show (rsu = rsu → V 1223 [(0, .ref zsc), (1, .ref 0), (2, .ref 30), (3, .int (nI p))] [] υ) ∧ (¬ rsu = rsu → V 821 [(0, .ref zsc), (1, .ref 0), (2, .ref 30), (3, .int (nI p))] [] υ)
  refine ⟨fun _ => ?_, fun hc_z => absurd rfl hc_z⟩
  refine zwk hV [0, 1, 2, 3] rfl ?_
  exact hnx υ hR2 hnυ
set_option maxRecDepth 8000 in
set_option maxHeartbeats 4000000 in
theorem zcs_23 {L p : Nat} {xs : Nat → Int32} {V : Nat → zLo → List Value → zSt → Prop} {σ : zSt} (hV : zOk (zSp 7) (L, xs) mL_law 52 V (fun r _ => r = some (.int 1))) (hR : zRel σ) (hn : σ.2.2.2 = 52) (hp : p + 6 ≤ L) (hL : L ≤ 3072) (hnx : ∀ υ, zRel υ → υ.2.2.2 = 52 → V 1223 [(0, .ref zsc), (1, .ref 0), (2, .ref 30), (3, .int (nI p))] [] υ) : V 823 [(0, .ref zsc), (1, .ref 0), (2, .ref 30), (3, .int (nI p))] [] σ := by
  have hI := hR.1
  refine zq (σ := σ) hV hI hn 5 ?_
  show V 828 [(0, .ref zsc), (1, .ref 0), (2, .ref 30), (3, .int (nI p))] [.int ((nI p) + 1), .ref zsc, .ref 0] σ
  refine zscl hV rfl (zix (k := (p + 1)) (zn_a (a := p) (b := 1) rfl rfl) (by omega) (by omega)) ?_
  show V 829 [(0, .ref zsc), (1, .ref 0), (2, .ref 30), (3, .int (nI p))] [.int (xs (Int32.toNatClampNeg ((nI p) + 1))), .ref 0] σ
  refine zq (σ := σ) hV hI hn 4 ?_
  show V 833 [(0, .ref zsc), (1, .ref 0), (2, .ref 30), (3, .int (nI p))] [.int ((nI p) + 2), .ref zsc, .int (xs (Int32.toNatClampNeg ((nI p) + 1))), .ref 0] σ
  refine zscl hV rfl (zix (k := (p + 2)) (zn_a (a := p) (b := 2) rfl rfl) (by omega) (by omega)) ?_
  show V 834 [(0, .ref zsc), (1, .ref 0), (2, .ref 30), (3, .int (nI p))] [.int (xs (Int32.toNatClampNeg ((nI p) + 2))), .int (xs (Int32.toNatClampNeg ((nI p) + 1))), .ref 0] σ
  refine zq (σ := σ) hV hI hn 1 ?_
  show zSp _ 104 [.ref 0, .int (xs (Int32.toNatClampNeg ((nI p) + 1))), .int (xs (Int32.toNatClampNeg ((nI p) + 2)))] σ (fun r_z σ' => σ'.2.2.2 = σ.2.2.2 + zAl 104 → V 837 [(0, .ref zsc), (1, .ref 0), (2, .ref 30), (3, .int (nI p))] (r_z.toList ++ []) σ')
  refine L_way hR (fun rsu τ hIτ ans_z en => ?_)
  have hnτ : τ.2.2.2 = 52 := en.trans (by rw [hn]; rfl)
  refine zq (σ := τ) hV hIτ hnτ 5 ?_
  show V 842 [(0, .ref zsc), (1, .ref 0), (2, .ref 30), (3, .int (nI p))] [.int ((nI p) + 1), .ref zsc, .ref 30, .int rsu] τ
  refine zscl hV rfl (zix (k := (p + 1)) (zn_a (a := p) (b := 1) rfl rfl) (by omega) (by omega)) ?_
  show V 843 [(0, .ref zsc), (1, .ref 0), (2, .ref 30), (3, .int (nI p))] [.int (xs (Int32.toNatClampNeg ((nI p) + 1))), .ref 30, .int rsu] τ
  refine zq (σ := τ) hV hIτ hnτ 4 ?_
  show V 847 [(0, .ref zsc), (1, .ref 0), (2, .ref 30), (3, .int (nI p))] [.int ((nI p) + 2), .ref zsc, .int (xs (Int32.toNatClampNeg ((nI p) + 1))), .ref 30, .int rsu] τ
  refine zscl hV rfl (zix (k := (p + 2)) (zn_a (a := p) (b := 2) rfl rfl) (by omega) (by omega)) ?_
  show V 848 [(0, .ref zsc), (1, .ref 0), (2, .ref 30), (3, .int (nI p))] [.int (xs (Int32.toNatClampNeg ((nI p) + 2))), .int (xs (Int32.toNatClampNeg ((nI p) + 1))), .ref 30, .int rsu] τ
  refine zq (σ := τ) hV hIτ hnτ 1 ?_
  show zSp _ 177 [.ref 30, .int (xs (Int32.toNatClampNeg ((nI p) + 1))), .int (xs (Int32.toNatClampNeg ((nI p) + 2)))] τ (fun r_z σ' => σ'.2.2.2 = τ.2.2.2 + zAl 177 → V 851 [(0, .ref zsc), (1, .ref 0), (2, .ref 30), (3, .int (nI p))] (r_z.toList ++ [.int rsu]) σ')
  refine ans_z _ (fun υ hR2 en2 => ?_)
  have hnυ : υ.2.2.2 = 52 := en2.trans (by rw [hnτ]; rfl)
  have hIυ := hR2.1
  refine zq (σ := υ) hV hIυ hnυ 1 ?_
  show (rsu = rsu → V 1223 [(0, .ref zsc), (1, .ref 0), (2, .ref 30), (3, .int (nI p))] [] υ) ∧ (¬ rsu = rsu → V 854 [(0, .ref zsc), (1, .ref 0), (2, .ref 30), (3, .int (nI p))] [] υ)
  refine ⟨fun _ => ?_, fun hc_z => absurd rfl hc_z⟩
  refine zwk hV [0, 1, 2, 3] rfl ?_
  exact hnx υ hR2 hnυ
set_option maxRecDepth 8000 in
set_option maxHeartbeats 4000000 in
theorem zcs_24 {L p : Nat} {xs : Nat → Int32} {V : Nat → zLo → List Value → zSt → Prop} {σ : zSt} (hV : zOk (zSp 7) (L, xs) mL_law 52 V (fun r _ => r = some (.int 1))) (hR : zRel σ) (hn : σ.2.2.2 = 52) (hp : p + 6 ≤ L) (hL : L ≤ 3072) (hnx : ∀ υ, zRel υ → υ.2.2.2 = 52 → V 1223 [(0, .ref zsc), (1, .ref 0), (2, .ref 30), (3, .int (nI p))] [] υ) : V 856 [(0, .ref zsc), (1, .ref 0), (2, .ref 30), (3, .int (nI p))] [] σ := by
  have hI := hR.1
  refine zq (σ := σ) hV hI hn 2 ?_
  show zSp _ 105 [.ref 0] σ (fun r_z σ' => σ'.2.2.2 = σ.2.2.2 + zAl 105 → V 860 [(0, .ref zsc), (1, .ref 0), (2, .ref 30), (3, .int (nI p))] (r_z.toList ++ []) σ')
  refine L_drop hR (fun rsu τ hIτ ans_z en => ?_)
  have hnτ : τ.2.2.2 = 52 := en.trans (by rw [hn]; rfl)
  refine zq (σ := τ) hV hIτ hnτ 2 ?_
  show zSp _ 178 [.ref 30] τ (fun r_z σ' => σ'.2.2.2 = τ.2.2.2 + zAl 178 → V 864 [(0, .ref zsc), (1, .ref 0), (2, .ref 30), (3, .int (nI p))] (r_z.toList ++ [.int rsu]) σ')
  refine ans_z _ (fun υ hR2 en2 => ?_)
  have hnυ : υ.2.2.2 = 52 := en2.trans (by rw [hnτ]; rfl)
  have hIυ := hR2.1
  refine zq (σ := υ) hV hIυ hnυ 1 ?_
  show (rsu = rsu → V 1223 [(0, .ref zsc), (1, .ref 0), (2, .ref 30), (3, .int (nI p))] [] υ) ∧ (¬ rsu = rsu → V 867 [(0, .ref zsc), (1, .ref 0), (2, .ref 30), (3, .int (nI p))] [] υ)
  refine ⟨fun _ => ?_, fun hc_z => absurd rfl hc_z⟩
  refine zwk hV [0, 1, 2, 3] rfl ?_
  exact hnx υ hR2 hnυ
set_option maxRecDepth 8000 in
set_option maxHeartbeats 4000000 in
theorem zcs_25 {L p : Nat} {xs : Nat → Int32} {V : Nat → zLo → List Value → zSt → Prop} {σ : zSt} (hV : zOk (zSp 7) (L, xs) mL_law 52 V (fun r _ => r = some (.int 1))) (hR : zRel σ) (hn : σ.2.2.2 = 52) (hp : p + 6 ≤ L) (hL : L ≤ 3072) (hnx : ∀ υ, zRel υ → υ.2.2.2 = 52 → V 1223 [(0, .ref zsc), (1, .ref 0), (2, .ref 30), (3, .int (nI p))] [] υ) : V 869 [(0, .ref zsc), (1, .ref 0), (2, .ref 30), (3, .int (nI p))] [] σ := by
  have hI := hR.1
  refine zq (σ := σ) hV hI hn 5 ?_
  show V 874 [(0, .ref zsc), (1, .ref 0), (2, .ref 30), (3, .int (nI p))] [.int ((nI p) + 1), .ref zsc, .ref 0] σ
  refine zscl hV rfl (zix (k := (p + 1)) (zn_a (a := p) (b := 1) rfl rfl) (by omega) (by omega)) ?_
  show V 875 [(0, .ref zsc), (1, .ref 0), (2, .ref 30), (3, .int (nI p))] [.int (xs (Int32.toNatClampNeg ((nI p) + 1))), .ref 0] σ
  refine zq (σ := σ) hV hI hn 4 ?_
  show V 879 [(0, .ref zsc), (1, .ref 0), (2, .ref 30), (3, .int (nI p))] [.int ((nI p) + 2), .ref zsc, .int (xs (Int32.toNatClampNeg ((nI p) + 1))), .ref 0] σ
  refine zscl hV rfl (zix (k := (p + 2)) (zn_a (a := p) (b := 2) rfl rfl) (by omega) (by omega)) ?_
  show V 880 [(0, .ref zsc), (1, .ref 0), (2, .ref 30), (3, .int (nI p))] [.int (xs (Int32.toNatClampNeg ((nI p) + 2))), .int (xs (Int32.toNatClampNeg ((nI p) + 1))), .ref 0] σ
  refine zq (σ := σ) hV hI hn 1 ?_
  show zSp _ 106 [.ref 0, .int (xs (Int32.toNatClampNeg ((nI p) + 1))), .int (xs (Int32.toNatClampNeg ((nI p) + 2)))] σ (fun r_z σ' => σ'.2.2.2 = σ.2.2.2 + zAl 106 → V 883 [(0, .ref zsc), (1, .ref 0), (2, .ref 30), (3, .int (nI p))] (r_z.toList ++ []) σ')
  refine L_on hR (fun rsu τ hIτ ans_z en => ?_)
  have hnτ : τ.2.2.2 = 52 := en.trans (by rw [hn]; rfl)
  refine zq (σ := τ) hV hIτ hnτ 5 ?_
  show V 888 [(0, .ref zsc), (1, .ref 0), (2, .ref 30), (3, .int (nI p))] [.int ((nI p) + 1), .ref zsc, .ref 30, .int rsu] τ
  refine zscl hV rfl (zix (k := (p + 1)) (zn_a (a := p) (b := 1) rfl rfl) (by omega) (by omega)) ?_
  show V 889 [(0, .ref zsc), (1, .ref 0), (2, .ref 30), (3, .int (nI p))] [.int (xs (Int32.toNatClampNeg ((nI p) + 1))), .ref 30, .int rsu] τ
  refine zq (σ := τ) hV hIτ hnτ 4 ?_
  show V 893 [(0, .ref zsc), (1, .ref 0), (2, .ref 30), (3, .int (nI p))] [.int ((nI p) + 2), .ref zsc, .int (xs (Int32.toNatClampNeg ((nI p) + 1))), .ref 30, .int rsu] τ
  refine zscl hV rfl (zix (k := (p + 2)) (zn_a (a := p) (b := 2) rfl rfl) (by omega) (by omega)) ?_
  show V 894 [(0, .ref zsc), (1, .ref 0), (2, .ref 30), (3, .int (nI p))] [.int (xs (Int32.toNatClampNeg ((nI p) + 2))), .int (xs (Int32.toNatClampNeg ((nI p) + 1))), .ref 30, .int rsu] τ
  refine zq (σ := τ) hV hIτ hnτ 1 ?_
  show zSp _ 180 [.ref 30, .int (xs (Int32.toNatClampNeg ((nI p) + 1))), .int (xs (Int32.toNatClampNeg ((nI p) + 2)))] τ (fun r_z σ' => σ'.2.2.2 = τ.2.2.2 + zAl 180 → V 897 [(0, .ref zsc), (1, .ref 0), (2, .ref 30), (3, .int (nI p))] (r_z.toList ++ [.int rsu]) σ')
  refine ans_z _ (fun υ hR2 en2 => ?_)
  have hnυ : υ.2.2.2 = 52 := en2.trans (by rw [hnτ]; rfl)
  have hIυ := hR2.1
  refine zq (σ := υ) hV hIυ hnυ 1 ?_
  show (rsu = rsu → V 1223 [(0, .ref zsc), (1, .ref 0), (2, .ref 30), (3, .int (nI p))] [] υ) ∧ (¬ rsu = rsu → V 900 [(0, .ref zsc), (1, .ref 0), (2, .ref 30), (3, .int (nI p))] [] υ)
  refine ⟨fun _ => ?_, fun hc_z => absurd rfl hc_z⟩
  refine zwk hV [0, 1, 2, 3] rfl ?_
  exact hnx υ hR2 hnυ
set_option maxRecDepth 8000 in
set_option maxHeartbeats 4000000 in
theorem zcs_26 {L p : Nat} {xs : Nat → Int32} {V : Nat → zLo → List Value → zSt → Prop} {σ : zSt} (hV : zOk (zSp 7) (L, xs) mL_law 52 V (fun r _ => r = some (.int 1))) (hR : zRel σ) (hn : σ.2.2.2 = 52) (hp : p + 6 ≤ L) (hL : L ≤ 3072) (hnx : ∀ υ, zRel υ → υ.2.2.2 = 52 → V 1223 [(0, .ref zsc), (1, .ref 0), (2, .ref 30), (3, .int (nI p))] [] υ) : V 902 [(0, .ref zsc), (1, .ref 0), (2, .ref 30), (3, .int (nI p))] [] σ := by
  have hI := hR.1
  refine zq (σ := σ) hV hI hn 5 ?_
  show V 907 [(0, .ref zsc), (1, .ref 0), (2, .ref 30), (3, .int (nI p))] [.int ((nI p) + 1), .ref zsc, .ref 0] σ
  refine zscl hV rfl (zix (k := (p + 1)) (zn_a (a := p) (b := 1) rfl rfl) (by omega) (by omega)) ?_
  show V 908 [(0, .ref zsc), (1, .ref 0), (2, .ref 30), (3, .int (nI p))] [.int (xs (Int32.toNatClampNeg ((nI p) + 1))), .ref 0] σ
  refine zq (σ := σ) hV hI hn 1 ?_
  show zSp _ 107 [.ref 0, .int (xs (Int32.toNatClampNeg ((nI p) + 1)))] σ (fun r_z σ' => σ'.2.2.2 = σ.2.2.2 + zAl 107 → V 911 [(0, .ref zsc), (1, .ref 0), (2, .ref 30), (3, .int (nI p))] (r_z.toList ++ []) σ')
  refine L_pick hR (fun rsu τ hIτ ans_z en => ?_)
  have hnτ : τ.2.2.2 = 52 := en.trans (by rw [hn]; rfl)
  refine zq (σ := τ) hV hIτ hnτ 5 ?_
  show V 916 [(0, .ref zsc), (1, .ref 0), (2, .ref 30), (3, .int (nI p))] [.int ((nI p) + 1), .ref zsc, .ref 30, .int rsu] τ
  refine zscl hV rfl (zix (k := (p + 1)) (zn_a (a := p) (b := 1) rfl rfl) (by omega) (by omega)) ?_
  show V 917 [(0, .ref zsc), (1, .ref 0), (2, .ref 30), (3, .int (nI p))] [.int (xs (Int32.toNatClampNeg ((nI p) + 1))), .ref 30, .int rsu] τ
  refine zq (σ := τ) hV hIτ hnτ 1 ?_
  show zSp _ 181 [.ref 30, .int (xs (Int32.toNatClampNeg ((nI p) + 1)))] τ (fun r_z σ' => σ'.2.2.2 = τ.2.2.2 + zAl 181 → V 920 [(0, .ref zsc), (1, .ref 0), (2, .ref 30), (3, .int (nI p))] (r_z.toList ++ [.int rsu]) σ')
  refine ans_z _ (fun υ hR2 en2 => ?_)
  have hnυ : υ.2.2.2 = 52 := en2.trans (by rw [hnτ]; rfl)
  have hIυ := hR2.1
  refine zq (σ := υ) hV hIυ hnυ 1 ?_
  show (rsu = rsu → V 1223 [(0, .ref zsc), (1, .ref 0), (2, .ref 30), (3, .int (nI p))] [] υ) ∧ (¬ rsu = rsu → V 923 [(0, .ref zsc), (1, .ref 0), (2, .ref 30), (3, .int (nI p))] [] υ)
  refine ⟨fun _ => ?_, fun hc_z => absurd rfl hc_z⟩
  refine zwk hV [0, 1, 2, 3] rfl ?_
  exact hnx υ hR2 hnυ
set_option maxRecDepth 8000 in
set_option maxHeartbeats 4000000 in
theorem zcs_27 {L p : Nat} {xs : Nat → Int32} {V : Nat → zLo → List Value → zSt → Prop} {σ : zSt} (hV : zOk (zSp 7) (L, xs) mL_law 52 V (fun r _ => r = some (.int 1))) (hR : zRel σ) (hn : σ.2.2.2 = 52) (hp : p + 6 ≤ L) (hL : L ≤ 3072) (hnx : ∀ υ, zRel υ → υ.2.2.2 = 52 → V 1223 [(0, .ref zsc), (1, .ref 0), (2, .ref 30), (3, .int (nI p))] [] υ) : V 925 [(0, .ref zsc), (1, .ref 0), (2, .ref 30), (3, .int (nI p))] [] σ := by
  have hI := hR.1
  refine zq (σ := σ) hV hI hn 5 ?_
  show V 930 [(0, .ref zsc), (1, .ref 0), (2, .ref 30), (3, .int (nI p))] [.int ((nI p) + 1), .ref zsc, .ref 0] σ
  refine zscl hV rfl (zix (k := (p + 1)) (zn_a (a := p) (b := 1) rfl rfl) (by omega) (by omega)) ?_
  show V 931 [(0, .ref zsc), (1, .ref 0), (2, .ref 30), (3, .int (nI p))] [.int (xs (Int32.toNatClampNeg ((nI p) + 1))), .ref 0] σ
  refine zq (σ := σ) hV hI hn 1 ?_
  show zSp _ 108 [.ref 0, .int (xs (Int32.toNatClampNeg ((nI p) + 1)))] σ (fun r_z σ' => σ'.2.2.2 = σ.2.2.2 + zAl 108 → V 934 [(0, .ref zsc), (1, .ref 0), (2, .ref 30), (3, .int (nI p))] (r_z.toList ++ []) σ')
  refine L_reach hR (fun rsu τ hIτ ans_z en => ?_)
  have hnτ : τ.2.2.2 = 52 := en.trans (by rw [hn]; rfl)
  refine zq (σ := τ) hV hIτ hnτ 5 ?_
  show V 939 [(0, .ref zsc), (1, .ref 0), (2, .ref 30), (3, .int (nI p))] [.int ((nI p) + 1), .ref zsc, .ref 30, .int rsu] τ
  refine zscl hV rfl (zix (k := (p + 1)) (zn_a (a := p) (b := 1) rfl rfl) (by omega) (by omega)) ?_
  show V 940 [(0, .ref zsc), (1, .ref 0), (2, .ref 30), (3, .int (nI p))] [.int (xs (Int32.toNatClampNeg ((nI p) + 1))), .ref 30, .int rsu] τ
  refine zq (σ := τ) hV hIτ hnτ 1 ?_
  show zSp _ 183 [.ref 30, .int (xs (Int32.toNatClampNeg ((nI p) + 1)))] τ (fun r_z σ' => σ'.2.2.2 = τ.2.2.2 + zAl 183 → V 943 [(0, .ref zsc), (1, .ref 0), (2, .ref 30), (3, .int (nI p))] (r_z.toList ++ [.int rsu]) σ')
  refine ans_z _ (fun υ hR2 en2 => ?_)
  have hnυ : υ.2.2.2 = 52 := en2.trans (by rw [hnτ]; rfl)
  have hIυ := hR2.1
  refine zq (σ := υ) hV hIυ hnυ 1 ?_
  show (rsu = rsu → V 1223 [(0, .ref zsc), (1, .ref 0), (2, .ref 30), (3, .int (nI p))] [] υ) ∧ (¬ rsu = rsu → V 946 [(0, .ref zsc), (1, .ref 0), (2, .ref 30), (3, .int (nI p))] [] υ)
  refine ⟨fun _ => ?_, fun hc_z => absurd rfl hc_z⟩
  refine zwk hV [0, 1, 2, 3] rfl ?_
  exact hnx υ hR2 hnυ
set_option maxRecDepth 8000 in
set_option maxHeartbeats 4000000 in
theorem zcs_28 {L p : Nat} {xs : Nat → Int32} {V : Nat → zLo → List Value → zSt → Prop} {σ : zSt} (hV : zOk (zSp 7) (L, xs) mL_law 52 V (fun r _ => r = some (.int 1))) (hR : zRel σ) (hn : σ.2.2.2 = 52) (hp : p + 6 ≤ L) (hL : L ≤ 3072) (hnx : ∀ υ, zRel υ → υ.2.2.2 = 52 → V 1223 [(0, .ref zsc), (1, .ref 0), (2, .ref 30), (3, .int (nI p))] [] υ) : V 948 [(0, .ref zsc), (1, .ref 0), (2, .ref 30), (3, .int (nI p))] [] σ := by
  have hI := hR.1
  refine zq (σ := σ) hV hI hn 2 ?_
  show zSp _ 109 [.ref 0] σ (fun r_z σ' => σ'.2.2.2 = σ.2.2.2 + zAl 109 → V 952 [(0, .ref zsc), (1, .ref 0), (2, .ref 30), (3, .int (nI p))] (r_z.toList ++ []) σ')
  refine L_stuck hR (fun rsu τ hIτ ans_z en => ?_)
  have hnτ : τ.2.2.2 = 52 := en.trans (by rw [hn]; rfl)
  refine zq (σ := τ) hV hIτ hnτ 2 ?_
  show zSp _ 185 [.ref 30] τ (fun r_z σ' => σ'.2.2.2 = τ.2.2.2 + zAl 185 → V 956 [(0, .ref zsc), (1, .ref 0), (2, .ref 30), (3, .int (nI p))] (r_z.toList ++ [.int rsu]) σ')
  refine ans_z _ (fun υ hR2 en2 => ?_)
  have hnυ : υ.2.2.2 = 52 := en2.trans (by rw [hnτ]; rfl)
  have hIυ := hR2.1
  refine zq (σ := υ) hV hIυ hnυ 1 ?_
  show (rsu = rsu → V 1223 [(0, .ref zsc), (1, .ref 0), (2, .ref 30), (3, .int (nI p))] [] υ) ∧ (¬ rsu = rsu → V 959 [(0, .ref zsc), (1, .ref 0), (2, .ref 30), (3, .int (nI p))] [] υ)
  refine ⟨fun _ => ?_, fun hc_z => absurd rfl hc_z⟩
  refine zwk hV [0, 1, 2, 3] rfl ?_
  exact hnx υ hR2 hnυ
set_option maxRecDepth 8000 in
set_option maxHeartbeats 4000000 in
theorem zcs_29 {L p : Nat} {xs : Nat → Int32} {V : Nat → zLo → List Value → zSt → Prop} {σ : zSt} (hV : zOk (zSp 7) (L, xs) mL_law 52 V (fun r _ => r = some (.int 1))) (hR : zRel σ) (hn : σ.2.2.2 = 52) (hp : p + 6 ≤ L) (hL : L ≤ 3072) (hnx : ∀ υ, zRel υ → υ.2.2.2 = 52 → V 1223 [(0, .ref zsc), (1, .ref 0), (2, .ref 30), (3, .int (nI p))] [] υ) : V 961 [(0, .ref zsc), (1, .ref 0), (2, .ref 30), (3, .int (nI p))] [] σ := by
  have hI := hR.1
  refine zq (σ := σ) hV hI hn 5 ?_
  show V 966 [(0, .ref zsc), (1, .ref 0), (2, .ref 30), (3, .int (nI p))] [.int ((nI p) + 1), .ref zsc, .ref 0] σ
  refine zscl hV rfl (zix (k := (p + 1)) (zn_a (a := p) (b := 1) rfl rfl) (by omega) (by omega)) ?_
  show V 967 [(0, .ref zsc), (1, .ref 0), (2, .ref 30), (3, .int (nI p))] [.int (xs (Int32.toNatClampNeg ((nI p) + 1))), .ref 0] σ
  refine zq (σ := σ) hV hI hn 4 ?_
  show V 971 [(0, .ref zsc), (1, .ref 0), (2, .ref 30), (3, .int (nI p))] [.int ((nI p) + 2), .ref zsc, .int (xs (Int32.toNatClampNeg ((nI p) + 1))), .ref 0] σ
  refine zscl hV rfl (zix (k := (p + 2)) (zn_a (a := p) (b := 2) rfl rfl) (by omega) (by omega)) ?_
  show V 972 [(0, .ref zsc), (1, .ref 0), (2, .ref 30), (3, .int (nI p))] [.int (xs (Int32.toNatClampNeg ((nI p) + 2))), .int (xs (Int32.toNatClampNeg ((nI p) + 1))), .ref 0] σ
  refine zq (σ := σ) hV hI hn 4 ?_
  show V 976 [(0, .ref zsc), (1, .ref 0), (2, .ref 30), (3, .int (nI p))] [.int ((nI p) + 3), .ref zsc, .int (xs (Int32.toNatClampNeg ((nI p) + 2))), .int (xs (Int32.toNatClampNeg ((nI p) + 1))), .ref 0] σ
  refine zscl hV rfl (zix (k := (p + 3)) (zn_a (a := p) (b := 3) rfl rfl) (by omega) (by omega)) ?_
  show V 977 [(0, .ref zsc), (1, .ref 0), (2, .ref 30), (3, .int (nI p))] [.int (xs (Int32.toNatClampNeg ((nI p) + 3))), .int (xs (Int32.toNatClampNeg ((nI p) + 2))), .int (xs (Int32.toNatClampNeg ((nI p) + 1))), .ref 0] σ
  refine zq (σ := σ) hV hI hn 1 ?_
  show zSp _ 110 [.ref 0, .int (xs (Int32.toNatClampNeg ((nI p) + 1))), .int (xs (Int32.toNatClampNeg ((nI p) + 2))), .int (xs (Int32.toNatClampNeg ((nI p) + 3)))] σ (fun r_z σ' => σ'.2.2.2 = σ.2.2.2 + zAl 110 → V 980 [(0, .ref zsc), (1, .ref 0), (2, .ref 30), (3, .int (nI p))] (r_z.toList ++ []) σ')
  refine L_sheet hR (fun rsu τ hIτ ans_z en => ?_)
  have hnτ : τ.2.2.2 = 52 := en.trans (by rw [hn]; rfl)
  refine zq (σ := τ) hV hIτ hnτ 5 ?_
  show V 985 [(0, .ref zsc), (1, .ref 0), (2, .ref 30), (3, .int (nI p))] [.int ((nI p) + 1), .ref zsc, .ref 30, .int rsu] τ
  refine zscl hV rfl (zix (k := (p + 1)) (zn_a (a := p) (b := 1) rfl rfl) (by omega) (by omega)) ?_
  show V 986 [(0, .ref zsc), (1, .ref 0), (2, .ref 30), (3, .int (nI p))] [.int (xs (Int32.toNatClampNeg ((nI p) + 1))), .ref 30, .int rsu] τ
  refine zq (σ := τ) hV hIτ hnτ 4 ?_
  show V 990 [(0, .ref zsc), (1, .ref 0), (2, .ref 30), (3, .int (nI p))] [.int ((nI p) + 2), .ref zsc, .int (xs (Int32.toNatClampNeg ((nI p) + 1))), .ref 30, .int rsu] τ
  refine zscl hV rfl (zix (k := (p + 2)) (zn_a (a := p) (b := 2) rfl rfl) (by omega) (by omega)) ?_
  show V 991 [(0, .ref zsc), (1, .ref 0), (2, .ref 30), (3, .int (nI p))] [.int (xs (Int32.toNatClampNeg ((nI p) + 2))), .int (xs (Int32.toNatClampNeg ((nI p) + 1))), .ref 30, .int rsu] τ
  refine zq (σ := τ) hV hIτ hnτ 4 ?_
  show V 995 [(0, .ref zsc), (1, .ref 0), (2, .ref 30), (3, .int (nI p))] [.int ((nI p) + 3), .ref zsc, .int (xs (Int32.toNatClampNeg ((nI p) + 2))), .int (xs (Int32.toNatClampNeg ((nI p) + 1))), .ref 30, .int rsu] τ
  refine zscl hV rfl (zix (k := (p + 3)) (zn_a (a := p) (b := 3) rfl rfl) (by omega) (by omega)) ?_
  show V 996 [(0, .ref zsc), (1, .ref 0), (2, .ref 30), (3, .int (nI p))] [.int (xs (Int32.toNatClampNeg ((nI p) + 3))), .int (xs (Int32.toNatClampNeg ((nI p) + 2))), .int (xs (Int32.toNatClampNeg ((nI p) + 1))), .ref 30, .int rsu] τ
  refine zq (σ := τ) hV hIτ hnτ 1 ?_
  show zSp _ 188 [.ref 30, .int (xs (Int32.toNatClampNeg ((nI p) + 1))), .int (xs (Int32.toNatClampNeg ((nI p) + 2))), .int (xs (Int32.toNatClampNeg ((nI p) + 3)))] τ (fun r_z σ' => σ'.2.2.2 = τ.2.2.2 + zAl 188 → V 999 [(0, .ref zsc), (1, .ref 0), (2, .ref 30), (3, .int (nI p))] (r_z.toList ++ [.int rsu]) σ')
  refine ans_z _ (fun υ hR2 en2 => ?_)
  have hnυ : υ.2.2.2 = 52 := en2.trans (by rw [hnτ]; rfl)
  have hIυ := hR2.1
  refine zq (σ := υ) hV hIυ hnυ 1 ?_
  show (rsu = rsu → V 1223 [(0, .ref zsc), (1, .ref 0), (2, .ref 30), (3, .int (nI p))] [] υ) ∧ (¬ rsu = rsu → V 1002 [(0, .ref zsc), (1, .ref 0), (2, .ref 30), (3, .int (nI p))] [] υ)
  refine ⟨fun _ => ?_, fun hc_z => absurd rfl hc_z⟩
  refine zwk hV [0, 1, 2, 3] rfl ?_
  exact hnx υ hR2 hnυ
set_option maxRecDepth 8000 in
set_option maxHeartbeats 4000000 in
theorem zcs_30 {L p : Nat} {xs : Nat → Int32} {V : Nat → zLo → List Value → zSt → Prop} {σ : zSt} (hV : zOk (zSp 7) (L, xs) mL_law 52 V (fun r _ => r = some (.int 1))) (hR : zRel σ) (hn : σ.2.2.2 = 52) (hp : p + 6 ≤ L) (hL : L ≤ 3072) (hnx : ∀ υ, zRel υ → υ.2.2.2 = 52 → V 1223 [(0, .ref zsc), (1, .ref 0), (2, .ref 30), (3, .int (nI p))] [] υ) : V 1004 [(0, .ref zsc), (1, .ref 0), (2, .ref 30), (3, .int (nI p))] [] σ := by
  have hI := hR.1
  refine zq (σ := σ) hV hI hn 5 ?_
  show V 1009 [(0, .ref zsc), (1, .ref 0), (2, .ref 30), (3, .int (nI p))] [.int ((nI p) + 1), .ref zsc, .ref 0] σ
  refine zscl hV rfl (zix (k := (p + 1)) (zn_a (a := p) (b := 1) rfl rfl) (by omega) (by omega)) ?_
  show V 1010 [(0, .ref zsc), (1, .ref 0), (2, .ref 30), (3, .int (nI p))] [.int (xs (Int32.toNatClampNeg ((nI p) + 1))), .ref 0] σ
  refine zq (σ := σ) hV hI hn 1 ?_
  show zSp _ 111 [.ref 0, .int (xs (Int32.toNatClampNeg ((nI p) + 1)))] σ (fun r_z σ' => σ'.2.2.2 = σ.2.2.2 + zAl 111 → V 1013 [(0, .ref zsc), (1, .ref 0), (2, .ref 30), (3, .int (nI p))] (r_z.toList ++ []) σ')
  refine L_lose hR (fun rsu τ hIτ ans_z en => ?_)
  have hnτ : τ.2.2.2 = 52 := en.trans (by rw [hn]; rfl)
  refine zq (σ := τ) hV hIτ hnτ 5 ?_
  show V 1018 [(0, .ref zsc), (1, .ref 0), (2, .ref 30), (3, .int (nI p))] [.int ((nI p) + 1), .ref zsc, .ref 30, .int rsu] τ
  refine zscl hV rfl (zix (k := (p + 1)) (zn_a (a := p) (b := 1) rfl rfl) (by omega) (by omega)) ?_
  show V 1019 [(0, .ref zsc), (1, .ref 0), (2, .ref 30), (3, .int (nI p))] [.int (xs (Int32.toNatClampNeg ((nI p) + 1))), .ref 30, .int rsu] τ
  refine zq (σ := τ) hV hIτ hnτ 1 ?_
  show zSp _ 189 [.ref 30, .int (xs (Int32.toNatClampNeg ((nI p) + 1)))] τ (fun r_z σ' => σ'.2.2.2 = τ.2.2.2 + zAl 189 → V 1022 [(0, .ref zsc), (1, .ref 0), (2, .ref 30), (3, .int (nI p))] (r_z.toList ++ [.int rsu]) σ')
  refine ans_z _ (fun υ hR2 en2 => ?_)
  have hnυ : υ.2.2.2 = 52 := en2.trans (by rw [hnτ]; rfl)
  have hIυ := hR2.1
  refine zq (σ := υ) hV hIυ hnυ 1 ?_
  show (rsu = rsu → V 1223 [(0, .ref zsc), (1, .ref 0), (2, .ref 30), (3, .int (nI p))] [] υ) ∧ (¬ rsu = rsu → V 1025 [(0, .ref zsc), (1, .ref 0), (2, .ref 30), (3, .int (nI p))] [] υ)
  refine ⟨fun _ => ?_, fun hc_z => absurd rfl hc_z⟩
  refine zwk hV [0, 1, 2, 3] rfl ?_
  exact hnx υ hR2 hnυ
set_option maxRecDepth 8000 in
set_option maxHeartbeats 4000000 in
theorem zcs_31 {L p : Nat} {xs : Nat → Int32} {V : Nat → zLo → List Value → zSt → Prop} {σ : zSt} (hV : zOk (zSp 7) (L, xs) mL_law 52 V (fun r _ => r = some (.int 1))) (hR : zRel σ) (hn : σ.2.2.2 = 52) (hp : p + 6 ≤ L) (hL : L ≤ 3072) (hnx : ∀ υ, zRel υ → υ.2.2.2 = 52 → V 1223 [(0, .ref zsc), (1, .ref 0), (2, .ref 30), (3, .int (nI p))] [] υ) : V 1027 [(0, .ref zsc), (1, .ref 0), (2, .ref 30), (3, .int (nI p))] [] σ := by
  have hI := hR.1
  refine zq (σ := σ) hV hI hn 5 ?_
  show V 1032 [(0, .ref zsc), (1, .ref 0), (2, .ref 30), (3, .int (nI p))] [.int ((nI p) + 1), .ref zsc, .ref 0] σ
  refine zscl hV rfl (zix (k := (p + 1)) (zn_a (a := p) (b := 1) rfl rfl) (by omega) (by omega)) ?_
  show V 1033 [(0, .ref zsc), (1, .ref 0), (2, .ref 30), (3, .int (nI p))] [.int (xs (Int32.toNatClampNeg ((nI p) + 1))), .ref 0] σ
  refine zq (σ := σ) hV hI hn 4 ?_
  show V 1037 [(0, .ref zsc), (1, .ref 0), (2, .ref 30), (3, .int (nI p))] [.int ((nI p) + 2), .ref zsc, .int (xs (Int32.toNatClampNeg ((nI p) + 1))), .ref 0] σ
  refine zscl hV rfl (zix (k := (p + 2)) (zn_a (a := p) (b := 2) rfl rfl) (by omega) (by omega)) ?_
  show V 1038 [(0, .ref zsc), (1, .ref 0), (2, .ref 30), (3, .int (nI p))] [.int (xs (Int32.toNatClampNeg ((nI p) + 2))), .int (xs (Int32.toNatClampNeg ((nI p) + 1))), .ref 0] σ
  refine zq (σ := σ) hV hI hn 4 ?_
  show V 1042 [(0, .ref zsc), (1, .ref 0), (2, .ref 30), (3, .int (nI p))] [.int ((nI p) + 3), .ref zsc, .int (xs (Int32.toNatClampNeg ((nI p) + 2))), .int (xs (Int32.toNatClampNeg ((nI p) + 1))), .ref 0] σ
  refine zscl hV rfl (zix (k := (p + 3)) (zn_a (a := p) (b := 3) rfl rfl) (by omega) (by omega)) ?_
  show V 1043 [(0, .ref zsc), (1, .ref 0), (2, .ref 30), (3, .int (nI p))] [.int (xs (Int32.toNatClampNeg ((nI p) + 3))), .int (xs (Int32.toNatClampNeg ((nI p) + 2))), .int (xs (Int32.toNatClampNeg ((nI p) + 1))), .ref 0] σ
  refine zq (σ := σ) hV hI hn 4 ?_
  show V 1047 [(0, .ref zsc), (1, .ref 0), (2, .ref 30), (3, .int (nI p))] [.int ((nI p) + 4), .ref zsc, .int (xs (Int32.toNatClampNeg ((nI p) + 3))), .int (xs (Int32.toNatClampNeg ((nI p) + 2))), .int (xs (Int32.toNatClampNeg ((nI p) + 1))), .ref 0] σ
  refine zscl hV rfl (zix (k := (p + 4)) (zn_a (a := p) (b := 4) rfl rfl) (by omega) (by omega)) ?_
  show V 1048 [(0, .ref zsc), (1, .ref 0), (2, .ref 30), (3, .int (nI p))] [.int (xs (Int32.toNatClampNeg ((nI p) + 4))), .int (xs (Int32.toNatClampNeg ((nI p) + 3))), .int (xs (Int32.toNatClampNeg ((nI p) + 2))), .int (xs (Int32.toNatClampNeg ((nI p) + 1))), .ref 0] σ
  refine zq (σ := σ) hV hI hn 1 ?_
  show zSp _ 112 [.ref 0, .int (xs (Int32.toNatClampNeg ((nI p) + 1))), .int (xs (Int32.toNatClampNeg ((nI p) + 2))), .int (xs (Int32.toNatClampNeg ((nI p) + 3))), .int (xs (Int32.toNatClampNeg ((nI p) + 4)))] σ (fun r_z σ' => σ'.2.2.2 = σ.2.2.2 + zAl 112 → V 1051 [(0, .ref zsc), (1, .ref 0), (2, .ref 30), (3, .int (nI p))] (r_z.toList ++ []) σ')
  refine L_put hR (fun rsu τ hIτ ans_z en => ?_)
  have hnτ : τ.2.2.2 = 52 := en.trans (by rw [hn]; rfl)
  refine zq (σ := τ) hV hIτ hnτ 5 ?_
  show V 1056 [(0, .ref zsc), (1, .ref 0), (2, .ref 30), (3, .int (nI p))] [.int ((nI p) + 1), .ref zsc, .ref 30, .int rsu] τ
  refine zscl hV rfl (zix (k := (p + 1)) (zn_a (a := p) (b := 1) rfl rfl) (by omega) (by omega)) ?_
  show V 1057 [(0, .ref zsc), (1, .ref 0), (2, .ref 30), (3, .int (nI p))] [.int (xs (Int32.toNatClampNeg ((nI p) + 1))), .ref 30, .int rsu] τ
  refine zq (σ := τ) hV hIτ hnτ 4 ?_
  show V 1061 [(0, .ref zsc), (1, .ref 0), (2, .ref 30), (3, .int (nI p))] [.int ((nI p) + 2), .ref zsc, .int (xs (Int32.toNatClampNeg ((nI p) + 1))), .ref 30, .int rsu] τ
  refine zscl hV rfl (zix (k := (p + 2)) (zn_a (a := p) (b := 2) rfl rfl) (by omega) (by omega)) ?_
  show V 1062 [(0, .ref zsc), (1, .ref 0), (2, .ref 30), (3, .int (nI p))] [.int (xs (Int32.toNatClampNeg ((nI p) + 2))), .int (xs (Int32.toNatClampNeg ((nI p) + 1))), .ref 30, .int rsu] τ
  refine zq (σ := τ) hV hIτ hnτ 4 ?_
  show V 1066 [(0, .ref zsc), (1, .ref 0), (2, .ref 30), (3, .int (nI p))] [.int ((nI p) + 3), .ref zsc, .int (xs (Int32.toNatClampNeg ((nI p) + 2))), .int (xs (Int32.toNatClampNeg ((nI p) + 1))), .ref 30, .int rsu] τ
  refine zscl hV rfl (zix (k := (p + 3)) (zn_a (a := p) (b := 3) rfl rfl) (by omega) (by omega)) ?_
  show V 1067 [(0, .ref zsc), (1, .ref 0), (2, .ref 30), (3, .int (nI p))] [.int (xs (Int32.toNatClampNeg ((nI p) + 3))), .int (xs (Int32.toNatClampNeg ((nI p) + 2))), .int (xs (Int32.toNatClampNeg ((nI p) + 1))), .ref 30, .int rsu] τ
  refine zq (σ := τ) hV hIτ hnτ 4 ?_
  show V 1071 [(0, .ref zsc), (1, .ref 0), (2, .ref 30), (3, .int (nI p))] [.int ((nI p) + 4), .ref zsc, .int (xs (Int32.toNatClampNeg ((nI p) + 3))), .int (xs (Int32.toNatClampNeg ((nI p) + 2))), .int (xs (Int32.toNatClampNeg ((nI p) + 1))), .ref 30, .int rsu] τ
  refine zscl hV rfl (zix (k := (p + 4)) (zn_a (a := p) (b := 4) rfl rfl) (by omega) (by omega)) ?_
  show V 1072 [(0, .ref zsc), (1, .ref 0), (2, .ref 30), (3, .int (nI p))] [.int (xs (Int32.toNatClampNeg ((nI p) + 4))), .int (xs (Int32.toNatClampNeg ((nI p) + 3))), .int (xs (Int32.toNatClampNeg ((nI p) + 2))), .int (xs (Int32.toNatClampNeg ((nI p) + 1))), .ref 30, .int rsu] τ
  refine zq (σ := τ) hV hIτ hnτ 1 ?_
  show zSp _ 191 [.ref 30, .int (xs (Int32.toNatClampNeg ((nI p) + 1))), .int (xs (Int32.toNatClampNeg ((nI p) + 2))), .int (xs (Int32.toNatClampNeg ((nI p) + 3))), .int (xs (Int32.toNatClampNeg ((nI p) + 4)))] τ (fun r_z σ' => σ'.2.2.2 = τ.2.2.2 + zAl 191 → V 1075 [(0, .ref zsc), (1, .ref 0), (2, .ref 30), (3, .int (nI p))] (r_z.toList ++ [.int rsu]) σ')
  refine ans_z _ (fun υ hR2 en2 => ?_)
  have hnυ : υ.2.2.2 = 52 := en2.trans (by rw [hnτ]; rfl)
  have hIυ := hR2.1
  refine zq (σ := υ) hV hIυ hnυ 1 ?_
  show (rsu = rsu → V 1223 [(0, .ref zsc), (1, .ref 0), (2, .ref 30), (3, .int (nI p))] [] υ) ∧ (¬ rsu = rsu → V 1078 [(0, .ref zsc), (1, .ref 0), (2, .ref 30), (3, .int (nI p))] [] υ)
  refine ⟨fun _ => ?_, fun hc_z => absurd rfl hc_z⟩
  refine zwk hV [0, 1, 2, 3] rfl ?_
  exact hnx υ hR2 hnυ
set_option maxRecDepth 8000 in
set_option maxHeartbeats 4000000 in
theorem zcs_32 {L p : Nat} {xs : Nat → Int32} {V : Nat → zLo → List Value → zSt → Prop} {σ : zSt} (hV : zOk (zSp 7) (L, xs) mL_law 52 V (fun r _ => r = some (.int 1))) (hR : zRel σ) (hn : σ.2.2.2 = 52) (hp : p + 6 ≤ L) (hL : L ≤ 3072) (hnx : ∀ υ, zRel υ → υ.2.2.2 = 52 → V 1223 [(0, .ref zsc), (1, .ref 0), (2, .ref 30), (3, .int (nI p))] [] υ) : V 1080 [(0, .ref zsc), (1, .ref 0), (2, .ref 30), (3, .int (nI p))] [] σ := by
  have hI := hR.1
  refine zq (σ := σ) hV hI hn 5 ?_
  show V 1085 [(0, .ref zsc), (1, .ref 0), (2, .ref 30), (3, .int (nI p))] [.int ((nI p) + 1), .ref zsc, .ref 0] σ
  refine zscl hV rfl (zix (k := (p + 1)) (zn_a (a := p) (b := 1) rfl rfl) (by omega) (by omega)) ?_
  show V 1086 [(0, .ref zsc), (1, .ref 0), (2, .ref 30), (3, .int (nI p))] [.int (xs (Int32.toNatClampNeg ((nI p) + 1))), .ref 0] σ
  refine zq (σ := σ) hV hI hn 4 ?_
  show V 1090 [(0, .ref zsc), (1, .ref 0), (2, .ref 30), (3, .int (nI p))] [.int ((nI p) + 2), .ref zsc, .int (xs (Int32.toNatClampNeg ((nI p) + 1))), .ref 0] σ
  refine zscl hV rfl (zix (k := (p + 2)) (zn_a (a := p) (b := 2) rfl rfl) (by omega) (by omega)) ?_
  show V 1091 [(0, .ref zsc), (1, .ref 0), (2, .ref 30), (3, .int (nI p))] [.int (xs (Int32.toNatClampNeg ((nI p) + 2))), .int (xs (Int32.toNatClampNeg ((nI p) + 1))), .ref 0] σ
  refine zq (σ := σ) hV hI hn 4 ?_
  show V 1095 [(0, .ref zsc), (1, .ref 0), (2, .ref 30), (3, .int (nI p))] [.int ((nI p) + 3), .ref zsc, .int (xs (Int32.toNatClampNeg ((nI p) + 2))), .int (xs (Int32.toNatClampNeg ((nI p) + 1))), .ref 0] σ
  refine zscl hV rfl (zix (k := (p + 3)) (zn_a (a := p) (b := 3) rfl rfl) (by omega) (by omega)) ?_
  show V 1096 [(0, .ref zsc), (1, .ref 0), (2, .ref 30), (3, .int (nI p))] [.int (xs (Int32.toNatClampNeg ((nI p) + 3))), .int (xs (Int32.toNatClampNeg ((nI p) + 2))), .int (xs (Int32.toNatClampNeg ((nI p) + 1))), .ref 0] σ
  refine zq (σ := σ) hV hI hn 1 ?_
  show zSp _ 113 [.ref 0, .int (xs (Int32.toNatClampNeg ((nI p) + 1))), .int (xs (Int32.toNatClampNeg ((nI p) + 2))), .int (xs (Int32.toNatClampNeg ((nI p) + 3)))] σ (fun r_z σ' => σ'.2.2.2 = σ.2.2.2 + zAl 113 → V 1099 [(0, .ref zsc), (1, .ref 0), (2, .ref 30), (3, .int (nI p))] (r_z.toList ++ []) σ')
  refine L_get hR (fun rsu τ hIτ ans_z en => ?_)
  have hnτ : τ.2.2.2 = 52 := en.trans (by rw [hn]; rfl)
  refine zq (σ := τ) hV hIτ hnτ 5 ?_
  show V 1104 [(0, .ref zsc), (1, .ref 0), (2, .ref 30), (3, .int (nI p))] [.int ((nI p) + 1), .ref zsc, .ref 30, .int rsu] τ
  refine zscl hV rfl (zix (k := (p + 1)) (zn_a (a := p) (b := 1) rfl rfl) (by omega) (by omega)) ?_
  show V 1105 [(0, .ref zsc), (1, .ref 0), (2, .ref 30), (3, .int (nI p))] [.int (xs (Int32.toNatClampNeg ((nI p) + 1))), .ref 30, .int rsu] τ
  refine zq (σ := τ) hV hIτ hnτ 4 ?_
  show V 1109 [(0, .ref zsc), (1, .ref 0), (2, .ref 30), (3, .int (nI p))] [.int ((nI p) + 2), .ref zsc, .int (xs (Int32.toNatClampNeg ((nI p) + 1))), .ref 30, .int rsu] τ
  refine zscl hV rfl (zix (k := (p + 2)) (zn_a (a := p) (b := 2) rfl rfl) (by omega) (by omega)) ?_
  show V 1110 [(0, .ref zsc), (1, .ref 0), (2, .ref 30), (3, .int (nI p))] [.int (xs (Int32.toNatClampNeg ((nI p) + 2))), .int (xs (Int32.toNatClampNeg ((nI p) + 1))), .ref 30, .int rsu] τ
  refine zq (σ := τ) hV hIτ hnτ 4 ?_
  show V 1114 [(0, .ref zsc), (1, .ref 0), (2, .ref 30), (3, .int (nI p))] [.int ((nI p) + 3), .ref zsc, .int (xs (Int32.toNatClampNeg ((nI p) + 2))), .int (xs (Int32.toNatClampNeg ((nI p) + 1))), .ref 30, .int rsu] τ
  refine zscl hV rfl (zix (k := (p + 3)) (zn_a (a := p) (b := 3) rfl rfl) (by omega) (by omega)) ?_
  show V 1115 [(0, .ref zsc), (1, .ref 0), (2, .ref 30), (3, .int (nI p))] [.int (xs (Int32.toNatClampNeg ((nI p) + 3))), .int (xs (Int32.toNatClampNeg ((nI p) + 2))), .int (xs (Int32.toNatClampNeg ((nI p) + 1))), .ref 30, .int rsu] τ
  refine zq (σ := τ) hV hIτ hnτ 1 ?_
  show zSp _ 192 [.ref 30, .int (xs (Int32.toNatClampNeg ((nI p) + 1))), .int (xs (Int32.toNatClampNeg ((nI p) + 2))), .int (xs (Int32.toNatClampNeg ((nI p) + 3)))] τ (fun r_z σ' => σ'.2.2.2 = τ.2.2.2 + zAl 192 → V 1118 [(0, .ref zsc), (1, .ref 0), (2, .ref 30), (3, .int (nI p))] (r_z.toList ++ [.int rsu]) σ')
  refine ans_z _ (fun υ hR2 en2 => ?_)
  have hnυ : υ.2.2.2 = 52 := en2.trans (by rw [hnτ]; rfl)
  have hIυ := hR2.1
  refine zq (σ := υ) hV hIυ hnυ 1 ?_
  show (rsu = rsu → V 1223 [(0, .ref zsc), (1, .ref 0), (2, .ref 30), (3, .int (nI p))] [] υ) ∧ (¬ rsu = rsu → V 1121 [(0, .ref zsc), (1, .ref 0), (2, .ref 30), (3, .int (nI p))] [] υ)
  refine ⟨fun _ => ?_, fun hc_z => absurd rfl hc_z⟩
  refine zwk hV [0, 1, 2, 3] rfl ?_
  exact hnx υ hR2 hnυ
set_option maxRecDepth 8000 in
set_option maxHeartbeats 4000000 in
theorem zcs_33 {L p : Nat} {xs : Nat → Int32} {V : Nat → zLo → List Value → zSt → Prop} {σ : zSt} (hV : zOk (zSp 7) (L, xs) mL_law 52 V (fun r _ => r = some (.int 1))) (hR : zRel σ) (hn : σ.2.2.2 = 52) (hp : p + 6 ≤ L) (hL : L ≤ 3072) (hnx : ∀ υ, zRel υ → υ.2.2.2 = 52 → V 1223 [(0, .ref zsc), (1, .ref 0), (2, .ref 30), (3, .int (nI p))] [] υ) : V 1123 [(0, .ref zsc), (1, .ref 0), (2, .ref 30), (3, .int (nI p))] [] σ := by
  have hI := hR.1
  refine zq (σ := σ) hV hI hn 5 ?_
  show V 1128 [(0, .ref zsc), (1, .ref 0), (2, .ref 30), (3, .int (nI p))] [.int ((nI p) + 1), .ref zsc, .ref 0] σ
  refine zscl hV rfl (zix (k := (p + 1)) (zn_a (a := p) (b := 1) rfl rfl) (by omega) (by omega)) ?_
  show V 1129 [(0, .ref zsc), (1, .ref 0), (2, .ref 30), (3, .int (nI p))] [.int (xs (Int32.toNatClampNeg ((nI p) + 1))), .ref 0] σ
  refine zq (σ := σ) hV hI hn 4 ?_
  show V 1133 [(0, .ref zsc), (1, .ref 0), (2, .ref 30), (3, .int (nI p))] [.int ((nI p) + 2), .ref zsc, .int (xs (Int32.toNatClampNeg ((nI p) + 1))), .ref 0] σ
  refine zscl hV rfl (zix (k := (p + 2)) (zn_a (a := p) (b := 2) rfl rfl) (by omega) (by omega)) ?_
  show V 1134 [(0, .ref zsc), (1, .ref 0), (2, .ref 30), (3, .int (nI p))] [.int (xs (Int32.toNatClampNeg ((nI p) + 2))), .int (xs (Int32.toNatClampNeg ((nI p) + 1))), .ref 0] σ
  refine zq (σ := σ) hV hI hn 4 ?_
  show V 1138 [(0, .ref zsc), (1, .ref 0), (2, .ref 30), (3, .int (nI p))] [.int ((nI p) + 3), .ref zsc, .int (xs (Int32.toNatClampNeg ((nI p) + 2))), .int (xs (Int32.toNatClampNeg ((nI p) + 1))), .ref 0] σ
  refine zscl hV rfl (zix (k := (p + 3)) (zn_a (a := p) (b := 3) rfl rfl) (by omega) (by omega)) ?_
  show V 1139 [(0, .ref zsc), (1, .ref 0), (2, .ref 30), (3, .int (nI p))] [.int (xs (Int32.toNatClampNeg ((nI p) + 3))), .int (xs (Int32.toNatClampNeg ((nI p) + 2))), .int (xs (Int32.toNatClampNeg ((nI p) + 1))), .ref 0] σ
  refine zq (σ := σ) hV hI hn 4 ?_
  show V 1143 [(0, .ref zsc), (1, .ref 0), (2, .ref 30), (3, .int (nI p))] [.int ((nI p) + 4), .ref zsc, .int (xs (Int32.toNatClampNeg ((nI p) + 3))), .int (xs (Int32.toNatClampNeg ((nI p) + 2))), .int (xs (Int32.toNatClampNeg ((nI p) + 1))), .ref 0] σ
  refine zscl hV rfl (zix (k := (p + 4)) (zn_a (a := p) (b := 4) rfl rfl) (by omega) (by omega)) ?_
  show V 1144 [(0, .ref zsc), (1, .ref 0), (2, .ref 30), (3, .int (nI p))] [.int (xs (Int32.toNatClampNeg ((nI p) + 4))), .int (xs (Int32.toNatClampNeg ((nI p) + 3))), .int (xs (Int32.toNatClampNeg ((nI p) + 2))), .int (xs (Int32.toNatClampNeg ((nI p) + 1))), .ref 0] σ
  refine zq (σ := σ) hV hI hn 4 ?_
  show V 1148 [(0, .ref zsc), (1, .ref 0), (2, .ref 30), (3, .int (nI p))] [.int ((nI p) + 5), .ref zsc, .int (xs (Int32.toNatClampNeg ((nI p) + 4))), .int (xs (Int32.toNatClampNeg ((nI p) + 3))), .int (xs (Int32.toNatClampNeg ((nI p) + 2))), .int (xs (Int32.toNatClampNeg ((nI p) + 1))), .ref 0] σ
  refine zscl hV rfl (zix (k := (p + 5)) (zn_a (a := p) (b := 5) rfl rfl) (by omega) (by omega)) ?_
  show V 1149 [(0, .ref zsc), (1, .ref 0), (2, .ref 30), (3, .int (nI p))] [.int (xs (Int32.toNatClampNeg ((nI p) + 5))), .int (xs (Int32.toNatClampNeg ((nI p) + 4))), .int (xs (Int32.toNatClampNeg ((nI p) + 3))), .int (xs (Int32.toNatClampNeg ((nI p) + 2))), .int (xs (Int32.toNatClampNeg ((nI p) + 1))), .ref 0] σ
  refine zq (σ := σ) hV hI hn 1 ?_
  show zSp _ 114 [.ref 0, .int (xs (Int32.toNatClampNeg ((nI p) + 1))), .int (xs (Int32.toNatClampNeg ((nI p) + 2))), .int (xs (Int32.toNatClampNeg ((nI p) + 3))), .int (xs (Int32.toNatClampNeg ((nI p) + 4))), .int (xs (Int32.toNatClampNeg ((nI p) + 5)))] σ (fun r_z σ' => σ'.2.2.2 = σ.2.2.2 + zAl 114 → V 1152 [(0, .ref zsc), (1, .ref 0), (2, .ref 30), (3, .int (nI p))] (r_z.toList ++ []) σ')
  refine L_copy hR (fun rsu τ hIτ ans_z en => ?_)
  have hnτ : τ.2.2.2 = 52 := en.trans (by rw [hn]; rfl)
  refine zq (σ := τ) hV hIτ hnτ 5 ?_
  show V 1157 [(0, .ref zsc), (1, .ref 0), (2, .ref 30), (3, .int (nI p))] [.int ((nI p) + 1), .ref zsc, .ref 30, .int rsu] τ
  refine zscl hV rfl (zix (k := (p + 1)) (zn_a (a := p) (b := 1) rfl rfl) (by omega) (by omega)) ?_
  show V 1158 [(0, .ref zsc), (1, .ref 0), (2, .ref 30), (3, .int (nI p))] [.int (xs (Int32.toNatClampNeg ((nI p) + 1))), .ref 30, .int rsu] τ
  refine zq (σ := τ) hV hIτ hnτ 4 ?_
  show V 1162 [(0, .ref zsc), (1, .ref 0), (2, .ref 30), (3, .int (nI p))] [.int ((nI p) + 2), .ref zsc, .int (xs (Int32.toNatClampNeg ((nI p) + 1))), .ref 30, .int rsu] τ
  refine zscl hV rfl (zix (k := (p + 2)) (zn_a (a := p) (b := 2) rfl rfl) (by omega) (by omega)) ?_
  show V 1163 [(0, .ref zsc), (1, .ref 0), (2, .ref 30), (3, .int (nI p))] [.int (xs (Int32.toNatClampNeg ((nI p) + 2))), .int (xs (Int32.toNatClampNeg ((nI p) + 1))), .ref 30, .int rsu] τ
  refine zq (σ := τ) hV hIτ hnτ 4 ?_
  show V 1167 [(0, .ref zsc), (1, .ref 0), (2, .ref 30), (3, .int (nI p))] [.int ((nI p) + 3), .ref zsc, .int (xs (Int32.toNatClampNeg ((nI p) + 2))), .int (xs (Int32.toNatClampNeg ((nI p) + 1))), .ref 30, .int rsu] τ
  refine zscl hV rfl (zix (k := (p + 3)) (zn_a (a := p) (b := 3) rfl rfl) (by omega) (by omega)) ?_
  show V 1168 [(0, .ref zsc), (1, .ref 0), (2, .ref 30), (3, .int (nI p))] [.int (xs (Int32.toNatClampNeg ((nI p) + 3))), .int (xs (Int32.toNatClampNeg ((nI p) + 2))), .int (xs (Int32.toNatClampNeg ((nI p) + 1))), .ref 30, .int rsu] τ
  refine zq (σ := τ) hV hIτ hnτ 4 ?_
  show V 1172 [(0, .ref zsc), (1, .ref 0), (2, .ref 30), (3, .int (nI p))] [.int ((nI p) + 4), .ref zsc, .int (xs (Int32.toNatClampNeg ((nI p) + 3))), .int (xs (Int32.toNatClampNeg ((nI p) + 2))), .int (xs (Int32.toNatClampNeg ((nI p) + 1))), .ref 30, .int rsu] τ
  refine zscl hV rfl (zix (k := (p + 4)) (zn_a (a := p) (b := 4) rfl rfl) (by omega) (by omega)) ?_
  show V 1173 [(0, .ref zsc), (1, .ref 0), (2, .ref 30), (3, .int (nI p))] [.int (xs (Int32.toNatClampNeg ((nI p) + 4))), .int (xs (Int32.toNatClampNeg ((nI p) + 3))), .int (xs (Int32.toNatClampNeg ((nI p) + 2))), .int (xs (Int32.toNatClampNeg ((nI p) + 1))), .ref 30, .int rsu] τ
  refine zq (σ := τ) hV hIτ hnτ 4 ?_
  show V 1177 [(0, .ref zsc), (1, .ref 0), (2, .ref 30), (3, .int (nI p))] [.int ((nI p) + 5), .ref zsc, .int (xs (Int32.toNatClampNeg ((nI p) + 4))), .int (xs (Int32.toNatClampNeg ((nI p) + 3))), .int (xs (Int32.toNatClampNeg ((nI p) + 2))), .int (xs (Int32.toNatClampNeg ((nI p) + 1))), .ref 30, .int rsu] τ
  refine zscl hV rfl (zix (k := (p + 5)) (zn_a (a := p) (b := 5) rfl rfl) (by omega) (by omega)) ?_
  show V 1178 [(0, .ref zsc), (1, .ref 0), (2, .ref 30), (3, .int (nI p))] [.int (xs (Int32.toNatClampNeg ((nI p) + 5))), .int (xs (Int32.toNatClampNeg ((nI p) + 4))), .int (xs (Int32.toNatClampNeg ((nI p) + 3))), .int (xs (Int32.toNatClampNeg ((nI p) + 2))), .int (xs (Int32.toNatClampNeg ((nI p) + 1))), .ref 30, .int rsu] τ
  refine zq (σ := τ) hV hIτ hnτ 1 ?_
  show zSp _ 193 [.ref 30, .int (xs (Int32.toNatClampNeg ((nI p) + 1))), .int (xs (Int32.toNatClampNeg ((nI p) + 2))), .int (xs (Int32.toNatClampNeg ((nI p) + 3))), .int (xs (Int32.toNatClampNeg ((nI p) + 4))), .int (xs (Int32.toNatClampNeg ((nI p) + 5)))] τ (fun r_z σ' => σ'.2.2.2 = τ.2.2.2 + zAl 193 → V 1181 [(0, .ref zsc), (1, .ref 0), (2, .ref 30), (3, .int (nI p))] (r_z.toList ++ [.int rsu]) σ')
  refine ans_z _ (fun υ hR2 en2 => ?_)
  have hnυ : υ.2.2.2 = 52 := en2.trans (by rw [hnτ]; rfl)
  have hIυ := hR2.1
  refine zq (σ := υ) hV hIυ hnυ 1 ?_
  show (rsu = rsu → V 1223 [(0, .ref zsc), (1, .ref 0), (2, .ref 30), (3, .int (nI p))] [] υ) ∧ (¬ rsu = rsu → V 1184 [(0, .ref zsc), (1, .ref 0), (2, .ref 30), (3, .int (nI p))] [] υ)
  refine ⟨fun _ => ?_, fun hc_z => absurd rfl hc_z⟩
  refine zwk hV [0, 1, 2, 3] rfl ?_
  exact hnx υ hR2 hnυ
set_option maxRecDepth 8000 in
set_option maxHeartbeats 4000000 in
theorem zcs_34 {L p : Nat} {xs : Nat → Int32} {V : Nat → zLo → List Value → zSt → Prop} {σ : zSt} (hV : zOk (zSp 7) (L, xs) mL_law 52 V (fun r _ => r = some (.int 1))) (hR : zRel σ) (hn : σ.2.2.2 = 52) (hp : p + 6 ≤ L) (hL : L ≤ 3072) (hnx : ∀ υ, zRel υ → υ.2.2.2 = 52 → V 1223 [(0, .ref zsc), (1, .ref 0), (2, .ref 30), (3, .int (nI p))] [] υ) : V 1186 [(0, .ref zsc), (1, .ref 0), (2, .ref 30), (3, .int (nI p))] [] σ := by
  have hI := hR.1
  refine zq (σ := σ) hV hI hn 5 ?_
  show V 1191 [(0, .ref zsc), (1, .ref 0), (2, .ref 30), (3, .int (nI p))] [.int ((nI p) + 1), .ref zsc, .ref 0] σ
  refine zscl hV rfl (zix (k := (p + 1)) (zn_a (a := p) (b := 1) rfl rfl) (by omega) (by omega)) ?_
  show V 1192 [(0, .ref zsc), (1, .ref 0), (2, .ref 30), (3, .int (nI p))] [.int (xs (Int32.toNatClampNeg ((nI p) + 1))), .ref 0] σ
  refine zq (σ := σ) hV hI hn 1 ?_
  show zSp _ 115 [.ref 0, .int (xs (Int32.toNatClampNeg ((nI p) + 1)))] σ (fun r_z σ' => σ'.2.2.2 = σ.2.2.2 + zAl 115 → V 1195 [(0, .ref zsc), (1, .ref 0), (2, .ref 30), (3, .int (nI p))] (r_z.toList ++ []) σ')
  refine L_count hR (fun rsu τ hIτ ans_z en => ?_)
  have hnτ : τ.2.2.2 = 52 := en.trans (by rw [hn]; rfl)
  refine zq (σ := τ) hV hIτ hnτ 5 ?_
  show V 1200 [(0, .ref zsc), (1, .ref 0), (2, .ref 30), (3, .int (nI p))] [.int ((nI p) + 1), .ref zsc, .ref 30, .int rsu] τ
  refine zscl hV rfl (zix (k := (p + 1)) (zn_a (a := p) (b := 1) rfl rfl) (by omega) (by omega)) ?_
  show V 1201 [(0, .ref zsc), (1, .ref 0), (2, .ref 30), (3, .int (nI p))] [.int (xs (Int32.toNatClampNeg ((nI p) + 1))), .ref 30, .int rsu] τ
  refine zq (σ := τ) hV hIτ hnτ 1 ?_
  show zSp _ 194 [.ref 30, .int (xs (Int32.toNatClampNeg ((nI p) + 1)))] τ (fun r_z σ' => σ'.2.2.2 = τ.2.2.2 + zAl 194 → V 1204 [(0, .ref zsc), (1, .ref 0), (2, .ref 30), (3, .int (nI p))] (r_z.toList ++ [.int rsu]) σ')
  refine ans_z _ (fun υ hR2 en2 => ?_)
  have hnυ : υ.2.2.2 = 52 := en2.trans (by rw [hnτ]; rfl)
  have hIυ := hR2.1
  refine zq (σ := υ) hV hIυ hnυ 1 ?_
  show (rsu = rsu → V 1223 [(0, .ref zsc), (1, .ref 0), (2, .ref 30), (3, .int (nI p))] [] υ) ∧ (¬ rsu = rsu → V 1207 [(0, .ref zsc), (1, .ref 0), (2, .ref 30), (3, .int (nI p))] [] υ)
  refine ⟨fun _ => ?_, fun hc_z => absurd rfl hc_z⟩
  refine zwk hV [0, 1, 2, 3] rfl ?_
  exact hnx υ hR2 hnυ
set_option maxRecDepth 8000 in
set_option maxHeartbeats 4000000 in
theorem zcs_35 {L p : Nat} {xs : Nat → Int32} {V : Nat → zLo → List Value → zSt → Prop} {σ : zSt} (hV : zOk (zSp 7) (L, xs) mL_law 52 V (fun r _ => r = some (.int 1))) (hR : zRel σ) (hn : σ.2.2.2 = 52) (hp : p + 6 ≤ L) (hL : L ≤ 3072) (hnx : ∀ υ, zRel υ → υ.2.2.2 = 52 → V 1223 [(0, .ref zsc), (1, .ref 0), (2, .ref 30), (3, .int (nI p))] [] υ) : V 1209 [(0, .ref zsc), (1, .ref 0), (2, .ref 30), (3, .int (nI p))] [] σ := by
  have hI := hR.1
  refine zq (σ := σ) hV hI hn 2 ?_
  show zSp _ 116 [.ref 0] σ (fun r_z σ' => σ'.2.2.2 = σ.2.2.2 + zAl 116 → V 1213 [(0, .ref zsc), (1, .ref 0), (2, .ref 30), (3, .int (nI p))] (r_z.toList ++ []) σ')
  refine L_digest hR (fun rsu τ hIτ ans_z en => ?_)
  have hnτ : τ.2.2.2 = 52 := en.trans (by rw [hn]; rfl)
  refine zq (σ := τ) hV hIτ hnτ 2 ?_
  show zSp _ 195 [.ref 30] τ (fun r_z σ' => σ'.2.2.2 = τ.2.2.2 + zAl 195 → V 1217 [(0, .ref zsc), (1, .ref 0), (2, .ref 30), (3, .int (nI p))] (r_z.toList ++ [.long rsu]) σ')
  refine ans_z _ (fun υ hR2 en2 => ?_)
  have hnυ : υ.2.2.2 = 52 := en2.trans (by rw [hnτ]; rfl)
  have hIυ := hR2.1
  refine zq (σ := υ) hV hIυ hnυ 2 ?_
  show ((lg_cmp rsu rsu) = 0 → V 1223 [(0, .ref zsc), (1, .ref 0), (2, .ref 30), (3, .int (nI p))] [] υ) ∧ (¬ (lg_cmp rsu rsu) = 0 → V 1221 [(0, .ref zsc), (1, .ref 0), (2, .ref 30), (3, .int (nI p))] [] υ)
  refine ⟨fun _ => ?_, fun hc_z => absurd (zcmp_eq.mpr rfl) hc_z⟩
  refine zwk hV [0, 1, 2, 3] rfl ?_
  exact hnx υ hR2 hnυ
