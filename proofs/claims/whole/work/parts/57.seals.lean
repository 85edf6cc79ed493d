def zFS (ar mx my px py : Int32) : Int64 := (3 * Int32.toInt64 ar * Int32.toInt64 px - 8 * Int32.toInt64 mx) * (3 * Int32.toInt64 ar * Int32.toInt64 px - 8 * Int32.toInt64 mx) + (3 * Int32.toInt64 ar * Int32.toInt64 py - 8 * Int32.toInt64 my) * (3 * Int32.toInt64 ar * Int32.toInt64 py - 8 * Int32.toInt64 my)
theorem zPull_FS {ar mx my px py w : Int32} : zPull ar mx my px py w = Int32.toInt64 w * Int32.toInt64 w * zFS ar mx my px py := rfl
def zSlM (ar : Int32) (q s : Int64) : Prop := 3000000000 < 3 * Int32.toInt64 ar * s ∨ q ≤ (3 * Int32.toInt64 ar * s) * (3 * Int32.toInt64 ar * s)
theorem zdiv64 {x y : Int64} (hx : 0 ≤ x.toInt) (hy : 0 < y.toInt) : (x / y).toInt = x.toInt / y.toInt := by
  have h1 := zR64 x
  rw [Int64.toInt_div, Int.tdiv_eq_ediv_of_nonneg hx]
  have h2 : 0 ≤ x.toInt / y.toInt := Int.ediv_nonneg hx (by omega)
  have h3 : x.toInt / y.toInt ≤ x.toInt := Int.ediv_le_self _ hx
  exact Int.bmod_eq_of_le (by omega) (by omega)
theorem zby {a : Int32} (h : 0 < a.toInt ∧ a.toInt ≤ 18000) : (3 * Int32.toInt64 a).toInt = 3 * a.toInt := by
  have e_z : (3 : Int64).toInt = 3 := rfl
  rw [zmul64 (by rw [zL, e_z]; omega), zL, e_z]
theorem zby0 {a : Int32} (h : 0 < a.toInt ∧ a.toInt ≤ 18000) : ¬ (3 * Int32.toInt64 a) = 0 := by
  intro c_z
  have := zby h
  rw [c_z] at this
  have e_z : (0 : Int64).toInt = 0 := rfl
  omega
/-- the least number whose square is q or above -/
def zRoot (q r : Int64) : Prop := 0 ≤ r.toInt ∧ r.toInt ≤ 2000000000 ∧ q.toInt ≤ r.toInt * r.toInt ∧ ∀ t : Int, 0 ≤ t → t < r.toInt → t * t < q.toInt
theorem zTu_b {n i : Nat} {X Y : Nat → Int32} (hB : zHB n X Y) (hi : i < n) : zBt (-1800) 1800 (zTu n X Y i) := by
  have hx := zNx_lt hi
  have h1 := zmulB2 (A := 30) (B := 30) (hB i hi).1 (hB _ hx).2 (by decide)
  have h2 := zmulB2 (A := 30) (B := 30) (hB i hi).2 (hB _ hx).1 (by decide)
  exact (zsubB (A := 900) (B := 900) h1 h2 (by decide)).2
theorem zAr_b {n : Nat} {X Y : Nat → Int32} (hn : n ≤ 10) (hB : zHB n X Y) : ∀ i, i ≤ n → zBt (-(1800 * i)) (1800 * i) (zAr n X Y i) ∧ zBt (-(108000 * i)) (108000 * i) (zMx n X Y i) ∧ zBt (-(108000 * i)) (108000 * i) (zMy n X Y i) := by
  intro i_z
  induction i_z with
  | zero =>
    intro _
    have c1_z : zBt (-(1800 * ((0 : Nat) : Int))) (1800 * ((0 : Nat) : Int)) (0 : Int32) := ⟨by decide, by decide⟩
    have c2_z : zBt (-(108000 * ((0 : Nat) : Int))) (108000 * ((0 : Nat) : Int)) (0 : Int32) := ⟨by decide, by decide⟩
    exact ⟨c1_z, c2_z, c2_z⟩
  | succ i_z ih_z =>
    intro hi_z
    obtain ⟨a1_z, a2, a3⟩ := ih_z (by omega)
    have ht := zTu_b hB (show i_z < n by omega)
    have hx := zNx_lt (show i_z < n by omega)
    have s1_z := (zaddB (A := 30) (B := 30) (hB i_z (by omega)).1 (hB _ hx).1 (by decide)).2
    have s2_z := (zaddB (A := 30) (B := 30) (hB i_z (by omega)).2 (hB _ hx).2 (by decide)).2
    have m1_z := zmulB2 (A := 60) (B := 1800) s1_z ht (by decide)
    have m2_z := zmulB2 (A := 60) (B := 1800) s2_z ht (by decide)
    unfold zAr zMx zMy
    unfold zBt at *
    refine ⟨?_, ?_, ?_⟩
    · rw [zadd (by omega)]; omega
    · rw [zadd (by omega)]; omega
    · rw [zadd (by omega)]; omega
theorem zdx_b {ar mx px : Int32} (h1 : zBt (-18000) 18000 ar) (h2 : zBt (-1080000) 1080000 mx) (h3 : zBt (-1000) 1000 px) : -62640000 ≤ (3 * Int32.toInt64 ar * Int32.toInt64 px - 8 * Int32.toInt64 mx).toInt ∧ (3 * Int32.toInt64 ar * Int32.toInt64 px - 8 * Int32.toInt64 mx).toInt ≤ 62640000 := by
  unfold zBt at *
  have e3_z : (3 : Int64).toInt = 3 := rfl
  have e8 : (8 : Int64).toInt = 8 := rfl
  have q1_z : (3 * Int32.toInt64 ar).toInt = 3 * ar.toInt := by rw [zmul64 (by rw [zL, e3_z]; omega), zL, e3_z]
  have hp := zPB (x := 3 * ar.toInt) (y := px.toInt) (A := 54000) (B := 1000) (by omega) (by omega)
  have q2_z : (3 * Int32.toInt64 ar * Int32.toInt64 px).toInt = 3 * ar.toInt * px.toInt := by rw [zmul64 (by rw [q1_z, zL]; omega), q1_z, zL]
  have q3_z : (8 * Int32.toInt64 mx).toInt = 8 * mx.toInt := by rw [zmul64 (by rw [zL, e8]; omega), zL, e8]
  rw [zsub64 (by rw [q2_z, q3_z]; omega), q2_z, q3_z]
  omega
theorem zsq_b {x : Int64} {A : Int} (h : -A ≤ x.toInt ∧ x.toInt ≤ A) (hA : A * A ≤ 9223372036854775807) : (x * x).toInt = x.toInt * x.toInt ∧ 0 ≤ x.toInt * x.toInt ∧ x.toInt * x.toInt ≤ A * A := by
  have hp := zPB h h
  refine ⟨zmul64 (by omega), ?_, by omega⟩
  rcases Int.le_total 0 x.toInt with q_z | q_z
  · exact Int.mul_nonneg q_z q_z
  · exact Int.mul_nonneg_of_nonpos_of_nonpos q_z q_z
theorem zPull_b {ar mx my px py w : Int32} (h1 : zBt (-18000) 18000 ar) (h2 : zBt (-1080000) 1080000 mx) (h2' : zBt (-1080000) 1080000 my) (h3 : zBt (-1000) 1000 px) (h3' : zBt (-1000) 1000 py) (hw : zBt 1 20 w) : 0 ≤ (zPull ar mx my px py w).toInt ∧ (zPull ar mx my px py w).toInt ≤ 4000000000000000000 := by
  obtain ⟨a1_z, a2, a3⟩ := zsq_b (zdx_b h1 h2 h3) (by decide)
  obtain ⟨b1, b2, b3⟩ := zsq_b (zdx_b h1 h2' h3') (by decide)
  have ef : (zFS ar mx my px py).toInt = (3 * Int32.toInt64 ar * Int32.toInt64 px - 8 * Int32.toInt64 mx).toInt * (3 * Int32.toInt64 ar * Int32.toInt64 px - 8 * Int32.toInt64 mx).toInt + (3 * Int32.toInt64 ar * Int32.toInt64 py - 8 * Int32.toInt64 my).toInt * (3 * Int32.toInt64 ar * Int32.toInt64 py - 8 * Int32.toInt64 my).toInt := by
    unfold zFS; rw [zadd64 (by rw [a1_z, b1]; omega), a1_z, b1]
  have hf : 0 ≤ (zFS ar mx my px py).toInt ∧ (zFS ar mx my px py).toInt ≤ 7847539200000000 := by rw [ef]; omega
  unfold zBt at hw
  obtain ⟨c1_z, c2_z, c3_z⟩ := zsq_b (x := Int32.toInt64 w) (A := 20) (by rw [zL]; omega) (by decide)
  have hp := zPB (x := (Int32.toInt64 w).toInt * (Int32.toInt64 w).toInt) (y := (zFS ar mx my px py).toInt) (A := 400) (B := 7847539200000000) (by omega) (by omega)
  rw [zPull_FS, zmul64 (by rw [c1_z]; omega), c1_z]
  exact ⟨Int.mul_nonneg c2_z hf.1, by omega⟩
theorem zceil {R b s : Int} (hb : 0 < b) : (R + b - 1) / b ≤ s ↔ R ≤ b * s := by
  have h1 := Int.mul_ediv_self_le (x := R + b - 1) (k := b) (by omega)
  have h2 := Int.lt_mul_ediv_self_add (x := R + b - 1) (k := b) hb
  constructor
  · intro h_z
    have := Int.mul_le_mul_of_nonneg_left h_z (show 0 ≤ b by omega)
    omega
  · intro h_z
    refine Int.not_lt.mp (fun q_z => ?_)
    have h3 := Int.mul_le_mul_of_nonneg_left (show s + 1 ≤ (R + b - 1) / b by omega) (show 0 ≤ b by omega)
    rw [Int.mul_add, Int.mul_one] at h3
    omega
theorem zStr_i {ar s : Int32} (h : 0 < ar.toInt ∧ ar.toInt ≤ 18000) (hs : 0 ≤ s.toInt ∧ s.toInt ≤ 1073741824) : (zStr ar s).toInt = 3 * ar.toInt * s.toInt ∧ 0 ≤ 3 * ar.toInt * s.toInt := by
  have hp := zPB (x := 3 * ar.toInt) (y := s.toInt) (A := 54000) (B := 1073741824) (by omega) (by omega)
  refine ⟨?_, Int.mul_nonneg (by omega) hs.1⟩
  unfold zStr
  rw [zmul64 (by rw [zby h, zL]; omega), zby h, zL]
theorem zP_iff {ar s : Int32} {q r : Int64} (h : 0 < ar.toInt ∧ ar.toInt ≤ 18000) (hs : 0 ≤ s.toInt ∧ s.toInt ≤ 1073741824) (hr : zRoot q r) : (2000000000 ≤ zStr ar s ∨ q ≤ zStr ar s * zStr ar s) ↔ (r.toInt + 3 * ar.toInt - 1) / (3 * ar.toInt) ≤ s.toInt := by
  obtain ⟨e_z, h0⟩ := zStr_i h hs
  obtain ⟨r1_z, r2, r3, r4⟩ := hr
  rw [zceil (by omega)]
  have e2_z : (2000000000 : Int64).toInt = 2000000000 := rfl
  rw [zle64, e2_z, e_z]
  by_cases c_z : 2000000000 ≤ 3 * ar.toInt * s.toInt
  · exact ⟨fun _ => by omega, fun _ => Or.inl c_z⟩
  · obtain ⟨s1_z, s2_z, s3_z⟩ := zsq_b (x := zStr ar s) (A := 2000000000) (by rw [e_z]; omega) (by decide)
    rw [zle64, s1_z, e_z]
    constructor
    · rintro (q1_z | q1_z)
      · omega
      · refine Int.not_lt.mp (fun q2_z => ?_)
        have := r4 _ h0 q2_z
        omega
    · intro q1_z
      refine Or.inr ?_
      have := Int.mul_le_mul q1_z q1_z r1_z h0
      omega
theorem zLs_eq {ar : Int32} {q r : Int64} (h : 0 < ar.toInt ∧ ar.toInt ≤ 18000) (hr : zRoot q r) : ∀ (m : Nat) (lo hi : Int32), 0 ≤ lo.toInt → hi.toInt ≤ 1073741824 → lo.toInt ≤ (r.toInt + 3 * ar.toInt - 1) / (3 * ar.toInt) → (r.toInt + 3 * ar.toInt - 1) / (3 * ar.toInt) ≤ hi.toInt → hi.toInt - lo.toInt < 2 ^ m → (zLs ar q m lo hi).toInt = (r.toInt + 3 * ar.toInt - 1) / (3 * ar.toInt) := by
  intro m
  induction m with
  | zero =>
    intro lo hi h1 h2 h3 h4 h5
    have e0_z : (2 : Int) ^ 0 = 1 := rfl
    show hi.toInt = _
    omega
  | succ m ih_z =>
    intro lo hi h1 h2 h3 h4 h5
    rw [Int.pow_succ] at h5
    unfold zLs
    by_cases c_z : hi ≤ lo
    · rw [if_pos c_z]; rw [zle] at c_z; omega
    · rw [if_neg c_z]
      rw [zle] at c_z
      have z2 : (2 : Int32).toInt = 2 := rfl
      have z1 : (1 : Int32).toInt = 1 := rfl
      have d1_z : (hi - lo).toInt = hi.toInt - lo.toInt := zsub (by omega)
      have d2_z : ((hi - lo) / 2).toInt = (hi.toInt - lo.toInt) / 2 := by
        rw [Int32.toInt_div, d1_z, z2, Int.tdiv_eq_ediv_of_nonneg (by omega)]
        exact Int.bmod_eq_of_le (by omega) (by omega)
      have d3_z : (lo + (hi - lo) / 2).toInt = lo.toInt + (hi.toInt - lo.toInt) / 2 := by rw [zadd (by rw [d2_z]; omega), d2_z]
      have d4_z : (lo + (hi - lo) / 2 + 1).toInt = lo.toInt + (hi.toInt - lo.toInt) / 2 + 1 := by rw [zadd (by rw [d3_z, z1]; omega), d3_z, z1]
      have hP := zP_iff (s := lo + (hi - lo) / 2) h (by rw [d3_z]; omega) hr
      by_cases c2_z : 2000000000 ≤ zStr ar (lo + (hi - lo) / 2) ∨ q ≤ zStr ar (lo + (hi - lo) / 2) * zStr ar (lo + (hi - lo) / 2)
      · rw [if_pos c2_z]
        have := hP.mp c2_z
        rw [d3_z] at this
        exact ih_z _ _ h1 (by rw [d3_z]; omega) h3 (by rw [d3_z]; omega) (by rw [d3_z]; omega)
      · rw [if_neg c2_z]
        have : ¬ _ := fun x_z => c2_z (hP.mpr x_z)
        rw [d3_z] at this
        exact ih_z _ _ (by rw [d4_z]; omega) h2 (by rw [d4_z]; omega) h4 (by rw [d4_z]; omega)
theorem zSeal {ar : Int32} {q r : Int64} (h : 0 < ar.toInt ∧ ar.toInt ≤ 18000) (hr : zRoot q r) : Int64.toInt32 ((r + 3 * Int32.toInt64 ar - 1) / (3 * Int32.toInt64 ar)) = zLs ar q 31 0 1073741824 := by
  obtain ⟨r1_z, r2, r3, r4⟩ := id hr
  have z1 : (1 : Int64).toInt = 1 := rfl
  have e1_z : (r + 3 * Int32.toInt64 ar).toInt = r.toInt + 3 * ar.toInt := by rw [zadd64 (by rw [zby h]; omega), zby h]
  have e2_z : (r + 3 * Int32.toInt64 ar - 1).toInt = r.toInt + 3 * ar.toInt - 1 := by rw [zsub64 (by rw [e1_z, z1]; omega), e1_z, z1]
  have e3_z : ((r + 3 * Int32.toInt64 ar - 1) / (3 * Int32.toInt64 ar)).toInt = (r.toInt + 3 * ar.toInt - 1) / (3 * ar.toInt) := by rw [zdiv64 (by rw [e2_z]; omega) (by rw [zby h]; omega), e2_z, zby h]
  have c0_z : 0 ≤ (r.toInt + 3 * ar.toInt - 1) / (3 * ar.toInt) := Int.ediv_nonneg (by omega) (by omega)
  have c1_z : (r.toInt + 3 * ar.toInt - 1) / (3 * ar.toInt) ≤ 1073741824 := (zceil (by omega)).mpr (by omega)
  have m0_z : (0 : Int32).toInt = 0 := rfl
  have m1_z : (1073741824 : Int32).toInt = 1073741824 := rfl
  have p31 : (2 : Int) ^ 31 = 2147483648 := by decide
  rw [zeq, Int64.toInt_toInt32, e3_z, zLs_eq h hr 31 0 1073741824 (by rw [m0_z]; omega) (by rw [m1_z]; omega) (by rw [m0_z]; omega) (by rw [m1_z]; omega) (by rw [m0_z, m1_z, p31]; omega)]
  exact Int.bmod_eq_of_le (by omega) (by omega)
theorem zSld_M {ar s : Int32} {q : Int64} (h : 0 < ar.toInt ∧ ar.toInt ≤ 18000) (hs : 0 ≤ s.toInt ∧ s.toInt ≤ 100000) (hq : q.toInt ≤ 4000000000000000000) : zSld ar q s ↔ zSlM ar q (Int32.toInt64 s) := by
  obtain ⟨e_z, h0⟩ := zStr_i h (s := s) (by omega)
  have hp := zPB (x := 3 * ar.toInt) (y := s.toInt) (A := 54000) (B := 100000) (by omega) (by omega)
  unfold zSld zSlM
  show (2000000000 ≤ zStr ar s ∨ q ≤ zStr ar s * zStr ar s) ↔ (3000000000 < zStr ar s ∨ q ≤ zStr ar s * zStr ar s)
  have e2_z : (2000000000 : Int64).toInt = 2000000000 := rfl
  have e3_z : (3000000000 : Int64).toInt = 3000000000 := rfl
  rw [zle64, zlt64, e2_z, e3_z, e_z]
  by_cases c_z : 3000000000 < 3 * ar.toInt * s.toInt
  · exact ⟨fun _ => Or.inl c_z, fun _ => Or.inl (by omega)⟩
  · obtain ⟨s1_z, s2_z, s3_z⟩ := zsq_b (x := zStr ar s) (A := 3000000000) (by rw [e_z]; omega) (by decide)
    constructor
    · rintro (q1_z | q1_z)
      · refine Or.inr ?_
        rw [zle64, s1_z, e_z]
        have := Int.mul_le_mul q1_z q1_z (by omega) h0
        omega
      · exact Or.inr q1_z
    · rintro (q1_z | q1_z)
      · exact absurd q1_z c_z
      · exact Or.inr q1_z
theorem zSd_012 {n : Nat} {X Y : Nat → Int32} {px py : Int32} : ∀ (k i : Nat) (o : Bool), zSd n X Y px py k i o = 0 ∨ zSd n X Y px py k i o = 1 ∨ zSd n X Y px py k i o = 2 := by
  intro k
  induction k with
  | zero => intro i o; cases o; exact Or.inl rfl; exact Or.inr (Or.inl rfl)
  | succ k ih_z =>
    intro i o
    unfold zSd
    split
    · exact Or.inr (Or.inr rfl)
    · exact ih_z _ _
theorem zSide_pos {n : Nat} {X Y : Nat → Int32} {px py : Int32} : zSide n X Y px py ≤ 0 ↔ zSide n X Y px py = 0 := by
  rcases zSd_012 (n := n) (X := X) (Y := Y) (px := px) (py := py) n 0 false with h_z | h_z | h_z <;> unfold zSide <;> rw [h_z] <;> decide
set_option maxRecDepth 8000 in
set_option maxHeartbeats 4000000 in
theorem farSquare_M {d : Nat} {σ : zSt} {K : Option Value → zSt → Prop} {x y : Int32} {n : Nat} (hI : zQI (kR 30 52) σ.2.2) (hn : σ.1 30 0 = nI n) (hn10 : n ≤ 10) (hK : K (some (.long (zFS (zAr n (σ.1 31) (σ.1 32) n) (zMx n (σ.1 31) (σ.1 32) n) (zMy n (σ.1 31) (σ.1 32) n) x y))) σ) : zSp (d + 4) mX9_farSquare [.ref 30, .int x, .int y] σ K := by
  refine ⟨⟨by decide, Nat.le_of_ble_eq_true rfl⟩, fun V hV => ?_⟩
  refine zq (σ := σ) hV hI rfl 3 ?_
  show zSp _ 135 [.ref 30] σ (fun r_z σ' => σ'.2.2.2 = σ.2.2.2 + zAl 135 → V 7 [(0, .ref 30), (1, .int x), (2, .int y)] (r_z.toList ++ [.long 3]) σ')
  refine area_M hI hn hn10 (fun _ => ?_)
  refine zq (σ := σ) hV hI rfl 10 ?_
  show zSp _ 136 [.ref 30] σ (fun r_z σ' => σ'.2.2.2 = σ.2.2.2 + zAl 136 → V 21 [(3, .long (3 * (Int32.toInt64 (zAr n (σ.1 31) (σ.1 32) n)))), (0, .ref 30), (1, .int x), (2, .int y)] (r_z.toList ++ [.long 8, .long ((3 * (Int32.toInt64 (zAr n (σ.1 31) (σ.1 32) n))) * (Int32.toInt64 x))]) σ')
  refine middleX_M hI hn hn10 (fun _ => ?_)
  refine zq (σ := σ) hV hI rfl 11 ?_
  show zSp _ 137 [.ref 30] σ (fun r_z σ' => σ'.2.2.2 = σ.2.2.2 + zAl 137 → V 37 [(5, .long (((3 * (Int32.toInt64 (zAr n (σ.1 31) (σ.1 32) n))) * (Int32.toInt64 x)) - (8 * (Int32.toInt64 (zMx n (σ.1 31) (σ.1 32) n))))), (3, .long (3 * (Int32.toInt64 (zAr n (σ.1 31) (σ.1 32) n)))), (0, .ref 30), (1, .int x), (2, .int y)] (r_z.toList ++ [.long 8, .long ((3 * (Int32.toInt64 (zAr n (σ.1 31) (σ.1 32) n))) * (Int32.toInt64 y))]) σ')
  refine middleY_M hI hn hn10 (fun _ => ?_)
  refine zq (σ := σ) hV hI rfl 12 ?_
  show K (some (.long (((((3 * (Int32.toInt64 (zAr n (σ.1 31) (σ.1 32) n))) * (Int32.toInt64 x)) - (8 * (Int32.toInt64 (zMx n (σ.1 31) (σ.1 32) n)))) * (((3 * (Int32.toInt64 (zAr n (σ.1 31) (σ.1 32) n))) * (Int32.toInt64 x)) - (8 * (Int32.toInt64 (zMx n (σ.1 31) (σ.1 32) n))))) + ((((3 * (Int32.toInt64 (zAr n (σ.1 31) (σ.1 32) n))) * (Int32.toInt64 y)) - (8 * (Int32.toInt64 (zMy n (σ.1 31) (σ.1 32) n)))) * (((3 * (Int32.toInt64 (zAr n (σ.1 31) (σ.1 32) n))) * (Int32.toInt64 y)) - (8 * (Int32.toInt64 (zMy n (σ.1 31) (σ.1 32) n)))))))) σ
  exact hK
set_option maxRecDepth 8000 in
set_option maxHeartbeats 4000000 in
theorem lifted_M {d : Nat} {σ : zSt} {K : Option Value → zSt → Prop} {x y w : Int32} {s : Int64} {n : Nat} (hI : zQI (kR 30 52) σ.2.2) (hn : σ.1 30 0 = nI n) (hn10 : n ≤ 10) (h1 : zSlM (zAr n (σ.1 31) (σ.1 32) n) (zPull (zAr n (σ.1 31) (σ.1 32) n) (zMx n (σ.1 31) (σ.1 32) n) (zMy n (σ.1 31) (σ.1 32) n) x y w) s → K (some (.int 1)) σ) (h0 : ¬ zSlM (zAr n (σ.1 31) (σ.1 32) n) (zPull (zAr n (σ.1 31) (σ.1 32) n) (zMx n (σ.1 31) (σ.1 32) n) (zMy n (σ.1 31) (σ.1 32) n) x y w) s → K (some (.int 0)) σ) : zSp (d + 5) mX9_lifted [.ref 30, .int x, .int y, .int w, .long s] σ K := by
  refine ⟨⟨by decide, Nat.le_of_ble_eq_true rfl⟩, fun V hV => ?_⟩
  refine zq (σ := σ) hV hI rfl 3 ?_
  show zSp _ 135 [.ref 30] σ (fun r_z σ' => σ'.2.2.2 = σ.2.2.2 + zAl 135 → V 7 [(0, .ref 30), (1, .int x), (2, .int y), (3, .int w), (4, .long s)] (r_z.toList ++ [.long 3]) σ')
  refine area_M hI hn hn10 (fun _ => ?_)
  refine zq (σ := σ) hV hI rfl 9 ?_
  show (0 < (lg_cmp ((3 * (Int32.toInt64 (zAr n (σ.1 31) (σ.1 32) n))) * s) 3000000000) → V 44 [(6, .long ((3 * (Int32.toInt64 (zAr n (σ.1 31) (σ.1 32) n))) * s)), (0, .ref 30), (1, .int x), (2, .int y), (3, .int w), (4, .long s)] [] σ) ∧ (¬ 0 < (lg_cmp ((3 * (Int32.toInt64 (zAr n (σ.1 31) (σ.1 32) n))) * s) 3000000000) → V 23 [(6, .long ((3 * (Int32.toInt64 (zAr n (σ.1 31) (σ.1 32) n))) * s)), (0, .ref 30), (1, .int x), (2, .int y), (3, .int w), (4, .long s)] [] σ)
  refine ⟨fun h_20 => ?_, fun h_20 => ?_⟩
  · skip
    refine zq (σ := σ) hV hI rfl 3 ?_
    show ((1 : Int32) = 0 ∨ (1 : Int32) = 1) ∧ K (some (.int 1)) σ
    refine ⟨by decide, ?_⟩
    first | exact h1 (Or.inl (zcmp_gt.mp h_20)) | exact h1 (Or.inr (Int64.not_lt.mp (fun q_z => h_41 (zcmp_gt.mpr q_z))))
  · skip
    refine zq (σ := σ) hV hI rfl 9 ?_
    show zSp _ 166 [.ref 30, .int x, .int y] σ (fun r_z σ' => σ'.2.2.2 = σ.2.2.2 + zAl 166 → V 34 [(6, .long ((3 * (Int32.toInt64 (zAr n (σ.1 31) (σ.1 32) n))) * s)), (0, .ref 30), (1, .int x), (2, .int y), (3, .int w), (4, .long s)] (r_z.toList ++ [.long ((Int32.toInt64 w) * (Int32.toInt64 w))]) σ')
    refine farSquare_M hI hn hn10 (fun _ => ?_)
    refine zq (σ := σ) hV hI rfl 6 ?_
    show (0 < (lg_cmp (((Int32.toInt64 w) * (Int32.toInt64 w)) * (zFS (zAr n (σ.1 31) (σ.1 32) n) (zMx n (σ.1 31) (σ.1 32) n) (zMy n (σ.1 31) (σ.1 32) n) x y)) (((3 * (Int32.toInt64 (zAr n (σ.1 31) (σ.1 32) n))) * s) * ((3 * (Int32.toInt64 (zAr n (σ.1 31) (σ.1 32) n))) * s))) → V 48 [(6, .long ((3 * (Int32.toInt64 (zAr n (σ.1 31) (σ.1 32) n))) * s)), (0, .ref 30), (1, .int x), (2, .int y), (3, .int w), (4, .long s)] [] σ) ∧ (¬ 0 < (lg_cmp (((Int32.toInt64 w) * (Int32.toInt64 w)) * (zFS (zAr n (σ.1 31) (σ.1 32) n) (zMx n (σ.1 31) (σ.1 32) n) (zMy n (σ.1 31) (σ.1 32) n) x y)) (((3 * (Int32.toInt64 (zAr n (σ.1 31) (σ.1 32) n))) * s) * ((3 * (Int32.toInt64 (zAr n (σ.1 31) (σ.1 32) n))) * s))) → V 44 [(6, .long ((3 * (Int32.toInt64 (zAr n (σ.1 31) (σ.1 32) n))) * s)), (0, .ref 30), (1, .int x), (2, .int y), (3, .int w), (4, .long s)] [] σ)
    refine ⟨fun h_41 => ?_, fun h_41 => ?_⟩
    · skip
      refine zq (σ := σ) hV hI rfl 2 ?_
      show ((0 : Int32) = 0 ∨ (0 : Int32) = 1) ∧ K (some (.int 0)) σ
      refine ⟨by decide, ?_⟩
      exact h0 (fun q_z => q_z.elim (fun q_z => h_20 (zcmp_gt.mpr q_z)) (fun q_z => Int64.not_lt.mpr q_z (zcmp_gt.mp h_41)))
    · skip
      refine zq (σ := σ) hV hI rfl 3 ?_
      show ((1 : Int32) = 0 ∨ (1 : Int32) = 1) ∧ K (some (.int 1)) σ
      refine ⟨by decide, ?_⟩
      first | exact h1 (Or.inl (zcmp_gt.mp h_20)) | exact h1 (Or.inr (Int64.not_lt.mp (fun q_z => h_41 (zcmp_gt.mpr q_z))))
set_option maxRecDepth 8000 in
set_option maxHeartbeats 4000000 in
theorem lifts_M {d : Nat} {σ : zSt} {K : Option Value → zSt → Prop} {x y w s : Int32} {n : Nat} (hI : zQI (kR 30 52) σ.2.2) (hn : σ.1 30 0 = nI n) (hn10 : n ≤ 10) (hB : ∀ j, j < n → zBt (-30) 30 (σ.1 31 j) ∧ zBt (-30) 30 (σ.1 32 j)) (hBad : ¬ (zBt (-1000) 1000 x ∧ zBt (-1000) 1000 y ∧ zBt 1 20 w ∧ zBt 0 100000 s) → K (some (.int (-2))) σ) (h1 : (zBt (-1000) 1000 x ∧ zBt (-1000) 1000 y ∧ zBt 1 20 w ∧ zBt 0 100000 s) → ¬ (zSide n (σ.1 31) (σ.1 32) x y) = 0 → zSlM (zAr n (σ.1 31) (σ.1 32) n) (zPull (zAr n (σ.1 31) (σ.1 32) n) (zMx n (σ.1 31) (σ.1 32) n) (zMy n (σ.1 31) (σ.1 32) n) x y w) (Int32.toInt64 s) → K (some (.int 1)) σ) (h0 : (zBt (-1000) 1000 x ∧ zBt (-1000) 1000 y ∧ zBt 1 20 w ∧ zBt 0 100000 s) → ¬ (¬ (zSide n (σ.1 31) (σ.1 32) x y) = 0 ∧ zSlM (zAr n (σ.1 31) (σ.1 32) n) (zPull (zAr n (σ.1 31) (σ.1 32) n) (zMx n (σ.1 31) (σ.1 32) n) (zMy n (σ.1 31) (σ.1 32) n) x y w) (Int32.toInt64 s)) → K (some (.int 0)) σ) : zSp (d + 6) mX9_lifts [.ref 30, .int x, .int y, .int w, .int s] σ K := by
  refine ⟨⟨by decide, Nat.le_of_ble_eq_true rfl⟩, fun V hV => ?_⟩
  refine zq (σ := σ) hV hI rfl 3 ?_
  show zSp _ 142 [.int x, .int y] σ (fun r_z σ' => σ'.2.2.2 = σ.2.2.2 + zAl 142 → V 5 [(0, .ref 30), (1, .int x), (2, .int y), (3, .int w), (4, .int s)] (r_z.toList ++ []) σ')
  refine isPlace_M (fun hb1 _ => ?_) (fun hb1 _ => ?_)
  · skip
    refine zq (σ := σ) hV hI rfl 1 ?_
    show ((1 : Int32) = 0 → V 33 [(0, .ref 30), (1, .int x), (2, .int y), (3, .int w), (4, .int s)] [] σ) ∧ (¬ (1 : Int32) = 0 → V 8 [(0, .ref 30), (1, .int x), (2, .int y), (3, .int w), (4, .int s)] [] σ)
    refine ⟨fun hc_z => absurd hc_z (by decide), fun _ => ?_⟩
    refine zq (σ := σ) hV hI rfl 5 ?_
    show zSp _ 131 [.long (Int32.toInt64 w), .long 1, .long 20] σ (fun r_z σ' => σ'.2.2.2 = σ.2.2.2 + zAl 131 → V 17 [(0, .ref 30), (1, .int x), (2, .int y), (3, .int w), (4, .int s)] (r_z.toList ++ []) σ')
    refine in_M (lo := 1) (hi := 20) (by decide) (by decide) (fun hb2 _ => ?_) (fun hb2 _ => ?_)
    · skip
      refine zq (σ := σ) hV hI rfl 1 ?_
      show ((1 : Int32) = 0 → V 33 [(0, .ref 30), (1, .int x), (2, .int y), (3, .int w), (4, .int s)] [] σ) ∧ (¬ (1 : Int32) = 0 → V 20 [(0, .ref 30), (1, .int x), (2, .int y), (3, .int w), (4, .int s)] [] σ)
      refine ⟨fun hc_z => absurd hc_z (by decide), fun _ => ?_⟩
      refine zq (σ := σ) hV hI rfl 5 ?_
      show zSp _ 131 [.long (Int32.toInt64 s), .long 0, .long 100000] σ (fun r_z σ' => σ'.2.2.2 = σ.2.2.2 + zAl 131 → V 30 [(0, .ref 30), (1, .int x), (2, .int y), (3, .int w), (4, .int s)] (r_z.toList ++ []) σ')
      refine in_M (lo := 0) (hi := 100000) (by decide) (by decide) (fun hb3 _ => ?_) (fun hb3 _ => ?_)
      · skip
        refine zq (σ := σ) hV hI rfl 1 ?_
        show (¬ (1 : Int32) = 0 → V 36 [(0, .ref 30), (1, .int x), (2, .int y), (3, .int w), (4, .int s)] [] σ) ∧ (¬ (¬ (1 : Int32) = 0) → V 33 [(0, .ref 30), (1, .int x), (2, .int y), (3, .int w), (4, .int s)] [] σ)
        refine ⟨fun _ => ?_, fun hc_z => absurd (by decide) hc_z⟩
        refine zq (σ := σ) hV hI rfl 4 ?_
        show zSp _ 141 [.ref 30, .int x, .int y] σ (fun r_z σ' => σ'.2.2.2 = σ.2.2.2 + zAl 141 → V 42 [(0, .ref 30), (1, .int x), (2, .int y), (3, .int w), (4, .int s)] (r_z.toList ++ []) σ')
        refine place_M hI hn hn10 hB hb1.1 hb1.2 (fun _ => ?_)
        refine zq (σ := σ) hV hI rfl 1 ?_
        show ((zSide n (σ.1 31) (σ.1 32) x y) ≤ 0 → V 62 [(0, .ref 30), (1, .int x), (2, .int y), (3, .int w), (4, .int s)] [] σ) ∧ (¬ (zSide n (σ.1 31) (σ.1 32) x y) ≤ 0 → V 45 [(0, .ref 30), (1, .int x), (2, .int y), (3, .int w), (4, .int s)] [] σ)
        refine ⟨fun h_42 => ?_, fun h_42 => ?_⟩
        · skip
          refine zq (σ := σ) hV hI rfl 2 ?_
          show K (some (.int 0)) σ
          have hv : (zBt (-1000) 1000 x ∧ zBt (-1000) 1000 y ∧ zBt 1 20 w ∧ zBt 0 100000 s) := ⟨hb1.1, hb1.2, hb2, hb3⟩
          exact h0 hv (fun q_z => q_z.1 (zSide_pos.mp h_42))
        · skip
          refine zq (σ := σ) hV hI rfl 7 ?_
          show zSp _ 167 [.ref 30, .int x, .int y, .int w, .long (Int32.toInt64 s)] σ (fun r_z σ' => σ'.2.2.2 = σ.2.2.2 + zAl 167 → V 55 [(0, .ref 30), (1, .int x), (2, .int y), (3, .int w), (4, .int s)] (r_z.toList ++ []) σ')
          refine lifted_M hI hn hn10 (fun hb4 _ => ?_) (fun hb4 _ => ?_)
          · skip
            refine zq (σ := σ) hV hI rfl 1 ?_
            show ((1 : Int32) = 0 → V 62 [(0, .ref 30), (1, .int x), (2, .int y), (3, .int w), (4, .int s)] [] σ) ∧ (¬ (1 : Int32) = 0 → V 58 [(0, .ref 30), (1, .int x), (2, .int y), (3, .int w), (4, .int s)] [] σ)
            refine ⟨fun hc_z => absurd hc_z (by decide), fun _ => ?_⟩
            refine zq (σ := σ) hV hI rfl 3 ?_
            show K (some (.int 1)) σ
            have hv : (zBt (-1000) 1000 x ∧ zBt (-1000) 1000 y ∧ zBt 1 20 w ∧ zBt 0 100000 s) := ⟨hb1.1, hb1.2, hb2, hb3⟩
            exact h1 hv (fun q_z => h_42 (zSide_pos.mpr q_z)) hb4
          · skip
            refine zq (σ := σ) hV hI rfl 1 ?_
            show ((0 : Int32) = 0 → V 62 [(0, .ref 30), (1, .int x), (2, .int y), (3, .int w), (4, .int s)] [] σ) ∧ (¬ (0 : Int32) = 0 → V 58 [(0, .ref 30), (1, .int x), (2, .int y), (3, .int w), (4, .int s)] [] σ)
            refine ⟨fun _ => ?_, fun hc_z => absurd (by decide) hc_z⟩
            refine zq (σ := σ) hV hI rfl 2 ?_
            show K (some (.int 0)) σ
            have hv : (zBt (-1000) 1000 x ∧ zBt (-1000) 1000 y ∧ zBt 1 20 w ∧ zBt 0 100000 s) := ⟨hb1.1, hb1.2, hb2, hb3⟩
            exact h0 hv (fun q_z => hb4 q_z.2)
      · skip
        refine zq (σ := σ) hV hI rfl 1 ?_
        show (¬ (0 : Int32) = 0 → V 36 [(0, .ref 30), (1, .int x), (2, .int y), (3, .int w), (4, .int s)] [] σ) ∧ (¬ (¬ (0 : Int32) = 0) → V 33 [(0, .ref 30), (1, .int x), (2, .int y), (3, .int w), (4, .int s)] [] σ)
        refine ⟨fun hc_z => absurd hc_z (by decide), fun _ => ?_⟩
        refine zq (σ := σ) hV hI rfl 2 ?_
        show K (some (.int (-2))) σ
        exact hBad (fun q_z => hb3 q_z.2.2.2)
    · skip
      refine zq (σ := σ) hV hI rfl 1 ?_
      show ((0 : Int32) = 0 → V 33 [(0, .ref 30), (1, .int x), (2, .int y), (3, .int w), (4, .int s)] [] σ) ∧ (¬ (0 : Int32) = 0 → V 20 [(0, .ref 30), (1, .int x), (2, .int y), (3, .int w), (4, .int s)] [] σ)
      refine ⟨fun _ => ?_, fun hc_z => absurd (by decide) hc_z⟩
      refine zq (σ := σ) hV hI rfl 2 ?_
      show K (some (.int (-2))) σ
      exact hBad (fun q_z => hb2 q_z.2.2.1)
  · skip
    refine zq (σ := σ) hV hI rfl 1 ?_
    show ((0 : Int32) = 0 → V 33 [(0, .ref 30), (1, .int x), (2, .int y), (3, .int w), (4, .int s)] [] σ) ∧ (¬ (0 : Int32) = 0 → V 8 [(0, .ref 30), (1, .int x), (2, .int y), (3, .int w), (4, .int s)] [] σ)
    refine ⟨fun _ => ?_, fun hc_z => absurd (by decide) hc_z⟩
    refine zq (σ := σ) hV hI rfl 2 ?_
    show K (some (.int (-2))) σ
    exact hBad (fun q_z => hb1 ⟨q_z.1, q_z.2.1⟩)
set_option maxRecDepth 8000 in
set_option maxHeartbeats 4000000 in
theorem seal_M {d : Nat} {σ : zSt} {K : Option Value → zSt → Prop} {x y w : Int32} {n : Nat} (hI : zQI (kR 30 52) σ.2.2) (hn : σ.1 30 0 = nI n) (hn10 : n ≤ 10) (hB : ∀ j, j < n → zBt (-30) 30 (σ.1 31 j) ∧ zBt (-30) 30 (σ.1 32 j)) (har : 0 < (zAr n (σ.1 31) (σ.1 32) n).toInt ∧ (zAr n (σ.1 31) (σ.1 32) n).toInt ≤ 18000) (hq : zBt (-1000) 1000 x → zBt (-1000) 1000 y → zBt 1 20 w → (zPull (zAr n (σ.1 31) (σ.1 32) n) (zMx n (σ.1 31) (σ.1 32) n) (zMy n (σ.1 31) (σ.1 32) n) x y w).toInt ≤ 4000000000000000000) (hBad : ¬ (zBt (-1000) 1000 x ∧ zBt (-1000) 1000 y ∧ zBt 1 20 w) → K (some (.int (-2))) σ) (hNot : (zBt (-1000) 1000 x ∧ zBt (-1000) 1000 y ∧ zBt 1 20 w) → (zSide n (σ.1 31) (σ.1 32) x y) = 0 → K (some (.int (-3))) σ) (hOk : (zBt (-1000) 1000 x ∧ zBt (-1000) 1000 y ∧ zBt 1 20 w) → ¬ (zSide n (σ.1 31) (σ.1 32) x y) = 0 → ∀ r, zRoot (zPull (zAr n (σ.1 31) (σ.1 32) n) (zMx n (σ.1 31) (σ.1 32) n) (zMy n (σ.1 31) (σ.1 32) n) x y w) r → K (some (.int (Int64.toInt32 ((r + 3 * Int32.toInt64 (zAr n (σ.1 31) (σ.1 32) n) - 1) / (3 * Int32.toInt64 (zAr n (σ.1 31) (σ.1 32) n)))))) σ) : zSp (d + 5) mX9_seal [.ref 30, .int x, .int y, .int w] σ K := by
  refine ⟨⟨by decide, Nat.le_of_ble_eq_true rfl⟩, fun V hV => ?_⟩
  refine zq (σ := σ) hV hI rfl 3 ?_
  show zSp _ 142 [.int x, .int y] σ (fun r_z σ' => σ'.2.2.2 = σ.2.2.2 + zAl 142 → V 5 [(0, .ref 30), (1, .int x), (2, .int y), (3, .int w)] (r_z.toList ++ []) σ')
  refine isPlace_M (fun hb1 _ => ?_) (fun hb1 _ => ?_)
  · skip
    refine zq (σ := σ) hV hI rfl 1 ?_
    show ((1 : Int32) = 0 → V 20 [(0, .ref 30), (1, .int x), (2, .int y), (3, .int w)] [] σ) ∧ (¬ (1 : Int32) = 0 → V 8 [(0, .ref 30), (1, .int x), (2, .int y), (3, .int w)] [] σ)
    refine ⟨fun hc_z => absurd hc_z (by decide), fun _ => ?_⟩
    refine zq (σ := σ) hV hI rfl 5 ?_
    show zSp _ 131 [.long (Int32.toInt64 w), .long 1, .long 20] σ (fun r_z σ' => σ'.2.2.2 = σ.2.2.2 + zAl 131 → V 17 [(0, .ref 30), (1, .int x), (2, .int y), (3, .int w)] (r_z.toList ++ []) σ')
    refine in_M (lo := 1) (hi := 20) (by decide) (by decide) (fun hb2 _ => ?_) (fun hb2 _ => ?_)
    · skip
      refine zq (σ := σ) hV hI rfl 1 ?_
      show (¬ (1 : Int32) = 0 → V 23 [(0, .ref 30), (1, .int x), (2, .int y), (3, .int w)] [] σ) ∧ (¬ (¬ (1 : Int32) = 0) → V 20 [(0, .ref 30), (1, .int x), (2, .int y), (3, .int w)] [] σ)
      refine ⟨fun _ => ?_, fun hc_z => absurd (by decide) hc_z⟩
      refine zq (σ := σ) hV hI rfl 4 ?_
      show zSp _ 141 [.ref 30, .int x, .int y] σ (fun r_z σ' => σ'.2.2.2 = σ.2.2.2 + zAl 141 → V 29 [(0, .ref 30), (1, .int x), (2, .int y), (3, .int w)] (r_z.toList ++ []) σ')
      refine place_M hI hn hn10 hB hb1.1 hb1.2 (fun _ => ?_)
      refine zq (σ := σ) hV hI rfl 1 ?_
      show (¬ (zSide n (σ.1 31) (σ.1 32) x y) = 0 → V 35 [(0, .ref 30), (1, .int x), (2, .int y), (3, .int w)] [] σ) ∧ (¬ (¬ (zSide n (σ.1 31) (σ.1 32) x y) = 0) → V 32 [(0, .ref 30), (1, .int x), (2, .int y), (3, .int w)] [] σ)
      refine ⟨fun h_29 => ?_, fun h_29 => ?_⟩
      · skip
        refine zq (σ := σ) hV hI rfl 9 ?_
        show zSp _ 166 [.ref 30, .int x, .int y] σ (fun r_z σ' => σ'.2.2.2 = σ.2.2.2 + zAl 166 → V 46 [(0, .ref 30), (1, .int x), (2, .int y), (3, .int w)] (r_z.toList ++ [.long ((Int32.toInt64 w) * (Int32.toInt64 w))]) σ')
        refine farSquare_M hI hn hn10 (fun _ => ?_)
        refine zq (σ := σ) hV hI rfl 2 ?_
        show V 49 [(4, .long (((Int32.toInt64 w) * (Int32.toInt64 w)) * (zFS (zAr n (σ.1 31) (σ.1 32) n) (zMx n (σ.1 31) (σ.1 32) n) (zMy n (σ.1 31) (σ.1 32) n) x y))), (0, .ref 30), (1, .int x), (2, .int y), (3, .int w)] [] σ
        obtain ⟨q_z, hqe⟩ : ∃ q_z, q_z = (((Int32.toInt64 w) * (Int32.toInt64 w)) * (zFS (zAr n (σ.1 31) (σ.1 32) n) (zMx n (σ.1 31) (σ.1 32) n) (zMy n (σ.1 31) (σ.1 32) n) x y)) := ⟨_, rfl⟩
        rw [← hqe]
        have hq4 : q_z.toInt ≤ 4000000000000000000 := by rw [hqe]; exact hq hb1.1 hb1.2 hb2
        refine zq (σ := σ) hV hI rfl 4 ?_
        show V 57 [(8, .long 2000000000), (6, .long 0), (4, .long q_z), (0, .ref 30), (1, .int x), (2, .int y), (3, .int w)] [] σ
        refine zwk hV [3, 4, 5, 6, 2, 1, 0] rfl ?_
        have H_z : ∀ (r_z : Nat) (lo_z hi_z : Int64), hi_z.toInt - lo_z.toInt < r_z → 0 ≤ lo_z.toInt → lo_z.toInt ≤ hi_z.toInt → hi_z.toInt ≤ 2000000000 → q_z.toInt ≤ hi_z.toInt * hi_z.toInt → (∀ t_z : Int, 0 ≤ t_z → t_z < lo_z.toInt → t_z * t_z < q_z.toInt) → V 57 [(0, .ref 30), (1, .int x), (2, .int y), (3, .int w), (4, .long q_z), (6, .long lo_z), (8, .long hi_z)] [] σ := by
          intro r_z
          induction r_z with
          | zero => intro lo_z hi_z g1 g2 g3_z; omega
          | succ r_z ih_z =>
            intro lo_z hi_z g1 g2 g3_z g4 g5_z g6
            refine zq (σ := σ) hV hI rfl 4 ?_
            show (0 ≤ (lg_cmp lo_z hi_z) → V 103 [(0, .ref 30), (1, .int x), (2, .int y), (3, .int w), (4, .long q_z), (6, .long lo_z), (8, .long hi_z)] [] σ) ∧ (¬ 0 ≤ (lg_cmp lo_z hi_z) → V 65 [(0, .ref 30), (1, .int x), (2, .int y), (3, .int w), (4, .long q_z), (6, .long lo_z), (8, .long hi_z)] [] σ)
            refine ⟨fun h_62 => ?_, fun h_62 => ?_⟩
            · skip
              refine zq (σ := σ) hV hI rfl 3 ?_
              show zSp _ 135 [.ref 30] σ (fun r_z σ' => σ'.2.2.2 = σ.2.2.2 + zAl 135 → V 110 [(0, .ref 30), (1, .int x), (2, .int y), (3, .int w), (4, .long q_z), (6, .long lo_z), (8, .long hi_z)] (r_z.toList ++ [.long 3]) σ')
              refine area_M hI hn hn10 (fun _ => ?_)
              refine zq (σ := σ) hV hI rfl 10 ?_
              show (¬ ((3 * (Int32.toInt64 (zAr n (σ.1 31) (σ.1 32) n))) : Int64) = 0) ∧ V 124 [(10, .long (3 * (Int32.toInt64 (zAr n (σ.1 31) (σ.1 32) n)))), (0, .ref 30), (1, .int x), (2, .int y), (3, .int w), (4, .long q_z), (6, .long lo_z), (8, .long hi_z)] [.long (((lo_z + (3 * (Int32.toInt64 (zAr n (σ.1 31) (σ.1 32) n)))) - 1) / (3 * (Int32.toInt64 (zAr n (σ.1 31) (σ.1 32) n))))] σ
              refine ⟨zby0 har, ?_⟩
              refine zq (σ := σ) hV hI rfl 2 ?_
              show K (some (.int (Int64.toInt32 (((lo_z + (3 * (Int32.toInt64 (zAr n (σ.1 31) (σ.1 32) n)))) - 1) / (3 * (Int32.toInt64 (zAr n (σ.1 31) (σ.1 32) n))))))) σ
              have hv : (zBt (-1000) 1000 x ∧ zBt (-1000) 1000 y ∧ zBt 1 20 w) := ⟨hb1.1, hb1.2, hb2⟩
              have hge : hi_z.toInt ≤ lo_z.toInt := by rw [← zle64]; exact zcmp_ge.mp h_62
              have he : hi_z.toInt = lo_z.toInt := by omega
              exact hOk hv h_29 lo_z (by rw [he] at g5_z g4; have h_z := (⟨g2, g4, g5_z, g6⟩ : zRoot q_z lo_z); rw [hqe] at h_z; exact h_z)
            · skip
              refine zq (σ := σ) hV hI rfl 5 ?_
              show (¬ (2 : Int64) = 0) ∧ V 74 [(0, .ref 30), (1, .int x), (2, .int y), (3, .int w), (4, .long q_z), (6, .long lo_z), (8, .long hi_z)] [.long ((lo_z + hi_z) / 2)] σ
              refine ⟨by decide, ?_⟩
              refine zq (σ := σ) hV hI rfl 7 ?_
              show ((lg_cmp (((lo_z + hi_z) / 2) * ((lo_z + hi_z) / 2)) q_z) < 0 → V 94 [(10, .long ((lo_z + hi_z) / 2)), (0, .ref 30), (1, .int x), (2, .int y), (3, .int w), (4, .long q_z), (6, .long lo_z), (8, .long hi_z)] [] σ) ∧ (¬ (lg_cmp (((lo_z + hi_z) / 2) * ((lo_z + hi_z) / 2)) q_z) < 0 → V 87 [(10, .long ((lo_z + hi_z) / 2)), (0, .ref 30), (1, .int x), (2, .int y), (3, .int w), (4, .long q_z), (6, .long lo_z), (8, .long hi_z)] [] σ)
              refine ⟨fun h_84 => ?_, fun h_84 => ?_⟩
              · skip
                refine zq (σ := σ) hV hI rfl 5 ?_
                show V 57 [(6, .long (((lo_z + hi_z) / 2) + 1)), (10, .long ((lo_z + hi_z) / 2)), (0, .ref 30), (1, .int x), (2, .int y), (3, .int w), (4, .long q_z), (8, .long hi_z)] [] σ
                have z2 : (2 : Int64).toInt = 2 := rfl
                have z1 : (1 : Int64).toInt = 1 := rfl
                have hlt : lo_z.toInt < hi_z.toInt := by rw [← zlt64]; exact Int64.not_le.mp (fun y => h_62 (zcmp_ge.mpr y))
                have hs : (lo_z + hi_z).toInt = lo_z.toInt + hi_z.toInt := zadd64 (by omega)
                have hm_z : ((lo_z + hi_z) / 2).toInt = (lo_z.toInt + hi_z.toInt) / 2 := by rw [zdiv64 (by rw [hs]; omega) (by rw [z2]; decide), hs, z2]
                obtain ⟨s1_z, s2_z, s3_z⟩ := zsq_b (x := (lo_z + hi_z) / 2) (A := 2000000000) (by rw [hm_z]; omega) (by decide)
                refine zwk hV [2, 3, 4, 5, 6, 0, 7] rfl ?_
                have hl2 : ((lo_z + hi_z) / 2).toInt * ((lo_z + hi_z) / 2).toInt < q_z.toInt := by rw [← s1_z, ← zlt64]; exact zcmp_lt.mp h_84
                have hm1 : ((lo_z + hi_z) / 2 + 1).toInt = (lo_z.toInt + hi_z.toInt) / 2 + 1 := by rw [zadd64 (by rw [hm_z, z1]; omega), hm_z, z1]
                refine ih_z _ _ (by rw [hm1]; omega) (by rw [hm1]; omega) (by rw [hm1]; omega) g4 g5_z (fun t_z t1_z t2_z => ?_)
                rw [hm1] at t2_z
                have := Int.mul_le_mul (show t_z ≤ ((lo_z + hi_z) / 2).toInt by rw [hm_z]; omega) (show t_z ≤ ((lo_z + hi_z) / 2).toInt by rw [hm_z]; omega) t1_z (show 0 ≤ ((lo_z + hi_z) / 2).toInt by rw [hm_z]; omega)
                omega
              · skip
                refine zq (σ := σ) hV hI rfl 4 ?_
                show V 57 [(8, .long ((lo_z + hi_z) / 2)), (10, .long ((lo_z + hi_z) / 2)), (0, .ref 30), (1, .int x), (2, .int y), (3, .int w), (4, .long q_z), (6, .long lo_z)] [] σ
                have z2 : (2 : Int64).toInt = 2 := rfl
                have z1 : (1 : Int64).toInt = 1 := rfl
                have hlt : lo_z.toInt < hi_z.toInt := by rw [← zlt64]; exact Int64.not_le.mp (fun y => h_62 (zcmp_ge.mpr y))
                have hs : (lo_z + hi_z).toInt = lo_z.toInt + hi_z.toInt := zadd64 (by omega)
                have hm_z : ((lo_z + hi_z) / 2).toInt = (lo_z.toInt + hi_z.toInt) / 2 := by rw [zdiv64 (by rw [hs]; omega) (by rw [z2]; decide), hs, z2]
                obtain ⟨s1_z, s2_z, s3_z⟩ := zsq_b (x := (lo_z + hi_z) / 2) (A := 2000000000) (by rw [hm_z]; omega) (by decide)
                refine zwk hV [2, 3, 4, 5, 6, 7, 0] rfl ?_
                have hge : q_z.toInt ≤ ((lo_z + hi_z) / 2).toInt * ((lo_z + hi_z) / 2).toInt := by rw [← s1_z, ← zle64]; exact Int64.not_lt.mp (fun y => h_84 (zcmp_lt.mpr y))
                exact ih_z _ _ (by rw [hm_z]; omega) g2 (by rw [hm_z]; omega) (by rw [hm_z]; omega) hge g6
        have z2 : (2000000000 : Int64).toInt = 2000000000 := rfl
        have z0 : (0 : Int64).toInt = 0 := rfl
        exact H_z 2000000001 0 2000000000 (by rw [z2, z0]; decide) (by rw [z0]; decide) (by rw [z2, z0]; decide) (by rw [z2]; decide) (by rw [z2]; omega) (fun t_z t1_z t2_z => by rw [z0] at t2_z; omega)
      · skip
        have h_29 := Classical.not_not.mp h_29
        refine zq (σ := σ) hV hI rfl 2 ?_
        show K (some (.int (-3))) σ
        have hv : (zBt (-1000) 1000 x ∧ zBt (-1000) 1000 y ∧ zBt 1 20 w) := ⟨hb1.1, hb1.2, hb2⟩
        exact hNot hv h_29
    · skip
      refine zq (σ := σ) hV hI rfl 1 ?_
      show (¬ (0 : Int32) = 0 → V 23 [(0, .ref 30), (1, .int x), (2, .int y), (3, .int w)] [] σ) ∧ (¬ (¬ (0 : Int32) = 0) → V 20 [(0, .ref 30), (1, .int x), (2, .int y), (3, .int w)] [] σ)
      refine ⟨fun hc_z => absurd hc_z (by decide), fun _ => ?_⟩
      refine zq (σ := σ) hV hI rfl 2 ?_
      show K (some (.int (-2))) σ
      exact hBad (fun q_z => hb2 q_z.2.2)
  · skip
    refine zq (σ := σ) hV hI rfl 1 ?_
    show ((0 : Int32) = 0 → V 20 [(0, .ref 30), (1, .int x), (2, .int y), (3, .int w)] [] σ) ∧ (¬ (0 : Int32) = 0 → V 8 [(0, .ref 30), (1, .int x), (2, .int y), (3, .int w)] [] σ)
    refine ⟨fun _ => ?_, fun hc_z => absurd (by decide) hc_z⟩
    refine zq (σ := σ) hV hI rfl 2 ?_
    show K (some (.int (-2))) σ
    exact hBad (fun q_z => hb1 ⟨q_z.1, q_z.2.1⟩)
