theorem zlt (a b : Int32) : a < b ↔ a.toInt < b.toInt := Int32.lt_iff_toInt_lt
theorem zle (a b : Int32) : a ≤ b ↔ a.toInt ≤ b.toInt := Int32.le_iff_toInt_le
theorem zeq (a b : Int32) : a = b ↔ a.toInt = b.toInt := Int32.toInt_inj.symm
theorem zlt64 (a b : Int64) : a < b ↔ a.toInt < b.toInt := Int64.lt_iff_toInt_lt
theorem zle64 (a b : Int64) : a ≤ b ↔ a.toInt ≤ b.toInt := Int64.le_iff_toInt_le
theorem zeq64 (a b : Int64) : a = b ↔ a.toInt = b.toInt := Int64.toInt_inj.symm
theorem zadd {x y : Int32} (h : -2147483648 ≤ x.toInt + y.toInt ∧ x.toInt + y.toInt ≤ 2147483647) : (x + y).toInt = x.toInt + y.toInt := by
  rw [Int32.toInt_add]; exact Int.bmod_eq_of_le (by omega) (by omega)
theorem zsub {x y : Int32} (h : -2147483648 ≤ x.toInt - y.toInt ∧ x.toInt - y.toInt ≤ 2147483647) : (x - y).toInt = x.toInt - y.toInt := by
  rw [Int32.toInt_sub]; exact Int.bmod_eq_of_le (by omega) (by omega)
theorem zmul {x y : Int32} (h : -2147483648 ≤ x.toInt * y.toInt ∧ x.toInt * y.toInt ≤ 2147483647) : (x * y).toInt = x.toInt * y.toInt := by
  rw [Int32.toInt_mul]; exact Int.bmod_eq_of_le (by omega) (by omega)
theorem zadd64 {x y : Int64} (h : -9223372036854775808 ≤ x.toInt + y.toInt ∧ x.toInt + y.toInt ≤ 9223372036854775807) : (x + y).toInt = x.toInt + y.toInt := by
  rw [Int64.toInt_add]; exact Int.bmod_eq_of_le (by omega) (by omega)
theorem zsub64 {x y : Int64} (h : -9223372036854775808 ≤ x.toInt - y.toInt ∧ x.toInt - y.toInt ≤ 9223372036854775807) : (x - y).toInt = x.toInt - y.toInt := by
  rw [Int64.toInt_sub]; exact Int.bmod_eq_of_le (by omega) (by omega)
theorem zmul64 {x y : Int64} (h : -9223372036854775808 ≤ x.toInt * y.toInt ∧ x.toInt * y.toInt ≤ 9223372036854775807) : (x * y).toInt = x.toInt * y.toInt := by
  rw [Int64.toInt_mul]; exact Int.bmod_eq_of_le (by omega) (by omega)
theorem zL (x : Int32) : x.toInt64.toInt = x.toInt := Int32.toInt_toInt64 x
theorem zR32 (x : Int32) : -2147483648 ≤ x.toInt ∧ x.toInt ≤ 2147483647 := ⟨Int32.le_toInt x, by have := Int32.toInt_lt x; omega⟩
theorem zR64 (x : Int64) : -9223372036854775808 ≤ x.toInt ∧ x.toInt ≤ 9223372036854775807 := ⟨Int64.le_toInt x, by have := Int64.toInt_lt x; omega⟩
/-- a number that is told by an int from 0 on -/
theorem zNat {x : Int32} (h : 0 ≤ x.toInt) : ∃ k : Nat, x = nI k ∧ (k : Int) = x.toInt ∧ k < 2 ^ 31 := by
  have h2 := (zR32 x).2
  refine ⟨x.toInt.toNat, ?_, Int.toNat_of_nonneg h, by omega⟩
  rw [zeq, nI_toInt (by omega), Int.toNat_of_nonneg h]
theorem zT_lits : (0 : Int32).toInt = 0 ∧ (1 : Int32).toInt = 1 ∧ (2 : Int32).toInt = 2 ∧ (3 : Int32).toInt = 3 ∧ (8 : Int32).toInt = 8 ∧ (16 : Int32).toInt = 16 := by decide
theorem zcmp_lt {x y : Int64} : lg_cmp x y < 0 ↔ x < y := by
  rw [zlt64]; unfold lg_cmp
  split
  · rename_i h; rw [gt_iff_lt, zlt64] at h; constructor
    · intro q; exact absurd q (by decide)
    · intro q; omega
  · rename_i h; split
    · rename_i h2; rw [h2]; constructor
      · intro q; exact absurd q (by decide)
      · intro q; omega
    · rename_i h2; rw [gt_iff_lt, zlt64] at h; rw [zeq64] at h2; constructor
      · intro _; omega
      · intro _; decide
theorem zcmp_gt {x y : Int64} : 0 < lg_cmp x y ↔ y < x := by
  rw [zlt64]; unfold lg_cmp
  split
  · rename_i h; rw [gt_iff_lt, zlt64] at h; constructor
    · intro _; exact h
    · intro _; decide
  · rename_i h; rw [gt_iff_lt, zlt64] at h; split
    · rename_i h2; rw [h2]; constructor
      · intro q; exact absurd q (by decide)
      · intro q; omega
    · constructor
      · intro q; exact absurd q (by decide)
      · intro q; omega
theorem zcmp_eq {x y : Int64} : lg_cmp x y = 0 ↔ x = y := by
  unfold lg_cmp
  split
  · rename_i h; rw [gt_iff_lt, zlt64] at h; constructor
    · intro q; exact absurd q (by decide)
    · intro q; rw [q] at h; omega
  · split
    · rename_i h2; exact ⟨fun _ => h2, fun _ => rfl⟩
    · rename_i h2; constructor
      · intro q; exact absurd q (by decide)
      · intro q; exact absurd q h2
theorem zcmp_ge {x y : Int64} : 0 ≤ lg_cmp x y ↔ y ≤ x := by
  have h := @zcmp_lt x y
  rw [zlt64] at h; rw [zle64]
  rw [zle]; rw [zlt] at h
  have := zT_lits.1
  omega
theorem zcmp_le {x y : Int64} : lg_cmp x y ≤ 0 ↔ x ≤ y := by
  have h := @zcmp_gt x y
  rw [zlt64] at h; rw [zle64]
  rw [zle]; rw [zlt] at h
  have := zT_lits.1
  omega
theorem ztest1 {e : Int32} (h : ¬ e < 0) (h2 : ¬ 8 < e) : 0 ≤ e.toInt ∧ e.toInt ≤ 8 := by
  simp only [zlt, zle, zeq] at h h2
  simp at h h2
  omega
theorem ztest2 {e : Int32} (h : ¬ e < -30) (h2 : ¬ 100000 < e) : -30 ≤ e.toInt ∧ e.toInt ≤ 100000 := by
  simp only [zlt, zle, zeq] at h h2
  simp at h h2
  omega
