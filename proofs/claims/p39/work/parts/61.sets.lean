/-! sets of parts as bits -/
theorem znand (a b : Nat) : nI a &&& nI b = nI (a &&& b) := Int32.toBitVec_inj.mp (show BitVec.ofNat 32 a &&& BitVec.ofNat 32 b = BitVec.ofNat 32 (a &&& b) from BitVec.ofNat_and.symm)
theorem znor (a b : Nat) : nI a ||| nI b = nI (a ||| b) := Int32.toBitVec_inj.mp (show BitVec.ofNat 32 a ||| BitVec.ofNat 32 b = BitVec.ofNat 32 (a ||| b) from BitVec.ofNat_or.symm)
theorem zshl12 : ∀ k, k < 12 → (1 : Int32) <<< (nI k &&& 31) = nI (2 ^ k) := by decide
theorem zsm12 : ∀ k, k < 12 → ((nI k &&& 31).toBitVec.smod 32).toNat = k := by decide
theorem zbtN {x i : Nat} (hx : x < 4096) (hi : i < 12) : zbt (nI x) i = if x.testBit i = true then 1 else 0 := by
  unfold zbt
  rw [pk_shrN (by omega) _ i (zsm12 i hi), show (1 : Int32) = nI 1 from rfl, znand, Nat.and_one_is_mod, Nat.testBit_eq_decide_div_mod_eq]
  by_cases c_z : x / 2 ^ i % 2 = 1
  · rw [if_pos (decide_eq_true c_z), c_z]
  · rw [if_neg (fun q_z => c_z (of_decide_eq_true q_z)), show x / 2 ^ i % 2 = 0 by omega]; rfl
theorem zbtN1 {x i : Nat} (hx : x < 4096) (hi : i < 12) : zbt (nI x) i = 1 ↔ x.testBit i = true := by
  rw [zbtN hx hi]
  by_cases c_z : x.testBit i = true
  · rw [if_pos c_z]; exact ⟨fun _ => c_z, fun _ => rfl⟩
  · rw [if_neg c_z]; exact ⟨fun q_z => absurd q_z (by decide), fun q_z => absurd q_z c_z⟩
