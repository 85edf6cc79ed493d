/-! sets of parts as bits -/
theorem znand (a b : Nat) : nI a &&& nI b = nI (a &&& b) := Int32.toBitVec_inj.mp (show BitVec.ofNat 32 a &&& BitVec.ofNat 32 b = BitVec.ofNat 32 (a &&& b) from BitVec.ofNat_and.symm)
theorem znor (a b : Nat) : nI a ||| nI b = nI (a ||| b) := Int32.toBitVec_inj.mp (show BitVec.ofNat 32 a ||| BitVec.ofNat 32 b = BitVec.ofNat 32 (a ||| b) from BitVec.ofNat_or.symm)
theorem znxor (a b : Nat) : nI a ^^^ nI b = nI (a ^^^ b) := Int32.toBitVec_inj.mp (show BitVec.ofNat 32 a ^^^ BitVec.ofNat 32 b = BitVec.ofNat 32 (a ^^^ b) from BitVec.ofNat_xor.symm)
theorem zshl12 : ∀ k, k < 12 → (1 : Int32) <<< (nI k &&& 31) = nI (2 ^ k) := by decide
theorem zsm12 : ∀ k, k < 12 → ((nI k &&& 31).toBitVec.smod 32).toNat = k := by decide
theorem z2p12 {k : Nat} (h : k < 12) : 2 ^ k ≤ 2048 ∧ 1 ≤ 2 ^ k := ⟨Nat.pow_le_pow_right (n := 2) (i := k) (j := 11) (by decide) (by omega), Nat.pow_pos (by decide)⟩
theorem z2n12 {k : Nat} (h : k ≤ 12) : 2 ^ k ≤ 4096 := Nat.pow_le_pow_right (n := 2) (i := k) (j := 12) (by decide) h
def zRv (x a : Nat) : Nat := x &&& (4095 ^^^ 2 ^ a)
theorem z4095 {i : Nat} : Nat.testBit 4095 i = decide (i < 12) := Nat.testBit_two_pow_sub_one 12 i
theorem zRv_bit {x a i : Nat} (hx : x < 4096) (ha : a < 12) : (zRv x a).testBit i = (x.testBit i && decide (i ≠ a)) := by
  unfold zRv
  rw [Nat.testBit_and, Nat.testBit_xor, z4095, Nat.testBit_two_pow]
  by_cases c_z : i < 12
  · rw [decide_eq_true c_z, Bool.true_xor]
    by_cases e_z : i = a
    · rw [e_z, decide_eq_true rfl, decide_eq_false (fun q_z => q_z rfl)]; rfl
    · rw [decide_eq_false (fun q_z => e_z q_z.symm), decide_eq_true e_z]; rfl
  · have : x.testBit i = false := Nat.testBit_lt_two_pow (Nat.lt_of_lt_of_le hx (Nat.pow_le_pow_right (n := 2) (i := 12) (by decide) (by omega)))
    rw [this, Bool.false_and, Bool.false_and]
theorem zRv_lt {x a : Nat} (hx : x < 4096) : zRv x a < 4096 := Nat.lt_of_le_of_lt Nat.and_le_left hx
theorem zm1 : (-1 : Int32) = nI 4294967295 := by decide
theorem zRv_I {x a : Nat} (hx : x < 4096) (ha : a < 12) : nI x &&& ((1 : Int32) <<< (nI a &&& 31) ^^^ (-1)) = nI (zRv x a) := by
  rw [zshl12 a ha, zm1, znxor, znand]
  congr 1
  refine Nat.eq_of_testBit_eq (fun i_z => ?_)
  rw [zRv_bit hx ha, Nat.testBit_and, Nat.testBit_xor, Nat.testBit_two_pow]
  by_cases c_z : i_z < 12
  · have : Nat.testBit 4294967295 i_z = true := by
      have := Nat.testBit_two_pow_sub_one 32 i_z
      rw [show (2 : Nat) ^ 32 - 1 = 4294967295 from rfl] at this
      rw [this]; exact decide_eq_true (by omega)
    rw [this, Bool.xor_true]
    by_cases e_z : i_z = a
    · rw [e_z, decide_eq_true rfl, decide_eq_false (fun q_z => q_z rfl)]; rfl
    · rw [decide_eq_false (fun q_z => e_z q_z.symm), decide_eq_true e_z]; rfl
  · have : x.testBit i_z = false := Nat.testBit_lt_two_pow (Nat.lt_of_lt_of_le hx (Nat.pow_le_pow_right (n := 2) (i := 12) (by decide) (by omega)))
    rw [this, Bool.false_and, Bool.false_and]
theorem zbtN {x i : Nat} (hx : x < 4096) (hi : i < 12) : zbt (nI x) i = if x.testBit i = true then 1 else 0 := by
  unfold zbt
  rw [pk_shrN (by omega) _ i (zsm12 i hi), show (1 : Int32) = nI 1 from rfl, znand, Nat.and_one_is_mod, Nat.testBit_eq_decide_div_mod_eq]
  by_cases c_z : x / 2 ^ i % 2 = 1
  · rw [if_pos (decide_eq_true c_z), c_z]
  · rw [if_neg (fun q_z => c_z (of_decide_eq_true q_z)), show x / 2 ^ i % 2 = 0 by omega]; rfl
theorem zbtN1 {x i : Nat} (hx : x < 4096) (hi : i < 12) : zbt (nI x) i = 1 ↔ x.testBit i = true := by
  rw [zbtN hx hi]
  by_cases c_z : x.testBit i = true
  · rw [if_pos c_z]; exact ⟨fun _ => c_z, fun _ => rfl⟩
  · rw [if_neg c_z]; exact ⟨fun q_z => absurd q_z (by decide), fun q_z => absurd q_z c_z⟩
theorem znz {x : Nat} (hx : x < 4096) : nI x = 0 ↔ x = 0 := by
  rw [show (0 : Int32) = nI 0 from rfl]; exact nI_eq (by omega) (by decide)
def zSub (x y : Nat) : Prop := ∀ i, x.testBit i = true → y.testBit i = true
theorem zSub_and {x y : Nat} : zSub (x &&& y) y := fun i h => by rw [Nat.testBit_and, Bool.and_eq_true] at h; exact h.2
theorem zSub_eq {x y : Nat} (h1 : zSub x y) (h2 : zSub y x) : x = y := Nat.eq_of_testBit_eq (fun i => by
  cases c : x.testBit i <;> cases e : y.testBit i
  · rfl
  · rw [h2 i e] at c; exact absurd c (by decide)
  · rw [h1 i c] at e; exact absurd e (by decide)
  · rfl)
theorem zSub_lt {x y n : Nat} (h : zSub x y) (hy : y < 2 ^ n) : x < 2 ^ n := Nat.lt_pow_two_of_testBit x (fun i hi => by
  cases c : x.testBit i
  · rfl
  · have := h i c
    rw [Nat.testBit_lt_two_pow (Nat.lt_of_lt_of_le hy (Nat.pow_le_pow_right (by decide) hi))] at this
    exact absurd this (by decide))
theorem zbit_lt {x n i : Nat} (hx : x < 2 ^ n) (h : x.testBit i = true) : i < n := Nat.not_le.mp (fun q => by
  rw [Nat.testBit_lt_two_pow (Nat.lt_of_lt_of_le hx (Nat.pow_le_pow_right (by decide) q))] at h; exact absurd h (by decide))
theorem znz_bit {x : Nat} (h : x ≠ 0) : ∃ i, x.testBit i = true := Classical.byContradiction (fun q => h (Nat.eq_of_testBit_eq (fun i => by
  cases c : x.testBit i
  · rw [Nat.zero_testBit]
  · exact absurd ⟨i, c⟩ q)))
theorem zbit_nz {x i : Nat} (h : x.testBit i = true) : x ≠ 0 := fun q => by rw [q, Nat.zero_testBit] at h; exact absurd h (by decide)
/-- a set whose parts all lie under parts of it -/
def zSelf (M : Nat → Nat) (T : Nat) : Prop := ∀ a, T.testBit a = true → M a &&& T ≠ 0
def zGr (M : Nat → Nat) (N G : Nat) : Prop := zSub G N ∧ zSelf M G ∧ ∀ T, zSub T N → zSelf M T → zSub T G
theorem zGr_one {M : Nat → Nat} {N G G' : Nat} (h : zGr M N G) (h' : zGr M N G') : G = G' := zSub_eq (h'.2.2 G h.1 h.2.1) (h.2.2 G' h'.1 h'.2.1)
theorem zand_mono {m x y : Nat} (h : zSub x y) (hz : m &&& x ≠ 0) : m &&& y ≠ 0 := by
  obtain ⟨i_z, hi_z⟩ := znz_bit hz
  rw [Nat.testBit_and, Bool.and_eq_true] at hi_z
  refine zbit_nz (i := i_z) ?_
  rw [Nat.testBit_and, Bool.and_eq_true]
  exact ⟨hi_z.1, h i_z hi_z.2⟩
def zPcn (x : Nat) : Nat → Nat
  | 0 => 0
  | i + 1 => zPcn x i + (if x.testBit i = true then 1 else 0)
theorem zPcn_le (x : Nat) : ∀ n, zPcn x n ≤ n
  | 0 => Nat.le_refl _
  | n + 1 => by
    have := zPcn_le x n
    show zPcn x n + (if x.testBit n = true then 1 else 0) ≤ n + 1
    split <;> omega
theorem zPcn_mono {x y : Nat} (h : zSub x y) : ∀ n, zPcn x n ≤ zPcn y n
  | 0 => Nat.le_refl _
  | n + 1 => by
    have := zPcn_mono h n
    show zPcn x n + (if x.testBit n = true then 1 else 0) ≤ zPcn y n + (if y.testBit n = true then 1 else 0)
    by_cases c : x.testBit n = true
    · rw [if_pos c, if_pos (h n c)]; omega
    · rw [if_neg c]; omega
theorem zPcn_lt {x y i : Nat} (h : zSub x y) (h1 : y.testBit i = true) (h2 : ¬ x.testBit i = true) : ∀ n, i < n → zPcn x n < zPcn y n
  | 0, hi => absurd hi (Nat.not_lt_zero i)
  | n + 1, hi => by
    show zPcn x n + (if x.testBit n = true then 1 else 0) < zPcn y n + (if y.testBit n = true then 1 else 0)
    by_cases e : i = n
    · subst e
      have := zPcn_mono h i
      rw [if_neg h2, if_pos h1]; omega
    · have := zPcn_lt h h1 h2 n (by omega)
      by_cases c : x.testBit n = true
      · rw [if_pos c, if_pos (h n c)]; omega
      · rw [if_neg c]; omega
theorem zPcn_ne {x y n : Nat} (h : zSub x y) (hy : y < 2 ^ n) (hne : x ≠ y) : zPcn x n < zPcn y n := by
  have : ∃ i_z, y.testBit i_z = true ∧ ¬ x.testBit i_z = true := Classical.byContradiction (fun q_z => hne (zSub_eq h (fun i_z hi_z => Classical.byContradiction (fun c_z => q_z ⟨i_z, hi_z, c_z⟩))))
  obtain ⟨i_z, h1, h2⟩ := this
  exact zPcn_lt h h1 h2 n (zbit_lt hy h1)
theorem zPcn_0 {x n i : Nat} (h : zPcn x n = 0) (hi : i < n) : x.testBit i = false := by
  induction n with
  | zero => omega
  | succ n ih_z =>
    have h' : zPcn x n + (if x.testBit n = true then 1 else 0) = 0 := h
    by_cases c_z : x.testBit n = true
    · rw [if_pos c_z] at h'; omega
    · by_cases e_z : i = n
      · rw [e_z]; exact Bool.eq_false_iff.mpr c_z
      · exact ih_z (by omega) (by omega)
theorem zPcn_n {x n i : Nat} (h : n ≤ zPcn x n) (hi : i < n) : x.testBit i = true := by
  induction n with
  | zero => omega
  | succ n ih_z =>
    have h' : n + 1 ≤ zPcn x n + (if x.testBit n = true then 1 else 0) := h
    have := zPcn_le x n
    by_cases c_z : x.testBit n = true
    · by_cases e_z : i = n
      · rw [e_z]; exact c_z
      · rw [if_pos c_z] at h'; exact ih_z (by omega) (by omega)
    · rw [if_neg c_z] at h'; omega
-- what is left: the component's rounds
def zbx (M : Nat → Nat) (x a : Nat) : Nat := if M a &&& x = 0 then zRv x a else x
def zbj (M : Nat → Nat) : Nat → Nat → Nat → Nat
  | 0, _, x => x
  | r + 1, a, x => zbj M r (a + 1) (zbx M x a)
def zbr (M : Nat → Nat) (n : Nat) : Nat → Nat → Nat
  | 0, x => x
  | r + 1, x => zbr M n r (zbj M n 0 x)
theorem zbx_ok {M : Nat → Nat} {x a : Nat} (hx : x < 4096) (ha : a < 12) : zSub (zbx M x a) x ∧ (∀ T, zSelf M T → zSub T x → zSub T (zbx M x a)) ∧ (zbx M x a = x → x.testBit a = true → M a &&& x ≠ 0) := by
  unfold zbx
  by_cases c_z : M a &&& x = 0
  · rw [if_pos c_z]
    refine ⟨fun i_z h_z => ?_, fun T hT_z hs i_z h_z => ?_, fun e_z h_z => ?_⟩
    · rw [zRv_bit hx ha, Bool.and_eq_true] at h_z; exact h_z.1
    · rw [zRv_bit hx ha, Bool.and_eq_true]
      refine ⟨hs i_z h_z, decide_eq_true (fun e_z => ?_)⟩
      rw [e_z] at h_z
      exact zand_mono hs (hT_z a h_z) c_z
    · rw [← e_z, zRv_bit hx ha, Bool.and_eq_true] at h_z
      exact absurd rfl (of_decide_eq_true h_z.2)
  · rw [if_neg c_z]
    exact ⟨fun i_z h_z => h_z, fun T _ hs => hs, fun _ _ => c_z⟩
theorem zbx_lt {M : Nat → Nat} {x a : Nat} (hx : x < 4096) : zbx M x a < 4096 := by
  unfold zbx; split
  · exact zRv_lt hx
  · exact hx
theorem zbj_ok {M : Nat → Nat} : ∀ (r a x : Nat), a + r ≤ 12 → x < 4096 → zbj M r a x < 4096 ∧ zSub (zbj M r a x) x ∧ (∀ T, zSelf M T → zSub T x → zSub T (zbj M r a x)) ∧ (zbj M r a x = x → ∀ b, a ≤ b → b < a + r → x.testBit b = true → M b &&& x ≠ 0) := by
  intro r
  induction r with
  | zero => intro a x _ hx; exact ⟨hx, fun i_z h_z => h_z, fun T _ h_z => h_z, fun _ b_z h1 h2 => by omega⟩
  | succ r ih_z =>
    intro a x ha_z hx
    obtain ⟨a1_z, a2, a3⟩ := zbx_ok (M := M) hx (show a < 12 by omega)
    obtain ⟨b0, b1, b2, b3⟩ := ih_z (a + 1) (zbx M x a) (by omega) (zbx_lt hx)
    refine ⟨b0, fun i_z h_z => a1_z i_z (b1 i_z h_z), fun T hT_z hs => b2 T hT_z (a2 T hT_z hs), fun e_z b_z h1 h2 hb_z => ?_⟩
    have e' : zbj M r (a + 1) (zbx M x a) = x := e_z
    have ex_z : zbx M x a = x := zSub_eq a1_z (fun i_z h_z => b1 i_z (by rw [e']; exact h_z))
    by_cases c_z : b_z = a
    · rw [c_z] at hb_z ⊢; exact a3 ex_z hb_z
    · rw [ex_z] at b3 e'
      exact b3 e' b_z (by omega) (by omega) hb_z
theorem zbr_fix {M : Nat → Nat} {n x : Nat} (h : zbj M n 0 x = x) : ∀ r, zbr M n r x = x
  | 0 => rfl
  | r + 1 => by show zbr M n r (zbj M n 0 x) = x; rw [h]; exact zbr_fix h r
theorem zbr_ok {M : Nat → Nat} {n : Nat} (hn : n ≤ 12) : ∀ (r x : Nat), x < 2 ^ n → zPcn x n ≤ r → zSub (zbr M n r x) x ∧ (∀ T, zSelf M T → zSub T x → zSub T (zbr M n r x)) ∧ zSelf M (zbr M n r x) := by
  intro r
  induction r with
  | zero =>
    intro x hx hp
    refine ⟨fun i_z h_z => h_z, fun T _ h_z => h_z, fun a_z h_z => ?_⟩
    have := zPcn_0 (x := x) (n := n) (by omega) (zbit_lt hx h_z)
    have h' : x.testBit a_z = true := h_z
    rw [this] at h'; exact absurd h' (by decide)
  | succ r ih_z =>
    intro x hx hp
    have h12 := z2n12 hn
    obtain ⟨b0, b1, b2, b3⟩ := zbj_ok (M := M) n 0 x (by omega) (by omega)
    by_cases e_z : zbj M n 0 x = x
    · have ef : zbr M n (r + 1) x = x := zbr_fix e_z (r + 1)
      rw [ef]
      exact ⟨fun i_z h_z => h_z, fun T _ h_z => h_z, fun a_z h_z => b3 e_z a_z (by omega) (by have := zbit_lt hx h_z; omega) h_z⟩
    · have hl := zPcn_ne b1 hx e_z
      obtain ⟨c1_z, c2_z, c3_z⟩ := ih_z (zbj M n 0 x) (zSub_lt b1 hx) (by omega)
      exact ⟨fun i_z h_z => b1 i_z (c1_z i_z h_z), fun T hT_z hs => c2_z T hT_z (b2 T hT_z hs), c3_z⟩
theorem zstk_Gr {M : Nat → Nat} {n N : Nat} (hn : n ≤ 12) (hN : N < 2 ^ n) : zGr M N (zbr M n n N) := by
  obtain ⟨h1, h2, h3⟩ := zbr_ok (M := M) hn n N hN (zPcn_le N n)
  exact ⟨h1, h3, fun T hs hT_z => h2 T hT_z hs⟩
def zMok (A : Nat → Int32) (M : Nat → Nat) : Prop := ∀ j, j < 12 → A j = nI (M j) ∧ M j < 4096
theorem zBx_I {A : Nat → Int32} {M : Nat → Nat} {x a : Nat} (hA : zMok A M) (hx : x < 4096) (ha : a < 12) : zBx A (nI x) a = nI (zbx M x a) := by
  obtain ⟨h1, h2⟩ := hA a ha
  have hl : M a &&& x < 4096 := Nat.lt_of_le_of_lt Nat.and_le_left h2
  unfold zBx zbx
  rw [h1, znand]
  by_cases c_z : M a &&& x = 0
  · rw [if_pos ((znz hl).mpr c_z), if_pos c_z]; exact zRv_I hx ha
  · rw [if_neg (fun q_z => c_z ((znz hl).mp q_z)), if_neg c_z]
theorem zBj_I {A : Nat → Int32} {M : Nat → Nat} (hA : zMok A M) : ∀ (r a x : Nat), a + r ≤ 12 → x < 4096 → zBj A r a (nI x) = nI (zbj M r a x) := by
  intro r
  induction r with
  | zero => intro a x _ _; rfl
  | succ r ih_z =>
    intro a x ha_z hx
    show zBj A r (a + 1) (zBx A (nI x) a) = nI (zbj M r (a + 1) (zbx M x a))
    rw [zBx_I hA hx (by omega)]
    exact ih_z (a + 1) _ (by omega) (zbx_lt hx)
theorem zBr_I {A : Nat → Int32} {M : Nat → Nat} {n : Nat} (hA : zMok A M) (hn : n ≤ 12) : ∀ (r x : Nat), x < 4096 → zBr A n r (nI x) = nI (zbr M n r x) := by
  intro r
  induction r with
  | zero => intro x _; rfl
  | succ r ih_z =>
    intro x hx
    show zBr A n r (zBj A n 0 (nI x)) = nI (zbr M n r (zbj M n 0 x))
    rw [zBj_I hA n 0 x (by omega) hx]
    exact ih_z _ (zbj_ok n 0 x (by omega) hx).1
/-- the component's parts that are stuck -/
theorem zStk_I {A : Nat → Int32} {M : Nat → Nat} {n N : Nat} (hA : zMok A M) (hn : n ≤ 12) (hN : N < 2 ^ n) : ∃ G, zStk A n (nI N) = nI G ∧ zGr M N G ∧ G < 2 ^ n := by
  have h12 := z2n12 hn
  refine ⟨zbr M n n N, zBr_I hA hn n N (by omega), zstk_Gr hn hN, zSub_lt (zstk_Gr hn hN).1 hN⟩
-- all above
def zux (M : Nat → Nat) (N x b : Nat) : Nat := if x.testBit b = true then x ||| (M b &&& N) else x
def zuj (M : Nat → Nat) (N : Nat) : Nat → Nat → Nat → Nat
  | 0, _, x => x
  | r + 1, a, x => zuj M N r (a + 1) (zux M N x a)
def zur (M : Nat → Nat) (N n : Nat) : Nat → Nat → Nat
  | 0, x => x
  | r + 1, x => zur M N n r (zuj M N n 0 x)
theorem zux_ok {M : Nat → Nat} {N x b : Nat} (hx : zSub x N) : zSub x (zux M N x b) ∧ zSub (zux M N x b) N ∧ (∀ G, zGr M N G → (∃ g, G.testBit g = true ∧ (zux M N x b).testBit g = true) → ∃ g, G.testBit g = true ∧ x.testBit g = true) ∧ (zux M N x b = x → x.testBit b = true → zSub (M b &&& N) x) := by
  unfold zux
  by_cases c_z : x.testBit b = true
  · rw [if_pos c_z]
    refine ⟨fun i_z h_z => ?_, fun i_z h_z => ?_, fun G_z hG hg => ?_, fun e_z _ i_z h_z => ?_⟩
    · rw [Nat.testBit_or, h_z]; rfl
    · rw [Nat.testBit_or, Bool.or_eq_true] at h_z
      exact h_z.elim (hx i_z) (fun q_z => zSub_and i_z q_z)
    · obtain ⟨g_z, h1, h2⟩ := hg
      rw [Nat.testBit_or, Bool.or_eq_true] at h2
      rcases h2 with h2 | h2
      · exact ⟨g_z, h1, h2⟩
      · refine ⟨b, ?_, c_z⟩
        have hb_z : zSub (G_z ||| 2 ^ b) G_z := hG.2.2 _ (fun i_z hi_z => by
          rw [Nat.testBit_or, Bool.or_eq_true] at hi_z
          rcases hi_z with hi_z | hi_z
          · exact hG.1 i_z hi_z
          · rw [Nat.testBit_two_pow] at hi_z; rw [← of_decide_eq_true hi_z]; exact hx b c_z) (fun i_z hi_z => by
          have hs : zSub G_z (G_z ||| 2 ^ b) := fun q_z hq => by rw [Nat.testBit_or, hq]; rfl
          rw [Nat.testBit_or, Bool.or_eq_true] at hi_z
          rcases hi_z with hi_z | hi_z
          · exact zand_mono hs (hG.2.1 i_z hi_z)
          · rw [Nat.testBit_two_pow] at hi_z
            rw [← of_decide_eq_true hi_z]
            refine zand_mono hs (zbit_nz (i := g_z) ?_)
            rw [Nat.testBit_and, Bool.and_eq_true] at h2 ⊢
            exact ⟨h2.1, h1⟩)
        refine hb_z b ?_
        rw [Nat.testBit_or, Nat.testBit_two_pow_self, Bool.or_true]
    · rw [← e_z, Nat.testBit_or, h_z, Bool.or_true]
  · rw [if_neg c_z]
    exact ⟨fun i_z h_z => h_z, hx, fun G_z _ h_z => h_z, fun _ q_z => absurd q_z c_z⟩
theorem zuj_ok {M : Nat → Nat} {N : Nat} : ∀ (r a x : Nat), zSub x N → zSub x (zuj M N r a x) ∧ zSub (zuj M N r a x) N ∧ (∀ G, zGr M N G → (∃ g, G.testBit g = true ∧ (zuj M N r a x).testBit g = true) → ∃ g, G.testBit g = true ∧ x.testBit g = true) ∧ (zuj M N r a x = x → ∀ b, a ≤ b → b < a + r → x.testBit b = true → zSub (M b &&& N) x) := by
  intro r
  induction r with
  | zero => intro a x hx; exact ⟨fun i_z h_z => h_z, hx, fun G_z _ h_z => h_z, fun _ b_z h1 h2 => by omega⟩
  | succ r ih_z =>
    intro a x hx
    obtain ⟨a1_z, a2, a3, a4⟩ := zux_ok (M := M) (b := a) hx
    obtain ⟨b1, b2, b3, b4⟩ := ih_z (a + 1) _ a2
    refine ⟨fun i_z h_z => b1 i_z (a1_z i_z h_z), b2, fun G_z hG h_z => a3 G_z hG (b3 G_z hG h_z), fun e_z b_z h1 h2 hb_z => ?_⟩
    have e' : zuj M N r (a + 1) (zux M N x a) = x := e_z
    have ex_z : zux M N x a = x := zSub_eq (fun i_z h_z => by rw [← e']; exact b1 i_z h_z) a1_z
    by_cases c_z : b_z = a
    · rw [c_z] at hb_z ⊢; exact a4 ex_z hb_z
    · rw [ex_z] at b4 e'
      exact b4 e' b_z (by omega) (by omega) hb_z
theorem zur_fix {M : Nat → Nat} {N n x : Nat} (h : zuj M N n 0 x = x) : ∀ r, zur M N n r x = x
  | 0 => rfl
  | r + 1 => by show zur M N n r (zuj M N n 0 x) = x; rw [h]; exact zur_fix h r
theorem zur_ok {M : Nat → Nat} {N n : Nat} (hN : N < 2 ^ n) : ∀ (r x : Nat), zSub x N → n ≤ zPcn x n + r → zSub x (zur M N n r x) ∧ zSub (zur M N n r x) N ∧ (∀ G, zGr M N G → (∃ g, G.testBit g = true ∧ (zur M N n r x).testBit g = true) → ∃ g, G.testBit g = true ∧ x.testBit g = true) ∧ (∀ b, (zur M N n r x).testBit b = true → zSub (M b &&& N) (zur M N n r x)) := by
  intro r
  induction r with
  | zero =>
    intro x hx hp
    refine ⟨fun i_z h_z => h_z, hx, fun G_z _ h_z => h_z, fun b_z _ i_z h_z => ?_⟩
    exact zPcn_n (x := x) (by omega) (zbit_lt hN (zSub_and i_z h_z))
  | succ r ih_z =>
    intro x hx hp
    obtain ⟨b1, b2, b3, b4⟩ := zuj_ok (M := M) n 0 x hx
    by_cases e_z : zuj M N n 0 x = x
    · have ef : zur M N n (r + 1) x = x := zur_fix e_z (r + 1)
      rw [ef]
      exact ⟨fun i_z h_z => h_z, hx, fun G_z _ h_z => h_z, fun b_z h_z => b4 e_z b_z (by omega) (by have := zbit_lt hN (hx b_z h_z); omega) h_z⟩
    · have hl := zPcn_ne b1 (zSub_lt b2 hN) (fun q_z => e_z q_z.symm)
      obtain ⟨c1_z, c2_z, c3_z, c4_z⟩ := ih_z (zuj M N n 0 x) b2 (by omega)
      exact ⟨fun i_z h_z => c1_z i_z (b1 i_z h_z), c2_z, fun G_z hG h_z => b3 G_z hG (c3_z G_z hG h_z), c4_z⟩
/-- a part is stuck just if something of what lies above it is left -/
theorem zreach {M : Nat → Nat} {N n a G R : Nat} (hN : N < 2 ^ n) (ha : N.testBit a = true) (hG : zGr M N G) (hR : zGr M (zur M N n n (2 ^ a)) R) : G.testBit a = true ↔ R ≠ 0 := by
  have hs : zSub (2 ^ a) N := fun i_z h_z => by rw [Nat.testBit_two_pow] at h_z; rw [← of_decide_eq_true h_z]; exact ha
  obtain ⟨c1_z, c2_z, c3_z, c4_z⟩ := zur_ok (M := M) hN n (2 ^ a) hs (by omega)
  constructor
  · intro h_z
    have hT_z : zSub (G &&& zur M N n n (2 ^ a)) R := hR.2.2 _ zSub_and (fun i_z hi_z => by
      rw [Nat.testBit_and, Bool.and_eq_true] at hi_z
      obtain ⟨g_z, hg⟩ := znz_bit (hG.2.1 i_z hi_z.1)
      rw [Nat.testBit_and, Bool.and_eq_true] at hg
      refine zbit_nz (i := g_z) ?_
      rw [Nat.testBit_and, Nat.testBit_and, hg.1, hg.2]
      have := c4_z i_z hi_z.2 g_z (by rw [Nat.testBit_and, hg.1, hG.1 g_z hg.2]; rfl)
      rw [this]; rfl)
    exact zbit_nz (hT_z a (by rw [Nat.testBit_and, h_z, c1_z a Nat.testBit_two_pow_self]; rfl))
  · intro h_z
    obtain ⟨g_z, hg⟩ := znz_bit h_z
    have h1 : zSub R G := hG.2.2 R (fun i_z hi_z => c2_z i_z (hR.1 i_z hi_z)) hR.2.1
    obtain ⟨q_z, q1_z, q2_z⟩ := c3_z G hG ⟨g_z, h1 g_z hg, hR.1 g_z hg⟩
    rw [Nat.testBit_two_pow] at q2_z
    rw [of_decide_eq_true q2_z]; exact q1_z
theorem zUx_I {A : Nat → Int32} {M : Nat → Nat} {N x b : Nat} (hA : zMok A M) (hN : N < 4096) (hx : x < 4096) (hb : b < 12) : zUx A (nI N) (nI x) b = nI (zux M N x b) ∧ zux M N x b < 4096 := by
  obtain ⟨h1, h2⟩ := hA b hb
  have e_z := zbtN hx hb
  unfold zbt at e_z
  unfold zUx zux
  by_cases c_z : x.testBit b = true
  · rw [e_z, if_pos c_z, if_neg (by decide), if_pos c_z, h1, znand, znor]
    exact ⟨rfl, Nat.or_lt_two_pow (n := 12) hx (Nat.lt_of_le_of_lt Nat.and_le_left h2)⟩
  · rw [e_z, if_neg c_z, if_pos rfl, if_neg c_z]; exact ⟨rfl, hx⟩
theorem zUj_I {A : Nat → Int32} {M : Nat → Nat} {N : Nat} (hA : zMok A M) (hN : N < 4096) : ∀ (r a x : Nat), a + r ≤ 12 → x < 4096 → zUj A (nI N) r a (nI x) = nI (zuj M N r a x) ∧ zuj M N r a x < 4096 := by
  intro r
  induction r with
  | zero => intro a x _ hx; exact ⟨rfl, hx⟩
  | succ r ih_z =>
    intro a x ha_z hx
    obtain ⟨e_z, hl⟩ := zUx_I (b := a) hA hN hx (by omega)
    show zUj A (nI N) r (a + 1) (zUx A (nI N) (nI x) a) = nI (zuj M N r (a + 1) (zux M N x a)) ∧ zuj M N r (a + 1) (zux M N x a) < 4096
    rw [e_z]
    exact ih_z (a + 1) _ (by omega) hl
theorem zUr_I {A : Nat → Int32} {M : Nat → Nat} {N n : Nat} (hA : zMok A M) (hN : N < 4096) (hn : n ≤ 12) : ∀ (r x : Nat), x < 4096 → zUr A (nI N) n r (nI x) = nI (zur M N n r x) := by
  intro r
  induction r with
  | zero => intro x _; rfl
  | succ r ih_z =>
    intro x hx
    obtain ⟨e_z, hl⟩ := zUj_I hA hN n 0 x (by omega) hx
    show zUr A (nI N) n r (zUj A (nI N) n 0 (nI x)) = nI (zur M N n r (zuj M N n 0 x))
    rw [e_z]
    exact ih_z _ hl
theorem zAll_I {A : Nat → Int32} {M : Nat → Nat} {N n a : Nat} (hA : zMok A M) (hN : N < 2 ^ n) (hn : n ≤ 12) (ha : a < n) : zAll A n (nI N) (nI a) = nI (zur M N n n (2 ^ a)) := by
  have h12 := z2n12 hn
  have h2 := z2p12 (show a < 12 by omega)
  unfold zAll
  rw [zshl12 a (by omega)]
  exact zUr_I hA (by omega) hn n _ (by omega)
def zOn1 (x : Int32) : Nat → Int32
  | 0 => 0
  | k + 1 => zOn1 x k + zbt x k
theorem zOn_d : ∀ i, i < 64 → ∀ j, j < 64 → zBc (nI (64 * i + j)) = zOn1 (nI (64 * i + j)) 12 := by decide +kernel
theorem zOn_bc {x : Nat} (hx : x < 4096) : zBc (nI x) = zOn1 (nI x) 12 := by
  have := zOn_d (x / 64) (by omega) (x % 64) (by omega)
  rw [show 64 * (x / 64) + x % 64 = x by omega] at this
  exact this
