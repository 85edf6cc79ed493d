abbrev zQ : Type := Nat × Nat × ClassId × ClassId
def zad (Z : zQ) (a : Nat) : Nat := if a = zsc then Z.2.1 else Z.1 + a
def zcv (Z : zQ) (v : Value) : Value := match v with
  | .ref a => .ref (zad Z a)
  | w => w
def zcL (Z : zQ) (L : zLo) : zLo := L.map fun q => (q.1, zcv Z q.2)
def zfv (Z : zQ) (σ : zSt) (a : Nat) (ty : FieldType) (j : Nat) : Value := match ty with
  | .int => .int (σ.1 a j)
  | .boolean => .int (σ.1 a j)
  | .long => .long (σ.2.1 a j)
  | _ => zcv Z (σ.2.2.1 a j)
def zfs (Z : zQ) (σ : zSt) (a ci : Nat) : List Value := (List.range (zNF ci)).map fun j => zfv Z σ a (zTY ci j) j
def zce (Z : zQ) (σ : zSt) (a : Nat) : va_E := match zkd a with
  | (0, ci) => .inr (ci, zfs Z σ a ci)
  | (1, n) => .inl (Z.2.2.1, n, .inl (σ.1 a))
  | (_, n) => .inl (Z.2.2.2, n, .inr (.inl (σ.2.1 a)))
def zw (Z : zQ) (σ : zSt) : va_W := (List.range σ.2.2.2).map fun a => (Z.1 + a, zce Z σ a)
theorem zcv_cat (Z : zQ) (v : Value) : (zcv Z v).category = v.category := by cases v <;> rfl
theorem zw_at {Z : zQ} {σ : zSt} {a : Nat} (h : a < σ.2.2.2) : (zw Z σ)[a]? = some (Z.1 + a, zce Z σ a) := by
  simp [zw, h]
theorem zw_get {Z : zQ} {σ : zSt} {k : Nat} {q : Nat × va_E} (h : (zw Z σ)[k]? = some q) : k < σ.2.2.2 ∧ q = (Z.1 + k, zce Z σ k) := by
  by_cases hk : k < σ.2.2.2
  · rw [zw_at hk] at h
    exact ⟨hk, (Option.some.inj h).symm⟩
  · have hn : (zw Z σ)[k]? = none := List.getElem?_eq_none (by simp [zw]; omega)
    rw [hn] at h
    cases h
theorem zw_D (Z : zQ) (σ : zSt) : va_D (fun q => Z.1 ≤ q) (zw Z σ) := by
  refine ⟨fun i j p q hi hj he => ?_, fun k q h => ?_⟩
  · obtain ⟨_, rfl⟩ := zw_get hi
    obtain ⟨_, rfl⟩ := zw_get hj
    exact Nat.add_left_cancel he
  · obtain ⟨_, rfl⟩ := zw_get h
    exact Nat.le_add_right _ _
theorem zw_set {Z : zQ} {σ σ' : zSt} {a : Nat} {E : va_E} (ha : a < σ.2.2.2) (hn : σ'.2.2.2 = σ.2.2.2) (he : zce Z σ' a = E) (ho : ∀ b, b ≠ a → zce Z σ' b = zce Z σ b) : (zw Z σ).set a (Z.1 + a, E) = zw Z σ' := by
  apply List.ext_getElem?
  intro k
  by_cases hk : k < σ.2.2.2
  · rw [zw_at (σ := σ') (by omega)]
    by_cases hka : k = a
    · subst hka
      rw [List.getElem?_set_self (by simp [zw]; exact hk), he]
    · rw [List.getElem?_set_ne (Ne.symm hka), zw_at hk, ho k hka]
  · rw [List.getElem?_eq_none (by simp [zw]; omega), List.getElem?_eq_none (by simp [zw]; omega)]
theorem zfs_set {Z : zQ} {σ σ' : zSt} {a ci j : Nat} {v : Value} (hj : j < zNF ci) (h1 : zfv Z σ' a (zTY ci j) j = v) (h2 : ∀ k, k ≠ j → zfv Z σ' a (zTY ci k) k = zfv Z σ a (zTY ci k) k) : zfs Z σ' a ci = (zfs Z σ a ci).set j v := by
  apply List.ext_getElem?
  intro k
  by_cases hk : k < zNF ci
  · by_cases hkj : k = j
    · subst hkj
      rw [List.getElem?_set_self (by simp [zfs]; exact hk)]
      simp [zfs, hk, h1]
    · rw [List.getElem?_set_ne (Ne.symm hkj)]
      simp [zfs, hk, h2 k hkj]
  · rw [List.getElem?_eq_none (by simp [zfs]; omega), List.getElem?_eq_none (by simp [zfs]; omega)]
theorem zfs_at {Z : zQ} {σ : zSt} {a ci k : Nat} (hk : k < zNF ci) : (zfs Z σ a ci)[k]? = some (zfv Z σ a (zTY ci k) k) := by
  simp [zfs, hk]
theorem zce_uI {Z : zQ} {σ : zSt} {a j : Nat} {v : Int32} {b : Nat} (h : b ≠ a) : zce Z (zuI σ a j v) b = zce Z σ b := by
  have e : (zuI σ a j v).1 b = σ.1 b := by show (if b = a then _ else _) = _; rw [if_neg h]
  unfold zce
  split
  · unfold zfs; congr 2; apply List.map_congr_left; intro k _; unfold zfv; split <;> first | rfl | (rw [e])
  · rw [e]
  · rfl
theorem zce_uJ {Z : zQ} {σ : zSt} {a j : Nat} {v : Int64} {b : Nat} (h : b ≠ a) : zce Z (zuJ σ a j v) b = zce Z σ b := by
  have e : (zuJ σ a j v).2.1 b = σ.2.1 b := by show (if b = a then _ else _) = _; rw [if_neg h]
  unfold zce
  split
  · unfold zfs; congr 2; apply List.map_congr_left; intro k _; unfold zfv; split <;> first | rfl | (rw [e])
  · rfl
  · rw [e]
theorem zce_uR {Z : zQ} {σ : zSt} {a j : Nat} {v : Value} {b : Nat} (h : b ≠ a) : zce Z (zuR σ a j v) b = zce Z σ b := by
  have e : (zuR σ a j v).2.2.1 b = σ.2.2.1 b := by show (if b = a then _ else _) = _; rw [if_neg h]
  unfold zce
  split
  · unfold zfs; congr 2; apply List.map_congr_left; intro k _; unfold zfv; split <;> first | rfl | (rw [e])
  · rfl
  · rfl
theorem zce_uN {Z : zQ} {σ : zSt} {b : Nat} (h : b ≠ σ.2.2.2) : zce Z (zuN σ) b = zce Z σ b := by
  have e1 : (zuN σ).1 b = σ.1 b := by show (if b = _ then _ else _) = _; rw [if_neg h]
  have e2 : (zuN σ).2.1 b = σ.2.1 b := by show (if b = _ then _ else _) = _; rw [if_neg h]
  have e3 : (zuN σ).2.2.1 b = σ.2.2.1 b := by show (if b = _ then _ else _) = _; rw [if_neg h]
  unfold zce
  split
  · unfold zfs; congr 2; apply List.map_congr_left; intro k _; unfold zfv; rw [e1, e2, e3]
  · rw [e1]
  · rw [e2]
theorem zw_push (Z : zQ) (σ : zSt) : zw Z (zuN σ) = zw Z σ ++ [(Z.1 + σ.2.2.2, zce Z (zuN σ) σ.2.2.2)] := by
  show (List.range (σ.2.2.2 + 1)).map _ = _
  rw [List.range_succ, List.map_append]
  congr 1
  apply List.map_congr_left
  intro k hk
  rw [zce_uN (Nat.ne_of_lt (List.mem_range.mp hk))]
-- sizes
def zsl (a : Nat) : Nat := if (zkd a).1 = 0 then zNF (zkd a).2 else (zkd a).2
def zSS : Nat → Nat
  | 0 => 0
  | n + 1 => zSS n + zsl n
theorem zSS_mono {a b : Nat} (h : a ≤ b) : zSS a ≤ zSS b := by
  induction b with
  | zero => rw [Nat.le_zero.mp h]; exact Nat.le_refl _
  | succ n ih =>
    by_cases hn : a = n + 1
    · rw [hn]; exact Nat.le_refl _
    · exact Nat.le_trans (ih (by omega)) (Nat.le_add_right _ _)
-- the tables' facts, one by one
theorem zmem {α β : Type} [BEq α] [LawfulBEq α] {l : List (α × β)} {a : α} {b : β} (h : l.lookup a = some b) : (a, b) ∈ l := by
  induction l with
  | nil => cases h
  | cons q t ih =>
    obtain ⟨x, y⟩ := q
    rw [List.lookup_cons] at h
    split at h
    · rename_i he
      rw [eq_of_beq he]
      cases h
      exact List.mem_cons_self
    · exact List.mem_cons_of_mem _ (ih h)
theorem zall {P : Nat → Bool} {n : Nat} (h : (List.range n).all P = true) {k : Nat} (hk : k < n) : P k = true := List.all_eq_true.mp h k (List.mem_range.mpr hk)
theorem zgetD {α : Type} {l : List (List α)} {o n : Nat} (hl : l.length ≤ n) {x : α} (h : x ∈ l.getD o []) : o < n := by
  by_cases ho : o < l.length
  · omega
  · rw [List.getD_eq_getElem?_getD, List.getElem?_eq_none (by omega)] at h
    cases h
theorem zf_ok {o i ci k w : Nat} (h : zft o i = some (ci, k, w)) : Jvm.Cond.fieldLink (zNo o) i (zTT ci k).1 (zTT ci k).2.1 (zTT ci k).2.2.1 ∈ zBG ∧ k < zNF ci ∧ ci < 9 := by
  have hm := zmem h
  have h1 := List.all_eq_true.mp (zall zk_f (zgetD (Nat.le_of_ble_eq_true rfl) hm)) _ hm
  simp only [zfP, Bool.and_eq_true, decide_eq_true_eq] at h1
  exact ⟨List.mem_of_getElem? h1.1.1, h1.1.2, h1.2⟩
theorem zi_ok {o i w : Nat} {v : Int32} (h : zki o i = some (v, w)) : Jvm.Cond.constant (zNo o) i v ∈ zBG := by
  have hm := zmem h
  have h1 := List.all_eq_true.mp (zall zk_i (zgetD (Nat.le_of_ble_eq_true rfl) hm)) _ hm
  simp only [decide_eq_true_eq] at h1
  exact List.mem_of_getElem? h1
theorem zj_ok {o i w : Nat} {v : Int64} (h : zkl o i = some (v, w)) : Jvm.Cond.constantLong (zNo o) i v ∈ zBG := by
  have hm := zmem h
  have h1 := List.all_eq_true.mp (zall zk_j (zgetD (Nat.le_of_ble_eq_true rfl) hm)) _ hm
  simp only [decide_eq_true_eq] at h1
  exact List.mem_of_getElem? h1
theorem zl_ok {o i ci w : Nat} (h : zcl o i = some (ci, w)) : Jvm.Cond.classLink (zNo o) i (zNo ci) ∈ zBG ∧ ci < 9 := by
  have hm := zmem h
  have h1 := List.all_eq_true.mp (zall zk_l (zgetD (Nat.le_of_ble_eq_true rfl) hm)) _ hm
  simp only [zlP, Bool.and_eq_true, decide_eq_true_eq] at h1
  exact ⟨List.mem_of_getElem? h1.1, h1.2⟩
theorem zn_ok {ci : Nat} (h : ci < 9) : Jvm.Cond.instantiable (zNo ci) (zNF ci) ∈ zBG ∧ Jvm.Cond.initialized (zNo ci) ∈ zBG := by
  have h1 := zall zk_n h
  simp only [Bool.and_eq_true, decide_eq_true_eq] at h1
  exact ⟨List.mem_of_getElem? h1.1, List.mem_of_getElem? h1.2⟩
theorem zc_ok {o i m k w : Nat} (h : zct o i = some (m, k, w)) : zcP o (i, m, k, w) = true := by
  have hm := zmem h
  exact List.all_eq_true.mp (zall zk_c (zgetD (Nat.le_of_ble_eq_true rfl) hm)) _ hm
theorem zcl_at {ci : Nat} (h : ci < 9) : vwCl[ci]? = some (zNo ci, zTT ci, zNF ci) := by
  rcases (show ci = 0 ∨ ci = 1 ∨ ci = 2 ∨ ci = 3 ∨ ci = 4 ∨ ci = 5 ∨ ci = 6 ∨ ci = 7 ∨ ci = 8 by omega) with rfl | rfl | rfl | rfl | rfl | rfl | rfl | rfl | rfl <;> rfl
theorem zin {ci : Nat} (h : ci < 9) : ∀ w ∈ u_ws (zNo ci) (zTT ci) (zNF ci), w ∈ zBG := by
  rcases (show ci = 0 ∨ ci = 1 ∨ ci = 2 ∨ ci = 3 ∨ ci = 4 ∨ ci = 5 ∨ ci = 6 ∨ ci = 7 ∨ ci = 8 by omega) with rfl | rfl | rfl | rfl | rfl | rfl | rfl | rfl | rfl
  · exact inlX0
  · exact inlX1
  · exact inlX2
  · exact inlX3
  · exact inlX4
  · exact inlX5
  · exact inlX6
  · exact inlX7
  · exact inlX8
theorem zty_ok {ci : Nat} (h : ci < 9) : ∀ k, k < zNF ci → parseFieldDescriptor (zTT ci k).2.2.1 = some (zTY ci k) := by
  rcases (show ci = 0 ∨ ci = 1 ∨ ci = 2 ∨ ci = 3 ∨ ci = 4 ∨ ci = 5 ∨ ci = 6 ∨ ci = 7 ∨ ci = 8 by omega) with rfl | rfl | rfl | rfl | rfl | rfl | rfl | rfl | rfl
  · exact tyX0_ok
  · exact tyX1_ok
  · exact tyX2_ok
  · exact tyX3_ok
  · exact tyX4_ok
  · exact tyX5_ok
  · exact tyX6_ok
  · exact tyX7_ok
  · exact tyX8_ok
theorem znm_ok {ci : Nat} (h : ci < 9) : ∀ a, a < zNF ci → ∀ b, b < zNF ci → a ≠ b → (zTT ci a).2.1 ≠ (zTT ci b).2.1 := by
  rcases (show ci = 0 ∨ ci = 1 ∨ ci = 2 ∨ ci = 3 ∨ ci = 4 ∨ ci = 5 ∨ ci = 6 ∨ ci = 7 ∨ ci = 8 by omega) with rfl | rfl | rfl | rfl | rfl | rfl | rfl | rfl | rfl
  · exact nmX0
  · exact nmX1
  · exact nmX2
  · exact nmX3
  · exact nmX4
  · exact nmX5
  · exact nmX6
  · exact nmX7
  · exact nmX8
/-- a field's type is one of those that the machine keeps; a final field is its own declarer's -/
def ztyk (t : FieldType) : Bool := match t with
  | .int => true | .boolean => true | .long => true | .array _ => true | .object _ => true | _ => false
set_option maxRecDepth 100000 in
theorem zk_t : (List.range 9).all (fun ci => (List.range (zNF ci)).all (fun k => ztyk (zTY ci k) && (zTT ci k).1 == zNo ci)) = true := by decide +kernel
theorem zt_ok {ci k : Nat} (h : ci < 9) (hk : k < zNF ci) : ztyk (zTY ci k) = true ∧ (zTT ci k).1 = zNo ci := by
  have h1 := zall (zall zk_t h) hk
  simp only [Bool.and_eq_true, beq_iff_eq] at h1
  exact h1
set_option maxRecDepth 100000 in
theorem zkd_big : ∀ a, a < 31 → (zkd a).1 < 3 := by decide +kernel
theorem zkd_lt {a t n : Nat} (h : zkd a = (t, n)) (ht : t < 3) : a < 31 := by
  by_cases ha : a < 31
  · exact ha
  · have e : zkd a = (3, 0) := by
      unfold zkd
      rw [List.getD_eq_getElem?_getD, List.getElem?_eq_none (by show 31 ≤ a; omega)]
      rfl
    rw [e] at h
    cases h
    omega
