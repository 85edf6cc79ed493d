theorem zlI_spec {o : Option Value} {G : Int32 → Prop} (h : zlI o G) : ∃ x, o = some (.int x) ∧ G x := by
  unfold zlI at h; split at h
  · exact ⟨_, rfl, h⟩
  · exact h.elim
theorem zlJ_spec {o : Option Value} {G : Int64 → Prop} (h : zlJ o G) : ∃ x, o = some (.long x) ∧ G x := by
  unfold zlJ at h; split at h
  · exact ⟨_, rfl, h⟩
  · exact h.elim
theorem zlR_spec {o : Option Value} {G : Nat → Prop} (h : zlR o G) : ∃ x, o = some (.ref x) ∧ G x := by
  unfold zlR at h; split at h
  · exact ⟨_, rfl, h⟩
  · exact h.elim
theorem zsI_spec {S : List Value} {G : Int32 → List Value → Prop} (h : zsI S G) : ∃ x r, S = .int x :: r ∧ G x r := by
  unfold zsI at h; split at h
  · exact ⟨_, _, rfl, h⟩
  · exact h.elim
theorem zsJ_spec {S : List Value} {G : Int64 → List Value → Prop} (h : zsJ S G) : ∃ x r, S = .long x :: r ∧ G x r := by
  unfold zsJ at h; split at h
  · exact ⟨_, _, rfl, h⟩
  · exact h.elim
theorem zsR_spec {S : List Value} {G : Nat → List Value → Prop} (h : zsR S G) : ∃ x r, S = .ref x :: r ∧ G x r := by
  unfold zsR at h; split at h
  · exact ⟨_, _, rfl, h⟩
  · exact h.elim
theorem zsII_spec {S : List Value} {G : Int32 → Int32 → List Value → Prop} (h : zsII S G) : ∃ x y r, S = .int y :: .int x :: r ∧ G x y r := by
  unfold zsII at h; split at h
  · exact ⟨_, _, _, rfl, h⟩
  · exact h.elim
theorem zsJJ_spec {S : List Value} {G : Int64 → Int64 → List Value → Prop} (h : zsJJ S G) : ∃ x y r, S = .long y :: .long x :: r ∧ G x y r := by
  unfold zsJJ at h; split at h
  · exact ⟨_, _, _, rfl, h⟩
  · exact h.elim
theorem zsA_spec {S : List Value} {G : Nat → Int32 → List Value → Prop} (h : zsA S G) : ∃ a i r, S = .int i :: .ref a :: r ∧ G a i r := by
  unfold zsA at h; split at h
  · exact ⟨_, _, _, rfl, h⟩
  · exact h.elim
theorem zsAI_spec {S : List Value} {G : Nat → Int32 → Int32 → List Value → Prop} (h : zsAI S G) : ∃ a i x r, S = .int x :: .int i :: .ref a :: r ∧ G a i x r := by
  unfold zsAI at h; split at h
  · exact ⟨_, _, _, _, rfl, h⟩
  · exact h.elim
theorem zsAJ_spec {S : List Value} {G : Nat → Int32 → Int64 → List Value → Prop} (h : zsAJ S G) : ∃ a i x r, S = .long x :: .int i :: .ref a :: r ∧ G a i x r := by
  unfold zsAJ at h; split at h
  · exact ⟨_, _, _, _, rfl, h⟩
  · exact h.elim
theorem zs1_spec {S : List Value} {G : Value → List Value → Prop} (h : zs1 S G) : ∃ v r, S = v :: r ∧ G v r := by
  unfold zs1 at h; split at h
  · exact ⟨_, _, rfl, h⟩
  · exact h.elim
theorem zs2_spec {S : List Value} {G : Value → Value → List Value → Prop} (h : zs2 S G) : ∃ v w r, S = v :: w :: r ∧ G v w r := by
  unfold zs2 at h; split at h
  · exact ⟨_, _, _, rfl, h⟩
  · exact h.elim
theorem zsP_spec {S : List Value} {G : Value → Nat → List Value → Prop} (h : zsP S G) : ∃ v a r, S = v :: .ref a :: r ∧ G v a r := by
  unfold zsP at h; split at h
  · exact ⟨_, _, _, rfl, h⟩
  · exact h.elim
theorem zcL_get {Z : zQ} {L : zLo} {ls : Array Slot} {n i : Nat} {v : Value} (hl : lv_has ls n (zcL Z L)) (h : L.lookup i = some v) : ls[i]? = some (.val (zcv Z v)) :=
  hl.2.2 (i, zcv Z v) (List.mem_map.mpr ⟨(i, v), zmem h, rfl⟩)
theorem zcL_at {Z : zQ} {L : zLo} {i : Nat} {v : Value} (h : L.lookup i = some v) : ∃ k : Nat, (zcL Z L)[k]? = some (i, zcv Z v) := by
  obtain ⟨k, hk⟩ := List.getElem?_of_mem (List.mem_map.mpr ⟨(i, v), zmem h, rfl⟩ : (i, zcv Z v) ∈ zcL Z L)
  exact ⟨k, hk⟩
theorem zcL_1 (Z : zQ) (L : zLo) (i : Nat) (v : Value) : (i, zcv Z v) :: (zcL Z L).filter (fun q => !(q.1 == i) && !(q.1 + 1 == i && q.2.category == 2)) = zcL Z (zst1 L i v) := by
  unfold zcL zst1
  rw [List.map_cons, List.filter_map]
  congr 2
  apply List.filter_congr
  intro q _
  simp only [Function.comp, zcv_cat]
theorem zcL_2 (Z : zQ) (L : zLo) (i : Nat) (v : Value) : (i, zcv Z v) :: (zcL Z L).filter (fun q => !(q.1 == i) && (!(q.1 == i + 1) && !(q.1 + 1 == i && q.2.category == 2))) = zcL Z (zst2 L i v) := by
  unfold zcL zst2
  rw [List.map_cons, List.filter_map]
  congr 2
  apply List.filter_congr
  intro q _
  simp only [Function.comp, zcv_cat]
theorem zcL_args (Z : zQ) (as : List Value) : ∀ i, lv_args i (as.map (zcv Z)) = zcL Z (lv_args i as) := by
  induction as with
  | nil => intro i; rfl
  | cons v t ih =>
    intro i
    show (i, zcv Z v) :: lv_args (if (zcv Z v).category = 2 then i + 2 else i + 1) (t.map (zcv Z)) = (i, zcv Z v) :: zcL Z (lv_args (if v.category = 2 then i + 2 else i + 1) t)
    rw [zcv_cat, ih]
theorem zcs_map (Z : zQ) (S : List Value) : ((S.map (zcv Z)).map fun v => v.category).sum = zcs S := by
  unfold zcs
  rw [List.map_map]
  congr 1
  apply List.map_congr_left
  intro v _
  exact zcv_cat Z v
theorem ztg_ok {pc : Nat} {off : Int} (h : 0 ≤ (pc : Int) + off) : (pc : Int) + off = (ztg pc off : Int) := (Int.toNat_of_nonneg h).symm
theorem zD {b : ByteArray} {pc len : Nat} {ins : Instr} (hd : decode b pc = .ok (ins, len)) (hg : zgd (pc, ins, len) = true) (hn : (match ins with | .tableswitch _ _ _ _ => false | _ => true) = true) : decode b pc = .ok (ins, zlen ins) := by
  have h : len = zlen ins := by
    unfold zgd at hg
    rw [Bool.and_eq_true] at hg
    have h1 := hg.1
    cases ins <;> first | exact eq_of_beq h1 | (simp at hn)
  rw [← h]; exact hd
def zgo (pc : Nat) (ins : Instr) : Bool := match ins with
  | .ifCond _ off => decide (0 ≤ (pc : Int) + off)
  | .if_icmp _ off => decide (0 ≤ (pc : Int) + off)
  | .goto off => decide (0 ≤ (pc : Int) + off)
  | .tableswitch d _ _ _ => decide (0 ≤ (pc : Int) + d)
  | _ => true
theorem zG {pc len : Nat} {ins : Instr} (hg : zgd (pc, ins, len) = true) : zgo pc ins = true := by
  unfold zgd at hg
  rw [Bool.and_eq_true] at hg
  cases ins <;> first | rfl | exact hg.2
/-- the heap holds the cells -/
def zWd (D : va_G) (Z : zQ) (σ : zSt) (H : Heap) : Prop := va_P D vwCl (zw Z σ) H ∧ H.size = Z.1 + σ.2.2.2 ∧ σ.2.2.2 ≤ 31
abbrev ztys (Z : zQ) : List (ClassId × FieldType) := [(Z.2.2.1, .int)]
/-- what the tables say -/
def zKK (D : va_G) (Z : zQ) (U : State) : Prop := va_K D vwCl (ztys Z) U ∧ ∀ q ∈ zNS, va_Nw (.methodLinkNest q.1 q.2.1 q.2.2.1 q.2.2.2) U
theorem zKK_same {D : va_G} {Z : zQ} {u U : State} (h : u.vm = U.vm) (k : zKK D Z u) : zKK D Z U := ⟨va_K.moved (by rw [h]; exact Vm.Alike.refl U.vm) k.1, fun q hq => va_Nw.same rfl h (k.2 q hq)⟩
theorem zKK_warm {D : va_G} {Z : zQ} {s U : State} (h : s.WarmedH U.vm) (k : zKK D Z s) : zKK D Z U := ⟨va_K.moved h.alike k.1, fun q hq => va_Nw.warmM h (k.2 q hq)⟩
section ZR
variable {p : Program} {l : Launch} {e : Env} {R : Room} {s : State} {m : MethodId} {args : Array Value} {below : List Frame} {meth : Method} {c : Code} {H : Heap} {locs : List Loc} {cells slots : Nat} {Q : State → Prop}
variable {pc : Nat} {ls : Array Slot} {rest : List Value} {D : va_G} {Z : zQ} {σ : zSt} {H0 : Heap}
/-- a field is written, final or not; the heap's size stays -/
theorem zput {cc : ByteArray} (hexec : p.tables.exec = Jvm.exec) (hb : c.code = cc) {own : String} {index ci a k : Nat} (hci : ci < 9) (hts : ∀ w ∈ zBG, w.before args s = true) (hown : s.vm.findClass own = some m.cls) (hK : va_K D vwCl (ztys Z) s) (hP : va_P D vwCl (zw Z σ) H) (hS0 : va_S (fun q => Z.1 ≤ q) H0 H locs) (ha : a < σ.2.2.2) (hz : zkd a = (0, ci)) (hk : k < zNF ci)
    (hlink : Jvm.Cond.fieldLink own index (zTT ci k).1 (zTT ci k).2.1 (zTT ci k).2.2.1 ∈ zBG) (hfin : (zTT ci k).2.2.2 = false ∨ (meth.name = "<init>" ∧ zNo ci = own)) {v : Value} (hn : narrow (zTY ci k) v = v) (hfit : fits (zTY ci k) v = true) (hdg : decode cc pc = .ok (.putfield index, 3))
    (kk : ∀ (H1 : Heap) (locs1 : List Loc), va_P D vwCl ((zw Z σ).set a (Z.1 + a, .inr (ci, (zfs Z σ a ci).set k v))) H1 → H1.size = H.size → va_S (fun q => Z.1 ≤ q) H0 H1 locs1 → W p l e R s m args below meth c H1 locs1 cells slots Q (F0 m (pc + 3) ls rest)) : W p l e R s m args below meth c H locs cells slots Q (F0 m pc ls (v :: .ref (Z.1 + a) :: rest)) := by
  have he : (zw Z σ)[a]? = some (Z.1 + a, .inr (ci, zfs Z σ a ci)) := by rw [zw_at ha]; simp only [zce, hz]
  have hc := zcl_at hci
  have hap := va_apart (own := own) hts (zin hci) (zTY ci) (zty_ok hci) (znm_ok hci) hK hc
  obtain ⟨r, h1, cell, q1, q2, q3, q4⟩ := hP a _ he
  have hr : r = (zNo ci, zTT ci, zNF ci) := Option.some.inj (h1.symm.trans hc)
  subst hr
  obtain ⟨hS, hfc, kC, hkC, hkind⟩ := hK.1 ci _ hc
  obtain ⟨cf, kf, fi, f, hi, hsl⟩ := hS k hk
  have hlay := hts _ (zin hci _ (u_in_lay hk))
  have hst := (u_facts hfc hkC (u_lays hts (zin hci) hk) hi).1
  have hl : k < (zfs Z σ a ci).length := by simp [zfs]; exact hk
  have hlk := hts _ hlink
  have fin : ∀ H' : Heap, H'[Z.1 + a]? = some (cell.setSlot f.slot v) → H'.size = H.size → (∀ q, q ≠ Z.1 + a → H'[q]? = H[q]?) → W p l e R s m args below meth c H' (locs ++ [⟨Z.1 + a, f.slot⟩]) cells slots Q (F0 m (pc + 3) ls rest) := by
    intro H' e1 e2 e3
    rw [hsl] at e1 ⊢
    exact kk H' _ (hP.set (zw_D Z σ) he ⟨_, hc, t_OB.to (V := updV (vp_V (zfs Z σ a ci)) k v) ⟨_, e1, q2, q3, t_set q4 hap hk v⟩ (fun j _ => vp_updV_set hl v j)⟩ e3) e2 (hS0.put e2 e3 (Nat.le_add_right _ _))
  rcases hfin with hfin | ⟨hin2, hdecl⟩
  · unfold u_lay at hlay
    rw [if_neg (by rw [hfin]; decide)] at hlay
    have h6 := u_store hfc hkC hkind hlay hi (zty_ok hci k hk) hn hfit
    exact W.putK hexec hb (f := f) ⟨hown, hlk, ⟨_, _, _, hi⟩, hst⟩ (by rw [q2]; exact h6) q1 q3 (by rw [hsl]; exact k2_hasslot (q4 k hk)) rfl rfl hdg fin
  · by_cases hb2 : (zTT ci k).2.2.2 = true
    · unfold u_lay at hlay
      rw [if_pos hb2] at hlay
      have hcf : m.cls = cf := by
        obtain ⟨_, _, c', _, _, _, -, -, hf', -, -, -, hown2, -⟩ := Cond.laysFinal_spec hlay
        have e1 : c' = cf := by have := hi.symm.trans hf'; simp at this; exact this.1.symm
        rw [(zt_ok hci hk).2, hdecl] at hown2
        rw [← e1]; exact Option.some.inj (hown.symm.trans hown2)
      have h6 := u_fits hfc hkC hkind (Or.inr hlay) hi (zty_ok hci k hk) hn hfit
      exact W.putFinK hexec hb hown hlk hi hst hcf hin2 (by rw [q2]; exact h6) q1 q3 (by rw [hsl]; exact k2_hasslot (q4 k hk)) rfl rfl hdg fin
    · unfold u_lay at hlay
      rw [if_neg hb2] at hlay
      have h6 := u_store hfc hkC hkind hlay hi (zty_ok hci k hk) hn hfit
      exact W.putK hexec hb (f := f) ⟨hown, hlk, ⟨_, _, _, hi⟩, hst⟩ (by rw [q2]; exact h6) q1 q3 (by rw [hsl]; exact k2_hasslot (q4 k hk)) rfl rfl hdg fin
theorem ziast {cc : ByteArray} (hexec : p.tables.exec = Jvm.exec) (hb : c.code = cc) (hK : va_K D vwCl (ztys Z) s) (hP : va_P D vwCl (zw Z σ) H) (hS0 : va_S (fun q => Z.1 ≤ q) H0 H locs) {a n : Nat} (ha : a < σ.2.2.2) (hz : zkd a = (1, n)) {i x : Int32} (hin : vp_in i n) (hdg : decode cc pc = .ok (.iastore, 1))
    (kk : ∀ (H1 : Heap) (locs1 : List Loc), va_P D vwCl ((zw Z σ).set a (Z.1 + a, .inl (Z.2.2.1, n, .inl (upd (σ.1 a) i.toNatClampNeg x)))) H1 → H1.size = H.size → va_S (fun q => Z.1 ≤ q) H0 H1 locs1 → W p l e R s m args below meth c H1 locs1 cells slots Q (F0 m (pc + 1) ls rest)) : W p l e R s m args below meth c H locs cells slots Q (F0 m pc ls (.int x :: .int i :: .ref (Z.1 + a) :: rest)) := by
  have he : (zw Z σ)[a]? = some (Z.1 + a, .inl (Z.2.2.1, n, .inl (σ.1 a))) := by rw [zw_at ha]; simp only [zce, hz]
  refine W.iast hexec hb (hP a _ he) ((hK.2 0 _ rfl).1 n (fun j => .int (σ.1 a j))) (fun q => by cases q) (by show ¬ (i < 0 ∨ (arrV _ _ _).slots.size ≤ _); rw [arrV_size]; exact hin) rfl rfl hdg fun H1 e z oq => ?_
  refine kk H1 _ (hP.set (zw_D Z σ) he ?_ oq) z (hS0.put z oq (Nat.le_add_right _ _))
  show H1[Z.1 + a]? = some (vp_cell _ _)
  rw [e, vp_cell_i, vp_cell_i, arrV_store]
  congr 2
  funext q
  by_cases hq : q = i.toNatClampNeg
  · subst hq; simp [updV, upd]
  · simp [updV, upd, hq]
end ZR
