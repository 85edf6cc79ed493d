theorem zkd_240 : ∀ a, a < 31 → (zkd a).2 ≤ 240 := by decide +kernel
theorem zuN_1 (σ : zSt) : (zuN σ).1 σ.2.2.2 = fun _ => 0 := by show (if _ = _ then _ else _) = _; rw [if_pos rfl]
theorem zuN_2 (σ : zSt) : (zuN σ).2.1 σ.2.2.2 = fun _ => 0 := by show (if _ = _ then _ else _) = _; rw [if_pos rfl]
theorem zuN_3 (σ : zSt) : (zuN σ).2.2.1 σ.2.2.2 = fun _ => .null := by show (if _ = _ then _ else _) = _; rw [if_pos rfl]
section ZA
variable {p : Program} {l : Launch} {e : Env} {R : Room} {s : State} {m : MethodId} {args : Array Value} {below : List Frame} {meth : Method} {c : Code} {H : Heap} {locs : List Loc} {cells slots : Nat} {Q : State → Prop}
variable {pc : Nat} {ls : Array Slot} {rest : List Value} {D : va_G} {Z : zQ} {σ : zSt} {H0 : Heap}
theorem zsing {α : Type} {x y : α} {k : Nat} (h : [x][k]? = some y) : y = x := by
  match k, h with
  | 0, h => exact (Option.some.inj h).symm
  | k + 1, h => simp at h
theorem znew {cc : ByteArray} (hexec : p.tables.exec = Jvm.exec) (hb : c.code = cc) {own : String} {index ci : Nat} (hci : ci < 9) (hts : ∀ w ∈ zBG, w.before args s = true) (hown : s.vm.findClass own = some m.cls) (hK : va_K D vwCl (ztys Z) s) (hW : zWd D Z σ H) (hS : va_S (fun q => Z.1 ≤ q) H0 H locs)
    (hcl : Jvm.Cond.classLink own index (zNo ci) ∈ zBG) (hz : zkd σ.2.2.2 = (0, ci)) (hcells : cells + 1 ≤ R.cells) (hslots : slots + zNF ci ≤ R.slots) (hdg : decode cc pc = .ok (.new index, 3))
    (kk : ∀ H1 : Heap, zWd D Z (zuN σ) H1 → va_S (fun q => Z.1 ≤ q) H0 H1 locs → W p l e R s m args below meth c H1 locs (cells + 1) (slots + zNF ci) Q (F0 m (pc + 3) ls (.ref (Z.1 + σ.2.2.2) :: rest))) : W p l e R s m args below meth c H locs cells slots Q (F0 m pc ls rest) := by
  obtain ⟨hP, hz1, hz2⟩ := hW
  have hc := zcl_at hci
  have hKn := hK.1 ci _ hc
  refine W.newcK hexec hb hown (hts _ hcl) (hts _ (zn_ok hci).1) (hts _ (zn_ok hci).2) rfl hdg hcells hslots hKn.2.1 hz1 fun H1 kC hkC e1 z1 o1 => ?_
  have hk : ∀ (k : Nat) (x : Nat × va_E), (zw Z σ)[k]? = some x → H1[x.1]? = H[x.1]? := fun k x hx => o1 x.1 (by rw [← hz1]; exact (hP k x hx).lt)
  have hlt := zkd_lt hz (by omega)
  refine kk H1 ⟨?_, z1, hlt⟩ ⟨Nat.le_trans hS.1 (by omega), fun x h1 h2 => (o1 x (by rw [← hz1]; exact Nat.lt_of_lt_of_le h1 hS.1)).trans (hS.2.1 x h1 h2), hS.2.2⟩
  rw [zw_push]
  refine (hP.kept hk).app (fun k x hx => ?_)
  rw [zsing hx]
  have he : zce Z (zuN σ) σ.2.2.2 = .inr (ci, zfs Z (zuN σ) σ.2.2.2 ci) := by simp only [zce, hz]
  rw [he]
  refine ⟨_, hc, (u_born (zTY ci) hts (zin hci) hKn hkC e1 (zty_ok hci)).to (fun j hj => ?_)⟩
  show defaultValue (zTY ci j) = (zfs Z (zuN σ) σ.2.2.2 ci).getD j .null
  rw [List.getD_eq_getElem?_getD, zfs_at hj]
  show defaultValue (zTY ci j) = zfv Z (zuN σ) σ.2.2.2 (zTY ci j) j
  have ht := (zt_ok hci hj).1
  unfold zfv
  rw [zuN_1, zuN_2, zuN_3]
  generalize zTY ci j = t at ht ⊢
  cases t <;> first | rfl | (simp [ztyk] at ht)
theorem znewI {cc : ByteArray} (hexec : p.tables.exec = Jvm.exec) (hb : c.code = cc) (hts : ∀ w ∈ zBG, w.before args s = true) (hK : va_K D vwCl (ztys Z) s) (hW : zWd D Z σ H) (hS : va_S (fun q => Z.1 ≤ q) H0 H locs) {n : Int32} {N : Nat} (hz : zkd σ.2.2.2 = (1, N)) (hn : ¬ n < 0) (hN : n.toNatClampNeg = N) (hcells : cells + 1 ≤ R.cells) (hslots : slots + N ≤ R.slots) (hdg : decode cc pc = .ok (.newarray .int, 2))
    (kk : ∀ H1 : Heap, zWd D Z (zuN σ) H1 → va_S (fun q => Z.1 ≤ q) H0 H1 locs → W p l e R s m args below meth c H1 locs (cells + 1) (slots + N) Q (F0 m (pc + 2) ls (.ref (Z.1 + σ.2.2.2) :: rest))) : W p l e R s m args below meth c H locs cells slots Q (F0 m pc ls (.int n :: rest)) := by
  obtain ⟨hP, hz1, hz2⟩ := hW
  have hlt := zkd_lt hz (by omega)
  have h240 : N ≤ 240 := by have h := zkd_240 _ hlt; rw [hz] at h; exact h
  refine va_newaK (atype := .int) hexec hb (hts _ zk_o.2.2) rfl hdg rfl hn hN (by show N * 4 ≤ 536870912; omega) hcells hslots hz1 fun H1 cA e1 z1 o1 hAr hNm => ?_
  have hcA : cA = Z.2.2.1 := Option.some.inj (hNm.symm.trans (hK.2 0 _ rfl).2)
  subst hcA
  have hk : ∀ (k : Nat) (x : Nat × va_E), (zw Z σ)[k]? = some x → H1[x.1]? = H[x.1]? := fun k x hx => o1 x.1 (by rw [← hz1]; exact (hP k x hx).lt)
  refine kk H1 ⟨?_, z1, hlt⟩ ⟨Nat.le_trans hS.1 (by omega), fun x h1 h2 => (o1 x (by rw [← hz1]; exact Nat.lt_of_lt_of_le h1 hS.1)).trans (hS.2.1 x h1 h2), hS.2.2⟩
  rw [zw_push]
  refine (hP.kept hk).app (fun k x hx => ?_)
  rw [zsing hx]
  have he : zce Z (zuN σ) σ.2.2.2 = .inl (Z.2.2.1, N, .inl (fun _ => 0)) := by simp only [zce, hz, zuN_1]
  rw [he]
  exact e1
end ZA
