theorem lg_sl_cv (Z : zQ) (as : List Value) : (lg_sl (as.map (zcv Z))).length = (lg_sl as).length := by
  induction as with
  | nil => rfl
  | cons v t ih =>
    have e : ∀ (w : Value) (u : List Value), (lg_sl (w :: u)).length = (if w.category = 2 then 2 else 1) + (lg_sl u).length := by
      intro w u
      rcases lv_cat w with h | h <;> simp [lg_sl, h] <;> omega
    rw [List.map_cons, e, e, ih, zcv_cat]
theorem zV_weak {D : va_G} {Z : zQ} {mm n0 : Nat} {p : Program} {l : Launch} {e : Env} {R : Room} {s : State} {m : MethodId} {args : Array Value} {below : List Frame} {meth : Method} {c : Code} {Q : State → Prop} {pc : Nat} {L L' : zLo} {S : List Value} {σ : zSt} (hq : ∀ q ∈ L', q ∈ L) (h : zV D Z mm n0 p l e R s m args below meth c Q pc L' S σ) : zV D Z mm n0 p l e R s m args below meth c Q pc L S σ := fun H locs ls cells slots hl hW hS hc hs => h H locs ls cells slots ⟨hl.1, hl.2.1, fun q h1 => by
  obtain ⟨x, hx, rfl⟩ := List.mem_map.mp h1
  exact hl.2.2 _ (List.mem_map.mpr ⟨x, hq x hx, rfl⟩)⟩ hW hS hc hs
theorem zmet (zx : Nat × (Nat → Int32)) : ∀ (d mm : Nat) (as : List Value) (σ : zSt) (K : Option Value → zSt → Prop), zSp zx d mm as σ K → zMt zx d mm as σ K := by
  intro d
  induction d with
  | zero => intro mm as σ K h; exact h.elim
  | succ d ih =>
    intro mm as σ K h
    obtain ⟨⟨hm, hlen⟩, hV⟩ := h
    refine ⟨hm, fun l D Z => ?_⟩
    obtain ⟨-, -, -, fpl, -, fin, fow⟩ := zm_ok hm
    refine Met.ofW (cc := zB mm) (maxL := zML mm) (ret := zRT mm) fpl rfl ?_
    intro p e s m args below meth c s₁ B hml hv
    obtain ⟨rfl, hW, hK, hXX⟩ := hv
    have hlocks := B.notSynchronized
    have hts := atoms_spec (ws := zws mm) B.pre
    have hmono := zSS_mono (Nat.le_add_right σ.2.2.2 (zAl mm))
    have F : zFx D Z zx mm d σ.2.2.2 (σ.2.2.2 + zAl mm) p (headSpec (zws mm) (zrm (d + 1) mm σ.2.2.2)).room s m (as.map (zcv Z)).toArray meth c :=
      ⟨⟨B.exec, B.bytes, hml, by rw [← fow]; exact findClass_of_methodNamed B.named⟩, fun w hw => hts w (List.mem_cons_of_mem _ hw), hK, ⟨Nat.le_refl _, Nat.le_refl _⟩, fun q => by rw [(name_of_methodNamed B.named B.method).1]; exact (fin q).1, fun _ => hXX, ⟨by show _ ≤ zAl mm + _; omega, by show _ ≤ (zSS (σ.2.2.2 + zAl mm) - zSS σ.2.2.2) + _; omega⟩, by omega⟩
    have h1 := hV (zV D Z mm σ.2.2.2 p l e (headSpec (zws mm) (zrm (d + 1) mm σ.2.2.2)).room s m (as.map (zcv Z)).toArray below meth c (MQ below (zQc D Z mm K σ) (as.map (zcv Z)).toArray s (zAl mm) (zSS (σ.2.2.2 + zAl mm) - zSS σ.2.2.2) (fun q => Z.1 ≤ q))) ⟨(fun pc L S σ' hst => by
      unfold zST at hst
      split at hst
      · rename_i ins len hcd
        refine zstep F ih ?_ ?_ ?_ hcd hst
        · intro x τ pc H locs ls cells slots hr hn k hd hW' hS hc hs
          have e1 : cells = zAl mm := by omega
          have e2 : slots = zSS (σ.2.2.2 + zAl mm) - zSS σ.2.2.2 := by rw [← hn]; omega
          subst e1
          subst e2
          have hq : ∀ t : State, t.heap = H → s.WarmedH t.vm → zQc D Z mm K σ (as.map (zcv Z)).toArray s (.returned (some (.int x))) t := fun t ht _ => ⟨⟨some (.int x), τ, rfl, k, hn, by rw [ht]; exact hW'⟩, hS.F ht⟩
          unfold zret at hr
          split at hr
          · rename_i hrt _
            exact W.iret B.exec B.bytes (B.returns.trans hrt) hq hS.2.2 hd
          · rename_i hrt hx
            cases hx
            exact W.zret B.exec B.bytes (B.returns.trans hrt) (by rcases hr with rfl | rfl <;> rfl) hq hS.2.2 hd
          · rename_i hx
            cases hx
          · exact hr.elim
        · intro x τ pc H locs ls cells slots hr hn k hd hW' hS hc hs
          have e1 : cells = zAl mm := by omega
          have e2 : slots = zSS (σ.2.2.2 + zAl mm) - zSS σ.2.2.2 := by rw [← hn]; omega
          subst e1
          subst e2
          have hq : ∀ t : State, t.heap = H → s.WarmedH t.vm → zQc D Z mm K σ (as.map (zcv Z)).toArray s (.returned (some (.long x))) t := fun t ht _ => ⟨⟨some (.long x), τ, rfl, k, hn, by rw [ht]; exact hW'⟩, hS.F ht⟩
          unfold zret at hr
          split at hr
          · rename_i hx
            cases hx
          · rename_i hx
            cases hx
          · rename_i hrt _
            exact W.lret B.exec B.bytes (B.returns.trans hrt) hq hS.2.2 hd
          · exact hr.elim
        · intro τ pc H locs ls cells slots hr hn k hd hW' hS hc hs
          have e1 : cells = zAl mm := by omega
          have e2 : slots = zSS (σ.2.2.2 + zAl mm) - zSS σ.2.2.2 := by rw [← hn]; omega
          subst e1
          subst e2
          have hq : ∀ t : State, t.heap = H → s.WarmedH t.vm → zQc D Z mm K σ (as.map (zcv Z)).toArray s (.returned none) t := fun t ht _ => ⟨⟨none, τ, rfl, k, hn, by rw [ht]; exact hW'⟩, hS.F ht⟩
          exact W.vret B.exec B.bytes (B.returns.trans hr) hq hS.2.2 hd
      · exact hst.elim), fun _ _ _ _ _ hq hv => zV_weak hq hv⟩
    rw [lg_entry_eq]
    exact h1 s.heap [] _ 0 0 (by rw [← zcL_args]; exact lv_entry _ (by rw [lg_sl_cv]; exact hlen)) hW va_S.rf (by omega) (by omega)
