section ZF
variable {C : Nat → List Value → zSt → (Option Value → zSt → Prop) → Prop} {X : Nat × (Nat → Int32)} {m lim : Nat} {Kn : Nat → Bool} {V V0 : Nat → zLo → List Value → zSt → Prop} {K : Option Value → zSt → Prop}
theorem zRr_spec {o : Option Nat} {G : Value → Prop} (h : match o with
    | some b => G (.ref b)
    | none => False) : ∃ b, o = some b ∧ G (.ref b) := by
  split at h
  · exact ⟨_, rfl, h⟩
  · exact h.elim
theorem zkd_of {a t n : Nat} (h : (Nat.beq (zkd a).1 t && Nat.beq (zkd a).2 n) = true) : zkd a = (t, n) := by
  rw [Bool.and_eq_true] at h
  rw [← Nat.eq_of_beq_eq_true h.1, ← Nat.eq_of_beq_eq_true h.2]
theorem zcT_ok {t o i : Nat} {S : List Value} {σ : zSt} {G G' G0 : List Value → zSt → Prop} (hI : zQI Kn σ.2.2) (hn : σ.2.2.2 = lim) (hk : ∀ S', G S' σ → G0 S' σ) (h : zcT C Kn t o i S σ G G0) : zcall C lim t o i S σ G0 := by
  unfold zcT at h
  unfold zcall
  split at h
  · rename_i mk k w hct
    rw [hct]
    dsimp only
    split at h
    · exact h.elim
    · rename_i hkt
      rw [hkt]
      dsimp only
      split at h
      · exact h.elim
      · obtain ⟨x, y, r, rfl, h2⟩ := zsII_spec h
        clear h
        have h := h2
        clear h2
        split at h
        · rename_i hc
          exact ⟨⟨Nat.le_of_ble_eq_true hc, Nat.le_of_eq hn⟩, hk _ h⟩
        · exact h.elim
      · obtain ⟨x, y, r, rfl, h2⟩ := zsII_spec h
        clear h
        have h := h2
        clear h2
        split at h
        · rename_i hc
          exact ⟨⟨Nat.le_of_ble_eq_true hc, Nat.le_of_eq hn⟩, hk _ h⟩
        · exact h.elim
      · rename_i n3 n4 n5
        split at h
        · rename_i hc
          rw [Bool.and_eq_true, Bool.and_eq_true, Bool.and_eq_true] at hc
          obtain ⟨⟨⟨c1, c2⟩, c3⟩, c4⟩ := hc
          have h9 : (zcs (S.drop (zna mk (k % 10))) ≤ 8 ∧ zna mk (k % 10) ≤ S.length ∧ zrc σ o mk (k % 10) (S.take (zna mk (k % 10))).reverse ∧ σ.2.2.2 + zAl mk ≤ lim) := by
            refine ⟨Nat.le_of_ble_eq_true c1, Nat.le_of_ble_eq_true c2, ?_, by rw [Nat.eq_of_beq_eq_true c3]; omega⟩
            generalize hes : (S.take (zna mk (k % 10))).reverse = as at c4 ⊢
            unfold zrc
            split at c4
            · rename_i e
              rw [e]
              trivial
            · rename_i e
              rw [e]
              split at c4
              · rename_i b u
                rw [Bool.and_eq_true] at c4
                exact ⟨(hI b c4.1).1, zkd_of c4.2⟩
              · cases c4
            · cases c4
          split
          · exact absurd rfl n3
          · exact absurd rfl n4
          · exact absurd rfl n5
          · exact ⟨h9, h⟩
        · exact h.elim
  · exact h.elim
set_option maxHeartbeats 4000000 in
theorem zTI_ok (hk : ∀ pc L S σ', zQI Kn σ'.2.2 → σ'.2.2.2 = lim → V pc L S σ' → V0 pc L S σ') {ins : Instr} {pc : Nat} {L : zLo} {S : List Value} {σ : zSt} (hI : zQI Kn σ.2.2) (hn : σ.2.2.2 = lim) (h : zTI C X m Kn V V0 K ins pc L S σ) : zSI C X m lim V0 K ins pc L S σ := by
  cases ins with
  | aload_n n =>
    obtain ⟨a, h1, k⟩ := zlR_spec h
    show zlR _ _
    rw [h1]
    exact hk _ _ _ _ hI hn k
  | iload_n n =>
    obtain ⟨a, h1, k⟩ := zlI_spec h
    show zlI _ _
    rw [h1]
    exact hk _ _ _ _ hI hn k
  | lload_n n =>
    obtain ⟨a, h1, k⟩ := zlJ_spec h
    show zlJ _ _
    rw [h1]
    exact hk _ _ _ _ hI hn k
  | iload n =>
    obtain ⟨a, h1, k⟩ := zlI_spec h
    show zlI _ _
    rw [h1]
    exact hk _ _ _ _ hI hn k
  | lload n =>
    obtain ⟨a, h1, k⟩ := zlJ_spec h
    show zlJ _ _
    rw [h1]
    exact hk _ _ _ _ hI hn k
  | istore_n n =>
    unfold zTI at h
    dsimp only at h
    split at h
    · rename_i hb
      obtain ⟨x, r, rfl, k⟩ := zsI_spec h
      exact ⟨Nat.le_of_ble_eq_true hb, hk _ _ _ _ hI hn k⟩
    · exact h.elim
  | istore n =>
    unfold zTI at h
    dsimp only at h
    split at h
    · rename_i hb
      obtain ⟨x, r, rfl, k⟩ := zsI_spec h
      exact ⟨Nat.le_of_ble_eq_true hb, hk _ _ _ _ hI hn k⟩
    · exact h.elim
  | lstore_n n =>
    unfold zTI at h
    dsimp only at h
    split at h
    · rename_i hb
      obtain ⟨x, r, rfl, k⟩ := zsJ_spec h
      exact ⟨Nat.le_of_ble_eq_true hb, hk _ _ _ _ hI hn k⟩
    · exact h.elim
  | lstore n =>
    unfold zTI at h
    dsimp only at h
    split at h
    · rename_i hb
      obtain ⟨x, r, rfl, k⟩ := zsJ_spec h
      exact ⟨Nat.le_of_ble_eq_true hb, hk _ _ _ _ hI hn k⟩
    · exact h.elim
  | astore_n n =>
    obtain ⟨x, r, rfl, h1, k⟩ := zsR_spec h
    exact ⟨h1, hk _ _ _ _ hI hn k⟩
  | iinc n q =>
    unfold zTI at h
    dsimp only at h
    split at h
    · rename_i hb
      obtain ⟨x, h1, k⟩ := zlI_spec h
      refine ⟨Nat.le_of_ble_eq_true hb, ?_⟩
      show zlI _ _
      rw [h1]
      exact hk _ _ _ _ hI hn k
    · exact h.elim
  | iconst n =>
    exact hk _ _ _ _ hI hn h
  | bipush n =>
    exact hk _ _ _ _ hI hn h
  | sipush n =>
    exact hk _ _ _ _ hI hn h
  | lconst n =>
    exact hk _ _ _ _ hI hn h
  | goto n =>
    exact hk _ _ _ _ hI hn h
  | ldc n =>
    unfold zTI zSI at h
    unfold zSI
    dsimp only at h ⊢
    split at h
    · exact hk _ _ _ _ hI hn h
    · exact h.elim
  | ldc_w n =>
    unfold zTI zSI at h
    unfold zSI
    dsimp only at h ⊢
    split at h
    · exact hk _ _ _ _ hI hn h
    · exact h.elim
  | ldc2_w n =>
    unfold zTI zSI at h
    unfold zSI
    dsimp only at h ⊢
    split at h
    · exact hk _ _ _ _ hI hn h
    · exact h.elim
  | iadd =>
    obtain ⟨x, y, r, rfl, k⟩ := zsII_spec h
    exact hk _ _ _ _ hI hn k
  | isub =>
    obtain ⟨x, y, r, rfl, k⟩ := zsII_spec h
    exact hk _ _ _ _ hI hn k
  | imul =>
    obtain ⟨x, y, r, rfl, k⟩ := zsII_spec h
    exact hk _ _ _ _ hI hn k
  | iand =>
    obtain ⟨x, y, r, rfl, k⟩ := zsII_spec h
    exact hk _ _ _ _ hI hn k
  | ior =>
    obtain ⟨x, y, r, rfl, k⟩ := zsII_spec h
    exact hk _ _ _ _ hI hn k
  | ixor =>
    obtain ⟨x, y, r, rfl, k⟩ := zsII_spec h
    exact hk _ _ _ _ hI hn k
  | ishl =>
    obtain ⟨x, y, r, rfl, k⟩ := zsII_spec h
    exact hk _ _ _ _ hI hn k
  | ishr =>
    obtain ⟨x, y, r, rfl, k⟩ := zsII_spec h
    exact hk _ _ _ _ hI hn k
  | iushr =>
    obtain ⟨x, y, r, rfl, k⟩ := zsII_spec h
    exact hk _ _ _ _ hI hn k
  | idiv =>
    obtain ⟨x, y, r, rfl, h1, k⟩ := zsII_spec h
    exact ⟨h1, hk _ _ _ _ hI hn k⟩
  | irem =>
    obtain ⟨x, y, r, rfl, h1, k⟩ := zsII_spec h
    exact ⟨h1, hk _ _ _ _ hI hn k⟩
  | ineg =>
    obtain ⟨x, r, rfl, k⟩ := zsI_spec h
    exact hk _ _ _ _ hI hn k
  | i2l =>
    obtain ⟨x, r, rfl, k⟩ := zsI_spec h
    exact hk _ _ _ _ hI hn k
  | i2b =>
    obtain ⟨x, r, rfl, k⟩ := zsI_spec h
    exact hk _ _ _ _ hI hn k
  | i2s =>
    obtain ⟨x, r, rfl, k⟩ := zsI_spec h
    exact hk _ _ _ _ hI hn k
  | l2i =>
    obtain ⟨x, r, rfl, k⟩ := zsJ_spec h
    exact hk _ _ _ _ hI hn k
  | lneg =>
    obtain ⟨x, r, rfl, k⟩ := zsJ_spec h
    exact hk _ _ _ _ hI hn k
  | ladd =>
    obtain ⟨x, y, r, rfl, k⟩ := zsJJ_spec h
    exact hk _ _ _ _ hI hn k
  | lsub =>
    obtain ⟨x, y, r, rfl, k⟩ := zsJJ_spec h
    exact hk _ _ _ _ hI hn k
  | lmul =>
    obtain ⟨x, y, r, rfl, k⟩ := zsJJ_spec h
    exact hk _ _ _ _ hI hn k
  | lcmp =>
    obtain ⟨x, y, r, rfl, k⟩ := zsJJ_spec h
    exact hk _ _ _ _ hI hn k
  | ldiv =>
    obtain ⟨x, y, r, rfl, h1, k⟩ := zsJJ_spec h
    exact ⟨h1, hk _ _ _ _ hI hn k⟩
  | dup =>
    obtain ⟨v, r, rfl, h2⟩ := zs1_spec h
    clear h
    have h := h2
    clear h2
    split at h
    · rename_i hb
      exact ⟨Nat.eq_of_beq_eq_true hb, hk _ _ _ _ hI hn h⟩
    · exact h.elim
  | pop =>
    obtain ⟨v, r, rfl, h2⟩ := zs1_spec h
    clear h
    have h := h2
    clear h2
    split at h
    · rename_i hb
      exact ⟨Nat.eq_of_beq_eq_true hb, hk _ _ _ _ hI hn h⟩
    · exact h.elim
  | dup2 =>
    obtain ⟨v, w, r, rfl, h2⟩ := zs2_spec h
    clear h
    have h := h2
    clear h2
    split at h
    · rename_i hb
      rw [Bool.and_eq_true] at hb
      exact ⟨⟨Nat.eq_of_beq_eq_true hb.1, Nat.eq_of_beq_eq_true hb.2⟩, hk _ _ _ _ hI hn h⟩
    · exact h.elim
  | ifCond c off =>
    obtain ⟨x, r, rfl, k1, k2⟩ := zsI_spec h
    exact ⟨fun q => hk _ _ _ _ hI hn (k1 q), fun q => hk _ _ _ _ hI hn (k2 q)⟩
  | if_icmp c off =>
    obtain ⟨x, y, r, rfl, k1, k2⟩ := zsII_spec h
    exact ⟨fun q => hk _ _ _ _ hI hn (k1 q), fun q => hk _ _ _ _ hI hn (k2 q)⟩
  | ifnull off =>
    obtain ⟨x, r, rfl, k⟩ := zsR_spec h
    exact hk _ _ _ _ hI hn k
  | tableswitch d lo hi offs =>
    obtain ⟨x, r, rfl, k1, k2⟩ := zsI_spec h
    refine ⟨fun q => hk _ _ _ _ hI hn (k1 q), fun q => ?_⟩
    obtain ⟨off, q1, q2, q3⟩ := k2 q
    exact ⟨off, q1, q2, hk _ _ _ _ hI hn q3⟩
  | getfield i =>
    obtain ⟨a, r, rfl, h2⟩ := zsR_spec h
    clear h
    have h := h2
    clear h2
    show (match zft (zOw m) i with | some (ci, k, _) => (a < σ.2.2.2 ∧ zkd a = (0, ci)) ∧ zgF σ a k (zTY ci k) (fun v => V0 (pc + 3) L (v :: r) σ) | none => False)
    split at h
    · rename_i ci k w hft
      rw [hft]
      dsimp only
      split at h
      · rename_i hb
        rw [Bool.and_eq_true] at hb
        refine ⟨⟨(hI a hb.1).1, zkd_of hb.2⟩, ?_⟩
        unfold zgT at h
        unfold zgF
        generalize zTY ci k = ty at h ⊢
        cases ty <;> dsimp only at h ⊢ <;> first | exact hk _ _ _ _ hI hn h | (obtain ⟨b, hr, h⟩ := zRr_spec (o := zRr a k) (G := fun v => V (pc + 3) L (v :: r) σ) h; exact ⟨b, (hI a hb.1).2 k b hr, hk _ _ _ _ hI hn h⟩)
      · exact h.elim
    · exact h.elim
  | putfield i =>
    obtain ⟨v, a, r, rfl, h2⟩ := zsP_spec h
    clear h
    have h := h2
    clear h2
    show (match zft (zOw m) i with | some (ci, k, _) => (a < σ.2.2.2 ∧ zkd a = (0, ci) ∧ ((zTT ci k).2.2.2 = false ∨ (zKi m = 2 ∧ ci = zOw m))) ∧ zpF σ a k (zTY ci k) v (fun σ' => V0 (pc + 3) L r σ') | none => False)
    split at h
    · rename_i ci k w hft
      rw [hft]
      dsimp only
      split at h
      · rename_i hb
        rw [Bool.and_eq_true, Bool.and_eq_true] at hb
        refine ⟨⟨(hI a hb.1.1).1, zkd_of hb.1.2, Or.inl (by simpa using hb.2)⟩, ?_⟩
        unfold zpT at h
        unfold zpF
        generalize zTY ci k = ty at h ⊢
        split at h
        · exact hk _ _ _ (zuI σ a k _) hI hn h
        · exact ⟨h.1, hk _ _ _ (zuI σ a k _) hI hn h.2⟩
        · exact hk _ _ _ (zuJ σ a k _) hI hn h
        · exact h.elim
      · exact h.elim
    · exact h.elim
  | iaload =>
    obtain ⟨a, i, r, rfl, h2⟩ := zsA_spec h
    clear h
    have h := h2
    clear h2
    show (match Nat.beq a zsc with | true => (True ∧ vp_in i X.1) ∧ V0 (pc + 1) L (.int (X.2 i.toNatClampNeg) :: r) σ | false => (a < σ.2.2.2 ∧ (zkd a).1 = 1 ∧ vp_in i (zkd a).2) ∧ V0 (pc + 1) L (.int (σ.1 a i.toNatClampNeg) :: r) σ)
    split at h
    · rename_i hq
      rw [hq]
      exact ⟨⟨trivial, h.1⟩, hk _ _ _ _ hI hn h.2⟩
    · rename_i hq
      rw [hq]
      dsimp only
      split at h
      · rename_i hb
        rw [Bool.and_eq_true] at hb
        exact ⟨⟨(hI a hb.1).1, Nat.eq_of_beq_eq_true hb.2, h.1⟩, hk _ _ _ _ hI hn h.2⟩
      · exact h.elim
  | arraylength =>
    obtain ⟨a, r, rfl, h2⟩ := zsR_spec h
    clear h
    have h := h2
    clear h2
    show (match Nat.beq a zsc with | true => True ∧ V0 (pc + 1) L (.int (Int32.ofNat X.1) :: r) σ | false => (a < σ.2.2.2 ∧ (zkd a).1 = 1) ∧ V0 (pc + 1) L (.int (Int32.ofNat (zkd a).2) :: r) σ)
    split at h
    · rename_i hq
      rw [hq]
      exact ⟨trivial, hk _ _ _ _ hI hn h⟩
    · rename_i hq
      rw [hq]
      dsimp only
      split at h
      · rename_i hb
        rw [Bool.and_eq_true] at hb
        exact ⟨⟨(hI a hb.1).1, Nat.eq_of_beq_eq_true hb.2⟩, hk _ _ _ _ hI hn h⟩
      · exact h.elim
  | iastore =>
    obtain ⟨a, i, x, r, rfl, h2⟩ := zsAI_spec h
    clear h
    have h := h2
    clear h2
    split at h
    · rename_i hb
      rw [Bool.and_eq_true] at hb
      exact ⟨⟨(hI a hb.1).1, Nat.eq_of_beq_eq_true hb.2, h.1⟩, hk _ _ _ (zuI σ a i.toNatClampNeg x) hI hn h.2⟩
    · exact h.elim
  | invokestatic i =>
    exact zcT_ok (G' := fun _ _ => True) hI hn (fun S' k => hk _ _ _ _ hI hn k) h
  | invokevirtual i =>
    exact zcT_ok (G' := fun _ _ => True) hI hn (fun S' k => hk _ _ _ _ hI hn k) h
  | ireturn =>
    unfold zTI at h
    dsimp only at h
    split at h
    · rename_i x
      refine ⟨rfl, ?_⟩
      show zret m (.int x) ∧ σ.2.2.2 = lim ∧ K (some (.int x)) σ
      unfold zrT at h
      unfold zret
      generalize zRT m = rt at h ⊢
      split at h
      · exact ⟨trivial, hn, h⟩
      · rename_i q
        cases q
        exact ⟨h.1, hn, h.2⟩
      · rename_i q; cases q
      · exact h.elim
    · exact h.elim
  | lreturn =>
    unfold zTI at h
    dsimp only at h
    split at h
    · rename_i x
      refine ⟨rfl, ?_⟩
      show zret m (.long x) ∧ σ.2.2.2 = lim ∧ K (some (.long x)) σ
      unfold zrT at h
      unfold zret
      generalize zRT m = rt at h ⊢
      split at h
      · rename_i q; cases q
      · rename_i q; cases q
      · exact ⟨trivial, hn, h⟩
      · exact h.elim
    · exact h.elim
  | return_ =>
    unfold zTI at h
    dsimp only at h
    split at h
    · rename_i q
      exact ⟨rfl, q, hn, h⟩
    · exact h.elim
  | _ => exact False.elim h
theorem zrun (hV : zOk C X m lim V0 K) : ∀ (k pc : Nat) (L : zLo) (S : List Value) (σ : zSt), zQI Kn σ.2.2 → σ.2.2.2 = lim → zev C X m Kn V0 K k pc L S σ → V0 pc L S σ := by
  intro k
  induction k with
  | zero => intro pc L S σ _ _ h; exact h
  | succ k ih =>
    intro pc L S σ hI hn h
    refine hV.1 pc L S σ ?_
    unfold zST
    have h : zTT' C X m Kn (zev C X m Kn V0 K k) V0 K pc L S σ := h
    unfold zTT' at h
    split at h
    · rename_i ins w hcd
      rw [hcd]
      exact zTI_ok (fun pc L S σ' h1 h2 h3 => ih pc L S σ' h1 h2 h3) hI hn h
    · exact h.elim
theorem zq (hV : zOk C X m lim V0 K) {σ : zSt} (hI : zQI Kn σ.2.2) (hn : σ.2.2.2 = lim) (k : Nat) {pc : Nat} {L : zLo} {S : List Value} (h : zev C X m Kn V0 K k pc L S σ) : V0 pc L S σ := zrun hV k pc L S σ hI hn h
theorem zwk (hV : zOk C X m lim V0 K) (ks : List Nat) {pc : Nat} {L L' : zLo} {S : List Value} {σ : zSt} (h : ks.filterMap (fun k => L[k]?) = L') (k : V0 pc L' S σ) : V0 pc L S σ := hV.2 pc L L' S σ (fun q hq => by
  rw [← h] at hq
  obtain ⟨j, -, hj⟩ := List.mem_filterMap.mp hq
  exact List.mem_of_getElem? hj) k
end ZF
