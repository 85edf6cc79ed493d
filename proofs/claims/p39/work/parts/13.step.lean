section ZT
variable {p : Program} {l : Launch} {e : Env} {R : Room} {s : State} {m : MethodId} {args : Array Value} {below : List Frame} {meth : Method} {c : Code} {Q : State → Prop}
variable {D : va_G} {Z : zQ} {X : Nat × (Nat → Int32)} {mm d n0 lim : Nat} {C : Nat → List Value → zSt → (Option Value → zSt → Prop) → Prop} {K : Option Value → zSt → Prop}
theorem zobj {σ : zSt} {a ci : Nat} (ha : a < σ.2.2.2) (hz : zkd a = (0, ci)) : (zw Z σ)[a]? = some (Z.1 + a, .inr (ci, zfs Z σ a ci)) := by rw [zw_at ha]; simp only [zce, hz]
theorem zpair {a t : Nat} (h : (zkd a).1 = t) : zkd a = (t, (zkd a).2) := by rw [← h]
set_option maxHeartbeats 4000000 in
theorem zstep (F : zFx D Z X mm d n0 lim p R s m args meth c) (hC : ∀ mk as σ K, C mk as σ K → zMt X d mk as σ K)
    (hri : ∀ (x : Int32) (σ : zSt) (pc : Nat) (H : Heap) (locs : List Loc) (ls : Array Slot) (cells slots : Nat), zret mm (.int x) → σ.2.2.2 = lim → K (some (.int x)) σ → decode (zB mm) pc = .ok (.ireturn, 1) → zWd D Z σ H → va_S (fun q => Z.1 ≤ q) s.heap H locs → cells + n0 = σ.2.2.2 → slots + zSS n0 = zSS σ.2.2.2 → W p l e R s m args below meth c H locs cells slots Q (F0 m pc ls [.int x]))
    (hrl : ∀ (x : Int64) (σ : zSt) (pc : Nat) (H : Heap) (locs : List Loc) (ls : Array Slot) (cells slots : Nat), zret mm (.long x) → σ.2.2.2 = lim → K (some (.long x)) σ → decode (zB mm) pc = .ok (.lreturn, 1) → zWd D Z σ H → va_S (fun q => Z.1 ≤ q) s.heap H locs → cells + n0 = σ.2.2.2 → slots + zSS n0 = zSS σ.2.2.2 → W p l e R s m args below meth c H locs cells slots Q (F0 m pc ls [.long x]))
    (hrv : ∀ (σ : zSt) (pc : Nat) (H : Heap) (locs : List Loc) (ls : Array Slot) (cells slots : Nat), zRT mm = none → σ.2.2.2 = lim → K none σ → decode (zB mm) pc = .ok (.return_, 1) → zWd D Z σ H → va_S (fun q => Z.1 ≤ q) s.heap H locs → cells + n0 = σ.2.2.2 → slots + zSS n0 = zSS σ.2.2.2 → W p l e R s m args below meth c H locs cells slots Q (F0 m pc ls []))
    {ins : Instr} {len pc : Nat} {L : zLo} {S : List Value} {σ : zSt} (hcd : zcd mm pc = some (ins, len)) (h : zSI C X mm lim (zV D Z mm n0 p l e R s m args below meth c Q) K ins pc L S σ) : zV D Z mm n0 p l e R s m args below meth c Q pc L S σ := by
  have F0' := F
  obtain ⟨⟨hx, hb, hml, hown⟩, hts, hKK, ⟨hfr, hlo⟩, hini, hscr, ⟨hlc, hls⟩, hmm⟩ := F
  obtain ⟨hd0, hg⟩ := zdec_ok hmm hcd
  have hz := zG hg
  cases ins with
  | aload_n n =>
    obtain ⟨a, h1, k⟩ := zlR_spec h
    intro H locs ls cells slots hl hW hS hc hs
    exact lv_aload_n hx hb (zD hd0 hg rfl) rfl (zcL_get hl h1) (k H locs ls cells slots hl hW hS hc hs)
  | iload_n n =>
    obtain ⟨a, h1, k⟩ := zlI_spec h
    intro H locs ls cells slots hl hW hS hc hs
    exact lv_iload_n hx hb (zD hd0 hg rfl) rfl (zcL_get hl h1) (k H locs ls cells slots hl hW hS hc hs)
  | lload_n n =>
    obtain ⟨a, h1, k⟩ := zlJ_spec h
    intro H locs ls cells slots hl hW hS hc hs
    exact lv_lload_n hx hb (zD hd0 hg rfl) rfl (zcL_get hl h1) (k H locs ls cells slots hl hW hS hc hs)
  | iload n =>
    obtain ⟨a, h1, k⟩ := zlI_spec h
    intro H locs ls cells slots hl hW hS hc hs
    exact lv_iload hx hb (zD hd0 hg rfl) (zcL_get hl h1) (k H locs ls cells slots hl hW hS hc hs)
  | lload n =>
    obtain ⟨a, h1, k⟩ := zlJ_spec h
    intro H locs ls cells slots hl hW hS hc hs
    exact lv_lload hx hb (zD hd0 hg rfl) (zcL_get hl h1) (k H locs ls cells slots hl hW hS hc hs)
  | istore_n n =>
    obtain ⟨x, r, rfl, hn, k⟩ := zsI_spec h
    intro H locs ls cells slots hl hW hS hc hs
    exact lv_istore_n hx hb (zD hd0 hg rfl) rfl hl hn (zcL_1 Z L n (.int x)) (fun ls' hl' => k H locs ls' cells slots hl' hW hS hc hs)
  | istore n =>
    obtain ⟨x, r, rfl, hn, k⟩ := zsI_spec h
    intro H locs ls cells slots hl hW hS hc hs
    exact lv_istore hx hb (zD hd0 hg rfl) hl hn (zcL_1 Z L n (.int x)) (fun ls' hl' => k H locs ls' cells slots hl' hW hS hc hs)
  | lstore_n n =>
    obtain ⟨x, r, rfl, hn, k⟩ := zsJ_spec h
    intro H locs ls cells slots hl hW hS hc hs
    exact lv_lstore_n hx hb (zD hd0 hg rfl) rfl hl hn (zcL_2 Z L n (.long x)) (fun ls' hl' => k H locs ls' cells slots hl' hW hS hc hs)
  | lstore n =>
    obtain ⟨x, r, rfl, hn, k⟩ := zsJ_spec h
    intro H locs ls cells slots hl hW hS hc hs
    exact lv_lstore hx hb (zD hd0 hg rfl) hl hn (zcL_2 Z L n (.long x)) (fun ls' hl' => k H locs ls' cells slots hl' hW hS hc hs)
  | astore_n n =>
    obtain ⟨x, r, rfl, hn, k⟩ := zsR_spec h
    intro H locs ls cells slots hl hW hS hc hs
    exact lv_astore_n hx hb (zD hd0 hg rfl) rfl hl hn (zcL_1 Z L n (.ref x)) (fun ls' hl' => k H locs ls' cells slots hl' hW hS hc hs)
  | iinc n q =>
    obtain ⟨hn, h⟩ := h
    obtain ⟨a, h1, k⟩ := zlI_spec h
    intro H locs ls cells slots hl hW hS hc hs
    obtain ⟨j, hj⟩ := zcL_at (Z := Z) h1
    exact lv_iinc hx hb (zD hd0 hg rfl) hl hj rfl hn (zcL_1 Z L n (.int (a + Int32.ofInt q))) (fun ls' hl' => k H locs ls' cells slots hl' hW hS hc hs)
  | iconst n =>
    intro H locs ls cells slots hl hW hS hc hs
    exact lv_iconst hx hb (zD hd0 hg rfl) rfl (h H locs ls cells slots hl hW hS hc hs)
  | bipush n =>
    intro H locs ls cells slots hl hW hS hc hs
    exact lv_bipush hx hb (zD hd0 hg rfl) rfl (h H locs ls cells slots hl hW hS hc hs)
  | sipush n =>
    intro H locs ls cells slots hl hW hS hc hs
    exact lv_sipush hx hb (zD hd0 hg rfl) rfl (h H locs ls cells slots hl hW hS hc hs)
  | lconst n =>
    intro H locs ls cells slots hl hW hS hc hs
    exact lv_lconst hx hb (zD hd0 hg rfl) rfl (h H locs ls cells slots hl hW hS hc hs)
  | ldc i =>
    intro H locs ls cells slots hl hW hS hc hs
    unfold zSI at h
    dsimp only at h
    split at h
    · rename_i v w hv
      exact lv_ldc hx hb hown (hts _ (zi_ok hv)) (zD hd0 hg rfl) (h H locs ls cells slots hl hW hS hc hs)
    · exact h.elim
  | ldc_w i =>
    intro H locs ls cells slots hl hW hS hc hs
    unfold zSI at h
    dsimp only at h
    split at h
    · rename_i v w hv
      exact lv_ldcw hx hb hown (hts _ (zi_ok hv)) (zD hd0 hg rfl) (h H locs ls cells slots hl hW hS hc hs)
    · exact h.elim
  | ldc2_w i =>
    intro H locs ls cells slots hl hW hS hc hs
    unfold zSI at h
    dsimp only at h
    split at h
    · rename_i v w hv
      exact lv_ldc2 hx hb hown (hts _ (zj_ok hv)) (zD hd0 hg rfl) (h H locs ls cells slots hl hW hS hc hs)
    · exact h.elim
  | iadd =>
    obtain ⟨x, y, r, rfl, k⟩ := zsII_spec h
    intro H locs ls cells slots hl hW hS hc hs
    exact lv_iadd hx hb (zD hd0 hg rfl) (k H locs ls cells slots hl hW hS hc hs)
  | isub =>
    obtain ⟨x, y, r, rfl, k⟩ := zsII_spec h
    intro H locs ls cells slots hl hW hS hc hs
    exact lv_isub hx hb (zD hd0 hg rfl) (k H locs ls cells slots hl hW hS hc hs)
  | imul =>
    obtain ⟨x, y, r, rfl, k⟩ := zsII_spec h
    intro H locs ls cells slots hl hW hS hc hs
    exact lv_imul hx hb (zD hd0 hg rfl) (k H locs ls cells slots hl hW hS hc hs)
  | iand =>
    obtain ⟨x, y, r, rfl, k⟩ := zsII_spec h
    intro H locs ls cells slots hl hW hS hc hs
    exact lv_iand hx hb (zD hd0 hg rfl) (k H locs ls cells slots hl hW hS hc hs)
  | ior =>
    obtain ⟨x, y, r, rfl, k⟩ := zsII_spec h
    intro H locs ls cells slots hl hW hS hc hs
    exact lv_ior hx hb (zD hd0 hg rfl) (k H locs ls cells slots hl hW hS hc hs)
  | ixor =>
    obtain ⟨x, y, r, rfl, k⟩ := zsII_spec h
    intro H locs ls cells slots hl hW hS hc hs
    exact lv_ixor hx hb (zD hd0 hg rfl) (k H locs ls cells slots hl hW hS hc hs)
  | ishl =>
    obtain ⟨x, y, r, rfl, k⟩ := zsII_spec h
    intro H locs ls cells slots hl hW hS hc hs
    exact lv_ishl hx hb (zD hd0 hg rfl) (k H locs ls cells slots hl hW hS hc hs)
  | ishr =>
    obtain ⟨x, y, r, rfl, k⟩ := zsII_spec h
    intro H locs ls cells slots hl hW hS hc hs
    exact lv_ishr hx hb (zD hd0 hg rfl) (k H locs ls cells slots hl hW hS hc hs)
  | iushr =>
    obtain ⟨x, y, r, rfl, k⟩ := zsII_spec h
    intro H locs ls cells slots hl hW hS hc hs
    exact lv_iushr hx hb (zD hd0 hg rfl) rfl (k H locs ls cells slots hl hW hS hc hs)
  | idiv =>
    obtain ⟨x, y, r, rfl, hy, k⟩ := zsII_spec h
    intro H locs ls cells slots hl hW hS hc hs
    exact lv_idiv hx hb (zD hd0 hg rfl) hy (k H locs ls cells slots hl hW hS hc hs)
  | irem =>
    obtain ⟨x, y, r, rfl, hy, k⟩ := zsII_spec h
    intro H locs ls cells slots hl hW hS hc hs
    exact lv_irem hx hb (zD hd0 hg rfl) hy (k H locs ls cells slots hl hW hS hc hs)
  | ineg =>
    obtain ⟨x, r, rfl, k⟩ := zsI_spec h
    intro H locs ls cells slots hl hW hS hc hs
    exact lv_ineg hx hb (zD hd0 hg rfl) (k H locs ls cells slots hl hW hS hc hs)
  | i2l =>
    obtain ⟨x, r, rfl, k⟩ := zsI_spec h
    intro H locs ls cells slots hl hW hS hc hs
    exact lv_i2l hx hb (zD hd0 hg rfl) rfl (k H locs ls cells slots hl hW hS hc hs)
  | i2b =>
    obtain ⟨x, r, rfl, k⟩ := zsI_spec h
    intro H locs ls cells slots hl hW hS hc hs
    exact lv_i2b hx hb (zD hd0 hg rfl) rfl (k H locs ls cells slots hl hW hS hc hs)
  | i2s =>
    obtain ⟨x, r, rfl, k⟩ := zsI_spec h
    intro H locs ls cells slots hl hW hS hc hs
    exact lv_i2s hx hb (zD hd0 hg rfl) rfl (k H locs ls cells slots hl hW hS hc hs)
  | l2i =>
    obtain ⟨x, r, rfl, k⟩ := zsJ_spec h
    intro H locs ls cells slots hl hW hS hc hs
    exact lv_l2i hx hb (zD hd0 hg rfl) rfl (k H locs ls cells slots hl hW hS hc hs)
  | ladd =>
    obtain ⟨x, y, r, rfl, k⟩ := zsJJ_spec h
    intro H locs ls cells slots hl hW hS hc hs
    exact lv_ladd hx hb (zD hd0 hg rfl) (k H locs ls cells slots hl hW hS hc hs)
  | lsub =>
    obtain ⟨x, y, r, rfl, k⟩ := zsJJ_spec h
    intro H locs ls cells slots hl hW hS hc hs
    exact lv_lsub hx hb (zD hd0 hg rfl) (k H locs ls cells slots hl hW hS hc hs)
  | lmul =>
    obtain ⟨x, y, r, rfl, k⟩ := zsJJ_spec h
    intro H locs ls cells slots hl hW hS hc hs
    exact lv_lmul hx hb (zD hd0 hg rfl) (k H locs ls cells slots hl hW hS hc hs)
  | ldiv =>
    obtain ⟨x, y, r, rfl, hy, k⟩ := zsJJ_spec h
    intro H locs ls cells slots hl hW hS hc hs
    exact lv_ldiv hx hb (zD hd0 hg rfl) hy (k H locs ls cells slots hl hW hS hc hs)
  | lneg =>
    obtain ⟨x, r, rfl, k⟩ := zsJ_spec h
    intro H locs ls cells slots hl hW hS hc hs
    exact lv_lneg hx hb (zD hd0 hg rfl) (k H locs ls cells slots hl hW hS hc hs)
  | lcmp =>
    obtain ⟨x, y, r, rfl, k⟩ := zsJJ_spec h
    intro H locs ls cells slots hl hW hS hc hs
    exact W.lcmp hx hb (zD hd0 hg rfl) (k H locs ls cells slots hl hW hS hc hs)
  | dup =>
    obtain ⟨v, r, rfl, hv, k⟩ := zs1_spec h
    intro H locs ls cells slots hl hW hS hc hs
    exact lv_dup hx hb (zD hd0 hg rfl) (by rw [zcv_cat]; exact hv) (k H locs ls cells slots hl hW hS hc hs)
  | dup2 =>
    obtain ⟨v, w, r, rfl, ⟨hv, hw⟩, k⟩ := zs2_spec h
    intro H locs ls cells slots hl hW hS hc hs
    exact lv_dup2_11 hx hb (zD hd0 hg rfl) (by rw [zcv_cat]; exact hv) (by rw [zcv_cat]; exact hw) (k H locs ls cells slots hl hW hS hc hs)
  | pop =>
    obtain ⟨v, r, rfl, hv, k⟩ := zs1_spec h
    intro H locs ls cells slots hl hW hS hc hs
    exact lv_pop hx hb (zD hd0 hg rfl) (by rw [zcv_cat]; exact hv) (k H locs ls cells slots hl hW hS hc hs)
  | ifCond cn off =>
    obtain ⟨x, r, rfl, k1, k2⟩ := zsI_spec h
    intro H locs ls cells slots hl hW hS hc hs
    have ht := ztg_ok (of_decide_eq_true hz)
    cases cn
    · exact lv_if_eq hx hb (zD hd0 hg rfl) ht (fun q => k1 q H locs ls cells slots hl hW hS hc hs) (fun q => k2 q H locs ls cells slots hl hW hS hc hs)
    · exact lv_if_ne hx hb (zD hd0 hg rfl) ht (fun q => k1 q H locs ls cells slots hl hW hS hc hs) (fun q => k2 (fun z => z q) H locs ls cells slots hl hW hS hc hs)
    · exact lv_if_lt hx hb (zD hd0 hg rfl) ht (fun q => k1 q H locs ls cells slots hl hW hS hc hs) (fun q => k2 q H locs ls cells slots hl hW hS hc hs)
    · exact lv_if_ge hx hb (zD hd0 hg rfl) ht (fun q => k1 q H locs ls cells slots hl hW hS hc hs) (fun q => k2 q H locs ls cells slots hl hW hS hc hs)
    · exact lv_if_gt hx hb (zD hd0 hg rfl) ht (fun q => k1 q H locs ls cells slots hl hW hS hc hs) (fun q => k2 q H locs ls cells slots hl hW hS hc hs)
    · exact lv_if_le hx hb (zD hd0 hg rfl) ht (fun q => k1 q H locs ls cells slots hl hW hS hc hs) (fun q => k2 q H locs ls cells slots hl hW hS hc hs)
  | if_icmp cn off =>
    obtain ⟨x, y, r, rfl, k1, k2⟩ := zsII_spec h
    intro H locs ls cells slots hl hW hS hc hs
    have ht := ztg_ok (of_decide_eq_true hz)
    cases cn
    · exact lv_icmp_eq hx hb (zD hd0 hg rfl) ht (fun q => k1 q H locs ls cells slots hl hW hS hc hs) (fun q => k2 q H locs ls cells slots hl hW hS hc hs)
    · exact lv_icmp_ne hx hb (zD hd0 hg rfl) ht (fun q => k1 q H locs ls cells slots hl hW hS hc hs) (fun q => k2 (fun z => z q) H locs ls cells slots hl hW hS hc hs)
    · exact lv_icmp_lt hx hb (zD hd0 hg rfl) ht (fun q => k1 q H locs ls cells slots hl hW hS hc hs) (fun q => k2 q H locs ls cells slots hl hW hS hc hs)
    · exact lv_icmp_ge hx hb (zD hd0 hg rfl) ht (fun q => k1 q H locs ls cells slots hl hW hS hc hs) (fun q => k2 q H locs ls cells slots hl hW hS hc hs)
    · exact lv_icmp_gt hx hb (zD hd0 hg rfl) ht (fun q => k1 q H locs ls cells slots hl hW hS hc hs) (fun q => k2 q H locs ls cells slots hl hW hS hc hs)
    · exact lv_icmp_le hx hb (zD hd0 hg rfl) ht (fun q => k1 q H locs ls cells slots hl hW hS hc hs) (fun q => k2 q H locs ls cells slots hl hW hS hc hs)
  | ifnull off =>
    obtain ⟨a, r, rfl, k⟩ := zsR_spec h
    intro H locs ls cells slots hl hW hS hc hs
    exact lv_ifnull hx hb (zD hd0 hg rfl) (k H locs ls cells slots hl hW hS hc hs)
  | goto off =>
    intro H locs ls cells slots hl hW hS hc hs
    exact lv_goto hx hb (zD hd0 hg rfl) (ztg_ok (of_decide_eq_true hz)) (h H locs ls cells slots hl hW hS hc hs)
  | tableswitch df lo hi offs =>
    obtain ⟨x, r, rfl, k1, k2⟩ := zsI_spec h
    intro H locs ls cells slots hl hW hS hc hs
    by_cases q : x.toInt < lo ∨ hi < x.toInt
    · exact lv_tableOut hx hb hd0 q (ztg_ok (of_decide_eq_true hz)) (k1 q H locs ls cells slots hl hW hS hc hs)
    · have q1 : ¬ x.toInt < lo := fun z => q (Or.inl z)
      have q2 : ¬ hi < x.toInt := fun z => q (Or.inr z)
      obtain ⟨off, h1, h2, k⟩ := k2 ⟨q1, q2⟩
      exact lv_tableIn hx hb hd0 q1 q2 h1 (ztg_ok h2) (k H locs ls cells slots hl hW hS hc hs)
  | getfield i =>
    obtain ⟨a, r, rfl, h2⟩ := zsR_spec h
    clear h
    have h := h2
    clear h2
    intro H locs ls cells slots hl hW hS hc hs
    split at h
    · rename_i ci k w hft
      obtain ⟨⟨ha, hk⟩, h⟩ := h
      obtain ⟨f1, f2, f3⟩ := zf_ok hft
      have ha52 := zkd_lt hk (by omega)
      show W p l e R s m args below meth c H locs cells slots Q (F0 m pc ls (.ref (zad Z a) :: r.map (zcv Z)))
      rw [zad_lt ha52]
      refine va_get hx hb hts (zin f3) hown hKK.1 hW.1 a (zobj ha hk) (zcl_at f3) k f2 (hts _ f1) (fun _ h => h) (zfs_at f2) (zD hd0 hg rfl) ?_
      have ht := (zt_ok f3 f2).1
      unfold zgF at h
      unfold zfv
      generalize zTY ci k = ty at ht h ⊢
      cases ty with
      | int => exact h H locs ls cells slots hl hW hS hc hs
      | boolean => exact h H locs ls cells slots hl hW hS hc hs
      | long => exact h H locs ls cells slots hl hW hS hc hs
      | array t =>
        obtain ⟨b, hb1, h⟩ := h
        have h2 := h H locs ls cells slots hl hW hS hc hs
        show W p l e R s m args below meth c H locs cells slots Q (F0 m (pc + 3) ls (zcv Z (σ.2.2.1 a k) :: r.map (zcv Z)))
        rw [hb1]
        exact h2
      | object t =>
        obtain ⟨b, hb1, h⟩ := h
        have h2 := h H locs ls cells slots hl hW hS hc hs
        show W p l e R s m args below meth c H locs cells slots Q (F0 m (pc + 3) ls (zcv Z (σ.2.2.1 a k) :: r.map (zcv Z)))
        rw [hb1]
        exact h2
      | _ => cases ht
    · exact h.elim
  | putfield i =>
    obtain ⟨v, a, r, rfl, h2⟩ := zsP_spec h
    clear h
    have h := h2
    clear h2
    intro H locs ls cells slots hl hW hS hc hs
    split at h
    · rename_i ci k w hft
      obtain ⟨⟨ha, hk, hfin⟩, h⟩ := h
      obtain ⟨f1, f2, f3⟩ := zf_ok hft
      have ha52 := zkd_lt hk (by omega)
      have hfin2 : (zTT ci k).2.2.2 = false ∨ (meth.name = "<init>" ∧ zNo ci = zNo (zOw mm)) := by
        rcases hfin with q | ⟨q1, q2⟩
        · exact Or.inl q
        · exact Or.inr ⟨hini q1, by rw [q2]⟩
      have ht := (zt_ok f3 f2).1
      show W p l e R s m args below meth c H locs cells slots Q (F0 m pc ls (zcv Z v :: .ref (zad Z a) :: r.map (zcv Z)))
      rw [zad_lt ha52]
      have key : ∀ (σ' : zSt), narrow (zTY ci k) (zcv Z v) = zcv Z v → fits (zTY ci k) (zcv Z v) = true → σ'.2.2.2 = σ.2.2.2 → zfv Z σ' a (zTY ci k) k = zcv Z v → (∀ j, j ≠ k → zfv Z σ' a (zTY ci j) j = zfv Z σ a (zTY ci j) j) → (∀ b, b ≠ a → zce Z σ' b = zce Z σ b) → zV D Z mm n0 p l e R s m args below meth c Q (pc + 3) L r σ' → W p l e R s m args below meth c H locs cells slots Q (F0 m pc ls (zcv Z v :: .ref (Z.1 + a) :: r.map (zcv Z))) := by
        intro σ' hn hf hn' g1 g2 g3 k9
        refine zput hx hb f3 hts hown hKK.1 hW.1 hS ha hk f2 f1 hfin2 hn hf (zD hd0 hg rfl) (fun H1 locs1 hP1 hz1 hS1 => ?_)
        have he : zce Z σ' a = .inr (ci, (zfs Z σ a ci).set k (zcv Z v)) := by
          rw [← zfs_set f2 g1 g2]; simp only [zce, hk]
        rw [zw_set ha hn' he g3] at hP1
        exact k9 H1 locs1 ls cells slots hl ⟨hP1, by rw [hz1, hn']; exact hW.2.1, by rw [hn']; exact hW.2.2⟩ hS1 (by rw [hn']; exact hc) (by rw [hn']; exact hs)
      unfold zpF at h
      have hI : ∀ x : Int32, zfv Z (zuI σ a k x) a .int k = .int x := fun x => by
        show Value.int ((if a = a then upd (σ.1 a) k x else σ.1 a) k) = _
        rw [if_pos rfl]; unfold upd; rw [if_pos rfl]
      have hIo : ∀ (x : Int32) (j : Nat), j ≠ k → ∀ t, zfv Z (zuI σ a k x) a t j = zfv Z σ a t j := fun x j hj t => by
        have e1 : (zuI σ a k x).1 a j = σ.1 a j := by
          show (if a = a then upd (σ.1 a) k x else σ.1 a) j = _
          rw [if_pos rfl]; unfold upd; rw [if_neg hj]
        unfold zfv
        cases t <;> first | rfl | (dsimp only; rw [e1])
      have hJ : ∀ x : Int64, zfv Z (zuJ σ a k x) a .long k = .long x := fun x => by
        show Value.long ((if a = a then vp_updL (σ.2.1 a) k x else σ.2.1 a) k) = _
        rw [if_pos rfl]; unfold vp_updL; rw [if_pos rfl]
      have hJo : ∀ (x : Int64) (j : Nat), j ≠ k → ∀ t, zfv Z (zuJ σ a k x) a t j = zfv Z σ a t j := fun x j hj t => by
        have e1 : (zuJ σ a k x).2.1 a j = σ.2.1 a j := by
          show (if a = a then vp_updL (σ.2.1 a) k x else σ.2.1 a) j = _
          rw [if_pos rfl]; unfold vp_updL; rw [if_neg hj]
        unfold zfv
        cases t <;> first | rfl | (dsimp only; rw [e1])
      have hRo : ∀ (x : Value) (j : Nat), j ≠ k → ∀ t, zfv Z (zuR σ a k x) a t j = zfv Z σ a t j := fun x j hj t => by
        have e1 : (zuR σ a k x).2.2.1 a j = σ.2.2.1 a j := by
          show (if a = a then va_up (σ.2.2.1 a) k x else σ.2.2.1 a) j = _
          rw [if_pos rfl]; unfold va_up; rw [if_neg hj]
        unfold zfv
        cases t <;> first | rfl | (dsimp only; rw [e1])
      have hR : ∀ x : Value, (zuR σ a k x).2.2.1 a k = x := fun x => by
        show (if a = a then va_up (σ.2.2.1 a) k x else σ.2.2.1 a) k = _
        rw [if_pos rfl]; unfold va_up; rw [if_pos rfl]
      generalize htt : zTY ci k = ty at ht h key
      split at h
      · rename_i x
        exact key (zuI σ a k x) rfl rfl rfl (hI x) (fun j hj => hIo x j hj _) (fun b hb => zce_uI hb) h
      · rename_i x
        obtain ⟨h01, h⟩ := h
        exact key (zuI σ a k x) (by rcases h01 with rfl | rfl <;> rfl) (by rcases h01 with rfl | rfl <;> rfl) rfl (hI x) (fun j hj => hIo x j hj _) (fun b hb => zce_uI hb) h
      · rename_i x
        exact key (zuJ σ a k x) rfl rfl rfl (hJ x) (fun j hj => hJo x j hj _) (fun b hb => zce_uJ hb) h
      · rename_i t b
        exact key (zuR σ a k (.ref b)) rfl rfl rfl (by show zcv Z _ = _; rw [hR]) (fun j hj => hRo _ j hj _) (fun b hb => zce_uR hb) h
      · rename_i t b
        exact key (zuR σ a k (.ref b)) rfl rfl rfl (by show zcv Z _ = _; rw [hR]) (fun j hj => hRo _ j hj _) (fun b hb => zce_uR hb) h
      · exact h.elim
    · exact h.elim
  | iaload =>
    obtain ⟨a, i, r, rfl, h2⟩ := zsA_spec h
    clear h
    have h := h2
    clear h2
    intro H locs ls cells slots hl hW hS hc hs
    split at h
    · rename_i hq
      obtain ⟨⟨hlaw, hin⟩, k⟩ := h
      obtain ⟨hX, hb1, hb2⟩ := hscr hlaw
      have ha : a = zsc := Nat.eq_of_beq_eq_true hq
      have e1 : zad Z a = Z.2.1 := by unfold zad; rw [if_pos ha]
      show W p l e R s m args below meth c H locs cells slots Q (F0 m pc ls (.int i :: .ref (zad Z a) :: r.map (zcv Z)))
      rw [e1]
      exact va_sld hx hb hX hb2 (Nat.not_le.mpr hb1) hS hin (zD hd0 hg rfl) (k H locs ls cells slots hl hW hS hc hs)
    · obtain ⟨⟨ha, hk, hin⟩, k⟩ := h
      obtain ⟨n, hk2⟩ : ∃ n, zkd a = (1, n) := ⟨_, zpair hk⟩
      rw [hk2] at hin
      have ha52 := zkd_lt hk2 (by omega)
      show W p l e R s m args below meth c H locs cells slots Q (F0 m pc ls (.int i :: .ref (zad Z a) :: r.map (zcv Z)))
      rw [zad_lt ha52]
      have he : (zw Z σ)[a]? = some (Z.1 + a, .inl (Z.2.2.1, n, .inl (σ.1 a))) := by rw [zw_at ha]; simp only [zce, hk2]
      exact va_iald hx hb hKK.1 hW.1 a 0 he rfl hin (zD hd0 hg rfl) (k H locs ls cells slots hl hW hS hc hs)
  | iastore =>
    obtain ⟨a, i, x, r, rfl, ⟨ha, hk, hin⟩, k⟩ := zsAI_spec h
    intro H locs ls cells slots hl hW hS hc hs
    obtain ⟨n, hk2⟩ : ∃ n, zkd a = (1, n) := ⟨_, zpair hk⟩
    rw [hk2] at hin
    have ha52 := zkd_lt hk2 (by omega)
    show W p l e R s m args below meth c H locs cells slots Q (F0 m pc ls (.int x :: .int i :: .ref (zad Z a) :: r.map (zcv Z)))
    rw [zad_lt ha52]
    refine ziast hx hb hKK.1 hW.1 hS ha hk2 hin (zD hd0 hg rfl) (fun H1 locs1 hP1 hz1 hS1 => ?_)
    have he : zce Z (zuI σ a i.toNatClampNeg x) a = .inl (Z.2.2.1, n, .inl (upd (σ.1 a) i.toNatClampNeg x)) := by
      have e1 : (zuI σ a i.toNatClampNeg x).1 a = upd (σ.1 a) i.toNatClampNeg x := by show (if a = a then _ else _) = _; rw [if_pos rfl]
      simp only [zce, hk2, e1]
    rw [zw_set (σ' := zuI σ a i.toNatClampNeg x) ha rfl he (fun b hb => zce_uI hb)] at hP1
    exact k H1 locs1 ls cells slots hl ⟨hP1, hz1.trans hW.2.1, hW.2.2⟩ hS1 hc hs
  | arraylength =>
    obtain ⟨a, r, rfl, h2⟩ := zsR_spec h
    clear h
    have h := h2
    clear h2
    intro H locs ls cells slots hl hW hS hc hs
    split at h
    · rename_i hq
      obtain ⟨hlaw, k⟩ := h
      obtain ⟨hX, hb1, hb2⟩ := hscr hlaw
      have ha : a = zsc := Nat.eq_of_beq_eq_true hq
      have e1 : zad Z a = Z.2.1 := by unfold zad; rw [if_pos ha]
      show W p l e R s m args below meth c H locs cells slots Q (F0 m pc ls (.ref (zad Z a) :: r.map (zcv Z)))
      rw [e1]
      exact va_slen hx hb hX hb2 (Nat.not_le.mpr hb1) hS (zD hd0 hg rfl) (k H locs ls cells slots hl hW hS hc hs)
    · obtain ⟨⟨ha, hk⟩, k⟩ := h
      obtain ⟨n, hk2⟩ : ∃ n, zkd a = (1, n) := ⟨_, zpair hk⟩
      rw [hk2] at k
      have ha52 := zkd_lt hk2 (by omega)
      show W p l e R s m args below meth c H locs cells slots Q (F0 m pc ls (.ref (zad Z a) :: r.map (zcv Z)))
      rw [zad_lt ha52]
      have he : (zw Z σ)[a]? = some (Z.1 + a, .inl (Z.2.2.1, n, .inl (σ.1 a))) := by rw [zw_at ha]; simp only [zce, hk2]
      exact va_alen hx hb hKK.1 hW.1 a 0 he rfl rfl (zD hd0 hg rfl) (k H locs ls cells slots hl hW hS hc hs)
  | newarray t =>
    obtain ⟨n, r, rfl, ⟨hk, ht, hn, hlim⟩, k⟩ := zsI_spec h
    intro H locs ls cells slots hl hW hS hc hs
    have hSS : zSS (σ.2.2.2 + 1) = zSS σ.2.2.2 + zsl σ.2.2.2 := rfl
    have hm := zSS_mono hlim
    subst ht
    skip
    · have hsl : zsl σ.2.2.2 = n.toNatClampNeg := by unfold zsl; rw [hk]; rfl
      refine znewI hx hb hts hKK.1 hW hS hk hn rfl (by omega) (by omega) (zD hd0 hg rfl) (fun H1 hW1 hS1 => ?_)
      have h52 := zkd_lt hk (by decide)
      have h9 := k H1 locs ls (cells + 1) (slots + n.toNatClampNeg) hl hW1 hS1 (by show _ = σ.2.2.2 + 1; omega) (by show _ = zSS (σ.2.2.2 + 1); omega)
      have e9 : (Value.ref σ.2.2.2 :: r).map (zcv Z) = Value.ref (Z.1 + σ.2.2.2) :: r.map (zcv Z) := by rw [List.map_cons]; show Value.ref (zad Z _) :: _ = _; rw [zad_lt h52]
      rw [e9] at h9
      exact h9
  | new i =>
    intro H locs ls cells slots hl hW hS hc hs
    unfold zSI at h
    dsimp only at h
    split at h
    · rename_i ci w hcl
      obtain ⟨⟨hk, hlim⟩, k⟩ := h
      obtain ⟨f1, f2⟩ := zl_ok hcl
      have hSS : zSS (σ.2.2.2 + 1) = zSS σ.2.2.2 + zsl σ.2.2.2 := rfl
      have hm := zSS_mono hlim
      have hsl : zsl σ.2.2.2 = zNF ci := by unfold zsl; rw [hk]; rfl
      refine znew hx hb f2 hts hown hKK.1 hW hS f1 hk (by omega) (by omega) (zD hd0 hg rfl) (fun H1 hW1 hS1 => ?_)
      have h52 := zkd_lt hk (by decide)
      have h9 := k H1 locs ls (cells + 1) (slots + zNF ci) hl hW1 hS1 (by show _ = σ.2.2.2 + 1; omega) (by show _ = zSS (σ.2.2.2 + 1); omega)
      have e9 : (Value.ref σ.2.2.2 :: S).map (zcv Z) = Value.ref (Z.1 + σ.2.2.2) :: S.map (zcv Z) := by rw [List.map_cons]; show Value.ref (zad Z _) :: _ = _; rw [zad_lt h52]
      rw [e9] at h9
      exact h9
    · exact h.elim
  | invokestatic i => exact zcall_sound F0' hC (t := 0) (Or.inl ⟨rfl, rfl⟩) (zD hd0 hg rfl) h
  | invokevirtual i => exact zcall_sound F0' hC (t := 1) (Or.inr (Or.inl ⟨rfl, rfl⟩)) (zD hd0 hg rfl) h
  | invokespecial i => exact zcall_sound F0' hC (t := 2) (Or.inr (Or.inr ⟨rfl, rfl⟩)) (zD hd0 hg rfl) h
  | ireturn =>
    obtain ⟨h1, h⟩ := h
    obtain ⟨x, r, rfl, hr, hn, k⟩ := zsI_spec h
    have hr0 : r = [] := List.eq_nil_of_length_eq_zero (by simpa using h1)
    subst hr0
    intro H locs ls cells slots hl hW hS hc hs
    exact hri x σ pc H locs ls cells slots hr hn k (zD hd0 hg rfl) hW hS hc hs
  | lreturn =>
    obtain ⟨h1, h⟩ := h
    obtain ⟨x, r, rfl, hr, hn, k⟩ := zsJ_spec h
    have hr0 : r = [] := List.eq_nil_of_length_eq_zero (by simpa using h1)
    subst hr0
    intro H locs ls cells slots hl hW hS hc hs
    exact hrl x σ pc H locs ls cells slots hr hn k (zD hd0 hg rfl) hW hS hc hs
  | return_ =>
    obtain ⟨h1, hr, hn, k⟩ := h
    have hr0 : S = [] := List.eq_nil_of_length_eq_zero h1
    subst hr0
    intro H locs ls cells slots hl hW hS hc hs
    exact hrv σ pc H locs ls cells slots hr hn k (zD hd0 hg rfl) hW hS hc hs
  | _ => exact False.elim h
end ZT
