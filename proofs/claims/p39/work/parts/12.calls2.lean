theorem zk_math : (.static Lib.Math.max.name ∈ zBG ∧ .initialized "java/lang/Math" ∈ zBG ∧ .code Lib.Math.max.name Lib.Math.max.code 2 (some .int) ∈ zBG) ∧ .static Lib.Math.min.name ∈ zBG ∧ .code Lib.Math.min.name Lib.Math.min.code 2 (some .int) ∈ zBG :=
  ⟨⟨List.mem_of_getElem? (i := 424) (by decide +kernel), List.mem_of_getElem? (i := 425) (by decide +kernel), List.mem_of_getElem? (i := 426) (by decide +kernel)⟩, List.mem_of_getElem? (i := 428) (by decide +kernel), List.mem_of_getElem? (i := 429) (by decide +kernel)⟩
theorem zkt_spec {k t : Nat} (h : Nat.beq (zkt k) t = true) (ht : t < 3) (h3 : k ≠ 3) (h4 : k ≠ 4) (h5 : k ≠ 5) : (t = 0 ∧ (k = 0 ∨ k = 10)) ∨ (t = 1 ∧ k = 1) ∨ (t = 2 ∧ (k = 2 ∨ k = 12)) := by
  have h1 := Nat.eq_of_beq_eq_true h
  unfold zkt at h1
  split at h1 <;> omega
theorem zad_lt {Z : zQ} {a : Nat} (h : a < 31) : zad Z a = Z.1 + a := by
  unfold zad
  rw [if_neg (by unfold zsc; omega)]
section ZS
variable {p : Program} {l : Launch} {e : Env} {R : Room} {s : State} {m : MethodId} {args : Array Value} {below : List Frame} {meth : Method} {c : Code} {Q : State → Prop}
variable {D : va_G} {Z : zQ} {X : Nat × (Nat → Int32)} {mm d n0 lim : Nat} {C : Nat → List Value → zSt → (Option Value → zSt → Prop) → Prop} {K : Option Value → zSt → Prop}
theorem zcall_sound (F : zFx D Z X mm d n0 lim p R s m args meth c) (hC : ∀ mk as σ K, C mk as σ K → zMt X d mk as σ K) {t i pc : Nat} {S : List Value} {σ : zSt} {L : zLo} {ins : Instr} (ht : (t = 0 ∧ ins = .invokestatic i) ∨ (t = 1 ∧ ins = .invokevirtual i) ∨ (t = 2 ∧ ins = .invokespecial i)) (hd : decode (zB mm) pc = .ok (ins, 3))
    (h : zcall C lim t (zOw mm) i S σ (fun S' σ' => zV D Z mm n0 p l e R s m args below meth c Q (pc + 3) L S' σ')) : zV D Z mm n0 p l e R s m args below meth c Q pc L S σ := by
  obtain ⟨⟨hx, hb, hml, hown⟩, hts, hKK, ⟨hfr, hlo⟩, hini, hscr, ⟨hlc, hls⟩, hmm⟩ := F
  have ht3 : t < 3 := by rcases ht with ⟨h, _⟩ | ⟨h, _⟩ | ⟨h, _⟩ <;> omega
  unfold zcall at h
  split at h
  · rename_i mk k w hct
    split at h
    · exact h.elim
    · rename_i hkt
      have hP := zc_ok hct
      split at h
      · -- the empty constructor
        have e2 : 2 = t := Nat.eq_of_beq_eq_true hkt
        subst e2
        obtain ⟨a, r, rfl, hcs, hk⟩ := zsR_spec h
        have hi : ins = .invokespecial i := by rcases ht with ⟨h, _⟩ | ⟨h, _⟩ | ⟨_, h⟩ <;> first | exact h | omega
        subst hi
        intro H locs ls cells slots hl hW hS hc hs
        have hlk := hts _ (List.mem_of_getElem? (of_decide_eq_true (show decide (zBG[w]? = some (.methodLink (zNo (zOw mm)) i objectInit)) = true from hP)))
        exact W.objInit hx hb hown hlk (hts _ zk_o.1) (hts _ zk_o.2.1) rfl (by rw [hml]; exact hl.1) (a := zad Z a) (rest := r.map (zcv Z)) rfl hd (by omega) (by show 2 * 0 + _ + 12 ≤ _; rw [zcs_map]; omega) (hk H locs ls cells slots hl hW hS hc hs)
      · have e2 : 0 = t := Nat.eq_of_beq_eq_true hkt
        subst e2
        obtain ⟨x, y, r, rfl, ⟨hcs, hlm⟩, hk⟩ := zsII_spec h
        have hi : ins = .invokestatic i := by rcases ht with ⟨_, h⟩ | ⟨h, _⟩ | ⟨h, _⟩ <;> first | exact h | omega
        subst hi
        intro H locs ls cells slots hl hW hS hc hs
        have hlk := hts _ (List.mem_of_getElem? (of_decide_eq_true (show decide (zBG[w]? = some (.methodLink (zNo (zOw mm)) i Lib.Math.max.name)) = true from hP)))
        exact va_mmax hx hb (by rw [hml]; exact hl.1.symm) hown hlk (hts _ zk_math.1.1) (hts _ zk_math.1.2.1) (hts _ zk_math.1.2.2) (by omega) (by rw [zcs_map]; omega) (by omega) (by have := zSS_mono hlm; omega) hd (hk H locs ls cells slots hl hW hS hc hs)
      · have e2 : 0 = t := Nat.eq_of_beq_eq_true hkt
        subst e2
        obtain ⟨x, y, r, rfl, ⟨hcs, hlm⟩, hk⟩ := zsII_spec h
        have hi : ins = .invokestatic i := by rcases ht with ⟨_, h⟩ | ⟨h, _⟩ | ⟨h, _⟩ <;> first | exact h | omega
        subst hi
        intro H locs ls cells slots hl hW hS hc hs
        have hlk := hts _ (List.mem_of_getElem? (of_decide_eq_true (show decide (zBG[w]? = some (.methodLink (zNo (zOw mm)) i Lib.Math.min.name)) = true from hP)))
        exact va_mmin hx hb (by rw [hml]; exact hl.1.symm) hown hlk (hts _ zk_math.2.1) (hts _ zk_math.1.2.1) (hts _ zk_math.2.2) (by omega) (by rw [zcs_map]; omega) (by omega) (by have := zSS_mono hlm; omega) hd (hk H locs ls cells slots hl hW hS hc hs)
      · rename_i n3 n4 n5
        obtain ⟨⟨h1, h2, h3, h4⟩, h5⟩ := h
        obtain ⟨hmk, hMet⟩ := hC _ _ _ _ h5
        have hMet := hMet l D Z
        obtain ⟨⟨fi, fs, fse⟩, fcl, fds, fpl, fml, fin, fow⟩ := zm_ok hmk
        have hP2 : ((if k < 10 then decide (zBG[w]? = some (.methodLink (zNo (zOw mm)) i (zY mk))) else decide (zNS[w]? = some (zNo (zOw mm), i, zY mk, RX8))) && decide (zKi mk = k % 10) && decide (mk < 85)) = true := by
          unfold zcP at hP
          split at hP
          · rename_i q; exact absurd q n3
          · rename_i q; exact absurd q n4
          · rename_i q; exact absurd q n5
          · exact hP
        rw [Bool.and_eq_true, Bool.and_eq_true] at hP2
        obtain ⟨⟨hP3, hP4⟩, -⟩ := hP2
        have hKi := of_decide_eq_true hP4
        have hG := zws_good hmk
        have hR : (zrm d mk σ.2.2.2).frames + 1 ≤ R.frames ∧ 8 + (zML mk + 11) + (zrm d mk σ.2.2.2).locals ≤ R.locals := ⟨hfr, by show 8 + (zML mk + 11) + 34 * d ≤ R.locals; omega⟩
        have hd3 : (zY mk).cls ≠ "java/lang/invoke/MethodHandle" ∧ (zY mk).cls ≠ "java/lang/invoke/VarHandle" ∧ (parseMethodDescriptor (zY mk).desc).map (fun d => d.parameters.length) = some (zNa mk) := ⟨fcl.1, fcl.2, fds⟩
        have hn : (S.take (zna mk (k % 10))).length = zna mk (k % 10) := by rw [List.length_take]; omega
        intro H locs ls cells slots hl hW hS hc hs
        have hsz : cells + zAl mk ≤ R.cells ∧ slots + (zSS (σ.2.2.2 + zAl mk) - zSS σ.2.2.2) ≤ R.slots := ⟨by omega, by have := zSS_mono h4; have := zSS_mono (Nat.le_add_right σ.2.2.2 (zAl mk)); omega⟩
        have hfix : CallFix p m c (zB mm) (zML mm) s args zBG (zNo (zOw mm)) := ⟨hx, hb, hml, hown, hts⟩
        have hrm : 2 * (F0 m pc ls (S.map (zcv Z))).monitorRoom + (((S.drop (zna mk (k % 10))).map (zcv Z)).map fun v => v.category).sum ≤ 8 := lv_room (by rw [zcs_map]; exact h1)
        rcases zkt_spec hkt ht3 n3 n4 n5 with ⟨rfl, rfl | rfl⟩ | ⟨rfl, rfl⟩ | ⟨rfl, rfl | rfl⟩
        · have hi : ins = .invokestatic i := by rcases ht with ⟨_, h⟩ | ⟨h, _⟩ | ⟨h, _⟩ <;> first | exact h | omega
          subst hi
          have hlk := List.mem_of_getElem? (of_decide_eq_true hP3)
          rw [if_pos hKi] at fs
          have hT : GoodIn zBG (va_wsS (zNo (zOw mm)) i (zY mk) (zws mk)) := fun w hw => by
            rcases List.mem_append.mp hw with q | q
            · simp only [List.mem_cons, List.not_mem_nil, or_false] at q
              rcases q with rfl | rfl | rfl
              · exact zBG_good _ hlk
              · exact zBG_good _ fs
              · exact zBG_good _ fi
            · exact hG w q
          exact zgo_on hS hl hc hs (va_runS (As := (S.take (zNa mk)).reverse.map (zcv Z)) (rest := (S.drop (zNa mk)).map (zcv Z)) hfix hMet (va_cwS (zNa mk) hts hT rfl rfl rfl hd3 hR) ⟨zPc_blind D Z _ _ σ, zPc_of hKK hW (zSx_to (hscr trivial) hS) rfl⟩ rfl (by rw [List.length_map, List.length_reverse]; exact hn) hl.1 zstk hrm hd hsz) (fun r σ' hk hn => hk hn)
        · have hi : ins = .invokestatic i := by rcases ht with ⟨_, h⟩ | ⟨h, _⟩ | ⟨h, _⟩ <;> first | exact h | omega
          subst hi
          have hlk := hKK.2 _ (List.mem_of_getElem? (of_decide_eq_true hP3))
          rw [if_pos hKi] at fs
          exact zgo_on hS hl hc hs (va_runSN (As := (S.take (zNa mk)).reverse.map (zcv Z)) (rest := (S.drop (zNa mk)).map (zcv Z)) hfix hMet ⟨va_cnB (zNa mk) hts hG rfl rfl rfl hlk (hts _ fi) hd3 hR, hts _ fs, trivial⟩ ⟨zPc_blind D Z _ _ σ, zPc_of hKK hW (zSx_to (hscr trivial) hS) rfl⟩ rfl (by rw [List.length_map, List.length_reverse]; exact hn) hl.1 zstk hrm hd hsz) (fun r σ' hk hn => hk hn)
        · have hi : ins = .invokevirtual i := by rcases ht with ⟨h, _⟩ | ⟨_, h⟩ | ⟨h, _⟩ <;> first | exact h | omega
          subst hi
          have hlk := List.mem_of_getElem? (of_decide_eq_true hP3)
          rw [if_neg (by rw [hKi]; decide)] at fs
          have fse := fse hKi
          generalize hes : (S.take (zna mk (1 % 10))).reverse = as at h3 h5 hMet
          match as, h3 with
          | .ref b :: u, h3 =>
            obtain ⟨hbn, hbk⟩ := h3
            have hb52 : b < 31 := zkd_lt hbk (by omega)
            have hci : zOw mk < 9 := by have := zkd_ci b hb52 (by rw [hbk]); rw [hbk] at this; exact this
            have hlen : (u.map (zcv Z)).length = zNa mk := by
              have h9 := congrArg List.length hes
              rw [List.length_reverse, hn] at h9
              rw [List.length_map]
              have : zna mk (1 % 10) = zNa mk + 1 := rfl
              rw [this, List.length_cons] at h9
              omega
            have hstk : S.map (zcv Z) = (u.map (zcv Z)).reverse ++ .ref (Z.1 + b) :: (S.drop (zna mk (1 % 10))).map (zcv Z) := by
              rw [zstk (n := zna mk (1 % 10)), hes, List.map_cons, List.reverse_cons, List.append_assoc]
              show _ ++ (Value.ref (zad Z b) :: _) = _
              rw [zad_lt hb52]
              rfl
            have hT : GoodIn zBG (wsV (zNo (zOw mm)) i (zY mk).cls (zY mk) (zws mk)) := fun w hw => by
              rcases List.mem_append.mp hw with q | q
              · simp only [List.mem_cons, List.not_mem_nil, or_false] at q
                rcases q with rfl | rfl | rfl | rfl
                · exact zBG_good _ hlk
                · exact zBG_good _ fs
                · exact zBG_good _ fse
                · exact zBG_good _ fi
              · exact hG w q
            have he : (zw Z σ)[b]? = some (Z.1 + b, .inr (zOw mk, zfs Z σ b (zOw mk))) := by rw [zw_at hbn]; simp only [zce, hbk]
            have hrc := va_recv hKK.1 hW.1 (zcl_at hci) he
            exact zgo_on hS hl hc hs (va_runV (b := Z.1 + b) (As := u.map (zcv Z)) (rest := (S.drop (zna mk (1 % 10))).map (zcv Z)) hfix hMet (cwV (C := (zY mk).cls) (zNa mk) hts hT rfl rfl rfl ⟨rfl, fcl.1, fcl.2, fds⟩ hR) ⟨zPc_blind D Z _ _ σ, by rw [fow]; exact hrc, zPc_of hKK hW (zSx_to (hscr trivial) hS) (by rw [List.map_cons]; show _ = Value.ref (zad Z b) :: _; rw [zad_lt hb52])⟩ rfl hlen hl.1 hstk hrm hd hsz) (fun r σ' hk hn => hk hn)
        · have hi : ins = .invokespecial i := by rcases ht with ⟨h, _⟩ | ⟨h, _⟩ | ⟨_, h⟩ <;> first | exact h | omega
          subst hi
          have hlk := hts _ (List.mem_of_getElem? (of_decide_eq_true hP3))
          rw [if_neg (by rw [hKi]; decide)] at fs
          obtain ⟨fnm, frt⟩ := fin hKi
          generalize hes : (S.take (zna mk (2 % 10))).reverse = as at h3 h5 hMet
          match as, h3 with
          | .ref b :: u, h3 =>
            have hlen : (u.map (zcv Z)).length = zNa mk := by
              have h9 := congrArg List.length hes
              rw [List.length_reverse, hn] at h9
              rw [List.length_map]
              have : zna mk (2 % 10) = zNa mk + 1 := rfl
              rw [this, List.length_cons] at h9
              omega
            have hstk : S.map (zcv Z) = (u.map (zcv Z)).reverse ++ .ref (zad Z b) :: (S.drop (zna mk (2 % 10))).map (zcv Z) := by
              rw [zstk (n := zna mk (2 % 10)), hes, List.map_cons, List.reverse_cons, List.append_assoc]
              rfl
            exact zgo_on hS hl hc hs (va_runI (b := zad Z b) (As := u.map (zcv Z)) (rest := (S.drop (zna mk (2 % 10))).map (zcv Z)) hfix hMet (cwI (bytes := zB mk) (maxL := zML mk) (zNa mk) hts hG (by unfold zws; rw [frt]) rfl rfl (hts _ fi) hlk (hts _ fs) fnm hd3 hR) ⟨zPc_blind D Z _ _ σ, zPc_of hKK hW (zSx_to (hscr trivial) hS) rfl⟩ rfl hlen hl.1 hstk hrm hd hsz) (fun r σ' hk hn => hk hn)
        · have hi : ins = .invokespecial i := by rcases ht with ⟨h, _⟩ | ⟨h, _⟩ | ⟨_, h⟩ <;> first | exact h | omega
          subst hi
          have hlk := hKK.2 _ (List.mem_of_getElem? (of_decide_eq_true hP3))
          rw [if_neg (by rw [hKi]; decide)] at fs
          obtain ⟨fnm, frt⟩ := fin hKi
          generalize hes : (S.take (zna mk (12 % 10))).reverse = as at h3 h5 hMet
          match as, h3 with
          | .ref b :: u, h3 =>
            have hlen : (u.map (zcv Z)).length = zNa mk := by
              have h9 := congrArg List.length hes
              rw [List.length_reverse, hn] at h9
              rw [List.length_map]
              have : zna mk (12 % 10) = zNa mk + 1 := rfl
              rw [this, List.length_cons] at h9
              omega
            have hstk : S.map (zcv Z) = (u.map (zcv Z)).reverse ++ .ref (zad Z b) :: (S.drop (zna mk (12 % 10))).map (zcv Z) := by
              rw [zstk (n := zna mk (12 % 10)), hes, List.map_cons, List.reverse_cons, List.append_assoc]
              rfl
            exact zgo_on hS hl hc hs (va_runIN (b := zad Z b) (As := u.map (zcv Z)) (rest := (S.drop (zna mk (12 % 10))).map (zcv Z)) hfix hMet ⟨va_cnB (bytes := zB mk) (maxL := zML mk) (ret := none) (zNa mk) hts hG (by unfold zws; rw [frt]) rfl rfl hlk (hts _ fi) hd3 hR, fnm, hts _ fs⟩ ⟨zPc_blind D Z _ _ σ, zPc_of hKK hW (zSx_to (hscr trivial) hS) rfl⟩ rfl hlen hl.1 hstk hrm hd hsz) (fun r σ' hk hn => hk hn)
  · exact h.elim
end ZS
