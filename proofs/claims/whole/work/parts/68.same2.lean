theorem zblt_f {q c : Nat} (h : ¬ q < c) : Nat.blt q c = false := by
  cases e : Nat.blt q c
  · rfl
  · exact absurd (Nat.le_of_ble_eq_true e) h
theorem zLy_P {s : Int32} {E : Nat → Int32} {P : Int32 → Prop} : ∀ {k : Nat}, (∀ j, j < k → P (E j)) → ∀ q, q < zcn s k → P (zLy s E k q)
  | 0, _, q, hq => absurd hq (Nat.not_lt_zero q)
  | k + 1, h, q, hq => by
    unfold zcn at hq; unfold zLy
    by_cases c : zbt s k = 0
    · rw [if_pos c] at hq ⊢; exact zLy_P (fun j hj => h j (by omega)) q hq
    · rw [if_neg c] at hq ⊢
      unfold upd
      by_cases e : q = zcn s k
      · rw [if_pos e]; exact h k (by omega)
      · rw [if_neg e]; exact zLy_P (fun j hj => h j (by omega)) q (by omega)
theorem zFp_eq {n l m : Nat} {X Y PX PY I I' : Nat → Int32} (h : ∀ j, j < l → I j = I' j) : zFp n X Y PX PY I l m = zFp n X Y PX PY I' l m := by
  funext q_z
  unfold zFp
  refine zDc_congr ?_
  unfold zFts
  constructor
  · intro a_z i_z hi_z
    have := a_z i_z hi_z
    unfold zF1 at this ⊢
    intro hl
    rw [← h i_z hl]; exact this hl
  · intro a_z i_z hi_z
    have := a_z i_z hi_z
    unfold zF1 at this ⊢
    intro hl
    rw [h i_z hl]; exact this hl
theorem zCo_b {F : Nat → Bool} : ∀ q, ∃ c, zCo F q = nI c ∧ c ≤ q
  | 0 => ⟨0, rfl, Nat.le_refl _⟩
  | q + 1 => by
    obtain ⟨c, h1, h2⟩ := zCo_b (F := F) q
    unfold zCo
    by_cases e : F q = true
    · rw [if_pos e, h1, nI_1]; exact ⟨c + 1, rfl, by omega⟩
    · rw [if_neg e]; exact ⟨c, h1, by omega⟩
set_option maxHeartbeats 4000000 in
theorem L_spot {σ : zSt} {K : Option Value → zSt → Prop} {e k c : Int32} (hR : zRel σ) (hK : ∀ (r : Int32) τ, zQI (kR 0 52) τ.2.2 → zAns mX9_spot [.ref 30, .int e, .int k, .int c] (.int r) τ → K (some (.int r)) τ) : zSp 7 mX8_spot [.ref 0, .int e, .int k, .int c] σ K := by
  obtain ⟨hI, n_z, m_z, k0_z, q0, g_z, b_z, N_z, M_z, L_z, h1, h2, h3, h4, h5, h6, h7, h8, h9⟩ := id hR
  obtain ⟨⟨a1_z, a2, a3, a4⟩, ⟨a5, a6⟩, a7, ⟨a8, a9, a10⟩, a11⟩ := id h1
  obtain ⟨⟨b1, b2, b3⟩, ⟨b4, b5⟩, b6, b7⟩ := id h2
  obtain ⟨c1_z, c2_z⟩ := id h3
  obtain ⟨⟨d1_z, d2_z, d3_z⟩, ⟨d4_z, d5_z, d6_z⟩, d7_z, d8_z, d9_z⟩ := id h4
  obtain ⟨⟨e1_z, e2_z, e3_z⟩, ⟨e4_z, e5_z⟩, e6_z⟩ := id h5
  obtain ⟨⟨f1_z, f2_z, f3_z⟩, f4_z⟩ := id h6
  obtain ⟨⟨g1, g2, g3_z⟩, ⟨g4, g5_z, g6⟩, g7, g8⟩ := id h7
  have hC : zQI (kR 0 30) σ.2.2 := zR_of hI rfl rfl
  have hM_z : zQI (kR 30 52) σ.2.2 := zR_of hI rfl rfl
  refine spot_C hC a1_z a4 d1_z d3_z (fun y_z => ?_) (fun y_z y' => ?_) (fun y_z y' => ?_)
  · exact hK _ σ hI (fun K2 hK2 => spot_M hM_z a2 a4 d2_z d3_z (fun _ => hK2 σ hR) (fun q_z => absurd q_z y_z) (fun q_z => absurd q_z y_z))
  · exact hK _ σ hI (fun K2 hK2 => spot_M hM_z a2 a4 d2_z d3_z (fun q_z => absurd y_z q_z) (fun _ _ => hK2 σ hR) (fun _ q_z => absurd q_z (by omega)))
  · refine hK _ _ hI (fun K2 hK2 => spot_M (σ := (zuI (zuI (zuI (zuI σ 15 k0_z e) 16 k0_z k) 17 k0_z c) 14 3 (nI (k0_z + 1)))) hM_z a2 a4 d2_z d3_z (fun q_z => absurd y_z q_z) (fun _ q_z => absurd q_z (by omega)) (fun _ _ => hK2 _ ?_))
    have hu : zOnly (zpt [4]) σ (zuI (zuI (zuI (zuI (zuI (zuI (zuI (zuI σ 15 k0_z e) 16 k0_z k) 17 k0_z c) 14 3 (nI (k0_z + 1))) 40 k0_z e) 41 k0_z k) 42 k0_z c) 30 18 (nI (k0_z + 1))) := (((((((zOnly.rf.uI rfl).uI rfl).uI rfl).uI rfl).uI rfl).uI rfl).uI rfl).uI rfl
    refine ⟨hI, n_z, m_z, k0_z + 1, q0, g_z, b_z, N_z, M_z, L_z, zR1_fr h1 hu rfl, zR2_fr h2 hu rfl, zR3_fr h3 hu rfl, ?_, zR5_fr h5 hu rfl, zR6_fr h6 hu rfl, zR7_fr h7 hu rfl, zR8_fr h8 hu rfl, zR9_fr h9 hu rfl⟩
    refine ⟨⟨rfl, rfl, by omega⟩, ⟨?_, ?_, ?_⟩, fun i_z hi_z => ?_, fun i_z hi_z => ?_, fun i_z hi_z => ?_⟩
    · show upd (σ.1 40) k0_z e = upd (σ.1 15) k0_z e
      rw [d4_z]
    · show upd (σ.1 41) k0_z k = upd (σ.1 16) k0_z k
      rw [d5_z]
    · show upd (σ.1 42) k0_z c = upd (σ.1 17) k0_z c
      rw [d6_z]
    · show ∃ e', upd (σ.1 15) k0_z e i_z = nI e' ∧ e' < n_z
      by_cases q_z : i_z = k0_z
      · obtain ⟨v_z, hv, _, _⟩ := zNat (x := e) y_z.1.1.1
        have := y_z.1.1.2
        rw [q_z, pk_us]; exact ⟨v_z, hv, by omega⟩
      · rw [pk_un q_z]; exact d7_z i_z (by omega)
    · show zBt 0 8 (upd (σ.1 16) k0_z k i_z)
      by_cases q_z : i_z = k0_z
      · rw [q_z, pk_us]; exact y_z.1.2
      · rw [pk_un q_z]; exact d8_z i_z (by omega)
    · show zBt 0 1000 (upd (σ.1 17) k0_z c i_z)
      by_cases q_z : i_z = k0_z
      · rw [q_z, pk_us]; exact y_z.2
      · rw [pk_un q_z]; exact d9_z i_z (by omega)
set_option maxHeartbeats 4000000 in
theorem L_cheapest {σ : zSt} {K : Option Value → zSt → Prop} (hR : zRel σ) (hK : ∀ (r : Int32) τ, zQI (kR 0 52) τ.2.2 → zAns mX9_cheapest [.ref 30] (.int r) τ → K (some (.int r)) τ) : zSp 7 mX8_cheapest [.ref 0] σ K := by
  obtain ⟨hI, n_z, m_z, k0_z, q0, g_z, b_z, N_z, M_z, L_z, h1, h2, h3, h4, h5, h6, h7, h8, h9⟩ := id hR
  obtain ⟨⟨a1_z, a2, a3, a4⟩, ⟨a5, a6⟩, a7, ⟨a8, a9, a10⟩, a11⟩ := id h1
  obtain ⟨⟨b1, b2, b3⟩, ⟨b4, b5⟩, b6, b7⟩ := id h2
  obtain ⟨c1_z, c2_z⟩ := id h3
  obtain ⟨⟨d1_z, d2_z, d3_z⟩, ⟨d4_z, d5_z, d6_z⟩, d7_z, d8_z, d9_z⟩ := id h4
  obtain ⟨⟨e1_z, e2_z, e3_z⟩, ⟨e4_z, e5_z⟩, e6_z⟩ := id h5
  obtain ⟨⟨f1_z, f2_z, f3_z⟩, f4_z⟩ := id h6
  obtain ⟨⟨g1, g2, g3_z⟩, ⟨g4, g5_z, g6⟩, g7, g8⟩ := id h7
  have hC : zQI (kR 0 30) σ.2.2 := zR_of hI rfl rfl
  have hM_z : zQI (kR 30 52) σ.2.2 := zR_of hI rfl rfl
  refine cheapest_C hC a1_z a4 d1_z d3_z d7_z (fun τ ht => ?_)
  have hq := zRel_q hR (ht.wk zfC_s)
  have hIτ := zQI_eq hI ht.2.2
  have hM_zτ : zQI (kR 30 52) τ.2.2 := zR_of hIτ rfl rfl
  have i0_z : τ.1 30 0 = nI n_z := (ht.1 30 0 rfl).trans a2
  have i31 : τ.1 31 = σ.1 2 := (funext fun j_z => ht.1 31 j_z rfl).trans a5
  have i32 : τ.1 32 = σ.1 3 := (funext fun j_z => ht.1 32 j_z rfl).trans a6
  have i8_z : τ.1 30 8 = σ.1 0 9 := (ht.1 30 8 rfl).trans c1_z
  have i18 : τ.1 30 18 = nI k0_z := (ht.1 30 18 rfl).trans d2_z
  have i40 : τ.1 40 = σ.1 15 := (funext fun j_z => ht.1 40 j_z rfl).trans d4_z
  have i41 : τ.1 41 = σ.1 16 := (funext fun j_z => ht.1 41 j_z rfl).trans d5_z
  have i42 : τ.1 42 = σ.1 17 := (funext fun j_z => ht.1 42 j_z rfl).trans d6_z
  refine hK _ τ hIτ (fun K2 hK2 => cheapest_M hM_zτ i0_z a4 (by rw [i31, i32]; exact a7) (by rw [i8_z]; exact c2_z) i18 d3_z (by rw [i40]; exact d7_z) (by rw [i41]; exact d8_z) (by rw [i42]; exact d9_z) (fun υ hu => ?_))
  rw [i31, i32, i8_z, i40, i41, i42]
  exact hK2 υ (zRel_q hq (hu.wk zfMh_s))
set_option maxHeartbeats 4000000 in
theorem L_take {σ : zSt} {K : Option Value → zSt → Prop} (hR : zRel σ) (hK : ∀ (r : Int32) τ, zQI (kR 0 52) τ.2.2 → zAns mX9_take [.ref 30] (.int r) τ → K (some (.int r)) τ) : zSp 7 mX8_take [.ref 0] σ K := by
  obtain ⟨hI, n_z, m_z, k0_z, q0, g_z, b_z, N_z, M_z, L_z, h1, h2, h3, h4, h5, h6, h7, h8, h9⟩ := id hR
  obtain ⟨⟨a1_z, a2, a3, a4⟩, ⟨a5, a6⟩, a7, ⟨a8, a9, a10⟩, a11⟩ := id h1
  obtain ⟨⟨b1, b2, b3⟩, ⟨b4, b5⟩, b6, b7⟩ := id h2
  obtain ⟨c1_z, c2_z⟩ := id h3
  obtain ⟨⟨d1_z, d2_z, d3_z⟩, ⟨d4_z, d5_z, d6_z⟩, d7_z, d8_z, d9_z⟩ := id h4
  obtain ⟨⟨e1_z, e2_z, e3_z⟩, ⟨e4_z, e5_z⟩, e6_z⟩ := id h5
  obtain ⟨⟨f1_z, f2_z, f3_z⟩, f4_z⟩ := id h6
  obtain ⟨⟨g1, g2, g3_z⟩, ⟨g4, g5_z, g6⟩, g7, g8⟩ := id h7
  have hC : zQI (kR 0 30) σ.2.2 := zR_of hI rfl rfl
  have hM_z : zQI (kR 30 52) σ.2.2 := zR_of hI rfl rfl
  refine take_C hC a1_z a4 d1_z d3_z d7_z (fun τ ht c_z => ?_) (fun τ υ be ht hbe hne hu hsz hES => ?_)
  · have hq := zRel_q hR (ht.wk zfC_s)
    have hIτ := zQI_eq hI ht.2.2
    have hM_zτ : zQI (kR 30 52) τ.2.2 := zR_of hIτ rfl rfl
    have i0_z : τ.1 30 0 = nI n_z := (ht.1 30 0 rfl).trans a2
    have i31 : τ.1 31 = σ.1 2 := (funext fun j_z => ht.1 31 j_z rfl).trans a5
    have i32 : τ.1 32 = σ.1 3 := (funext fun j_z => ht.1 32 j_z rfl).trans a6
    have i8_z : τ.1 30 8 = σ.1 0 9 := (ht.1 30 8 rfl).trans c1_z
    have i18 : τ.1 30 18 = nI k0_z := (ht.1 30 18 rfl).trans d2_z
    have i40 : τ.1 40 = σ.1 15 := (funext fun j_z => ht.1 40 j_z rfl).trans d4_z
    have i41 : τ.1 41 = σ.1 16 := (funext fun j_z => ht.1 41 j_z rfl).trans d5_z
    have i42 : τ.1 42 = σ.1 17 := (funext fun j_z => ht.1 42 j_z rfl).trans d6_z
    refine hK _ τ hIτ (fun K2 hK2 => take_M hM_zτ i0_z a4 (by rw [i31, i32]; exact a7) (by rw [i8_z]; exact c2_z) i18 d3_z (by rw [i40]; exact d7_z) (by rw [i41]; exact d8_z) (by rw [i42]; exact d9_z) (fun υ hu _ => hK2 υ (zRel_q hq (hu.wk zfMh_s))) (fun φ ψ be hf hbe hne => ?_))
    rw [i31, i32, i8_z, i40, i41, i42] at hbe
    exact absurd (hbe.trans c_z) hne
  · have hcl : zcn be k0_z ≤ k0_z := zcn_le be k0_z
    have hall : zOnly (fun a_z j_z => zfC a_z j_z || zfL 4 (zcn be k0_z) a_z j_z) σ υ := (ht.wk (fun a_z j_z q_z => (Bool.or_eq_false_iff.mp q_z).1)).tr (hu.wk (fun a_z j_z q_z => (Bool.or_eq_false_iff.mp q_z).2))
    have hIυ := zQI_eq hI hall.2.2
    have hM_zυ : zQI (kR 30 52) υ.2.2 := zR_of hIυ rfl rfl
    have i0_z : υ.1 30 0 = nI n_z := (hall.1 30 0 rfl).trans a2
    have i31 : υ.1 31 = σ.1 2 := (funext fun j_z => hall.1 31 j_z rfl).trans a5
    have i32 : υ.1 32 = σ.1 3 := (funext fun j_z => hall.1 32 j_z rfl).trans a6
    have i8_z : υ.1 30 8 = σ.1 0 9 := (hall.1 30 8 rfl).trans c1_z
    have i18 : υ.1 30 18 = nI k0_z := (hall.1 30 18 rfl).trans d2_z
    have i40 : υ.1 40 = σ.1 15 := (funext fun j_z => hall.1 40 j_z rfl).trans d4_z
    have i41 : υ.1 41 = σ.1 16 := (funext fun j_z => hall.1 41 j_z rfl).trans d5_z
    have i42 : υ.1 42 = σ.1 17 := (funext fun j_z => hall.1 42 j_z rfl).trans d6_z
    have i5_z : υ.1 30 5 = nI m_z := (hall.1 30 5 rfl).trans b2
    have i35 : υ.1 35 = σ.1 5 := (funext fun j_z => hall.1 35 j_z rfl).trans b4
    have i36 : υ.1 36 = σ.1 6 := (funext fun j_z => hall.1 36 j_z rfl).trans b5
    refine hK _ υ hIυ (fun K2 hK2 => take_M hM_zυ i0_z a4 (by rw [i31, i32]; exact a7) (by rw [i8_z]; exact c2_z) i18 d3_z (by rw [i40]; exact d7_z) (by rw [i41]; exact d8_z) (by rw [i42]; exact d9_z) (fun φ hf c_z => ?_) (fun φ ψ be' hf hbe' hne' hw hsz' hES' => ?_))
    · rw [i31, i32, i8_z, i40, i41, i42] at c_z
      exact absurd (hbe.trans c_z) hne
    · rw [i31, i32, i8_z, i40, i41, i42] at hbe'
      have eb : be' = be := hbe'.trans hbe.symm
      subst eb
      rw [i42]
      refine hK2 ψ ?_
      have w2_z : ∀ a_z j_z, zpt [2] a_z j_z = false → zfL 4 (zcn be' k0_z) a_z j_z = false := fun a_z j_z q_z => by
        cases y_z : zfL 4 (zcn be' k0_z) a_z j_z
        · rfl
        · exfalso
          unfold zfL at y_z
          rw [Bool.or_eq_true, Bool.and_eq_true, Bool.and_eq_true, Bool.or_eq_true] at y_z
          rcases y_z with ⟨y_z, z_z⟩ | ⟨y_z | y_z, _⟩ <;> have e_z := Nat.eq_of_beq_eq_true y_z <;> subst e_z <;> exact absurd (show true = false from q_z) (by decide)
      have w3_z : ∀ a_z j_z, zpt [2] a_z j_z = false → zfTk (zcn be' k0_z) a_z j_z = false := fun a_z j_z q_z => by
        cases y_z : zfTk (zcn be' k0_z) a_z j_z
        · rfl
        · exfalso
          unfold zfTk at y_z
          rw [Bool.or_eq_true, Bool.and_eq_true, Bool.and_eq_true, Bool.or_eq_true] at y_z
          rcases y_z with ⟨y_z, z_z⟩ | ⟨y_z | y_z, _⟩
          · have e_z := Nat.eq_of_beq_eq_true y_z
            have e' := Nat.eq_of_beq_eq_true z_z
            subst e_z; subst e'; exact absurd (show true = false from q_z) (by decide)
          · have e_z := Nat.eq_of_beq_eq_true y_z
            subst e_z; exact absurd (show true = false from q_z) (by decide)
          · have e_z := Nat.eq_of_beq_eq_true y_z
            subst e_z; exact absurd (show true = false from q_z) (by decide)
      have hv : zOnly (zpt [2]) σ ψ := (((ht.wk zfC_s).tr (hu.wk w2_z)).tr (hf.wk zfMh_s)).tr (hw.wk w3_z)
      have o4_z : ψ.1 4 2 = υ.1 4 2 := (hw.1 4 2 rfl).trans (hf.1 4 2 rfl)
      have o5_z : ∀ q_z, ψ.1 5 q_z = υ.1 5 q_z := fun q_z => (hw.1 5 q_z rfl).trans (hf.1 5 q_z rfl)
      have o6 : ∀ q_z, ψ.1 6 q_z = υ.1 6 q_z := fun q_z => (hw.1 6 q_z rfl).trans (hf.1 6 q_z rfl)
      rw [i40, i41] at hES'
      refine ⟨zQI_eq hI hv.2.2, n_z, zcn be' k0_z, k0_z, q0, g_z, b_z, N_z, M_z, L_z, zR1_fr h1 hv rfl, ?_, zR3_fr h3 hv rfl, zR4_fr h4 hv rfl, zR5_fr h5 hv rfl, zR6_fr h6 hv rfl, zR7_fr h7 hv rfl, zR8_fr h8 hv rfl, zR9_fr h9 hv rfl⟩
      refine ⟨⟨o4_z.trans hsz, hsz', by omega⟩, ⟨funext fun q_z => ?_, funext fun q_z => ?_⟩, fun i_z hi_z => ?_, fun i_z hi_z => ?_⟩
      · rw [o5_z]
        by_cases y_z : q_z < zcn be' k0_z
        · rw [(hES' q_z y_z).1, (hES q_z y_z).1]
        · rw [hw.1 35 q_z (zblt_f y_z), hf.1 35 q_z rfl, i35, hu.1 5 q_z (zblt_f y_z), ht.1 5 q_z rfl]
      · rw [o6]
        by_cases y_z : q_z < zcn be' k0_z
        · rw [(hES' q_z y_z).2, (hES q_z y_z).2]
        · rw [hw.1 36 q_z (zblt_f y_z), hf.1 36 q_z rfl, i36, hu.1 6 q_z (zblt_f y_z), ht.1 6 q_z rfl]
      · rw [o5_z, (hES i_z hi_z).1]; exact zLy_in d7_z i_z hi_z
      · rw [o6, (hES i_z hi_z).2]; exact zLy_P (P := zBt 0 8) d8_z i_z hi_z
set_option maxHeartbeats 4000000 in
theorem L_lifts {σ : zSt} {K : Option Value → zSt → Prop} {x y w s : Int32} (hR : zRel σ) (hK : ∀ (r : Int32) τ, zQI (kR 0 52) τ.2.2 → zAns mX9_lifts [.ref 30, .int x, .int y, .int w, .int s] (.int r) τ → K (some (.int r)) τ) : zSp 7 mX8_lifts [.ref 0, .int x, .int y, .int w, .int s] σ K := by
  obtain ⟨hI, n_z, m_z, k0_z, q0, g_z, b_z, N_z, M_z, L_z, h1, h2, h3, h4, h5, h6, h7, h8, h9⟩ := id hR
  obtain ⟨⟨a1_z, a2, a3, a4⟩, ⟨a5, a6⟩, a7, ⟨a8, a9, a10⟩, a11⟩ := id h1
  obtain ⟨⟨b1, b2, b3⟩, ⟨b4, b5⟩, b6, b7⟩ := id h2
  obtain ⟨c1_z, c2_z⟩ := id h3
  obtain ⟨⟨d1_z, d2_z, d3_z⟩, ⟨d4_z, d5_z, d6_z⟩, d7_z, d8_z, d9_z⟩ := id h4
  obtain ⟨⟨e1_z, e2_z, e3_z⟩, ⟨e4_z, e5_z⟩, e6_z⟩ := id h5
  obtain ⟨⟨f1_z, f2_z, f3_z⟩, f4_z⟩ := id h6
  obtain ⟨⟨g1, g2, g3_z⟩, ⟨g4, g5_z, g6⟩, g7, g8⟩ := id h7
  have hC : zQI (kR 0 30) σ.2.2 := zR_of hI rfl rfl
  have hM_z : zQI (kR 30 52) σ.2.2 := zR_of hI rfl rfl
  have hab := zAr_b a4 a7 n_z (Nat.le_refl n_z)
  have har : 0 < (σ.1 1 3).toInt ∧ (σ.1 1 3).toInt ≤ 18000 := by rw [a8]; have := hab.1; unfold zBt at this; omega
  have hq4 : ∀ {x y w : Int32}, zBt (-1000) 1000 x → zBt (-1000) 1000 y → zBt 1 20 w → (zPull (σ.1 1 3) (σ.1 1 4) (σ.1 1 5) x y w).toInt ≤ 4000000000000000000 := fun hx hy hw => by
    rw [a8, a9, a10]
    refine (zPull_b (zBtm hab.1 ?_ ?_) (zBtm hab.2.1 ?_ ?_) (zBtm hab.2.2 ?_ ?_) hx hy hw).2 <;> omega
  have hB_z : zHB n_z (σ.1 31) (σ.1 32) := by rw [a5, a6]; exact a7
  refine lifts_C hC a1_z a4 (fun c_z => ?_) (fun c_z hz hs => ?_) (fun c_z hs => ?_)
  · exact hK _ σ hI (fun K2 hK2 => lifts_M hM_z a2 a4 hB_z (fun _ => hK2 σ hR) (fun q_z => absurd q_z c_z) (fun q_z => absurd q_z c_z))
  · refine hK _ σ hI (fun K2 hK2 => lifts_M hM_z a2 a4 hB_z (fun q_z => absurd c_z q_z) (fun _ _ _ => hK2 σ hR) (fun _ q_z => absurd ?_ q_z))
    rw [a5, a6, ← a8, ← a9, ← a10]
    exact ⟨hz, (zSld_M har c_z.2.2.2 (hq4 c_z.1 c_z.2.1 c_z.2.2.1)).mp hs⟩
  · refine hK _ σ hI (fun K2 hK2 => lifts_M hM_z a2 a4 hB_z (fun q_z => absurd c_z q_z) (fun _ q1_z q2_z => absurd ?_ hs) (fun _ _ => hK2 σ hR))
    rw [a5, a6] at q1_z
    rw [a5, a6, ← a8, ← a9, ← a10] at q2_z
    exact ⟨q1_z, (zSld_M har c_z.2.2.2 (hq4 c_z.1 c_z.2.1 c_z.2.2.1)).mpr q2_z⟩
set_option maxHeartbeats 4000000 in
theorem L_seal {σ : zSt} {K : Option Value → zSt → Prop} {x y w : Int32} (hR : zRel σ) (hK : ∀ (r : Int32) τ, zQI (kR 0 52) τ.2.2 → zAns mX9_seal [.ref 30, .int x, .int y, .int w] (.int r) τ → K (some (.int r)) τ) : zSp 7 mX8_seal [.ref 0, .int x, .int y, .int w] σ K := by
  obtain ⟨hI, n_z, m_z, k0_z, q0, g_z, b_z, N_z, M_z, L_z, h1, h2, h3, h4, h5, h6, h7, h8, h9⟩ := id hR
  obtain ⟨⟨a1_z, a2, a3, a4⟩, ⟨a5, a6⟩, a7, ⟨a8, a9, a10⟩, a11⟩ := id h1
  obtain ⟨⟨b1, b2, b3⟩, ⟨b4, b5⟩, b6, b7⟩ := id h2
  obtain ⟨c1_z, c2_z⟩ := id h3
  obtain ⟨⟨d1_z, d2_z, d3_z⟩, ⟨d4_z, d5_z, d6_z⟩, d7_z, d8_z, d9_z⟩ := id h4
  obtain ⟨⟨e1_z, e2_z, e3_z⟩, ⟨e4_z, e5_z⟩, e6_z⟩ := id h5
  obtain ⟨⟨f1_z, f2_z, f3_z⟩, f4_z⟩ := id h6
  obtain ⟨⟨g1, g2, g3_z⟩, ⟨g4, g5_z, g6⟩, g7, g8⟩ := id h7
  have hC : zQI (kR 0 30) σ.2.2 := zR_of hI rfl rfl
  have hM_z : zQI (kR 30 52) σ.2.2 := zR_of hI rfl rfl
  have hab := zAr_b a4 a7 n_z (Nat.le_refl n_z)
  have har : 0 < (σ.1 1 3).toInt ∧ (σ.1 1 3).toInt ≤ 18000 := by rw [a8]; have := hab.1; unfold zBt at this; omega
  have hq4 : ∀ {x y w : Int32}, zBt (-1000) 1000 x → zBt (-1000) 1000 y → zBt 1 20 w → (zPull (σ.1 1 3) (σ.1 1 4) (σ.1 1 5) x y w).toInt ≤ 4000000000000000000 := fun hx hy hw => by
    rw [a8, a9, a10]
    refine (zPull_b (zBtm hab.1 ?_ ?_) (zBtm hab.2.1 ?_ ?_) (zBtm hab.2.2 ?_ ?_) hx hy hw).2 <;> omega
  have hB_z : zHB n_z (σ.1 31) (σ.1 32) := by rw [a5, a6]; exact a7
  have ea : zAr n_z (σ.1 31) (σ.1 32) n_z = σ.1 1 3 := by rw [a5, a6, a8]
  have eb : zMx n_z (σ.1 31) (σ.1 32) n_z = σ.1 1 4 := by rw [a5, a6, a9]
  have ec : zMy n_z (σ.1 31) (σ.1 32) n_z = σ.1 1 5 := by rw [a5, a6, a10]
  have har' : 0 < (zAr n_z (σ.1 31) (σ.1 32) n_z).toInt ∧ (zAr n_z (σ.1 31) (σ.1 32) n_z).toInt ≤ 18000 := by rw [ea]; exact har
  have hq4' : zBt (-1000) 1000 x → zBt (-1000) 1000 y → zBt 1 20 w → (zPull (zAr n_z (σ.1 31) (σ.1 32) n_z) (zMx n_z (σ.1 31) (σ.1 32) n_z) (zMy n_z (σ.1 31) (σ.1 32) n_z) x y w).toInt ≤ 4000000000000000000 := fun q1_z q2_z q3_z => by rw [ea, eb, ec]; exact hq4 q1_z q2_z q3_z
  refine seal_C hC a1_z a4 (fun c_z => ?_) (fun c_z hz => ?_) (fun c_z hz => ?_)
  · exact hK _ σ hI (fun K2 hK2 => seal_M hM_z a2 a4 hB_z har' hq4' (fun _ => hK2 σ hR) (fun q_z => absurd q_z c_z) (fun q_z => absurd q_z c_z))
  · refine hK _ σ hI (fun K2 hK2 => seal_M hM_z a2 a4 hB_z har' hq4' (fun q_z => absurd c_z q_z) (fun _ _ => hK2 σ hR) (fun _ q_z => absurd ?_ q_z))
    rw [a5, a6]; exact hz
  · refine hK _ σ hI (fun K2 hK2 => seal_M hM_z a2 a4 hB_z har' hq4' (fun q_z => absurd c_z q_z) (fun _ q_z => ?_) (fun _ _ r_z hr => ?_))
    · rw [a5, a6] at q_z
      exact absurd q_z hz
    · rw [ea, eb, ec] at hr
      rw [ea, zSeal har hr]
      exact hK2 σ hR
set_option maxHeartbeats 4000000 in
theorem L_probe {σ : zSt} {K : Option Value → zSt → Prop} {x y : Int32} (hR : zRel σ) (hK : ∀ (r : Int32) τ, zQI (kR 0 52) τ.2.2 → zAns mX9_probe [.ref 30, .int x, .int y] (.int r) τ → K (some (.int r)) τ) : zSp 7 mX8_probe [.ref 0, .int x, .int y] σ K := by
  obtain ⟨hI, n_z, m_z, k0_z, q0, g_z, b_z, N_z, M_z, L_z, h1, h2, h3, h4, h5, h6, h7, h8, h9⟩ := id hR
  obtain ⟨⟨a1_z, a2, a3, a4⟩, ⟨a5, a6⟩, a7, ⟨a8, a9, a10⟩, a11⟩ := id h1
  obtain ⟨⟨b1, b2, b3⟩, ⟨b4, b5⟩, b6, b7⟩ := id h2
  obtain ⟨c1_z, c2_z⟩ := id h3
  obtain ⟨⟨d1_z, d2_z, d3_z⟩, ⟨d4_z, d5_z, d6_z⟩, d7_z, d8_z, d9_z⟩ := id h4
  obtain ⟨⟨e1_z, e2_z, e3_z⟩, ⟨e4_z, e5_z⟩, e6_z⟩ := id h5
  obtain ⟨⟨f1_z, f2_z, f3_z⟩, f4_z⟩ := id h6
  obtain ⟨⟨g1, g2, g3_z⟩, ⟨g4, g5_z, g6⟩, g7, g8⟩ := id h7
  have hC : zQI (kR 0 30) σ.2.2 := zR_of hI rfl rfl
  have hM_z : zQI (kR 30 52) σ.2.2 := zR_of hI rfl rfl
  refine probe_C hC e1_z e3_z (fun c_z => ?_) (fun c_z c' => ?_) (fun c_z c' => ?_)
  · exact hK _ σ hI (fun K2 hK2 => probe_M hM_z e2_z e3_z (fun _ => hK2 σ hR) (fun q_z => absurd q_z c_z) (fun q_z => absurd q_z c_z))
  · exact hK _ σ hI (fun K2 hK2 => probe_M hM_z e2_z e3_z (fun q_z => absurd c_z q_z) (fun _ _ => hK2 σ hR) (fun _ q_z => absurd q_z (by omega)))
  · refine hK _ _ hI (fun K2 hK2 => probe_M (σ := (zuI (zuI (zuI σ 19 q0 x) 20 q0 y) 18 2 (nI (q0 + 1)))) hM_z e2_z e3_z (fun q_z => absurd c_z q_z) (fun _ q_z => absurd q_z (by omega)) (fun _ _ => hK2 _ ?_))
    have hu : zOnly (zpt [5]) σ (zuI (zuI (zuI (zuI (zuI (zuI σ 19 q0 x) 20 q0 y) 18 2 (nI (q0 + 1))) 43 q0 x) 44 q0 y) 30 22 (nI (q0 + 1))) := (((((zOnly.rf.uI rfl).uI rfl).uI rfl).uI rfl).uI rfl).uI rfl
    refine ⟨hI, n_z, m_z, k0_z, q0 + 1, g_z, b_z, N_z, M_z, L_z, zR1_fr h1 hu rfl, zR2_fr h2 hu rfl, zR3_fr h3 hu rfl, zR4_fr h4 hu rfl, ?_, zR6_fr h6 hu rfl, zR7_fr h7 hu rfl, zR8_fr h8 hu rfl, zR9_fr h9 hu rfl⟩
    refine ⟨⟨rfl, rfl, by omega⟩, ⟨?_, ?_⟩, fun i_z hi_z => ?_⟩
    · show upd (σ.1 43) q0 x = upd (σ.1 19) q0 x
      rw [e4_z]
    · show upd (σ.1 44) q0 y = upd (σ.1 20) q0 y
      rw [e5_z]
    · show zBt (-40) 40 (upd (σ.1 19) q0 x i_z) ∧ zBt (-40) 40 (upd (σ.1 20) q0 y i_z)
      by_cases q_z : i_z = q0
      · rw [q_z, pk_us, pk_us]; exact c_z
      · rw [pk_un q_z, pk_un q_z]; exact e6_z i_z (by omega)
set_option maxHeartbeats 4000000 in
theorem L_poses {σ : zSt} {K : Option Value → zSt → Prop} (hR : zRel σ) (hK : ∀ (r : Int32) τ, zQI (kR 0 52) τ.2.2 → zAns mX9_poses [.ref 30] (.int r) τ → K (some (.int r)) τ) : zSp 7 mX8_poses [.ref 0] σ K := by
  obtain ⟨hI, n_z, m_z, k0_z, q0, g_z, b_z, N_z, M_z, L_z, h1, h2, h3, h4, h5, h6, h7, h8, h9⟩ := id hR
  obtain ⟨⟨a1_z, a2, a3, a4⟩, ⟨a5, a6⟩, a7, ⟨a8, a9, a10⟩, a11⟩ := id h1
  obtain ⟨⟨b1, b2, b3⟩, ⟨b4, b5⟩, b6, b7⟩ := id h2
  obtain ⟨c1_z, c2_z⟩ := id h3
  obtain ⟨⟨d1_z, d2_z, d3_z⟩, ⟨d4_z, d5_z, d6_z⟩, d7_z, d8_z, d9_z⟩ := id h4
  obtain ⟨⟨e1_z, e2_z, e3_z⟩, ⟨e4_z, e5_z⟩, e6_z⟩ := id h5
  obtain ⟨⟨f1_z, f2_z, f3_z⟩, f4_z⟩ := id h6
  obtain ⟨⟨g1, g2, g3_z⟩, ⟨g4, g5_z, g6⟩, g7, g8⟩ := id h7
  have hC : zQI (kR 0 30) σ.2.2 := zR_of hI rfl rfl
  have hM_z : zQI (kR 30 52) σ.2.2 := zR_of hI rfl rfl
  obtain ⟨⟨s1_z, s2_z⟩, ⟨s3_z, s4_z⟩, s5, s6_z, s7⟩ := h8 0 (by decide)
  have hB_z : zHB n_z (σ.1 31) (σ.1 32) := by rw [a5, a6]; exact a7
  have hpb : ∀ j_z, j_z < q0 → zBt (-40) 40 (σ.1 43 j_z) ∧ zBt (-40) 40 (σ.1 44 j_z) := by rw [e4_z, e5_z]; exact e6_z
  have hl : (σ.1 48 0 < 0 ∧ L_z 0 = 0) ∨ (¬ σ.1 48 0 < 0 ∧ σ.1 49 0 = nI (L_z 0)) := by
    by_cases c_z : σ.1 27 0 = -1
    · exact Or.inl ⟨by rw [s1_z, c_z]; decide, s5 c_z⟩
    · refine Or.inr ⟨?_, s6_z c_z⟩
      rcases s2_z with q_z | q_z
      · exact absurd q_z c_z
      · unfold zBt at q_z; rw [s1_z, zlt, zT_lits.1]; omega
  have hF : zFp n_z (σ.1 31) (σ.1 32) (σ.1 43) (σ.1 44) (σ.1 50) (L_z 0) q0 = zFp n_z (σ.1 2) (σ.1 3) (σ.1 19) (σ.1 20) (fun j_z => σ.1 29 (0 * 60 + j_z)) (L_z 0) q0 := by
    rw [a5, a6, e4_z, e5_z]
    refine zFp_eq (fun j_z hj => ?_)
    have := (s7 j_z hj).1
    rw [Nat.zero_mul, Nat.zero_add] at this
    show σ.1 50 j_z = σ.1 29 (0 * 60 + j_z)
    rw [Nat.zero_mul, Nat.zero_add]; exact this
  refine poses_C hC a1_z a4 e1_z e3_z s3_z s4_z ?_
  refine hK _ σ hI (fun K2 hK2 => poses_M hM_z a2 a4 hB_z e2_z e3_z hpb hl s4_z ?_)
  rw [hF]
  exact hK2 σ hR
set_option maxHeartbeats 4000000 in
theorem L_pose {σ : zSt} {K : Option Value → zSt → Prop} {x : Int32} (hR : zRel σ) (hK : ∀ (r : Int32) τ, zQI (kR 0 52) τ.2.2 → zAns mX9_pose [.ref 30, .int x] (.int r) τ → K (some (.int r)) τ) : zSp 7 mX8_pose [.ref 0, .int x] σ K := by
  obtain ⟨hI, n_z, m_z, k0_z, q0, g_z, b_z, N_z, M_z, L_z, h1, h2, h3, h4, h5, h6, h7, h8, h9⟩ := id hR
  obtain ⟨⟨a1_z, a2, a3, a4⟩, ⟨a5, a6⟩, a7, ⟨a8, a9, a10⟩, a11⟩ := id h1
  obtain ⟨⟨b1, b2, b3⟩, ⟨b4, b5⟩, b6, b7⟩ := id h2
  obtain ⟨c1_z, c2_z⟩ := id h3
  obtain ⟨⟨d1_z, d2_z, d3_z⟩, ⟨d4_z, d5_z, d6_z⟩, d7_z, d8_z, d9_z⟩ := id h4
  obtain ⟨⟨e1_z, e2_z, e3_z⟩, ⟨e4_z, e5_z⟩, e6_z⟩ := id h5
  obtain ⟨⟨f1_z, f2_z, f3_z⟩, f4_z⟩ := id h6
  obtain ⟨⟨g1, g2, g3_z⟩, ⟨g4, g5_z, g6⟩, g7, g8⟩ := id h7
  have hC : zQI (kR 0 30) σ.2.2 := zR_of hI rfl rfl
  have hM_z : zQI (kR 30 52) σ.2.2 := zR_of hI rfl rfl
  obtain ⟨⟨s1_z, s2_z⟩, ⟨s3_z, s4_z⟩, s5, s6_z, s7⟩ := h8 0 (by decide)
  have hB_z : zHB n_z (σ.1 31) (σ.1 32) := by rw [a5, a6]; exact a7
  have hpb : ∀ j_z, j_z < q0 → zBt (-40) 40 (σ.1 43 j_z) ∧ zBt (-40) 40 (σ.1 44 j_z) := by rw [e4_z, e5_z]; exact e6_z
  have hl : (σ.1 48 0 < 0 ∧ L_z 0 = 0) ∨ (¬ σ.1 48 0 < 0 ∧ σ.1 49 0 = nI (L_z 0)) := by
    by_cases c_z : σ.1 27 0 = -1
    · exact Or.inl ⟨by rw [s1_z, c_z]; decide, s5 c_z⟩
    · refine Or.inr ⟨?_, s6_z c_z⟩
      rcases s2_z with q_z | q_z
      · exact absurd q_z c_z
      · unfold zBt at q_z; rw [s1_z, zlt, zT_lits.1]; omega
  have hF : zFp n_z (σ.1 31) (σ.1 32) (σ.1 43) (σ.1 44) (σ.1 50) (L_z 0) q0 = zFp n_z (σ.1 2) (σ.1 3) (σ.1 19) (σ.1 20) (fun j_z => σ.1 29 (0 * 60 + j_z)) (L_z 0) q0 := by
    rw [a5, a6, e4_z, e5_z]
    refine zFp_eq (fun j_z hj => ?_)
    have := (s7 j_z hj).1
    rw [Nat.zero_mul, Nat.zero_add] at this
    show σ.1 50 j_z = σ.1 29 (0 * 60 + j_z)
    rw [Nat.zero_mul, Nat.zero_add]; exact this
  refine pose_C hC a1_z a4 e1_z e3_z s3_z s4_z (fun c_z => ?_) (fun c_z => ?_) (fun i_z j_z hi_z hj c1' c2' => ?_)
  · refine hK _ σ hI (fun K2 hK2 => pose_M hM_z a2 a4 hB_z e2_z e3_z hpb hl s4_z (fun _ => hK2 σ hR) (fun i_z j_z hi_z hj q_z _ => ?_))
    obtain ⟨v_z, v1_z, v2⟩ := zCo_b (F := zFp n_z (σ.1 31) (σ.1 32) (σ.1 43) (σ.1 44) (σ.1 50) (L_z 0) q0) (9 * i_z + j_z)
    rw [v1_z] at q_z
    have := q_z.2
    rw [← this, zlt, nI_toInt (by omega), zT_lits.1] at c_z
    omega
  · refine hK _ σ hI (fun K2 hK2 => pose_M hM_z a2 a4 hB_z e2_z e3_z hpb hl s4_z (fun _ => hK2 σ hR) (fun i_z j_z hi_z hj q_z _ => ?_))
    rw [hF] at q_z
    exact absurd q_z (c_z (9 * i_z + j_z) (by omega))
  · refine hK _ σ hI (fun K2 hK2 => pose_M hM_z a2 a4 hB_z e2_z e3_z hpb hl s4_z (fun q_z => ?_) (fun i' j' hi' hj' q_z q' => ?_))
    · rw [hF] at q_z
      exact absurd c1' (q_z (9 * i_z + j_z) (by omega))
    · rw [hF] at q_z q'
      have : 9 * i' + j' = 9 * i_z + j_z := by
        rcases Nat.lt_trichotomy (9 * i' + j') (9 * i_z + j_z) with y_z | y_z | y_z
        · exact absurd q_z (c2' _ y_z)
        · exact y_z
        · exact absurd c1' (q' _ y_z)
      have ei : i' = i_z := by omega
      have ej : j' = j_z := by omega
      rw [ei, ej]
      exact hK2 σ hR
