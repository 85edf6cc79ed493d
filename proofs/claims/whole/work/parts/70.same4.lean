theorem zRel_find {σ : zSt} {c : Int32} (hR : zRel σ) : zRel (zuI (zuI σ 26 3 c) 30 35 c) := by
  obtain ⟨hI, n_z, m_z, k0_z, q0, g_z, b_z, N_z, M_z, L_z, h1, h2, h3, h4, h5, h6, h7, h8, h9⟩ := hR
  have hu : zOnly (zpt [9]) σ (zuI (zuI σ 26 3 c) 30 35 c) := (zOnly.rf.uI rfl).uI rfl
  exact ⟨hI, n_z, m_z, k0_z, q0, g_z, b_z, N_z, M_z, L_z, zR1_fr h1 hu rfl, zR2_fr h2 hu rfl, zR3_fr h3 hu rfl, zR4_fr h4 hu rfl, zR5_fr h5 hu rfl, zR6_fr h6 hu rfl, zR7_fr h7 hu rfl, zR8_fr h8 hu rfl, rfl⟩
theorem zKp_id (f v : Int32) : zKp f (zKp f v) = zKp f v := by
  unfold zKp
  by_cases c_z : f = 0
  · rw [if_pos c_z, if_pos c_z]; simp
  · rw [if_neg c_z, if_neg c_z]
    by_cases d : f = 1
    · rw [if_pos d, if_pos d]; simp
    · rw [if_neg d, if_neg d]
theorem znbeq {i k : Nat} (h : i ≠ k) : Nat.beq i k = false := by
  cases e : Nat.beq i k
  · rfl
  · exact absurd (Nat.eq_of_beq_eq_true e) h
theorem zrng_f {k y c : Nat} (h : y < k ∨ k + c ≤ y) : (Nat.ble k y && Nat.blt y (k + c)) = false := by
  cases e : (Nat.ble k y && Nat.blt y (k + c))
  · rfl
  · rw [Bool.and_eq_true] at e
    have e1_z := Nat.le_of_ble_eq_true e.1
    have e2_z : y < k + c := Nat.le_of_ble_eq_true e.2
    omega
theorem zRn_f {k i : Nat} (h : i ≠ k) : zfRn k 27 i = false ∧ zfRn k 28 i = false ∧ zfSt k 48 i = false ∧ zfSt k 49 i = false := by
  have e_z := znbeq h
  refine ⟨?_, ?_, ?_, ?_⟩
  · show ((Nat.beq i k || false) || false) = false; rw [e_z]; rfl
  · show ((false || Nat.beq i k) || false) = false; rw [e_z]; rfl
  · show ((Nat.beq i k || false) || false) = false; rw [e_z]; rfl
  · show ((false || Nat.beq i k) || false) = false; rw [e_z]; rfl
theorem zRn_g {k y : Nat} (h : y < k * 60 ∨ k * 60 + 60 ≤ y) : zfRn k 29 y = false ∧ zfSt k 50 y = false := ⟨zrng_f h, zrng_f h⟩
theorem zRn_s {k a j : Nat} (h : zpt [8] a j = false) : zfRn k a j = false ∧ zfSt k a j = false := by
  have t_z : ∀ c_z, a = c_z → (zpt [8] c_z j = true) → False := fun c_z e_z q_z => by rw [e_z] at h; rw [h] at q_z; exact absurd q_z (by decide)
  refine ⟨?_, ?_⟩
  · cases y_z : zfRn k a j
    · rfl
    · exfalso
      unfold zfRn at y_z
      rw [Bool.or_eq_true, Bool.or_eq_true, Bool.and_eq_true, Bool.and_eq_true, Bool.and_eq_true] at y_z
      rcases y_z with (⟨y_z, _⟩ | ⟨y_z, _⟩) | ⟨y_z, _⟩
      · exact t_z 27 (Nat.eq_of_beq_eq_true y_z) rfl
      · exact t_z 28 (Nat.eq_of_beq_eq_true y_z) rfl
      · exact t_z 29 (Nat.eq_of_beq_eq_true y_z) rfl
  · cases y_z : zfSt k a j
    · rfl
    · exfalso
      unfold zfSt at y_z
      rw [Bool.or_eq_true, Bool.or_eq_true, Bool.and_eq_true, Bool.and_eq_true, Bool.and_eq_true] at y_z
      rcases y_z with (⟨y_z, _⟩ | ⟨y_z, _⟩) | ⟨y_z, _⟩
      · exact t_z 48 (Nat.eq_of_beq_eq_true y_z) rfl
      · exact t_z 49 (Nat.eq_of_beq_eq_true y_z) rfl
      · exact t_z 50 (Nat.eq_of_beq_eq_true y_z) rfl
theorem zCp_s {lo c a j : Nat} (h : zpt [8] a j = false) : zfCp lo c a j = false ∧ zfCpM lo c a j = false := by
  have t_z : ∀ c, a = c → (zpt [8] c j = true) → False := fun c e_z q_z => by rw [e_z] at h; rw [h] at q_z; exact absurd q_z (by decide)
  refine ⟨?_, ?_⟩
  · cases y_z : zfCp lo c a j
    · rfl
    · exfalso
      unfold zfCp at y_z
      rw [Bool.and_eq_true] at y_z
      exact t_z 29 (Nat.eq_of_beq_eq_true y_z.1) rfl
  · cases y_z : zfCpM lo c a j
    · rfl
    · exfalso
      unfold zfCpM at y_z
      rw [Bool.or_eq_true, Bool.and_eq_true] at y_z
      rcases y_z with ⟨y_z, _⟩ | y_z
      · exact t_z 50 (Nat.eq_of_beq_eq_true y_z) rfl
      · exact t_z 51 (Nat.eq_of_beq_eq_true y_z) rfl
set_option maxHeartbeats 4000000 in
theorem L_sheet {σ : zSt} {K : Option Value → zSt → Prop} {s f c : Int32} (hR : zRel σ) (hK : ∀ (r : Int32) τ, zQI (kR 0 52) τ.2.2 → zAns mX9_sheet [.ref 30, .int s, .int f, .int c] (.int r) τ → K (some (.int r)) τ) : zSp 7 mX8_sheet [.ref 0, .int s, .int f, .int c] σ K := by
  obtain ⟨hI, n_z, m_z, k0_z, q0, g_z, b_z, N_z, M_z, L_z, h1, h2, h3, h4, h5, h6, h7, h8, h9⟩ := id hR
  obtain ⟨⟨a1_z, a2, a3, a4⟩, ⟨a5, a6⟩, a7, ⟨a8, a9, a10⟩, a11⟩ := id h1
  obtain ⟨⟨b1, b2, b3⟩, ⟨b4, b5⟩, b6, b7⟩ := id h2
  obtain ⟨c1_z, c2_z⟩ := id h3
  obtain ⟨⟨d1_z, d2_z, d3_z⟩, ⟨d4_z, d5_z, d6_z⟩, d7_z, d8_z, d9_z⟩ := id h4
  obtain ⟨⟨e1_z, e2_z, e3_z⟩, ⟨e4_z, e5_z⟩, e6_z⟩ := id h5
  obtain ⟨⟨f1_z, f2_z, f3_z⟩, f4_z⟩ := id h6
  obtain ⟨⟨g1, g2, g3_z⟩, ⟨g4, g5_z, g6⟩, g7, g8⟩ := id h7
  have hC : zQI (kR 0 30) σ.2.2 := zR_of hI rfl rfl
  have hM_z : zQI (kR 30 52) σ.2.2 := zR_of hI rfl rfl
  have hLC : ∀ k_z, k_z < 4 → ∃ l, σ.1 28 k_z = nI l ∧ l ≤ 60 := fun k_z hk => ⟨L_z k_z, (h8 k_z hk).2.1⟩
  have sg : ∀ k_z, k_z < 4 → (0 ≤ σ.1 48 k_z ↔ ¬ σ.1 27 k_z = -1) := fun k_z hk => by
    obtain ⟨⟨s1_z, s2_z⟩, _⟩ := h8 k_z hk
    rw [s1_z]
    constructor
    · intro q_z q2_z; rw [q2_z] at q_z; exact absurd q_z (by decide)
    · intro q_z
      rcases s2_z with s2_z | s2_z
      · exact absurd s2_z q_z
      · unfold zBt at s2_z; rw [zle, zT_lits.1]; exact s2_z.1
  have hLM : ∀ k_z, k_z < 4 → 0 ≤ σ.1 48 k_z → ∃ l, σ.1 49 k_z = nI l ∧ l ≤ 60 := fun k_z hk q_z => ⟨L_z k_z, (h8 k_z hk).2.2.2.1 ((sg k_z hk).mp q_z), (h8 k_z hk).2.1.2⟩
  refine sheet_C hC (fun y_z => ?_) (fun y_z z_z => ?_) (fun τ k_z y_z z_z es hk ht t1_z t2_z t3_z => ?_)
  · exact hK _ σ hI (fun K2 hK2 => sheet_M hM_z (fun _ => hK2 σ hR) (fun q_z => absurd q_z y_z) (fun υ k_z q_z w_z => absurd w_z y_z))
  · exact hK _ _ hI (fun K2 hK2 => sheet_M (σ := zuI σ 26 3 5) hM_z (fun q_z => absurd y_z q_z) (fun _ _ => hK2 _ (zRel_find hR)) (fun υ k_z q_z _ w_z => absurd w_z z_z))
  · have hIτ := zQI_eq hI ht.2.2
    refine hK _ τ hIτ (fun K2 hK2 => sheet_M (zR_of hIτ rfl rfl) (fun q_z => absurd y_z q_z) (fun _ q_z => absurd z_z q_z) (fun υ k' q_z _ _ es' hk' ec hq60 hu u1_z u2_z u3 => ?_))
    have ek := znI_inj es' es (by omega) (by omega)
    subst ek
    refine hK2 υ ?_
    have hv : zOnly (zpt [8]) σ υ := (ht.wk (fun a_z j_z w_z => (zRn_s w_z).1)).tr (hu.wk (fun a_z j_z w_z => (zRn_s w_z).2))
    refine ⟨zQI_eq hI hv.2.2, n_z, m_z, k0_z, q0, g_z, b_z, N_z, M_z, (fun i_z => if i_z = k' then q_z else L_z i_z), zR1_fr h1 hv rfl, zR2_fr h2 hv rfl, zR3_fr h3 hv rfl, zR4_fr h4 hv rfl, zR5_fr h5 hv rfl, zR6_fr h6 hv rfl, zR7_fr h7 hv rfl, ?_, zR9_fr h9 hv rfl⟩
    intro i_z hi_z
    dsimp only
    by_cases e_z : i_z = k'
    · rw [e_z]
      rw [if_pos rfl]
      have x27 : υ.1 27 k' = f := (hu.1 27 k' rfl).trans t1_z
      have x28 : υ.1 28 k' = c := (hu.1 28 k' rfl).trans t2_z
      refine ⟨⟨by rw [x27, u1_z], Or.inr (by rw [x27]; exact y_z.2.1)⟩, ⟨by rw [x28, ec], hq60⟩, fun w_z => ?_, fun _ => by rw [u2_z, ec], fun j_z hj => ?_⟩
      · rw [x27] at w_z
        have := y_z.2.1
        unfold zBt at this; rw [w_z] at this
        exact absurd this.1 (by decide)
      · have x29 : υ.1 29 (k' * 60 + j_z) = 0 := (hu.1 29 _ rfl).trans (t3_z j_z (by omega))
        rw [u3 j_z hj, x29]
        refine ⟨rfl, ?_⟩
        unfold zKp
        split
        · rfl
        · split <;> rfl
    · rw [if_neg e_z]
      obtain ⟨r1_z, r2, r3, r4⟩ := zRn_f (k := k') e_z
      have o27 : υ.1 27 i_z = σ.1 27 i_z := (hu.1 27 i_z rfl).trans (ht.1 27 i_z r1_z)
      have o28 : υ.1 28 i_z = σ.1 28 i_z := (hu.1 28 i_z rfl).trans (ht.1 28 i_z r2)
      have o48 : υ.1 48 i_z = σ.1 48 i_z := (hu.1 48 i_z r3).trans (ht.1 48 i_z rfl)
      have o49 : υ.1 49 i_z = σ.1 49 i_z := (hu.1 49 i_z r4).trans (ht.1 49 i_z rfl)
      obtain ⟨s1_z, s2_z, s3_z, s4_z, s5⟩ := h8 i_z hi_z
      rw [o27, o28, o48, o49]
      refine ⟨s1_z, s2_z, s3_z, s4_z, fun j_z hj => ?_⟩
      have := s2_z.2
      obtain ⟨v1_z, v2⟩ := zRn_g (k := k') (y := i_z * 60 + j_z) (by omega)
      rw [hu.1 50 _ v2, ht.1 50 _ rfl, hu.1 29 _ rfl, ht.1 29 _ v1_z]
      exact s5 j_z hj
set_option maxHeartbeats 4000000 in
theorem L_lose {σ : zSt} {K : Option Value → zSt → Prop} {s : Int32} (hR : zRel σ) (hK : ∀ (r : Int32) τ, zQI (kR 0 52) τ.2.2 → zAns mX9_lose [.ref 30, .int s] (.int r) τ → K (some (.int r)) τ) : zSp 7 mX8_lose [.ref 0, .int s] σ K := by
  obtain ⟨hI, n_z, m_z, k0_z, q0, g_z, b_z, N_z, M_z, L_z, h1, h2, h3, h4, h5, h6, h7, h8, h9⟩ := id hR
  obtain ⟨⟨a1_z, a2, a3, a4⟩, ⟨a5, a6⟩, a7, ⟨a8, a9, a10⟩, a11⟩ := id h1
  obtain ⟨⟨b1, b2, b3⟩, ⟨b4, b5⟩, b6, b7⟩ := id h2
  obtain ⟨c1_z, c2_z⟩ := id h3
  obtain ⟨⟨d1_z, d2_z, d3_z⟩, ⟨d4_z, d5_z, d6_z⟩, d7_z, d8_z, d9_z⟩ := id h4
  obtain ⟨⟨e1_z, e2_z, e3_z⟩, ⟨e4_z, e5_z⟩, e6_z⟩ := id h5
  obtain ⟨⟨f1_z, f2_z, f3_z⟩, f4_z⟩ := id h6
  obtain ⟨⟨g1, g2, g3_z⟩, ⟨g4, g5_z, g6⟩, g7, g8⟩ := id h7
  have hC : zQI (kR 0 30) σ.2.2 := zR_of hI rfl rfl
  have hM_z : zQI (kR 30 52) σ.2.2 := zR_of hI rfl rfl
  have hLC : ∀ k_z, k_z < 4 → ∃ l, σ.1 28 k_z = nI l ∧ l ≤ 60 := fun k_z hk => ⟨L_z k_z, (h8 k_z hk).2.1⟩
  have sg : ∀ k_z, k_z < 4 → (0 ≤ σ.1 48 k_z ↔ ¬ σ.1 27 k_z = -1) := fun k_z hk => by
    obtain ⟨⟨s1_z, s2_z⟩, _⟩ := h8 k_z hk
    rw [s1_z]
    constructor
    · intro q_z q2_z; rw [q2_z] at q_z; exact absurd q_z (by decide)
    · intro q_z
      rcases s2_z with s2_z | s2_z
      · exact absurd s2_z q_z
      · unfold zBt at s2_z; rw [zle, zT_lits.1]; exact s2_z.1
  have hLM : ∀ k_z, k_z < 4 → 0 ≤ σ.1 48 k_z → ∃ l, σ.1 49 k_z = nI l ∧ l ≤ 60 := fun k_z hk q_z => ⟨L_z k_z, (h8 k_z hk).2.2.2.1 ((sg k_z hk).mp q_z), (h8 k_z hk).2.1.2⟩
  refine lose_C hC (fun y_z => ?_) (fun k_z es hk y_z => ?_) (fun k_z es hk y_z => ?_)
  · exact hK _ σ hI (fun K2 hK2 => lose_M hM_z (fun _ => hK2 σ hR) (fun k_z es hk q_z => absurd (zBt_nI es hk (by omega)) y_z) (fun k_z es hk q_z => absurd (zBt_nI es hk (by omega)) y_z))
  · refine hK _ _ hI (fun K2 hK2 => lose_M (σ := zuI σ 26 3 1) hM_z (fun q_z => absurd (zBt_nI es hk (by omega)) q_z) (fun _ _ _ _ => hK2 _ (zRel_find hR)) (fun k' es' hk' q_z => ?_))
    have ek := znI_inj es' es (by omega) (by omega)
    rw [ek] at q_z
    exact absurd y_z ((sg k_z hk).mp q_z)
  · refine hK _ _ hI (fun K2 hK2 => lose_M (σ := zuI (zuI σ 27 k_z (-1)) 28 k_z 0) hM_z (fun q_z => absurd (zBt_nI es hk (by omega)) q_z) (fun k' es' hk' q_z => ?_) (fun k' es' hk' q_z => ?_))
    · have ek := znI_inj es' es (by omega) (by omega)
      rw [ek] at q_z
      exact absurd ((sg k_z hk).mpr y_z) q_z
    · have ek := znI_inj es' es (by omega) (by omega)
      rw [ek]
      obtain ⟨s1_z, s2_z, s3_z, s4_z, s5⟩ := h8 k_z hk
      have e49 : (zuI (zuI σ 27 k_z (-1)) 28 k_z 0).1 49 k_z = σ.1 28 k_z := (s4_z y_z).trans s2_z.1.symm
      rw [e49]
      refine hK2 _ ?_
      have hv : zOnly (zpt [8]) σ (zuI (zuI (zuI σ 27 k_z (-1)) 28 k_z 0) 48 k_z (-1)) := ((zOnly.rf.uI rfl).uI rfl).uI rfl
      refine ⟨hI, n_z, m_z, k0_z, q0, g_z, b_z, N_z, M_z, (fun i_z => if i_z = k_z then 0 else L_z i_z), zR1_fr h1 hv rfl, zR2_fr h2 hv rfl, zR3_fr h3 hv rfl, zR4_fr h4 hv rfl, zR5_fr h5 hv rfl, zR6_fr h6 hv rfl, zR7_fr h7 hv rfl, ?_, zR9_fr h9 hv rfl⟩
      intro i_z hi_z
      show (upd (σ.1 48) k_z (-1) i_z = upd (σ.1 27) k_z (-1) i_z ∧ (upd (σ.1 27) k_z (-1) i_z = -1 ∨ zBt 0 2 (upd (σ.1 27) k_z (-1) i_z))) ∧ (upd (σ.1 28) k_z 0 i_z = nI (if i_z = k_z then 0 else L_z i_z) ∧ (if i_z = k_z then 0 else L_z i_z) ≤ 60) ∧ (upd (σ.1 27) k_z (-1) i_z = -1 → (if i_z = k_z then 0 else L_z i_z) = 0) ∧ (¬ upd (σ.1 27) k_z (-1) i_z = -1 → σ.1 49 i_z = nI (if i_z = k_z then 0 else L_z i_z)) ∧ ∀ j_z, j_z < (if i_z = k_z then 0 else L_z i_z) → σ.1 50 (i_z * 60 + j_z) = σ.1 29 (i_z * 60 + j_z) ∧ zKp (upd (σ.1 27) k_z (-1) i_z) (σ.1 29 (i_z * 60 + j_z)) = σ.1 29 (i_z * 60 + j_z)
      by_cases e_z : i_z = k_z
      · rw [e_z, pk_us, pk_us, pk_us, if_pos rfl]
        exact ⟨⟨rfl, Or.inl rfl⟩, ⟨rfl, by decide⟩, fun _ => rfl, fun w_z => absurd rfl w_z, fun j_z hj => absurd hj (Nat.not_lt_zero j_z)⟩
      · rw [pk_un e_z, pk_un e_z, pk_un e_z, if_neg e_z]
        exact h8 i_z hi_z
theorem zlnb {x i : Int32} {l j k : Nat} (h : x = nI l) (h' : x = nI k) (hk : k ≤ 60) (hi : i = nI j) (hj : j < k) : zBt 0 (l - 1) i := by
  have : k ≤ l := by
    refine Nat.not_lt.mp (fun q_z => ?_)
    have := znI_inj h h' (by omega) (by omega)
    omega
  unfold zBt; rw [hi, nI_toInt (by omega)]; omega
set_option maxHeartbeats 4000000 in
theorem L_get {σ : zSt} {K : Option Value → zSt → Prop} {s f i : Int32} (hR : zRel σ) (hK : ∀ (r : Int32) τ, zQI (kR 0 52) τ.2.2 → zAns mX9_get [.ref 30, .int s, .int f, .int i] (.int r) τ → K (some (.int r)) τ) : zSp 7 mX8_get [.ref 0, .int s, .int f, .int i] σ K := by
  obtain ⟨hI, n_z, m_z, k0_z, q0, g_z, b_z, N_z, M_z, L_z, h1, h2, h3, h4, h5, h6, h7, h8, h9⟩ := id hR
  obtain ⟨⟨a1_z, a2, a3, a4⟩, ⟨a5, a6⟩, a7, ⟨a8, a9, a10⟩, a11⟩ := id h1
  obtain ⟨⟨b1, b2, b3⟩, ⟨b4, b5⟩, b6, b7⟩ := id h2
  obtain ⟨c1_z, c2_z⟩ := id h3
  obtain ⟨⟨d1_z, d2_z, d3_z⟩, ⟨d4_z, d5_z, d6_z⟩, d7_z, d8_z, d9_z⟩ := id h4
  obtain ⟨⟨e1_z, e2_z, e3_z⟩, ⟨e4_z, e5_z⟩, e6_z⟩ := id h5
  obtain ⟨⟨f1_z, f2_z, f3_z⟩, f4_z⟩ := id h6
  obtain ⟨⟨g1, g2, g3_z⟩, ⟨g4, g5_z, g6⟩, g7, g8⟩ := id h7
  have hC : zQI (kR 0 30) σ.2.2 := zR_of hI rfl rfl
  have hM_z : zQI (kR 30 52) σ.2.2 := zR_of hI rfl rfl
  have hLC : ∀ k_z, k_z < 4 → ∃ l, σ.1 28 k_z = nI l ∧ l ≤ 60 := fun k_z hk => ⟨L_z k_z, (h8 k_z hk).2.1⟩
  have sg : ∀ k_z, k_z < 4 → (0 ≤ σ.1 48 k_z ↔ ¬ σ.1 27 k_z = -1) := fun k_z hk => by
    obtain ⟨⟨s1_z, s2_z⟩, _⟩ := h8 k_z hk
    rw [s1_z]
    constructor
    · intro q_z q2_z; rw [q2_z] at q_z; exact absurd q_z (by decide)
    · intro q_z
      rcases s2_z with s2_z | s2_z
      · exact absurd s2_z q_z
      · unfold zBt at s2_z; rw [zle, zT_lits.1]; exact s2_z.1
  have hLM : ∀ k_z, k_z < 4 → 0 ≤ σ.1 48 k_z → ∃ l, σ.1 49 k_z = nI l ∧ l ≤ 60 := fun k_z hk q_z => ⟨L_z k_z, (h8 k_z hk).2.2.2.1 ((sg k_z hk).mp q_z), (h8 k_z hk).2.1.2⟩
  have hd_z : ∀ k_z, k_z < 4 → ¬ σ.1 27 k_z = -1 → ∀ l, σ.1 28 k_z = nI l → l ≤ 60 ∨ True → σ.1 49 k_z = nI (L_z k_z) ∧ l % 2 ^ 32 = l % 2 ^ 32 := fun k_z hk q_z l _ _ => ⟨(h8 k_z hk).2.2.2.1 q_z, rfl⟩
  have hl28 : ∀ k_z, k_z < 4 → σ.1 28 k_z = nI (L_z k_z) ∧ L_z k_z ≤ 60 := fun k_z hk => (h8 k_z hk).2.1
  refine get_C hC hLC (fun y_z => ?_) (fun k_z y_z es hk z_z => ?_) (fun k_z y_z es hk z1 z2 => ?_) (fun k_z l y_z es hk z1 z2 z3 z4 => ?_) (fun k_z l j_z y_z es hk z1 z2 z3 z4 ei hj => ?_)
  · exact hK _ σ hI (fun K2 hK2 => get_M hM_z hLM (fun _ => hK2 σ hR) (fun k_z q_z => absurd q_z y_z) (fun k_z q_z => absurd q_z y_z) (fun k_z l q_z => absurd q_z y_z) (fun k_z l j_z q_z => absurd q_z y_z))
  · refine hK _ _ hI (fun K2 hK2 => get_M (σ := zuI σ 26 3 1) hM_z hLM (fun q_z => absurd y_z q_z) (fun k' _ es' hk' q_z => hK2 _ (zRel_find hR)) (fun k' _ es' hk' q_z => ?_) (fun k' l _ es' hk' q_z => ?_) (fun k' l j_z _ es' hk' q_z => ?_))
    all_goals
      have ek := znI_inj es' es (by omega) (by omega)
      rw [ek] at q_z
      exact absurd z_z ((sg k_z hk).mp q_z)
  · refine hK _ _ hI (fun K2 hK2 => get_M (σ := zuI σ 26 3 3) hM_z hLM (fun q_z => absurd y_z q_z) (fun k' _ es' hk' q_z => ?_) (fun k' _ es' hk' q_z _ => hK2 _ (zRel_find hR)) (fun k' l _ es' hk' q_z q2_z => ?_) (fun k' l j_z _ es' hk' q_z q2_z => ?_))
    · have ek := znI_inj es' es (by omega) (by omega)
      rw [ek] at q_z
      exact absurd ((sg k_z hk).mpr z1) q_z
    all_goals
      have ek := znI_inj es' es (by omega) (by omega)
      rw [ek] at q2_z
      exact absurd ((h8 k_z hk).1.1.symm.trans q2_z) z2
  · have hl := hl28 k_z hk
    have ll : (l : Int) - 1 = (L_z k_z : Int) - 1 ∨ ¬ l < 2 ^ 31 := by
      by_cases c_z : l < 2 ^ 31
      · have := znI_inj z3 hl.1 c_z (by omega)
        omega
      · exact Or.inr c_z
    refine hK _ _ hI (fun K2 hK2 => get_M (σ := zuI σ 26 3 2) hM_z hLM (fun q_z => absurd y_z q_z) (fun k' _ es' hk' q_z => ?_) (fun k' _ es' hk' q_z q2_z => ?_) (fun k' l' _ es' hk' q_z q2_z q3_z q4_z => hK2 _ (zRel_find hR)) (fun k' l' j_z _ es' hk' q_z q2_z q3_z q4_z q5_z q6_z => ?_))
    · have ek := znI_inj es' es (by omega) (by omega)
      rw [ek] at q_z
      exact absurd ((sg k_z hk).mpr z1) q_z
    · have ek := znI_inj es' es (by omega) (by omega)
      rw [ek] at q2_z
      exact absurd ((h8 k_z hk).1.1.trans z2) q2_z
    · have ek := znI_inj es' es (by omega) (by omega)
      rw [ek] at q3_z
      have e3_z : σ.1 49 k_z = nI (L_z k_z) := (h8 k_z hk).2.2.2.1 z1
      have q3' : σ.1 49 k_z = nI l' := q3_z
      have el := znI_inj q3' e3_z (by omega) (by omega)
      exact absurd (zlnb z3 hl.1 hl.2 q5_z (by omega)) z4
  · have el := znI_inj z3 (hl28 k_z hk).1 (by omega) (by have := (hl28 k_z hk).2; omega)
    refine hK _ _ hI (fun K2 hK2 => get_M hM_z hLM (fun q_z => absurd y_z q_z) (fun k' _ es' hk' q_z => ?_) (fun k' _ es' hk' q_z q2_z => ?_) (fun k' l' _ es' hk' q_z q2_z q3_z q4_z => ?_) (fun k' l' j' _ es' hk' q_z q2_z q3_z q4_z q5_z q6_z => ?_))
    · have ek := znI_inj es' es (by omega) (by omega)
      rw [ek] at q_z
      exact absurd ((sg k_z hk).mpr z1) q_z
    · have ek := znI_inj es' es (by omega) (by omega)
      rw [ek] at q2_z
      exact absurd ((h8 k_z hk).1.1.trans z2) q2_z
    · have ek := znI_inj es' es (by omega) (by omega)
      rw [ek] at q3_z
      have e3_z : σ.1 49 k_z = nI (L_z k_z) := (h8 k_z hk).2.2.2.1 z1
      exact absurd (zlnb q3_z e3_z (hl28 k_z hk).2 ei (by omega)) q4_z
    · have ek := znI_inj es' es (by omega) (by omega)
      have ej := znI_inj q5_z ei (by omega) (by omega)
      rw [ek, ej, ((h8 k_z hk).2.2.2.2 j_z (by omega)).1]
      exact hK2 σ hR
set_option maxHeartbeats 4000000 in
theorem L_put {σ : zSt} {K : Option Value → zSt → Prop} {s f i v : Int32} (hR : zRel σ) (hK : ∀ (r : Int32) τ, zQI (kR 0 52) τ.2.2 → zAns mX9_put [.ref 30, .int s, .int f, .int i, .int v] (.int r) τ → K (some (.int r)) τ) : zSp 7 mX8_put [.ref 0, .int s, .int f, .int i, .int v] σ K := by
  obtain ⟨hI, n_z, m_z, k0_z, q0, g_z, b_z, N_z, M_z, L_z, h1, h2, h3, h4, h5, h6, h7, h8, h9⟩ := id hR
  obtain ⟨⟨a1_z, a2, a3, a4⟩, ⟨a5, a6⟩, a7, ⟨a8, a9, a10⟩, a11⟩ := id h1
  obtain ⟨⟨b1, b2, b3⟩, ⟨b4, b5⟩, b6, b7⟩ := id h2
  obtain ⟨c1_z, c2_z⟩ := id h3
  obtain ⟨⟨d1_z, d2_z, d3_z⟩, ⟨d4_z, d5_z, d6_z⟩, d7_z, d8_z, d9_z⟩ := id h4
  obtain ⟨⟨e1_z, e2_z, e3_z⟩, ⟨e4_z, e5_z⟩, e6_z⟩ := id h5
  obtain ⟨⟨f1_z, f2_z, f3_z⟩, f4_z⟩ := id h6
  obtain ⟨⟨g1, g2, g3_z⟩, ⟨g4, g5_z, g6⟩, g7, g8⟩ := id h7
  have hC : zQI (kR 0 30) σ.2.2 := zR_of hI rfl rfl
  have hM_z : zQI (kR 30 52) σ.2.2 := zR_of hI rfl rfl
  have hLC : ∀ k_z, k_z < 4 → ∃ l, σ.1 28 k_z = nI l ∧ l ≤ 60 := fun k_z hk => ⟨L_z k_z, (h8 k_z hk).2.1⟩
  have sg : ∀ k_z, k_z < 4 → (0 ≤ σ.1 48 k_z ↔ ¬ σ.1 27 k_z = -1) := fun k_z hk => by
    obtain ⟨⟨s1_z, s2_z⟩, _⟩ := h8 k_z hk
    rw [s1_z]
    constructor
    · intro q_z q2_z; rw [q2_z] at q_z; exact absurd q_z (by decide)
    · intro q_z
      rcases s2_z with s2_z | s2_z
      · exact absurd s2_z q_z
      · unfold zBt at s2_z; rw [zle, zT_lits.1]; exact s2_z.1
  have hLM : ∀ k_z, k_z < 4 → 0 ≤ σ.1 48 k_z → ∃ l, σ.1 49 k_z = nI l ∧ l ≤ 60 := fun k_z hk q_z => ⟨L_z k_z, (h8 k_z hk).2.2.2.1 ((sg k_z hk).mp q_z), (h8 k_z hk).2.1.2⟩
  have hd_z : ∀ k_z, k_z < 4 → ¬ σ.1 27 k_z = -1 → ∀ l, σ.1 28 k_z = nI l → l ≤ 60 ∨ True → σ.1 49 k_z = nI (L_z k_z) ∧ l % 2 ^ 32 = l % 2 ^ 32 := fun k_z hk q_z l _ _ => ⟨(h8 k_z hk).2.2.2.1 q_z, rfl⟩
  have hl28 : ∀ k_z, k_z < 4 → σ.1 28 k_z = nI (L_z k_z) ∧ L_z k_z ≤ 60 := fun k_z hk => (h8 k_z hk).2.1
  refine put_C hC hLC (fun y_z => ?_) (fun k_z y_z es hk z_z => ?_) (fun k_z y_z es hk z1 z2 => ?_) (fun k_z l y_z es hk z1 z2 z3 z4 => ?_) (fun k_z l j_z y_z es hk z1 z2 z3 z4 ei hj => ?_)
  · exact hK _ σ hI (fun K2 hK2 => put_M hM_z hLM (fun _ => hK2 σ hR) (fun k_z q_z => absurd q_z y_z) (fun k_z q_z => absurd q_z y_z) (fun k_z l q_z => absurd q_z y_z) (fun k_z l j_z q_z => absurd q_z y_z))
  · refine hK _ _ hI (fun K2 hK2 => put_M (σ := zuI σ 26 3 1) hM_z hLM (fun q_z => absurd y_z q_z) (fun k' _ es' hk' q_z => hK2 _ (zRel_find hR)) (fun k' _ es' hk' q_z => ?_) (fun k' l _ es' hk' q_z => ?_) (fun k' l j_z _ es' hk' q_z => ?_))
    all_goals
      have ek := znI_inj es' es (by omega) (by omega)
      rw [ek] at q_z
      exact absurd z_z ((sg k_z hk).mp q_z)
  · refine hK _ _ hI (fun K2 hK2 => put_M (σ := zuI σ 26 3 3) hM_z hLM (fun q_z => absurd y_z q_z) (fun k' _ es' hk' q_z => ?_) (fun k' _ es' hk' q_z _ => hK2 _ (zRel_find hR)) (fun k' l _ es' hk' q_z q2_z => ?_) (fun k' l j_z _ es' hk' q_z q2_z => ?_))
    · have ek := znI_inj es' es (by omega) (by omega)
      rw [ek] at q_z
      exact absurd ((sg k_z hk).mpr z1) q_z
    all_goals
      have ek := znI_inj es' es (by omega) (by omega)
      rw [ek] at q2_z
      exact absurd ((h8 k_z hk).1.1.symm.trans q2_z) z2
  · have hl := hl28 k_z hk
    have ll : (l : Int) - 1 = (L_z k_z : Int) - 1 ∨ ¬ l < 2 ^ 31 := by
      by_cases c_z : l < 2 ^ 31
      · have := znI_inj z3 hl.1 c_z (by omega)
        omega
      · exact Or.inr c_z
    refine hK _ _ hI (fun K2 hK2 => put_M (σ := zuI σ 26 3 2) hM_z hLM (fun q_z => absurd y_z q_z) (fun k' _ es' hk' q_z => ?_) (fun k' _ es' hk' q_z q2_z => ?_) (fun k' l' _ es' hk' q_z q2_z q3_z q4_z => hK2 _ (zRel_find hR)) (fun k' l' j_z _ es' hk' q_z q2_z q3_z q4_z q5_z q6_z => ?_))
    · have ek := znI_inj es' es (by omega) (by omega)
      rw [ek] at q_z
      exact absurd ((sg k_z hk).mpr z1) q_z
    · have ek := znI_inj es' es (by omega) (by omega)
      rw [ek] at q2_z
      exact absurd ((h8 k_z hk).1.1.trans z2) q2_z
    · have ek := znI_inj es' es (by omega) (by omega)
      rw [ek] at q3_z
      have e3_z : σ.1 49 k_z = nI (L_z k_z) := (h8 k_z hk).2.2.2.1 z1
      have q3' : σ.1 49 k_z = nI l' := q3_z
      have el := znI_inj q3' e3_z (by omega) (by omega)
      exact absurd (zlnb z3 hl.1 hl.2 q5_z (by omega)) z4
  · have el := znI_inj z3 (hl28 k_z hk).1 (by omega) (by have := (hl28 k_z hk).2; omega)
    refine hK _ _ hI (fun K2 hK2 => put_M (σ := zuI σ 29 (k_z * 60 + j_z) (zKp (σ.1 27 k_z) v)) hM_z hLM (fun q_z => absurd y_z q_z) (fun k' _ es' hk' q_z => ?_) (fun k' _ es' hk' q_z q2_z => ?_) (fun k' l' _ es' hk' q_z q2_z q3_z q4_z => ?_) (fun k' l' j' _ es' hk' q_z q2_z q3_z q4_z q5_z q6_z => ?_))
    · have ek := znI_inj es' es (by omega) (by omega)
      rw [ek] at q_z
      exact absurd ((sg k_z hk).mpr z1) q_z
    · have ek := znI_inj es' es (by omega) (by omega)
      rw [ek] at q2_z
      exact absurd ((h8 k_z hk).1.1.trans z2) q2_z
    · have ek := znI_inj es' es (by omega) (by omega)
      rw [ek] at q3_z
      have e3_z : σ.1 49 k_z = nI (L_z k_z) := (h8 k_z hk).2.2.2.1 z1
      have q3' : σ.1 49 k_z = nI l' := q3_z
      exact absurd (zlnb q3' e3_z (hl28 k_z hk).2 ei (by omega)) q4_z
    · have ek := znI_inj es' es (by omega) (by omega)
      have ej := znI_inj q5_z ei (by omega) (by omega)
      rw [ek, ej]
      refine hK2 _ ?_
      have hv : zOnly (zpt [8]) σ (zuI (zuI σ 29 (k_z * 60 + j_z) (zKp (σ.1 27 k_z) v)) 50 (k_z * 60 + j_z) (zKp f v)) := (zOnly.rf.uI rfl).uI rfl
      refine ⟨hI, n_z, m_z, k0_z, q0, g_z, b_z, N_z, M_z, L_z, zR1_fr h1 hv rfl, zR2_fr h2 hv rfl, zR3_fr h3 hv rfl, zR4_fr h4 hv rfl, zR5_fr h5 hv rfl, zR6_fr h6 hv rfl, zR7_fr h7 hv rfl, ?_, zR9_fr h9 hv rfl⟩
      intro x_z hx
      obtain ⟨s1_z, s2_z, s3_z, s4_z, s5⟩ := h8 x_z hx
      refine ⟨s1_z, s2_z, s3_z, s4_z, fun w_z hw => ?_⟩
      show upd (σ.1 50) (k_z * 60 + j_z) (zKp f v) (x_z * 60 + w_z) = upd (σ.1 29) (k_z * 60 + j_z) (zKp (σ.1 27 k_z) v) (x_z * 60 + w_z) ∧ zKp (σ.1 27 x_z) (upd (σ.1 29) (k_z * 60 + j_z) (zKp (σ.1 27 k_z) v) (x_z * 60 + w_z)) = upd (σ.1 29) (k_z * 60 + j_z) (zKp (σ.1 27 k_z) v) (x_z * 60 + w_z)
      have w2_z := s2_z.2
      have w3_z := (hl28 k_z hk).2
      by_cases c_z : x_z * 60 + w_z = k_z * 60 + j_z
      · have ex_z : x_z = k_z := by omega
        rw [c_z, pk_us, pk_us, z2, ex_z, z2]
        exact ⟨rfl, zKp_id f v⟩
      · rw [pk_un c_z, pk_un c_z]
        exact s5 w_z hw
