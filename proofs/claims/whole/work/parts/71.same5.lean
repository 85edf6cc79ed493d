theorem zge_I {x : Int32} {l k : Nat} (h : x = nI l) (h' : x = nI k) (hk : k ≤ 60) : k ≤ l := by
  refine Nat.not_lt.mp (fun q_z => ?_)
  have := znI_inj h h' (by omega) (by omega)
  omega
theorem zAr_congr {n : Nat} {X Y X' Y' : Nat → Int32} (h : ∀ j, j < n → X j = X' j ∧ Y j = Y' j) : ∀ i, i ≤ n → zAr n X Y i = zAr n X' Y' i := by
  intro i_z
  induction i_z with
  | zero => intro _; rfl
  | succ i_z ih_z =>
    intro hi_z
    have hx := zNx_lt (show i_z < n by omega)
    unfold zAr
    rw [ih_z (by omega)]
    unfold zTu
    rw [(h i_z (by omega)).1, (h i_z (by omega)).2, (h _ hx).1, (h _ hx).2]
theorem zShp_congr {n : Nat} {I I' : Nat → Int32} (h : ∀ j, j < 2 * n → I j = I' j) : zShp I n ↔ zShp I' n := by
  have e_z := zAr_congr (n := n) (X := fun j_z => I (2 * j_z)) (Y := fun j_z => I (2 * j_z + 1)) (X' := fun j_z => I' (2 * j_z)) (Y' := fun j_z => I' (2 * j_z + 1)) (fun j_z hj => ⟨h _ (by omega), h _ (by omega)⟩) n (Nat.le_refl n)
  unfold zShp
  rw [e_z]
  constructor
  · rintro ⟨a_z, b_z⟩; exact ⟨fun i_z hi_z => by rw [← h i_z hi_z]; exact a_z i_z hi_z, b_z⟩
  · rintro ⟨a_z, b_z⟩; exact ⟨fun i_z hi_z => by rw [h i_z hi_z]; exact a_z i_z hi_z, b_z⟩
theorem zsh23 {n j : Nat} (h : ¬ j < n) : zfSh n 2 j = false ∧ zfSh n 3 j = false ∧ zfShM n 31 j = false ∧ zfShM n 32 j = false := by
  have e_z := zblt_f h
  refine ⟨?_, ?_, ?_, ?_⟩
  · show (((false || (true && Nat.blt j n)) || false) || false) = false; rw [e_z]; rfl
  · show (((false || (true && Nat.blt j n)) || false) || false) = false; rw [e_z]; rfl
  · show (((false || (true && Nat.blt j n)) || false) || false) = false; rw [e_z]; rfl
  · show (((false || (true && Nat.blt j n)) || false) || false) = false; rw [e_z]; rfl
theorem zSh_s {n a j : Nat} (h : zpt [1, 2, 4] a j = false) : zfSh n a j = false ∧ zfShM n a j = false := by
  have t_z : ∀ c_z, a = c_z → (zpt [1, 2, 4] c_z j = true) → False := fun c_z e_z q_z => by rw [e_z] at h; rw [h] at q_z; exact absurd q_z (by decide)
  have t2_z : ∀ c_z i_z, a = c_z → j = i_z → (zpt [1, 2, 4] c_z i_z = true) → False := fun c_z i_z e_z e2_z q_z => by rw [e_z, e2_z] at h; rw [h] at q_z; exact absurd q_z (by decide)
  refine ⟨?_, ?_⟩
  · cases y_z : zfSh n a j
    · rfl
    · exfalso
      unfold zfSh at y_z
      rw [Bool.or_eq_true, Bool.or_eq_true, Bool.or_eq_true, Bool.and_eq_true, Bool.and_eq_true, Bool.and_eq_true, Bool.and_eq_true, Bool.or_eq_true] at y_z
      rcases y_z with ((⟨y_z, _⟩ | ⟨y_z | y_z, _⟩) | ⟨y_z, _⟩) | ⟨y_z, _⟩
      · exact t_z 1 (Nat.eq_of_beq_eq_true y_z) rfl
      · exact t_z 2 (Nat.eq_of_beq_eq_true y_z) rfl
      · exact t_z 3 (Nat.eq_of_beq_eq_true y_z) rfl
      · exact t_z 4 (Nat.eq_of_beq_eq_true y_z) rfl
      · exact t_z 14 (Nat.eq_of_beq_eq_true y_z) rfl
  · cases y_z : zfShM n a j
    · rfl
    · exfalso
      unfold zfShM at y_z
      rw [Bool.or_eq_true, Bool.or_eq_true, Bool.or_eq_true, Bool.and_eq_true, Bool.and_eq_true, Bool.or_eq_true, Bool.or_eq_true, Bool.or_eq_true] at y_z
      rcases y_z with ((⟨y_z, (z_z | z_z) | z_z⟩ | ⟨y_z | y_z, _⟩) | y_z) | y_z
      · exact t2_z 30 0 (Nat.eq_of_beq_eq_true y_z) (Nat.eq_of_beq_eq_true z_z) rfl
      · exact t2_z 30 5 (Nat.eq_of_beq_eq_true y_z) (Nat.eq_of_beq_eq_true z_z) rfl
      · exact t2_z 30 18 (Nat.eq_of_beq_eq_true y_z) (Nat.eq_of_beq_eq_true z_z) rfl
      · exact t_z 31 (Nat.eq_of_beq_eq_true y_z) rfl
      · exact t_z 32 (Nat.eq_of_beq_eq_true y_z) rfl
      · exact t_z 33 (Nat.eq_of_beq_eq_true y_z) rfl
      · exact t_z 34 (Nat.eq_of_beq_eq_true y_z) rfl
set_option maxHeartbeats 4000000 in
theorem L_copy {σ : zSt} {K : Option Value → zSt → Prop} {s i t j c : Int32} (hR : zRel σ) (hK : ∀ (r : Int32) τ, zQI (kR 0 52) τ.2.2 → zAns mX9_copy [.ref 30, .int s, .int i, .int t, .int j, .int c] (.int r) τ → K (some (.int r)) τ) : zSp 7 mX8_copy [.ref 0, .int s, .int i, .int t, .int j, .int c] σ K := by
  obtain ⟨hI, n_z, m_z, k0_z, q0, g_z, b_z, N_z, M_z, L_z, h1, h2, h3, h4, h5, h6, h7, h8, h9⟩ := id hR
  obtain ⟨⟨a1_z, a2, a3, a4⟩, ⟨a5, a6⟩, a7, ⟨a8, a9, a10⟩, a11⟩ := id h1
  obtain ⟨⟨b1, b2, b3⟩, ⟨b4, b5⟩, b6, b7⟩ := id h2
  obtain ⟨c1_z, c2_z⟩ := id h3
  obtain ⟨⟨d1_z, d2_z, d3_z⟩, ⟨d4_z, d5_z, d6_z⟩, d7_z, d8_z, d9_z⟩ := id h4
  obtain ⟨⟨e1_z, e2_z, e3_z⟩, ⟨e4_z, e5_z⟩, e6_z⟩ := id h5
  obtain ⟨⟨f1_z, f2_z, f3_z⟩, f4_z⟩ := id h6
  obtain ⟨⟨g1, g2, g3_z⟩, ⟨g4, g5_z, g6⟩, g7, g8⟩ := id h7
  have hC : zQI (kR 0 30) σ.2.2 := zR_of hI rfl rfl
  have hM_z : zQI (kR 30 52) σ.2.2 := zR_of hI rfl rfl
  have hLC : ∀ k_z, k_z < 4 → ∃ l, σ.1 28 k_z = nI l ∧ l ≤ 60 := fun k_z hk => ⟨L_z k_z, (h8 k_z hk).2.1⟩
  have sg : ∀ k_z, k_z < 4 → (0 ≤ σ.1 48 k_z ↔ ¬ σ.1 27 k_z = -1) := fun k_z hk => by
    obtain ⟨⟨s1_z, s2_z⟩, _⟩ := h8 k_z hk
    rw [s1_z]
    constructor
    · intro q_z q2_z; rw [q2_z] at q_z; exact absurd q_z (by decide)
    · intro q_z
      rcases s2_z with s2_z | s2_z
      · exact absurd s2_z q_z
      · unfold zBt at s2_z; rw [zle, zT_lits.1]; exact s2_z.1
  have hLM : ∀ k_z, k_z < 4 → 0 ≤ σ.1 48 k_z → ∃ l, σ.1 49 k_z = nI l ∧ l ≤ 60 := fun k_z hk q_z => ⟨L_z k_z, (h8 k_z hk).2.2.2.1 ((sg k_z hk).mp q_z), (h8 k_z hk).2.1.2⟩
  have hl28 : ∀ k_z, k_z < 4 → σ.1 28 k_z = nI (L_z k_z) ∧ L_z k_z ≤ 60 := fun k_z hk => (h8 k_z hk).2.1
  have hl49 : ∀ k_z, k_z < 4 → 0 ≤ σ.1 48 k_z → σ.1 49 k_z = nI (L_z k_z) := fun k_z hk q_z => (h8 k_z hk).2.2.2.1 ((sg k_z hk).mp q_z)
  refine copy_C hC hLC (fun y_z => ?_) (fun x_z y_z es hx et hy z_z => ?_) (fun x_z y_z es hx et hy z1 z2 z3 => ?_) (fun x_z y_z la lb es hx et hy z1 z2 z3 hla hlb z4 => ?_) (fun τ x_z y_z la lb i0_z j0 c0_z es hx et hy z1 z2 z3 hla hla60 hlb hlb60 ei ej ec hic hjc ht hit_z => ?_)
  · exact hK _ σ hI (fun K2 hK2 => copy_M hM_z hLM (fun _ => hK2 σ hR) (fun x_z z_z es hx et hz _ => absurd ⟨zBt_nI es hx (by omega), zBt_nI et hz (by omega)⟩ y_z) (fun x_z z_z es hx et hz _ => absurd ⟨zBt_nI es hx (by omega), zBt_nI et hz (by omega)⟩ y_z) (fun x_z z_z la lb es hx et hz _ => absurd ⟨zBt_nI es hx (by omega), zBt_nI et hz (by omega)⟩ y_z) (fun υ x_z z_z la lb i0_z j0 c0_z es hx et hz _ => absurd ⟨zBt_nI es hx (by omega), zBt_nI et hz (by omega)⟩ y_z))
  · have hv : zBt 0 3 s ∧ zBt 0 3 t := ⟨zBt_nI es hx (by omega), zBt_nI et hy (by omega)⟩
    have no_z : ∀ x' y', s = nI x' → x' < 4 → t = nI y' → y' < 4 → 0 ≤ σ.1 48 x' → 0 ≤ σ.1 48 y' → False := fun x' y' es' hx' et' hy' q1_z q2_z => by
      rw [znI_inj es' es (by omega) (by omega)] at q1_z
      rw [znI_inj et' et (by omega) (by omega)] at q2_z
      rcases z_z with z_z | z_z
      · exact (sg x_z hx).mp q1_z z_z
      · exact (sg y_z hy).mp q2_z z_z
    exact hK _ _ hI (fun K2 hK2 => copy_M (σ := zuI σ 26 3 1) hM_z hLM (fun q_z => absurd hv q_z) (fun _ _ _ _ _ _ _ => hK2 _ (zRel_find hR)) (fun x' y' es' hx' et' hy' q1_z q2_z => (no_z x' y' es' hx' et' hy' q1_z q2_z).elim) (fun x' y' la lb es' hx' et' hy' q1_z q2_z => (no_z x' y' es' hx' et' hy' q1_z q2_z).elim) (fun υ x' y' la lb i0_z j0 c0_z es' hx' et' hy' q1_z q2_z => (no_z x' y' es' hx' et' hy' q1_z q2_z).elim))
  · have hv : zBt 0 3 s ∧ zBt 0 3 t := ⟨zBt_nI es hx (by omega), zBt_nI et hy (by omega)⟩
    have ne_z : ∀ x' y', s = nI x' → x' < 4 → t = nI y' → y' < 4 → σ.1 48 x' = σ.1 48 y' → False := fun x' y' es' hx' et' hy' q_z => by
      rw [znI_inj es' es (by omega) (by omega), znI_inj et' et (by omega) (by omega)] at q_z
      exact z3 ((h8 x_z hx).1.1.symm.trans (q_z.trans (h8 y_z hy).1.1))
    refine hK _ _ hI (fun K2 hK2 => copy_M (σ := zuI σ 26 3 4) hM_z hLM (fun q_z => absurd hv q_z) (fun x' y' es' hx' et' hy' q_z => ?_) (fun _ _ _ _ _ _ _ _ _ => hK2 _ (zRel_find hR)) (fun x' y' la lb es' hx' et' hy' _ _ q_z => (ne_z x' y' es' hx' et' hy' q_z).elim) (fun υ x' y' la lb i0_z j0 c0_z es' hx' et' hy' _ _ q_z => (ne_z x' y' es' hx' et' hy' q_z).elim))
    rw [znI_inj es' es (by omega) (by omega), znI_inj et' et (by omega) (by omega)] at q_z
    rcases q_z with q_z | q_z
    · exact absurd ((sg x_z hx).mpr z1) q_z
    · exact absurd ((sg y_z hy).mpr z2) q_z
  · have hv : zBt 0 3 s ∧ zBt 0 3 t := ⟨zBt_nI es hx (by omega), zBt_nI et hy (by omega)⟩
    have b1' := zge_I hla (hl28 x_z hx).1 (hl28 x_z hx).2
    have b2' := zge_I hlb (hl28 y_z hy).1 (hl28 y_z hy).2
    refine hK _ _ hI (fun K2 hK2 => copy_M (σ := zuI σ 26 3 2) hM_z hLM (fun q_z => absurd hv q_z) (fun x' y' es' hx' et' hy' q_z => ?_) (fun x' y' es' hx' et' hy' _ _ q_z => ?_) (fun x' y' la lb es' hx' et' hy' _ _ _ _ _ _ => hK2 _ (zRel_find hR)) (fun υ x' y' la' lb' i0_z j0 c0_z es' hx' et' hy' q1_z q2_z q3_z q4_z q5_z q6_z q7_z ei ej ec q8_z q9_z _ _ => ?_))
    · rw [znI_inj es' es (by omega) (by omega), znI_inj et' et (by omega) (by omega)] at q_z
      rcases q_z with q_z | q_z
      · exact absurd ((sg x_z hx).mpr z1) q_z
      · exact absurd ((sg y_z hy).mpr z2) q_z
    · rw [znI_inj es' es (by omega) (by omega), znI_inj et' et (by omega) (by omega)] at q_z
      exact absurd ((h8 x_z hx).1.1.trans (z3.trans (h8 y_z hy).1.1.symm)) q_z
    · have q4' : σ.1 49 x' = nI la' := q4_z
      have q6'_z : σ.1 49 y' = nI lb' := q6_z
      rw [znI_inj es' es (by omega) (by omega)] at q4'
      rw [znI_inj et' et (by omega) (by omega)] at q6'_z
      have r1_z := znI_inj q4' (hl49 x_z hx ((sg x_z hx).mpr z1)) (by omega) (by have := (hl28 x_z hx).2; omega)
      have r2 := znI_inj q6'_z (hl49 y_z hy ((sg y_z hy).mpr z2)) (by omega) (by have := (hl28 y_z hy).2; omega)
      refine absurd ?_ z4
      rw [ei, ej, ec, nI_toInt (by omega), nI_toInt (by omega), nI_toInt (by omega)]
      omega
  · have hv : zBt 0 3 s ∧ zBt 0 3 t := ⟨zBt_nI es hx (by omega), zBt_nI et hy (by omega)⟩
    have r1_z := znI_inj hla (hl28 x_z hx).1 (by omega) (by have := (hl28 x_z hx).2; omega)
    have r2 := znI_inj hlb (hl28 y_z hy).1 (by omega) (by have := (hl28 y_z hy).2; omega)
    have hIτ := zQI_eq hI ht.2.2
    have o48 : ∀ k_z, τ.1 48 k_z = σ.1 48 k_z := fun k_z => ht.1 48 k_z rfl
    have o49 : ∀ k_z, τ.1 49 k_z = σ.1 49 k_z := fun k_z => ht.1 49 k_z rfl
    have hLM' : ∀ k_z, k_z < 4 → 0 ≤ τ.1 48 k_z → ∃ l, τ.1 49 k_z = nI l ∧ l ≤ 60 := fun k_z hk q_z => by rw [o48] at q_z; rw [o49]; exact hLM k_z hk q_z
    refine hK _ τ hIτ (fun K2 hK2 => copy_M (zR_of hIτ rfl rfl) hLM' (fun q_z => absurd hv q_z) (fun x' y' es' hx' et' hy' q_z => ?_) (fun x' y' es' hx' et' hy' _ _ q_z => ?_) (fun x' y' la' lb' es' hx' et' hy' q1_z q2_z q3_z q4_z q5_z q6_z => ?_) (fun υ x' y' la' lb' i1_z j1 c3_z es' hx' et' hy' q1_z q2_z q3_z q4_z q5_z q6_z q7_z ei' ej' ec' q8_z q9_z hu hit' => ?_))
    · rw [znI_inj es' es (by omega) (by omega), znI_inj et' et (by omega) (by omega), o48, o48] at q_z
      rcases q_z with q_z | q_z
      · exact absurd ((sg x_z hx).mpr z1) q_z
      · exact absurd ((sg y_z hy).mpr z2) q_z
    · rw [znI_inj es' es (by omega) (by omega), znI_inj et' et (by omega) (by omega), o48, o48] at q_z
      exact absurd ((h8 x_z hx).1.1.trans (z3.trans (h8 y_z hy).1.1.symm)) q_z
    · rw [znI_inj es' es (by omega) (by omega), o49] at q4_z
      rw [znI_inj et' et (by omega) (by omega), o49] at q5_z
      have w1_z := zge_I q4_z (hl49 x_z hx ((sg x_z hx).mpr z1)) (hl28 x_z hx).2
      have w2_z := zge_I q5_z (hl49 y_z hy ((sg y_z hy).mpr z2)) (hl28 y_z hy).2
      refine absurd ?_ q6_z
      rw [ei, ej, ec, nI_toInt (by omega), nI_toInt (by omega), nI_toInt (by omega)]
      omega
    · have e1' := znI_inj es' es (by omega) (by omega)
      have e2' := znI_inj et' et (by omega) (by omega)
      have e3' := znI_inj ei' ei (by omega) (by omega)
      have e4' := znI_inj ej' ej (by omega) (by omega)
      have e5' := znI_inj ec' ec (by omega) (by omega)
      subst e1'
      subst e2'
      subst e3'
      subst e4'
      subst e5'
      refine hK2 υ ?_
      have hw : zOnly (zpt [8]) σ υ := (ht.wk (fun a_z j w_z => (zCp_s w_z).1)).tr (hu.wk (fun a_z j w_z => (zCp_s w_z).2))
      refine ⟨zQI_eq hI hw.2.2, n_z, m_z, k0_z, q0, g_z, b_z, N_z, M_z, L_z, zR1_fr h1 hw rfl, zR2_fr h2 hw rfl, zR3_fr h3 hw rfl, zR4_fr h4 hw rfl, zR5_fr h5 hw rfl, zR6_fr h6 hw rfl, zR7_fr h7 hw rfl, ?_, zR9_fr h9 hw rfl⟩
      intro k_z hk
      obtain ⟨s1_z, s2_z, s3_z, s4_z, s5⟩ := h8 k_z hk
      have p27 : ∀ k_z, υ.1 27 k_z = σ.1 27 k_z := fun k_z => (hu.1 27 k_z rfl).trans (ht.1 27 k_z rfl)
      have p28 : υ.1 28 k_z = σ.1 28 k_z := (hu.1 28 k_z rfl).trans (ht.1 28 k_z rfl)
      have p48_z : υ.1 48 k_z = σ.1 48 k_z := (hu.1 48 k_z rfl).trans (ht.1 48 k_z rfl)
      have p49 : υ.1 49 k_z = σ.1 49 k_z := (hu.1 49 k_z rfl).trans (ht.1 49 k_z rfl)
      rw [p27, p28, p48_z, p49]
      refine ⟨s1_z, s2_z, s3_z, s4_z, fun w_z hw2 => ?_⟩
      have p29_z : υ.1 29 (k_z * 60 + w_z) = τ.1 29 (k_z * 60 + w_z) := hu.1 29 _ rfl
      rw [p29_z]
      have hk60 := s2_z.2
      by_cases c : k_z * 60 + w_z < y' * 60 + j1 ∨ y' * 60 + j1 + c3_z ≤ k_z * 60 + w_z
      · have f1_z : zfCp (y' * 60 + j1) c3_z 29 (k_z * 60 + w_z) = false := zrng_f c
        have f2_z : zfCpM (y' * 60 + j1) c3_z 50 (k_z * 60 + w_z) = false := by
          show ((Nat.ble (y' * 60 + j1) (k_z * 60 + w_z) && Nat.blt (k_z * 60 + w_z) (y' * 60 + j1 + c3_z)) || false) = false
          rw [zrng_f c]; rfl
        rw [hu.1 50 _ f2_z, ht.1 50 _ rfl, ht.1 29 _ f1_z]
        exact s5 w_z hw2
      · have ek : k_z = y' := by omega
        obtain ⟨q_z, hq⟩ : ∃ q_z, w_z = j1 + q_z := ⟨w_z - j1, by omega⟩
        have hqc : q_z < c3_z := by omega
        obtain ⟨v1_z, v2⟩ := (h8 x' hx').2.2.2.2 (i1_z + q_z) (by omega)
        rw [ek, hq, hit' q_z hqc, hit_z q_z hqc, ht.1 50 _ rfl, v1_z, ← z3, v2]
        exact ⟨rfl, v2⟩
set_option maxHeartbeats 4000000 in
theorem L_shape {σ : zSt} {K : Option Value → zSt → Prop} {s c : Int32} (hR : zRel σ) (hK : ∀ (r : Int32) τ, zQI (kR 0 52) τ.2.2 → zAns mX9_shape [.ref 30, .int s, .int c] (.int r) τ → K (some (.int r)) τ) : zSp 7 mX8_shape [.ref 0, .int s, .int c] σ K := by
  obtain ⟨hI, n_z, m_z, k0_z, q0, g_z, b_z, N_z, M_z, L_z, h1, h2, h3, h4, h5, h6, h7, h8, h9⟩ := id hR
  obtain ⟨⟨a1_z, a2, a3, a4⟩, ⟨a5, a6⟩, a7, ⟨a8, a9, a10⟩, a11⟩ := id h1
  obtain ⟨⟨b1, b2, b3⟩, ⟨b4, b5⟩, b6, b7⟩ := id h2
  obtain ⟨c1_z, c2_z⟩ := id h3
  obtain ⟨⟨d1_z, d2_z, d3_z⟩, ⟨d4_z, d5_z, d6_z⟩, d7_z, d8_z, d9_z⟩ := id h4
  obtain ⟨⟨e1_z, e2_z, e3_z⟩, ⟨e4_z, e5_z⟩, e6_z⟩ := id h5
  obtain ⟨⟨f1_z, f2_z, f3_z⟩, f4_z⟩ := id h6
  obtain ⟨⟨g1, g2, g3_z⟩, ⟨g4, g5_z, g6⟩, g7, g8⟩ := id h7
  have hC : zQI (kR 0 30) σ.2.2 := zR_of hI rfl rfl
  have hM_z : zQI (kR 30 52) σ.2.2 := zR_of hI rfl rfl
  have hLC : ∀ k_z, k_z < 4 → ∃ l, σ.1 28 k_z = nI l ∧ l ≤ 60 := fun k_z hk => ⟨L_z k_z, (h8 k_z hk).2.1⟩
  have sg : ∀ k_z, k_z < 4 → (0 ≤ σ.1 48 k_z ↔ ¬ σ.1 27 k_z = -1) := fun k_z hk => by
    obtain ⟨⟨s1_z, s2_z⟩, _⟩ := h8 k_z hk
    rw [s1_z]
    constructor
    · intro q_z q2_z; rw [q2_z] at q_z; exact absurd q_z (by decide)
    · intro q_z
      rcases s2_z with s2_z | s2_z
      · exact absurd s2_z q_z
      · unfold zBt at s2_z; rw [zle, zT_lits.1]; exact s2_z.1
  have hLM : ∀ k_z, k_z < 4 → 0 ≤ σ.1 48 k_z → ∃ l, σ.1 49 k_z = nI l ∧ l ≤ 60 := fun k_z hk q_z => ⟨L_z k_z, (h8 k_z hk).2.2.2.1 ((sg k_z hk).mp q_z), (h8 k_z hk).2.1.2⟩
  have hl28 : ∀ k_z, k_z < 4 → σ.1 28 k_z = nI (L_z k_z) ∧ L_z k_z ≤ 60 := fun k_z hk => (h8 k_z hk).2.1
  have hl49 : ∀ k_z, k_z < 4 → 0 ≤ σ.1 48 k_z → σ.1 49 k_z = nI (L_z k_z) := fun k_z hk q_z => (h8 k_z hk).2.2.2.1 ((sg k_z hk).mp q_z)
  have hv0 : ∀ k_z n', s = nI k_z → k_z < 4 → c = nI n' → (3 ≤ n' ∧ n' ≤ 10) → zBt 0 3 s ∧ zBt 3 10 c := fun k_z n' es hk ec hn' => ⟨zBt_nI es hk (by omega), by unfold zBt; rw [ec, nI_toInt (by omega)]; omega⟩
  refine shape_C2 hC hLC (fun y_z => ?_) (fun k_z n' es hk ec hn' z_z => ?_) (fun k_z n' l es hk ec hn' z1 hl hl60 z2 => ?_) (fun k_z n' l es hk ec hn' z1 hl hl60 z2 z3 => ?_) (fun τ k_z n' l es hk ec hn' z1 hl hl60 z2 z3 ht t0_z t1_z t2_z t3_z t4_z t5_z t6 => ?_)
  · exact hK _ σ hI (fun K2 hK2 => shape_M2 hM_z hLM (fun _ => hK2 σ hR) (fun k_z n' es hk ec hn' => absurd (hv0 k_z n' es hk ec hn') y_z) (fun k_z n' l es hk ec hn' => absurd (hv0 k_z n' es hk ec hn') y_z) (fun υ k_z n' l es hk ec hn' => absurd (hv0 k_z n' es hk ec hn') y_z) (fun υ k_z n' l es hk ec hn' => absurd (hv0 k_z n' es hk ec hn') y_z))
  · have no_z : ∀ k', s = nI k' → k' < 4 → 0 ≤ σ.1 48 k' → False := fun k' es' hk' q_z => by
      rw [znI_inj es' es (by omega) (by omega)] at q_z
      exact (sg k_z hk).mp q_z z_z
    exact hK _ _ hI (fun K2 hK2 => shape_M2 (σ := zuI σ 26 3 1) hM_z hLM (fun q_z => absurd (hv0 k_z n' es hk ec hn') q_z) (fun _ _ _ _ _ _ _ => hK2 _ (zRel_find hR)) (fun k' n' l es' hk' _ _ q_z => (no_z k' es' hk' q_z).elim) (fun υ k' n' l es' hk' _ _ q_z => (no_z k' es' hk' q_z).elim) (fun υ k' n' l es' hk' _ _ q_z => (no_z k' es' hk' q_z).elim))
  · have no_z : ∀ k' n2_z l', s = nI k' → k' < 4 → c = nI n2_z → (3 ≤ n2_z ∧ n2_z ≤ 10) → σ.1 49 k' = nI l' → l' ≤ 60 → 2 * n2_z ≤ l' → False := fun k' n2_z l' es' hk' ec' hn2 q_z q3_z q2_z => by
      rw [znI_inj es' es (by omega) (by omega)] at q_z
      have e1_z := znI_inj q_z (hl49 k_z hk ((sg k_z hk).mpr z1)) (by omega) (by have := (hl28 k_z hk).2; omega)
      have e2_z := znI_inj ec' ec (by omega) (by omega)
      have e3_z := znI_inj hl (hl28 k_z hk).1 (by omega) (by have := (hl28 k_z hk).2; omega)
      omega
    refine hK _ _ hI (fun K2 hK2 => shape_M2 (σ := zuI σ 26 3 2) hM_z hLM (fun q_z => absurd (hv0 k_z n' es hk ec hn') q_z) (fun k' n2_z es' hk' _ _ q_z => ?_) (fun _ _ _ _ _ _ _ _ _ _ _ => hK2 _ (zRel_find hR)) (fun υ k' n2_z l' es' hk' ec' hn2 q1_z q2_z q3_z q4_z => (no_z k' n2_z l' es' hk' ec' hn2 q2_z q3_z q4_z).elim) (fun υ k' n2_z l' es' hk' ec' hn2 q1_z q2_z q3_z q4_z => (no_z k' n2_z l' es' hk' ec' hn2 q2_z q3_z q4_z).elim))
    rw [znI_inj es' es (by omega) (by omega)] at q_z
    exact absurd ((sg k_z hk).mpr z1) q_z
  · have eL := znI_inj hl (hl28 k_z hk).1 (by omega) (by have := (hl28 k_z hk).2; omega)
    refine hK _ _ hI (fun K2 hK2 => shape_M2 hM_z hLM (fun q_z => absurd (hv0 k_z n' es hk ec hn') q_z) (fun k' n2_z es' hk' _ _ q_z => ?_) (fun k' n2_z l' es' hk' ec' hn2 q1_z q2_z q3_z q4_z => ?_) (fun υ k' n2_z l' es' hk' ec' hn2 q1_z q2_z q3_z q4_z hu q5_z => hK2 υ (zRel_q hR (hu.wk zf34_s))) (fun υ k' n2_z l' es' hk' ec' hn2 q1_z q2_z q3_z q4_z q5_z => ?_))
    · rw [znI_inj es' es (by omega) (by omega)] at q_z
      exact absurd ((sg k_z hk).mpr z1) q_z
    · rw [znI_inj es' es (by omega) (by omega)] at q2_z
      have e1_z := znI_inj q2_z (hl49 k_z hk ((sg k_z hk).mpr z1)) (by omega) (by have := (hl28 k_z hk).2; omega)
      have e2_z := znI_inj ec' ec (by omega) (by omega)
      omega
    · have e1_z := znI_inj es' es (by omega) (by omega)
      have e2_z := znI_inj ec' ec (by omega) (by omega)
      rw [e1_z, e2_z] at q5_z
      exact absurd ((zShp_congr (fun j_z hj => ((h8 k_z hk).2.2.2.2 j_z (by omega)).1)).mp q5_z) z3
  · have eL := znI_inj hl (hl28 k_z hk).1 (by omega) (by have := (hl28 k_z hk).2; omega)
    have hIτ := zQI_eq hI ht.2.2
    have o48 : ∀ k_z, τ.1 48 k_z = σ.1 48 k_z := fun k_z => ht.1 48 k_z rfl
    have o49 : ∀ k_z, τ.1 49 k_z = σ.1 49 k_z := fun k_z => ht.1 49 k_z rfl
    have o50 : ∀ k_z, τ.1 50 k_z = σ.1 50 k_z := fun k_z => ht.1 50 k_z rfl
    have hit_z : ∀ j_z, j_z < 2 * n' → σ.1 50 (k_z * 60 + j_z) = σ.1 29 (k_z * 60 + j_z) := fun j_z hj => ((h8 k_z hk).2.2.2.2 j_z (by omega)).1
    have hLM' : ∀ k_z, k_z < 4 → 0 ≤ τ.1 48 k_z → ∃ l, τ.1 49 k_z = nI l ∧ l ≤ 60 := fun k_z hk q_z => by rw [o48] at q_z; rw [o49]; exact hLM k_z hk q_z
    refine hK _ τ hIτ (fun K2 hK2 => shape_M2 (zR_of hIτ rfl rfl) hLM' (fun q_z => absurd (hv0 k_z n' es hk ec hn') q_z) (fun k' n2_z es' hk' _ _ q_z => ?_) (fun k' n2_z l' es' hk' ec' hn2 q1_z q2_z q3_z q4_z => ?_) (fun υ k' n2_z l' es' hk' ec' hn2 q1_z q2_z q3_z q4_z hu q5_z => ?_) (fun υ k' n2_z l' es' hk' ec' hn2 q1_z q2_z q3_z q4_z q5_z hu u0 u1_z u5 u6 => ?_))
    · rw [znI_inj es' es (by omega) (by omega), o48] at q_z
      exact absurd ((sg k_z hk).mpr z1) q_z
    · rw [znI_inj es' es (by omega) (by omega), o49] at q2_z
      have e1_z := znI_inj q2_z (hl49 k_z hk ((sg k_z hk).mpr z1)) (by omega) (by have := (hl28 k_z hk).2; omega)
      have e2_z := znI_inj ec' ec (by omega) (by omega)
      omega
    · have e1_z := znI_inj es' es (by omega) (by omega)
      have e2_z := znI_inj ec' ec (by omega) (by omega)
      rw [e1_z, e2_z] at q5_z
      refine absurd ((zShp_congr (fun j_z hj => ?_)).mpr z3) q5_z
      rw [o50]; exact hit_z j_z hj
    · have e1_z := znI_inj es' es (by omega) (by omega)
      have e2_z := znI_inj ec' ec (by omega) (by omega)
      subst e1_z
      subst e2_z
      have hx : ∀ j_z, j_z < n2_z → υ.1 31 j_z = τ.1 2 j_z ∧ υ.1 32 j_z = τ.1 3 j_z := fun j_z hj => by
        rw [(u1_z j_z hj).1, (u1_z j_z hj).2, (t1_z j_z hj).1, (t1_z j_z hj).2, o50, o50, hit_z _ (by omega), hit_z _ (by omega)]
        exact ⟨rfl, rfl⟩
      have ear : zAr n2_z (fun j_z => τ.1 50 (k' * 60 + 2 * j_z)) (fun j_z => τ.1 50 (k' * 60 + (2 * j_z + 1))) n2_z = τ.1 1 3 := by
        rw [t2_z]
        refine zAr_congr (fun j_z hj => ?_) n2_z (Nat.le_refl n2_z)
        rw [(t1_z j_z hj).1, (t1_z j_z hj).2, o50, o50, hit_z _ (by omega), hit_z _ (by omega)]
        exact ⟨rfl, rfl⟩
      rw [ear]
      refine hK2 υ ?_
      have hw : zOnly (zpt [1, 2, 4]) σ υ := (ht.wk (fun a_z j_z w_z => (zSh_s w_z).1)).tr (hu.wk (fun a_z j_z w_z => (zSh_s w_z).2))
      have v2 : υ.1 2 = τ.1 2 := funext fun j_z => hu.1 2 j_z rfl
      have v3 : υ.1 3 = τ.1 3 := funext fun j_z => hu.1 3 j_z rfl
      have v5 : υ.1 5 = σ.1 5 := funext fun j_z => (hu.1 5 j_z rfl).trans (ht.1 5 j_z rfl)
      have v6 : υ.1 6 = σ.1 6 := funext fun j_z => (hu.1 6 j_z rfl).trans (ht.1 6 j_z rfl)
      have v15 : υ.1 15 = σ.1 15 := funext fun j_z => (hu.1 15 j_z rfl).trans (ht.1 15 j_z rfl)
      have v16 : υ.1 16 = σ.1 16 := funext fun j_z => (hu.1 16 j_z rfl).trans (ht.1 16 j_z rfl)
      have v17 : υ.1 17 = σ.1 17 := funext fun j_z => (hu.1 17 j_z rfl).trans (ht.1 17 j_z rfl)
      refine ⟨zQI_eq hI hw.2.2, n2_z, 0, 0, q0, g_z, b_z, N_z, M_z, L_z, ?_, ?_, zR3_fr h3 hw rfl, ?_, zR5_fr h5 hw rfl, zR6_fr h6 hw rfl, zR7_fr h7 hw rfl, zR8_fr h8 hw rfl, zR9_fr h9 hw rfl⟩
      · refine ⟨⟨(hu.1 1 2 rfl).trans t0_z, u0, hn'⟩, ⟨funext fun j_z => ?_, funext fun j_z => ?_⟩, fun j_z hj => ?_, ⟨?_, ?_, ?_⟩, ?_⟩
        · rw [v2]
          by_cases w_z : j_z < n2_z
          · exact (hx j_z w_z).1
          · rw [hu.1 31 j_z (zsh23 w_z).2.2.1, ht.1 31 j_z rfl, a5, ht.1 2 j_z (zsh23 w_z).1]
        · rw [v3]
          by_cases w_z : j_z < n2_z
          · exact (hx j_z w_z).2
          · rw [hu.1 32 j_z (zsh23 w_z).2.2.2, ht.1 32 j_z rfl, a6, ht.1 3 j_z (zsh23 w_z).2.1]
        · rw [v2, v3, (t1_z j_z hj).1, (t1_z j_z hj).2]
          exact ⟨z3.1 _ (by omega), z3.1 _ (by omega)⟩
        · rw [v2, v3, ← t2_z]; exact hu.1 1 3 rfl
        · rw [v2, v3, ← t3_z]; exact hu.1 1 4 rfl
        · rw [v2, v3, ← t4_z]; exact hu.1 1 5 rfl
        · have hz := z3.2
          rw [zlt, zT_lits.1] at hz
          rw [v2, v3, zAr_congr (fun j_z hj => t1_z j_z hj) n2_z (Nat.le_refl n2_z)]
          exact hz
      · exact ⟨⟨(hu.1 4 2 rfl).trans t5_z, u5, by decide⟩, ⟨by rw [v5]; exact (funext fun j_z => (hu.1 35 j_z rfl).trans (ht.1 35 j_z rfl)).trans b4, by rw [v6]; exact (funext fun j_z => (hu.1 36 j_z rfl).trans (ht.1 36 j_z rfl)).trans b5⟩, fun i_z hi_z => absurd hi_z (Nat.not_lt_zero i_z), fun i_z hi_z => absurd hi_z (Nat.not_lt_zero i_z)⟩
      · exact ⟨⟨(hu.1 14 3 rfl).trans t6, u6, by decide⟩, ⟨by rw [v15]; exact (funext fun j_z => (hu.1 40 j_z rfl).trans (ht.1 40 j_z rfl)).trans d4_z, by rw [v16]; exact (funext fun j_z => (hu.1 41 j_z rfl).trans (ht.1 41 j_z rfl)).trans d5_z, by rw [v17]; exact (funext fun j_z => (hu.1 42 j_z rfl).trans (ht.1 42 j_z rfl)).trans d6_z⟩, fun i_z hi_z => absurd hi_z (Nat.not_lt_zero i_z), fun i_z hi_z => absurd hi_z (Nat.not_lt_zero i_z), fun i_z hi_z => absurd hi_z (Nat.not_lt_zero i_z)⟩
set_option maxHeartbeats 4000000 in
theorem L_count {σ : zSt} {K : Option Value → zSt → Prop} {w : Int32} (hR : zRel σ) (hK : ∀ (r : Int32) τ, zQI (kR 0 52) τ.2.2 → zAns mX9_count [.ref 30, .int w] (.int r) τ → K (some (.int r)) τ) : zSp 7 mX8_count [.ref 0, .int w] σ K := by
  obtain ⟨hI, n_z, m_z, k0_z, q0, g_z, b_z, N_z, M_z, L_z, h1, h2, h3, h4, h5, h6, h7, h8, h9⟩ := id hR
  obtain ⟨⟨a1_z, a2, a3, a4⟩, ⟨a5, a6⟩, a7, ⟨a8, a9, a10⟩, a11⟩ := id h1
  obtain ⟨⟨b1, b2, b3⟩, ⟨b4, b5⟩, b6, b7⟩ := id h2
  obtain ⟨c1_z, c2_z⟩ := id h3
  obtain ⟨⟨d1_z, d2_z, d3_z⟩, ⟨d4_z, d5_z, d6_z⟩, d7_z, d8_z, d9_z⟩ := id h4
  obtain ⟨⟨e1_z, e2_z, e3_z⟩, ⟨e4_z, e5_z⟩, e6_z⟩ := id h5
  obtain ⟨⟨f1_z, f2_z, f3_z⟩, f4_z⟩ := id h6
  obtain ⟨⟨g1, g2, g3_z⟩, ⟨g4, g5_z, g6⟩, g7, g8⟩ := id h7
  have hC : zQI (kR 0 30) σ.2.2 := zR_of hI rfl rfl
  have hM_z : zQI (kR 30 52) σ.2.2 := zR_of hI rfl rfl
  have hp4 := z2n12 g3_z
  have ht : zOnly (zpt []) σ σ := zOnly.rf
  have hIσ := zQI_eq hI ht.2.2
  have hM_zσ : zQI (kR 30 52) σ.2.2 := zR_of hIσ rfl rfl
  have i0_z : σ.1 30 0 = nI n_z := (ht.1 30 0 rfl).trans a2
  have i31 : σ.1 31 = σ.1 2 := (funext fun j_z => ht.1 31 j_z rfl).trans a5
  have i32 : σ.1 32 = σ.1 3 := (funext fun j_z => ht.1 32 j_z rfl).trans a6
  have i8_z : σ.1 30 8 = σ.1 0 9 := (ht.1 30 8 rfl).trans c1_z
  have i5_z : σ.1 30 5 = nI m_z := (ht.1 30 5 rfl).trans b2
  have i35 : σ.1 35 = σ.1 5 := (funext fun j_z => ht.1 35 j_z rfl).trans b4
  have i36 : σ.1 36 = σ.1 6 := (funext fun j_z => ht.1 36 j_z rfl).trans b5
  have i18 : σ.1 30 18 = nI k0_z := (ht.1 30 18 rfl).trans d2_z
  have i40 : σ.1 40 = σ.1 15 := (funext fun j_z => ht.1 40 j_z rfl).trans d4_z
  have i41 : σ.1 41 = σ.1 16 := (funext fun j_z => ht.1 41 j_z rfl).trans d5_z
  have i42 : σ.1 42 = σ.1 17 := (funext fun j_z => ht.1 42 j_z rfl).trans d6_z
  have i22 : σ.1 30 22 = nI q0 := (ht.1 30 22 rfl).trans e2_z
  have i43 : σ.1 43 = σ.1 19 := (funext fun j_z => ht.1 43 j_z rfl).trans e4_z
  have i44 : σ.1 44 = σ.1 20 := (funext fun j_z => ht.1 44 j_z rfl).trans e5_z
  have i25 : σ.1 30 25 = nI g_z := (ht.1 30 25 rfl).trans f2_z
  have i45 : σ.1 45 = σ.1 45 := funext fun j_z => ht.1 45 j_z rfl
  have i28 : σ.1 30 28 = nI b_z := (ht.1 30 28 rfl).trans g2
  have i29 : σ.1 30 29 = nI N_z := (ht.1 30 29 rfl).trans g5_z
  have i47 : σ.1 47 = σ.1 25 := (funext fun j_z => ht.1 47 j_z rfl).trans g7
  have j0 : σ.1 30 0 = σ.1 1 2 := i0_z.trans a1_z.symm
  have j5_z : σ.1 30 5 = σ.1 4 2 := i5_z.trans b1.symm
  have j18_z : σ.1 30 18 = σ.1 14 3 := i18.trans d1_z.symm
  have j22 : σ.1 30 22 = σ.1 18 2 := i22.trans e1_z.symm
  have j25 : σ.1 30 25 = σ.1 21 2 := i25.trans f1_z.symm
  have j35 : σ.1 30 35 = σ.1 26 3 := (ht.1 30 35 rfl).trans h9
  have j29 : σ.1 30 29 = σ.1 24 1 := i29.trans g4.symm
  have j28 : σ.1 30 28 = σ.1 24 2 := i28.trans g1.symm
  refine count_C hC ?_
  refine hK _ σ hI (fun K2 hK2 => count_M hM_z ⟨N_z, g5_z, by omega⟩ ?_)
  rw [j0, j5_z, i8_z, j18_z, j22, j25, j35, j29, j28]
  exact hK2 σ hR
set_option maxHeartbeats 4000000 in
theorem L_digest {σ : zSt} {K : Option Value → zSt → Prop} (hR : zRel σ) (hK : ∀ (r : Int64) τ, zQI (kR 0 52) τ.2.2 → zAns mX9_digest [.ref 30] (.long r) τ → K (some (.long r)) τ) : zSp 7 mX8_digest [.ref 0] σ K := by
  obtain ⟨hI, n_z, m_z, k0_z, q0, g_z, b_z, N_z, M_z, L_z, h1, h2, h3, h4, h5, h6, h7, h8, h9⟩ := id hR
  obtain ⟨⟨a1_z, a2, a3, a4⟩, ⟨a5, a6⟩, a7, ⟨a8, a9, a10⟩, a11⟩ := id h1
  obtain ⟨⟨b1, b2, b3⟩, ⟨b4, b5⟩, b6, b7⟩ := id h2
  obtain ⟨c1_z, c2_z⟩ := id h3
  obtain ⟨⟨d1_z, d2_z, d3_z⟩, ⟨d4_z, d5_z, d6_z⟩, d7_z, d8_z, d9_z⟩ := id h4
  obtain ⟨⟨e1_z, e2_z, e3_z⟩, ⟨e4_z, e5_z⟩, e6_z⟩ := id h5
  obtain ⟨⟨f1_z, f2_z, f3_z⟩, f4_z⟩ := id h6
  obtain ⟨⟨g1, g2, g3_z⟩, ⟨g4, g5_z, g6⟩, g7, g8⟩ := id h7
  have hC : zQI (kR 0 30) σ.2.2 := zR_of hI rfl rfl
  have hM_z : zQI (kR 30 52) σ.2.2 := zR_of hI rfl rfl
  obtain ⟨⟨s1_z, s2_z⟩, ⟨s3_z, s4_z⟩, s5, s6_z, s7⟩ := h8 0 (by decide)
  have hB_z : zHB n_z (σ.1 31) (σ.1 32) := by rw [a5, a6]; exact a7
  have hpb : ∀ j_z, j_z < q0 → zBt (-40) 40 (σ.1 43 j_z) ∧ zBt (-40) 40 (σ.1 44 j_z) := by rw [e4_z, e5_z]; exact e6_z
  have hl : (σ.1 48 0 < 0 ∧ L_z 0 = 0) ∨ (¬ σ.1 48 0 < 0 ∧ σ.1 49 0 = nI (L_z 0)) := by
    by_cases c_z : σ.1 27 0 = -1
    · exact Or.inl ⟨by rw [s1_z, c_z]; decide, s5 c_z⟩
    · refine Or.inr ⟨?_, s6_z c_z⟩
      rcases s2_z with q_z | q_z
      · exact absurd q_z c_z
      · unfold zBt at q_z; rw [s1_z, zlt, zT_lits.1]; omega
  have hF : zFp n_z (σ.1 31) (σ.1 32) (σ.1 43) (σ.1 44) (σ.1 50) (L_z 0) q0 = zFp n_z (σ.1 2) (σ.1 3) (σ.1 19) (σ.1 20) (fun j_z => σ.1 29 (0 * 60 + j_z)) (L_z 0) q0 := by
    rw [a5, a6, e4_z, e5_z]
    refine zFp_eq (fun j_z hj => ?_)
    have := (s7 j_z hj).1
    rw [Nat.zero_mul, Nat.zero_add] at this
    show σ.1 50 j_z = σ.1 29 (0 * 60 + j_z)
    rw [Nat.zero_mul, Nat.zero_add]; exact this
  obtain ⟨G_z, r1_z, r2, r3⟩ := zStk_I g8 g3_z g6
  refine digest_C hC a1_z a4 b1 b3 b6 e1_z e3_z s3_z s4_z g1 g3_z (fun τ ht => ?_)
  have hq := zRel_q hR (ht.wk zfW_s)
  have hIτ := zQI_eq hI ht.2.2
  have hM_zτ : zQI (kR 30 52) τ.2.2 := zR_of hIτ rfl rfl
  have i0_z : τ.1 30 0 = nI n_z := (ht.1 30 0 rfl).trans a2
  have i31 : τ.1 31 = σ.1 2 := (funext fun j_z => ht.1 31 j_z rfl).trans a5
  have i32 : τ.1 32 = σ.1 3 := (funext fun j_z => ht.1 32 j_z rfl).trans a6
  have i8_z : τ.1 30 8 = σ.1 0 9 := (ht.1 30 8 rfl).trans c1_z
  have i5_z : τ.1 30 5 = nI m_z := (ht.1 30 5 rfl).trans b2
  have i35 : τ.1 35 = σ.1 5 := (funext fun j_z => ht.1 35 j_z rfl).trans b4
  have i36 : τ.1 36 = σ.1 6 := (funext fun j_z => ht.1 36 j_z rfl).trans b5
  have i18 : τ.1 30 18 = nI k0_z := (ht.1 30 18 rfl).trans d2_z
  have i40 : τ.1 40 = σ.1 15 := (funext fun j_z => ht.1 40 j_z rfl).trans d4_z
  have i41 : τ.1 41 = σ.1 16 := (funext fun j_z => ht.1 41 j_z rfl).trans d5_z
  have i42 : τ.1 42 = σ.1 17 := (funext fun j_z => ht.1 42 j_z rfl).trans d6_z
  have i22 : τ.1 30 22 = nI q0 := (ht.1 30 22 rfl).trans e2_z
  have i43 : τ.1 43 = σ.1 19 := (funext fun j_z => ht.1 43 j_z rfl).trans e4_z
  have i44 : τ.1 44 = σ.1 20 := (funext fun j_z => ht.1 44 j_z rfl).trans e5_z
  have i25 : τ.1 30 25 = nI g_z := (ht.1 30 25 rfl).trans f2_z
  have i45 : τ.1 45 = σ.1 45 := funext fun j_z => ht.1 45 j_z rfl
  have i28 : τ.1 30 28 = nI b_z := (ht.1 30 28 rfl).trans g2
  have i29 : τ.1 30 29 = nI N_z := (ht.1 30 29 rfl).trans g5_z
  have i47 : τ.1 47 = σ.1 25 := (funext fun j_z => ht.1 47 j_z rfl).trans g7
  have i48 : τ.1 48 = σ.1 48 := funext fun j_z => ht.1 48 j_z rfl
  have i49 : τ.1 49 = σ.1 49 := funext fun j_z => ht.1 49 j_z rfl
  have i50 : τ.1 50 = σ.1 50 := funext fun j_z => ht.1 50 j_z rfl
  have j0 : τ.1 30 0 = σ.1 1 2 := i0_z.trans a1_z.symm
  have j5_z : τ.1 30 5 = σ.1 4 2 := i5_z.trans b1.symm
  have j18_z : τ.1 30 18 = σ.1 14 3 := i18.trans d1_z.symm
  have j22 : τ.1 30 22 = σ.1 18 2 := i22.trans e1_z.symm
  have j25 : τ.1 30 25 = σ.1 21 2 := i25.trans f1_z.symm
  have j35 : τ.1 30 35 = σ.1 26 3 := (ht.1 30 35 rfl).trans h9
  have j29 : τ.1 30 29 = σ.1 24 1 := i29.trans g4.symm
  have j28 : τ.1 30 28 = σ.1 24 2 := i28.trans g1.symm
  have hF' : zFp n_z (τ.1 31) (τ.1 32) (τ.1 43) (τ.1 44) (τ.1 50) (L_z 0) q0 = zFp n_z (σ.1 2) (σ.1 3) (σ.1 19) (σ.1 20) (fun j_z => σ.1 29 (0 * 60 + j_z)) (L_z 0) q0 := by
    rw [← hF, i31, i32, i43, i44, i50, a5, a6, e4_z, e5_z]
  refine hK _ τ hIτ (fun K2 hK2 => digest_M hM_zτ i0_z a4 (by rw [i31, i32]; exact a7) (by rw [i8_z]; exact c2_z) i5_z b3 (by rw [i35]; exact b6) (by rw [i36]; exact b7) i22 e3_z (by rw [i43, i44]; exact e6_z) (by rw [i48, i49]; exact hl) s4_z i28 g3_z (by rw [i47]; exact g8) i29 g6 (fun υ R_z hu hR2 hlt => ?_))
  rw [hF', zGr_one hR2 r2, ← r1_z, ← g4, i31, i32, i35, i36, j0, j5_z, i8_z, j18_z, j22, j25, j35, j29, j28]
  exact hK2 υ (zRel_q hq (hu.wk zfMh_s))
