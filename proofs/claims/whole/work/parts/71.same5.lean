theorem zge_I {x : Int32} {l k : Nat} (h : x = nI l) (h' : x = nI k) (hk : k ≤ 60) : k ≤ l := by
  refine Nat.not_lt.mp (fun q_z => ?_)
  have := znI_inj h h' (by omega) (by omega)
  omega
theorem zAr_congr {n : Nat} {X Y X' Y' : Nat → Int32} (h : ∀ j, j < n → X j = X' j ∧ Y j = Y' j) : ∀ i, i ≤ n → zAr n X Y i = zAr n X' Y' i := by
  intro i_z
  induction i_z with
  | zero => intro _; rfl
  | succ i_z ih_z =>
    intro hi_z
    have hx := zNx_lt (show i_z < n by omega)
    unfold zAr
    rw [ih_z (by omega)]
    unfold zTu
    rw [(h i_z (by omega)).1, (h i_z (by omega)).2, (h _ hx).1, (h _ hx).2]
theorem zShp_congr {n : Nat} {I I' : Nat → Int32} (h : ∀ j, j < 2 * n → I j = I' j) : zShp I n ↔ zShp I' n := by
  have e_z := zAr_congr (n := n) (X := fun j_z => I (2 * j_z)) (Y := fun j_z => I (2 * j_z + 1)) (X' := fun j_z => I' (2 * j_z)) (Y' := fun j_z => I' (2 * j_z + 1)) (fun j_z hj => ⟨h _ (by omega), h _ (by omega)⟩) n (Nat.le_refl n)
  unfold zShp
  rw [e_z]
  constructor
  · rintro ⟨a_z, b_z⟩; exact ⟨fun i_z hi_z => by rw [← h i_z hi_z]; exact a_z i_z hi_z, b_z⟩
  · rintro ⟨a_z, b_z⟩; exact ⟨fun i_z hi_z => by rw [h i_z hi_z]; exact a_z i_z hi_z, b_z⟩
theorem zSh_s {n a j : Nat} (h : zpt [1, 2, 4] a j = false) : zfSh n a j = false ∧ zfShM n a j = false := by
  have t_z : ∀ c_z, a = c_z → (zpt [1, 2, 4] c_z j = true) → False := fun c_z e_z q_z => by rw [e_z] at h; rw [h] at q_z; exact absurd q_z (by decide)
  have t2_z : ∀ c_z i_z, a = c_z → j = i_z → (zpt [1, 2, 4] c_z i_z = true) → False := fun c_z i_z e_z e2_z q_z => by rw [e_z, e2_z] at h; rw [h] at q_z; exact absurd q_z (by decide)
  refine ⟨?_, ?_⟩
  · cases y_z : zfSh n a j
    · rfl
    · exfalso
      unfold zfSh at y_z
      rw [Bool.or_eq_true, Bool.or_eq_true, Bool.or_eq_true, Bool.and_eq_true, Bool.and_eq_true, Bool.and_eq_true, Bool.and_eq_true, Bool.or_eq_true] at y_z
      rcases y_z with ((⟨y_z, _⟩ | ⟨y_z | y_z, _⟩) | ⟨y_z, _⟩) | ⟨y_z, _⟩
      · exact t_z 1 (Nat.eq_of_beq_eq_true y_z) rfl
      · exact t_z 2 (Nat.eq_of_beq_eq_true y_z) rfl
      · exact t_z 3 (Nat.eq_of_beq_eq_true y_z) rfl
      · exact t_z 4 (Nat.eq_of_beq_eq_true y_z) rfl
      · exact t_z 14 (Nat.eq_of_beq_eq_true y_z) rfl
  · cases y_z : zfShM n a j
    · rfl
    · exfalso
      unfold zfShM at y_z
      rw [Bool.or_eq_true, Bool.or_eq_true, Bool.or_eq_true, Bool.and_eq_true, Bool.and_eq_true, Bool.or_eq_true, Bool.or_eq_true, Bool.or_eq_true] at y_z
      rcases y_z with ((⟨y_z, (z_z | z_z) | z_z⟩ | ⟨y_z | y_z, _⟩) | y_z) | y_z
      · exact t2_z 30 0 (Nat.eq_of_beq_eq_true y_z) (Nat.eq_of_beq_eq_true z_z) rfl
      · exact t2_z 30 5 (Nat.eq_of_beq_eq_true y_z) (Nat.eq_of_beq_eq_true z_z) rfl
      · exact t2_z 30 18 (Nat.eq_of_beq_eq_true y_z) (Nat.eq_of_beq_eq_true z_z) rfl
      · exact t_z 31 (Nat.eq_of_beq_eq_true y_z) rfl
      · exact t_z 32 (Nat.eq_of_beq_eq_true y_z) rfl
      · exact t_z 33 (Nat.eq_of_beq_eq_true y_z) rfl
      · exact t_z 34 (Nat.eq_of_beq_eq_true y_z) rfl
set_option maxHeartbeats 4000000 in
theorem L_copy {σ : zSt} {K : Option Value → zSt → Prop} {s i t j c : Int32} (hR : zRel σ) (hK : ∀ (r : Int32) τ, zQI (kR 0 52) τ.2.2 → zAns mX9_copy [.ref 30, .int s, .int i, .int t, .int j, .int c] (.int r) τ → K (some (.int r)) τ) : zSp 7 mX8_copy [.ref 0, .int s, .int i, .int t, .int j, .int c] σ K := by
  obtain ⟨hI, n_z, m_z, k0_z, q0, g_z, b_z, N_z, M_z, L_z, h1, h2, h3, h4, h5, h6, h7, h8, h9⟩ := id hR
  obtain ⟨⟨a1_z, a2, a3, a4⟩, ⟨a5, a6⟩, a7, ⟨a8, a9, a10⟩, a11⟩ := id h1
  obtain ⟨⟨b1, b2, b3⟩, ⟨b4, b5⟩, b6, b7⟩ := id h2
  obtain ⟨c1_z, c2_z⟩ := id h3
  obtain ⟨⟨d1_z, d2_z, d3_z⟩, ⟨d4_z, d5_z, d6_z⟩, d7_z, d8_z, d9_z⟩ := id h4
  obtain ⟨⟨e1_z, e2_z, e3_z⟩, ⟨e4_z, e5_z⟩, e6_z⟩ := id h5
  obtain ⟨⟨f1_z, f2_z, f3_z⟩, f4_z⟩ := id h6
  obtain ⟨⟨g1, g2, g3_z⟩, ⟨g4, g5_z, g6⟩, g7, g8⟩ := id h7
  have hC : zQI (kR 0 30) σ.2.2 := zR_of hI rfl rfl
  have hM_z : zQI (kR 30 52) σ.2.2 := zR_of hI rfl rfl
  have hLC : ∀ k_z, k_z < 4 → ∃ l, σ.1 28 k_z = nI l ∧ l ≤ 60 := fun k_z hk => ⟨L_z k_z, (h8 k_z hk).2.1⟩
  have sg : ∀ k_z, k_z < 4 → (0 ≤ σ.1 48 k_z ↔ ¬ σ.1 27 k_z = -1) := fun k_z hk => by
    obtain ⟨⟨s1_z, s2_z⟩, _⟩ := h8 k_z hk
    rw [s1_z]
    constructor
    · intro q_z q2_z; rw [q2_z] at q_z; exact absurd q_z (by decide)
    · intro q_z
      rcases s2_z with s2_z | s2_z
      · exact absurd s2_z q_z
      · unfold zBt at s2_z; rw [zle, zT_lits.1]; exact s2_z.1
  have hLM : ∀ k_z, k_z < 4 → 0 ≤ σ.1 48 k_z → ∃ l, σ.1 49 k_z = nI l ∧ l ≤ 60 := fun k_z hk q_z => ⟨L_z k_z, (h8 k_z hk).2.2.2.1 ((sg k_z hk).mp q_z), (h8 k_z hk).2.1.2⟩
  have hl28 : ∀ k_z, k_z < 4 → σ.1 28 k_z = nI (L_z k_z) ∧ L_z k_z ≤ 60 := fun k_z hk => (h8 k_z hk).2.1
  have hl49 : ∀ k_z, k_z < 4 → 0 ≤ σ.1 48 k_z → σ.1 49 k_z = nI (L_z k_z) := fun k_z hk q_z => (h8 k_z hk).2.2.2.1 ((sg k_z hk).mp q_z)
  refine copy_C hC hLC (fun y_z => ?_) (fun x_z y_z es hx et hy z_z => ?_) (fun x_z y_z es hx et hy z1 z2 z3 => ?_) (fun x_z y_z la lb es hx et hy z1 z2 z3 hla hlb z4 => ?_) (fun τ x_z y_z la lb i0_z j0 c0_z es hx et hy z1 z2 z3 hla hla60 hlb hlb60 ei ej ec hic hjc ht hit_z => ?_)
  · exact hK _ σ hI (fun K2 hK2 => copy_M hM_z hLM (fun _ => hK2 σ hR) (fun x_z z_z es hx et hz _ => absurd ⟨zBt_nI es hx (by omega), zBt_nI et hz (by omega)⟩ y_z) (fun x_z z_z es hx et hz _ => absurd ⟨zBt_nI es hx (by omega), zBt_nI et hz (by omega)⟩ y_z) (fun x_z z_z la lb es hx et hz _ => absurd ⟨zBt_nI es hx (by omega), zBt_nI et hz (by omega)⟩ y_z) (fun υ x_z z_z la lb i0_z j0 c0_z es hx et hz _ => absurd ⟨zBt_nI es hx (by omega), zBt_nI et hz (by omega)⟩ y_z))
  · have hv : zBt 0 3 s ∧ zBt 0 3 t := ⟨zBt_nI es hx (by omega), zBt_nI et hy (by omega)⟩
    have no_z : ∀ x' y', s = nI x' → x' < 4 → t = nI y' → y' < 4 → 0 ≤ σ.1 48 x' → 0 ≤ σ.1 48 y' → False := fun x' y' es' hx' et' hy' q1_z q2_z => by
      rw [znI_inj es' es (by omega) (by omega)] at q1_z
      rw [znI_inj et' et (by omega) (by omega)] at q2_z
      rcases z_z with z_z | z_z
      · exact (sg x_z hx).mp q1_z z_z
      · exact (sg y_z hy).mp q2_z z_z
    exact hK _ _ hI (fun K2 hK2 => copy_M (σ := zuI σ 26 3 1) hM_z hLM (fun q_z => absurd hv q_z) (fun _ _ _ _ _ _ _ => hK2 _ (zRel_find hR)) (fun x' y' es' hx' et' hy' q1_z q2_z => (no_z x' y' es' hx' et' hy' q1_z q2_z).elim) (fun x' y' la lb es' hx' et' hy' q1_z q2_z => (no_z x' y' es' hx' et' hy' q1_z q2_z).elim) (fun υ x' y' la lb i0_z j0 c0_z es' hx' et' hy' q1_z q2_z => (no_z x' y' es' hx' et' hy' q1_z q2_z).elim))
  · have hv : zBt 0 3 s ∧ zBt 0 3 t := ⟨zBt_nI es hx (by omega), zBt_nI et hy (by omega)⟩
    have ne_z : ∀ x' y', s = nI x' → x' < 4 → t = nI y' → y' < 4 → σ.1 48 x' = σ.1 48 y' → False := fun x' y' es' hx' et' hy' q_z => by
      rw [znI_inj es' es (by omega) (by omega), znI_inj et' et (by omega) (by omega)] at q_z
      exact z3 ((h8 x_z hx).1.1.symm.trans (q_z.trans (h8 y_z hy).1.1))
    refine hK _ _ hI (fun K2 hK2 => copy_M (σ := zuI σ 26 3 4) hM_z hLM (fun q_z => absurd hv q_z) (fun x' y' es' hx' et' hy' q_z => ?_) (fun _ _ _ _ _ _ _ _ _ => hK2 _ (zRel_find hR)) (fun x' y' la lb es' hx' et' hy' _ _ q_z => (ne_z x' y' es' hx' et' hy' q_z).elim) (fun υ x' y' la lb i0_z j0 c0_z es' hx' et' hy' _ _ q_z => (ne_z x' y' es' hx' et' hy' q_z).elim))
    rw [znI_inj es' es (by omega) (by omega), znI_inj et' et (by omega) (by omega)] at q_z
    rcases q_z with q_z | q_z
    · exact absurd ((sg x_z hx).mpr z1) q_z
    · exact absurd ((sg y_z hy).mpr z2) q_z
  · have hv : zBt 0 3 s ∧ zBt 0 3 t := ⟨zBt_nI es hx (by omega), zBt_nI et hy (by omega)⟩
    have b1' := zge_I hla (hl28 x_z hx).1 (hl28 x_z hx).2
    have b2' := zge_I hlb (hl28 y_z hy).1 (hl28 y_z hy).2
    refine hK _ _ hI (fun K2 hK2 => copy_M (σ := zuI σ 26 3 2) hM_z hLM (fun q_z => absurd hv q_z) (fun x' y' es' hx' et' hy' q_z => ?_) (fun x' y' es' hx' et' hy' _ _ q_z => ?_) (fun x' y' la lb es' hx' et' hy' _ _ _ _ _ _ => hK2 _ (zRel_find hR)) (fun υ x' y' la' lb' i0_z j0 c0_z es' hx' et' hy' q1_z q2_z q3_z q4_z q5_z q6_z q7_z ei ej ec q8_z q9_z _ _ => ?_))
    · rw [znI_inj es' es (by omega) (by omega), znI_inj et' et (by omega) (by omega)] at q_z
      rcases q_z with q_z | q_z
      · exact absurd ((sg x_z hx).mpr z1) q_z
      · exact absurd ((sg y_z hy).mpr z2) q_z
    · rw [znI_inj es' es (by omega) (by omega), znI_inj et' et (by omega) (by omega)] at q_z
      exact absurd ((h8 x_z hx).1.1.trans (z3.trans (h8 y_z hy).1.1.symm)) q_z
    · have q4' : σ.1 49 x' = nI la' := q4_z
      have q6'_z : σ.1 49 y' = nI lb' := q6_z
      rw [znI_inj es' es (by omega) (by omega)] at q4'
      rw [znI_inj et' et (by omega) (by omega)] at q6'_z
      have r1_z := znI_inj q4' (hl49 x_z hx ((sg x_z hx).mpr z1)) (by omega) (by have := (hl28 x_z hx).2; omega)
      have r2 := znI_inj q6'_z (hl49 y_z hy ((sg y_z hy).mpr z2)) (by omega) (by have := (hl28 y_z hy).2; omega)
      refine absurd ?_ z4
      rw [ei, ej, ec, nI_toInt (by omega), nI_toInt (by omega), nI_toInt (by omega)]
      omega
  · have hv : zBt 0 3 s ∧ zBt 0 3 t := ⟨zBt_nI es hx (by omega), zBt_nI et hy (by omega)⟩
    have r1_z := znI_inj hla (hl28 x_z hx).1 (by omega) (by have := (hl28 x_z hx).2; omega)
    have r2 := znI_inj hlb (hl28 y_z hy).1 (by omega) (by have := (hl28 y_z hy).2; omega)
    have hIτ := zQI_eq hI ht.2.2
    have o48 : ∀ k_z, τ.1 48 k_z = σ.1 48 k_z := fun k_z => ht.1 48 k_z rfl
    have o49 : ∀ k_z, τ.1 49 k_z = σ.1 49 k_z := fun k_z => ht.1 49 k_z rfl
    have hLM' : ∀ k_z, k_z < 4 → 0 ≤ τ.1 48 k_z → ∃ l, τ.1 49 k_z = nI l ∧ l ≤ 60 := fun k_z hk q_z => by rw [o48] at q_z; rw [o49]; exact hLM k_z hk q_z
    refine hK _ τ hIτ (fun K2 hK2 => copy_M (zR_of hIτ rfl rfl) hLM' (fun q_z => absurd hv q_z) (fun x' y' es' hx' et' hy' q_z => ?_) (fun x' y' es' hx' et' hy' _ _ q_z => ?_) (fun x' y' la' lb' es' hx' et' hy' q1_z q2_z q3_z q4_z q5_z q6_z => ?_) (fun υ x' y' la' lb' i1_z j1 c3_z es' hx' et' hy' q1_z q2_z q3_z q4_z q5_z q6_z q7_z ei' ej' ec' q8_z q9_z hu hit' => ?_))
    · rw [znI_inj es' es (by omega) (by omega), znI_inj et' et (by omega) (by omega), o48, o48] at q_z
      rcases q_z with q_z | q_z
      · exact absurd ((sg x_z hx).mpr z1) q_z
      · exact absurd ((sg y_z hy).mpr z2) q_z
    · rw [znI_inj es' es (by omega) (by omega), znI_inj et' et (by omega) (by omega), o48, o48] at q_z
      exact absurd ((h8 x_z hx).1.1.trans (z3.trans (h8 y_z hy).1.1.symm)) q_z
    · rw [znI_inj es' es (by omega) (by omega), o49] at q4_z
      rw [znI_inj et' et (by omega) (by omega), o49] at q5_z
      have w1_z := zge_I q4_z (hl49 x_z hx ((sg x_z hx).mpr z1)) (hl28 x_z hx).2
      have w2_z := zge_I q5_z (hl49 y_z hy ((sg y_z hy).mpr z2)) (hl28 y_z hy).2
      refine absurd ?_ q6_z
      rw [ei, ej, ec, nI_toInt (by omega), nI_toInt (by omega), nI_toInt (by omega)]
      omega
    · have e1' := znI_inj es' es (by omega) (by omega)
      have e2' := znI_inj et' et (by omega) (by omega)
      have e3' := znI_inj ei' ei (by omega) (by omega)
      have e4' := znI_inj ej' ej (by omega) (by omega)
      have e5' := znI_inj ec' ec (by omega) (by omega)
      subst e1'
      subst e2'
      subst e3'
      subst e4'
      subst e5'
      refine hK2 υ ?_
      have hw : zOnly (zpt [8]) σ υ := (ht.wk (fun a_z j w_z => (zCp_s w_z).1)).tr (hu.wk (fun a_z j w_z => (zCp_s w_z).2))
      refine ⟨zQI_eq hI hw.2.2, n_z, m_z, k0_z, q0, g_z, b_z, N_z, M_z, L_z, zR1_fr h1 hw rfl, zR2_fr h2 hw rfl, zR3_fr h3 hw rfl, zR4_fr h4 hw rfl, zR5_fr h5 hw rfl, zR6_fr h6 hw rfl, zR7_fr h7 hw rfl, ?_, zR9_fr h9 hw rfl⟩
      intro k_z hk
      obtain ⟨s1_z, s2_z, s3_z, s4_z, s5⟩ := h8 k_z hk
      have p27 : ∀ k_z, υ.1 27 k_z = σ.1 27 k_z := fun k_z => (hu.1 27 k_z rfl).trans (ht.1 27 k_z rfl)
      have p28 : υ.1 28 k_z = σ.1 28 k_z := (hu.1 28 k_z rfl).trans (ht.1 28 k_z rfl)
      have p48_z : υ.1 48 k_z = σ.1 48 k_z := (hu.1 48 k_z rfl).trans (ht.1 48 k_z rfl)
      have p49 : υ.1 49 k_z = σ.1 49 k_z := (hu.1 49 k_z rfl).trans (ht.1 49 k_z rfl)
      rw [p27, p28, p48_z, p49]
      refine ⟨s1_z, s2_z, s3_z, s4_z, fun w_z hw2 => ?_⟩
      have p29_z : υ.1 29 (k_z * 60 + w_z) = τ.1 29 (k_z * 60 + w_z) := hu.1 29 _ rfl
      rw [p29_z]
      have hk60 := s2_z.2
      by_cases c : k_z * 60 + w_z < y' * 60 + j1 ∨ y' * 60 + j1 + c3_z ≤ k_z * 60 + w_z
      · have f1_z : zfCp (y' * 60 + j1) c3_z 29 (k_z * 60 + w_z) = false := zrng_f c
        have f2_z : zfCpM (y' * 60 + j1) c3_z 50 (k_z * 60 + w_z) = false := by
          show ((Nat.ble (y' * 60 + j1) (k_z * 60 + w_z) && Nat.blt (k_z * 60 + w_z) (y' * 60 + j1 + c3_z)) || false) = false
          rw [zrng_f c]; rfl
        rw [hu.1 50 _ f2_z, ht.1 50 _ rfl, ht.1 29 _ f1_z]
        exact s5 w_z hw2
      · have ek : k_z = y' := by omega
        obtain ⟨q_z, hq⟩ : ∃ q_z, w_z = j1 + q_z := ⟨w_z - j1, by omega⟩
        have hqc : q_z < c3_z := by omega
        obtain ⟨v1_z, v2⟩ := (h8 x' hx').2.2.2.2 (i1_z + q_z) (by omega)
        rw [ek, hq, hit' q_z hqc, hit_z q_z hqc, ht.1 50 _ rfl, v1_z, ← z3, v2]
        exact ⟨rfl, v2⟩
