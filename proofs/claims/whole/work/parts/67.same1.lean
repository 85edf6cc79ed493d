theorem zBt_nI {k M : Nat} {t : Int32} (e : t = nI k) (h : k < M) (hM : M < 2 ^ 31) : zBt 0 (M - 1) t := by
  unfold zBt; rw [e, nI_toInt (by omega)]; omega
theorem znI_inj {a b : Nat} {x : Int32} (h : x = nI a) (h' : x = nI b) (ha : a < 2 ^ 31) (hb : b < 2 ^ 31) : a = b := (nI_eq ha hb).mp (h.symm.trans h')
set_option maxHeartbeats 4000000 in
theorem L_corner {σ : zSt} {K : Option Value → zSt → Prop} {i what : Int32} (hR : zRel σ) (hK : ∀ (r : Int32) τ, zQI (kR 0 52) τ.2.2 → zAns mX9_corner [.ref 30, .int i, .int what] (.int r) τ → K (some (.int r)) τ) : zSp 7 mX8_corner [.ref 0, .int i, .int what] σ K := by
  obtain ⟨hI, n_z, m_z, k0_z, q0, g_z, b_z, N_z, M_z, L_z, h1, h2, h3, h4, h5, h6, h7, h8, h9⟩ := id hR
  obtain ⟨⟨a1_z, a2, a3, a4⟩, ⟨a5, a6⟩, a7, ⟨a8, a9, a10⟩, a11⟩ := id h1
  obtain ⟨⟨b1, b2, b3⟩, ⟨b4, b5⟩, b6, b7⟩ := id h2
  obtain ⟨c1_z, c2_z⟩ := id h3
  obtain ⟨⟨d1_z, d2_z, d3_z⟩, ⟨d4_z, d5_z, d6_z⟩, d7_z, d8_z, d9_z⟩ := id h4
  obtain ⟨⟨e1_z, e2_z, e3_z⟩, ⟨e4_z, e5_z⟩, e6_z⟩ := id h5
  obtain ⟨⟨f1_z, f2_z, f3_z⟩, f4_z⟩ := id h6
  obtain ⟨⟨g1, g2, g3_z⟩, ⟨g4, g5_z, g6⟩, g7, g8⟩ := id h7
  have hC : zQI (kR 0 30) σ.2.2 := zR_of hI rfl rfl
  have hM_z : zQI (kR 30 52) σ.2.2 := zR_of hI rfl rfl
  refine corner_C hC a1_z a4 (fun c_z => ?_) (fun k_z e_z hk c_z => ?_)
  · exact hK _ σ hI (fun K2 hK2 => corner_M hM_z a2 a4 (fun _ => hK2 σ hR) (fun _ _ _ q_z => absurd q_z c_z))
  · refine hK _ σ hI (fun K2 hK2 => corner_M hM_z a2 a4 (fun q_z => absurd c_z q_z) (fun k' e' hk' _ => ?_))
    have ek := znI_inj e' e_z (by omega) (by omega)
    rw [ek, a5, a6]
    exact hK2 σ hR
set_option maxHeartbeats 4000000 in
theorem L_middle {σ : zSt} {K : Option Value → zSt → Prop} {what : Int32} (hR : zRel σ) (hK : ∀ (r : Int32) τ, zQI (kR 0 52) τ.2.2 → zAns mX9_middle [.ref 30, .int what] (.int r) τ → K (some (.int r)) τ) : zSp 7 mX8_middle [.ref 0, .int what] σ K := by
  obtain ⟨hI, n_z, m_z, k0_z, q0, g_z, b_z, N_z, M_z, L_z, h1, h2, h3, h4, h5, h6, h7, h8, h9⟩ := id hR
  obtain ⟨⟨a1_z, a2, a3, a4⟩, ⟨a5, a6⟩, a7, ⟨a8, a9, a10⟩, a11⟩ := id h1
  obtain ⟨⟨b1, b2, b3⟩, ⟨b4, b5⟩, b6, b7⟩ := id h2
  obtain ⟨c1_z, c2_z⟩ := id h3
  obtain ⟨⟨d1_z, d2_z, d3_z⟩, ⟨d4_z, d5_z, d6_z⟩, d7_z, d8_z, d9_z⟩ := id h4
  obtain ⟨⟨e1_z, e2_z, e3_z⟩, ⟨e4_z, e5_z⟩, e6_z⟩ := id h5
  obtain ⟨⟨f1_z, f2_z, f3_z⟩, f4_z⟩ := id h6
  obtain ⟨⟨g1, g2, g3_z⟩, ⟨g4, g5_z, g6⟩, g7, g8⟩ := id h7
  have hC : zQI (kR 0 30) σ.2.2 := zR_of hI rfl rfl
  have hM_z : zQI (kR 30 52) σ.2.2 := zR_of hI rfl rfl
  have n0_z : zBt 0 2 (0 : Int32) := ⟨by decide, by decide⟩
  have n1_z : zBt 0 2 (1 : Int32) := ⟨by decide, by decide⟩
  have n2_z : zBt 0 2 (2 : Int32) := ⟨by decide, by decide⟩
  refine middle_C hC (fun c_z => ?_) (fun c_z => ?_) (fun c_z => ?_) (fun c_z => ?_)
  · exact hK _ σ hI (fun K2 hK2 => middle_M hM_z a2 a4 (fun _ => hK2 σ hR) (fun q_z => absurd (by rw [q_z]; exact n0_z) c_z) (fun q_z => absurd (by rw [q_z]; exact n1_z) c_z) (fun q_z => absurd (by rw [q_z]; exact n2_z) c_z))
  · refine hK _ σ hI (fun K2 hK2 => middle_M hM_z a2 a4 (fun q_z => absurd (by rw [c_z]; exact n0_z) q_z) (fun _ => ?_) (fun q_z => absurd (c_z.symm.trans q_z) (by decide)) (fun q_z => absurd (c_z.symm.trans q_z) (by decide)))
    rw [a5, a6, ← a8]; exact hK2 σ hR
  · refine hK _ σ hI (fun K2 hK2 => middle_M hM_z a2 a4 (fun q_z => absurd (by rw [c_z]; exact n1_z) q_z) (fun q_z => absurd (c_z.symm.trans q_z) (by decide)) (fun _ => ?_) (fun q_z => absurd (c_z.symm.trans q_z) (by decide)))
    rw [a5, a6, ← a9]; exact hK2 σ hR
  · refine hK _ σ hI (fun K2 hK2 => middle_M hM_z a2 a4 (fun q_z => absurd (by rw [c_z]; exact n2_z) q_z) (fun q_z => absurd (c_z.symm.trans q_z) (by decide)) (fun q_z => absurd (c_z.symm.trans q_z) (by decide)) (fun _ => ?_))
    rw [a5, a6, ← a10]; exact hK2 σ hR
set_option maxHeartbeats 4000000 in
theorem L_isIn {σ : zSt} {K : Option Value → zSt → Prop} {x y : Int32} (hR : zRel σ) (hK : ∀ (r : Int32) τ, zQI (kR 0 52) τ.2.2 → zAns mX9_isIn [.ref 30, .int x, .int y] (.int r) τ → K (some (.int r)) τ) : zSp 7 mX8_isIn [.ref 0, .int x, .int y] σ K := by
  obtain ⟨hI, n_z, m_z, k0_z, q0, g_z, b_z, N_z, M_z, L_z, h1, h2, h3, h4, h5, h6, h7, h8, h9⟩ := id hR
  obtain ⟨⟨a1_z, a2, a3, a4⟩, ⟨a5, a6⟩, a7, ⟨a8, a9, a10⟩, a11⟩ := id h1
  obtain ⟨⟨b1, b2, b3⟩, ⟨b4, b5⟩, b6, b7⟩ := id h2
  obtain ⟨c1_z, c2_z⟩ := id h3
  obtain ⟨⟨d1_z, d2_z, d3_z⟩, ⟨d4_z, d5_z, d6_z⟩, d7_z, d8_z, d9_z⟩ := id h4
  obtain ⟨⟨e1_z, e2_z, e3_z⟩, ⟨e4_z, e5_z⟩, e6_z⟩ := id h5
  obtain ⟨⟨f1_z, f2_z, f3_z⟩, f4_z⟩ := id h6
  obtain ⟨⟨g1, g2, g3_z⟩, ⟨g4, g5_z, g6⟩, g7, g8⟩ := id h7
  have hC : zQI (kR 0 30) σ.2.2 := zR_of hI rfl rfl
  have hM_z : zQI (kR 30 52) σ.2.2 := zR_of hI rfl rfl
  have hB_z : zHB n_z (σ.1 31) (σ.1 32) := by rw [a5, a6]; exact a7
  refine isIn_C hC a1_z a4 (fun c_z => ?_) (fun c_z => ?_)
  · exact hK _ σ hI (fun K2 hK2 => isIn_M hM_z a2 a4 hB_z (fun _ => hK2 σ hR) (fun q_z => absurd q_z c_z))
  · refine hK _ σ hI (fun K2 hK2 => isIn_M hM_z a2 a4 hB_z (fun q_z => absurd c_z q_z) (fun _ => ?_))
    rw [a5, a6]; exact hK2 σ hR
set_option maxHeartbeats 4000000 in
theorem L_finger {σ : zSt} {K : Option Value → zSt → Prop} {e k : Int32} (hR : zRel σ) (hK : ∀ (r : Int32) τ, zQI (kR 0 52) τ.2.2 → zAns mX9_finger [.ref 30, .int e, .int k] (.int r) τ → K (some (.int r)) τ) : zSp 7 mX8_finger [.ref 0, .int e, .int k] σ K := by
  obtain ⟨hI, n_z, m_z, k0_z, q0, g_z, b_z, N_z, M_z, L_z, h1, h2, h3, h4, h5, h6, h7, h8, h9⟩ := id hR
  obtain ⟨⟨a1_z, a2, a3, a4⟩, ⟨a5, a6⟩, a7, ⟨a8, a9, a10⟩, a11⟩ := id h1
  obtain ⟨⟨b1, b2, b3⟩, ⟨b4, b5⟩, b6, b7⟩ := id h2
  obtain ⟨c1_z, c2_z⟩ := id h3
  obtain ⟨⟨d1_z, d2_z, d3_z⟩, ⟨d4_z, d5_z, d6_z⟩, d7_z, d8_z, d9_z⟩ := id h4
  obtain ⟨⟨e1_z, e2_z, e3_z⟩, ⟨e4_z, e5_z⟩, e6_z⟩ := id h5
  obtain ⟨⟨f1_z, f2_z, f3_z⟩, f4_z⟩ := id h6
  obtain ⟨⟨g1, g2, g3_z⟩, ⟨g4, g5_z, g6⟩, g7, g8⟩ := id h7
  have hC : zQI (kR 0 30) σ.2.2 := zR_of hI rfl rfl
  have hM_z : zQI (kR 30 52) σ.2.2 := zR_of hI rfl rfl
  refine finger_C hC a1_z a4 b1 b3 (fun c_z => ?_) (fun c_z c' => ?_) (fun c_z c' => ?_)
  · exact hK _ σ hI (fun K2 hK2 => finger_M hM_z a2 a4 b2 b3 (fun _ => hK2 σ hR) (fun q_z => absurd q_z c_z) (fun q_z => absurd q_z c_z))
  · exact hK _ σ hI (fun K2 hK2 => finger_M hM_z a2 a4 b2 b3 (fun q_z => absurd c_z q_z) (fun _ _ => hK2 σ hR) (fun _ q_z => absurd q_z (by omega)))
  · refine hK _ _ hI (fun K2 hK2 => finger_M (σ := (zuI (zuI (zuI σ 5 m_z e) 6 m_z k) 4 2 (nI (m_z + 1)))) hM_z a2 a4 b2 b3 (fun q_z => absurd c_z q_z) (fun _ q_z => absurd q_z (by omega)) (fun _ _ => hK2 _ ?_))
    have hu : zOnly (zpt [2]) σ (zuI (zuI (zuI (zuI (zuI (zuI σ 5 m_z e) 6 m_z k) 4 2 (nI (m_z + 1))) 35 m_z e) 36 m_z k) 30 5 (nI (m_z + 1))) := (((((zOnly.rf.uI rfl).uI rfl).uI rfl).uI rfl).uI rfl).uI rfl
    refine ⟨hI, n_z, m_z + 1, k0_z, q0, g_z, b_z, N_z, M_z, L_z, zR1_fr h1 hu rfl, ?_, zR3_fr h3 hu rfl, zR4_fr h4 hu rfl, zR5_fr h5 hu rfl, zR6_fr h6 hu rfl, zR7_fr h7 hu rfl, zR8_fr h8 hu rfl, zR9_fr h9 hu rfl⟩
    refine ⟨⟨rfl, rfl, by omega⟩, ⟨?_, ?_⟩, fun i_z hi_z => ?_, fun i_z hi_z => ?_⟩
    · show upd (σ.1 35) m_z e = upd (σ.1 5) m_z e
      rw [b4]
    · show upd (σ.1 36) m_z k = upd (σ.1 6) m_z k
      rw [b5]
    · show ∃ e', upd (σ.1 5) m_z e i_z = nI e' ∧ e' < n_z
      by_cases q_z : i_z = m_z
      · obtain ⟨v_z, hv, _, _⟩ := zNat (x := e) c_z.1.1
        have := c_z.1.2
        rw [q_z, pk_us]; exact ⟨v_z, hv, by omega⟩
      · rw [pk_un q_z]; exact b6 i_z (by omega)
    · show zBt 0 8 (upd (σ.1 6) m_z k i_z)
      by_cases q_z : i_z = m_z
      · rw [q_z, pk_us]; exact c_z.2
      · rw [pk_un q_z]; exact b7 i_z (by omega)
set_option maxHeartbeats 4000000 in
theorem L_move {σ : zSt} {K : Option Value → zSt → Prop} {v e k : Int32} (hR : zRel σ) (hK : ∀ (r : Int32) τ, zQI (kR 0 52) τ.2.2 → zAns mX9_move [.ref 30, .int v, .int e, .int k] (.int r) τ → K (some (.int r)) τ) : zSp 7 mX8_move [.ref 0, .int v, .int e, .int k] σ K := by
  obtain ⟨hI, n_z, m_z, k0_z, q0, g_z, b_z, N_z, M_z, L_z, h1, h2, h3, h4, h5, h6, h7, h8, h9⟩ := id hR
  obtain ⟨⟨a1_z, a2, a3, a4⟩, ⟨a5, a6⟩, a7, ⟨a8, a9, a10⟩, a11⟩ := id h1
  obtain ⟨⟨b1, b2, b3⟩, ⟨b4, b5⟩, b6, b7⟩ := id h2
  obtain ⟨c1_z, c2_z⟩ := id h3
  obtain ⟨⟨d1_z, d2_z, d3_z⟩, ⟨d4_z, d5_z, d6_z⟩, d7_z, d8_z, d9_z⟩ := id h4
  obtain ⟨⟨e1_z, e2_z, e3_z⟩, ⟨e4_z, e5_z⟩, e6_z⟩ := id h5
  obtain ⟨⟨f1_z, f2_z, f3_z⟩, f4_z⟩ := id h6
  obtain ⟨⟨g1, g2, g3_z⟩, ⟨g4, g5_z, g6⟩, g7, g8⟩ := id h7
  have hC : zQI (kR 0 30) σ.2.2 := zR_of hI rfl rfl
  have hM_z : zQI (kR 30 52) σ.2.2 := zR_of hI rfl rfl
  refine move_C hC a1_z a4 b1 b3 (fun c_z => ?_) (fun j_z ej hj c_z => ?_)
  · exact hK _ σ hI (fun K2 hK2 => move_M hM_z a2 a4 b2 b3 (fun _ => hK2 σ hR) (fun j_z ej hj q_z => absurd ⟨zBt_nI ej hj (by omega), q_z⟩ c_z))
  · refine hK _ _ hI (fun K2 hK2 => move_M (σ := (zuI (zuI σ 5 j_z e) 6 j_z k)) hM_z a2 a4 b2 b3 (fun q_z => absurd ⟨zBt_nI ej hj (by omega), c_z⟩ q_z) (fun j' ej' hj' _ => ?_))
    have ek := znI_inj ej' ej (by omega) (by omega)
    rw [ek]
    refine hK2 _ ?_
    have hu : zOnly (zpt [2]) σ (zuI (zuI (zuI (zuI σ 5 j_z e) 6 j_z k) 35 j_z e) 36 j_z k) := (((zOnly.rf.uI rfl).uI rfl).uI rfl).uI rfl
    refine ⟨hI, n_z, m_z, k0_z, q0, g_z, b_z, N_z, M_z, L_z, zR1_fr h1 hu rfl, ?_, zR3_fr h3 hu rfl, zR4_fr h4 hu rfl, zR5_fr h5 hu rfl, zR6_fr h6 hu rfl, zR7_fr h7 hu rfl, zR8_fr h8 hu rfl, zR9_fr h9 hu rfl⟩
    refine ⟨⟨b1, b2, b3⟩, ⟨?_, ?_⟩, fun i_z hi_z => ?_, fun i_z hi_z => ?_⟩
    · show upd (σ.1 35) j_z e = upd (σ.1 5) j_z e
      rw [b4]
    · show upd (σ.1 36) j_z k = upd (σ.1 6) j_z k
      rw [b5]
    · show ∃ e', upd (σ.1 5) j_z e i_z = nI e' ∧ e' < n_z
      by_cases q_z : i_z = j_z
      · obtain ⟨v, hv, _, _⟩ := zNat (x := e) c_z.1.1
        have := c_z.1.2
        rw [q_z, pk_us]; exact ⟨v, hv, by omega⟩
      · rw [pk_un q_z]; exact b6 i_z (by omega)
    · show zBt 0 8 (upd (σ.1 6) j_z k i_z)
      by_cases q_z : i_z = j_z
      · rw [q_z, pk_us]; exact c_z.2
      · rw [pk_un q_z]; exact b7 i_z (by omega)
set_option maxHeartbeats 4000000 in
theorem L_release {σ : zSt} {K : Option Value → zSt → Prop} (hR : zRel σ) (hK : ∀ (r : Int32) τ, zQI (kR 0 52) τ.2.2 → zAns mX9_release [.ref 30] (.int r) τ → K (some (.int r)) τ) : zSp 7 mX8_release [.ref 0] σ K := by
  obtain ⟨hI, n_z, m_z, k0_z, q0, g_z, b_z, N_z, M_z, L_z, h1, h2, h3, h4, h5, h6, h7, h8, h9⟩ := id hR
  obtain ⟨⟨a1_z, a2, a3, a4⟩, ⟨a5, a6⟩, a7, ⟨a8, a9, a10⟩, a11⟩ := id h1
  obtain ⟨⟨b1, b2, b3⟩, ⟨b4, b5⟩, b6, b7⟩ := id h2
  obtain ⟨c1_z, c2_z⟩ := id h3
  obtain ⟨⟨d1_z, d2_z, d3_z⟩, ⟨d4_z, d5_z, d6_z⟩, d7_z, d8_z, d9_z⟩ := id h4
  obtain ⟨⟨e1_z, e2_z, e3_z⟩, ⟨e4_z, e5_z⟩, e6_z⟩ := id h5
  obtain ⟨⟨f1_z, f2_z, f3_z⟩, f4_z⟩ := id h6
  obtain ⟨⟨g1, g2, g3_z⟩, ⟨g4, g5_z, g6⟩, g7, g8⟩ := id h7
  have hC : zQI (kR 0 30) σ.2.2 := zR_of hI rfl rfl
  have hM_z : zQI (kR 30 52) σ.2.2 := zR_of hI rfl rfl
  refine release_C hC ?_
  refine hK _ _ hI (fun K2 hK2 => release_M (σ := zuI σ 4 2 0) hM_z ?_)
  have e_z : (zuI σ 4 2 0).1 30 5 = σ.1 4 2 := b2.trans b1.symm
  rw [e_z]
  refine hK2 _ ?_
  have hu : zOnly (zpt [2]) σ (zuI (zuI σ 4 2 0) 30 5 0) := (zOnly.rf.uI rfl).uI rfl
  refine ⟨hI, n_z, 0, k0_z, q0, g_z, b_z, N_z, M_z, L_z, zR1_fr h1 hu rfl, ?_, zR3_fr h3 hu rfl, zR4_fr h4 hu rfl, zR5_fr h5 hu rfl, zR6_fr h6 hu rfl, zR7_fr h7 hu rfl, zR8_fr h8 hu rfl, zR9_fr h9 hu rfl⟩
  exact ⟨⟨rfl, rfl, by omega⟩, ⟨b4, b5⟩, fun i_z hi_z => absurd hi_z (Nat.not_lt_zero i_z), fun i_z hi_z => absurd hi_z (Nat.not_lt_zero i_z)⟩
set_option maxHeartbeats 4000000 in
theorem L_friction {σ : zSt} {K : Option Value → zSt → Prop} {f : Int32} (hR : zRel σ) (hK : ∀ (r : Int32) τ, zQI (kR 0 52) τ.2.2 → zAns mX9_friction [.ref 30, .int f] (.int r) τ → K (some (.int r)) τ) : zSp 7 mX8_friction [.ref 0, .int f] σ K := by
  obtain ⟨hI, n_z, m_z, k0_z, q0, g_z, b_z, N_z, M_z, L_z, h1, h2, h3, h4, h5, h6, h7, h8, h9⟩ := id hR
  obtain ⟨⟨a1_z, a2, a3, a4⟩, ⟨a5, a6⟩, a7, ⟨a8, a9, a10⟩, a11⟩ := id h1
  obtain ⟨⟨b1, b2, b3⟩, ⟨b4, b5⟩, b6, b7⟩ := id h2
  obtain ⟨c1_z, c2_z⟩ := id h3
  obtain ⟨⟨d1_z, d2_z, d3_z⟩, ⟨d4_z, d5_z, d6_z⟩, d7_z, d8_z, d9_z⟩ := id h4
  obtain ⟨⟨e1_z, e2_z, e3_z⟩, ⟨e4_z, e5_z⟩, e6_z⟩ := id h5
  obtain ⟨⟨f1_z, f2_z, f3_z⟩, f4_z⟩ := id h6
  obtain ⟨⟨g1, g2, g3_z⟩, ⟨g4, g5_z, g6⟩, g7, g8⟩ := id h7
  have hC : zQI (kR 0 30) σ.2.2 := zR_of hI rfl rfl
  have hM_z : zQI (kR 30 52) σ.2.2 := zR_of hI rfl rfl
  refine friction_C hC (fun c_z => ?_) (fun c_z => ?_)
  · exact hK _ σ hI (fun K2 hK2 => friction_M hM_z (fun _ => hK2 σ hR) (fun q_z => absurd q_z c_z))
  · refine hK _ _ hI (fun K2 hK2 => friction_M (σ := zuI σ 0 9 f) hM_z (fun q_z => absurd c_z q_z) (fun _ => ?_))
    have e_z : (zuI σ 0 9 f).1 30 8 = σ.1 0 9 := c1_z
    rw [e_z]
    refine hK2 _ ?_
    have hu : zOnly (zpt [3]) σ (zuI (zuI σ 0 9 f) 30 8 f) := (zOnly.rf.uI rfl).uI rfl
    refine ⟨hI, n_z, m_z, k0_z, q0, g_z, b_z, N_z, M_z, L_z, zR1_fr h1 hu rfl, zR2_fr h2 hu rfl, ?_, zR4_fr h4 hu rfl, zR5_fr h5 hu rfl, zR6_fr h6 hu rfl, zR7_fr h7 hu rfl, zR8_fr h8 hu rfl, zR9_fr h9 hu rfl⟩
    exact ⟨rfl, c_z⟩
set_option maxHeartbeats 4000000 in
theorem L_holds {σ : zSt} {K : Option Value → zSt → Prop} (hR : zRel σ) (hK : ∀ (r : Int32) τ, zQI (kR 0 52) τ.2.2 → zAns mX9_holds [.ref 30] (.int r) τ → K (some (.int r)) τ) : zSp 7 mX8_holds [.ref 0] σ K := by
  obtain ⟨hI, n_z, m_z, k0_z, q0, g_z, b_z, N_z, M_z, L_z, h1, h2, h3, h4, h5, h6, h7, h8, h9⟩ := id hR
  obtain ⟨⟨a1_z, a2, a3, a4⟩, ⟨a5, a6⟩, a7, ⟨a8, a9, a10⟩, a11⟩ := id h1
  obtain ⟨⟨b1, b2, b3⟩, ⟨b4, b5⟩, b6, b7⟩ := id h2
  obtain ⟨c1_z, c2_z⟩ := id h3
  obtain ⟨⟨d1_z, d2_z, d3_z⟩, ⟨d4_z, d5_z, d6_z⟩, d7_z, d8_z, d9_z⟩ := id h4
  obtain ⟨⟨e1_z, e2_z, e3_z⟩, ⟨e4_z, e5_z⟩, e6_z⟩ := id h5
  obtain ⟨⟨f1_z, f2_z, f3_z⟩, f4_z⟩ := id h6
  obtain ⟨⟨g1, g2, g3_z⟩, ⟨g4, g5_z, g6⟩, g7, g8⟩ := id h7
  have hC : zQI (kR 0 30) σ.2.2 := zR_of hI rfl rfl
  have hM_z : zQI (kR 30 52) σ.2.2 := zR_of hI rfl rfl
  refine holds_C hC a1_z a4 b1 b3 b6 (fun τ ht c_z => ?_) (fun τ ht c_z => ?_)
  · have hq := zRel_q hR (ht.wk zfW_s)
    have hIτ := zQI_eq hI ht.2.2
    have hM_zτ : zQI (kR 30 52) τ.2.2 := zR_of hIτ rfl rfl
    have i0_z : τ.1 30 0 = nI n_z := (ht.1 30 0 rfl).trans a2
    have i31 : τ.1 31 = σ.1 2 := (funext fun j_z => ht.1 31 j_z rfl).trans a5
    have i32 : τ.1 32 = σ.1 3 := (funext fun j_z => ht.1 32 j_z rfl).trans a6
    have i8_z : τ.1 30 8 = σ.1 0 9 := (ht.1 30 8 rfl).trans c1_z
    have i5_z : τ.1 30 5 = nI m_z := (ht.1 30 5 rfl).trans b2
    have i35 : τ.1 35 = σ.1 5 := (funext fun j_z => ht.1 35 j_z rfl).trans b4
    have i36 : τ.1 36 = σ.1 6 := (funext fun j_z => ht.1 36 j_z rfl).trans b5
    refine hK _ τ hIτ (fun K2 hK2 => holds_M hM_zτ i0_z a4 (by rw [i31, i32]; exact a7) (by rw [i8_z]; exact c2_z) i5_z b3 (by rw [i35]; exact b6) (by rw [i36]; exact b7) (fun υ hu _ => hK2 υ (zRel_q hq (hu.wk zfMh_s))) (fun υ hu q_z => ?_))
    rw [i31, i32, i8_z, i35, i36] at q_z
    exact absurd c_z q_z
  · have hq := zRel_q hR (ht.wk zfW_s)
    have hIτ := zQI_eq hI ht.2.2
    have hM_zτ : zQI (kR 30 52) τ.2.2 := zR_of hIτ rfl rfl
    have i0_z : τ.1 30 0 = nI n_z := (ht.1 30 0 rfl).trans a2
    have i31 : τ.1 31 = σ.1 2 := (funext fun j_z => ht.1 31 j_z rfl).trans a5
    have i32 : τ.1 32 = σ.1 3 := (funext fun j_z => ht.1 32 j_z rfl).trans a6
    have i8_z : τ.1 30 8 = σ.1 0 9 := (ht.1 30 8 rfl).trans c1_z
    have i5_z : τ.1 30 5 = nI m_z := (ht.1 30 5 rfl).trans b2
    have i35 : τ.1 35 = σ.1 5 := (funext fun j_z => ht.1 35 j_z rfl).trans b4
    have i36 : τ.1 36 = σ.1 6 := (funext fun j_z => ht.1 36 j_z rfl).trans b5
    refine hK _ τ hIτ (fun K2 hK2 => holds_M hM_zτ i0_z a4 (by rw [i31, i32]; exact a7) (by rw [i8_z]; exact c2_z) i5_z b3 (by rw [i35]; exact b6) (by rw [i36]; exact b7) (fun υ hu q_z => ?_) (fun υ hu _ => hK2 υ (zRel_q hq (hu.wk zfMh_s))))
    rw [i31, i32, i8_z, i35, i36] at q_z
    exact absurd q_z c_z
set_option maxHeartbeats 4000000 in
theorem L_push {σ : zSt} {K : Option Value → zSt → Prop} {t w : Int32} (hR : zRel σ) (hK : ∀ (r : Int64) τ, zQI (kR 0 52) τ.2.2 → zAns mX9_push [.ref 30, .int t, .int w] (.long r) τ → K (some (.long r)) τ) : zSp 7 mX8_push [.ref 0, .int t, .int w] σ K := by
  obtain ⟨hI, n_z, m_z, k0_z, q0, g_z, b_z, N_z, M_z, L_z, h1, h2, h3, h4, h5, h6, h7, h8, h9⟩ := id hR
  obtain ⟨⟨a1_z, a2, a3, a4⟩, ⟨a5, a6⟩, a7, ⟨a8, a9, a10⟩, a11⟩ := id h1
  obtain ⟨⟨b1, b2, b3⟩, ⟨b4, b5⟩, b6, b7⟩ := id h2
  obtain ⟨c1_z, c2_z⟩ := id h3
  obtain ⟨⟨d1_z, d2_z, d3_z⟩, ⟨d4_z, d5_z, d6_z⟩, d7_z, d8_z, d9_z⟩ := id h4
  obtain ⟨⟨e1_z, e2_z, e3_z⟩, ⟨e4_z, e5_z⟩, e6_z⟩ := id h5
  obtain ⟨⟨f1_z, f2_z, f3_z⟩, f4_z⟩ := id h6
  obtain ⟨⟨g1, g2, g3_z⟩, ⟨g4, g5_z, g6⟩, g7, g8⟩ := id h7
  have hC : zQI (kR 0 30) σ.2.2 := zR_of hI rfl rfl
  have hM_z : zQI (kR 30 52) σ.2.2 := zR_of hI rfl rfl
  have hml := @zMl_le (σ.1 0 9) m_z b3
  refine push_C hC a1_z a4 b1 b3 b6 (fun τ ht c_z => ?_) (fun τ k_z ht e_z hk c_z => ?_)
  · have hq := zRel_q hR (ht.wk zfW_s)
    have hIτ := zQI_eq hI ht.2.2
    have hM_zτ : zQI (kR 30 52) τ.2.2 := zR_of hIτ rfl rfl
    have i0_z : τ.1 30 0 = nI n_z := (ht.1 30 0 rfl).trans a2
    have i31 : τ.1 31 = σ.1 2 := (funext fun j_z => ht.1 31 j_z rfl).trans a5
    have i32 : τ.1 32 = σ.1 3 := (funext fun j_z => ht.1 32 j_z rfl).trans a6
    have i8_z : τ.1 30 8 = σ.1 0 9 := (ht.1 30 8 rfl).trans c1_z
    have i5_z : τ.1 30 5 = nI m_z := (ht.1 30 5 rfl).trans b2
    have i35 : τ.1 35 = σ.1 5 := (funext fun j_z => ht.1 35 j_z rfl).trans b4
    have i36 : τ.1 36 = σ.1 6 := (funext fun j_z => ht.1 36 j_z rfl).trans b5
    refine hK _ τ hIτ (fun K2 hK2 => push_M hM_zτ i0_z a4 (by rw [i31, i32]; exact a7) (by rw [i8_z]; exact c2_z) i5_z b3 (by rw [i35]; exact b6) (by rw [i36]; exact b7) (fun υ hu _ => hK2 υ (zRel_q hq (hu.wk zfMh_s))) (fun υ k_z hu e_z hk q_z => ?_))
    rw [i8_z] at hk
    exact absurd ⟨zBt_nI e_z hk (by omega), q_z⟩ c_z
  · have hq := zRel_q hR (ht.wk zfW_s)
    have hIτ := zQI_eq hI ht.2.2
    have hM_zτ : zQI (kR 30 52) τ.2.2 := zR_of hIτ rfl rfl
    have i0_z : τ.1 30 0 = nI n_z := (ht.1 30 0 rfl).trans a2
    have i31 : τ.1 31 = σ.1 2 := (funext fun j_z => ht.1 31 j_z rfl).trans a5
    have i32 : τ.1 32 = σ.1 3 := (funext fun j_z => ht.1 32 j_z rfl).trans a6
    have i8_z : τ.1 30 8 = σ.1 0 9 := (ht.1 30 8 rfl).trans c1_z
    have i5_z : τ.1 30 5 = nI m_z := (ht.1 30 5 rfl).trans b2
    have i35 : τ.1 35 = σ.1 5 := (funext fun j_z => ht.1 35 j_z rfl).trans b4
    have i36 : τ.1 36 = σ.1 6 := (funext fun j_z => ht.1 36 j_z rfl).trans b5
    refine hK _ τ hIτ (fun K2 hK2 => push_M hM_zτ i0_z a4 (by rw [i31, i32]; exact a7) (by rw [i8_z]; exact c2_z) i5_z b3 (by rw [i35]; exact b6) (by rw [i36]; exact b7) (fun υ hu q_z => ?_) (fun υ k' hu e' hk' _ => ?_))
    · rw [i8_z] at q_z
      exact absurd ⟨zBt_nI e_z hk (by omega), c_z⟩ q_z
    · rw [i8_z] at hk'
      have ek := znI_inj e' e_z (by omega) (by omega)
      rw [ek, i31, i32, i8_z, i35, i36]
      exact hK2 υ (zRel_q hq (hu.wk zfMh_s))
set_option maxHeartbeats 4000000 in
theorem L_witness {σ : zSt} {K : Option Value → zSt → Prop} {w : Int32} (hR : zRel σ) (hK : ∀ (r : Int64) τ, zQI (kR 0 52) τ.2.2 → zAns mX9_witness [.ref 30, .int w] (.long r) τ → K (some (.long r)) τ) : zSp 7 mX8_witness [.ref 0, .int w] σ K := by
  obtain ⟨hI, n_z, m_z, k0_z, q0, g_z, b_z, N_z, M_z, L_z, h1, h2, h3, h4, h5, h6, h7, h8, h9⟩ := id hR
  obtain ⟨⟨a1_z, a2, a3, a4⟩, ⟨a5, a6⟩, a7, ⟨a8, a9, a10⟩, a11⟩ := id h1
  obtain ⟨⟨b1, b2, b3⟩, ⟨b4, b5⟩, b6, b7⟩ := id h2
  obtain ⟨c1_z, c2_z⟩ := id h3
  obtain ⟨⟨d1_z, d2_z, d3_z⟩, ⟨d4_z, d5_z, d6_z⟩, d7_z, d8_z, d9_z⟩ := id h4
  obtain ⟨⟨e1_z, e2_z, e3_z⟩, ⟨e4_z, e5_z⟩, e6_z⟩ := id h5
  obtain ⟨⟨f1_z, f2_z, f3_z⟩, f4_z⟩ := id h6
  obtain ⟨⟨g1, g2, g3_z⟩, ⟨g4, g5_z, g6⟩, g7, g8⟩ := id h7
  have hC : zQI (kR 0 30) σ.2.2 := zR_of hI rfl rfl
  have hM_z : zQI (kR 30 52) σ.2.2 := zR_of hI rfl rfl
  refine witness_C hC a1_z a4 b1 b3 b6 (fun c_z => ?_) (fun τ u_z v_z ht c_z hf hbo => ?_) (fun τ ht c_z hf => ?_)
  · have ht : zOnly (zpt []) σ σ := zOnly.rf
    have hIσ := zQI_eq hI ht.2.2
    have hM_zσ : zQI (kR 30 52) σ.2.2 := zR_of hIσ rfl rfl
    have i0_z : σ.1 30 0 = nI n_z := (ht.1 30 0 rfl).trans a2
    have i31 : σ.1 31 = σ.1 2 := (funext fun j_z => ht.1 31 j_z rfl).trans a5
    have i32 : σ.1 32 = σ.1 3 := (funext fun j_z => ht.1 32 j_z rfl).trans a6
    have i8_z : σ.1 30 8 = σ.1 0 9 := (ht.1 30 8 rfl).trans c1_z
    have i5_z : σ.1 30 5 = nI m_z := (ht.1 30 5 rfl).trans b2
    have i35 : σ.1 35 = σ.1 5 := (funext fun j_z => ht.1 35 j_z rfl).trans b4
    have i36 : σ.1 36 = σ.1 6 := (funext fun j_z => ht.1 36 j_z rfl).trans b5
    exact hK _ σ hIσ (fun K2 hK2 => witness_M hM_zσ i0_z a4 (by rw [i31, i32]; exact a7) (by rw [i8_z]; exact c2_z) i5_z b3 (by rw [i35]; exact b6) (by rw [i36]; exact b7) (fun _ => hK2 σ hR) (fun υ u_z v_z hu q_z => absurd q_z c_z) (fun υ hu q_z => absurd q_z c_z))
  · have hq := zRel_q hR (ht.wk zfW_s)
    have hIτ := zQI_eq hI ht.2.2
    have hM_zτ : zQI (kR 30 52) τ.2.2 := zR_of hIτ rfl rfl
    have i0_z : τ.1 30 0 = nI n_z := (ht.1 30 0 rfl).trans a2
    have i31 : τ.1 31 = σ.1 2 := (funext fun j_z => ht.1 31 j_z rfl).trans a5
    have i32 : τ.1 32 = σ.1 3 := (funext fun j_z => ht.1 32 j_z rfl).trans a6
    have i8_z : τ.1 30 8 = σ.1 0 9 := (ht.1 30 8 rfl).trans c1_z
    have i5_z : τ.1 30 5 = nI m_z := (ht.1 30 5 rfl).trans b2
    have i35 : τ.1 35 = σ.1 5 := (funext fun j_z => ht.1 35 j_z rfl).trans b4
    have i36 : τ.1 36 = σ.1 6 := (funext fun j_z => ht.1 36 j_z rfl).trans b5
    refine hK _ τ hIτ (fun K2 hK2 => witness_M hM_zτ i0_z a4 (by rw [i31, i32]; exact a7) (by rw [i8_z]; exact c2_z) i5_z b3 (by rw [i35]; exact b6) (by rw [i36]; exact b7) (fun q_z => absurd c_z q_z) (fun υ u' v' hu _ hf' hbo' => ?_) (fun υ hu _ q_z => ?_))
    · rw [i31, i32, i8_z, i35, i36] at hf' ⊢
      obtain ⟨eu, ev_z⟩ := zFst_one hf' hf
      rw [eu, ev_z]
      exact hK2 υ (zRel_q hq (hu.wk zfMh_s))
    · rw [i31, i32, i8_z, i35, i36] at q_z
      exact absurd ((q_z u_z v_z hf).symm.trans hbo) (by decide)
  · have hq := zRel_q hR (ht.wk zfW_s)
    have hIτ := zQI_eq hI ht.2.2
    have hM_zτ : zQI (kR 30 52) τ.2.2 := zR_of hIτ rfl rfl
    have i0_z : τ.1 30 0 = nI n_z := (ht.1 30 0 rfl).trans a2
    have i31 : τ.1 31 = σ.1 2 := (funext fun j_z => ht.1 31 j_z rfl).trans a5
    have i32 : τ.1 32 = σ.1 3 := (funext fun j_z => ht.1 32 j_z rfl).trans a6
    have i8_z : τ.1 30 8 = σ.1 0 9 := (ht.1 30 8 rfl).trans c1_z
    have i5_z : τ.1 30 5 = nI m_z := (ht.1 30 5 rfl).trans b2
    have i35 : τ.1 35 = σ.1 5 := (funext fun j_z => ht.1 35 j_z rfl).trans b4
    have i36 : τ.1 36 = σ.1 6 := (funext fun j_z => ht.1 36 j_z rfl).trans b5
    refine hK _ τ hIτ (fun K2 hK2 => witness_M hM_zτ i0_z a4 (by rw [i31, i32]; exact a7) (by rw [i8_z]; exact c2_z) i5_z b3 (by rw [i35]; exact b6) (by rw [i36]; exact b7) (fun q_z => absurd c_z q_z) (fun υ u' v' hu _ hf' hbo' => ?_) (fun υ hu _ q_z => hK2 υ (zRel_q hq (hu.wk zfMh_s))))
    rw [i31, i32, i8_z, i35, i36] at hf' hbo'
    exact absurd ((hf u' v' hf').symm.trans hbo') (by decide)
set_option maxHeartbeats 4000000 in
theorem L_free {σ : zSt} {K : Option Value → zSt → Prop} {v : Int32} (hR : zRel σ) (hK : ∀ (r : Int32) τ, zQI (kR 0 52) τ.2.2 → zAns mX9_free [.ref 30, .int v] (.int r) τ → K (some (.int r)) τ) : zSp 7 mX8_free [.ref 0, .int v] σ K := by
  obtain ⟨hI, n_z, m_z, k0_z, q0, g_z, b_z, N_z, M_z, L_z, h1, h2, h3, h4, h5, h6, h7, h8, h9⟩ := id hR
  obtain ⟨⟨a1_z, a2, a3, a4⟩, ⟨a5, a6⟩, a7, ⟨a8, a9, a10⟩, a11⟩ := id h1
  obtain ⟨⟨b1, b2, b3⟩, ⟨b4, b5⟩, b6, b7⟩ := id h2
  obtain ⟨c1_z, c2_z⟩ := id h3
  obtain ⟨⟨d1_z, d2_z, d3_z⟩, ⟨d4_z, d5_z, d6_z⟩, d7_z, d8_z, d9_z⟩ := id h4
  obtain ⟨⟨e1_z, e2_z, e3_z⟩, ⟨e4_z, e5_z⟩, e6_z⟩ := id h5
  obtain ⟨⟨f1_z, f2_z, f3_z⟩, f4_z⟩ := id h6
  obtain ⟨⟨g1, g2, g3_z⟩, ⟨g4, g5_z, g6⟩, g7, g8⟩ := id h7
  have hC : zQI (kR 0 30) σ.2.2 := zR_of hI rfl rfl
  have hM_z : zQI (kR 30 52) σ.2.2 := zR_of hI rfl rfl
  refine free_C hC a1_z a4 b1 b3 b6 (fun c_z => ?_) (fun τ j_z ht e_z hj => ?_)
  · have ht : zOnly (zpt []) σ σ := zOnly.rf
    have hIσ := zQI_eq hI ht.2.2
    have hM_zσ : zQI (kR 30 52) σ.2.2 := zR_of hIσ rfl rfl
    have i0_z : σ.1 30 0 = nI n_z := (ht.1 30 0 rfl).trans a2
    have i31 : σ.1 31 = σ.1 2 := (funext fun j_z => ht.1 31 j_z rfl).trans a5
    have i32 : σ.1 32 = σ.1 3 := (funext fun j_z => ht.1 32 j_z rfl).trans a6
    have i8_z : σ.1 30 8 = σ.1 0 9 := (ht.1 30 8 rfl).trans c1_z
    have i5_z : σ.1 30 5 = nI m_z := (ht.1 30 5 rfl).trans b2
    have i35 : σ.1 35 = σ.1 5 := (funext fun j_z => ht.1 35 j_z rfl).trans b4
    have i36 : σ.1 36 = σ.1 6 := (funext fun j_z => ht.1 36 j_z rfl).trans b5
    exact hK _ σ hIσ (fun K2 hK2 => free_M hM_zσ i0_z a4 (by rw [i31, i32]; exact a7) (by rw [i8_z]; exact c2_z) i5_z b3 (by rw [i35]; exact b6) (by rw [i36]; exact b7) (fun _ => hK2 σ hR) (fun υ j_z hu e_z hj => absurd (zBt_nI e_z hj (by omega)) c_z))
  · have hq := zRel_q hR (ht.wk zfC_s)
    have hIτ := zQI_eq hI ht.2.2
    have hM_zτ : zQI (kR 30 52) τ.2.2 := zR_of hIτ rfl rfl
    have i0_z : τ.1 30 0 = nI n_z := (ht.1 30 0 rfl).trans a2
    have i31 : τ.1 31 = σ.1 2 := (funext fun j_z => ht.1 31 j_z rfl).trans a5
    have i32 : τ.1 32 = σ.1 3 := (funext fun j_z => ht.1 32 j_z rfl).trans a6
    have i8_z : τ.1 30 8 = σ.1 0 9 := (ht.1 30 8 rfl).trans c1_z
    have i5_z : τ.1 30 5 = nI m_z := (ht.1 30 5 rfl).trans b2
    have i35 : τ.1 35 = σ.1 5 := (funext fun j_z => ht.1 35 j_z rfl).trans b4
    have i36 : τ.1 36 = σ.1 6 := (funext fun j_z => ht.1 36 j_z rfl).trans b5
    refine hK _ τ hIτ (fun K2 hK2 => free_M hM_zτ i0_z a4 (by rw [i31, i32]; exact a7) (by rw [i8_z]; exact c2_z) i5_z b3 (by rw [i35]; exact b6) (by rw [i36]; exact b7) (fun q_z => absurd (zBt_nI e_z hj (by omega)) q_z) (fun υ j' hu e' hj' => ?_))
    have ek := znI_inj e' e_z (by omega) (by omega)
    rw [ek, i31, i32, i8_z, i35, i36]
    exact hK2 υ (zRel_q hq (hu.wk zfMh_s))
set_option maxHeartbeats 4000000 in
theorem L_slip {σ : zSt} {K : Option Value → zSt → Prop} (hR : zRel σ) (hK : ∀ (r : Int32) τ, zQI (kR 0 52) τ.2.2 → zAns mX9_slip [.ref 30] (.int r) τ → K (some (.int r)) τ) : zSp 7 mX8_slip [.ref 0] σ K := by
  obtain ⟨hI, n_z, m_z, k0_z, q0, g_z, b_z, N_z, M_z, L_z, h1, h2, h3, h4, h5, h6, h7, h8, h9⟩ := id hR
  obtain ⟨⟨a1_z, a2, a3, a4⟩, ⟨a5, a6⟩, a7, ⟨a8, a9, a10⟩, a11⟩ := id h1
  obtain ⟨⟨b1, b2, b3⟩, ⟨b4, b5⟩, b6, b7⟩ := id h2
  obtain ⟨c1_z, c2_z⟩ := id h3
  obtain ⟨⟨d1_z, d2_z, d3_z⟩, ⟨d4_z, d5_z, d6_z⟩, d7_z, d8_z, d9_z⟩ := id h4
  obtain ⟨⟨e1_z, e2_z, e3_z⟩, ⟨e4_z, e5_z⟩, e6_z⟩ := id h5
  obtain ⟨⟨f1_z, f2_z, f3_z⟩, f4_z⟩ := id h6
  obtain ⟨⟨g1, g2, g3_z⟩, ⟨g4, g5_z, g6⟩, g7, g8⟩ := id h7
  have hC : zQI (kR 0 30) σ.2.2 := zR_of hI rfl rfl
  have hM_z : zQI (kR 30 52) σ.2.2 := zR_of hI rfl rfl
  refine slip_C hC a1_z a4 b1 b3 b6 b7 (fun c_z => ?_) (fun h4' τ ht c_z => ?_) (fun h4' c_z τ r_z ht hr8 hr hno => ?_)
  · have ht : zOnly (zpt []) σ σ := zOnly.rf
    have hIσ := zQI_eq hI ht.2.2
    have hM_zσ : zQI (kR 30 52) σ.2.2 := zR_of hIσ rfl rfl
    have i0_z : σ.1 30 0 = nI n_z := (ht.1 30 0 rfl).trans a2
    have i31 : σ.1 31 = σ.1 2 := (funext fun j_z => ht.1 31 j_z rfl).trans a5
    have i32 : σ.1 32 = σ.1 3 := (funext fun j_z => ht.1 32 j_z rfl).trans a6
    have i8_z : σ.1 30 8 = σ.1 0 9 := (ht.1 30 8 rfl).trans c1_z
    have i5_z : σ.1 30 5 = nI m_z := (ht.1 30 5 rfl).trans b2
    have i35 : σ.1 35 = σ.1 5 := (funext fun j_z => ht.1 35 j_z rfl).trans b4
    have i36 : σ.1 36 = σ.1 6 := (funext fun j_z => ht.1 36 j_z rfl).trans b5
    exact hK _ σ hIσ (fun K2 hK2 => slip_M hM_zσ i0_z a4 (by rw [i31, i32]; exact a7) (by rw [i8_z]; exact c2_z) i5_z b3 (by rw [i35]; exact b6) (by rw [i36]; exact b7) (fun _ => hK2 σ hR) (fun q_z => absurd q_z c_z) (fun q_z => absurd q_z c_z))
  · have hq := zRel_q hR (ht.wk zfC_s)
    have hIτ := zQI_eq hI ht.2.2
    have hM_zτ : zQI (kR 30 52) τ.2.2 := zR_of hIτ rfl rfl
    have i0_z : τ.1 30 0 = nI n_z := (ht.1 30 0 rfl).trans a2
    have i31 : τ.1 31 = σ.1 2 := (funext fun j_z => ht.1 31 j_z rfl).trans a5
    have i32 : τ.1 32 = σ.1 3 := (funext fun j_z => ht.1 32 j_z rfl).trans a6
    have i8_z : τ.1 30 8 = σ.1 0 9 := (ht.1 30 8 rfl).trans c1_z
    have i5_z : τ.1 30 5 = nI m_z := (ht.1 30 5 rfl).trans b2
    have i35 : τ.1 35 = σ.1 5 := (funext fun j_z => ht.1 35 j_z rfl).trans b4
    have i36 : τ.1 36 = σ.1 6 := (funext fun j_z => ht.1 36 j_z rfl).trans b5
    refine hK _ τ hIτ (fun K2 hK2 => slip_M hM_zτ i0_z a4 (by rw [i31, i32]; exact a7) (by rw [i8_z]; exact c2_z) i5_z b3 (by rw [i35]; exact b6) (by rw [i36]; exact b7) (fun q_z => absurd h4' q_z) (fun _ υ hu _ => hK2 υ (zRel_q hq (hu.wk zfMh_s))) (fun _ q_z => ?_))
    rw [i31, i32, i8_z, i35, i36] at q_z
    exact absurd q_z c_z
  · have hq := zRel_q hR (ht.wk zfC_s)
    have hIτ := zQI_eq hI ht.2.2
    have hM_zτ : zQI (kR 30 52) τ.2.2 := zR_of hIτ rfl rfl
    have i0_z : τ.1 30 0 = nI n_z := (ht.1 30 0 rfl).trans a2
    have i31 : τ.1 31 = σ.1 2 := (funext fun j_z => ht.1 31 j_z rfl).trans a5
    have i32 : τ.1 32 = σ.1 3 := (funext fun j_z => ht.1 32 j_z rfl).trans a6
    have i8_z : τ.1 30 8 = σ.1 0 9 := (ht.1 30 8 rfl).trans c1_z
    have i5_z : τ.1 30 5 = nI m_z := (ht.1 30 5 rfl).trans b2
    have i35 : τ.1 35 = σ.1 5 := (funext fun j_z => ht.1 35 j_z rfl).trans b4
    have i36 : τ.1 36 = σ.1 6 := (funext fun j_z => ht.1 36 j_z rfl).trans b5
    refine hK _ τ hIτ (fun K2 hK2 => slip_M hM_zτ i0_z a4 (by rw [i31, i32]; exact a7) (by rw [i8_z]; exact c2_z) i5_z b3 (by rw [i35]; exact b6) (by rw [i36]; exact b7) (fun q_z => absurd h4' q_z) (fun _ υ hu q_z => ?_) (fun _ _ υ r' hu hr8' hr' hno' => ?_))
    · rw [i31, i32, i8_z, i35, i36] at q_z
      exact absurd c_z q_z
    · rw [i31, i32, i8_z, i35, i36] at hr'
      have hno2 : ∀ j_z, r' < j_z → j_z ≤ 8 → ¬ zHw n_z (σ.1 2) (σ.1 3) (σ.1 0 9) (σ.1 5) (σ.1 6) m_z (nI j_z) := fun j_z q1_z q2_z => by
        have := hno' j_z q1_z q2_z
        rw [i31, i32, i8_z, i35, i36] at this
        exact this
      have er : r' = r_z := by
        rcases Nat.lt_trichotomy r' r_z with q_z | q_z | q_z
        · rcases hr with hr | hr
          · omega
          · exact absurd hr (hno2 r_z q_z hr8)
        · exact q_z
        · rcases hr' with hr' | hr'
          · omega
          · exact absurd hr' (hno r' q_z hr8')
      rw [er]
      exact hK2 υ (zRel_q hq (hu.wk zfMh_s))
