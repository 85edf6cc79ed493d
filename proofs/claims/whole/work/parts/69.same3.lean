set_option maxHeartbeats 4000000 in
theorem L_grip {σ : zSt} {K : Option Value → zSt → Prop} (hR : zRel σ) (hK : ∀ (r : Int32) τ, zQI (kR 0 52) τ.2.2 → zAns mX9_grip [.ref 30] (.int r) τ → K (some (.int r)) τ) : zSp 7 mX8_grip [.ref 0] σ K := by
  obtain ⟨hI, n_z, m_z, k0_z, q0, g_z, b_z, N_z, M_z, L_z, h1, h2, h3, h4, h5, h6, h7, h8, h9⟩ := id hR
  obtain ⟨⟨a1_z, a2, a3, a4⟩, ⟨a5, a6⟩, a7, ⟨a8, a9, a10⟩, a11⟩ := id h1
  obtain ⟨⟨b1, b2, b3⟩, ⟨b4, b5⟩, b6, b7⟩ := id h2
  obtain ⟨c1_z, c2_z⟩ := id h3
  obtain ⟨⟨d1_z, d2_z, d3_z⟩, ⟨d4_z, d5_z, d6_z⟩, d7_z, d8_z, d9_z⟩ := id h4
  obtain ⟨⟨e1_z, e2_z, e3_z⟩, ⟨e4_z, e5_z⟩, e6_z⟩ := id h5
  obtain ⟨⟨f1_z, f2_z, f3_z⟩, f4_z⟩ := id h6
  obtain ⟨⟨g1, g2, g3_z⟩, ⟨g4, g5_z, g6⟩, g7, g8⟩ := id h7
  have hC : zQI (kR 0 30) σ.2.2 := zR_of hI rfl rfl
  have hM_z : zQI (kR 30 52) σ.2.2 := zR_of hI rfl rfl
  refine grip_C hC f1_z f3_z (fun c_z => ?_) (fun c_z => ?_)
  · exact hK _ σ hI (fun K2 hK2 => grip_M hM_z f2_z f3_z (fun _ => hK2 σ hR) (fun q_z => absurd q_z (by omega)))
  · refine hK _ _ hI (fun K2 hK2 => grip_M (σ := zuI σ 21 2 (nI (g_z + 1))) hM_z f2_z f3_z (fun q_z => absurd q_z (by omega)) (fun _ => hK2 _ ?_))
    have hu : zOnly (zpt [6]) σ (zuI (zuI σ 21 2 (nI (g_z + 1))) 30 25 (nI (g_z + 1))) := (zOnly.rf.uI rfl).uI rfl
    refine ⟨hI, n_z, m_z, k0_z, q0, g_z + 1, b_z, N_z, M_z, L_z, zR1_fr h1 hu rfl, zR2_fr h2 hu rfl, zR3_fr h3 hu rfl, zR4_fr h4 hu rfl, zR5_fr h5 hu rfl, ?_, zR7_fr h7 hu rfl, zR8_fr h8 hu rfl, zR9_fr h9 hu rfl⟩
    exact ⟨⟨rfl, rfl, by omega⟩, f4_z⟩
set_option maxHeartbeats 4000000 in
theorem L_link {σ : zSt} {K : Option Value → zSt → Prop} {a b_ c : Int32} (hR : zRel σ) (hK : ∀ (r : Int32) τ, zQI (kR 0 52) τ.2.2 → zAns mX9_link [.ref 30, .int a, .int b_, .int c] (.int r) τ → K (some (.int r)) τ) : zSp 7 mX8_link [.ref 0, .int a, .int b_, .int c] σ K := by
  obtain ⟨hI, n_z, m_z, k0_z, q0, g_z, b_z, N_z, M_z, L_z, h1, h2, h3, h4, h5, h6, h7, h8, h9⟩ := id hR
  obtain ⟨⟨a1_z, a2, a3, a4⟩, ⟨a5, a6⟩, a7, ⟨a8, a9, a10⟩, a11⟩ := id h1
  obtain ⟨⟨b1, b2, b3⟩, ⟨b4, b5⟩, b6, b7⟩ := id h2
  obtain ⟨c1_z, c2_z⟩ := id h3
  obtain ⟨⟨d1_z, d2_z, d3_z⟩, ⟨d4_z, d5_z, d6_z⟩, d7_z, d8_z, d9_z⟩ := id h4
  obtain ⟨⟨e1_z, e2_z, e3_z⟩, ⟨e4_z, e5_z⟩, e6_z⟩ := id h5
  obtain ⟨⟨f1_z, f2_z, f3_z⟩, f4_z⟩ := id h6
  obtain ⟨⟨g1, g2, g3_z⟩, ⟨g4, g5_z, g6⟩, g7, g8⟩ := id h7
  have hC : zQI (kR 0 30) σ.2.2 := zR_of hI rfl rfl
  have hM_z : zQI (kR 30 52) σ.2.2 := zR_of hI rfl rfl
  refine link_C hC f1_z f3_z (fun y_z => ?_) (fun i_z j_z ei hi_z ej hj y_z => ?_)
  · exact hK _ σ hI (fun K2 hK2 => link_M hM_z f2_z f3_z (fun _ => hK2 σ hR) (fun i_z j_z _ _ _ _ q_z => absurd q_z y_z))
  · refine hK _ _ hI (fun K2 hK2 => link_M (σ := (zuI (zuI σ 22 (i_z * 10 + j_z) c) 22 (j_z * 10 + i_z) c)) hM_z f2_z f3_z (fun q_z => absurd y_z q_z) (fun i' j' ei' hi' ej' hj' _ => ?_))
    have k1_z := znI_inj ei' ei (by omega) (by omega)
    have k2_z := znI_inj ej' ej (by omega) (by omega)
    rw [k1_z, k2_z]
    refine hK2 _ ?_
    have hu : zOnly (zpt [6]) σ (zuI (zuI (zuI (zuI σ 22 (i_z * 10 + j_z) c) 22 (j_z * 10 + i_z) c) 45 (i_z * 10 + j_z) c) 45 (j_z * 10 + i_z) c) := (((zOnly.rf.uI rfl).uI rfl).uI rfl).uI rfl
    refine ⟨hI, n_z, m_z, k0_z, q0, g_z, b_z, N_z, M_z, L_z, zR1_fr h1 hu rfl, zR2_fr h2 hu rfl, zR3_fr h3 hu rfl, zR4_fr h4 hu rfl, zR5_fr h5 hu rfl, ?_, zR7_fr h7 hu rfl, zR8_fr h8 hu rfl, zR9_fr h9 hu rfl⟩
    refine ⟨⟨f1_z, f2_z, f3_z⟩, fun x_z z_z hx hz => ?_⟩
    show (upd (upd (σ.1 22) (i_z * 10 + j_z) c) (j_z * 10 + i_z) c (x_z * 10 + z_z) = 0 ∧ (upd (upd (σ.1 45) (i_z * 10 + j_z) c) (j_z * 10 + i_z) c (x_z * 10 + z_z)).toInt = 100000000) ∨ (upd (upd (σ.1 22) (i_z * 10 + j_z) c) (j_z * 10 + i_z) c (x_z * 10 + z_z) = upd (upd (σ.1 45) (i_z * 10 + j_z) c) (j_z * 10 + i_z) c (x_z * 10 + z_z) ∧ 1 ≤ (upd (upd (σ.1 45) (i_z * 10 + j_z) c) (j_z * 10 + i_z) c (x_z * 10 + z_z)).toInt ∧ (upd (upd (σ.1 45) (i_z * 10 + j_z) c) (j_z * 10 + i_z) c (x_z * 10 + z_z)).toInt ≤ 1000)
    have hc_z := y_z.2.2.2
    by_cases q1_z : x_z * 10 + z_z = j_z * 10 + i_z
    · rw [q1_z, pk_us, pk_us]; exact Or.inr ⟨rfl, hc_z⟩
    · rw [pk_un q1_z, pk_un q1_z]
      by_cases q2_z : x_z * 10 + z_z = i_z * 10 + j_z
      · rw [q2_z, pk_us, pk_us]; exact Or.inr ⟨rfl, hc_z⟩
      · rw [pk_un q2_z, pk_un q2_z]; exact f4_z x_z z_z hx hz
set_option maxHeartbeats 4000000 in
theorem L_way {σ : zSt} {K : Option Value → zSt → Prop} {a b_ : Int32} (hR : zRel σ) (hK : ∀ (r : Int32) τ, zQI (kR 0 52) τ.2.2 → zAns mX9_way [.ref 30, .int a, .int b_] (.int r) τ → K (some (.int r)) τ) : zSp 7 mX8_way [.ref 0, .int a, .int b_] σ K := by
  obtain ⟨hI, n_z, m_z, k0_z, q0, g_z, b_z, N_z, M_z, L_z, h1, h2, h3, h4, h5, h6, h7, h8, h9⟩ := id hR
  obtain ⟨⟨a1_z, a2, a3, a4⟩, ⟨a5, a6⟩, a7, ⟨a8, a9, a10⟩, a11⟩ := id h1
  obtain ⟨⟨b1, b2, b3⟩, ⟨b4, b5⟩, b6, b7⟩ := id h2
  obtain ⟨c1_z, c2_z⟩ := id h3
  obtain ⟨⟨d1_z, d2_z, d3_z⟩, ⟨d4_z, d5_z, d6_z⟩, d7_z, d8_z, d9_z⟩ := id h4
  obtain ⟨⟨e1_z, e2_z, e3_z⟩, ⟨e4_z, e5_z⟩, e6_z⟩ := id h5
  obtain ⟨⟨f1_z, f2_z, f3_z⟩, f4_z⟩ := id h6
  obtain ⟨⟨g1, g2, g3_z⟩, ⟨g4, g5_z, g6⟩, g7, g8⟩ := id h7
  have hC : zQI (kR 0 30) σ.2.2 := zR_of hI rfl rfl
  have hM_z : zQI (kR 30 52) σ.2.2 := zR_of hI rfl rfl
  have hcc : zCC (σ.1 22) (σ.1 45) g_z := zCC_sub f4_z f3_z
  refine way_C hC f1_z f3_z (fun y_z => ?_) (fun τ j_z ht ej hj y_z => ?_)
  · exact hK _ σ hI (fun K2 hK2 => way_M hM_z f2_z f3_z (zCC_ok hcc) (fun _ => hK2 σ hR) (fun υ D_z p_z q_z hu _ _ _ _ z_z => absurd z_z y_z) (fun υ D_z p_z q_z hu _ _ _ _ z_z => absurd z_z y_z))
  · have hq := zRel_q hR (ht.wk zfa23_s)
    have hIτ := zQI_eq hI ht.2.2
    have hM_zτ : zQI (kR 30 52) τ.2.2 := zR_of hIτ rfl rfl
    have i25 : τ.1 30 25 = nI g_z := (ht.1 30 25 rfl).trans f2_z
    have i45 : τ.1 45 = σ.1 45 := funext fun j_z => ht.1 45 j_z rfl
    refine hK _ τ hIτ (fun K2 hK2 => way_M hM_zτ i25 f3_z (by rw [i45]; exact zCC_ok hcc) (fun z_z => absurd y_z z_z) (fun υ D_z p_z q_z hu ep hp eq_z hq2 _ hx hlt => ?_) (fun υ D_z p_z q_z hu ep hp eq_z hq2 _ hx hlt => ?_))
    · rw [i45] at hx
      have k1_z := znI_inj eq_z ej (by omega) (by omega)
      have hw := zWay_eq f3_z hcc hx ep hp hq2
      rw [if_neg hlt, k1_z] at hw
      rw [hw] at hK2
      exact hK2 υ (zRel_q hq (hu.wk zfa46_s))
    · rw [i45] at hx
      have k1_z := znI_inj eq_z ej (by omega) (by omega)
      have hw := zWay_eq f3_z hcc hx ep hp hq2
      rw [if_pos hlt, k1_z] at hw
      rw [k1_z]
      rw [hw] at hK2
      exact hK2 υ (zRel_q hq (hu.wk zfa46_s))
set_option maxHeartbeats 4000000 in
theorem L_drop {σ : zSt} {K : Option Value → zSt → Prop} (hR : zRel σ) (hK : ∀ (r : Int32) τ, zQI (kR 0 52) τ.2.2 → zAns mX9_drop [.ref 30] (.int r) τ → K (some (.int r)) τ) : zSp 7 mX8_drop [.ref 0] σ K := by
  obtain ⟨hI, n_z, m_z, k0_z, q0, g_z, b_z, N_z, M_z, L_z, h1, h2, h3, h4, h5, h6, h7, h8, h9⟩ := id hR
  obtain ⟨⟨a1_z, a2, a3, a4⟩, ⟨a5, a6⟩, a7, ⟨a8, a9, a10⟩, a11⟩ := id h1
  obtain ⟨⟨b1, b2, b3⟩, ⟨b4, b5⟩, b6, b7⟩ := id h2
  obtain ⟨c1_z, c2_z⟩ := id h3
  obtain ⟨⟨d1_z, d2_z, d3_z⟩, ⟨d4_z, d5_z, d6_z⟩, d7_z, d8_z, d9_z⟩ := id h4
  obtain ⟨⟨e1_z, e2_z, e3_z⟩, ⟨e4_z, e5_z⟩, e6_z⟩ := id h5
  obtain ⟨⟨f1_z, f2_z, f3_z⟩, f4_z⟩ := id h6
  obtain ⟨⟨g1, g2, g3_z⟩, ⟨g4, g5_z, g6⟩, g7, g8⟩ := id h7
  have hC : zQI (kR 0 30) σ.2.2 := zR_of hI rfl rfl
  have hM_z : zQI (kR 30 52) σ.2.2 := zR_of hI rfl rfl
  refine drop_C hC g1 g3_z (fun c_z => ?_) (fun c_z => ?_)
  · exact hK _ σ hI (fun K2 hK2 => drop_M hM_z g2 g3_z (fun _ => hK2 σ hR) (fun q_z => absurd q_z (by omega)))
  · refine hK _ _ hI (fun K2 hK2 => drop_M (σ := (zuI (zuI σ 24 1 (σ.1 24 1 ||| (1 <<< (nI b_z &&& 31)))) 24 2 (nI (b_z + 1)))) hM_z g2 g3_z (fun q_z => absurd q_z (by omega)) (fun _ => hK2 _ ?_))
    have hu : zOnly (zpt [7]) σ (zuI (zuI (zuI (zuI σ 24 1 (σ.1 24 1 ||| (1 <<< (nI b_z &&& 31)))) 24 2 (nI (b_z + 1))) 30 29 (σ.1 30 29 ||| (1 <<< (nI b_z &&& 31)))) 30 28 (nI (b_z + 1))) := (((zOnly.rf.uI rfl).uI rfl).uI rfl).uI rfl
    have hp : 2 ^ (b_z + 1) = 2 * 2 ^ b_z := by rw [Nat.pow_succ, Nat.mul_comm]
    refine ⟨hI, n_z, m_z, k0_z, q0, g_z, b_z + 1, N_z ||| 2 ^ b_z, M_z, L_z, zR1_fr h1 hu rfl, zR2_fr h2 hu rfl, zR3_fr h3 hu rfl, zR4_fr h4 hu rfl, zR5_fr h5 hu rfl, zR6_fr h6 hu rfl, ?_, zR8_fr h8 hu rfl, zR9_fr h9 hu rfl⟩
    refine ⟨⟨rfl, rfl, by omega⟩, ⟨?_, ?_, Nat.or_lt_two_pow (by omega) (by have := Nat.pow_pos (n := b_z) (show 0 < 2 by decide); omega)⟩, g7, g8⟩
    · show σ.1 24 1 ||| (1 <<< (nI b_z &&& 31)) = nI (N_z ||| 2 ^ b_z)
      rw [g4, zshl12 b_z c_z, znor]
    · show σ.1 30 29 ||| (1 <<< (nI b_z &&& 31)) = nI (N_z ||| 2 ^ b_z)
      rw [g5_z, zshl12 b_z c_z, znor]
set_option maxHeartbeats 4000000 in
theorem L_on {σ : zSt} {K : Option Value → zSt → Prop} {a b_ : Int32} (hR : zRel σ) (hK : ∀ (r : Int32) τ, zQI (kR 0 52) τ.2.2 → zAns mX9_on [.ref 30, .int a, .int b_] (.int r) τ → K (some (.int r)) τ) : zSp 7 mX8_on [.ref 0, .int a, .int b_] σ K := by
  obtain ⟨hI, n_z, m_z, k0_z, q0, g_z, b_z, N_z, M_z, L_z, h1, h2, h3, h4, h5, h6, h7, h8, h9⟩ := id hR
  obtain ⟨⟨a1_z, a2, a3, a4⟩, ⟨a5, a6⟩, a7, ⟨a8, a9, a10⟩, a11⟩ := id h1
  obtain ⟨⟨b1, b2, b3⟩, ⟨b4, b5⟩, b6, b7⟩ := id h2
  obtain ⟨c1_z, c2_z⟩ := id h3
  obtain ⟨⟨d1_z, d2_z, d3_z⟩, ⟨d4_z, d5_z, d6_z⟩, d7_z, d8_z, d9_z⟩ := id h4
  obtain ⟨⟨e1_z, e2_z, e3_z⟩, ⟨e4_z, e5_z⟩, e6_z⟩ := id h5
  obtain ⟨⟨f1_z, f2_z, f3_z⟩, f4_z⟩ := id h6
  obtain ⟨⟨g1, g2, g3_z⟩, ⟨g4, g5_z, g6⟩, g7, g8⟩ := id h7
  have hC : zQI (kR 0 30) σ.2.2 := zR_of hI rfl rfl
  have hM_z : zQI (kR 30 52) σ.2.2 := zR_of hI rfl rfl
  refine on_C hC g1 g3_z (fun y_z => ?_) (fun j_z ej hj y_z => ?_)
  · exact hK _ σ hI (fun K2 hK2 => on_M hM_z g2 g3_z (fun _ => hK2 σ hR) (fun j_z _ _ q_z => absurd q_z y_z))
  · refine hK _ _ hI (fun K2 hK2 => on_M (σ := (zuI σ 25 j_z (σ.1 25 j_z ||| (1 <<< (a &&& 31))))) hM_z g2 g3_z (fun q_z => absurd y_z q_z) (fun j' ej' hj' _ => ?_))
    have k1_z := znI_inj ej' ej (by omega) (by omega)
    rw [k1_z]
    refine hK2 _ ?_
    have hu : zOnly (zpt [7]) σ (zuI (zuI σ 25 j_z (σ.1 25 j_z ||| (1 <<< (a &&& 31)))) 47 j_z (σ.1 47 j_z ||| (1 <<< (a &&& 31)))) := (zOnly.rf.uI rfl).uI rfl
    obtain ⟨p_z, hp, _, _⟩ := zNat (x := a) y_z.1.1
    have hpb : p_z < b_z := by have := y_z.1.2; omega
    refine ⟨hI, n_z, m_z, k0_z, q0, g_z, b_z, N_z, (fun i_z => if i_z = j_z then M_z j_z ||| 2 ^ p_z else M_z i_z), L_z, zR1_fr h1 hu rfl, zR2_fr h2 hu rfl, zR3_fr h3 hu rfl, zR4_fr h4 hu rfl, zR5_fr h5 hu rfl, zR6_fr h6 hu rfl, ?_, zR8_fr h8 hu rfl, zR9_fr h9 hu rfl⟩
    refine ⟨⟨g1, g2, g3_z⟩, ⟨g4, g5_z, g6⟩, ?_, fun i_z hi_z => ?_⟩
    · show upd (σ.1 47) j_z (σ.1 47 j_z ||| (1 <<< (a &&& 31))) = upd (σ.1 25) j_z (σ.1 25 j_z ||| (1 <<< (a &&& 31)))
      rw [g7]
    · show upd (σ.1 25) j_z (σ.1 25 j_z ||| (1 <<< (a &&& 31))) i_z = nI (if i_z = j_z then M_z j_z ||| 2 ^ p_z else M_z i_z) ∧ (if i_z = j_z then M_z j_z ||| 2 ^ p_z else M_z i_z) < 4096
      have h12 := z2p12 (show p_z < 12 by omega)
      by_cases q_z : i_z = j_z
      · rw [if_pos q_z, q_z, pk_us, (g8 j_z (by omega)).1, hp, zshl12 p_z (by omega), znor]
        exact ⟨rfl, Nat.or_lt_two_pow (n := 12) (g8 j_z (by omega)).2 (by omega)⟩
      · rw [if_neg q_z, pk_un q_z]; exact g8 i_z hi_z
set_option maxHeartbeats 4000000 in
theorem L_pick {σ : zSt} {K : Option Value → zSt → Prop} {a : Int32} (hR : zRel σ) (hK : ∀ (r : Int32) τ, zQI (kR 0 52) τ.2.2 → zAns mX9_pick [.ref 30, .int a] (.int r) τ → K (some (.int r)) τ) : zSp 7 mX8_pick [.ref 0, .int a] σ K := by
  obtain ⟨hI, n_z, m_z, k0_z, q0, g_z, b_z, N_z, M_z, L_z, h1, h2, h3, h4, h5, h6, h7, h8, h9⟩ := id hR
  obtain ⟨⟨a1_z, a2, a3, a4⟩, ⟨a5, a6⟩, a7, ⟨a8, a9, a10⟩, a11⟩ := id h1
  obtain ⟨⟨b1, b2, b3⟩, ⟨b4, b5⟩, b6, b7⟩ := id h2
  obtain ⟨c1_z, c2_z⟩ := id h3
  obtain ⟨⟨d1_z, d2_z, d3_z⟩, ⟨d4_z, d5_z, d6_z⟩, d7_z, d8_z, d9_z⟩ := id h4
  obtain ⟨⟨e1_z, e2_z, e3_z⟩, ⟨e4_z, e5_z⟩, e6_z⟩ := id h5
  obtain ⟨⟨f1_z, f2_z, f3_z⟩, f4_z⟩ := id h6
  obtain ⟨⟨g1, g2, g3_z⟩, ⟨g4, g5_z, g6⟩, g7, g8⟩ := id h7
  have hC : zQI (kR 0 30) σ.2.2 := zR_of hI rfl rfl
  have hM_z : zQI (kR 30 52) σ.2.2 := zR_of hI rfl rfl
  refine pick_C2 hC g1 g3_z (fun y_z => ?_) (fun y_z z_z => ?_) (fun j_z ej hj y_z z1 z2 => ?_)
  · exact hK _ σ hI (fun K2 hK2 => pick_M2 hM_z g2 g3_z (fun _ => hK2 σ hR) (fun q_z => absurd q_z y_z) (fun j_z _ _ q_z => absurd q_z y_z))
  · refine hK _ σ hI (fun K2 hK2 => pick_M2 hM_z g2 g3_z (fun q_z => absurd y_z q_z) (fun _ _ => hK2 σ hR) (fun j_z ej hj _ q1_z q2_z => absurd ?_ z_z))
    rw [g5_z] at q1_z
    rw [g5_z, g7] at q2_z
    rw [g4]
    exact ⟨q1_z, fun j' ej' hj' => by rw [znI_inj ej' ej (by omega) (by omega)]; exact q2_z⟩
  · have hp4 := z2n12 g3_z
    refine hK _ _ hI (fun K2 hK2 => pick_M2 (σ := (zuI σ 24 1 (σ.1 24 1 &&& ((1 <<< (a &&& 31)) ^^^ (-1))))) hM_z g2 g3_z (fun q_z => absurd y_z q_z) (fun _ q_z => absurd ?_ q_z) (fun j' ej' hj' _ _ _ => ?_))
    · show zBit (σ.1 30 29) a ∧ ∀ j_z, a = nI j_z → j_z < b_z → (σ.1 47 j_z &&& σ.1 30 29) = 0
      rw [g5_z, g7, ← g4]
      exact ⟨z1, fun j' ej' hj' => by rw [znI_inj ej' ej (by omega) (by omega)]; exact z2⟩
    · refine hK2 _ ?_
      have hu : zOnly (zpt [7]) σ (zuI (zuI σ 24 1 (σ.1 24 1 &&& ((1 <<< (a &&& 31)) ^^^ (-1)))) 30 29 (σ.1 30 29 &&& ((1 <<< (a &&& 31)) ^^^ (-1)))) := (zOnly.rf.uI rfl).uI rfl
      have hrv := zRv_I (x := N_z) (a := j_z) (by omega) (by omega)
      refine ⟨hI, n_z, m_z, k0_z, q0, g_z, b_z, zRv N_z j_z, M_z, L_z, zR1_fr h1 hu rfl, zR2_fr h2 hu rfl, zR3_fr h3 hu rfl, zR4_fr h4 hu rfl, zR5_fr h5 hu rfl, zR6_fr h6 hu rfl, ?_, zR8_fr h8 hu rfl, zR9_fr h9 hu rfl⟩
      refine ⟨⟨g1, g2, g3_z⟩, ⟨?_, ?_, Nat.lt_of_le_of_lt Nat.and_le_left g6⟩, g7, g8⟩
      · show σ.1 24 1 &&& ((1 <<< (a &&& 31)) ^^^ (-1)) = nI (zRv N_z j_z)
        rw [g4, ej]; exact hrv
      · show σ.1 30 29 &&& ((1 <<< (a &&& 31)) ^^^ (-1)) = nI (zRv N_z j_z)
        rw [g5_z, ej]; exact hrv
set_option maxHeartbeats 4000000 in
theorem L_stuck {σ : zSt} {K : Option Value → zSt → Prop} (hR : zRel σ) (hK : ∀ (r : Int32) τ, zQI (kR 0 52) τ.2.2 → zAns mX9_stuck [.ref 30] (.int r) τ → K (some (.int r)) τ) : zSp 7 mX8_stuck [.ref 0] σ K := by
  obtain ⟨hI, n_z, m_z, k0_z, q0, g_z, b_z, N_z, M_z, L_z, h1, h2, h3, h4, h5, h6, h7, h8, h9⟩ := id hR
  obtain ⟨⟨a1_z, a2, a3, a4⟩, ⟨a5, a6⟩, a7, ⟨a8, a9, a10⟩, a11⟩ := id h1
  obtain ⟨⟨b1, b2, b3⟩, ⟨b4, b5⟩, b6, b7⟩ := id h2
  obtain ⟨c1_z, c2_z⟩ := id h3
  obtain ⟨⟨d1_z, d2_z, d3_z⟩, ⟨d4_z, d5_z, d6_z⟩, d7_z, d8_z, d9_z⟩ := id h4
  obtain ⟨⟨e1_z, e2_z, e3_z⟩, ⟨e4_z, e5_z⟩, e6_z⟩ := id h5
  obtain ⟨⟨f1_z, f2_z, f3_z⟩, f4_z⟩ := id h6
  obtain ⟨⟨g1, g2, g3_z⟩, ⟨g4, g5_z, g6⟩, g7, g8⟩ := id h7
  have hC : zQI (kR 0 30) σ.2.2 := zR_of hI rfl rfl
  have hM_z : zQI (kR 30 52) σ.2.2 := zR_of hI rfl rfl
  obtain ⟨G_z, s1_z, s2_z, s3_z⟩ := zStk_I g8 g3_z g6
  refine stuck_C hC g1 g3_z ?_
  refine hK _ σ hI (fun K2 hK2 => stuck_M hM_z g2 g3_z (by rw [g7]; exact g8) g5_z g6 (fun R_z hR2 hlt => ?_))
  rw [zGr_one hR2 s2_z, ← s1_z, ← g4]
  exact hK2 σ hR
set_option maxHeartbeats 4000000 in
theorem L_reach {σ : zSt} {K : Option Value → zSt → Prop} {a : Int32} (hR : zRel σ) (hK : ∀ (r : Int32) τ, zQI (kR 0 52) τ.2.2 → zAns mX9_reach [.ref 30, .int a] (.int r) τ → K (some (.int r)) τ) : zSp 7 mX8_reach [.ref 0, .int a] σ K := by
  obtain ⟨hI, n_z, m_z, k0_z, q0, g_z, b_z, N_z, M_z, L_z, h1, h2, h3, h4, h5, h6, h7, h8, h9⟩ := id hR
  obtain ⟨⟨a1_z, a2, a3, a4⟩, ⟨a5, a6⟩, a7, ⟨a8, a9, a10⟩, a11⟩ := id h1
  obtain ⟨⟨b1, b2, b3⟩, ⟨b4, b5⟩, b6, b7⟩ := id h2
  obtain ⟨c1_z, c2_z⟩ := id h3
  obtain ⟨⟨d1_z, d2_z, d3_z⟩, ⟨d4_z, d5_z, d6_z⟩, d7_z, d8_z, d9_z⟩ := id h4
  obtain ⟨⟨e1_z, e2_z, e3_z⟩, ⟨e4_z, e5_z⟩, e6_z⟩ := id h5
  obtain ⟨⟨f1_z, f2_z, f3_z⟩, f4_z⟩ := id h6
  obtain ⟨⟨g1, g2, g3_z⟩, ⟨g4, g5_z, g6⟩, g7, g8⟩ := id h7
  have hC : zQI (kR 0 30) σ.2.2 := zR_of hI rfl rfl
  have hM_z : zQI (kR 30 52) σ.2.2 := zR_of hI rfl rfl
  obtain ⟨G_z, s1_z, s2_z, s3_z⟩ := zStk_I g8 g3_z g6
  have hp4 := z2n12 g3_z
  have hA : zMok (σ.1 47) M_z := by rw [g7]; exact g8
  have hbt : ∀ p_z, a = nI p_z → p_z < b_z → (zBit (zStk (σ.1 25) b_z (σ.1 24 1)) a ↔ G_z.testBit p_z = true) := fun p_z hp hpb => by
    have e_z := zbtN1 (x := G_z) (i := p_z) (by omega) (by omega)
    rw [g4, s1_z, hp, ← e_z]
    have e2_z := zbt01 (nI G_z) p_z
    unfold zBit
    unfold zbt at e2_z ⊢
    constructor
    · intro q_z; exact e2_z.resolve_left q_z
    · intro q_z q2_z; rw [q_z] at q2_z; exact absurd q2_z (by decide)
  refine reach_C hC g1 g3_z (fun y_z => ?_) (fun y_z z_z => ?_) (fun y_z z_z w_z => ?_) (fun y_z z_z w_z => ?_)
  · exact hK _ σ hI (fun K2 hK2 => reach_M hM_z g2 g3_z hA g5_z g6 (fun _ => hK2 σ hR) (fun q_z => absurd q_z y_z) (fun p_z R_z q_z => absurd q_z y_z) (fun p_z R_z q_z => absurd q_z y_z))
  · refine hK _ σ hI (fun K2 hK2 => reach_M hM_z g2 g3_z hA g5_z g6 (fun q_z => absurd y_z q_z) (fun _ _ => hK2 σ hR) (fun p_z R_z _ q_z => absurd ?_ z_z) (fun p_z R_z _ q_z => absurd ?_ z_z))
    · rw [g4, ← g5_z]; exact q_z
    · rw [g4, ← g5_z]; exact q_z
  · refine hK _ σ hI (fun K2 hK2 => reach_M hM_z g2 g3_z hA g5_z g6 (fun q_z => absurd y_z q_z) (fun _ q_z => absurd ?_ q_z) (fun p_z R_z _ _ hp hpb hpN hR2 hne => hK2 σ hR) (fun p_z R_z _ _ hp hpb hpN hR2 hz => ?_))
    · rw [g5_z, ← g4]; exact z_z
    · exact absurd hz ((zreach g6 hpN s2_z hR2).mp ((hbt p_z hp hpb).mp w_z))
  · refine hK _ σ hI (fun K2 hK2 => reach_M hM_z g2 g3_z hA g5_z g6 (fun q_z => absurd y_z q_z) (fun _ q_z => absurd ?_ q_z) (fun p_z R_z _ _ hp hpb hpN hR2 hne => ?_) (fun p_z R_z _ _ hp hpb hpN hR2 hz => ?_))
    · rw [g5_z, ← g4]; exact z_z
    · exact absurd ((hbt p_z hp hpb).mpr ((zreach g6 hpN s2_z hR2).mpr hne)) w_z
    · have e_z := zAll_I (a := p_z) g8 g6 g3_z hpb
      rw [← e_z, ← hp, ← g4]
      exact hK2 σ hR
