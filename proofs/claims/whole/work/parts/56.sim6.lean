theorem w_add {g : Sg} {n : Nat} (hn : n < 6) (e : g 20 0 = nI n) (x1 x2 x3 x4 : Int32) : f_W_add g x1 x2 x3 x4 = some (nI n, qs_i (qs_a (qs_a (qs_a (qs_a g 9 (2 * n) (x1 * 8)) 9 (2 * n + 1) (x2 * 8)) 10 (2 * n) (x3 * 8)) 10 (2 * n + 1) (x4 * 8)) 20 (nI (n + 1))) := by
  have i0 : g 20 0 * 2 + 0 = nI (2 * n) := by rw [e, show (2 : Int32) = nI 2 from rfl, show (0 : Int32) = nI 0 from rfl, pk_mul, nI_add, Nat.mul_comm]; rfl
  have i1 : g 20 0 * 2 + 1 = nI (2 * n + 1) := by rw [e, show (2 : Int32) = nI 2 from rfl, pk_mul, nI_1, Nat.mul_comm]
  show qs_in (g 20 0 * 2 + 0) 12 (qs_in (g 20 0 * 2 + 1) 12 (qs_in (g 20 0 * 2 + 0) 12 (qs_in (g 20 0 * 2 + 1) 12 (some (g 20 0 + 1 - 1, qs_i (qs_a (qs_a (qs_a (qs_a g 9 (g 20 0 * 2 + 0).toNatClampNeg (x1 * 8)) 9 (g 20 0 * 2 + 1).toNatClampNeg (x2 * 8)) 10 (g 20 0 * 2 + 0).toNatClampNeg (x3 * 8)) 10 (g 20 0 * 2 + 1).toNatClampNeg (x4 * 8)) 20 (g 20 0 + 1)))))) = _
  rw [i0, i1, qs_in_ok (vp_in_nI (by omega) (by decide)), qs_in_ok (vp_in_nI (by omega) (by decide)), qs_in_ok (vp_in_nI (by omega) (by decide)), qs_in_ok (vp_in_nI (by omega) (by decide)), nI_clamp (by omega), nI_clamp (by omega), e, nI_1, nI_pred]
theorem n_add {t : Sm} {n : Nat} (hn : n < 6) (e : t.1 21 0 = nI n) {x1 x2 x3 x4 : Int32} (c1 : ¬ x3 ≤ x1) (c2 : x2 < x4) : f_N_wall_63 t x1 x2 x3 x4 1 = some (nI n, qm_i (qm_la (qm_la (qm_la (qm_la t 5 (4 * n) (8 * x1.toInt64)) 5 (4 * n + 1) (8 * x3.toInt64)) 5 (4 * n + 2) (8 * x2.toInt64)) 5 (4 * n + 3) (8 * x4.toInt64)) 21 (nI (n + 1))) := by
  have i0 : 4 * t.1 21 0 = nI (4 * n) := by rw [e, show (4 : Int32) = nI 4 from rfl, pk_mul]
  have i1 : 4 * t.1 21 0 + 1 = nI (4 * n + 1) := by rw [i0, nI_1]
  have i2 : 4 * t.1 21 0 + 2 = nI (4 * n + 2) := by rw [i0, show (2 : Int32) = nI 2 from rfl, nI_add]
  have i3 : 4 * t.1 21 0 + 3 = nI (4 * n + 3) := by rw [i0, show (3 : Int32) = nI 3 from rfl, nI_add]
  have c3 : ¬ t.1 21 0 = 6 := by rw [e]; exact fun q => absurd ((nI_eq (b := 6) (by omega) (by decide)).mp q) (by omega)
  unfold f_N_wall_63
  rw [if_neg (by decide), if_neg c1, if_pos c2, if_neg c3]
  show qs_in (4 * t.1 21 0) 24 (qs_in (4 * t.1 21 0 + 1) 24 (qs_in (4 * t.1 21 0 + 2) 24 (qs_in (4 * t.1 21 0 + 3) 24 (some (t.1 21 0 + 1 - 1, qm_i (qm_la (qm_la (qm_la (qm_la t 5 (4 * t.1 21 0).toNatClampNeg (8 * x1.toInt64)) 5 (4 * t.1 21 0 + 1).toNatClampNeg (8 * x3.toInt64)) 5 (4 * t.1 21 0 + 2).toNatClampNeg (8 * x2.toInt64)) 5 (4 * t.1 21 0 + 3).toNatClampNeg (8 * x4.toInt64)) 21 (t.1 21 0 + 1)))))) = _
  rw [i1, i2, i3, i0, qs_in_ok (vp_in_nI (by omega) (by decide)), qs_in_ok (vp_in_nI (by omega) (by decide)), qs_in_ok (vp_in_nI (by omega) (by decide)), qs_in_ok (vp_in_nI (by omega) (by decide)), nI_clamp (by omega), nI_clamp (by omega), nI_clamp (by omega), nI_clamp (by omega), e, nI_1, nI_pred]
theorem s_wall : sm_wall Rel := by
  intro g t h x1 x2 x3 x4
  have h0 : Rel g (qm_i t 20 0) := h
  have no {v : Int32} (a : f_Q_isInWorld v = some 0) : f_N_in v (-1024) 1024 = some 0 := a
  have ye {v : Int32} (a : f_Q_isInWorld v = some 1) : f_N_in v (-1024) 1024 = some 1 := a
  suffices hm : (f_Q_wall g x1 x2 x3 x4 = some (.inl ("java/lang/IllegalArgumentException", g)) ∧ f_N_wall t x1 x2 x3 x4 = some (0, qm_i (qm_i t 20 0) 20 1)) ∨ (f_Q_wall g x1 x2 x3 x4 = some (.inl ("java/lang/IllegalStateException", g)) ∧ f_N_wall t x1 x2 x3 x4 = some (0, qm_i (qm_i t 20 0) 20 2)) ∨ ∃ r u t1, f_Q_wall g x1 x2 x3 x4 = some (.inr (r, u)) ∧ f_N_wall t x1 x2 x3 x4 = some (r, t1) ∧ t1.1 20 0 = 0 ∧ Rel u t1 by
    rcases hm with ⟨q1, q2⟩ | ⟨q1, q2⟩ | ⟨r, u, t1, q1, q2, q3, q4⟩
    · exact ⟨_, 0, _, q1, q2, rfl, (fun r u e => by cases e), h⟩
    · exact ⟨_, 0, _, q1, q2, rfl, (fun r u e => by cases e), h⟩
    · exact ⟨_, r, t1, q1, q2, q3, (fun r u e => by cases e; rfl), q4⟩
  rcases in_world x1 with a1 | ⟨a1, l1, u1⟩
  · exact Or.inl ⟨by unfold f_Q_wall; rw [qs_pb_of a1]; rfl, by unfold f_N_wall; rw [qs_st_of, qs_pb_of (no a1)]; rfl⟩
  rcases in_world x2 with a2 | ⟨a2, l2, u2⟩
  · exact Or.inl ⟨by unfold f_Q_wall; rw [qs_pb_of a1, if_neg (by decide), qs_pb_of a2]; rfl, by unfold f_N_wall; rw [qs_st_of, qs_pb_of (ye a1), if_neg (by decide), qs_pb_of (no a2)]; rfl⟩
  rcases in_world x3 with a3 | ⟨a3, l3, u3⟩
  · exact Or.inl ⟨by unfold f_Q_wall; rw [qs_pb_of a1, if_neg (by decide), qs_pb_of a2, if_neg (by decide), qs_pb_of a3]; rfl, by unfold f_N_wall; rw [qs_st_of, qs_pb_of (ye a1), if_neg (by decide), qs_pb_of (ye a2), if_neg (by decide), qs_pb_of (no a3)]; rfl⟩
  rcases in_world x4 with a4 | ⟨a4, l4, u4⟩
  · exact Or.inl ⟨by unfold f_Q_wall; rw [qs_pb_of a1, if_neg (by decide), qs_pb_of a2, if_neg (by decide), qs_pb_of a3, if_neg (by decide), qs_pb_of a4]; rfl, by unfold f_N_wall; rw [qs_st_of, qs_pb_of (ye a1), if_neg (by decide), qs_pb_of (ye a2), if_neg (by decide), qs_pb_of (ye a3), if_neg (by decide), qs_pb_of (no a4)]; rfl⟩
  have eN : f_N_wall t x1 x2 x3 x4 = f_N_wall_63 (qm_i t 20 0) x1 x2 x3 x4 1 := by
    unfold f_N_wall
    rw [qs_st_of, qs_pb_of (ye a1), if_neg (by decide), qs_pb_of (ye a2), if_neg (by decide), qs_pb_of (ye a3), if_neg (by decide), qs_pb_of (ye a4), if_neg (by decide)]
  obtain ⟨hw0, n, hn, en, hw⟩ := h0.2.1
  by_cases c1 : x3 ≤ x1
  · refine Or.inl ⟨?_, ?_⟩
    · unfold f_Q_wall; rw [qs_pb_of a1, if_neg (by decide), qs_pb_of a2, if_neg (by decide), qs_pb_of a3, if_neg (by decide), qs_pb_of a4, if_neg (by decide), if_pos c1]
    · rw [eN]; unfold f_N_wall_63; rw [if_neg (by decide), if_pos c1]; rfl
  by_cases c2 : x2 < x4
  · by_cases c3 : g 20 0 = 6
    · refine Or.inr (Or.inl ⟨?_, ?_⟩)
      · unfold f_Q_wall; rw [qs_pb_of a1, if_neg (by decide), qs_pb_of a2, if_neg (by decide), qs_pb_of a3, if_neg (by decide), qs_pb_of a4, if_neg (by decide), if_neg c1, if_pos c2, if_pos c3]
      · rw [eN]; unfold f_N_wall_63; rw [if_neg (by decide), if_neg c1, if_pos c2, if_pos (hw0.trans c3)]; rfl
    · have hn6 : n < 6 := by
        rcases Nat.lt_or_ge n 6 with q | q
        · exact q
        · exact absurd (by rw [en, show n = 6 by omega]; rfl) c3
      refine Or.inr (Or.inr ⟨_, _, _, ?_, eN.trans (n_add hn6 (hw0.trans en) c1 c2), rfl, rel_wall h0 hn6 en hw (mul8 l1 u1) (mul8 l2 u2) (mul8 l3 u3) (mul8 l4 u4)⟩)
      unfold f_Q_wall; rw [qs_pb_of a1, if_neg (by decide), qs_pb_of a2, if_neg (by decide), qs_pb_of a3, if_neg (by decide), qs_pb_of a4, if_neg (by decide), if_neg c1, if_pos c2, if_neg c3, qs_bn_of (w_add hn6 en x1 x2 x3 x4)]
  · refine Or.inl ⟨?_, ?_⟩
    · unfold f_Q_wall; rw [qs_pb_of a1, if_neg (by decide), qs_pb_of a2, if_neg (by decide), qs_pb_of a3, if_neg (by decide), qs_pb_of a4, if_neg (by decide), if_neg c1, if_neg c2]
    · rw [eN]; unfold f_N_wall_63; rw [if_neg (by decide), if_neg c1, if_neg c2]; rfl
