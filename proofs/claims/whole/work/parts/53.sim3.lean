theorem glob_set {g : Sg} {t : Sm} (h : Rel g t) {j : Nat} {x : Int32} (hx : re_num x) : Rel (qs_a g 13 j x) (qm_la t 11 j x.toInt64) := by
  refine ⟨h.1, h.2.1, h.2.2.1, fun i hi => ?_, h.2.2.2.2.1, h.2.2.2.2.2⟩
  show re_eq (upd (g 13) j x i) (vp_updL (t.2 11) j x.toInt64 i) ∧ re_num (upd (g 13) j x i)
  by_cases e : i = j
  · subst e
    rw [pk_us, pk_uLs]
    exact ⟨rfl, hx⟩
  · rw [pk_un e, pk_uLn e]
    exact h.2.2.2.1 i hi
theorem lo_iff (x : Int32) : lg_cmp x.toInt64 (-131072) < 0 ↔ x < -131072 := by
  rw [lg_cmp_lt, Int64.lt_iff_toInt_lt, Int32.toInt_toInt64, Int32.lt_iff_toInt_lt]
  exact Iff.rfl
theorem hi_iff (x : Int32) : lg_cmp x.toInt64 131072 ≤ 0 ↔ x ≤ 131072 := by
  rw [lg_cmp_le, Int64.le_iff_toInt_le, Int32.toInt_toInt64, Int32.le_iff_toInt_le]
  exact Iff.rfl
theorem s_setGlobal : sm_setGlobal Rel := by
  intro g t h x1 x2
  have h0 : Rel g (qm_i t 20 0) := h
  rcases is_below x1 (b := 24) (by decide) with ⟨e1, n1⟩ | ⟨j, hj, ex, e1⟩
  · rcases is_in x1 (b := 23) (by decide) with ⟨e2, -⟩ | ⟨j, hj, ex, -⟩
    · have e1 : f_Q_isBelow x1 24 = some 0 := e1
      have e2 : f_N_in x1 0 23 = some 0 := e2
      refine ⟨.inl ("java/lang/IllegalArgumentException", g), 0, qm_i (qm_i t 20 0) 20 1, ?_, ?_, rfl, (fun r u e => by cases e), h⟩
      · unfold f_Q_setGlobal
        rw [qs_pb_of (r := 0) e1]
        rfl
      · unfold f_N_setGlobal
        rw [qs_st_of, qs_pb_of (r := 0) e2]
        rfl
    · exact absurd ex (n1 j hj)
  · have e1 : f_Q_isBelow x1 24 = some 1 := e1
    have e2 : f_N_in x1 0 23 = some 1 := by
      rcases is_in x1 (b := 23) (by decide) with ⟨-, n2⟩ | ⟨_, _, _, e2⟩
      · exact absurd ex (n2 j hj)
      · exact e2
    have hin : vp_in x1 24 := by rw [ex]; exact vp_in_nI hj (by decide)
    have hcl : x1.toNatClampNeg = j := by rw [ex]; exact nI_clamp (by omega)
    by_cases c1 : x2 < -131072
    · refine ⟨.inl ("java/lang/IllegalArgumentException", g), 0, qm_i (qm_i t 20 0) 20 1, ?_, ?_, rfl, (fun r u e => by cases e), h⟩
      · unfold f_Q_setGlobal
        rw [qs_pb_of (r := 1) e1, if_neg (by decide), if_pos c1]
      · unfold f_N_setGlobal
        rw [qs_st_of, qs_pb_of (r := 1) e2, if_neg (by decide), if_pos ((lo_iff x2).mpr c1)]
        rfl
    · by_cases c2 : x2 ≤ 131072
      · have hx : re_num x2 := by
          refine ⟨?_, Int32.le_iff_toInt_le.mp c2⟩
          have q : ¬ x2.toInt < -131072 := fun q => c1 (Int32.lt_iff_toInt_lt.mpr q)
          omega
        refine ⟨.inr (g 13 j, qs_a g 13 j x2), g 13 j, qm_la (qm_i t 20 0) 11 j x2.toInt64, ?_, ?_, rfl, (fun r u e => by cases e; rfl), glob_set h0 hx⟩
        · unfold f_Q_setGlobal
          rw [qs_pb_of (r := 1) e1, if_neg (by decide), if_neg c1, if_pos c2, qs_in_ok hin, qs_in_ok hin, qs_st_of, hcl]
        · unfold f_N_setGlobal
          rw [qs_st_of, qs_pb_of (r := 1) e2, if_neg (by decide), if_neg (fun q => c1 ((lo_iff x2).mp q)), if_pos ((hi_iff x2).mpr c2), qs_in_ok hin, qs_in_ok hin, qs_st_of, hcl]
          rw [show (qm_i t 20 0).2 11 j = t.2 11 j from rfl, re_eq32 (h.2.2.2.1 j hj).1]
      · refine ⟨.inl ("java/lang/IllegalArgumentException", g), 0, qm_i (qm_i t 20 0) 20 1, ?_, ?_, rfl, (fun r u e => by cases e), h⟩
        · unfold f_Q_setGlobal
          rw [qs_pb_of (r := 1) e1, if_neg (by decide), if_neg c1, if_neg c2]
        · unfold f_N_setGlobal
          rw [qs_st_of, qs_pb_of (r := 1) e2, if_neg (by decide), if_neg (fun q => c1 ((lo_iff x2).mp q)), if_neg (fun q => c2 ((hi_iff x2).mp q))]
          rfl
