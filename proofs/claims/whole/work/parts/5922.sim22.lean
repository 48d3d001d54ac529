theorem go_eq {g : Sg} {t : Sm} (h : q_Rz g t) {e a : Nat} (he : e < 12) (ha : a < 2) (ze : g 7 e = 1) : (∃ u v, f_V_go g (nI e) (nI a) = some (-2, u) ∧ f_N_go t (nI e) (nI a) = some ((), v) ∧ q_Rz u v) ∨ ∃ w u v, f_V_go g (nI e) (nI a) = some (w, u) ∧ ¬ w = -2 ∧ -1 ≤ w.toInt ∧ w.toInt ≤ 11 ∧ f_N_go t (nI e) (nI a) = N_tail v (nI e) w ∧ u 7 e = 1 ∧ q_Rz (qs_i u 27 (u 27 0 + 1)) v := by
  have nx := fld_n h he (k := 2 + a) (by omega)
  have ix2 : 16 * nI e + 2 + nI a = nI (16 * e + (2 + a)) := by
    rw [ixK 2 2 e, nI_add]
    exact congrArg nI (by omega)
  have k2 : (2 : Int32) + nI a = nI (2 + a) := by rw [show (2 : Int32) = nI 2 from rfl, nI_add]
  obtain ⟨n1, n2⟩ := nx
  obtain ⟨q, q1, q2⟩ := fd8_32 (y := g 8 (16 * e + (2 + a))) (by omega) (by omega)
  obtain ⟨q', q3, q4⟩ := down8 (y := (g 8 (16 * e + (2 + a))).toInt64) (by rw [ti64]; omega) (by rw [ti64]; omega)
  have hq : q' = q.toInt64 := Int64.toInt_inj.mp (by rw [ti64, q4, q2, ti64])
  subst hq
  have hqb : -16384 ≤ q.toInt ∧ q.toInt ≤ 16384 := by omega
  have hgo : f_N_go t (nI e) (nI a) = if lg_cmp q.toInt64 0 = 0 then some ((), t) else if 0 ≤ lg_cmp q.toInt64 0 then f_N_go_39 t (nI e) (nI a) q.toInt64 q.toInt64 else f_N_go_39 t (nI e) (nI a) q.toInt64 (-q.toInt64) := by
    unfold f_N_go
    rw [ix2, qs_in_ok (vp_in_nI (by omega) (by decide)), nI_clamp (by omega), q_fld h he (by omega) ze, qs_pb_of q3]
  by_cases c0 : q = 0
  · refine Or.inl ⟨g, t, ?_, ?_, h⟩
    · unfold f_V_go
      rw [k2, qs_bn_of (q_field_at he (by omega)), qs_pb_of q1, if_pos c0]
    · rw [hgo, if_pos ((lg_cmp_eq _ _).mpr (by rw [c0]; rfl))]
  have c0' : q.toInt ≠ 0 := fun z => c0 (Int32.toInt_inj.mp z)
  have le0 : (q ≤ 0) ↔ q.toInt ≤ 0 := Int32.le_iff_toInt_le
  have ge0 : (0 ≤ q) ↔ 0 ≤ q.toInt := Int32.le_iff_toInt_le
  have lle : (lg_cmp q.toInt64 0 ≤ 0) ↔ q.toInt ≤ 0 := by rw [lg_cmp_le, Int64.le_iff_toInt_le, ti64]; exact Iff.rfl
  have lge : (0 ≤ lg_cmp q.toInt64 0) ↔ 0 ≤ q.toInt := by rw [lg_cmp_ge, Int64.le_iff_toInt_le, ti64]; exact Iff.rfl
  obtain ⟨L, hL1, hL2, hL3, hL4⟩ : ∃ L : Int32, (if 0 ≤ q then q else 0 - q) = L ∧ (if 0 ≤ lg_cmp q.toInt64 0 then f_N_go_39 t (nI e) (nI a) q.toInt64 q.toInt64 else f_N_go_39 t (nI e) (nI a) q.toInt64 (-q.toInt64)) = f_N_go_39 t (nI e) (nI a) q.toInt64 L.toInt64 ∧ 0 ≤ L.toInt ∧ L.toInt ≤ 16384 := by
    by_cases c : 0 ≤ q.toInt
    · rw [if_pos (ge0.mpr c), if_pos (lge.mpr c)]
      exact ⟨q, rfl, rfl, c, by omega⟩
    · have ez : (0 - q).toInt = -q.toInt := by
        rw [q_i32_sub (by rw [show (0 : Int32).toInt = 0 from rfl]; omega) (by rw [show (0 : Int32).toInt = 0 from rfl]; omega), show (0 : Int32).toInt = 0 from rfl]; omega
      rw [if_neg (fun z => c (ge0.mp z)), if_neg (fun z => c (lge.mp z))]
      refine ⟨0 - q, rfl, ?_, by omega, by omega⟩
      rw [show -q.toInt64 = (0 - q).toInt64 from Int64.toInt_inj.mp (by rw [ti64, ez, q_i64_neg (by rw [ti64]; omega) (by rw [ti64]; omega), ti64])]
  have ug : q_Rz (qs_i (qs_i g 28 L) 29 (-2)) t := h
  obtain ⟨u1, u, v, b1, b2, b3, b4, b5, b6, b7⟩ := block_eq ug he ha ze (up := if q ≤ 0 then 0 else 1) (L := L) rfl rfl
  have b6 : u 8 = g 8 := b6
  have b7 : u 7 = g 7 := b7
  have ze' : u 7 e = 1 := by rw [b7]; exact ze
  have hfar : 0 ≤ (u 28 0).toInt ∧ (u 28 0).toInt ≤ L.toInt := by
    rcases b5 with ⟨m1, m2, m3⟩ | ⟨m1, m2, m3, m4, m5, m6, m7⟩
    · rw [m2]; omega
    · omega
  have hcls : f_V_go g (nI e) (nI a) = f_V_go_101 u (nI e) (nI a) (u 8 (16 * e + (2 + a))) (u 8 (16 * e + a)) (if q ≤ 0 then -(u 28 0) else u 28 0) := by
    unfold f_V_go
    rw [k2, qs_bn_of (q_field_at he (by omega)), qs_pb_of q1, if_neg c0, hL1, qs_st_of, qs_st_of, b6]
    unfold f_V_go_56 f_V_go_72
    by_cases c : q ≤ 0
    · rw [if_pos c] at b1 b2
      rw [if_pos c, if_pos c, qs_bn_of b1, if_pos c, qs_bn_of b2, qs_bn_of (q_field_at he (by omega)), if_pos c, b6]
    · rw [if_neg c] at b1 b2
      rw [if_neg c, if_neg c, qs_bn_of b1, if_neg c, qs_bn_of b2, qs_bn_of (q_field_at he (by omega)), if_neg c, b6]
  have hR : (if q ≤ 0 then -(u 28 0) else u 28 0).toInt64 = if lg_cmp q.toInt64 0 ≤ 0 then -(u 28 0).toInt64 else (u 28 0).toInt64 := by
    by_cases c : q.toInt ≤ 0
    · rw [if_pos (le0.mpr c), if_pos (lle.mpr c), q_neg64 (by omega)]
    · rw [if_neg (fun z => c (le0.mp z)), if_neg (fun z => c (lle.mp z))]
  have hRb : -20000 ≤ (if q ≤ 0 then -(u 28 0) else u 28 0).toInt ∧ (if q ≤ 0 then -(u 28 0) else u 28 0).toInt ≤ 20000 := by
    by_cases c : q ≤ 0
    · rw [if_pos c, q_i32_neg (by omega) (by omega)]; omega
    · rw [if_neg c]; omega
  have h55 : f_N_go t (nI e) (nI a) = if v.1 27 0 = -2 then f_N_go_81 v (nI e) (nI a) q.toInt64 L.toInt64 else if 0 ≤ lg_cmp (v.2 28 0) L.toInt64 then f_N_go_81 v (nI e) (nI a) q.toInt64 L.toInt64 else f_N_go_82 v (nI e) (nI a) q.toInt64 L.toInt64 1 := by
    rw [hgo, if_neg (show ¬ lg_cmp q.toInt64 0 = 0 from fun z => c0 (t64_inj (y := 0) ((lg_cmp_eq _ _).mp z))), hL2]
    unfold f_N_go_39 f_N_go_55
    by_cases c : q.toInt ≤ 0
    · rw [if_pos (le0.mpr c)] at b3
      rw [if_pos (lle.mpr c), qs_bn_of b3]
    · rw [if_neg (fun z => c (le0.mp z))] at b3
      rw [if_neg (fun z => c (lle.mp z)), qs_bn_of b3]
  have h104 : ∀ x7 : Int32, f_N_go_104 v (nI e) (nI a) q.toInt64 x7 (v.1 27 0) (u 28 0).toInt64 = f_N_go_141 v (nI e) (nI a) x7 (v.1 27 0) (nI (16 * e + a)) (v.2 1 (16 * e + a)) (if q ≤ 0 then -(u 28 0) else u 28 0).toInt64 := by
    intro x7
    unfold f_N_go_104
    rw [ix_ke, qs_in_ok (vp_in_nI (by omega) (by decide)), nI_clamp (by omega), hR]
    by_cases c : lg_cmp q.toInt64 0 ≤ 0
    · rw [if_pos c, if_pos c]
    · rw [if_neg c, if_neg c]
  obtain ⟨g1, g2⟩ := go_end b4 he ha ze' hRb.1 hRb.2
  rcases b5 with ⟨m1, m2, m3⟩ | ⟨m1, m2, m3, m4, m5, m6, m7⟩
  · obtain ⟨u', v', w1, w2, w3⟩ := g1 m1
    refine Or.inl ⟨u', v', hcls.trans w1, ?_, w3⟩
    have h81 : f_N_go_81 v (nI e) (nI a) q.toInt64 L.toInt64 = some ((), v') := by
      unfold f_N_go_81 f_N_go_82
      rw [if_pos rfl, ← m2, h104]
      exact w2
    rw [h55]
    by_cases c : v.1 27 0 = -2
    · rw [if_pos c]; exact h81
    · rcases m3 with m3 | m3
      · exact absurd m3 c
      · rw [if_neg c, if_pos ((lg_cmp_ge _ _).mpr (Int64.le_iff_toInt_le.mpr (by rw [ti64]; exact m3)))]; exact h81
  · have hn : ¬ u 29 0 = -2 := by rw [m1]; exact m2
    obtain ⟨u', v', w1, w2, w3, w4⟩ := g2 hn m1
    refine Or.inr ⟨u 29 0, u', v', hcls.trans w1, hn, by rw [m1]; exact m3, by rw [m1]; exact m4, ?_, w3, w4⟩
    rw [h55, if_neg m2, if_neg (fun z => by
      have z1 := Int64.le_iff_toInt_le.mp ((lg_cmp_ge _ _).mp z)
      rw [m5, ti64, ti64] at z1
      omega)]
    unfold f_N_go_82
    rw [if_neg (by decide), m5, h104]
    exact w2
theorem travel_eq {g : Sg} {t : Sm} (h : q_Rz g t) {e a : Nat} (he : e < 12) (ha : a < 2) (ze : g 7 e = 1) : ∃ u v, f_V_travel g (nI e) (nI a) = some ((), u) ∧ f_N_go t (nI e) (nI a) = some ((), v) ∧ q_Rz u v := by
  rcases go_eq h he ha ze with ⟨u, v, e1, e2, e3⟩ | ⟨w, u, v, e1, hw, w1, w2, e2, zu, e3⟩
  · refine ⟨u, v, ?_, e2, e3⟩
    unfold f_V_travel
    rw [qs_bn_of e1, if_pos rfl]
  · obtain ⟨r, u2, v2, q1, q2, q3⟩ := touch_eq e3 he zu w1 w2
    have hc : f_V_travel g (nI e) (nI a) = qs_bn (f_E_isThere u2 w) fun r9 u10 => if r9 = 0 then some ((), u10) else qs_bn (f_E_isThere u10 (nI e)) fun r12 u13 => if r12 = 0 then some ((), u13) else qs_bn (f_E_wholeField u13 w 8) fun r15 u16 => qs_bn (f_M_start u16 (r15 - 1) w (nI e)) fun _ u18 => some ((), u18) := by
      unfold f_V_travel
      rw [qs_bn_of e1, if_neg hw, qs_st_of, qs_bn_of (wf_K 8 8 he), qs_bn_of q1]
    rw [hc, e2]
    unfold N_tail
    rw [qs_bn_of q2]
    by_cases c : w < 0
    · refine ⟨u2, v2, ?_, if_pos c, q3⟩
      rw [qs_bn_of (show f_E_isThere u2 w = some (0, u2) by unfold f_E_isThere; rw [if_pos c]), if_pos rfl]
    · obtain ⟨j, hj', rfl⟩ := nI_of c
      have hj : j < 12 := by
        rw [nI_toInt hj'] at w2
        omega
      rw [if_neg c, qs_in_ok (vp_in_nI he (by decide)), qs_in_ok (vp_in_nI hj (by decide)), nI_clamp (n := e) (by omega), nI_clamp (n := j) (by omega), th_is q3 he, th_is q3 hj, qs_bn_of (there_at hj (th_01 q3 hj))]
      rcases th_01 q3 hj with zj | zj
      · refine ⟨u2, v2, if_pos zj, ?_, q3⟩
        by_cases d : u2 7 e = 0
        · rw [if_pos d]
        · rw [if_neg d, if_pos zj]
      · rw [if_neg (show ¬ u2 7 j = 0 by rw [zj]; decide), if_neg (show ¬ u2 7 j = 0 by rw [zj]; decide), qs_bn_of (there_at he (th_01 q3 he))]
        by_cases d : u2 7 e = 0
        · rw [if_pos d, if_pos d]
          exact ⟨u2, v2, rfl, rfl, q3⟩
        · obtain ⟨r', u3, v3, q4, q5, q6⟩ := touch_eq q3 hj zj (nI_bd he).1 (nI_bd he).2
          rw [if_neg d, if_neg d, qs_bn_of (wf_K 8 8 hj), qs_bn_of q4, qs_bn_of q5]
          exact ⟨u3, v3, rfl, rfl, q6⟩
theorem travel_gone {g : Sg} {t : Sm} (h : q_Rz g t) {e a : Nat} (he : e < 12) (ha : a < 2) (ze : g 7 e = 0) : f_V_travel g (nI e) (nI a) = some ((), g) := by
  have k2 : (2 : Int32) + nI a = nI (2 + a) := by rw [show (2 : Int32) = nI 2 from rfl, nI_add]
  obtain ⟨q, q1, q2⟩ := fd8_32 (y := 0) (by decide) (by decide)
  have q0 : q = 0 := Int32.toInt_inj.mp (by rw [q2]; rfl)
  subst q0
  have e1 : f_V_go g (nI e) (nI a) = some (-2, g) := by
    unfold f_V_go
    rw [k2, qs_bn_of (q_field_at he (by omega)), fld_0 h he (by omega) ze, qs_pb_of q1, if_pos rfl]
  unfold f_V_travel
  rw [qs_bn_of e1, if_pos rfl]
