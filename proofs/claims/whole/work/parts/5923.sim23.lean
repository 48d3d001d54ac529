theorem boxes_K (K : Int32) (k : Nat) {g : Sg} {o e : Nat} (ho : o < 12) (he : e < 12) (n1 : re_num (g 8 (16 * o + k))) (n2 : re_num (g 8 (16 * e + k))) (hk : k < 16 := by decide) (hK : K = nI k := by rfl) : f_E_boxesOverlap g (nI o) (nI e) K = some (ovl g o e k, g) := by
  rw [hK]
  exact boxes_at ho he hk n1 n2
theorem meets_K (K : Int32) (k : Nat) {g : Sg} {t : Sm} (h : q_Rz g t) {o e : Nat} (ho : o < 12) (he : e < 12) (zo : g 7 o = 1) (ze : g 7 e = 1) (hk : k < 16 := by decide) (hK : K = nI k := by rfl) : f_N_meets t (nI e) (nI o) K = some (ovl g o e k, t) := by
  rw [hK]
  exact meets_at h ho he hk zo ze
theorem trig_loop {e : Nat} (he : e < 12) : ∀ (n o : Nat) (g : Sg) (t : Sm), q_Rz g t → o ≤ 12 → 12 < o + n → ∃ u v, f_V_touchTriggers_16 n g (nI e) (nI o) = some ((), u) ∧ f_N_triggers_21 n t (nI e) (nI o) = some ((), v) ∧ q_Rz u v := by
  intro n
  induction n with
  | zero => intro o g t _ h1 h2; omega
  | succ n ih =>
    intro o g t h h1 h2
    rw [f_V_touchTriggers_16, f_N_triggers_21]
    by_cases c : o = 12
    · subst c
      rw [if_pos (show (12 : Int32) ≤ nI 12 by decide), if_pos (show (12 : Int32) ≤ nI 12 by decide)]
      exact ⟨g, t, rfl, rfl, h⟩
    have ho : o < 12 := by omega
    unfold f_V_touchTriggers_99 f_N_triggers_97
    rw [if_neg (L_ge 12 12 ho), if_neg (L_ge 12 12 ho), nI_1, qs_bn_of (there_at he (th_01 h he)), qs_in_ok (vp_in_nI he (by decide)), qs_in_ok (vp_in_nI ho (by decide)), nI_clamp (n := e) (by omega), nI_clamp (n := o) (by omega), th_is h he, th_is h ho]
    rcases th_01 h he with ze | ze
    · rw [if_pos ze, if_pos ze]
      exact ⟨g, t, rfl, rfl, h⟩
    rw [if_neg (show ¬ g 7 e = 0 by rw [ze]; decide), if_neg (show ¬ g 7 e = 0 by rw [ze]; decide)]
    have skip := ih (o + 1) g t h (by omega) (by omega)
    by_cases c1 : o = e
    · rw [if_pos (show nI o = nI e by rw [c1]), if_pos (show nI o = nI e by rw [c1])]
      exact skip
    have c1' : ¬ nI o = nI e := fun q => c1 ((nI_eq (by omega) (by omega)).mp q)
    rw [if_neg c1', if_neg c1', qs_bn_of (wf_K 5 5 ho)]
    rcases th_01 h ho with zo | zo
    · rw [fld_0 h ho (by omega) zo, if_neg (show ¬ (0 : Int32) >>> (3 &&& 31) = 1 by decide), if_pos zo]
      exact skip
    rw [if_neg (show ¬ g 7 o = 0 by rw [zo]; decide), ixK 5 5 o, qs_in_ok (vp_in_nI (n := 16 * o + 5) (by omega) (by decide)), nI_clamp (n := 16 * o + 5) (by omega), q_fld h ho (by omega) zo, qs_pb_of (whole_eq _)]
    by_cases c2 : g 8 (16 * o + 5) >>> (3 &&& 31) = 1
    · rw [if_pos c2, if_pos c2, qs_bn_of (boxes_K 0 0 ho he (fld_n h ho (by omega)) (fld_n h he (by omega))), qs_bn_of (meets_K 0 0 h ho he zo ze)]
      by_cases c3 : ovl g o e 0 = 0
      · rw [if_pos c3, if_pos c3]
        exact skip
      rw [if_neg c3, if_neg c3, qs_bn_of (boxes_K 1 1 ho he (fld_n h ho (by omega)) (fld_n h he (by omega))), qs_bn_of (meets_K 1 1 h ho he zo ze)]
      by_cases c4 : ovl g o e 1 = 0
      · rw [if_pos c4, if_pos c4]
        exact skip
      obtain ⟨r, u, v, q1, q2, q3⟩ := touch_eq h ho zo (nI_bd he).1 (nI_bd he).2
      rw [if_neg c4, if_neg c4, qs_bn_of (wf_K 8 8 ho), qs_bn_of q1, qs_bn_of q2]
      exact ih (o + 1) u v q3 (by omega) (by omega)
    · rw [if_neg c2, if_neg c2]
      exact skip
theorem trig_eq {g : Sg} {t : Sm} (h : q_Rz g t) {e : Nat} (he : e < 12) (ze : g 7 e = 1) : ∃ u v, f_V_touchTriggers g (nI e) = some ((), u) ∧ f_N_triggers t (nI e) = some ((), v) ∧ q_Rz u v := by
  unfold f_V_touchTriggers f_N_triggers
  rw [qs_bn_of (wf_K 5 5 he), ixK 5 5 e, qs_in_ok (vp_in_nI (by omega) (by decide)), nI_clamp (by omega), q_fld h he (by omega) ze, qs_pb_of (whole_eq _)]
  by_cases c : g 8 (16 * e + 5) >>> (3 &&& 31) = 1
  · rw [if_pos c, if_pos c]
    exact ⟨g, t, rfl, rfl, h⟩
  · rw [if_neg c, if_neg c]
    exact trig_loop he 200 0 g t h (by omega) (by omega)
theorem trig_gone {g : Sg} {t : Sm} (h : q_Rz g t) {e : Nat} (he : e < 12) (ze : g 7 e = 0) : f_V_touchTriggers g (nI e) = some ((), g) := by
  unfold f_V_touchTriggers
  rw [qs_bn_of (wf_K 5 5 he), fld_0 h he (by omega) ze, if_neg (show ¬ (0 : Int32) >>> (3 &&& 31) = 1 by decide), f_V_touchTriggers_16, if_neg (by decide), qs_bn_of (there_at he (Or.inl ze)), if_pos ze]
theorem think_gone {g : Sg} {t : Sm} (h : q_Rz g t) {e : Nat} (he : e < 12) (ze : g 7 e = 0) : f_V_think g (nI e) = some ((), g) ∧ f_N_turn_94 t (nI e) = some ((), t) := by
  refine ⟨?_, ?_⟩
  · unfold f_V_think
    rw [qs_bn_of (field_K 10 10 he), fld_0 h he (by omega) ze, if_pos (by decide)]
  · unfold f_N_turn_94
    rw [qs_in_ok (vp_in_nI he (by decide)), nI_clamp (by omega), th_is h he, if_pos ze]
theorem think_eq {g : Sg} {t : Sm} (h : q_Rz g t) {e : Nat} (he : e < 12) : ∃ u v, f_V_think g (nI e) = some ((), u) ∧ f_N_turn_94 t (nI e) = some ((), v) ∧ q_Rz u v := by
  rcases th_01 h he with ze | ze
  · obtain ⟨a, b⟩ := think_gone h he ze
    exact ⟨g, t, a, b, h⟩
  have tm : t.2 22 0 = (g 23 0).toInt64 := h.1.2.2.2.2.2.1
  unfold f_V_think f_N_turn_94
  rw [qs_bn_of (field_K 10 10 he), qs_in_ok (vp_in_nI he (by decide)), nI_clamp (n := e) (by omega), th_is h he, if_neg (show ¬ g 7 e = 0 by rw [ze]; decide), ixK 10 10 e, ixK 9 9 e, qs_in_ok (vp_in_nI (n := 16 * e + 10) (by omega) (by decide)), qs_in_ok (vp_in_nI (n := 16 * e + 10) (by omega) (by decide)), nI_clamp (n := 16 * e + 10) (by omega), q_fld h he (by omega) ze, tm]
  have l0 : (lg_cmp (g 8 (16 * e + 10)).toInt64 0 ≤ 0) ↔ g 8 (16 * e + 10) ≤ 0 := by rw [lg_cmp_le, Int64.le_iff_toInt_le, ti64, Int32.le_iff_toInt_le]; exact Iff.rfl
  have l1 : (lg_cmp (g 8 (16 * e + 10)).toInt64 (g 23 0).toInt64 ≤ 0) ↔ ¬ g 23 0 < g 8 (16 * e + 10) := by
    rw [lg_cmp_le, le64, Int32.le_iff_toInt_le, Int32.lt_iff_toInt_lt]
    omega
  by_cases c : g 8 (16 * e + 10) ≤ 0
  · rw [if_pos c, if_pos (l0.mpr c)]
    exact ⟨g, t, rfl, rfl, h⟩
  rw [if_neg c, if_neg (fun q => c (l0.mp q))]
  by_cases d : g 23 0 < g 8 (16 * e + 10)
  · rw [if_pos d, if_neg (fun q => (l1.mp q) d)]
    exact ⟨g, t, rfl, rfl, h⟩
  rw [if_neg d, if_pos (l1.mpr d)]
  have hp : q_Rz (qs_a g 8 (16 * e + 10) 0) (qm_la t 1 (16 * e + 10) 0) := ⟨rel_put h.1 (k := 10) (by omega) ze re_num0, h.2⟩
  have ze1 : (qs_a g 8 (16 * e + 10) 0) 7 e = 1 := ze
  obtain ⟨r, u, v, q1, q2, q3⟩ := perf_any hp (((qs_a g 8 (16 * e + 10) 0) 8 (16 * e + 9) >>> (3 &&& 31)) - 1) (a2 := nI e) (a3 := -1) (nI_bd he).1 (nI_bd he).2 (by decide) (by decide)
  refine ⟨u, v, ?_, ?_, q3⟩
  · rw [qs_bn_of (put_K 10 10 he ze 0), qs_bn_of (wf_K 9 9 he), qs_bn_of q1]
  · rw [qs_in_ok (vp_in_nI (n := 16 * e + 10) (by omega) (by decide)), qs_st_of, qs_in_ok (vp_in_nI (n := 16 * e + 9) (by omega) (by decide)), nI_clamp (n := 16 * e + 9) (by omega), q_fld hp he (by omega) ze1, qs_pb_of (whole_eq _)]
    exact q2
theorem rest_eq {g : Sg} {t : Sm} (h : q_Rz g t) {e : Nat} (he : e < 12) (ze : g 7 e = 1) : ∃ u v, f_V_takeTurn_61 g (nI e) = some ((), u) ∧ f_N_turn_59 t (nI e) = some ((), v) ∧ q_Rz u v := by
  have hin : vp_in (nI e) 12 := vp_in_nI he (by decide)
  have hcl : (nI e).toNatClampNeg = e := nI_clamp (by omega)
  obtain ⟨u1, v1, a1, a2, a3⟩ := travel_eq h he (a := 0) (by omega) ze
  have a1 : f_V_travel g (nI e) 0 = some ((), u1) := a1
  have a2 : f_N_go t (nI e) 0 = some ((), v1) := a2
  unfold f_V_takeTurn_61 f_N_turn_59
  rw [qs_bn_of a1, qs_bn_of a2, qs_in_ok hin, hcl, th_is a3 he]
  rcases th_01 a3 he with z1 | z1
  · have t1 : f_V_travel u1 (nI e) 1 = some ((), u1) := travel_gone a3 he (a := 1) (by omega) z1
    obtain ⟨k1, k2⟩ := think_gone a3 he z1
    refine ⟨u1, v1, ?_, ?_, a3⟩
    · rw [qs_bn_of t1, qs_bn_of (trig_gone a3 he z1)]
      unfold f_V_takeTurn_78
      rw [qs_bn_of k1]
    · rw [if_pos z1]
      unfold f_N_turn_80
      rw [qs_in_ok hin, hcl, th_is a3 he, if_pos z1]
      exact k2
  obtain ⟨u2, v2, b1, b2, b3⟩ := travel_eq a3 he (a := 1) (by omega) z1
  have b1 : f_V_travel u1 (nI e) 1 = some ((), u2) := b1
  have b2 : f_N_go v1 (nI e) 1 = some ((), v2) := b2
  rw [if_neg (show ¬ u1 7 e = 0 by rw [z1]; decide), qs_bn_of b1, qs_bn_of b2]
  unfold f_N_turn_80 f_V_takeTurn_78
  rw [qs_in_ok hin, hcl, th_is b3 he]
  rcases th_01 b3 he with z2 | z2
  · obtain ⟨k1, k2⟩ := think_gone b3 he z2
    refine ⟨u2, v2, ?_, ?_, b3⟩
    · rw [qs_bn_of (trig_gone b3 he z2), qs_bn_of k1]
    · rw [if_pos z2]
      exact k2
  obtain ⟨u3, v3, c1, c2, c3⟩ := trig_eq b3 he z2
  obtain ⟨u4, v4, d1, d2, d3⟩ := think_eq c3 he
  refine ⟨u4, v4, ?_, ?_, d3⟩
  · rw [qs_bn_of c1, qs_bn_of d1]
  · rw [if_neg (show ¬ u2 7 e = 0 by rw [z2]; decide), qs_bn_of c2]
    exact d2
theorem turn_eq {g : Sg} {t : Sm} (h : q_Rz g t) {e : Nat} (he : e < 12) (ze : g 7 e = 1) : ∃ u v, f_V_takeTurn g (nI e) = some ((), u) ∧ f_N_turn t (nI e) = some ((), v) ∧ q_Rz u v := by
  unfold f_V_takeTurn f_N_turn
  rw [qs_bn_of (wf_K 6 6 he), ixK 6 6 e, ixK 3 3 e, qs_in_ok (vp_in_nI (n := 16 * e + 6) (by omega) (by decide)), nI_clamp (n := 16 * e + 6) (by omega), q_fld h he (by omega) ze, qs_pb_of (whole_eq _)]
  have n3 := fld_n h he (k := 3) (by omega)
  obtain ⟨r, r1, r2, r3⟩ := clamp_eq ((g 8 (16 * e + 3)).toInt64 - (64 : Int32).toInt64)
  have e64 : (g 8 (16 * e + 3) - 64).toInt64 = (g 8 (16 * e + 3)).toInt64 - (64 : Int32).toInt64 := by
    obtain ⟨a, b⟩ := n3
    exact q_sub64 (by rw [show (64 : Int32).toInt = 64 from rfl]; omega) (by rw [show (64 : Int32).toInt = 64 from rfl]; omega)
  have r2 : f_N_clamp ((g 8 (16 * e + 3)).toInt64 - 64) = some r.toInt64 := r2
  have hp : q_Rz (qs_a g 8 (16 * e + 3) r) (qm_la t 1 (16 * e + 3) r.toInt64) := ⟨rel_put h.1 (k := 3) (by omega) ze r3, h.2⟩
  have ze1 : (qs_a g 8 (16 * e + 3) r) 7 e = 1 := ze
  generalize g 8 (16 * e + 6) >>> (3 &&& 31) = m at *
  have fall : (m = 2 ∨ m = 3) → ∃ u v, f_V_takeTurn_21 g (nI e) m = some ((), u) ∧ (qs_in (nI (16 * e + 3)) 192 (qs_pb (f_N_clamp (t.2 1 (nI (16 * e + 3)).toNatClampNeg - 64)) fun r7 => qs_in (nI (16 * e + 3)) 192 (qs_st (qm_la t 1 (nI (16 * e + 3)).toNatClampNeg r7) fun u9 => f_N_turn_59 u9 (nI e)))) = some ((), v) ∧ q_Rz u v := by
    intro hm
    obtain ⟨u, v, q1, q2, q3⟩ := rest_eq hp he ze1
    refine ⟨u, v, ?_, ?_, q3⟩
    · unfold f_V_takeTurn_21
      rw [qs_bn_of (field_K 3 3 he), e64, qs_pb_of r1, qs_bn_of (put_K 3 3 he ze r)]
      unfold f_V_takeTurn_46
      rcases hm with hm | hm
      · rw [hm, if_neg (by decide), if_pos rfl]; exact q1
      · rw [hm, if_neg (by decide), if_neg (by decide), if_pos rfl]; exact q1
    · rw [qs_in_ok (vp_in_nI (by omega) (by decide)), nI_clamp (by omega), q_fld h he (by omega) ze, qs_pb_of r2, qs_in_ok (vp_in_nI (by omega) (by decide)), qs_st_of]
      exact q2
  by_cases c2 : m = 2
  · obtain ⟨u, v, q1, q2, q3⟩ := fall (Or.inl c2)
    subst c2
    rw [if_pos rfl, qs_pb_of (show f_N_in 2 1 3 = some 1 by decide), if_neg (by decide), if_neg (by decide)]
    exact ⟨u, v, q1, q2, q3⟩
  by_cases c3 : m = 3
  · obtain ⟨u, v, q1, q2, q3⟩ := fall (Or.inr c3)
    subst c3
    rw [if_neg (by decide), if_pos rfl, qs_pb_of (show f_N_in 3 1 3 = some 1 by decide), if_neg (by decide), if_neg (by decide)]
    exact ⟨u, v, q1, q2, q3⟩
  rw [if_neg c2, if_neg c3]
  unfold f_V_takeTurn_46
  by_cases c1 : m = 1
  · subst c1
    rw [if_pos rfl, qs_pb_of (show f_N_in 1 1 3 = some 1 by decide), if_neg (by decide), if_pos (by decide)]
    exact rest_eq h he ze
  have hin : f_N_in m 1 3 = some 0 := by
    unfold f_N_in
    by_cases d1 : m < 1
    · rw [if_pos d1]
    · rw [if_neg d1]
      by_cases d2 : 3 < m
      · rw [if_pos d2]
      · have d1' : ¬ m.toInt < 1 := fun q => d1 (Int32.lt_iff_toInt_lt.mpr q)
        have d2' : ¬ 3 < m.toInt := fun q => d2 (Int32.lt_iff_toInt_lt.mpr q)
        have k1 : ¬ m.toInt = 1 := fun q => c1 (Int32.toInt_inj.mp q)
        have k2 : ¬ m.toInt = 2 := fun q => c2 (Int32.toInt_inj.mp q)
        have k3 : ¬ m.toInt = 3 := fun q => c3 (Int32.toInt_inj.mp q)
        omega
  obtain ⟨u, v, d1, d2, d3⟩ := think_eq h he
  refine ⟨u, v, ?_, ?_, d3⟩
  · rw [if_neg c1, if_neg c2, if_neg c3]
    unfold f_V_takeTurn_78
    rw [qs_bn_of d1]
  · rw [qs_pb_of hin, if_pos rfl]
    exact d2
theorem turn_gone {g : Sg} {t : Sm} (h : q_Rz g t) {e : Nat} (he : e < 12) (ze : g 7 e = 0) : f_V_takeTurn g (nI e) = some ((), g) := by
  unfold f_V_takeTurn
  rw [qs_bn_of (wf_K 6 6 he), fld_0 h he (by omega) ze, if_neg (by decide), if_neg (by decide)]
  unfold f_V_takeTurn_46
  rw [if_neg (by decide), if_neg (by decide), if_neg (by decide)]
  unfold f_V_takeTurn_78
  rw [qs_bn_of (think_gone h he ze).1]
theorem tick_in (kq : Sg → Int32 → Int32 → Option ((String × Sg) ⊕ (Int32 × Sg))) (kn : Sm → Int32 → Int32 → Option (Int32 × Sm)) (x1 x2 : Int32) : ∀ (n j : Nat) (g : Sg) (t : Sm), q_Rz g t → j ≤ 12 → 12 < j + n → ∃ u v, f_Q_tick_36 kq n g x1 x2 (nI j) = kq u x1 (x2 + 1) ∧ f_N_tick_42 kn n t x1 x2 (nI j) = kn v x1 (x2 + 1) ∧ q_Rz u v := by
  intro n
  induction n with
  | zero => intro o g t _ h1 h2; omega
  | succ n ih =>
    intro j g t h h1 h2
    rw [f_Q_tick_36, f_N_tick_42]
    by_cases c : j = 12
    · subst c
      rw [if_pos (show (12 : Int32) ≤ nI 12 by decide), if_pos (show (12 : Int32) ≤ nI 12 by decide)]
      exact ⟨g, t, rfl, rfl, h⟩
    have hj : j < 12 := by omega
    unfold f_N_tick_62
    rw [if_neg (L_ge 12 12 hj), if_neg (L_ge 12 12 hj), nI_1, qs_in_ok (vp_in_nI hj (by decide)), nI_clamp (by omega), th_is h hj]
    rcases th_01 h hj with z | z
    · rw [qs_bn_of (turn_gone h hj z), if_pos z]
      exact ih (j + 1) g t h (by omega) (by omega)
    · obtain ⟨u, v, q1, q2, q3⟩ := turn_eq h hj z
      rw [qs_bn_of q1, if_neg (by rw [z]; decide), qs_bn_of q2]
      exact ih (j + 1) u v q3 (by omega) (by omega)
theorem time_up {g : Sg} {t : Sm} (h : q_Rz g t) : ∃ r : Int32, f_M_advanceTime g = some ((), qs_i g 23 r) ∧ f_N_clamp (t.2 22 0 + 1) = some r.toInt64 ∧ q_Rz (qs_i g 23 r) (qm_l t 22 r.toInt64) := by
  obtain ⟨h1, h2, h3, h4, h5, h6, h7⟩ := h.1.2.2.2.2.2
  obtain ⟨r, r1, r2, r3⟩ := clamp_eq ((g 23 0).toInt64 + 1)
  refine ⟨r, ?_, ?_, ⟨h.1.1, h.1.2.1, h.1.2.2.1, h.1.2.2.2.1, h.1.2.2.2.2.1, rfl, r3, h3, h4, h5, h6, h7⟩, h.2⟩
  · unfold f_M_advanceTime
    rw [qs_pb_of r1, qs_st_of]
  · rw [show t.2 22 0 = (g 23 0).toInt64 from h1]
    exact r2
theorem tick_out {a : Nat} (ha : a ≤ 4) : ∀ (k c n1 n2 : Nat), c + k = a → k < n1 → k < n2 → ∀ (g : Sg) (t : Sm), q_Rz g t → ∃ r u v, f_Q_tick_22 n1 g (nI a) (nI c) = some (.inr (r, u)) ∧ f_N_tick_22 n2 t (nI a) (nI c) = some (r, v) ∧ q_Rz u v := by
  intro k
  induction k with
  | zero =>
    intro c n1 n2 hc h1 h2 g t h
    obtain ⟨n1, rfl⟩ : ∃ k, n1 = k + 1 := ⟨n1 - 1, by omega⟩
    obtain ⟨n2, rfl⟩ : ∃ k, n2 = k + 1 := ⟨n2 - 1, by omega⟩
    obtain ⟨r, e1, e2⟩ := number_eq h.1.2.2.1
    rw [f_Q_tick_22, f_N_tick_22, if_pos (nI_le (by omega) (by omega)), if_pos (nI_le (by omega) (by omega)), qs_bn_of e1, qs_bn_of e2]
    exact ⟨r, g, t, rfl, rfl, h⟩
  | succ k ih =>
    intro c n1 n2 hc h1 h2 g t h
    obtain ⟨n1, rfl⟩ : ∃ k, n1 = k + 1 := ⟨n1 - 1, by omega⟩
    obtain ⟨n2, rfl⟩ : ∃ k, n2 = k + 1 := ⟨n2 - 1, by omega⟩
    obtain ⟨r, t1, t2, t3⟩ := time_up h
    obtain ⟨u, v, q1, q2, q3⟩ := tick_in (fun g x1 x2 => f_Q_tick_22 n1 g x1 x2) (fun g x1 x2 => f_N_tick_22 n2 g x1 x2) (nI a) (nI c) 200 0 _ _ t3 (by omega) (by omega)
    rw [f_Q_tick_22, f_N_tick_22, if_neg (nI_ge (by omega) (by omega)), if_neg (nI_ge (by omega) (by omega)), qs_bn_of t1, qs_pb_of t2, qs_st_of]
    rw [show (0 : Int32) = nI 0 from rfl, q1, q2, nI_1]
    exact ih (c + 1) n1 n2 (by omega) (by omega) (by omega) u v q3
theorem s_tick : sm_tick Rel := by
  intro g t h x1
  have h0 : q_Rz g (qm_i t 20 0) := ⟨h, rfl⟩
  have no : f_N_in x1 1 4 = some 0 → (x1 < 1 ∨ ¬ x1 ≤ 4) → ∃ r0 r1 t1, f_Q_tick g x1 = some r0 ∧ f_N_tick t x1 = some (r1, t1) ∧ t1.1 20 0 = qa_code (["java/lang/IllegalArgumentException"] : List String) r0 ∧ (∀ r u, r0 = .inr (r, u) → r = r1) ∧ Rel (qa_st r0) t1 := by
    intro e c
    refine ⟨.inl ("java/lang/IllegalArgumentException", g), 0, qm_i (qm_i t 20 0) 20 1, ?_, ?_, rfl, (fun r u e => by cases e), h⟩
    · unfold f_Q_tick
      by_cases d : x1 < 1
      · rw [if_pos d]
      · rcases c with c | c
        · exact absurd c d
        · rw [if_neg d, if_neg c]
    · unfold f_N_tick
      rw [qs_st_of, qs_pb_of e]
      rfl
  by_cases c1 : x1 < 1
  · exact no (by unfold f_N_in; rw [if_pos c1]) (Or.inl c1)
  by_cases c2 : x1 ≤ 4
  · have k1 : ¬ x1.toInt < 1 := fun q => c1 (Int32.lt_iff_toInt_lt.mpr q)
    have k2 : x1.toInt ≤ 4 := Int32.le_iff_toInt_le.mp c2
    obtain ⟨a, ha', rfl⟩ := nI_of (x := x1) (fun q => by
      have k3 := Int32.lt_iff_toInt_lt.mp q
      rw [show (0 : Int32).toInt = 0 from rfl] at k3
      omega)
    rw [nI_toInt ha'] at k2
    have ha : a ≤ 4 := by omega
    obtain ⟨r, u, v, q1, q2, q3⟩ := tick_out ha a 0 200 200 (by omega) (by omega) (by omega) g (qm_i t 20 0) h0
    have q1 : f_Q_tick_22 200 g (nI a) 0 = some (.inr (r, u)) := q1
    have q2 : f_N_tick_22 200 (qm_i t 20 0) (nI a) 0 = some (r, v) := q2
    refine ⟨.inr (r, u), r, v, ?_, ?_, q3.2, (fun r u e => by cases e; rfl), q3.1⟩
    · unfold f_Q_tick
      rw [if_neg c1, if_pos c2, q1]
    · unfold f_N_tick
      rw [qs_st_of, qs_pb_of (show f_N_in (nI a) 1 4 = some 1 by unfold f_N_in; rw [if_neg c1, if_neg (L_ng 4 4 ha)]), if_neg (by decide), q2]
  · refine no ?_ (Or.inr c2)
    unfold f_N_in
    rw [if_neg c1, if_pos (Int32.lt_iff_toInt_lt.mpr (by
      have k : ¬ x1.toInt ≤ (4 : Int32).toInt := fun q => c2 (Int32.le_iff_toInt_le.mpr q)
      omega))]
