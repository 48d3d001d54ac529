theorem perf_any {g : Sg} {t : Sm} (h : q_Rz g t) (fn : Int32) {a2 a3 : Int32} (h1 : -1 ≤ a2.toInt) (h2 : a2.toInt ≤ 11) (h3 : -1 ≤ a3.toInt) (h4 : a3.toInt ≤ 11) : ∃ r u v, f_M_start g fn a2 a3 = some (r, u) ∧ (qs_pb (f_N_in fn 0 5) fun r3 => qs_bn (f_N_perform t fn a2.toInt64 a3.toInt64 r3) fun _ u5 => some ((), u5)) = some ((), v) ∧ q_Rz u v := by
  rcases is_below fn (b := 6) (by decide) with ⟨e1, n1⟩ | ⟨f, hf, ex, e1⟩
  · have e1 : f_Q_isBelow fn 6 = some 0 := e1
    have e2 : f_N_in fn 0 5 = some 0 := (below6 fn).symm.trans e1
    exact ⟨0, g, t, start_no e1 _ _, by rw [qs_pb_of e2]; rfl, h⟩
  · have e1 : f_Q_isBelow fn 6 = some 1 := e1
    have e2 : f_N_in fn 0 5 = some 1 := (below6 fn).symm.trans e1
    subst ex
    obtain ⟨r, u, v, q1, q2, q3⟩ := start_eq h hf h1 h2 h3 h4
    exact ⟨r, u, v, q1, by rw [qs_pb_of e2, qs_bn_of q2], q3⟩
theorem nI_bd {e : Nat} (he : e < 12) : -1 ≤ (nI e).toInt ∧ (nI e).toInt ≤ 11 := by
  rw [nI_toInt (by omega)]
  omega
theorem touch_eq {g : Sg} {t : Sm} (h : q_Rz g t) {e : Nat} (he : e < 12) (ze : g 7 e = 1) {x : Int32} (h1 : -1 ≤ x.toInt) (h2 : x.toInt ≤ 11) : ∃ r u v, f_M_start g ((g 8 (16 * e + 8) >>> (3 &&& 31)) - 1) (nI e) x = some (r, u) ∧ f_N_touch t (nI e) x = some ((), v) ∧ q_Rz u v := by
  obtain ⟨r, u, v, q1, q2, q3⟩ := perf_any h ((g 8 (16 * e + 8) >>> (3 &&& 31)) - 1) (nI_bd he).1 (nI_bd he).2 h1 h2
  refine ⟨r, u, v, q1, ?_, q3⟩
  unfold f_N_touch
  rw [ixK 8 8 e, qs_in_ok (vp_in_nI (by omega) (by decide)), nI_clamp (by omega), q_fld h he (by omega) ze, qs_pb_of (whole_eq _)]
  exact q2
theorem hits_up {g : Sg} {t : Sm} (h : q_Rz g t) : q_Rz (qs_i g 27 (g 27 0 + 1)) (qm_i t 26 (t.1 26 0 + 1)) := by
  obtain ⟨h1, h2, h3, h4, h5, h6, h7⟩ := h.1.2.2.2.2.2
  refine ⟨⟨h.1.1, h.1.2.1, h.1.2.2.1, h.1.2.2.2.1, h.1.2.2.2.2.1, h1, h2, h3, h4, h5, h6, ?_⟩, h.2⟩
  show t.1 26 0 + 1 = g 27 0 + 1
  rw [h7]
def N_tail (v : Sm) (x1 x8 : Int32) : Option (Unit × Sm) := qs_bn (f_N_touch v x1 x8) fun _ u27 => if x8 < 0 then some ((), u27) else qs_in x1 12 (if u27.1 2 x1.toNatClampNeg = 0 then some ((), u27) else qs_in x8 12 (if u27.1 2 x8.toNatClampNeg = 0 then some ((), u27) else qs_bn (f_N_touch u27 x8 x1) fun _ u34 => some ((), u34)))
theorem go_end {u : Sg} {v : Sm} (h : q_Rz u v) {e a : Nat} (he : e < 12) (ha : a < 2) (ze : u 7 e = 1) {R : Int32} (hR : -20000 ≤ R.toInt) (hR2 : R.toInt ≤ 20000) : (u 29 0 = -2 → ∃ u' v', f_V_go_101 u (nI e) (nI a) (u 8 (16 * e + (2 + a))) (u 8 (16 * e + a)) R = some (-2, u') ∧ f_N_go_141 v (nI e) (nI a) 0 (v.1 27 0) (nI (16 * e + a)) (v.2 1 (16 * e + a)) R.toInt64 = some ((), v') ∧ q_Rz u' v') ∧ (¬ u 29 0 = -2 → u 29 0 = v.1 27 0 → ∃ u' v', f_V_go_101 u (nI e) (nI a) (u 8 (16 * e + (2 + a))) (u 8 (16 * e + a)) R = some (u 29 0, u') ∧ f_N_go_141 v (nI e) (nI a) 1 (v.1 27 0) (nI (16 * e + a)) (v.2 1 (16 * e + a)) R.toInt64 = N_tail v' (nI e) (u 29 0) ∧ u' 7 e = 1 ∧ q_Rz (qs_i u' 27 (u' 27 0 + 1)) v') := by
  have nx := fld_n h he (k := a) (by omega)
  have nv := fld_n h he (k := 2 + a) (by omega)
  obtain ⟨r, r1, r2, r3⟩ := clamp_eq ((u 8 (16 * e + a)).toInt64 + R.toInt64)
  have hadd : (u 8 (16 * e + a) + R).toInt64 = (u 8 (16 * e + a)).toInt64 + R.toInt64 := by
    obtain ⟨n1, n2⟩ := nx
    exact q_add64 (by omega) (by omega)
  have hput := rel_put h.1 (k := a) (by omega) ze r3
  have hz1 : q_Rz (qs_a u 8 (16 * e + a) r) (qm_la v 1 (16 * e + a) r.toInt64) := ⟨hput, h.2⟩
  have hcls : f_V_go_101 u (nI e) (nI a) (u 8 (16 * e + (2 + a))) (u 8 (16 * e + a)) R = if u 29 0 = -2 then some (u 29 0, qs_a u 8 (16 * e + a) r) else qs_bn (f_E_wholeField (qs_a u 8 (16 * e + a) r) (nI e) 6) fun r20 u21 => if r20 = 3 then f_V_go_147 u21 (nI e) (nI a) (u 8 (16 * e + (2 + a))) 1 else f_V_go_147 u21 (nI e) (nI a) (u 8 (16 * e + (2 + a))) 0 := by
    unfold f_V_go_101
    rw [hadd, qs_pb_of r1, qs_bn_of (q_put_at he (by omega) ze r)]
    rfl
  have href : ∀ x7 : Int32, f_N_go_141 v (nI e) (nI a) x7 (v.1 27 0) (nI (16 * e + a)) (v.2 1 (16 * e + a)) R.toInt64 = if x7 = 0 then some ((), qm_la v 1 (16 * e + a) r.toInt64) else qs_st (qm_i (qm_la v 1 (16 * e + a) r.toInt64) 26 (v.1 26 0 + 1)) fun u17 => (qs_in (((16 * nI e) + 2) + nI a) 192 (qs_in ((16 * nI e) + 6) 192 (qs_pb (f_N_whole (u17.2 1 ((16 * nI e) + 6).toNatClampNeg)) fun r20 => (if r20 = 3 then (qs_pb (f_N_down (-(u17.2 1 (((16 * nI e) + 2) + nI a).toNatClampNeg)) ((2 : Int64))) fun r22 => (qs_pb (f_N_clamp (r22)) fun r23 => (f_N_go_224 u17 (nI e) (v.1 27 0) (((16 * nI e) + 2) + nI a) (r23)))) else (f_N_go_224 u17 (nI e) (v.1 27 0) (((16 * nI e) + 2) + nI a) ((0 : Int64))))))) := by
    intro x7
    unfold f_N_go_141
    rw [q_fld h he (by omega) ze, qs_pb_of r2, qs_in_ok (vp_in_nI (by omega) (by decide)), qs_st_of, nI_clamp (by omega)]
    rfl
  refine ⟨fun h29 => ?_, fun h29 h27 => ?_⟩
  · refine ⟨_, _, ?_, ?_, hz1⟩
    · rw [hcls, if_pos h29, h29]
    · rw [href, if_pos rfl]
  · have ix2 : 16 * nI e + 2 + nI a = nI (16 * e + (2 + a)) := by
      rw [ixK 2 2 e, nI_add]
      exact congrArg nI (by omega)
    have ze1 : (qs_a u 8 (16 * e + a) r) 7 e = 1 := ze
    have hv2 : (qs_a u 8 (16 * e + a) r) 8 (16 * e + (2 + a)) = u 8 (16 * e + (2 + a)) := pk_un (by omega)
    have hf2 : (qm_la v 1 (16 * e + a) r.toInt64).2 1 (16 * e + (2 + a)) = (u 8 (16 * e + (2 + a))).toInt64 := by
      rw [q_fld hz1 he (by omega) ze1, hv2]
    have hf6 := q_fld hz1 he (k := 6) (by omega) ze1
    have key : ∀ y : Int32, re_num y → ∃ u' v', f_V_go_176 (qs_a u 8 (16 * e + a) r) (nI e) (2 + nI a) y = some (u 29 0, u') ∧ f_N_go_224 (qm_i (qm_la v 1 (16 * e + a) r.toInt64) 26 (v.1 26 0 + 1)) (nI e) (v.1 27 0) (nI (16 * e + (2 + a))) y.toInt64 = N_tail v' (nI e) (u 29 0) ∧ u' 7 e = 1 ∧ q_Rz (qs_i u' 27 (u' 27 0 + 1)) v' := by
      intro y hy
      have hu := hits_up hz1
      have hp2 := rel_put hu.1 (k := 2 + a) (by omega) ze1 hy
      refine ⟨qs_a (qs_a u 8 (16 * e + a) r) 8 (16 * e + (2 + a)) y, qm_la (qm_i (qm_la v 1 (16 * e + a) r.toInt64) 26 (v.1 26 0 + 1)) 1 (16 * e + (2 + a)) y.toInt64, ?_, ?_, ze, ⟨hp2, h.2⟩⟩
      · unfold f_V_go_176
        rw [show (2 : Int32) + nI a = nI (2 + a) by rw [show (2 : Int32) = nI 2 from rfl, nI_add], qs_bn_of (q_put_at he (by omega) ze1 y)]
        rfl
      · unfold f_N_go_224
        rw [qs_in_ok (vp_in_nI (by omega) (by decide)), qs_st_of, nI_clamp (n := 16 * e + (2 + a)) (by omega), ← h27]
        rfl
    rw [hcls, if_neg h29, href, if_neg (by decide), qs_st_of, ix2, ixK 6 6 e, qs_in_ok (vp_in_nI (n := 16 * e + (2 + a)) (by omega) (by decide)), qs_in_ok (vp_in_nI (n := 16 * e + 6) (by omega) (by decide)), nI_clamp (n := 16 * e + (2 + a)) (by omega), nI_clamp (n := 16 * e + 6) (by omega), qs_bn_of (wf_K 6 6 he)]
    rw [show (qm_i (qm_la v 1 (16 * e + a) r.toInt64) 26 (v.1 26 0 + 1)).2 1 (16 * e + 6) = ((qs_a u 8 (16 * e + a) r) 8 (16 * e + 6)).toInt64 from hf6, show (qm_i (qm_la v 1 (16 * e + a) r.toInt64) 26 (v.1 26 0 + 1)).2 1 (16 * e + (2 + a)) = (u 8 (16 * e + (2 + a))).toInt64 from hf2, qs_pb_of (whole_eq _)]
    unfold f_V_go_147
    by_cases c : (qs_a u 8 (16 * e + a) r) 8 (16 * e + 6) >>> (3 &&& 31) = 3
    · rw [if_pos c, if_pos c, if_neg (by decide)]
      obtain ⟨n1, n2⟩ := nv
      generalize u 8 (16 * e + (2 + a)) = x at *
      have en : (-x).toInt = -x.toInt := q_i32_neg (by omega) (by omega)
      have el : (-x.toInt64).toInt = -x.toInt := by rw [q_i64_neg (by rw [ti64]; omega) (by rw [ti64]; omega), ti64]
      obtain ⟨q, q1, q2⟩ := fd2_32 (y := -x) (by omega) (by omega)
      obtain ⟨q', q3, q4⟩ := down2 (y := -x.toInt64) (by omega) (by omega)
      have hq : q' = q.toInt64 := Int64.toInt_inj.mp (by rw [ti64, q4, q2, en, el])
      subst hq
      obtain ⟨y, y1, y2, y3⟩ := clamp_eq q.toInt64
      rw [qs_pb_of q1, qs_pb_of y1, qs_pb_of q3, qs_pb_of y2]
      exact key y y3
    · rw [if_neg c, if_neg c, if_pos rfl]
      exact key 0 re_num0
