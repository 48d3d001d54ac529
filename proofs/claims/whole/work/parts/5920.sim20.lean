theorem may_at {g : Sg} {o e : Nat} (ho : o < 12) (he : e < 12) : f_V_mayBlock g (nI o) (nI e) = if o = e then some (0, g) else if g 8 (16 * o + 5) >>> (3 &&& 31) = 2 then if (g 8 (16 * e + 11) >>> (3 &&& 31)) - 1 = nI o then some (0, g) else if (g 8 (16 * o + 11) >>> (3 &&& 31)) - 1 = nI e then some (0, g) else some (1, g) else some (0, g) := by
  unfold f_V_mayBlock
  by_cases c : o = e
  · rw [if_pos c, if_pos (by rw [c])]
  · rw [if_neg c, if_neg (fun q => c ((nI_eq (by omega) (by omega)).mp q)), qs_bn_of (wf_K 5 5 ho), qs_bn_of (wf_K 11 11 he), qs_bn_of (wf_K 11 11 ho)]
theorem ent_loop {e a : Nat} (he : e < 12) (ha : a < 2) {up : Int32} {G T : Nat → Int32} {L : Int32} (nG : ∀ o k, o < 12 → k < 16 → re_num (G (16 * o + k))) (ze : T e = 1) : ∀ (n o : Nat) (g : Sg) (t : Sm), g 8 = G → g 7 = T → q_Rz g t → q_Mtt g t L → o ≤ 12 → 12 < o + n → ∃ u v, f_V_meetEntities_3 n g (nI e) (nI a) up (nI o) = some ((), u) ∧ f_N_blockers_199 n t (nI e) (nI a) up (frt up (G (16 * e + a)) (q_sz (G (16 * e + 4)))).toInt64 (nI (1 - a)) ((G (16 * e + 11) >>> (3 &&& 31)) - 1) (nI o) = some ((), v) ∧ q_Rz u v ∧ q_Mtt u v L ∧ u 8 = G ∧ u 7 = T := by
  intro n
  induction n with
  | zero => intro w g t _ _ _ _ h1 h2; omega
  | succ n ih =>
    intro o g t hG hT h hm h1 h2
    rw [f_V_meetEntities_3, f_N_blockers_199]
    by_cases c : o = 12
    · subst c
      rw [if_pos (show (12 : Int32) ≤ nI 12 by decide), if_pos (show (12 : Int32) ≤ nI 12 by decide)]
      exact ⟨g, t, rfl, rfl, h, hm, hG, hT⟩
    have ho : o < 12 := by omega
    have hin : vp_in (nI o) 12 := vp_in_nI ho (by decide)
    have skip : ∃ u v, f_V_meetEntities_3 n g (nI e) (nI a) up (nI (o + 1)) = some ((), u) ∧ f_N_blockers_199 n t (nI e) (nI a) up (frt up (G (16 * e + a)) (q_sz (G (16 * e + 4)))).toInt64 (nI (1 - a)) ((G (16 * e + 11) >>> (3 &&& 31)) - 1) (nI (o + 1)) = some ((), v) ∧ q_Rz u v ∧ q_Mtt u v L ∧ u 8 = G ∧ u 7 = T := ih (o + 1) g t hG hT h hm (by omega) (by omega)
    have m1 := may_at (g := g) ho he
    unfold f_V_meetEntities_93 f_N_blockers_332
    rw [if_neg (L_ge 12 12 ho), if_neg (L_ge 12 12 ho), nI_1]
    by_cases c1 : o = e
    · rw [if_pos c1] at m1
      rw [qs_bn_of m1, if_pos rfl, if_pos (show nI o = nI e by rw [c1])]
      exact skip
    rw [if_neg c1] at m1
    rw [if_neg (show ¬ nI o = nI e from fun q => c1 ((nI_eq (by omega) (by omega)).mp q)), qs_in_ok hin, nI_clamp (n := o) (by omega), th_is h ho]
    rcases th_01 h ho with zo | zo
    · rw [fld_0 h ho (by omega) zo, if_neg (by decide)] at m1
      rw [qs_bn_of m1, if_pos rfl, if_pos zo]
      exact skip
    rw [if_neg (show ¬ g 7 o = 0 by rw [zo]; decide), ixK 5 5 o, ixK 11 11 o, qs_in_ok (vp_in_nI (n := 16 * o + 5) (by omega) (by decide)), nI_clamp (n := 16 * o + 5) (by omega), q_fld h ho (by omega) zo, qs_pb_of (whole_eq _)]
    by_cases c2 : g 8 (16 * o + 5) >>> (3 &&& 31) = 2
    · rw [if_pos c2] at m1
      rw [if_pos c2]
      by_cases c3 : (g 8 (16 * e + 11) >>> (3 &&& 31)) - 1 = nI o
      · rw [if_pos c3] at m1
        rw [qs_bn_of m1, if_pos rfl, if_pos (show nI o = (G (16 * e + 11) >>> (3 &&& 31)) - 1 by rw [← hG]; exact c3.symm)]
        exact skip
      rw [if_neg c3] at m1
      rw [if_neg (show ¬ nI o = (G (16 * e + 11) >>> (3 &&& 31)) - 1 from fun q => c3 (by rw [hG]; exact q.symm)), qs_in_ok (vp_in_nI (n := 16 * o + 11) (by omega) (by decide)), nI_clamp (n := 16 * o + 11) (by omega), q_fld h ho (by omega) zo, qs_pb_of (whole_eq _)]
      by_cases c4 : (g 8 (16 * o + 11) >>> (3 &&& 31)) - 1 = nI e
      · rw [if_pos c4] at m1
        rw [qs_bn_of m1, if_pos rfl, if_pos c4]
        exact skip
      rw [if_neg c4] at m1
      have n1 := fld_n h ho (k := 1 - a) (by omega)
      have n2 := fld_n h he (k := 1 - a) (by omega)
      have ze' : g 7 e = 1 := by rw [hT]; exact ze
      have hsub : 1 - nI a = nI (1 - a) := pk_sub (a := 1) (by omega)
      rw [qs_bn_of m1, if_neg (show ¬ (1 : Int32) = 0 by decide), if_neg c4, qs_bn_of (meets_at h ho he (by omega) zo ze'), hsub, qs_bn_of (boxes_at ho he (by omega) n1 n2)]
      by_cases c5 : ovl g o e (1 - a) = 0
      · rw [if_pos c5, if_pos c5]
        exact skip
      rw [if_neg c5, if_neg c5, ix_ke, qs_in_ok (vp_in_nI (n := 16 * o + a) (by omega) (by decide)), qs_bn_of (half_at h ho zo), qs_in_ok (vp_in_nI (n := 16 * o + a) (by omega) (by decide)), qs_bn_of (half_at h ho zo), nI_clamp (n := 16 * o + a) (by omega), q_fld h ho (by omega) zo, qs_bn_of (low_at he (by omega)), qs_bn_of (high_at ho (by omega)), qs_bn_of (low_at ho (by omega)), qs_bn_of (high_at he (by omega)), hG]
      have nx := nG e a he (by omega)
      have ny := nG o a ho (by omega)
      have sb := sz_bd (G (16 * e + 4))
      have sc := sz_bd (G (16 * o + 4))
      have fb := frt_bd (up := up) nx sb
      obtain ⟨s1, s2⟩ := sm_bd ny sc
      obtain ⟨ny1, ny2⟩ := ny
      have t1 : (G (16 * o + a)).toInt64 - (q_sz (G (16 * o + 4))).toInt64 = (G (16 * o + a) - q_sz (G (16 * o + 4))).toInt64 := (q_sub64 (by omega) (by omega)).symm
      have t2 : (G (16 * o + a)).toInt64 + (q_sz (G (16 * o + 4))).toInt64 = (G (16 * o + a) + q_sz (G (16 * o + 4))).toInt64 := (q_add64 (by omega) (by omega)).symm
      have tw := nI_toInt (n := o) (by omega)
      rw [t1, t2]
      unfold f_V_meetEntities_83 f_V_meetEntities_93
      by_cases cu : up = 0
      · have ef : frt up (G (16 * e + a)) (q_sz (G (16 * e + 4))) = G (16 * e + a) - q_sz (G (16 * e + 4)) := by unfold frt; rw [if_pos cu]
        rw [ef] at fb
        obtain ⟨u, v, k1, k2, k3, k4, k5, k6, k7⟩ := meet_eq h hm (w := nI o) (d := G (16 * e + a) - q_sz (G (16 * e + 4)) - (G (16 * o + a) + q_sz (G (16 * o + 4)))) (by omega) (by omega)
        rw [q_sub64 (by omega) (by omega)] at k2
        rw [if_pos cu, qs_bn_of k1, ef]
        have hc : f_N_consider t (nI o) (G (16 * e + a) - q_sz (G (16 * e + 4))).toInt64 up (G (16 * o + a) - q_sz (G (16 * o + 4))).toInt64 (G (16 * o + a) + q_sz (G (16 * o + 4))).toInt64 = some ((), v) := by
          rw [cu, cons_0]; exact k2
        rw [qs_bn_of hc]
        have r := ih (o + 1) u v (k6.trans hG) (k5.trans hT) k3 k4 (by omega) (by omega)
        rw [ef] at r
        rw [nI_1]
        exact r
      · have ef : frt up (G (16 * e + a)) (q_sz (G (16 * e + 4))) = G (16 * e + a) + q_sz (G (16 * e + 4)) := by unfold frt; rw [if_neg cu]
        rw [ef] at fb
        obtain ⟨u, v, k1, k2, k3, k4, k5, k6, k7⟩ := meet_eq h hm (w := nI o) (d := G (16 * o + a) - q_sz (G (16 * o + 4)) - (G (16 * e + a) + q_sz (G (16 * e + 4)))) (by omega) (by omega)
        rw [q_sub64 (by omega) (by omega)] at k2
        rw [if_neg cu, qs_bn_of k1, ef]
        have hc : f_N_consider t (nI o) (G (16 * e + a) + q_sz (G (16 * e + 4))).toInt64 up (G (16 * o + a) - q_sz (G (16 * o + 4))).toInt64 (G (16 * o + a) + q_sz (G (16 * o + 4))).toInt64 = some ((), v) := by
          rw [cons_1 cu]; exact k2
        rw [qs_bn_of hc]
        have r := ih (o + 1) u v (k6.trans hG) (k5.trans hT) k3 k4 (by omega) (by omega)
        rw [ef] at r
        rw [nI_1]
        exact r
    · rw [if_neg c2] at m1
      rw [qs_bn_of m1, if_pos rfl, if_neg c2]
      exact skip
theorem block_eq {g : Sg} {t : Sm} (h : q_Rz g t) {e a : Nat} (he : e < 12) (ha : a < 2) (ze : g 7 e = 1) {up L : Int32} (h29 : g 29 0 = -2) (h28 : g 28 0 = L) : ∃ u1 u v, f_V_meetWalls g (nI e) (nI a) up = some ((), u1) ∧ f_V_meetEntities u1 (nI e) (nI a) up = some ((), u) ∧ f_N_blockers t (nI e) (nI a) up = some ((), v) ∧ q_Rz u v ∧ q_Mtt u v L ∧ u 8 = g 8 ∧ u 7 = g 7 := by
  obtain ⟨w0, W, hW6, w1, w2⟩ := h.1.2.1
  have nx := fld_n h he (k := a) (by omega)
  have nc := fld_n h he (k := 1 - a) (by omega)
  have sb := sz_bd (g 8 (16 * e + 4))
  have hsub : 1 - nI a = nI (1 - a) := pk_sub (a := 1) (by omega)
  have h' : q_Rz g (qm_i t 27 (-2)) := h
  obtain ⟨u1, v1, b1, b2, b3, b4, b5, b6⟩ := wall_loop he ha (up := up) (G := g 8) (T := g 7) hW6 (L := L) (lo := g 8 (16 * e + (1 - a)) - q_sz (g 8 (16 * e + 4))) (hi := g 8 (16 * e + (1 - a)) + q_sz (g 8 (16 * e + 4))) nx ze 200 0 g (qm_i t 27 (-2)) rfl rfl w1 h' (Or.inl ⟨h29, h28, Or.inl rfl⟩) (by omega) (by omega)
  obtain ⟨u, v, d1, d2, d3, d4, d5, d6⟩ := ent_loop he ha (up := up) (G := g 8) (T := g 7) (L := L) (fun o k ho hk => fld_n h ho hk) ze 200 0 u1 v1 b5 b6 b3 b4 (by omega) (by omega)
  refine ⟨u1, u, v, ?_, d1, ?_, d3, d4, d5, d6⟩
  · unfold f_V_meetWalls
    rw [hsub, qs_bn_of (low_at he (by omega)), qs_bn_of (high_at he (by omega))]
    exact b1
  · have hcx := nc
    obtain ⟨c1, c2⟩ := nc
    have hf : f_N_blockers t (nI e) (nI a) up = f_N_blockers_29 t (nI e) (nI a) up (g 8 (16 * e + a)).toInt64 (if up = 0 then -(q_sz (g 8 (16 * e + 4))).toInt64 else (q_sz (g 8 (16 * e + 4))).toInt64) := by
      unfold f_N_blockers
      rw [ix_ke, qs_in_ok (vp_in_nI (by omega) (by decide)), nI_clamp (by omega), q_fld h he (by omega) ze, qs_bn_of (half_at h he ze), qs_bn_of (half_at h he ze)]
      by_cases cu : up = 0
      · rw [if_pos cu, if_pos cu]
      · rw [if_neg cu, if_neg cu]
    have hfr : (g 8 (16 * e + a)).toInt64 + (if up = 0 then -(q_sz (g 8 (16 * e + 4))).toInt64 else (q_sz (g 8 (16 * e + 4))).toInt64) = (frt up (g 8 (16 * e + a)) (q_sz (g 8 (16 * e + 4)))).toInt64 := by
      obtain ⟨x1, x2⟩ := nx
      unfold frt
      by_cases cu : up = 0
      · rw [if_pos cu, if_pos cu]
        refine Int64.toInt_inj.mp ?_
        have kn : (-(q_sz (g 8 (16 * e + 4))).toInt64).toInt = -(q_sz (g 8 (16 * e + 4))).toInt := by rw [q_i64_neg (by rw [ti64]; omega) (by rw [ti64]; omega), ti64]
        rw [q_i64_add (by rw [ti64, kn]; omega) (by rw [ti64, kn]; omega), kn, ti64, ti64, q_i32_sub (by omega) (by omega)]
        omega
      · rw [if_neg cu, if_neg cu]
        exact (q_add64 (by omega) (by omega)).symm
    rw [hf]
    unfold f_N_blockers_29
    rw [hsub, ix_ke, hfr, qs_in_ok (vp_in_nI (n := 16 * e + (1 - a)) (by omega) (by decide)), qs_bn_of (half_at h he ze), qs_in_ok (vp_in_nI (n := 16 * e + (1 - a)) (by omega) (by decide)), qs_bn_of (half_at h he ze), qs_st_of, nI_clamp (n := 16 * e + (1 - a)) (by omega), q_fld h he (by omega) ze, ← q_sub64 (by omega) (by omega), ← q_add64 (by omega) (by omega)]
    have b2' : f_N_blockers_86 200 (qm_i t 27 (-2)) (nI e) (nI a) up (frt up (g 8 (16 * e + a)) (q_sz (g 8 (16 * e + 4)))).toInt64 (nI (1 - a)) (g 8 (16 * e + (1 - a)) - q_sz (g 8 (16 * e + 4))).toInt64 (g 8 (16 * e + (1 - a)) + q_sz (g 8 (16 * e + 4))).toInt64 0 = _ := b2
    rw [b2']
    exact d2
