theorem wl_at {g : Sg} {w a : Nat} (hw : w < 6) (ha : a < 2) : f_W_low g (nI w) (nI a) = some (g 9 (2 * w + a), g) := by
  unfold f_W_low
  rw [show nI w * 2 + nI a = nI (2 * w + a) by rw [show (2 : Int32) = nI 2 from rfl, pk_mul, nI_add, Nat.mul_comm], qs_in_ok (vp_in_nI (by omega) (by decide)), nI_clamp (by omega)]
theorem wh_at {g : Sg} {w a : Nat} (hw : w < 6) (ha : a < 2) : f_W_high g (nI w) (nI a) = some (g 10 (2 * w + a), g) := by
  unfold f_W_high
  rw [show nI w * 2 + nI a = nI (2 * w + a) by rw [show (2 : Int32) = nI 2 from rfl, pk_mul, nI_add, Nat.mul_comm], qs_in_ok (vp_in_nI (by omega) (by decide)), nI_clamp (by omega)]
theorem ix_w (w a : Nat) : 4 * nI w + 2 * nI a = nI (4 * w + 2 * a) := by
  rw [show (4 : Int32) = nI 4 from rfl, show (2 : Int32) = nI 2 from rfl, pk_mul, pk_mul, nI_add]
theorem sm_bd {x s : Int32} (h : re_num x) (b : 8 ≤ s.toInt ∧ s.toInt ≤ 256) : (x - s).toInt = x.toInt - s.toInt ∧ (x + s).toInt = x.toInt + s.toInt := by
  obtain ⟨h1, h2⟩ := h
  exact ⟨q_i32_sub (by omega) (by omega), q_i32_add (by omega) (by omega)⟩
def frt (up x s : Int32) : Int32 := if up = 0 then x - s else x + s
theorem frt_bd {up x s : Int32} (h : re_num x) (b : 8 ≤ s.toInt ∧ s.toInt ≤ 256) : -200000 ≤ (frt up x s).toInt ∧ (frt up x s).toInt ≤ 200000 := by
  obtain ⟨e1, e2⟩ := sm_bd h b
  obtain ⟨h1, h2⟩ := h
  unfold frt
  by_cases c : up = 0
  · rw [if_pos c, e1]; omega
  · rw [if_neg c, e2]; omega
theorem cons_0 (t : Sm) (w : Int32) (a2 a4 a5 : Int64) : f_N_consider t w a2 0 a4 a5 = f_N_consider_16 t w (a2 - a5) := rfl
theorem cons_1 {t : Sm} {up : Int32} (h : ¬ up = 0) (w : Int32) (a2 a4 a5 : Int64) : f_N_consider t w a2 up a4 a5 = f_N_consider_16 t w (a4 - a2) := by
  unfold f_N_consider
  rw [if_neg h]
theorem wall_loop {e a : Nat} (he : e < 12) (ha : a < 2) {up : Int32} {G T : Nat → Int32} {W : Nat} (hW6 : W ≤ 6) {L lo hi : Int32} (nx : re_num (G (16 * e + a))) (ze : T e = 1) : ∀ (n w : Nat) (g : Sg) (t : Sm), g 8 = G → g 7 = T → g 20 0 = nI W → q_Rz g t → q_Mtt g t L → w ≤ W → W < w + n → ∃ u v, f_V_meetWalls_32 n g (nI e) (nI a) up (nI (1 - a)) lo hi (nI w) = some ((), u) ∧ f_N_blockers_86 n t (nI e) (nI a) up (frt up (G (16 * e + a)) (q_sz (G (16 * e + 4)))).toInt64 (nI (1 - a)) lo.toInt64 hi.toInt64 (nI w) = f_N_blockers_199 200 v (nI e) (nI a) up (frt up (G (16 * e + a)) (q_sz (G (16 * e + 4)))).toInt64 (nI (1 - a)) ((G (16 * e + 11) >>> (3 &&& 31)) - 1) 0 ∧ q_Rz u v ∧ q_Mtt u v L ∧ u 8 = G ∧ u 7 = T := by
  intro n
  induction n with
  | zero => intro w g t _ _ _ _ _ h1 h2; omega
  | succ n ih =>
    intro w g t hG hT hW h hm h1 h2
    obtain ⟨w0, n0, hn0, w1, w2⟩ := h.1.2.1
    have hn : n0 = W := (nI_eq (by omega) (by omega)).mp (w1.symm.trans hW)
    subst hn
    rw [f_V_meetWalls_32, f_N_blockers_86, w0, hW]
    by_cases c : w = n0
    · subst c
      rw [if_pos (nI_le (Nat.le_refl _) (by omega)), if_pos (nI_le (Nat.le_refl _) (by omega)), ixK 11 11 e, qs_in_ok (vp_in_nI (by omega) (by decide)), nI_clamp (by omega), q_fld h he (by omega) (by rw [hT]; exact ze), qs_pb_of (whole_eq _), hG]
      exact ⟨g, t, rfl, rfl, h, hm, hG, hT⟩
    · have hw : w < n0 := by omega
      have hw6 : w < 6 := by omega
      obtain ⟨p1, p2, p3, p4⟩ := w2 w hw (1 - a) (by omega)
      obtain ⟨r1, r2, r3, r4⟩ := w2 w hw a ha
      have p1 : t.2 5 (4 * w + 2 * (1 - a)) = (g 9 (2 * w + (1 - a))).toInt64 := p1
      have p2 : t.2 5 (4 * w + 2 * (1 - a) + 1) = (g 10 (2 * w + (1 - a))).toInt64 := p2
      have r1 : t.2 5 (4 * w + 2 * a) = (g 9 (2 * w + a)).toInt64 := r1
      have r2 : t.2 5 (4 * w + 2 * a + 1) = (g 10 (2 * w + a)).toInt64 := r2
      rw [if_neg (nI_ge hw (by omega)), if_neg (nI_ge hw (by omega)), qs_bn_of (wh_at hw6 (by omega)), qs_bn_of (wl_at hw6 (by omega)), ix_w, ix_w, nI_1, nI_1, qs_in_ok (vp_in_nI (by omega) (by decide)), qs_in_ok (vp_in_nI (by omega) (by decide)), nI_clamp (n := 4 * w + 2 * (1 - a)) (by omega), nI_clamp (n := 4 * w + 2 * (1 - a) + 1) (by omega), p1, p2, qs_pb_of (overlap_is _ _ _ _), ti64, ti64, ti64, ti64]
      unfold f_V_meetWalls_132 f_N_blockers_171
      rw [nI_1]
      have skip : ∃ u v, (f_V_meetWalls_32 n g (nI e) (nI a) up (nI (1 - a)) lo hi (nI (w + 1))) = some ((), u) ∧ f_N_blockers_86 n t (nI e) (nI a) up (frt up (G (16 * e + a)) (q_sz (G (16 * e + 4)))).toInt64 (nI (1 - a)) lo.toInt64 hi.toInt64 (nI (w + 1)) = f_N_blockers_199 200 v (nI e) (nI a) up (frt up (G (16 * e + a)) (q_sz (G (16 * e + 4)))).toInt64 (nI (1 - a)) ((G (16 * e + 11) >>> (3 &&& 31)) - 1) 0 ∧ q_Rz u v ∧ q_Mtt u v L ∧ u 8 = G ∧ u 7 = T := ih (w + 1) g t hG hT hW h hm (by omega) (by omega)
      by_cases d1 : g 10 (2 * w + (1 - a)) ≤ lo
      · have d1' := Int32.le_iff_toInt_le.mp d1
        rw [if_pos d1, if_neg (show ¬ (lo.toInt < (g 10 (2 * w + (1 - a))).toInt ∧ (g 9 (2 * w + (1 - a))).toInt < hi.toInt) by omega), if_pos rfl]
        exact skip
      have d1' : ¬ (g 10 (2 * w + (1 - a))).toInt ≤ lo.toInt := fun q => d1 (Int32.le_iff_toInt_le.mpr q)
      rw [if_neg d1]
      by_cases d2 : hi ≤ g 9 (2 * w + (1 - a))
      · have d2' := Int32.le_iff_toInt_le.mp d2
        rw [if_pos d2, if_neg (show ¬ (lo.toInt < (g 10 (2 * w + (1 - a))).toInt ∧ (g 9 (2 * w + (1 - a))).toInt < hi.toInt) by omega), if_pos rfl]
        exact skip
      have d2' : ¬ hi.toInt ≤ (g 9 (2 * w + (1 - a))).toInt := fun q => d2 (Int32.le_iff_toInt_le.mpr q)
      rw [if_neg d2, if_pos (show lo.toInt < (g 10 (2 * w + (1 - a))).toInt ∧ (g 9 (2 * w + (1 - a))).toInt < hi.toInt by omega), if_neg (show ¬ (1 : Int32) = 0 by decide), qs_in_ok (vp_in_nI (n := 4 * w + 2 * a) (by omega) (by decide)), qs_in_ok (vp_in_nI (n := 4 * w + 2 * a + 1) (by omega) (by decide)), nI_clamp (n := 4 * w + 2 * a) (by omega), nI_clamp (n := 4 * w + 2 * a + 1) (by omega), r1, r2, qs_bn_of (low_at he (by omega)), qs_bn_of (wh_at hw6 ha), qs_bn_of (wl_at hw6 ha), qs_bn_of (high_at he (by omega)), hG]
      have sb := sz_bd (G (16 * e + 4))
      have fb := frt_bd (up := up) nx sb
      obtain ⟨r3a, r3b⟩ := r3
      obtain ⟨r4a, r4b⟩ := r4
      unfold f_V_meetWalls_123 f_V_meetWalls_132
      by_cases cu : up = 0
      · have ef : frt up (G (16 * e + a)) (q_sz (G (16 * e + 4))) = G (16 * e + a) - q_sz (G (16 * e + 4)) := by unfold frt; rw [if_pos cu]
        rw [ef] at fb
        obtain ⟨u, v, k1, k2, k3, k4, k5, k6, k7⟩ := meet_eq h hm (w := -1) (d := G (16 * e + a) - q_sz (G (16 * e + 4)) - g 10 (2 * w + a)) (by decide) (by decide)
        rw [q_sub64 (by omega) (by omega)] at k2
        rw [if_pos cu, qs_bn_of k1, ef]
        have hc : f_N_consider t (-1) (G (16 * e + a) - q_sz (G (16 * e + 4))).toInt64 up (g 9 (2 * w + a)).toInt64 (g 10 (2 * w + a)).toInt64 = some ((), v) := by
          rw [cu, cons_0]; exact k2
        rw [qs_bn_of hc]
        have r := ih (w + 1) u v (k6.trans hG) (k5.trans hT) (by rw [k7]; exact hW) k3 k4 (by omega) (by omega)
        rw [ef] at r
        rw [nI_1]
        exact r
      · have ef : frt up (G (16 * e + a)) (q_sz (G (16 * e + 4))) = G (16 * e + a) + q_sz (G (16 * e + 4)) := by unfold frt; rw [if_neg cu]
        rw [ef] at fb
        obtain ⟨u, v, k1, k2, k3, k4, k5, k6, k7⟩ := meet_eq h hm (w := -1) (d := g 9 (2 * w + a) - (G (16 * e + a) + q_sz (G (16 * e + 4)))) (by decide) (by decide)
        rw [q_sub64 (by omega) (by omega)] at k2
        rw [if_neg cu, qs_bn_of k1, ef]
        have hc : f_N_consider t (-1) (G (16 * e + a) + q_sz (G (16 * e + 4))).toInt64 up (g 9 (2 * w + a)).toInt64 (g 10 (2 * w + a)).toInt64 = some ((), v) := by
          rw [cons_1 cu]; exact k2
        rw [qs_bn_of hc]
        have r := ih (w + 1) u v (k6.trans hG) (k5.trans hT) (by rw [k7]; exact hW) k3 k4 (by omega) (by omega)
        rw [ef] at r
        rw [nI_1]
        exact r
