def q_Rz (g : Sg) (t : Sm) : Prop := Rel g t ∧ t.1 20 0 = 0
def q_Kp (g u : Sg) (t v : Sm) : Prop := u 14 = g 14 ∧ u 15 = g 15 ∧ u 21 = g 21 ∧ u 22 = g 22 ∧ v.1 12 = t.1 12 ∧ v.1 29 = t.1 29
theorem Kp_refl (g : Sg) (t : Sm) : q_Kp g g t t := ⟨rfl, rfl, rfl, rfl, rfl, rfl⟩
def M_body (g : Sg) (o a b c : Int32) : Option (Unit × Sg) := (if o = 8 then (qs_in (a) 24 (qs_pb (f_Q_wholeOf (g 13 (a).toNatClampNeg)) fun r14 => (qs_in (c) 24 (qs_bn (f_E_put g (r14) (b) (g 13 (c).toNatClampNeg)) fun _ u17 => (some ((), u17)))))) else (if o = 9 then (qs_in (a) 24 (if (g 13 (a).toNatClampNeg) = 0 then (qs_in (g 21 0) 6 (qs_st (qs_a g 15 (g 21 0).toNatClampNeg (b)) fun u22 => (some ((), u22)))) else (some ((), g)))) else (if o = 10 then (qs_in (g 21 0) 6 (qs_st (qs_a g 15 (g 21 0).toNatClampNeg (b)) fun u25 => (some ((), u25)))) else (if o = 11 then (qs_bn (f_M_enter g (a)) fun _ u28 => (some ((), u28))) else (if o = 12 then (qs_bn (f_M_result g (o) (a) (b)) fun r30 u31 => (qs_in (c) 24 (qs_st (qs_a u31 13 (c).toNatClampNeg (r30)) fun u33 => (some ((), u33))))) else (if o = 13 then (qs_in (a) 24 (qs_pb (f_Q_wholeOf (g 13 (a).toNatClampNeg)) fun r36 => (qs_bn (f_E_erase g (r36)) fun _ u38 => (some ((), u38))))) else (if o = 14 then (qs_bn (f_M_result g (o) (a) (b)) fun r40 u41 => (qs_in (c) 24 (qs_st (qs_a u41 13 (c).toNatClampNeg (r40)) fun u43 => (some ((), u43))))) else (if o = 15 then (qs_bn (f_M_result g (o) (a) (b)) fun r45 u46 => (qs_in (c) 24 (qs_st (qs_a u46 13 (c).toNatClampNeg (r45)) fun u48 => (some ((), u48))))) else (if o = 16 then (qs_in (g 21 0) 6 (qs_st (qs_a g 15 (g 21 0).toNatClampNeg (14)) fun u51 => (some ((), u51)))) else (qs_bn (f_M_result g (o) (a) (b)) fun r52 u53 => (qs_in (c) 24 (qs_st (qs_a u53 13 (c).toNatClampNeg (r52)) fun u55 => (some ((), u55))))))))))))))
theorem behind_loop {g : Sg} {t : Sm} (h : Rel_ent g t) (x : Int32) : ∀ (n j : Nat), j ≤ 12 → 12 < j + n → ∃ r : Int32, -1 ≤ r.toInt ∧ r.toInt ≤ 12 ∧ f_E_firstBehind_2 n g x (nI j) = some (r, g) ∧ f_N_behind_2 n t x (nI j) = some (8 * r.toInt64, t) := by
  intro n
  induction n with
  | zero => intro j h1 h2; omega
  | succ n ih =>
    intro j h1 h2
    rw [f_E_firstBehind_2, f_N_behind_2]
    by_cases c : j = 12
    · subst c
      exact ⟨-1, by decide, by decide, if_pos (by decide), if_pos (by decide)⟩
    · have hj : j < 12 := by omega
      have hin : vp_in (nI j) 12 := vp_in_nI hj (by decide)
      unfold f_E_firstBehind_24 f_N_behind_29
      rw [if_neg (L_ge 12 12 hj), if_neg (L_ge 12 12 hj), nI_1]
      by_cases d : nI j ≤ x
      · rw [if_pos d, if_pos d]
        exact ih (j + 1) (by omega) (by omega)
      · rw [if_neg d, if_neg d, qs_in_ok hin, qs_in_ok hin, nI_clamp (by omega), (h j hj).1]
        by_cases e : g 7 j = 0
        · rw [if_pos e, if_pos e]
          exact ih (j + 1) (by omega) (by omega)
        · rw [if_neg e, if_neg e]
          refine ⟨nI j, ?_, ?_, rfl, rfl⟩
          · rw [nI_toInt (by omega)]; omega
          · rw [nI_toInt (by omega)]; omega
theorem mul8' {r : Int32} (h1 : -1024 ≤ r.toInt) (h2 : r.toInt ≤ 1024) : 8 * r.toInt64 = (r * 8).toInt64 := (mul8 h1 h2).1
theorem whole_0 : f_N_whole 0 = some ((0 : Int32) >>> (3 &&& 31)) := whole_eq 0
theorem glob_at {g : Sg} {t : Sm} (h : q_Rz g t) {i : Nat} (hi : i < 24) : t.2 11 i = (g 13 i).toInt64 := (h.1.2.2.2.1 i hi).1
theorem glob_num {g : Sg} {t : Sm} (h : q_Rz g t) {i : Nat} (hi : i < 24) : re_num (g 13 i) := (h.1.2.2.2.1 i hi).2
theorem draw_eq {g : Sg} {t : Sm} (h : q_Rz g t) : ∃ r u v, f_M_draw g = some (r, u) ∧ f_N_drawn t = some (r.toInt64, v) ∧ re_num r ∧ q_Rz u v ∧ q_Kp g u t v := by
  obtain ⟨h1, h2, h3, h4, h5, h6, h7⟩ := h.1.2.2.2.2.2
  obtain ⟨n, hn, en⟩ := nI_of (x := g 24 0) (fun q => by
    have k := Int32.lt_iff_toInt_lt.mp q
    rw [show (0 : Int32).toInt = 0 from rfl] at k
    omega)
  have e0 : (g 24 0).toInt64 * 1103515245 + 12345 = lN (n * 1103515245 + 12345) := by
    rw [en, nI_l hn, show (1103515245 : Int64) = lN 1103515245 from rfl, show (12345 : Int64) = lN 12345 from rfl, lN_mul, lN_add]
  have e1 : (((g 24 0).toInt64 * 1103515245 + 12345) - ((g 24 0).toInt64 * 1103515245 + 12345) / 2147483648 * 2147483648).toInt32 = nI ((n * 1103515245 + 12345) % 2147483648) := by
    rw [e0, show (2147483648 : Int64) = lN 2147483648 from rfl, pk_lRem (by omega) (by decide) (by decide), lN_i]
  have hm : (n * 1103515245 + 12345) % 2147483648 < 2147483648 := Nat.mod_lt _ (by decide)
  generalize (n * 1103515245 + 12345) % 2147483648 = m at e1 hm
  have e2 : nI m / 65536 = nI (m / 65536) := pk_div (d := 65536) (by omega) (by decide) (by decide)
  have e3 : nI (m / 65536) - nI (m / 65536) / 8 * 8 = nI (m / 65536 % 8) := pk_rem (d := 8) (by omega) (by decide) (by decide)
  refine ⟨nI (m / 65536 % 8), qs_i g 24 (nI m), qm_i t 23 (nI m), ?_, ?_, ?_, ⟨⟨h.1.1, h.1.2.1, h.1.2.2.1, h.1.2.2.2.1, h.1.2.2.2.2.1, h1, h2, rfl, ?_, h5, h6, h7⟩, h.2⟩, ⟨rfl, rfl, rfl, rfl, rfl, rfl⟩⟩
  · unfold f_M_draw
    rw [e1, qs_st_of]
    show some (nI m / 65536 - nI m / 65536 / 8 * 8, qs_i g 24 (nI m)) = _
    rw [e2, e3]
  · unfold f_N_drawn
    rw [h3, e1, qs_st_of]
    show some ((nI m / 65536 - nI m / 65536 / 8 * 8).toInt64, qm_i t 23 (nI m)) = _
    rw [e2, e3]
  · unfold re_num
    rw [nI_toInt (by omega)]
    omega
  · show 0 ≤ (nI m).toInt
    rw [nI_toInt (by omega)]
    omega
theorem field_any {g : Sg} {t : Sm} (h : Rel_ent g t) (w : Int32) {k : Nat} (hk : k < 16) : ∃ x, f_E_field g w (nI k) = some (x, g) ∧ (qs_bn (f_N_gone t w) fun r u => if r = 0 then qs_in (16 * w + nI k) 192 (some (u.2 1 (16 * w + nI k).toNatClampNeg, u)) else some ((0 : Int64), u)) = some (x.toInt64, t) ∧ re_num x := by
  rcases pk_ix w (n := 12) (by decide) with q | q | ⟨j, hj, e⟩
  · refine ⟨0, ?_, ?_, re_num0⟩
    · unfold f_E_field; rw [if_pos q]
    · rw [qs_bn_of (show f_N_gone t w = some (1, t) by unfold f_N_gone; rw [if_pos q])]; rfl
  · have q : (12 : Int32) ≤ w := q
    have k1 := Int32.le_iff_toInt_le.mp q
    rw [show (12 : Int32).toInt = 12 from rfl] at k1
    have h0 : ¬ w < 0 := fun r => by
      have k2 := Int32.lt_iff_toInt_lt.mp r
      rw [show (0 : Int32).toInt = 0 from rfl] at k2
      omega
    have h12 : ¬ w < 12 := fun r => by
      have k2 := Int32.lt_iff_toInt_lt.mp r
      rw [show (12 : Int32).toInt = 12 from rfl] at k2
      omega
    have h11 : (11 : Int32) < w := Int32.lt_iff_toInt_lt.mpr (by rw [show (11 : Int32).toInt = 11 from rfl]; omega)
    refine ⟨0, ?_, ?_, re_num0⟩
    · unfold f_E_field; rw [if_neg h0, if_neg h12]
    · rw [qs_bn_of (show f_N_gone t w = some (1, t) by unfold f_N_gone; rw [if_neg h0, if_pos h11])]; rfl
  · subst e
    obtain ⟨e1, e2, e3⟩ := h j hj
    obtain ⟨f1, f2, f3⟩ := e3 k hk
    have hg : f_N_gone t (nI j) = if g 7 j = 0 then some (1, t) else some (0, t) := by
      unfold f_N_gone
      rw [if_neg (nI_pos (by omega)), if_neg (L_ng 11 11 (by omega)), qs_in_ok (vp_in_nI hj (by decide)), nI_clamp (by omega), e1]
    refine ⟨g 8 (16 * j + k), q_field_at hj hk, ?_, f1⟩
    rw [hg]
    rcases e2 with z | z
    · rw [if_pos z, f2 z]; rfl
    · rw [if_neg (by rw [z]; decide)]
      show qs_in (16 * nI j + nI k) 192 (some (t.2 1 (16 * nI j + nI k).toNatClampNeg, t)) = _
      rw [ix_ke, qs_in_ok (vp_in_nI (by omega) (by decide)), nI_clamp (by omega), f3 z]
theorem given_hi {t : Sm} {o : Int32} (A : Int64) (b : Int32) (h : 6 ≤ o) (h0 : ¬ o ≤ 0) : f_N_given t o A b = f_N_given_21 t o A b 0 := by
  unfold f_N_given
  rw [if_neg h0, if_pos h]
  rfl
theorem given_lo {t : Sm} {o : Int32} (A : Int64) {b : Nat} (hb : b < 24) (h : ¬ 6 ≤ o) (h0 : ¬ o ≤ 0) : f_N_given t o A (nI b) = f_N_given_21 t o A (nI b) (t.2 11 b) := by
  unfold f_N_given
  rw [if_neg h0, if_neg h, qs_in_ok (vp_in_nI hb (by decide)), nI_clamp (by omega)]
def q_Giv (g : Sg) (t : Sm) (o a b : Int32) (A : Int64) : Prop := ∃ r u v, f_M_result g o a b = some (r, u) ∧ f_N_given t o A b = some (r.toInt64, v) ∧ re_num r ∧ q_Rz u v ∧ q_Kp g u t v
theorem giv0 {g : Sg} {t : Sm} (h : q_Rz g t) {a b : Int32} (d1 : ¬ b < -16000) (d2 : ¬ 16000 < b) : q_Giv g t 0 a b 0 := by
  refine ⟨b, g, t, rfl, ?_, ?_, h, Kp_refl g t⟩
  · unfold f_N_given
    rw [if_pos (by decide)]
    unfold f_N_given_20 f_N_given_21
    rw [qs_pb_of whole_0]
    rfl
  · have k1 : ¬ b.toInt < -16000 := fun q => d1 (Int32.lt_iff_toInt_lt.mpr q)
    have k2 : ¬ 16000 < b.toInt := fun q => d2 (Int32.lt_iff_toInt_lt.mpr q)
    exact ⟨by omega, by omega⟩
theorem giv1 {g : Sg} {t : Sm} (h : q_Rz g t) {i j : Nat} (hi : i < 24) (hj : j < 24) : q_Giv g t 1 (nI i) (nI j) (g 13 i).toInt64 := by
  obtain ⟨r, e1, e2, e3⟩ := clamp_eq ((g 13 i).toInt64 + (g 13 j).toInt64)
  refine ⟨r, g, t, ?_, ?_, e3, h, Kp_refl g t⟩
  · unfold f_M_result
    rw [if_neg (show ¬ (1 : Int32) = 0 by decide), if_pos (show (1 : Int32) = 1 from rfl), qs_in_ok (vp_in_nI hi (by decide)), qs_in_ok (vp_in_nI hj (by decide)), nI_clamp (by omega), nI_clamp (by omega), qs_pb_of e1]
  · rw [given_lo _ hj (by decide) (by decide), glob_at h hj]
    unfold f_N_given_21
    rw [qs_pb_of (whole_eq _), if_neg (show ¬ (1 : Int32) = 0 by decide), if_pos (show (1 : Int32) = 1 from rfl)]
    rw [qs_pb_of e2]
theorem giv2 {g : Sg} {t : Sm} (h : q_Rz g t) {i j : Nat} (hi : i < 24) (hj : j < 24) : q_Giv g t 2 (nI i) (nI j) (g 13 i).toInt64 := by
  obtain ⟨r, e1, e2, e3⟩ := clamp_eq ((g 13 i).toInt64 - (g 13 j).toInt64)
  refine ⟨r, g, t, ?_, ?_, e3, h, Kp_refl g t⟩
  · unfold f_M_result
    rw [if_neg (show ¬ (2 : Int32) = 0 by decide), if_neg (show ¬ (2 : Int32) = 1 by decide), if_pos (show (2 : Int32) = 2 from rfl), qs_in_ok (vp_in_nI hi (by decide)), qs_in_ok (vp_in_nI hj (by decide)), nI_clamp (by omega), nI_clamp (by omega), qs_pb_of e1]
  · rw [given_lo _ hj (by decide) (by decide), glob_at h hj]
    unfold f_N_given_21
    rw [qs_pb_of (whole_eq _), if_neg (show ¬ (2 : Int32) = 0 by decide), if_neg (show ¬ (2 : Int32) = 1 by decide), if_pos (show (2 : Int32) = 2 from rfl)]
    rw [qs_pb_of e2]
theorem prod_le {x y : Int32} (h1 : re_num x) (h2 : re_num y) : -17179869184 ≤ x.toInt * y.toInt ∧ x.toInt * y.toInt ≤ 17179869184 := by
  obtain ⟨a1, a2⟩ := h1
  obtain ⟨b1, b2⟩ := h2
  have k : (x.toInt * y.toInt).natAbs ≤ 131072 * 131072 := by
    rw [Int.natAbs_mul]
    exact Nat.mul_le_mul (by omega) (by omega)
  omega
theorem giv3 {g : Sg} {t : Sm} (h : q_Rz g t) {i j : Nat} (hi : i < 24) (hj : j < 24) : q_Giv g t 3 (nI i) (nI j) (g 13 i).toInt64 := by
  obtain ⟨p1, p2⟩ := prod_le (glob_num h hi) (glob_num h hj)
  have pe : ((g 13 i).toInt64 * (g 13 j).toInt64).toInt = (g 13 i).toInt * (g 13 j).toInt := by
    rw [q_i64_mul (by rw [ti64, ti64]; omega) (by rw [ti64, ti64]; omega), ti64, ti64]
  obtain ⟨q, q1, q2⟩ := fd8_64 (y := (g 13 i).toInt64 * (g 13 j).toInt64) (by rw [pe]; omega) (by rw [pe]; omega)
  obtain ⟨q', q3, q4⟩ := down8 (y := (g 13 i).toInt64 * (g 13 j).toInt64) (by rw [pe]; omega) (by rw [pe]; omega)
  have hq : q' = q := Int64.toInt_inj.mp (q4.trans q2.symm)
  subst hq
  obtain ⟨r, e1, e2, e3⟩ := clamp_eq q'
  refine ⟨r, g, t, ?_, ?_, e3, h, Kp_refl g t⟩
  · unfold f_M_result
    rw [if_neg (show ¬ (3 : Int32) = 0 by decide), if_neg (show ¬ (3 : Int32) = 1 by decide), if_neg (show ¬ (3 : Int32) = 2 by decide), if_pos (show (3 : Int32) = 3 from rfl), qs_in_ok (vp_in_nI hi (by decide)), qs_in_ok (vp_in_nI hj (by decide)), nI_clamp (by omega), nI_clamp (by omega), qs_pb_of q1, qs_pb_of e1]
  · rw [given_lo _ hj (by decide) (by decide), glob_at h hj]
    unfold f_N_given_21
    rw [qs_pb_of (whole_eq _), if_neg (show ¬ (3 : Int32) = 0 by decide), if_neg (show ¬ (3 : Int32) = 1 by decide), if_neg (show ¬ (3 : Int32) = 2 by decide), if_pos (show (3 : Int32) = 3 from rfl)]
    rw [qs_pb_of q3, qs_pb_of e2]
theorem giv4 {g : Sg} {t : Sm} (h : q_Rz g t) {i j : Nat} (hi : i < 24) (hj : j < 24) : q_Giv g t 4 (nI i) (nI j) (g 13 i).toInt64 := by
  refine ⟨if g 13 j ≤ g 13 i then 0 else 8, g, t, ?_, ?_, ?_, h, Kp_refl g t⟩
  · unfold f_M_result
    rw [if_neg (show ¬ (4 : Int32) = 0 by decide), if_neg (show ¬ (4 : Int32) = 1 by decide), if_neg (show ¬ (4 : Int32) = 2 by decide), if_neg (show ¬ (4 : Int32) = 3 by decide), if_pos (show (4 : Int32) = 4 from rfl), qs_in_ok (vp_in_nI hi (by decide)), qs_in_ok (vp_in_nI hj (by decide)), nI_clamp (by omega), nI_clamp (by omega)]
    by_cases c : g 13 j ≤ g 13 i
    · rw [if_pos c, if_pos c]
    · rw [if_neg c, if_neg c]
  · rw [given_lo _ hj (by decide) (by decide), glob_at h hj]
    unfold f_N_given_21
    rw [qs_pb_of (whole_eq _), if_neg (show ¬ (4 : Int32) = 0 by decide), if_neg (show ¬ (4 : Int32) = 1 by decide), if_neg (show ¬ (4 : Int32) = 2 by decide), if_neg (show ¬ (4 : Int32) = 3 by decide), if_pos (show (4 : Int32) = 4 from rfl)]
    by_cases c : g 13 j ≤ g 13 i
    · rw [if_pos c, if_pos ((lg_cmp_ge _ _).mpr ((le64 _ _).mpr c))]; rfl
    · rw [if_neg c, if_neg (fun q => c ((le64 _ _).mp ((lg_cmp_ge _ _).mp q)))]; rfl
  · by_cases c : g 13 j ≤ g 13 i
    · rw [if_pos c]; exact re_num0
    · rw [if_neg c]; unfold re_num; decide
theorem giv5 {g : Sg} {t : Sm} (h : q_Rz g t) {i j : Nat} (hi : i < 24) (hj : j < 24) : q_Giv g t 5 (nI i) (nI j) (g 13 i).toInt64 := by
  refine ⟨if g 13 i = g 13 j then 8 else 0, g, t, ?_, ?_, ?_, h, Kp_refl g t⟩
  · unfold f_M_result
    rw [if_neg (show ¬ (5 : Int32) = 0 by decide), if_neg (show ¬ (5 : Int32) = 1 by decide), if_neg (show ¬ (5 : Int32) = 2 by decide), if_neg (show ¬ (5 : Int32) = 3 by decide), if_neg (show ¬ (5 : Int32) = 4 by decide), if_pos (show (5 : Int32) = 5 from rfl), qs_in_ok (vp_in_nI hi (by decide)), qs_in_ok (vp_in_nI hj (by decide)), nI_clamp (by omega), nI_clamp (by omega)]
    by_cases c : g 13 i = g 13 j
    · rw [if_pos c, if_pos c]
    · rw [if_neg c, if_neg c]
  · rw [given_lo _ hj (by decide) (by decide), glob_at h hj]
    unfold f_N_given_21
    rw [qs_pb_of (whole_eq _), if_neg (show ¬ (5 : Int32) = 0 by decide), if_neg (show ¬ (5 : Int32) = 1 by decide), if_neg (show ¬ (5 : Int32) = 2 by decide), if_neg (show ¬ (5 : Int32) = 3 by decide), if_neg (show ¬ (5 : Int32) = 4 by decide), if_pos (show (5 : Int32) = 5 from rfl)]
    by_cases c : g 13 i = g 13 j
    · rw [if_pos c, if_pos ((lg_cmp_eq _ _).mpr ((eq64 _ _).mpr c))]; rfl
    · rw [if_neg c, if_neg (fun q => c ((eq64 _ _).mp ((lg_cmp_eq _ _).mp q)))]; rfl
  · by_cases c : g 13 i = g 13 j
    · rw [if_pos c]; unfold re_num; decide
    · rw [if_neg c]; exact re_num0
theorem giv6 {g : Sg} {t : Sm} (h : q_Rz g t) {i : Nat} (hi : i < 24) (b : Int32) : q_Giv g t 6 (nI i) b (g 13 i).toInt64 := by
  refine ⟨g 13 i, g, t, ?_, ?_, glob_num h hi, h, Kp_refl g t⟩
  · show qs_in (nI i) 24 (some (g 13 (nI i).toNatClampNeg, g)) = _
    rw [qs_in_ok (vp_in_nI hi (by decide)), nI_clamp (by omega)]
  · rw [given_hi _ _ (by decide) (by decide)]
    unfold f_N_given_21
    rw [qs_pb_of (whole_eq _)]
    rfl
theorem giv7 {g : Sg} {t : Sm} (h : q_Rz g t) {i k : Nat} (hi : i < 24) (hk : k < 16) : q_Giv g t 7 (nI i) (nI k) (g 13 i).toInt64 := by
  obtain ⟨x, e1, e2, e3⟩ := field_any h.1.2.2.1 (g 13 i >>> (3 &&& 31)) hk
  refine ⟨x, g, t, ?_, ?_, e3, h, Kp_refl g t⟩
  · show qs_in (nI i) 24 (qs_pb (some (g 13 (nI i).toNatClampNeg >>> (3 &&& 31))) fun r27 => (qs_bn (f_E_field g (r27) (nI k)) fun r28 u29 => (some (r28, u29)))) = _
    rw [qs_in_ok (vp_in_nI hi (by decide)), nI_clamp (by omega)]
    show (qs_bn (f_E_field g (g 13 i >>> (3 &&& 31)) (nI k)) fun r28 u29 => (some (r28, u29))) = _
    rw [qs_bn_of e1]
  · rw [given_hi _ _ (by decide) (by decide)]
    unfold f_N_given_21
    rw [qs_pb_of (whole_eq _)]
    exact e2
theorem giv12 {g : Sg} {t : Sm} (h : q_Rz g t) (a b : Int32) : q_Giv g t 12 a b 0 := by
  have hg : f_N_given t 12 0 b = qs_bn (f_N_create t) fun r36 u37 => (some ((8 : Int64) * (r36.toInt64), u37)) := by
    rw [given_hi _ _ (by decide) (by decide)]
    unfold f_N_given_21
    rw [qs_pb_of whole_0]
    rfl
  have hr : f_M_result g 12 a b = qs_bn (f_E_create g) fun r43 u44 => (some (r43 * 8, u44)) := rfl
  rcases create_eq h.1 with ⟨e1, e2⟩ | ⟨i, hi, hz, e1, e2, hx⟩
  · refine ⟨-8, g, t, ?_, ?_, by unfold re_num; decide, h, Kp_refl g t⟩
    · rw [hr, qs_bn_of e1]; rfl
    · rw [hg, qs_bn_of e2]; rfl
  · have k := mul8 (a := nI i) (by rw [nI_toInt (by omega)]; omega) (by rw [nI_toInt (by omega)]; omega)
    refine ⟨nI i * 8, _, _, ?_, ?_, k.2, ⟨hx, h.2⟩, ⟨rfl, rfl, rfl, rfl, rfl, rfl⟩⟩
    · rw [hr, qs_bn_of e1]
    · rw [hg, qs_bn_of e2, k.1]
theorem giv14 {g : Sg} {t : Sm} (h : q_Rz g t) {i : Nat} (hi : i < 24) (b : Int32) : q_Giv g t 14 (nI i) b (g 13 i).toInt64 := by
  obtain ⟨r, r1, r2, e1, e2⟩ := behind_loop h.1.2.2.1 (g 13 i >>> (3 &&& 31)) 200 0 (by omega) (by omega)
  have e1 : f_E_firstBehind g (g 13 i >>> (3 &&& 31)) = some (r, g) := e1
  have e2 : f_N_behind t (g 13 i >>> (3 &&& 31)) = some (8 * r.toInt64, t) := e2
  have k := mul8 (a := r) (by omega) (by omega)
  refine ⟨r * 8, g, t, ?_, ?_, k.2, h, Kp_refl g t⟩
  · show qs_in (nI i) 24 (qs_pb (some (g 13 (nI i).toNatClampNeg >>> (3 &&& 31))) fun r50 => (qs_bn (f_E_firstBehind g (r50)) fun r51 u52 => (some (r51 * 8, u52)))) = _
    rw [qs_in_ok (vp_in_nI hi (by decide)), nI_clamp (by omega)]
    show (qs_bn (f_E_firstBehind g (g 13 i >>> (3 &&& 31))) fun r51 u52 => (some (r51 * 8, u52))) = _
    rw [qs_bn_of e1]
  · rw [given_hi _ _ (by decide) (by decide)]
    unfold f_N_given_21
    rw [qs_pb_of (whole_eq _)]
    show (qs_bn (f_N_behind t (g 13 i >>> (3 &&& 31))) fun r42 u43 => (some (r42, u43))) = _
    rw [qs_bn_of e2, k.1]
theorem giv15 {g : Sg} {t : Sm} (h : q_Rz g t) (a b : Int32) : q_Giv g t 15 a b 0 := by
  obtain ⟨r, u, v, e1, e2, e3, e4, e5⟩ := draw_eq h
  refine ⟨r, u, v, ?_, ?_, e3, e4, e5⟩
  · show (qs_bn (f_M_draw g) fun r53 u54 => (some (r53, u54))) = _
    rw [qs_bn_of e1]
  · rw [given_hi _ _ (by decide) (by decide)]
    unfold f_N_given_21
    rw [qs_pb_of whole_0]
    show (qs_bn (f_N_drawn t) fun r44 u45 => (some (r44, u45))) = _
    rw [qs_bn_of e2]
