theorem ins_a {t : Sm} {n i : Nat} {o : Int32} (hn : n < 84) (hi : i < 24) (e6 : t.1 6 n = o) (e7 : t.1 7 n = nI i) (h : f_N_in o 1 8 = some 1 ∨ (f_N_in o 1 8 = some 0 ∧ (o = 13 ∨ o = 14))) : f_N_instruction t (nI n) = f_N_instruction_44 t (nI n) o (t.2 11 i) := by
  have k : f_N_instruction_29 t (nI n) o = f_N_instruction_44 t (nI n) o (t.2 11 i) := by
    unfold f_N_instruction_29
    rw [qs_in_ok (vp_in_nI hn (by decide)), nI_clamp (by omega), e7, qs_in_ok (vp_in_nI hi (by decide)), nI_clamp (by omega)]
  unfold f_N_instruction
  rw [qs_in_ok (vp_in_nI hn (by decide)), nI_clamp (by omega), e6]
  rcases h with h | ⟨h, d⟩
  · rw [qs_pb_of h, if_neg (by decide), k]
  · rw [qs_pb_of h, if_pos rfl]
    by_cases c : o = 13
    · rw [if_pos c, k]
    · rcases d with d | d
      · exact absurd d c
      · rw [if_neg c, if_pos d, k]
theorem ins_0 {t : Sm} {n : Nat} {o : Int32} (hn : n < 84) (e6 : t.1 6 n = o) (h : f_N_in o 1 8 = some 0) (h1 : ¬ o = 13) (h2 : ¬ o = 14) : f_N_instruction t (nI n) = f_N_instruction_44 t (nI n) o 0 := by
  unfold f_N_instruction
  rw [qs_in_ok (vp_in_nI hn (by decide)), nI_clamp (by omega), e6, qs_pb_of h, if_pos rfl, if_neg h1, if_neg h2]
theorem ins_set {g : Sg} {t : Sm} {n k : Nat} {o a b : Int32} {A : Int64} (hn : n < 84) (hk : k < 24) (e8 : t.1 8 n = b) (e9 : t.1 9 n = nI k) (h1 : ¬ o = 8) (h2 : ¬ o = 13) (hg : q_Giv g t o a b A) : ∃ u v, (qs_bn (f_M_result g o a b) fun r u => qs_in (nI k) 24 (qs_st (qs_a u 13 (nI k).toNatClampNeg r) fun u => some ((), u))) = some ((), u) ∧ f_N_instruction_44 t (nI n) o A = some ((), v) ∧ q_Rz u v ∧ q_Kp g u t v := by
  obtain ⟨r, u, v, e1, e2, e3, e4, e5⟩ := hg
  refine ⟨qs_a u 13 k r, qm_la v 11 k r.toInt64, ?_, ?_, ⟨glob_set e4.1 e3, e4.2⟩, e5⟩
  · rw [qs_bn_of e1, qs_in_ok (vp_in_nI hk (by decide)), qs_st_of, nI_clamp (by omega)]
  · unfold f_N_instruction_44
    rw [if_neg h1, if_neg h2, qs_in_ok (vp_in_nI hn (by decide)), qs_in_ok (vp_in_nI hn (by decide)), nI_clamp (by omega), e8, e9, qs_bn_of e2, qs_in_ok (vp_in_nI hk (by decide)), qs_st_of, nI_clamp (by omega)]
theorem ins_8 {g : Sg} {t : Sm} (h : q_Rz g t) {n i j k : Nat} (hn : n < 84) (hi : i < 24) (hj : j < 16) (hk : k < 24) (e8 : t.1 8 n = nI j) (e9 : t.1 9 n = nI k) : ∃ u v, M_body g 8 (nI i) (nI j) (nI k) = some ((), u) ∧ f_N_instruction_44 t (nI n) 8 (t.2 11 i) = some ((), v) ∧ q_Rz u v ∧ q_Kp g u t v := by
  have hb : M_body g 8 (nI i) (nI j) (nI k) = qs_bn (f_E_put g (g 13 i >>> (3 &&& 31)) (nI j) (g 13 k)) fun _ u17 => some ((), u17) := by
    unfold M_body
    rw [if_pos rfl, qs_in_ok (vp_in_nI hi (by decide)), nI_clamp (by omega), qs_pb_of (show f_Q_wholeOf (g 13 i) = some (g 13 i >>> (3 &&& 31)) from rfl), qs_in_ok (vp_in_nI hk (by decide)), nI_clamp (by omega)]
  have hw : f_N_whole (t.2 11 i) = some (g 13 i >>> (3 &&& 31)) := by rw [glob_at h hi]; exact whole_eq _
  rw [hb]
  generalize g 13 i >>> (3 &&& 31) = w at *
  rcases there_is h.1.2.2.1 w with ⟨e1, e2⟩ | ⟨m, hm, ex, hz, e1, e2⟩
  · refine ⟨g, t, ?_, ?_, h, Kp_refl g t⟩
    · rw [qs_bn_of (show f_E_put g w (nI j) (g 13 k) = some ((), g) by unfold f_E_put; rw [qs_bn_of e1, if_pos rfl])]
    · unfold f_N_instruction_44
      rw [if_pos rfl, qs_pb_of hw, qs_bn_of e2, if_neg (by decide)]
  · subst ex
    refine ⟨qs_a g 8 (16 * m + j) (g 13 k), qm_la t 1 (16 * m + j) (g 13 k).toInt64, ?_, ?_, ⟨rel_put h.1 hj hz (glob_num h hk), h.2⟩, ⟨rfl, rfl, rfl, rfl, rfl, rfl⟩⟩
    · rw [qs_bn_of (q_put_at hm hj hz (g 13 k))]
    · unfold f_N_instruction_44
      rw [if_pos rfl, qs_pb_of hw, qs_bn_of e2, if_pos rfl, qs_pb_of hw, qs_in_ok (vp_in_nI hn (by decide)), qs_in_ok (vp_in_nI hn (by decide)), nI_clamp (n := n) (by omega), e8, e9, qs_in_ok (vp_in_nI hk (by decide)), nI_clamp (n := k) (by omega), ix_ke, qs_in_ok (vp_in_nI (by omega) (by decide)), qs_st_of, nI_clamp (by omega), glob_at h hk]
theorem ins_13 {g : Sg} {t : Sm} (h : q_Rz g t) {n i : Nat} (hi : i < 24) (b c : Int32) : ∃ u v, M_body g 13 (nI i) b c = some ((), u) ∧ f_N_instruction_44 t (nI n) 13 (t.2 11 i) = some ((), v) ∧ q_Rz u v ∧ q_Kp g u t v := by
  have hb : M_body g 13 (nI i) b c = qs_bn (f_E_erase g (g 13 i >>> (3 &&& 31))) fun _ u38 => some ((), u38) := by
    unfold M_body
    rw [if_neg (show ¬ (13 : Int32) = 8 by decide), if_neg (show ¬ (13 : Int32) = 9 by decide), if_neg (show ¬ (13 : Int32) = 10 by decide), if_neg (show ¬ (13 : Int32) = 11 by decide), if_neg (show ¬ (13 : Int32) = 12 by decide), if_pos rfl, qs_in_ok (vp_in_nI hi (by decide)), nI_clamp (by omega), qs_pb_of (show f_Q_wholeOf (g 13 i) = some (g 13 i >>> (3 &&& 31)) from rfl)]
  have hw : f_N_whole (t.2 11 i) = some (g 13 i >>> (3 &&& 31)) := by rw [glob_at h hi]; exact whole_eq _
  rw [hb]
  generalize g 13 i >>> (3 &&& 31) = w at *
  rcases there_is h.1.2.2.1 w with ⟨e1, e2⟩ | ⟨m, hm, ex, hz, e1, e2⟩
  · refine ⟨g, t, ?_, ?_, h, Kp_refl g t⟩
    · rw [qs_bn_of (show f_E_erase g w = some ((), g) by unfold f_E_erase; rw [qs_bn_of e1, if_pos rfl])]
    · unfold f_N_instruction_44
      rw [if_neg (show ¬ (13 : Int32) = 8 by decide), if_pos rfl, qs_pb_of hw, qs_bn_of e2, if_neg (by decide)]
  · subst ex
    refine ⟨ez_k (qs_a g 7 m 0) m 0, qm_a t 2 m 0, ?_, ?_, ⟨rel_gone h.1, h.2⟩, ⟨rfl, rfl, rfl, rfl, rfl, rfl⟩⟩
    · rw [qs_bn_of (erase_is hm e1)]
    · unfold f_N_instruction_44
      rw [if_neg (show ¬ (13 : Int32) = 8 by decide), if_pos rfl, qs_pb_of hw, qs_bn_of e2, if_pos rfl, qs_pb_of hw, qs_in_ok (vp_in_nI hm (by decide)), qs_st_of, nI_clamp (by omega)]
      rfl
theorem op_eq {g : Sg} {t : Sm} (h : q_Rz g t) {n : Nat} (hn : n < 84) {o a b c : Int32} (hs : q_Snd a b c o) (e6 : t.1 6 n = o) (e7 : t.1 7 n = a) (e8 : t.1 8 n = b) (e9 : t.1 9 n = c) (n9 : ¬ o = 9) (n10 : ¬ o = 10) (n11 : ¬ o = 11) (n16 : ¬ o = 16) : ∃ u v, M_body g o a b c = some ((), u) ∧ f_N_instruction t (nI n) = some ((), v) ∧ q_Rz u v ∧ q_Kp g u t v := by
  rcases hs with ⟨rfl, d1, d2, i3⟩ | ⟨rfl, i1, i2, i3⟩ | ⟨rfl, i1, i2, i3⟩ | ⟨rfl, i1, i2, i3⟩ | ⟨rfl, i1, i2, i3⟩ | ⟨rfl, i1, i2, i3⟩ | ⟨rfl, i1, i3⟩ | ⟨rfl, i1, i2, i3⟩ | ⟨rfl, i1, i2, i3⟩ | ⟨rfl, i1, i2⟩ | ⟨rfl, i2⟩ | ⟨rfl, i1⟩ | ⟨rfl, i3⟩ | ⟨rfl, i1⟩ | ⟨rfl, i1, i3⟩ | ⟨rfl, i3⟩ | rfl
  · obtain ⟨k, hk, rfl⟩ := i3
    obtain ⟨u, v, q1, q2, q3, q4⟩ := ins_set hn hk e8 e9 (o := 0) (by decide) (by decide) (giv0 (a := a) h d1 d2)
    refine ⟨u, v, ?_, ?_, q3, q4⟩
    · unfold M_body
      rw [if_neg (show ¬ (0 : Int32) = 8 by decide), if_neg (show ¬ (0 : Int32) = 9 by decide), if_neg (show ¬ (0 : Int32) = 10 by decide), if_neg (show ¬ (0 : Int32) = 11 by decide), if_neg (show ¬ (0 : Int32) = 12 by decide), if_neg (show ¬ (0 : Int32) = 13 by decide), if_neg (show ¬ (0 : Int32) = 14 by decide), if_neg (show ¬ (0 : Int32) = 15 by decide), if_neg (show ¬ (0 : Int32) = 16 by decide)]
      exact q1
    · rw [ins_0 hn e6 (by decide) (by decide) (by decide)]
      exact q2
  · obtain ⟨i, hi, rfl⟩ := i1
    obtain ⟨j, hj, rfl⟩ := i2
    obtain ⟨k, hk, rfl⟩ := i3
    obtain ⟨u, v, q1, q2, q3, q4⟩ := ins_set hn hk e8 e9 (o := 1) (by decide) (by decide) (giv1 h hi hj)
    refine ⟨u, v, ?_, ?_, q3, q4⟩
    · unfold M_body
      rw [if_neg (show ¬ (1 : Int32) = 8 by decide), if_neg (show ¬ (1 : Int32) = 9 by decide), if_neg (show ¬ (1 : Int32) = 10 by decide), if_neg (show ¬ (1 : Int32) = 11 by decide), if_neg (show ¬ (1 : Int32) = 12 by decide), if_neg (show ¬ (1 : Int32) = 13 by decide), if_neg (show ¬ (1 : Int32) = 14 by decide), if_neg (show ¬ (1 : Int32) = 15 by decide), if_neg (show ¬ (1 : Int32) = 16 by decide)]
      exact q1
    · rw [ins_a hn hi e6 e7 (Or.inl (by decide)), glob_at h hi]
      exact q2
  · obtain ⟨i, hi, rfl⟩ := i1
    obtain ⟨j, hj, rfl⟩ := i2
    obtain ⟨k, hk, rfl⟩ := i3
    obtain ⟨u, v, q1, q2, q3, q4⟩ := ins_set hn hk e8 e9 (o := 2) (by decide) (by decide) (giv2 h hi hj)
    refine ⟨u, v, ?_, ?_, q3, q4⟩
    · unfold M_body
      rw [if_neg (show ¬ (2 : Int32) = 8 by decide), if_neg (show ¬ (2 : Int32) = 9 by decide), if_neg (show ¬ (2 : Int32) = 10 by decide), if_neg (show ¬ (2 : Int32) = 11 by decide), if_neg (show ¬ (2 : Int32) = 12 by decide), if_neg (show ¬ (2 : Int32) = 13 by decide), if_neg (show ¬ (2 : Int32) = 14 by decide), if_neg (show ¬ (2 : Int32) = 15 by decide), if_neg (show ¬ (2 : Int32) = 16 by decide)]
      exact q1
    · rw [ins_a hn hi e6 e7 (Or.inl (by decide)), glob_at h hi]
      exact q2
  · obtain ⟨i, hi, rfl⟩ := i1
    obtain ⟨j, hj, rfl⟩ := i2
    obtain ⟨k, hk, rfl⟩ := i3
    obtain ⟨u, v, q1, q2, q3, q4⟩ := ins_set hn hk e8 e9 (o := 3) (by decide) (by decide) (giv3 h hi hj)
    refine ⟨u, v, ?_, ?_, q3, q4⟩
    · unfold M_body
      rw [if_neg (show ¬ (3 : Int32) = 8 by decide), if_neg (show ¬ (3 : Int32) = 9 by decide), if_neg (show ¬ (3 : Int32) = 10 by decide), if_neg (show ¬ (3 : Int32) = 11 by decide), if_neg (show ¬ (3 : Int32) = 12 by decide), if_neg (show ¬ (3 : Int32) = 13 by decide), if_neg (show ¬ (3 : Int32) = 14 by decide), if_neg (show ¬ (3 : Int32) = 15 by decide), if_neg (show ¬ (3 : Int32) = 16 by decide)]
      exact q1
    · rw [ins_a hn hi e6 e7 (Or.inl (by decide)), glob_at h hi]
      exact q2
  · obtain ⟨i, hi, rfl⟩ := i1
    obtain ⟨j, hj, rfl⟩ := i2
    obtain ⟨k, hk, rfl⟩ := i3
    obtain ⟨u, v, q1, q2, q3, q4⟩ := ins_set hn hk e8 e9 (o := 4) (by decide) (by decide) (giv4 h hi hj)
    refine ⟨u, v, ?_, ?_, q3, q4⟩
    · unfold M_body
      rw [if_neg (show ¬ (4 : Int32) = 8 by decide), if_neg (show ¬ (4 : Int32) = 9 by decide), if_neg (show ¬ (4 : Int32) = 10 by decide), if_neg (show ¬ (4 : Int32) = 11 by decide), if_neg (show ¬ (4 : Int32) = 12 by decide), if_neg (show ¬ (4 : Int32) = 13 by decide), if_neg (show ¬ (4 : Int32) = 14 by decide), if_neg (show ¬ (4 : Int32) = 15 by decide), if_neg (show ¬ (4 : Int32) = 16 by decide)]
      exact q1
    · rw [ins_a hn hi e6 e7 (Or.inl (by decide)), glob_at h hi]
      exact q2
  · obtain ⟨i, hi, rfl⟩ := i1
    obtain ⟨j, hj, rfl⟩ := i2
    obtain ⟨k, hk, rfl⟩ := i3
    obtain ⟨u, v, q1, q2, q3, q4⟩ := ins_set hn hk e8 e9 (o := 5) (by decide) (by decide) (giv5 h hi hj)
    refine ⟨u, v, ?_, ?_, q3, q4⟩
    · unfold M_body
      rw [if_neg (show ¬ (5 : Int32) = 8 by decide), if_neg (show ¬ (5 : Int32) = 9 by decide), if_neg (show ¬ (5 : Int32) = 10 by decide), if_neg (show ¬ (5 : Int32) = 11 by decide), if_neg (show ¬ (5 : Int32) = 12 by decide), if_neg (show ¬ (5 : Int32) = 13 by decide), if_neg (show ¬ (5 : Int32) = 14 by decide), if_neg (show ¬ (5 : Int32) = 15 by decide), if_neg (show ¬ (5 : Int32) = 16 by decide)]
      exact q1
    · rw [ins_a hn hi e6 e7 (Or.inl (by decide)), glob_at h hi]
      exact q2
  · obtain ⟨i, hi, rfl⟩ := i1
    obtain ⟨k, hk, rfl⟩ := i3
    obtain ⟨u, v, q1, q2, q3, q4⟩ := ins_set hn hk e8 e9 (o := 6) (by decide) (by decide) (giv6 h hi b)
    refine ⟨u, v, ?_, ?_, q3, q4⟩
    · unfold M_body
      rw [if_neg (show ¬ (6 : Int32) = 8 by decide), if_neg (show ¬ (6 : Int32) = 9 by decide), if_neg (show ¬ (6 : Int32) = 10 by decide), if_neg (show ¬ (6 : Int32) = 11 by decide), if_neg (show ¬ (6 : Int32) = 12 by decide), if_neg (show ¬ (6 : Int32) = 13 by decide), if_neg (show ¬ (6 : Int32) = 14 by decide), if_neg (show ¬ (6 : Int32) = 15 by decide), if_neg (show ¬ (6 : Int32) = 16 by decide)]
      exact q1
    · rw [ins_a hn hi e6 e7 (Or.inl (by decide)), glob_at h hi]
      exact q2
  · obtain ⟨i, hi, rfl⟩ := i1
    obtain ⟨j, hj, rfl⟩ := i2
    obtain ⟨k, hk, rfl⟩ := i3
    obtain ⟨u, v, q1, q2, q3, q4⟩ := ins_set hn hk e8 e9 (o := 7) (by decide) (by decide) (giv7 h hi hj)
    refine ⟨u, v, ?_, ?_, q3, q4⟩
    · unfold M_body
      rw [if_neg (show ¬ (7 : Int32) = 8 by decide), if_neg (show ¬ (7 : Int32) = 9 by decide), if_neg (show ¬ (7 : Int32) = 10 by decide), if_neg (show ¬ (7 : Int32) = 11 by decide), if_neg (show ¬ (7 : Int32) = 12 by decide), if_neg (show ¬ (7 : Int32) = 13 by decide), if_neg (show ¬ (7 : Int32) = 14 by decide), if_neg (show ¬ (7 : Int32) = 15 by decide), if_neg (show ¬ (7 : Int32) = 16 by decide)]
      exact q1
    · rw [ins_a hn hi e6 e7 (Or.inl (by decide)), glob_at h hi]
      exact q2
  · obtain ⟨i, hi, rfl⟩ := i1
    obtain ⟨j, hj, rfl⟩ := i2
    obtain ⟨k, hk, rfl⟩ := i3
    rw [ins_a hn hi e6 e7 (Or.inl (by decide))]
    exact ins_8 h hn hi hj hk e8 e9
  · exact absurd rfl n9
  · exact absurd rfl n10
  · exact absurd rfl n11
  · obtain ⟨k, hk, rfl⟩ := i3
    obtain ⟨u, v, q1, q2, q3, q4⟩ := ins_set hn hk e8 e9 (o := 12) (by decide) (by decide) (giv12 h a b)
    refine ⟨u, v, ?_, ?_, q3, q4⟩
    · unfold M_body
      rw [if_neg (show ¬ (12 : Int32) = 8 by decide), if_neg (show ¬ (12 : Int32) = 9 by decide), if_neg (show ¬ (12 : Int32) = 10 by decide), if_neg (show ¬ (12 : Int32) = 11 by decide), if_pos (show (12 : Int32) = 12 from rfl)]
      exact q1
    · rw [ins_0 hn e6 (by decide) (by decide) (by decide)]
      exact q2
  · obtain ⟨i, hi, rfl⟩ := i1
    rw [ins_a hn hi e6 e7 (Or.inr ⟨by decide, Or.inl rfl⟩)]
    exact ins_13 h hi b c
  · obtain ⟨i, hi, rfl⟩ := i1
    obtain ⟨k, hk, rfl⟩ := i3
    obtain ⟨u, v, q1, q2, q3, q4⟩ := ins_set hn hk e8 e9 (o := 14) (by decide) (by decide) (giv14 h hi b)
    refine ⟨u, v, ?_, ?_, q3, q4⟩
    · unfold M_body
      rw [if_neg (show ¬ (14 : Int32) = 8 by decide), if_neg (show ¬ (14 : Int32) = 9 by decide), if_neg (show ¬ (14 : Int32) = 10 by decide), if_neg (show ¬ (14 : Int32) = 11 by decide), if_neg (show ¬ (14 : Int32) = 12 by decide), if_neg (show ¬ (14 : Int32) = 13 by decide), if_pos (show (14 : Int32) = 14 from rfl)]
      exact q1
    · rw [ins_a hn hi e6 e7 (Or.inr ⟨by decide, Or.inr rfl⟩), glob_at h hi]
      exact q2
  · obtain ⟨k, hk, rfl⟩ := i3
    obtain ⟨u, v, q1, q2, q3, q4⟩ := ins_set hn hk e8 e9 (o := 15) (by decide) (by decide) (giv15 h a b)
    refine ⟨u, v, ?_, ?_, q3, q4⟩
    · unfold M_body
      rw [if_neg (show ¬ (15 : Int32) = 8 by decide), if_neg (show ¬ (15 : Int32) = 9 by decide), if_neg (show ¬ (15 : Int32) = 10 by decide), if_neg (show ¬ (15 : Int32) = 11 by decide), if_neg (show ¬ (15 : Int32) = 12 by decide), if_neg (show ¬ (15 : Int32) = 13 by decide), if_neg (show ¬ (15 : Int32) = 14 by decide), if_pos (show (15 : Int32) = 15 from rfl)]
      exact q1
    · rw [ins_0 hn e6 (by decide) (by decide) (by decide)]
      exact q2
  · exact absurd rfl n16
