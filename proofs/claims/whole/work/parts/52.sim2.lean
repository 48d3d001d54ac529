theorem num_eq {g : Sg} {t : Sm} (h : Rel_ent g t) : ∀ (n j : Nat) (x1 : Int32), j ≤ 12 → 12 < j + n → ∃ r, f_E_number_4 n g x1 (nI j) = some (r, g) ∧ f_N_present_4 n t x1 (nI j) = some (r, t) := by
  intro n
  induction n with
  | zero => intro j x1 h1 h2; omega
  | succ n ih =>
    intro j x1 h1 h2
    rw [f_E_number_4, f_N_present_4]
    by_cases c : j = 12
    · subst c
      exact ⟨x1, if_pos (by decide), if_pos (by decide)⟩
    · have hj : j < 12 := by omega
      have hn : ¬ (12 : Int32) ≤ nI j := nI_ge (b := 12) hj (by decide)
      have hin : vp_in (nI j) 12 := vp_in_nI hj (by decide)
      rw [if_neg hn, if_neg hn, qs_in_ok hin, qs_in_ok hin, nI_clamp (by omega), (h j hj).1]
      by_cases d : g 7 j = 0
      · rw [if_pos d, if_pos d]
        unfold f_E_number_22 f_N_present_22
        rw [nI_1]
        exact ih (j + 1) x1 (by omega) (by omega)
      · rw [if_neg d, if_neg d]
        unfold f_E_number_22 f_N_present_22
        rw [nI_1]
        exact ih (j + 1) (x1 + 1) (by omega) (by omega)
theorem number_eq {g : Sg} {t : Sm} (h : Rel_ent g t) : ∃ r, f_E_number g = some (r, g) ∧ f_N_present t = some (r, t) := num_eq h 200 0 0 (Nat.zero_le _) (by decide)
theorem s_count : sm_count Rel := by
  intro g t h x1
  have h0 : Rel g (qm_i t 20 0) := h
  by_cases c0 : x1 = 0
  · obtain ⟨r, e1, e2⟩ := number_eq h0.2.2.1
    refine ⟨.inr (r, g), r, qm_i t 20 0, ?_, ?_, rfl, (fun r u e => by cases e; rfl), h⟩
    · unfold f_Q_count; rw [if_pos c0, qs_bn_of e1]
    · unfold f_N_count; rw [qs_st_of, if_pos c0, qs_bn_of e2]
  by_cases c1 : x1 = 1
  · refine ⟨.inr (g 20 0, g), g 20 0, qm_i t 20 0, ?_, ?_, rfl, (fun r u e => by cases e; rfl), h⟩
    · unfold f_Q_count; rw [if_neg c0, if_pos c1]
    · unfold f_N_count; rw [qs_st_of, if_neg c0, if_pos c1, show (qm_i t 20 0).1 21 0 = t.1 21 0 from rfl, h.2.1.1]
  by_cases c2 : x1 = 2
  · refine ⟨.inr (g 23 0, g), g 23 0, qm_i t 20 0, ?_, ?_, rfl, (fun r u e => by cases e; rfl), h⟩
    · unfold f_Q_count; rw [if_neg c0, if_neg c1, if_pos c2]
    · unfold f_N_count; rw [qs_st_of, if_neg c0, if_neg c1, if_pos c2, show (qm_i t 20 0).2 22 0 = t.2 22 0 from rfl, re_eq32 h.2.2.2.2.2.1]
  by_cases c3 : x1 = 3
  · refine ⟨.inr (g 25 0, g), g 25 0, qm_i t 20 0, ?_, ?_, rfl, (fun r u e => by cases e; rfl), h⟩
    · unfold f_Q_count; rw [if_neg c0, if_neg c1, if_neg c2, if_pos c3]
    · unfold f_N_count; rw [qs_st_of, if_neg c0, if_neg c1, if_neg c2, if_pos c3, show (qm_i t 20 0).1 24 0 = t.1 24 0 from rfl, h.2.2.2.2.2.2.2.2.2.1]
  by_cases c4 : x1 = 4
  · refine ⟨.inr (g 24 0, g), g 24 0, qm_i t 20 0, ?_, ?_, rfl, (fun r u e => by cases e; rfl), h⟩
    · unfold f_Q_count; rw [if_neg c0, if_neg c1, if_neg c2, if_neg c3, if_pos c4]
    · unfold f_N_count; rw [qs_st_of, if_neg c0, if_neg c1, if_neg c2, if_neg c3, if_pos c4, show (qm_i t 20 0).1 23 0 = t.1 23 0 from rfl, h.2.2.2.2.2.2.2.1]
  by_cases c5 : x1 = 5
  · refine ⟨.inr (g 26 0, g), g 26 0, qm_i t 20 0, ?_, ?_, rfl, (fun r u e => by cases e; rfl), h⟩
    · unfold f_Q_count; rw [if_neg c0, if_neg c1, if_neg c2, if_neg c3, if_neg c4, if_pos c5]
    · unfold f_N_count; rw [qs_st_of, if_neg c0, if_neg c1, if_neg c2, if_neg c3, if_neg c4, if_pos c5, show (qm_i t 20 0).1 25 0 = t.1 25 0 from rfl, h.2.2.2.2.2.2.2.2.2.2.1]
  by_cases c6 : x1 = 6
  · refine ⟨.inr (g 27 0, g), g 27 0, qm_i t 20 0, ?_, ?_, rfl, (fun r u e => by cases e; rfl), h⟩
    · unfold f_Q_count; rw [if_neg c0, if_neg c1, if_neg c2, if_neg c3, if_neg c4, if_neg c5, if_pos c6]
    · unfold f_N_count; rw [qs_st_of, if_neg c0, if_neg c1, if_neg c2, if_neg c3, if_neg c4, if_neg c5, if_pos c6, show (qm_i t 20 0).1 26 0 = t.1 26 0 from rfl, h.2.2.2.2.2.2.2.2.2.2.2]
  refine ⟨.inl ("java/lang/IllegalArgumentException", g), 0, qm_i (qm_i t 20 0) 20 1, ?_, ?_, rfl, (fun r u e => by cases e), h⟩
  · unfold f_Q_count; rw [if_neg c0, if_neg c1, if_neg c2, if_neg c3, if_neg c4, if_neg c5, if_neg c6]
  · unfold f_N_count; rw [qs_st_of, if_neg c0, if_neg c1, if_neg c2, if_neg c3, if_neg c4, if_neg c5, if_neg c6]; rfl
