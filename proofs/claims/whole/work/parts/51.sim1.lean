theorem qs_in_ok {α : Type} {i : Int32} {n : Nat} {x : Option α} (h : vp_in i n) : qs_in i n x = x := if_neg h
theorem qs_pb_of {α γ : Type} {x : Option α} {f : α → Option γ} {r : α} (h : x = some r) : qs_pb x f = f r := by rw [h]; rfl
theorem qs_bn_of {α β γ : Type} {x : Option (α × β)} {f : α → β → Option γ} {r : α} {u : β} (h : x = some (r, u)) : qs_bn x f = f r u := by rw [h]; rfl
theorem qs_st_of {S γ : Type} {x : S} {f : S → Option γ} : qs_st x f = f x := rfl
theorem is_below (a : Int32) {b : Nat} (hb : b < 2 ^ 31) : (f_Q_isBelow a (nI b) = some 0 ∧ ∀ j : Nat, j < b → ¬ a = nI j) ∨ ∃ j : Nat, j < b ∧ a = nI j ∧ f_Q_isBelow a (nI b) = some 1 := by
  rcases pk_ix a hb with h | h | ⟨j, hj, e⟩
  · refine Or.inl ⟨by unfold f_Q_isBelow; rw [if_pos h], fun j hj e => ?_⟩
    rw [e] at h
    exact nI_pos (by omega) h
  · refine Or.inl ⟨?_, fun j hj e => ?_⟩
    · unfold f_Q_isBelow
      by_cases c : a < 0
      · rw [if_pos c]
      · rw [if_neg c, if_pos h]
    · rw [e] at h
      exact nI_ge hj hb h
  · refine Or.inr ⟨j, hj, e, ?_⟩
    unfold f_Q_isBelow
    rw [e, if_neg (nI_pos (by omega)), if_neg (nI_ge hj hb)]
theorem is_in (a : Int32) {b : Nat} (hb : b + 1 < 2 ^ 31) : (f_N_in a 0 (nI b) = some 0 ∧ ∀ j : Nat, j < b + 1 → ¬ a = nI j) ∨ ∃ j : Nat, j < b + 1 ∧ a = nI j ∧ f_N_in a 0 (nI b) = some 1 := by
  rcases pk_ix a (n := b + 1) hb with h | h | ⟨j, hj, e⟩
  · refine Or.inl ⟨by unfold f_N_in; rw [if_pos h], fun j hj e => ?_⟩
    rw [e] at h
    exact nI_pos (by omega) h
  · refine Or.inl ⟨?_, fun j hj e => ?_⟩
    · unfold f_N_in
      by_cases c : a < 0
      · rw [if_pos c]
      · rw [if_neg c, if_pos (show nI b < a from Int32.lt_iff_toInt_lt.mpr (by
          have h1 := Int32.le_iff_toInt_le.mp h
          rw [nI_toInt hb] at h1
          rw [nI_toInt (by omega)]
          omega))]
    · rw [e] at h
      exact nI_ge hj hb h
  · refine Or.inr ⟨j, hj, e, ?_⟩
    unfold f_N_in
    rw [e, if_neg (nI_pos (by omega)), if_neg (nI_nlt (by omega) (by omega))]
theorem fail_is (t : Sm) (v : Int32) : f_N_fail t v = some (0, qm_i t 20 v) := rfl
theorem s_global : sm_global Rel := by
  intro g t h x1
  rcases is_below x1 (b := 24) (by decide) with ⟨e1, n1⟩ | ⟨j, hj, ex, e1⟩
  · rcases is_in x1 (b := 23) (by decide) with ⟨e2, -⟩ | ⟨j, hj, ex, -⟩
    · have e1 : f_Q_isBelow x1 24 = some 0 := e1
      have e2 : f_N_in x1 0 23 = some 0 := e2
      refine ⟨.inl ("java/lang/IllegalArgumentException", g), 0, qm_i (qm_i t 20 0) 20 1, ?_, ?_, rfl, (fun r u e => by cases e), h⟩
      · unfold f_Q_global
        rw [qs_pb_of (r := 0) e1]
        rfl
      · unfold f_N_global
        rw [qs_st_of, qs_pb_of (r := 0) e2]
        rfl
    · exact absurd ex (n1 j hj)
  · have e1 : f_Q_isBelow x1 24 = some 1 := e1
    have e2 : f_N_in x1 0 23 = some 1 := by
      rcases is_in x1 (b := 23) (by decide) with ⟨-, n2⟩ | ⟨_, _, _, e2⟩
      · exact absurd ex (n2 j hj)
      · exact e2
    have hin : vp_in x1 24 := by rw [ex]; exact vp_in_nI hj (by decide)
    have hcl : x1.toNatClampNeg = j := by rw [ex]; exact nI_clamp (by omega)
    refine ⟨.inr (g 13 j, g), g 13 j, qm_i t 20 0, ?_, ?_, rfl, (fun r u e => by cases e; rfl), h⟩
    · unfold f_Q_global
      rw [qs_pb_of (r := 1) e1, if_neg (by decide), qs_in_ok hin, hcl]
    · unfold f_N_global
      rw [qs_st_of, qs_pb_of (r := 1) e2, if_neg (by decide), qs_in_ok hin, hcl]
      rw [show (qm_i t 20 0).2 11 j = t.2 11 j from rfl, re_eq32 (h.2.2.2.1 j hj).1]
