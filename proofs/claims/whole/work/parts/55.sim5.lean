theorem mul8 {a : Int32} (h1 : -1024 ≤ a.toInt) (h2 : a.toInt ≤ 1024) : re_eq (a * 8) (8 * a.toInt64) ∧ re_num (a * 8) := by
  have e1 : (a * 8).toInt = a.toInt * 8 := by
    rw [Int32.toInt_mul, show (8 : Int32).toInt = 8 from rfl]
    exact Int.bmod_eq_of_le (by omega) (by omega)
  have e2 : (8 * a.toInt64).toInt = 8 * a.toInt := by
    rw [Int64.toInt_mul, show (8 : Int64).toInt = 8 from rfl, Int32.toInt_toInt64]
    exact Int.bmod_eq_of_le (by omega) (by omega)
  refine ⟨Int64.toInt_inj.mp ?_, ?_, ?_⟩
  · rw [e2, Int32.toInt_toInt64, e1]; omega
  · rw [e1]; omega
  · rw [e1]; omega
theorem in_world (a : Int32) : f_Q_isInWorld a = some 0 ∨ (f_Q_isInWorld a = some 1 ∧ -1024 ≤ a.toInt ∧ a.toInt ≤ 1024) := by
  unfold f_Q_isInWorld
  by_cases c1 : a < -1024
  · exact Or.inl (if_pos c1)
  · rw [if_neg c1]
    by_cases c2 : (1024 : Int32) < a
    · exact Or.inl (if_pos c2)
    · refine Or.inr ⟨if_neg c2, ?_, ?_⟩
      · have q : ¬ a.toInt < -1024 := fun q => c1 (Int32.lt_iff_toInt_lt.mpr q)
        omega
      · have q : ¬ (1024 : Int) < a.toInt := fun q => c2 (Int32.lt_iff_toInt_lt.mpr q)
        omega
theorem rel_wall {g : Sg} {t : Sm} (h : Rel g t) {n : Nat} (hn : n < 6) (e : g 20 0 = nI n) (hw : ∀ w : Nat, w < n → ∀ a : Nat, a < 2 → re_eq (g 9 (2 * w + a)) (t.2 5 (4 * w + 2 * a)) ∧ re_eq (g 10 (2 * w + a)) (t.2 5 (4 * w + 2 * a + 1)) ∧ re_num (g 9 (2 * w + a)) ∧ re_num (g 10 (2 * w + a)))
    {a1 a2 a3 a4 : Int32} {b1 b2 b3 b4 : Int64} (m1 : re_eq a1 b1 ∧ re_num a1) (m2 : re_eq a2 b2 ∧ re_num a2) (m3 : re_eq a3 b3 ∧ re_num a3) (m4 : re_eq a4 b4 ∧ re_num a4) :
    Rel (qs_i (qs_a (qs_a (qs_a (qs_a g 9 (2 * n) a1) 9 (2 * n + 1) a2) 10 (2 * n) a3) 10 (2 * n + 1) a4) 20 (nI (n + 1))) (qm_i (qm_la (qm_la (qm_la (qm_la t 5 (4 * n) b1) 5 (4 * n + 1) b3) 5 (4 * n + 2) b2) 5 (4 * n + 3) b4) 21 (nI (n + 1))) := by
  refine ⟨h.1, ⟨rfl, n + 1, by omega, rfl, fun w hw1 a ha => ?_⟩, h.2.2.1, h.2.2.2.1, h.2.2.2.2.1, h.2.2.2.2.2⟩
  show re_eq (upd (upd (g 9) (2 * n) a1) (2 * n + 1) a2 (2 * w + a)) (vp_updL (vp_updL (vp_updL (vp_updL (t.2 5) (4 * n) b1) (4 * n + 1) b3) (4 * n + 2) b2) (4 * n + 3) b4 (4 * w + 2 * a)) ∧ re_eq (upd (upd (g 10) (2 * n) a3) (2 * n + 1) a4 (2 * w + a)) (vp_updL (vp_updL (vp_updL (vp_updL (t.2 5) (4 * n) b1) (4 * n + 1) b3) (4 * n + 2) b2) (4 * n + 3) b4 (4 * w + 2 * a + 1)) ∧ re_num (upd (upd (g 9) (2 * n) a1) (2 * n + 1) a2 (2 * w + a)) ∧ re_num (upd (upd (g 10) (2 * n) a3) (2 * n + 1) a4 (2 * w + a))
  by_cases d : w = n
  · subst d
    rcases (show a = 0 ∨ a = 1 by omega) with rfl | rfl
    · have q1 : upd (upd (g 9) (2 * w) a1) (2 * w + 1) a2 (2 * w + 0) = a1 := by
        rw [pk_un (by omega)]
        exact pk_us
      have q2 : upd (upd (g 10) (2 * w) a3) (2 * w + 1) a4 (2 * w + 0) = a3 := by
        rw [pk_un (by omega)]
        exact pk_us
      have q3 : vp_updL (vp_updL (vp_updL (vp_updL (t.2 5) (4 * w) b1) (4 * w + 1) b3) (4 * w + 2) b2) (4 * w + 3) b4 (4 * w + 2 * 0) = b1 := by
        rw [pk_uLn (by omega), pk_uLn (by omega), pk_uLn (by omega)]
        exact pk_uLs
      have q4 : vp_updL (vp_updL (vp_updL (vp_updL (t.2 5) (4 * w) b1) (4 * w + 1) b3) (4 * w + 2) b2) (4 * w + 3) b4 (4 * w + 2 * 0 + 1) = b3 := by
        rw [pk_uLn (by omega), pk_uLn (by omega)]
        exact pk_uLs
      rw [q1, q2, q3, q4]
      exact ⟨m1.1, m3.1, m1.2, m3.2⟩
    · rw [pk_us, pk_us, pk_uLn (by omega), show 4 * w + 2 * 1 = 4 * w + 2 from rfl, pk_uLs, show 4 * w + 2 + 1 = 4 * w + 3 from rfl, pk_uLs]
      exact ⟨m2.1, m4.1, m2.2, m4.2⟩
  · rw [pk_un (by omega), pk_un (by omega), pk_un (by omega), pk_un (by omega), pk_uLn (by omega), pk_uLn (by omega), pk_uLn (by omega), pk_uLn (by omega), pk_uLn (by omega), pk_uLn (by omega), pk_uLn (by omega), pk_uLn (by omega)]
    exact hw w (by omega) a ha
