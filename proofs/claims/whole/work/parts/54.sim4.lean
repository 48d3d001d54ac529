def ez_k (g : Sg) (j k : Nat) : Sg := fun c => cond (Nat.beq c 8) (fun i => if 16 * j + k ≤ i ∧ i < 16 * j + 16 then 0 else g 8 i) (g c)
theorem ez_end (g : Sg) (j : Nat) : ez_k g j 16 = g := by
  funext c
  unfold ez_k
  cases e : Nat.beq c 8 with
  | false => rfl
  | true =>
    have hc := Nat.eq_of_beq_eq_true e
    subst hc
    funext i
    show (if 16 * j + 16 ≤ i ∧ i < 16 * j + 16 then (0 : Int32) else g 8 i) = g 8 i
    rw [if_neg (by omega)]
theorem ez_step (g : Sg) {j k : Nat} (hk : k < 16) : ez_k (qs_a g 8 (16 * j + k) 0) j (k + 1) = ez_k g j k := by
  funext c
  unfold ez_k
  cases e : Nat.beq c 8 with
  | false =>
    show qs_a g 8 (16 * j + k) 0 c = g c
    unfold qs_a
    rw [e]
    rfl
  | true =>
    funext i
    show (if 16 * j + (k + 1) ≤ i ∧ i < 16 * j + 16 then (0 : Int32) else upd (g 8) (16 * j + k) 0 i) = if 16 * j + k ≤ i ∧ i < 16 * j + 16 then 0 else g 8 i
    by_cases d : i = 16 * j + k
    · rw [if_neg (by omega), if_pos (by omega), d, pk_us]
    · rw [pk_un d]
      by_cases f : 16 * j + k ≤ i ∧ i < 16 * j + 16
      · rw [if_pos f, if_pos (by omega)]
      · rw [if_neg f, if_neg (by omega)]
theorem ix_ek (j k : Nat) : nI j * 16 + nI k = nI (16 * j + k) := by
  rw [show (16 : Int32) = nI 16 from rfl, pk_mul, nI_add, Nat.mul_comm]
theorem ix_ke (j k : Nat) : 16 * nI j + nI k = nI (16 * j + k) := by
  rw [show (16 : Int32) = nI 16 from rfl, pk_mul, nI_add]
theorem erase_loop {j : Nat} (hj : j < 12) : ∀ (n k : Nat) (g : Sg), k ≤ 16 → 16 < k + n → f_E_erase_18 n g (nI j) (nI k) = some ((), ez_k g j k) := by
  intro n
  induction n with
  | zero => intro k g h1 h2; omega
  | succ n ih =>
    intro k g h1 h2
    rw [f_E_erase_18]
    by_cases c : k = 16
    · subst c
      rw [if_pos (by decide), ez_end]
    · have hk : k < 16 := by omega
      have hn : ¬ (16 : Int32) ≤ nI k := nI_ge (b := 16) hk (by decide)
      rw [if_neg hn, ix_ek, qs_in_ok (vp_in_nI (by omega) (by decide)), qs_st_of, nI_clamp (by omega), nI_1, ih (k + 1) _ (by omega) (by omega), ez_step g hk]
theorem there_is {g : Sg} {t : Sm} (h : Rel_ent g t) (a : Int32) : (f_E_isThere g a = some (0, g) ∧ f_N_gone t a = some (1, t)) ∨ ∃ j : Nat, j < 12 ∧ a = nI j ∧ g 7 j = 1 ∧ f_E_isThere g a = some (1, g) ∧ f_N_gone t a = some (0, t) := by
  rcases pk_ix a (n := 12) (by decide) with q | q | ⟨j, hj, e⟩
  · refine Or.inl ⟨?_, ?_⟩
    · unfold f_E_isThere; rw [if_pos q]
    · unfold f_N_gone; rw [if_pos q]
  · have h0 : ¬ a < 0 := fun r => by
      have h1 := Int32.le_iff_toInt_le.mp q
      have h2 := Int32.lt_iff_toInt_lt.mp r
      rw [nI_toInt (by decide)] at h1
      rw [show (0 : Int32).toInt = 0 from rfl] at h2
      omega
    have h11 : (11 : Int32) < a := Int32.lt_iff_toInt_lt.mpr (by
      have h1 := Int32.le_iff_toInt_le.mp q
      rw [nI_toInt (by decide)] at h1
      rw [show (11 : Int32).toInt = 11 from rfl]
      omega)
    refine Or.inl ⟨?_, ?_⟩
    · unfold f_E_isThere; rw [if_neg h0, if_pos (show (12 : Int32) ≤ a from q)]
    · unfold f_N_gone; rw [if_neg h0, if_pos h11]
  · have h0 : ¬ a < 0 := by rw [e]; exact nI_pos (by omega)
    have h12 : ¬ (12 : Int32) ≤ a := by rw [e]; exact nI_ge (b := 12) hj (by decide)
    have h11 : ¬ (11 : Int32) < a := by rw [e]; exact nI_nlt (a := 11) (by omega) (by decide)
    have hin : vp_in a 12 := by rw [e]; exact vp_in_nI hj (by decide)
    have hcl : a.toNatClampNeg = j := by rw [e]; exact nI_clamp (by omega)
    have q1 : f_E_isThere g a = if g 7 j = 0 then some (0, g) else some (1, g) := by unfold f_E_isThere; rw [if_neg h0, if_neg h12, qs_in_ok hin, hcl]
    have q2 : f_N_gone t a = if g 7 j = 0 then some (1, t) else some (0, t) := by unfold f_N_gone; rw [if_neg h0, if_neg h11, qs_in_ok hin, hcl, (h j hj).1]
    rcases (h j hj).2.1 with z | z
    · exact Or.inl ⟨by rw [q1, if_pos z], by rw [q2, if_pos z]⟩
    · exact Or.inr ⟨j, hj, e, z, by rw [q1, if_neg (by rw [z]; decide)], by rw [q2, if_neg (by rw [z]; decide)]⟩
theorem erase_is {g : Sg} {j : Nat} (hj : j < 12) (h1 : f_E_isThere g (nI j) = some (1, g)) : f_E_erase g (nI j) = some ((), ez_k (qs_a g 7 j 0) j 0) := by
  unfold f_E_erase
  rw [qs_bn_of h1, if_neg (by decide), qs_in_ok (vp_in_nI hj (by decide)), qs_st_of, nI_clamp (by omega)]
  exact erase_loop hj 200 0 _ (by omega) (by omega)
theorem rel_gone {g : Sg} {t : Sm} (h : Rel g t) {j : Nat} : Rel (ez_k (qs_a g 7 j 0) j 0) (qm_a t 2 j 0) := by
  refine ⟨h.1, h.2.1, fun e he => ?_, h.2.2.2.1, h.2.2.2.2.1, h.2.2.2.2.2⟩
  show upd (t.1 2) j 0 e = upd (g 7) j 0 e ∧ (upd (g 7) j 0 e = 0 ∨ upd (g 7) j 0 e = 1) ∧ ∀ k : Nat, k < 16 → re_num (if 16 * j + 0 ≤ 16 * e + k ∧ 16 * e + k < 16 * j + 16 then 0 else g 8 (16 * e + k)) ∧ (upd (g 7) j 0 e = 0 → (if 16 * j + 0 ≤ 16 * e + k ∧ 16 * e + k < 16 * j + 16 then 0 else g 8 (16 * e + k)) = 0) ∧ (upd (g 7) j 0 e = 1 → re_eq (if 16 * j + 0 ≤ 16 * e + k ∧ 16 * e + k < 16 * j + 16 then 0 else g 8 (16 * e + k)) (t.2 1 (16 * e + k)))
  by_cases d : e = j
  · subst d
    rw [pk_us, pk_us]
    refine ⟨rfl, Or.inl rfl, fun k hk => ?_⟩
    rw [if_pos (by omega)]
    exact ⟨re_num0, fun _ => rfl, fun q => absurd q (by decide)⟩
  · rw [pk_un d, pk_un d]
    refine ⟨(h.2.2.1 e he).1, (h.2.2.1 e he).2.1, fun k hk => ?_⟩
    rw [if_neg (by omega)]
    exact (h.2.2.1 e he).2.2 k hk
theorem s_remove : sm_remove Rel := by
  intro g t h x1
  have h0 : Rel g (qm_i t 20 0) := h
  rcases there_is h0.2.2.1 x1 with ⟨e1, e2⟩ | ⟨j, hj, ex, hz, e1, e2⟩
  · refine ⟨.inl ("java/util/NoSuchElementException", g), 0, qm_i (qm_i t 20 0) 20 1, ?_, ?_, rfl, (fun r u e => by cases e), h⟩
    · unfold f_Q_remove; rw [qs_bn_of e1]; rfl
    · unfold f_N_remove; rw [qs_st_of, qs_bn_of e2]; rfl
  · have hin : vp_in x1 12 := by rw [ex]; exact vp_in_nI hj (by decide)
    have hcl : x1.toNatClampNeg = j := by rw [ex]; exact nI_clamp (by omega)
    refine ⟨.inr (1, ez_k (qs_a g 7 j 0) j 0), 1, qm_a (qm_i t 20 0) 2 j 0, ?_, ?_, rfl, (fun r u e => by cases e; rfl), rel_gone h0⟩
    · unfold f_Q_remove
      rw [qs_bn_of e1, if_neg (by decide)]
      rw [ex] at e1 ⊢
      rw [qs_bn_of (erase_is hj e1)]
    · unfold f_N_remove
      rw [qs_st_of, qs_bn_of e2, if_pos rfl, qs_in_ok hin, qs_st_of, hcl]
      rfl
