def fz_k (t : Sm) (j k : Nat) : Sm := qm_lc t 1 (fun i => if 16 * j + k ≤ i ∧ i < 16 * j + 16 then 0 else t.2 1 i)
theorem fz_end (t : Sm) (j : Nat) : fz_k t j 16 = t := by
  unfold fz_k
  rw [show (fun i => if 16 * j + 16 ≤ i ∧ i < 16 * j + 16 then (0 : Int64) else t.2 1 i) = t.2 1 from funext fun i => if_neg (by omega), qm_lc_self]
theorem fz_step (t : Sm) {j k : Nat} (hk : k < 16) : fz_k (qm_la t 1 (16 * j + k) 0) j (k + 1) = fz_k t j k := by
  unfold fz_k
  refine Prod.ext rfl ?_
  funext c
  show cond (Nat.beq c 1) (fun i => if 16 * j + (k + 1) ≤ i ∧ i < 16 * j + 16 then (0 : Int64) else vp_updL (t.2 1) (16 * j + k) 0 i) (cond (Nat.beq c 1) (vp_updL (t.2 c) (16 * j + k) 0) (t.2 c)) = cond (Nat.beq c 1) (fun i => if 16 * j + k ≤ i ∧ i < 16 * j + 16 then 0 else t.2 1 i) (t.2 c)
  cases e : Nat.beq c 1 with
  | false => rfl
  | true =>
    funext i
    show (if 16 * j + (k + 1) ≤ i ∧ i < 16 * j + 16 then (0 : Int64) else vp_updL (t.2 1) (16 * j + k) 0 i) = if 16 * j + k ≤ i ∧ i < 16 * j + 16 then 0 else t.2 1 i
    by_cases d : i = 16 * j + k
    · rw [if_neg (by omega), if_pos (by omega), d, pk_uLs]
    · rw [pk_uLn d]
      by_cases f : 16 * j + k ≤ i ∧ i < 16 * j + 16
      · rw [if_pos f, if_pos (by omega)]
      · rw [if_neg f, if_neg (by omega)]
theorem zero_loop {j : Nat} (hj : j < 12) : ∀ (n k : Nat) (t : Sm), k ≤ 16 → 16 < k + n → f_N_create_40 n t (nI j) (nI k) = some (nI j, fz_k t j k) := by
  intro n
  induction n with
  | zero => intro k g h1 h2; omega
  | succ n ih =>
    intro k t h1 h2
    rw [f_N_create_40]
    by_cases c : k = 16
    · subst c
      rw [if_pos (by decide), fz_end]
    · have hk : k < 16 := by omega
      rw [if_neg (L_ge 16 16 hk), ix_ke, qs_in_ok (vp_in_nI (by omega) (by decide)), qs_st_of, nI_clamp (by omega), nI_1, ih (k + 1) _ (by omega) (by omega), fz_step t hk]
theorem cr_loop {g : Sg} {t : Sm} (h : Rel_ent g t) : ∀ (n j : Nat), j ≤ 12 → 12 < j + n → (f_E_create_2 n g (nI j) = some (-1, g) ∧ f_N_create_2 n t (nI j) = some (-1, t)) ∨ ∃ i, i < 12 ∧ g 7 i = 0 ∧ f_E_create_2 n g (nI j) = some (nI i, qs_a g 7 i 1) ∧ f_N_create_2 n t (nI j) = some (nI i, fz_k (qm_a t 2 i 1) i 0) := by
  intro n
  induction n with
  | zero => intro j h1 h2; omega
  | succ n ih =>
    intro j h1 h2
    rw [f_E_create_2, f_N_create_2]
    by_cases c : j = 12
    · subst c
      exact Or.inl ⟨if_pos (by decide), if_pos (by decide)⟩
    · have hj : j < 12 := by omega
      have hin : vp_in (nI j) 12 := vp_in_nI hj (by decide)
      rw [if_neg (L_ge 12 12 hj), if_neg (L_ge 12 12 hj), qs_in_ok hin, qs_in_ok hin, qs_in_ok hin, nI_clamp (by omega), (h j hj).1]
      by_cases d : g 7 j = 0
      · rw [if_pos d, if_pos d, qs_st_of]
        unfold f_N_create_23
        rw [if_neg (L_ne 12 12 (by omega) (by omega)), qs_in_ok hin, qs_st_of, nI_clamp (by omega)]
        exact Or.inr ⟨j, hj, d, rfl, zero_loop hj 200 0 _ (by omega) (by omega)⟩
      · rw [if_neg d, if_neg d, nI_1]
        exact ih (j + 1) (by omega) (by omega)
theorem rel_new {g : Sg} {t : Sm} (h : Rel g t) {j : Nat} (hz : g 7 j = 0) : Rel (qs_a g 7 j 1) (fz_k (qm_a t 2 j 1) j 0) := by
  refine ⟨h.1, h.2.1, fun e he => ?_, h.2.2.2.1, h.2.2.2.2.1, h.2.2.2.2.2⟩
  show upd (t.1 2) j 1 e = upd (g 7) j 1 e ∧ (upd (g 7) j 1 e = 0 ∨ upd (g 7) j 1 e = 1) ∧ ∀ k : Nat, k < 16 → re_num (g 8 (16 * e + k)) ∧ (upd (g 7) j 1 e = 0 → g 8 (16 * e + k) = 0) ∧ (upd (g 7) j 1 e = 1 → re_eq (g 8 (16 * e + k)) (if 16 * j + 0 ≤ 16 * e + k ∧ 16 * e + k < 16 * j + 16 then 0 else t.2 1 (16 * e + k)))
  obtain ⟨e1, e2, e3⟩ := h.2.2.1 e he
  by_cases d : e = j
  · subst d
    rw [pk_us, pk_us]
    refine ⟨rfl, Or.inr rfl, fun k hk => ?_⟩
    rw [if_pos (by omega), (e3 k hk).2.1 hz]
    exact ⟨re_num0, fun _ => rfl, fun _ => re_eq0⟩
  · rw [pk_un d, pk_un d]
    refine ⟨e1, e2, fun k hk => ?_⟩
    rw [if_neg (by omega)]
    exact e3 k hk
theorem create_eq {g : Sg} {t : Sm} (h : Rel g t) : (f_E_create g = some (-1, g) ∧ f_N_create t = some (-1, t)) ∨ ∃ i, i < 12 ∧ g 7 i = 0 ∧ f_E_create g = some (nI i, qs_a g 7 i 1) ∧ f_N_create t = some (nI i, fz_k (qm_a t 2 i 1) i 0) ∧ Rel (qs_a g 7 i 1) (fz_k (qm_a t 2 i 1) i 0) := by
  rcases cr_loop h.2.2.1 200 0 (by omega) (by omega) with ⟨e1, e2⟩ | ⟨i, hi, hz, e1, e2⟩
  · exact Or.inl ⟨e1, e2⟩
  · exact Or.inr ⟨i, hi, hz, e1, e2, rel_new h hz⟩
theorem put_K (K : Int32) (k : Nat) {g : Sg} {j : Nat} (hj : j < 12) (z : g 7 j = 1) (x : Int32) (hk : k < 16 := by decide) (hK : K = nI k := by rfl) : f_E_put g (nI j) K x = some ((), qs_a g 8 (16 * j + k) x) := by
  rw [hK]
  exact q_put_at hj hk z x
theorem field_K (K : Int32) (k : Nat) {g : Sg} {j : Nat} (hj : j < 12) (hk : k < 16 := by decide) (hK : K = nI k := by rfl) : f_E_field g (nI j) K = some (g 8 (16 * j + k), g) := by
  rw [hK]
  exact q_field_at hj hk
theorem s_spawn : sm_spawn Rel := by
  intro g t h x1 x2 x3
  show ∃ r0 r1 t1, f_Q_spawn g (q_ei x1) (q_ei x2) (q_ei x3) = some r0 ∧ f_N_spawn t (q_ei x1) (q_ei x2) (q_ei x3) = some (r1, t1) ∧ t1.1 20 0 = qa_code (["java/lang/IllegalArgumentException", "java/lang/IllegalStateException"] : List String) r0 ∧ (∀ r u, r0 = .inr (r, u) → r = r1) ∧ Rel (qa_st r0) t1
  have h0 : Rel g (qm_i t 20 0) := h
  have no {v : UInt64} {r : Int32} (a : f_Q_isNumber v = some r) : f_N_number v = some r := a
  rcases is_number x1 with a1 | ⟨a1, n1⟩
  · refine ⟨.inl ("java/lang/IllegalArgumentException", g), 0, qm_i (qm_i t 20 0) 20 1, ?_, ?_, rfl, (fun r u e => by cases e), h⟩
    · unfold f_Q_spawn; rw [qs_pb_of a1]; rfl
    · unfold f_N_spawn; rw [qs_st_of, qs_pb_of (no a1)]; rfl
  rcases is_number x2 with a2 | ⟨a2, n2⟩
  · refine ⟨.inl ("java/lang/IllegalArgumentException", g), 0, qm_i (qm_i t 20 0) 20 1, ?_, ?_, rfl, (fun r u e => by cases e), h⟩
    · unfold f_Q_spawn; rw [qs_pb_of a1, if_neg (by decide), qs_pb_of a2]; rfl
    · unfold f_N_spawn; rw [qs_st_of, qs_pb_of (no a1), if_neg (by decide), qs_pb_of (no a2)]; rfl
  rcases is_number x3 with a3 | ⟨a3, n3⟩
  · refine ⟨.inl ("java/lang/IllegalArgumentException", g), 0, qm_i (qm_i t 20 0) 20 1, ?_, ?_, rfl, (fun r u e => by cases e), h⟩
    · unfold f_Q_spawn; rw [qs_pb_of a1, if_neg (by decide), qs_pb_of a2, if_neg (by decide), qs_pb_of a3]; rfl
    · unfold f_N_spawn; rw [qs_st_of, qs_pb_of (no a1), if_neg (by decide), qs_pb_of (no a2), if_neg (by decide), qs_pb_of (no a3)]; rfl
  rcases create_eq h0 with ⟨e1, e2⟩ | ⟨i, hi, hz, e1, e2, hr⟩
  · refine ⟨.inl ("java/lang/IllegalStateException", g), 0, qm_i (qm_i t 20 0) 20 2, ?_, ?_, rfl, (fun r u e => by cases e), h⟩
    · unfold f_Q_spawn; rw [qs_pb_of a1, if_neg (by decide), qs_pb_of a2, if_neg (by decide), qs_pb_of a3, if_neg (by decide), qs_bn_of e1]; rfl
    · unfold f_N_spawn; rw [qs_st_of, qs_pb_of (no a1), if_neg (by decide), qs_pb_of (no a2), if_neg (by decide), qs_pb_of (no a3), if_neg (by decide), qs_bn_of e2, if_neg (by decide)]; rfl
  · have z1 : qs_a g 7 i 1 7 i = 1 := pk_us
    have z2 : qs_a (qs_a g 7 i 1) 8 (16 * i + 0) x1 7 i = 1 := z1
    have z3 : qs_a (qs_a (qs_a g 7 i 1) 8 (16 * i + 0) x1) 8 (16 * i + 1) x2 7 i = 1 := z1
    have hne : ¬ nI i = -1 := fun q => by
      have q2 := nI_pos (n := i) (by omega)
      rw [q] at q2
      exact q2 (by decide)
    have p1 := rel_put hr (k := 0) (by decide) z1 n1
    have p2 := rel_put p1 (k := 1) (by decide) z1 n2
    have p3 := rel_put p2 (k := 4) (by decide) z1 n3
    refine ⟨.inr (nI i, qs_a (qs_a (qs_a (qs_a g 7 i 1) 8 (16 * i + 0) x1) 8 (16 * i + 1) x2) 8 (16 * i + 4) x3), nI i, _, ?_, ?_, rfl, (fun r u e => by cases e; rfl), p3⟩
    · unfold f_Q_spawn
      rw [qs_pb_of a1, if_neg (by decide), qs_pb_of a2, if_neg (by decide), qs_pb_of a3, if_neg (by decide), qs_bn_of e1, if_neg hne, qs_pb_of (eighths_of x1), qs_bn_of (put_K 0 0 hi z1 x1), qs_pb_of (eighths_of x2), qs_bn_of (put_K 1 1 hi z2 x2), qs_pb_of (eighths_of x3), qs_bn_of (put_K 4 4 hi z3 x3)]
    · have i0 : 16 * nI i = nI (16 * i + 0) := by rw [show (16 : Int32) = nI 16 from rfl, pk_mul]; rfl
      have i4 : nI (16 * i + 0) + 4 = nI (16 * i + 4) := by rw [show (4 : Int32) = nI 4 from rfl, nI_add]
      unfold f_N_spawn
      rw [qs_st_of, qs_pb_of (no a1), if_neg (by decide), qs_pb_of (no a2), if_neg (by decide), qs_pb_of (no a3), if_neg (by decide), qs_bn_of e2, if_pos (nI_pos' (by omega)), qs_pb_of (eighths_ref x1), i0, i4, nI_1, nI_clamp (by omega), nI_clamp (by omega), nI_clamp (by omega), qs_in_ok (vp_in_nI (by omega) (by decide)), qs_st_of, qs_pb_of (eighths_ref x2), qs_in_ok (vp_in_nI (by omega) (by decide)), qs_st_of, qs_pb_of (eighths_ref x3), qs_in_ok (vp_in_nI (by omega) (by decide)), qs_st_of]
