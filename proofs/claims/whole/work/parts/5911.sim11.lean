theorem L_ge (B : Int32) (b : Nat) {a : Nat} (h : a < b) (hb : b < 2 ^ 31 := by decide) (hB : B = nI b := by rfl) : ¬ B ≤ nI a := by rw [hB]; exact nI_ge h hb
theorem L_lt (B : Int32) (b : Nat) {a : Nat} (h : a < b) (hb : b < 2 ^ 31 := by decide) (hB : B = nI b := by rfl) : nI a < B := by rw [hB]; exact nI_lt h hb
theorem L_nlt (B : Int32) (b : Nat) {a : Nat} (h : b ≤ a) (ha : a < 2 ^ 31) (hB : B = nI b := by rfl) : ¬ nI a < B := by rw [hB]; exact nI_nlt h ha
theorem L_le (B : Int32) (b : Nat) {a : Nat} (h : b ≤ a) (ha : a < 2 ^ 31) (hB : B = nI b := by rfl) : B ≤ nI a := by rw [hB]; exact nI_le h ha
theorem L_ne (B : Int32) (b : Nat) {a : Nat} (h : a ≠ b) (ha : a < 2 ^ 31) (hb : b < 2 ^ 31 := by decide) (hB : B = nI b := by rfl) : ¬ nI a = B := by rw [hB]; exact fun q => h ((nI_eq ha hb).mp q)
theorem L_ng (B : Int32) (b : Nat) {a : Nat} (h : a ≤ b) (hb : b < 2 ^ 31 := by decide) (hB : B = nI b := by rfl) : ¬ B < nI a := by rw [hB]; exact nI_nlt h hb
theorem L_eq (B : Int32) (b : Nat) {a : Nat} (h : a = b) (hB : B = nI b := by rfl) : nI a = B := by rw [hB, h]
def q_nv (g : Sg) (x : Nat) : Int32 := if x % 16 = 15 then g 7 (x / 16) else if 8 ≤ x % 16 then 0 else g 8 x
theorem div16 {x : Nat} (hx : x < 192) : nI x / 16 = nI (x / 16) := pk_div (d := 16) (by omega) (by decide) (by decide)
theorem rem16 {x : Nat} (hx : x < 192) : nI x - nI (x / 16) * 16 = nI (x % 16) := by
  rw [← div16 hx]
  exact pk_rem (d := 16) (by omega) (by decide) (by decide)
theorem there_at {g : Sg} {e : Nat} (he : e < 12) (h : g 7 e = 0 ∨ g 7 e = 1) : f_E_isThere g (nI e) = some (g 7 e, g) := by
  unfold f_E_isThere
  rw [if_neg (nI_pos (by omega)), if_neg (L_ge 12 12 he), qs_in_ok (vp_in_nI he (by decide)), nI_clamp (by omega)]
  rcases h with z | z
  · rw [if_pos z, z]
  · rw [if_neg (by rw [z]; decide), z]
theorem q_field_at {g : Sg} {e k : Nat} (he : e < 12) (hk : k < 16) : f_E_field g (nI e) (nI k) = some (g 8 (16 * e + k), g) := by
  unfold f_E_field
  rw [if_neg (nI_pos (by omega)), if_pos (L_lt 12 12 he), ix_ek, qs_in_ok (vp_in_nI (by omega) (by decide)), nI_clamp (by omega)]
theorem now_is {g : Sg} {x : Nat} (hx : x < 192) (h : g 7 (x / 16) = 0 ∨ g 7 (x / 16) = 1) : f_L_now g (nI x) = some (q_nv g x, g) := by
  unfold f_L_now q_nv
  rw [div16 hx, rem16 hx]
  by_cases c : x % 16 = 15
  · rw [if_pos c, if_pos (L_eq 15 15 c), qs_bn_of (there_at (by omega) h)]
    rcases h with z | z
    · rw [if_pos z, z]
    · rw [if_neg (by rw [z]; decide), z]
  · rw [if_neg c, if_neg (L_ne 15 15 c (by omega))]
    by_cases d : 8 ≤ x % 16
    · rw [if_pos d, if_pos (L_le 8 8 d (by omega))]
    · rw [if_neg d, if_neg (L_ge 8 8 (by omega)), qs_bn_of (q_field_at (by omega) (by omega)), show 16 * (x / 16) + x % 16 = x by omega]
theorem t64_inj {x y : Int32} (h : x.toInt64 = y.toInt64) : x = y := by
  have := congrArg Int64.toInt32 h
  rwa [Int32.toInt32_toInt64, Int32.toInt32_toInt64] at this
theorem chg_is {g : Sg} {t : Sm} (he : Rel_ent g t) (ht : Rel_told g t) {x : Nat} (hx : x < 192) : f_N_changed t (nI x / 16) (nI x - nI x / 16 * 16) = some (if q_nv g x = g 16 x then 0 else 1, t) := by
  obtain ⟨e1, e2, e3⟩ := he (x / 16) (by omega)
  obtain ⟨⟨o1, o2⟩, o3, o4⟩ := ht (x / 16) (by omega)
  have hq : 16 * (x / 16) + x % 16 = x := by omega
  rw [div16 hx, rem16 hx]
  unfold f_N_changed q_nv
  by_cases c : x % 16 = 15
  · rw [if_pos c, if_pos (L_eq 15 15 c), qs_in_ok (vp_in_nI (by omega) (by decide)), qs_in_ok (vp_in_nI (by omega) (by decide)), nI_clamp (by omega), e1, o1, show 16 * (x / 16) + 15 = x by omega]
    by_cases z : g 7 (x / 16) = g 16 x
    · rw [if_pos z, if_pos z]
    · rw [if_neg z, if_neg z]
  · rw [if_neg c, if_neg (L_ne 15 15 c (by omega)), qs_in_ok (vp_in_nI (by omega) (by decide)), nI_clamp (by omega), ix_ke, hq, qs_in_ok (vp_in_nI (by omega) (by decide)), nI_clamp (by omega), e1]
    obtain ⟨f1, f2, f3⟩ := e3 (x % 16) (by omega)
    rw [hq] at f1 f2 f3
    by_cases d : 8 ≤ x % 16
    · have z : g 16 x = 0 := by
        have q := o4 (x % 16) d (by omega)
        rwa [hq] at q
      rw [if_pos d, z, if_pos rfl]
      unfold f_N_changed_51
      rw [if_pos (L_le 8 8 d (by omega)), if_pos (L_le 8 8 d (by omega))]
      by_cases y : g 7 (x / 16) = 0
      · rw [if_pos y]
      · rw [if_neg y]
    · obtain ⟨p1, p2⟩ := o3 (x % 16) (by omega)
      rw [hq] at p1 p2
      have key : ∀ y : Int64, re_eq (g 8 x) y → f_N_changed_51 t (nI (x / 16)) (nI (x % 16)) y = some (if g 8 x = g 16 x then 0 else 1, t) := by
        intro y hy
        unfold f_N_changed_51
        rw [if_neg (L_ge 8 8 (by omega)), ix_ke, hq, qs_in_ok (vp_in_nI (by omega) (by decide)), nI_clamp (by omega), show y = (g 8 x).toInt64 from hy, show t.2 3 x = (g 16 x).toInt64 from p1]
        by_cases w : g 8 x = g 16 x
        · rw [if_pos w, w, if_pos ((lg_cmp_eq _ _).mpr rfl)]
        · rw [if_neg w, if_neg (fun q => w (t64_inj ((lg_cmp_eq _ _).mp q)))]
      rw [if_neg d]
      rcases e2 with y | y
      · rw [if_pos y, key 0 (by rw [f2 y]; exact re_eq0)]
      · rw [if_neg (by rw [y]; decide), key _ (f3 y)]
theorem chs_loop {g : Sg} {t : Sm} (he : Rel_ent g t) (ht : Rel_told g t) : ∀ (n j : Nat) (x1 : Int32), j ≤ 192 → 192 < j + n → ∃ r, f_L_differences_4 n g x1 (nI j) = some (r, g) ∧ f_N_changes_9 n t x1 (nI j) = some (r, t) := by
  intro n
  induction n with
  | zero => intro j x1 h1 h2; omega
  | succ n ih =>
    intro j x1 h1 h2
    rw [f_L_differences_4, f_N_changes_9]
    by_cases c : j = 192
    · subst c
      exact ⟨x1, if_pos (by decide), if_pos (by decide)⟩
    · have hj : j < 192 := by omega
      have hn : ¬ (192 : Int32) ≤ nI j := nI_ge (b := 192) hj (by decide)
      rw [if_neg hn, if_neg hn, qs_bn_of (now_is hj (he (j / 16) (by omega)).2.1), qs_bn_of (chg_is he ht hj), qs_in_ok (vp_in_nI hj (by decide)), nI_clamp (by omega)]
      unfold f_L_differences_30 f_N_changes_34
      rw [nI_1]
      by_cases d : q_nv g j = g 16 j
      · rw [if_pos d, if_pos d, if_pos rfl]
        exact ih (j + 1) x1 (by omega) (by omega)
      · rw [if_neg d, if_neg d, if_neg (show ¬ (1 : Int32) = 0 by decide)]
        exact ih (j + 1) (x1 + 1) (by omega) (by omega)
theorem s_changes : sm_changes Rel := by
  intro g t h
  have h0 : Rel g (qm_i t 20 0) := h
  obtain ⟨r, e1, e2⟩ := chs_loop h0.2.2.1 h0.2.2.2.2.1 200 0 0 (by omega) (by omega)
  refine ⟨r, g, qm_i t 20 0, ?_, ?_, h⟩
  · unfold f_Q_changes f_L_differences
    have e1 : f_L_differences_4 200 g 0 0 = some (r, g) := e1
    rw [qs_bn_of e1]
  · unfold f_N_changes
    rw [qs_st_of]
    exact e2
theorem dec_left (x : Int32) (b : Nat) : x - nI b + (-1) = x - nI (b + 1) := by
  rw [← nI_1]
  grind
theorem chg_loop {g : Sg} {t : Sm} (he : Rel_ent g t) (ht : Rel_told g t) {x : Int32} (hx : ¬ x < 0) : ∀ (n j b : Nat), j ≤ 192 → 192 < j + n → (f_L_difference_4 n g x (nI b) (nI j) = some (-2, g) ∧ f_N_change_9 n t x (x - nI b) (nI j) = some (0, qm_i t 20 1)) ∨ ∃ i, i < 192 ∧ f_L_difference_4 n g x (nI b) (nI j) = some (nI i, g) ∧ f_N_change_9 n t x (x - nI b) (nI j) = some (nI i, t) := by
  intro n
  induction n with
  | zero => intro j x1 h1 h2; omega
  | succ n ih =>
    intro j b h1 h2
    rw [f_L_difference_4, f_N_change_9]
    by_cases c : j = 192
    · subst c
      exact Or.inl ⟨if_pos (by decide), if_pos (by decide)⟩
    · have hj : j < 192 := by omega
      have hn : ¬ (192 : Int32) ≤ nI j := nI_ge (b := 192) hj (by decide)
      rw [if_neg hn, if_neg hn, if_neg hx, qs_bn_of (now_is hj (he (j / 16) (by omega)).2.1), qs_bn_of (chg_is he ht hj), qs_in_ok (vp_in_nI hj (by decide)), nI_clamp (by omega)]
      unfold f_L_difference_37 f_N_change_47
      rw [nI_1]
      by_cases d : q_nv g j = g 16 j
      · rw [if_pos d, if_pos d, if_pos rfl]
        exact ih (j + 1) b (by omega) (by omega)
      · rw [if_neg d, if_neg d, if_neg (show ¬ (1 : Int32) = 0 by decide)]
        by_cases w : nI b = x
        · refine Or.inr ⟨j, hj, if_pos w, if_pos ?_⟩
          rw [w]
          exact Int32.sub_self x
        · rw [if_neg w, if_neg (fun q => w (by grind)), dec_left, nI_1]
          exact ih (j + 1) (b + 1) (by omega) (by omega)
theorem chg_neg {g : Sg} (he : ∀ e, e < 12 → g 7 e = 0 ∨ g 7 e = 1) {x : Int32} (hx : x < 0) : ∀ (n j b : Nat), j ≤ 192 → 192 < j + n → b ≤ j → f_L_difference_4 n g x (nI b) (nI j) = some (-2, g) := by
  intro n
  induction n with
  | zero => intro j x1 h1 h2; omega
  | succ n ih =>
    intro j b h1 h2 hb
    rw [f_L_difference_4]
    by_cases c : j = 192
    · subst c
      exact if_pos (by decide)
    · have hj : j < 192 := by omega
      have hn : ¬ (192 : Int32) ≤ nI j := nI_ge (b := 192) hj (by decide)
      rw [if_neg hn, qs_bn_of (now_is hj (he (j / 16) (by omega))), qs_in_ok (vp_in_nI hj (by decide)), nI_clamp (by omega)]
      unfold f_L_difference_37
      rw [nI_1]
      by_cases d : q_nv g j = g 16 j
      · rw [if_pos d]
        exact ih (j + 1) b (by omega) (by omega) (by omega)
      · have w : ¬ nI b = x := fun q => by
          rw [← q] at hx
          exact nI_pos (by omega) hx
        rw [if_neg d, if_neg w, nI_1]
        exact ih (j + 1) (b + 1) (by omega) (by omega) (by omega)
theorem s_change : sm_change Rel := by
  intro g t h x1
  have h0 : Rel g (qm_i t 20 0) := h
  by_cases c : x1 < 0
  · have e1 := chg_neg (fun e he => (h.2.2.1 e he).2.1) c 200 0 0 (by omega) (by omega) (by omega)
    have e1 : f_L_difference g x1 = some (-2, g) := e1
    refine ⟨.inl ("java/util/NoSuchElementException", g), 0, qm_i (qm_i t 20 0) 20 1, ?_, ?_, rfl, (fun r u e => by cases e), h⟩
    · unfold f_Q_change; rw [qs_bn_of e1]; rfl
    · unfold f_N_change; rw [qs_st_of, f_N_change_9, if_neg (by decide), if_pos c]; rfl
  · rcases chg_loop h0.2.2.1 h0.2.2.2.2.1 c 200 0 0 (by omega) (by omega) with ⟨e1, e2⟩ | ⟨i, hi, e1, e2⟩
    · have e1 : f_L_difference g x1 = some (-2, g) := e1
      have e2 : f_N_change_9 200 (qm_i t 20 0) x1 (x1 - 0) 0 = some (0, qm_i (qm_i t 20 0) 20 1) := e2
      rw [Int32.sub_zero] at e2
      refine ⟨.inl ("java/util/NoSuchElementException", g), 0, qm_i (qm_i t 20 0) 20 1, ?_, ?_, rfl, (fun r u e => by cases e), h⟩
      · unfold f_Q_change; rw [qs_bn_of e1]; rfl
      · unfold f_N_change; rw [qs_st_of, e2]
    · have e1 : f_L_difference g x1 = some (nI i, g) := e1
      have e2 : f_N_change_9 200 (qm_i t 20 0) x1 (x1 - 0) 0 = some (nI i, qm_i t 20 0) := e2
      rw [Int32.sub_zero] at e2
      refine ⟨.inr (nI i, g), nI i, qm_i t 20 0, ?_, ?_, rfl, (fun r u e => by cases e; rfl), h⟩
      · unfold f_Q_change
        rw [qs_bn_of e1, if_neg (fun q => by
          have q2 := nI_pos (n := i) (by omega)
          rw [q] at q2
          exact q2 (by decide))]
      · unfold f_N_change; rw [qs_st_of, e2]
def qs_c (g : Sg) (k : Nat) (G : Nat → Int32) : Sg := fun j => cond (Nat.beq j k) G (g j)
def qm_lc (t : Sm) (k : Nat) (G : Nat → Int64) : Sm := (t.1, fun j => cond (Nat.beq j k) G (t.2 j))
def qm_c (t : Sm) (k : Nat) (G : Nat → Int32) : Sm := (qs_c t.1 k G, t.2)
theorem qs_c_self (g : Sg) (k : Nat) : qs_c g k (g k) = g := by
  funext j
  unfold qs_c
  cases e : Nat.beq j k with
  | false => rfl
  | true =>
    have hc := Nat.eq_of_beq_eq_true e
    subst hc
    rfl
theorem qs_c_upd (g : Sg) (k : Nat) (G : Nat → Int32) (x : Nat) (v : Int32) : qs_a (qs_c g k G) k x v = qs_c g k (upd G x v) := by
  funext j
  show cond (Nat.beq j k) (upd (cond (Nat.beq j k) G (g j)) x v) (cond (Nat.beq j k) G (g j)) = cond (Nat.beq j k) (upd G x v) (g j)
  cases e : Nat.beq j k with
  | false => rfl
  | true => rfl
theorem qm_c_self (t : Sm) (k : Nat) : qm_c t k (t.1 k) = t := by
  unfold qm_c
  rw [qs_c_self]
theorem qm_c_upd (t : Sm) (k : Nat) (G : Nat → Int32) (x : Nat) (v : Int32) : qm_a (qm_c t k G) k x v = qm_c t k (upd G x v) := by
  unfold qm_a qm_c
  rw [qs_c_upd]
theorem qm_lc_self (t : Sm) (k : Nat) : qm_lc t k (t.2 k) = t := by
  unfold qm_lc
  refine Prod.ext rfl ?_
  funext j
  show cond (Nat.beq j k) (t.2 k) (t.2 j) = t.2 j
  cases e : Nat.beq j k with
  | false => rfl
  | true =>
    have hc := Nat.eq_of_beq_eq_true e
    subst hc
    rfl
theorem qm_lc_upd (t : Sm) (k : Nat) (G : Nat → Int64) (x : Nat) (v : Int64) : qm_la (qm_lc t k G) k x v = qm_lc t k (vp_updL G x v) := by
  unfold qm_la qm_lc
  refine Prod.ext rfl ?_
  funext j
  show cond (Nat.beq j k) (vp_updL (cond (Nat.beq j k) G (t.2 j)) x v) (cond (Nat.beq j k) G (t.2 j)) = cond (Nat.beq j k) (vp_updL G x v) (t.2 j)
  cases e : Nat.beq j k with
  | false => rfl
  | true => rfl
theorem upd_below {G N : Nat → Int32} {j : Nat} (h : ∀ x, x < j → G x = N x) : ∀ x, x < j + 1 → upd G j (N j) x = N x := by
  intro x hx
  by_cases c : x = j
  · subst c
    exact pk_us
  · rw [pk_un c]
    exact h x (by omega)
theorem updL_below {G N : Nat → Int64} {j : Nat} (h : ∀ x, x < j → G x = N x) : ∀ x, x < j + 1 → vp_updL G j (N j) x = N x := by
  intro x hx
  by_cases c : x = j
  · subst c
    exact pk_uLs
  · rw [pk_uLn c]
    exact h x (by omega)
theorem tell_loop {g : Sg} (h : ∀ e, e < 12 → g 7 e = 0 ∨ g 7 e = 1) : ∀ (n j : Nat) (G : Nat → Int32), j ≤ 192 → 192 < j + n → (∀ x, x < j → G x = q_nv g x) → ∃ G', f_L_tellAll_2 n (qs_c g 16 G) (nI j) = some ((), qs_c g 16 G') ∧ ∀ x, x < 192 → G' x = q_nv g x := by
  intro n
  induction n with
  | zero => intro j x1 h1 h2; omega
  | succ n ih =>
    intro j G h1 h2 h3
    rw [f_L_tellAll_2]
    by_cases c : j = 192
    · subst c
      exact ⟨G, if_pos (by decide), h3⟩
    · have hj : j < 192 := by omega
      rw [if_neg (L_ge 192 192 hj), qs_bn_of (now_is (g := qs_c g 16 G) hj (h (j / 16) (by omega))), qs_in_ok (vp_in_nI hj (by decide)), qs_st_of, nI_clamp (by omega), qs_c_upd, nI_1]
      exact ih (j + 1) _ (by omega) (by omega) (upd_below (N := q_nv g) h3)
def q_mv (t : Sm) (x : Nat) : Int64 := if t.1 2 (x / 16) = 0 then 0 else t.2 1 x
theorem mess_loop2 {t : Sm} (r : Int32) (h : ∀ e, e < 12 → t.1 2 e = 0 ∨ t.1 2 e = 1) : ∀ (n j : Nat) (G : Nat → Int32), j ≤ 12 → 12 < j + n → (∀ x, x < j → G x = t.1 2 x) → ∃ G', f_N_message_50 n (qm_c t 4 G) r (nI j) = some (r, qm_c t 4 G') ∧ ∀ x, x < 12 → G' x = t.1 2 x := by
  intro n
  induction n with
  | zero => intro j x1 h1 h2; omega
  | succ n ih =>
    intro j G h1 h2 h3
    rw [f_N_message_50]
    by_cases c : j = 12
    · subst c
      exact ⟨G, if_pos (by decide), h3⟩
    · have hj : j < 12 := by omega
      have hv : vp_nar .boolean ((qm_c t 4 G).1 2 j) = t.1 2 j := by
        rw [show (qm_c t 4 G).1 2 j = t.1 2 j from rfl]
        rcases h j hj with z | z
        · rw [z]; first | rfl | decide
        · rw [z]; first | rfl | decide
      rw [if_neg (L_ge 12 12 hj), qs_in_ok (vp_in_nI hj (by decide)), qs_in_ok (vp_in_nI hj (by decide)), qs_st_of, nI_clamp (by omega), hv, qm_c_upd, nI_1]
      exact ih (j + 1) _ (by omega) (by omega) (upd_below (N := t.1 2) h3)
theorem mess_loop {t : Sm} (r : Int32) : ∀ (n j : Nat) (G : Nat → Int64), j ≤ 192 → 192 < j + n → (∀ x, x < j → G x = q_mv t x) → ∃ G', f_N_message_7 n (qm_lc t 3 G) r (nI j) = f_N_message_50 200 (qm_lc t 3 G') r 0 ∧ ∀ x, x < 192 → G' x = q_mv t x := by
  intro n
  induction n with
  | zero => intro j x1 h1 h2; omega
  | succ n ih =>
    intro j G h1 h2 h3
    rw [f_N_message_7]
    by_cases c : j = 192
    · subst c
      exact ⟨G, if_pos (by decide), h3⟩
    · have hj : j < 192 := by omega
      have key : ∀ v, v = q_mv t j → ∃ G', f_N_message_41 (fun g x1 x2 => f_N_message_7 n g x1 x2) (qm_lc t 3 G) r (nI j) (nI j) v = f_N_message_50 200 (qm_lc t 3 G') r 0 ∧ ∀ x, x < 192 → G' x = q_mv t x := by
        intro v hv
        unfold f_N_message_41
        rw [qs_in_ok (vp_in_nI hj (by decide)), qs_st_of, nI_clamp (by omega), qm_lc_upd, nI_1, hv]
        exact ih (j + 1) _ (by omega) (by omega) (updL_below (N := q_mv t) h3)
      rw [if_neg (L_ge 192 192 hj), div16 hj, qs_in_ok (vp_in_nI (by omega) (by decide)), nI_clamp (by omega)]
      by_cases d : t.1 2 (j / 16) = 0
      · rw [if_pos (show (qm_lc t 3 G).1 2 (j / 16) = 0 from d)]
        exact key 0 (by unfold q_mv; rw [if_pos d])
      · rw [if_neg (show ¬ (qm_lc t 3 G).1 2 (j / 16) = 0 from d), qs_in_ok (vp_in_nI hj (by decide)), nI_clamp (by omega)]
        exact key _ (by unfold q_mv; rw [if_neg d]; rfl)
theorem rel_told {g : Sg} {t : Sm} (h : Rel g t) {G : Nat → Int32} {L : Nat → Int64} {T : Nat → Int32} (hG : ∀ x, x < 192 → G x = q_nv g x) (hL : ∀ x, x < 192 → L x = q_mv t x) (hT : ∀ x, x < 12 → T x = t.1 2 x) : Rel (qs_c g 16 G) (qm_c (qm_lc t 3 L) 4 T) := by
  refine ⟨h.1, h.2.1, h.2.2.1, h.2.2.2.1, fun e he => ?_, h.2.2.2.2.2⟩
  show (T e = G (16 * e + 15) ∧ (G (16 * e + 15) = 0 ∨ G (16 * e + 15) = 1)) ∧ (∀ k : Nat, k < 8 → re_eq (G (16 * e + k)) (L (16 * e + k)) ∧ re_num (G (16 * e + k))) ∧ ∀ k : Nat, 8 ≤ k → k < 15 → G (16 * e + k) = 0
  obtain ⟨e1, e2, e3⟩ := h.2.2.1 e he
  have n15 : q_nv g (16 * e + 15) = g 7 e := by
    unfold q_nv
    rw [if_pos (by omega), show (16 * e + 15) / 16 = e by omega]
  refine ⟨?_, fun k hk => ?_, fun k h1 h2 => ?_⟩
  · rw [hG _ (by omega), n15, hT e he]
    exact ⟨e1, e2⟩
  · have nk : q_nv g (16 * e + k) = g 8 (16 * e + k) := by
      unfold q_nv
      rw [if_neg (by omega), if_neg (by omega)]
    rw [hG _ (by omega), hL _ (by omega), nk]
    obtain ⟨f1, f2, f3⟩ := e3 k (by omega)
    refine ⟨?_, f1⟩
    unfold q_mv
    rw [show (16 * e + k) / 16 = e by omega, e1]
    rcases e2 with z | z
    · rw [if_pos z, f2 z]; exact re_eq0
    · rw [if_neg (by rw [z]; decide)]; exact f3 z
  · rw [hG _ (by omega)]
    unfold q_nv
    rw [if_neg (by omega), if_pos (by omega)]
theorem s_message : sm_message Rel := by
  intro g t h
  have h0 : Rel g (qm_i t 20 0) := h
  have b0 : ∀ e, e < 12 → g 7 e = 0 ∨ g 7 e = 1 := fun e he => (h.2.2.1 e he).2.1
  have b1 : ∀ e, e < 12 → (qm_i t 20 0).1 2 e = 0 ∨ (qm_i t 20 0).1 2 e = 1 := fun e he => by
    rw [(h0.2.2.1 e he).1]
    exact b0 e he
  obtain ⟨r, e1, e2⟩ := chs_loop h0.2.2.1 h0.2.2.2.2.1 200 0 0 (by omega) (by omega)
  have e1 : f_L_differences g = some (r, g) := e1
  have e2 : f_N_changes t = some (r, qm_i t 20 0) := e2
  obtain ⟨G, e3, hG⟩ := tell_loop b0 200 0 (g 16) (by omega) (by omega) (fun x hx => absurd hx (Nat.not_lt_zero x))
  rw [qs_c_self] at e3
  have e3 : f_L_tellAll g = some ((), qs_c g 16 G) := e3
  obtain ⟨L, e4, hL⟩ := mess_loop (t := qm_i t 20 0) r 200 0 ((qm_i t 20 0).2 3) (by omega) (by omega) (fun x hx => absurd hx (Nat.not_lt_zero x))
  rw [qm_lc_self] at e4
  have e4 : f_N_message_7 200 (qm_i t 20 0) r 0 = f_N_message_50 200 (qm_lc (qm_i t 20 0) 3 L) r 0 := e4
  obtain ⟨T, e5, hT⟩ := mess_loop2 (t := qm_lc (qm_i t 20 0) 3 L) r b1 200 0 ((qm_lc (qm_i t 20 0) 3 L).1 4) (by omega) (by omega) (fun x hx => absurd hx (Nat.not_lt_zero x))
  rw [qm_c_self] at e5
  refine ⟨r, qs_c g 16 G, qm_c (qm_lc (qm_i t 20 0) 3 L) 4 T, ?_, ?_, rel_told h0 hG hL hT⟩
  · unfold f_Q_message
    rw [qs_bn_of e1, qs_bn_of e3]
  · unfold f_N_message
    rw [qs_bn_of e2, e4]
    exact e5
