def re_eq (x : Int32) (y : Int64) : Prop := y = x.toInt64
def re_num (x : Int32) : Prop := -131072 ≤ x.toInt ∧ x.toInt ≤ 131072
def re_ins (o a b c : Int32) : Prop := f_P_isSound o a b c = some 1
def Rel_prog (g : Sg) (t : Sm) : Prop := ∀ f : Nat, f < 6 → t.1 10 f = g 12 f ∧ (∃ n : Nat, n ≤ 14 ∧ g 12 f = nI n ∧ ∀ i : Nat, i < n → t.1 6 (14 * f + i) = g 11 (4 * (14 * f + i)) ∧ t.1 7 (14 * f + i) = g 11 (4 * (14 * f + i) + 1) ∧ t.1 8 (14 * f + i) = g 11 (4 * (14 * f + i) + 2) ∧ t.1 9 (14 * f + i) = g 11 (4 * (14 * f + i) + 3) ∧ re_ins (t.1 6 (14 * f + i)) (t.1 7 (14 * f + i)) (t.1 8 (14 * f + i)) (t.1 9 (14 * f + i)))
def Rel_wall (g : Sg) (t : Sm) : Prop := t.1 21 0 = g 20 0 ∧ ∃ n : Nat, n ≤ 6 ∧ g 20 0 = nI n ∧ ∀ w : Nat, w < n → ∀ a : Nat, a < 2 → re_eq (g 9 (2 * w + a)) (t.2 5 (4 * w + 2 * a)) ∧ re_eq (g 10 (2 * w + a)) (t.2 5 (4 * w + 2 * a + 1)) ∧ re_num (g 9 (2 * w + a)) ∧ re_num (g 10 (2 * w + a))
def Rel_ent (g : Sg) (t : Sm) : Prop := ∀ e : Nat, e < 12 → t.1 2 e = g 7 e ∧ (g 7 e = 0 ∨ g 7 e = 1) ∧ ∀ k : Nat, k < 16 → re_num (g 8 (16 * e + k)) ∧ (g 7 e = 0 → g 8 (16 * e + k) = 0) ∧ (g 7 e = 1 → re_eq (g 8 (16 * e + k)) (t.2 1 (16 * e + k)))
def Rel_glob (g : Sg) (t : Sm) : Prop := ∀ i : Nat, i < 24 → re_eq (g 13 i) (t.2 11 i) ∧ re_num (g 13 i)
def Rel_told (g : Sg) (t : Sm) : Prop := ∀ e : Nat, e < 12 → (t.1 4 e = g 16 (16 * e + 15) ∧ (g 16 (16 * e + 15) = 0 ∨ g 16 (16 * e + 15) = 1)) ∧ (∀ k : Nat, k < 8 → re_eq (g 16 (16 * e + k)) (t.2 3 (16 * e + k)) ∧ re_num (g 16 (16 * e + k))) ∧ ∀ k : Nat, 8 ≤ k → k < 15 → g 16 (16 * e + k) = 0
def Rel_num (g : Sg) (t : Sm) : Prop := re_eq (g 23 0) (t.2 22 0) ∧ re_num (g 23 0) ∧ t.1 23 0 = g 24 0 ∧ 0 ≤ (g 24 0).toInt ∧ t.1 24 0 = g 25 0 ∧ t.1 25 0 = g 26 0 ∧ t.1 26 0 = g 27 0
def Rel (g : Sg) (t : Sm) : Prop := Rel_prog g t ∧ Rel_wall g t ∧ Rel_ent g t ∧ Rel_glob g t ∧ Rel_told g t ∧ Rel_num g t
theorem re_eq32 {x : Int32} {y : Int64} (h : re_eq x y) : y.toInt32 = x := by rw [show y = x.toInt64 from h, Int32.toInt32_toInt64]
theorem re_eq0 : re_eq 0 0 := show (0 : Int64) = (0 : Int32).toInt64 by decide
theorem re_num0 : re_num 0 := show -131072 ≤ (0 : Int32).toInt ∧ (0 : Int32).toInt ≤ 131072 by decide
theorem Rel_start : Rel la_g0 la_t0 := by
  refine ⟨fun f hf => ⟨rfl, 0, Nat.zero_le _, rfl, fun i hi => absurd hi (Nat.not_lt_zero i)⟩, ⟨rfl, 0, Nat.zero_le _, rfl, fun w hw => absurd hw (Nat.not_lt_zero w)⟩, fun e he => ⟨rfl, Or.inl rfl, fun k hk => ⟨re_num0, fun _ => rfl, fun h => absurd (show (0 : Int32) = 1 from h) (by decide)⟩⟩, fun i hi => ⟨re_eq0, re_num0⟩, fun e he => ⟨⟨rfl, Or.inl rfl⟩, fun k hk => ⟨re_eq0, re_num0⟩, fun k h1 h2 => rfl⟩, ⟨re_eq0, re_num0, rfl, by decide, rfl, rfl, rfl⟩⟩
