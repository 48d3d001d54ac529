def q_In (n : Nat) (a : Int32) : Prop := ∃ j : Nat, j < n ∧ a = nI j
theorem qb_if (a : Int32) {b : Nat} (hb : b < 2 ^ 31) (X : Option Int32) : (qs_pb (f_Q_isBelow a (nI b)) fun r => if r = 0 then some 0 else X) = some 0 ∨ (q_In b a ∧ (qs_pb (f_Q_isBelow a (nI b)) fun r => if r = 0 then some 0 else X) = X) := by
  rcases is_below a hb with ⟨e, -⟩ | ⟨j, hj, ex, e⟩
  · exact Or.inl (by rw [qs_pb_of e]; rfl)
  · exact Or.inr ⟨⟨j, hj, ex⟩, by rw [qs_pb_of e]; rfl⟩
theorem qb_bo (a : Int32) {b : Nat} (hb : b < 2 ^ 31) : (qs_pb (f_Q_isBelow a (nI b)) fun r => qs_bo r (some r)) = some 0 ∨ (q_In b a ∧ (qs_pb (f_Q_isBelow a (nI b)) fun r => qs_bo r (some r)) = some 1) := by
  rcases is_below a hb with ⟨e, -⟩ | ⟨j, hj, ex, e⟩
  · exact Or.inl (by rw [qs_pb_of e]; rfl)
  · exact Or.inr ⟨⟨j, hj, ex⟩, by rw [qs_pb_of e]; rfl⟩
theorem qb3 (a b c : Int32) {l m n : Nat} (hl : l < 2 ^ 31) (hm : m < 2 ^ 31) (hn : n < 2 ^ 31) : (qs_pb (f_Q_isBelow a (nI l)) fun r => if r = 0 then some 0 else qs_pb (f_Q_isBelow b (nI m)) fun r => if r = 0 then some 0 else qs_pb (f_Q_isBelow c (nI n)) fun r => if r = 0 then some 0 else some (1 : Int32)) = some 0 ∨ ((qs_pb (f_Q_isBelow a (nI l)) fun r => if r = 0 then some 0 else qs_pb (f_Q_isBelow b (nI m)) fun r => if r = 0 then some 0 else qs_pb (f_Q_isBelow c (nI n)) fun r => if r = 0 then some 0 else some (1 : Int32)) = some 1 ∧ q_In l a ∧ q_In m b ∧ q_In n c) := by
  rcases qb_if a hl (qs_pb (f_Q_isBelow b (nI m)) fun r => if r = 0 then some 0 else qs_pb (f_Q_isBelow c (nI n)) fun r => if r = 0 then some 0 else some (1 : Int32)) with e | ⟨i1, e⟩
  · exact Or.inl e
  rcases qb_if b hm (qs_pb (f_Q_isBelow c (nI n)) fun r => if r = 0 then some 0 else some (1 : Int32)) with e2 | ⟨i2, e2⟩
  · exact Or.inl (e.trans e2)
  rcases qb_if c hn (some (1 : Int32)) with e3 | ⟨i3, e3⟩
  · exact Or.inl (e.trans (e2.trans e3))
  exact Or.inr ⟨e.trans (e2.trans e3), i1, i2, i3⟩
theorem qb2 (a b : Int32) {l m : Nat} (hl : l < 2 ^ 31) (hm : m < 2 ^ 31) : (qs_pb (f_Q_isBelow a (nI l)) fun r => if r = 0 then some 0 else qs_pb (f_Q_isBelow b (nI m)) fun r => if r = 0 then some 0 else some (1 : Int32)) = some 0 ∨ ((qs_pb (f_Q_isBelow a (nI l)) fun r => if r = 0 then some 0 else qs_pb (f_Q_isBelow b (nI m)) fun r => if r = 0 then some 0 else some (1 : Int32)) = some 1 ∧ q_In l a ∧ q_In m b) := by
  rcases qb_if a hl (qs_pb (f_Q_isBelow b (nI m)) fun r => if r = 0 then some 0 else some (1 : Int32)) with e | ⟨i1, e⟩
  · exact Or.inl e
  rcases qb_if b hm (some (1 : Int32)) with e2 | ⟨i2, e2⟩
  · exact Or.inl (e.trans e2)
  exact Or.inr ⟨e.trans e2, i1, i2⟩
def q_Snd (a b c o : Int32) : Prop := (o = 0 ∧ ¬ b < -16000 ∧ ¬ 16000 < b ∧ q_In 24 c) ∨ (o = 1 ∧ q_In 24 a ∧ q_In 24 b ∧ q_In 24 c) ∨ (o = 2 ∧ q_In 24 a ∧ q_In 24 b ∧ q_In 24 c) ∨ (o = 3 ∧ q_In 24 a ∧ q_In 24 b ∧ q_In 24 c) ∨ (o = 4 ∧ q_In 24 a ∧ q_In 24 b ∧ q_In 24 c) ∨ (o = 5 ∧ q_In 24 a ∧ q_In 24 b ∧ q_In 24 c) ∨ (o = 6 ∧ q_In 24 a ∧ q_In 24 c) ∨ (o = 7 ∧ q_In 24 a ∧ q_In 16 b ∧ q_In 24 c) ∨ (o = 8 ∧ q_In 24 a ∧ q_In 16 b ∧ q_In 24 c) ∨ (o = 9 ∧ q_In 24 a ∧ q_In 14 b) ∨ (o = 10 ∧ q_In 14 b) ∨ (o = 11 ∧ q_In 6 a) ∨ (o = 12 ∧ q_In 24 c) ∨ (o = 13 ∧ q_In 24 a) ∨ (o = 14 ∧ q_In 24 a ∧ q_In 24 c) ∨ (o = 15 ∧ q_In 24 c) ∨ (o = 16)
theorem snd_o0 {a b c : Int32} (h0 : ¬ b < -16000) (h1 : ¬ 16000 < b) (h2 : q_In 24 c) : q_Snd a b c 0 := (Or.inl ⟨rfl, h0, h1, h2⟩)
theorem snd_o1 {a b c : Int32} (h0 : q_In 24 a) (h1 : q_In 24 b) (h2 : q_In 24 c) : q_Snd a b c 1 := (Or.inr (Or.inl ⟨rfl, h0, h1, h2⟩))
theorem snd_o2 {a b c : Int32} (h0 : q_In 24 a) (h1 : q_In 24 b) (h2 : q_In 24 c) : q_Snd a b c 2 := (Or.inr (Or.inr (Or.inl ⟨rfl, h0, h1, h2⟩)))
theorem snd_o3 {a b c : Int32} (h0 : q_In 24 a) (h1 : q_In 24 b) (h2 : q_In 24 c) : q_Snd a b c 3 := (Or.inr (Or.inr (Or.inr (Or.inl ⟨rfl, h0, h1, h2⟩))))
theorem snd_o4 {a b c : Int32} (h0 : q_In 24 a) (h1 : q_In 24 b) (h2 : q_In 24 c) : q_Snd a b c 4 := (Or.inr (Or.inr (Or.inr (Or.inr (Or.inl ⟨rfl, h0, h1, h2⟩)))))
theorem snd_o5 {a b c : Int32} (h0 : q_In 24 a) (h1 : q_In 24 b) (h2 : q_In 24 c) : q_Snd a b c 5 := (Or.inr (Or.inr (Or.inr (Or.inr (Or.inr (Or.inl ⟨rfl, h0, h1, h2⟩))))))
theorem snd_o6 {a b c : Int32} (h0 : q_In 24 a) (h1 : q_In 24 c) : q_Snd a b c 6 := (Or.inr (Or.inr (Or.inr (Or.inr (Or.inr (Or.inr (Or.inl ⟨rfl, h0, h1⟩)))))))
theorem snd_o7 {a b c : Int32} (h0 : q_In 24 a) (h1 : q_In 16 b) (h2 : q_In 24 c) : q_Snd a b c 7 := (Or.inr (Or.inr (Or.inr (Or.inr (Or.inr (Or.inr (Or.inr (Or.inl ⟨rfl, h0, h1, h2⟩))))))))
theorem snd_o8 {a b c : Int32} (h0 : q_In 24 a) (h1 : q_In 16 b) (h2 : q_In 24 c) : q_Snd a b c 8 := (Or.inr (Or.inr (Or.inr (Or.inr (Or.inr (Or.inr (Or.inr (Or.inr (Or.inl ⟨rfl, h0, h1, h2⟩)))))))))
theorem snd_o9 {a b c : Int32} (h0 : q_In 24 a) (h1 : q_In 14 b) : q_Snd a b c 9 := (Or.inr (Or.inr (Or.inr (Or.inr (Or.inr (Or.inr (Or.inr (Or.inr (Or.inr (Or.inl ⟨rfl, h0, h1⟩))))))))))
theorem snd_o10 {a b c : Int32} (h0 : q_In 14 b) : q_Snd a b c 10 := (Or.inr (Or.inr (Or.inr (Or.inr (Or.inr (Or.inr (Or.inr (Or.inr (Or.inr (Or.inr (Or.inl ⟨rfl, h0⟩)))))))))))
theorem snd_o11 {a b c : Int32} (h0 : q_In 6 a) : q_Snd a b c 11 := (Or.inr (Or.inr (Or.inr (Or.inr (Or.inr (Or.inr (Or.inr (Or.inr (Or.inr (Or.inr (Or.inr (Or.inl ⟨rfl, h0⟩))))))))))))
theorem snd_o12 {a b c : Int32} (h0 : q_In 24 c) : q_Snd a b c 12 := (Or.inr (Or.inr (Or.inr (Or.inr (Or.inr (Or.inr (Or.inr (Or.inr (Or.inr (Or.inr (Or.inr (Or.inr (Or.inl ⟨rfl, h0⟩)))))))))))))
theorem snd_o13 {a b c : Int32} (h0 : q_In 24 a) : q_Snd a b c 13 := (Or.inr (Or.inr (Or.inr (Or.inr (Or.inr (Or.inr (Or.inr (Or.inr (Or.inr (Or.inr (Or.inr (Or.inr (Or.inr (Or.inl ⟨rfl, h0⟩))))))))))))))
theorem snd_o14 {a b c : Int32} (h0 : q_In 24 a) (h1 : q_In 24 c) : q_Snd a b c 14 := (Or.inr (Or.inr (Or.inr (Or.inr (Or.inr (Or.inr (Or.inr (Or.inr (Or.inr (Or.inr (Or.inr (Or.inr (Or.inr (Or.inr (Or.inl ⟨rfl, h0, h1⟩)))))))))))))))
theorem snd_o15 {a b c : Int32} (h0 : q_In 24 c) : q_Snd a b c 15 := (Or.inr (Or.inr (Or.inr (Or.inr (Or.inr (Or.inr (Or.inr (Or.inr (Or.inr (Or.inr (Or.inr (Or.inr (Or.inr (Or.inr (Or.inr (Or.inl ⟨rfl, h0⟩))))))))))))))))
theorem snd_o16 {a b c : Int32} : q_Snd a b c 16 := (Or.inr (Or.inr (Or.inr (Or.inr (Or.inr (Or.inr (Or.inr (Or.inr (Or.inr (Or.inr (Or.inr (Or.inr (Or.inr (Or.inr (Or.inr (Or.inr rfl))))))))))))))))
theorem snd_e9 {a b c : Int32} (h : q_Snd a b c 9) : q_In 24 a ∧ q_In 14 b := by
  rcases h with ⟨e, h⟩ | ⟨e, h⟩ | ⟨e, h⟩ | ⟨e, h⟩ | ⟨e, h⟩ | ⟨e, h⟩ | ⟨e, h⟩ | ⟨e, h⟩ | ⟨e, h⟩ | ⟨e, h⟩ | ⟨e, h⟩ | ⟨e, h⟩ | ⟨e, h⟩ | ⟨e, h⟩ | ⟨e, h⟩ | ⟨e, h⟩ | e
  · exact absurd e (by decide)
  · exact absurd e (by decide)
  · exact absurd e (by decide)
  · exact absurd e (by decide)
  · exact absurd e (by decide)
  · exact absurd e (by decide)
  · exact absurd e (by decide)
  · exact absurd e (by decide)
  · exact absurd e (by decide)
  · exact h
  · exact absurd e (by decide)
  · exact absurd e (by decide)
  · exact absurd e (by decide)
  · exact absurd e (by decide)
  · exact absurd e (by decide)
  · exact absurd e (by decide)
  · exact absurd e (by decide)
theorem snd_e10 {a b c : Int32} (h : q_Snd a b c 10) : q_In 14 b := by
  rcases h with ⟨e, h⟩ | ⟨e, h⟩ | ⟨e, h⟩ | ⟨e, h⟩ | ⟨e, h⟩ | ⟨e, h⟩ | ⟨e, h⟩ | ⟨e, h⟩ | ⟨e, h⟩ | ⟨e, h⟩ | ⟨e, h⟩ | ⟨e, h⟩ | ⟨e, h⟩ | ⟨e, h⟩ | ⟨e, h⟩ | ⟨e, h⟩ | e
  · exact absurd e (by decide)
  · exact absurd e (by decide)
  · exact absurd e (by decide)
  · exact absurd e (by decide)
  · exact absurd e (by decide)
  · exact absurd e (by decide)
  · exact absurd e (by decide)
  · exact absurd e (by decide)
  · exact absurd e (by decide)
  · exact absurd e (by decide)
  · exact h
  · exact absurd e (by decide)
  · exact absurd e (by decide)
  · exact absurd e (by decide)
  · exact absurd e (by decide)
  · exact absurd e (by decide)
  · exact absurd e (by decide)
theorem snd_e11 {a b c : Int32} (h : q_Snd a b c 11) : q_In 6 a := by
  rcases h with ⟨e, h⟩ | ⟨e, h⟩ | ⟨e, h⟩ | ⟨e, h⟩ | ⟨e, h⟩ | ⟨e, h⟩ | ⟨e, h⟩ | ⟨e, h⟩ | ⟨e, h⟩ | ⟨e, h⟩ | ⟨e, h⟩ | ⟨e, h⟩ | ⟨e, h⟩ | ⟨e, h⟩ | ⟨e, h⟩ | ⟨e, h⟩ | e
  · exact absurd e (by decide)
  · exact absurd e (by decide)
  · exact absurd e (by decide)
  · exact absurd e (by decide)
  · exact absurd e (by decide)
  · exact absurd e (by decide)
  · exact absurd e (by decide)
  · exact absurd e (by decide)
  · exact absurd e (by decide)
  · exact absurd e (by decide)
  · exact absurd e (by decide)
  · exact h
  · exact absurd e (by decide)
  · exact absurd e (by decide)
  · exact absurd e (by decide)
  · exact absurd e (by decide)
  · exact absurd e (by decide)
theorem sound_tell (o a b c : Int32) : f_P_isSound o a b c = some 0 ∨ (f_P_isSound o a b c = some 1 ∧ q_Snd a b c o) := by
  unfold f_P_isSound
  by_cases c0 : o = 0
  · subst c0
    rw [if_pos rfl]
    by_cases d1 : b < -16000
    · exact Or.inl (if_pos d1)
    rw [if_neg d1]
    by_cases d2 : 16000 < b
    · exact Or.inl (if_pos d2)
    rw [if_neg d2]
    rcases qb_if c (b := 24) (by decide) (some 1) with e | ⟨i, e⟩
    · exact Or.inl e
    · exact Or.inr ⟨e, snd_o0 d1 d2 i⟩
  rw [if_neg c0]
  by_cases c1 : o = 1
  · subst c1
    rw [if_pos rfl]
    rcases qb3 a b c (l := 24) (m := 24) (n := 24) (by decide) (by decide) (by decide) with e | ⟨e, i, j, k⟩
    · exact Or.inl e
    · exact Or.inr ⟨e, snd_o1 i j k⟩
  rw [if_neg c1]
  by_cases c1 : o = 2
  · subst c1
    rw [if_pos rfl]
    rcases qb3 a b c (l := 24) (m := 24) (n := 24) (by decide) (by decide) (by decide) with e | ⟨e, i, j, k⟩
    · exact Or.inl e
    · exact Or.inr ⟨e, snd_o2 i j k⟩
  rw [if_neg c1]
  by_cases c1 : o = 3
  · subst c1
    rw [if_pos rfl]
    rcases qb3 a b c (l := 24) (m := 24) (n := 24) (by decide) (by decide) (by decide) with e | ⟨e, i, j, k⟩
    · exact Or.inl e
    · exact Or.inr ⟨e, snd_o3 i j k⟩
  rw [if_neg c1]
  by_cases c1 : o = 4
  · subst c1
    rw [if_pos rfl]
    rcases qb3 a b c (l := 24) (m := 24) (n := 24) (by decide) (by decide) (by decide) with e | ⟨e, i, j, k⟩
    · exact Or.inl e
    · exact Or.inr ⟨e, snd_o4 i j k⟩
  rw [if_neg c1]
  by_cases c1 : o = 5
  · subst c1
    rw [if_pos rfl]
    rcases qb3 a b c (l := 24) (m := 24) (n := 24) (by decide) (by decide) (by decide) with e | ⟨e, i, j, k⟩
    · exact Or.inl e
    · exact Or.inr ⟨e, snd_o5 i j k⟩
  rw [if_neg c1]
  by_cases c1 : o = 6
  · subst c1
    rw [if_pos rfl]
    rcases qb2 a c (l := 24) (m := 24) (by decide) (by decide) with e | ⟨e, i, j⟩
    · exact Or.inl e
    · exact Or.inr ⟨e, snd_o6 i j⟩
  rw [if_neg c1]
  by_cases c1 : o = 7
  · subst c1
    rw [if_pos rfl]
    rcases qb3 a b c (l := 24) (m := 16) (n := 24) (by decide) (by decide) (by decide) with e | ⟨e, i, j, k⟩
    · exact Or.inl e
    · exact Or.inr ⟨e, snd_o7 i j k⟩
  rw [if_neg c1]
  by_cases c1 : o = 8
  · subst c1
    rw [if_pos rfl]
    rcases qb3 a b c (l := 24) (m := 16) (n := 24) (by decide) (by decide) (by decide) with e | ⟨e, i, j, k⟩
    · exact Or.inl e
    · exact Or.inr ⟨e, snd_o8 i j k⟩
  rw [if_neg c1]
  by_cases c1 : o = 9
  · subst c1
    rw [if_pos rfl]
    rcases qb2 a b (l := 24) (m := 14) (by decide) (by decide) with e | ⟨e, i, j⟩
    · exact Or.inl e
    · exact Or.inr ⟨e, snd_o9 i j⟩
  rw [if_neg c1]
  by_cases c1 : o = 10
  · subst c1
    rw [if_pos rfl]
    rcases qb_bo b (b := 14) (by decide) with e | ⟨i, e⟩
    · exact Or.inl e
    · exact Or.inr ⟨e, snd_o10 i⟩
  rw [if_neg c1]
  by_cases c1 : o = 11
  · subst c1
    rw [if_pos rfl]
    rcases qb_bo a (b := 6) (by decide) with e | ⟨i, e⟩
    · exact Or.inl e
    · exact Or.inr ⟨e, snd_o11 i⟩
  rw [if_neg c1]
  by_cases c1 : o = 12
  · subst c1
    rw [if_pos rfl]
    rcases qb_bo c (b := 24) (by decide) with e | ⟨i, e⟩
    · exact Or.inl e
    · exact Or.inr ⟨e, snd_o12 i⟩
  rw [if_neg c1]
  by_cases c1 : o = 13
  · subst c1
    rw [if_pos rfl]
    rcases qb_bo a (b := 24) (by decide) with e | ⟨i, e⟩
    · exact Or.inl e
    · exact Or.inr ⟨e, snd_o13 i⟩
  rw [if_neg c1]
  by_cases c1 : o = 14
  · subst c1
    rw [if_pos rfl]
    rcases qb2 a c (l := 24) (m := 24) (by decide) (by decide) with e | ⟨e, i, j⟩
    · exact Or.inl e
    · exact Or.inr ⟨e, snd_o14 i j⟩
  rw [if_neg c1]
  by_cases c1 : o = 15
  · subst c1
    rw [if_pos rfl]
    rcases qb_bo c (b := 24) (by decide) with e | ⟨i, e⟩
    · exact Or.inl e
    · exact Or.inr ⟨e, snd_o15 i⟩
  rw [if_neg c1]
  by_cases c1 : o = 16
  · subst c1
    rw [if_pos rfl]
    exact Or.inr ⟨rfl, snd_o16⟩
  rw [if_neg c1]
  exact Or.inl rfl
theorem sound_01 (o a b c : Int32) : f_P_isSound o a b c = some 0 ∨ f_P_isSound o a b c = some 1 := by
  rcases sound_tell o a b c with e | ⟨e, -⟩
  · exact Or.inl e
  · exact Or.inr e
theorem sound_snd {o a b c : Int32} (h : re_ins o a b c) : q_Snd a b c o := by
  rcases sound_tell o a b c with e | ⟨-, s⟩
  · exact absurd ((show f_P_isSound o a b c = some 1 from h).symm.trans e) (by decide)
  · exact s
def q_p4 (G : Nat → Int32) (K : Nat) (o a b c : Int32) : Nat → Int32 := upd (upd (upd (upd G (4 * K) o) (4 * K + 1) a) (4 * K + 2) b) (4 * K + 3) c
theorem p4_ne {G : Nat → Int32} {K X : Nat} (o a b c : Int32) (h : X ≠ K) : q_p4 G K o a b c (4 * X) = G (4 * X) ∧ q_p4 G K o a b c (4 * X + 1) = G (4 * X + 1) ∧ q_p4 G K o a b c (4 * X + 2) = G (4 * X + 2) ∧ q_p4 G K o a b c (4 * X + 3) = G (4 * X + 3) := by
  unfold q_p4
  refine ⟨?_, ?_, ?_, ?_⟩ <;> rw [pk_un (by omega), pk_un (by omega), pk_un (by omega), pk_un (by omega)]
theorem p4_eq {G : Nat → Int32} {K : Nat} (o a b c : Int32) : q_p4 G K o a b c (4 * K) = o ∧ q_p4 G K o a b c (4 * K + 1) = a ∧ q_p4 G K o a b c (4 * K + 2) = b ∧ q_p4 G K o a b c (4 * K + 3) = c := by
  unfold q_p4
  refine ⟨?_, ?_, ?_, ?_⟩
  · rw [pk_un (by omega), pk_un (by omega), pk_un (by omega), pk_us]
  · rw [pk_un (by omega), pk_un (by omega), pk_us]
  · rw [pk_un (by omega), pk_us]
  · rw [pk_us]
theorem prog_add {g : Sg} {t : Sm} (h : Rel g t) {f n : Nat} (hn : n < 14) (e : g 12 f = nI n) {o a b c : Int32} (hs : re_ins o a b c) :
    Rel (qs_a (qs_a (qs_a (qs_a (qs_a g 11 (4 * (14 * f + n)) o) 11 (4 * (14 * f + n) + 1) a) 11 (4 * (14 * f + n) + 2) b) 11 (4 * (14 * f + n) + 3) c) 12 f (nI (n + 1))) (qm_a (qm_a (qm_a (qm_a (qm_a t 6 (14 * f + n) o) 7 (14 * f + n) a) 8 (14 * f + n) b) 9 (14 * f + n) c) 10 f (nI (n + 1))) := by
  refine ⟨fun f' hf' => ?_, h.2.1, h.2.2.1, h.2.2.2.1, h.2.2.2.2.1, h.2.2.2.2.2⟩
  show upd (t.1 10) f (nI (n + 1)) f' = upd (g 12) f (nI (n + 1)) f' ∧ ∃ m : Nat, m ≤ 14 ∧ upd (g 12) f (nI (n + 1)) f' = nI m ∧ ∀ i : Nat, i < m → upd (t.1 6) (14 * f + n) o (14 * f' + i) = q_p4 (g 11) (14 * f + n) o a b c (4 * (14 * f' + i)) ∧ upd (t.1 7) (14 * f + n) a (14 * f' + i) = q_p4 (g 11) (14 * f + n) o a b c (4 * (14 * f' + i) + 1) ∧ upd (t.1 8) (14 * f + n) b (14 * f' + i) = q_p4 (g 11) (14 * f + n) o a b c (4 * (14 * f' + i) + 2) ∧ upd (t.1 9) (14 * f + n) c (14 * f' + i) = q_p4 (g 11) (14 * f + n) o a b c (4 * (14 * f' + i) + 3) ∧ re_ins (upd (t.1 6) (14 * f + n) o (14 * f' + i)) (upd (t.1 7) (14 * f + n) a (14 * f' + i)) (upd (t.1 8) (14 * f + n) b (14 * f' + i)) (upd (t.1 9) (14 * f + n) c (14 * f' + i))
  have hne : ∀ {i : Nat}, 14 * f' + i ≠ 14 * f + n → (t.1 6 (14 * f' + i) = g 11 (4 * (14 * f' + i)) ∧ t.1 7 (14 * f' + i) = g 11 (4 * (14 * f' + i) + 1) ∧ t.1 8 (14 * f' + i) = g 11 (4 * (14 * f' + i) + 2) ∧ t.1 9 (14 * f' + i) = g 11 (4 * (14 * f' + i) + 3) ∧ re_ins (t.1 6 (14 * f' + i)) (t.1 7 (14 * f' + i)) (t.1 8 (14 * f' + i)) (t.1 9 (14 * f' + i))) → upd (t.1 6) (14 * f + n) o (14 * f' + i) = q_p4 (g 11) (14 * f + n) o a b c (4 * (14 * f' + i)) ∧ upd (t.1 7) (14 * f + n) a (14 * f' + i) = q_p4 (g 11) (14 * f + n) o a b c (4 * (14 * f' + i) + 1) ∧ upd (t.1 8) (14 * f + n) b (14 * f' + i) = q_p4 (g 11) (14 * f + n) o a b c (4 * (14 * f' + i) + 2) ∧ upd (t.1 9) (14 * f + n) c (14 * f' + i) = q_p4 (g 11) (14 * f + n) o a b c (4 * (14 * f' + i) + 3) ∧ re_ins (upd (t.1 6) (14 * f + n) o (14 * f' + i)) (upd (t.1 7) (14 * f + n) a (14 * f' + i)) (upd (t.1 8) (14 * f + n) b (14 * f' + i)) (upd (t.1 9) (14 * f + n) c (14 * f' + i)) := by
    intro i hd q
    obtain ⟨p0, p1, p2, p3⟩ := p4_ne (G := g 11) o a b c hd
    rw [pk_un hd, pk_un hd, pk_un hd, pk_un hd, p0, p1, p2, p3]
    exact q
  obtain ⟨q1, m, hm, q2, q3⟩ := h.1 f' hf'
  by_cases d : f' = f
  · subst d
    rw [pk_us, pk_us]
    refine ⟨rfl, n + 1, by omega, rfl, fun i hi => ?_⟩
    have hmn : m = n := by
      have q := q2.symm.trans e
      exact (nI_eq (by omega) (by omega)).mp q
    by_cases d2 : i = n
    · subst d2
      obtain ⟨p0, p1, p2, p3⟩ := p4_eq (G := g 11) (K := 14 * f' + i) o a b c
      rw [pk_us, pk_us, pk_us, pk_us, p0, p1, p2, p3]
      exact ⟨rfl, rfl, rfl, rfl, hs⟩
    · exact hne (by omega) (q3 i (by omega))
  · rw [pk_un d, pk_un d]
    exact ⟨q1, m, hm, q2, fun i hi => hne (by omega) (q3 i hi)⟩
theorem p_add {g : Sg} {f n : Nat} (hf : f < 6) (hn : n < 14) (e : g 12 f = nI n) (o a b c : Int32) : f_P_add g (nI f) o a b c = some (nI (n + 1), qs_a (qs_a (qs_a (qs_a (qs_a g 11 (4 * (14 * f + n)) o) 11 (4 * (14 * f + n) + 1) a) 11 (4 * (14 * f + n) + 2) b) 11 (4 * (14 * f + n) + 3) c) 12 f (nI (n + 1))) := by
  have c0 : (nI f).toNatClampNeg = f := nI_clamp (by omega)
  have i0 : (nI f * 14 + g 12 f) * 4 = nI (4 * (14 * f + n)) := by
    rw [e, show (14 : Int32) = nI 14 from rfl, show (4 : Int32) = nI 4 from rfl, pk_mul, nI_add, pk_mul]
    exact congrArg nI (by omega)
  have i2 : nI (4 * (14 * f + n)) + 2 = nI (4 * (14 * f + n) + 2) := by rw [show (2 : Int32) = nI 2 from rfl, nI_add]
  have i3 : nI (4 * (14 * f + n)) + 3 = nI (4 * (14 * f + n) + 3) := by rw [show (3 : Int32) = nI 3 from rfl, nI_add]
  unfold f_P_add
  rw [c0, qs_in_ok (vp_in_nI hf (by decide)), qs_bn_of (show f_P_firstPart g (nI f) (g 12 f) = some (nI (4 * (14 * f + n)), g) by unfold f_P_firstPart; rw [i0]), nI_1, i2, i3, nI_clamp (by omega), nI_clamp (by omega), nI_clamp (by omega), nI_clamp (by omega), qs_in_ok (vp_in_nI (by omega) (by decide)), qs_st_of, qs_in_ok (vp_in_nI (by omega) (by decide)), qs_st_of, qs_in_ok (vp_in_nI (by omega) (by decide)), qs_st_of, qs_in_ok (vp_in_nI (by omega) (by decide)), qs_st_of, qs_in_ok (vp_in_nI hf (by decide)), qs_in_ok (vp_in_nI hf (by decide)), qs_st_of, qs_in_ok (vp_in_nI hf (by decide))]
  show some (upd (g 12) f (g 12 f + 1) f, qs_a (qs_a (qs_a (qs_a (qs_a g 11 (4 * (14 * f + n)) o) 11 (4 * (14 * f + n) + 1) a) 11 (4 * (14 * f + n) + 2) b) 11 (4 * (14 * f + n) + 3) c) 12 f (g 12 f + 1)) = _
  rw [pk_us, e, nI_1]
theorem n_instr {t : Sm} {f n : Nat} (hf : f < 6) (hn : n < 14) (e : t.1 10 f = nI n) (o a b c : Int32) (e1 : f_N_in (nI f) 0 5 = some 1) (e2 : f_N_fits o a b c = some 1) : f_N_instr t (nI f) o a b c = some (nI (n + 1), qm_a (qm_a (qm_a (qm_a (qm_a (qm_i t 20 0) 6 (14 * f + n) o) 7 (14 * f + n) a) 8 (14 * f + n) b) 9 (14 * f + n) c) 10 f (nI (n + 1))) := by
  have c0 : (nI f).toNatClampNeg = f := nI_clamp (by omega)
  have i0 : 14 * nI f + (qm_i t 20 0).1 10 f = nI (14 * f + n) := by
    rw [show (qm_i t 20 0).1 10 f = nI n from e, show (14 : Int32) = nI 14 from rfl, pk_mul, nI_add]
  have hne : ¬ (qm_i t 20 0).1 10 f = 14 := fun q => absurd ((nI_eq (b := 14) (by omega) (by decide)).mp (e.symm.trans q)) (by omega)
  unfold f_N_instr
  rw [qs_st_of, qs_pb_of e1, if_neg (by decide), qs_pb_of e2, if_neg (by decide), c0, qs_in_ok (vp_in_nI hf (by decide)), if_neg hne, i0, qs_in_ok (vp_in_nI hf (by decide)), nI_clamp (by omega), qs_in_ok (vp_in_nI (by omega) (by decide)), qs_st_of, qs_in_ok (vp_in_nI (by omega) (by decide)), qs_st_of, qs_in_ok (vp_in_nI (by omega) (by decide)), qs_st_of, qs_in_ok (vp_in_nI (by omega) (by decide)), qs_st_of, qs_in_ok (vp_in_nI hf (by decide)), qs_in_ok (vp_in_nI hf (by decide)), qs_st_of, qs_in_ok (vp_in_nI hf (by decide))]
  show some (upd (t.1 10) f (t.1 10 f + 1) f, qm_a (qm_a (qm_a (qm_a (qm_a (qm_i t 20 0) 6 (14 * f + n) o) 7 (14 * f + n) a) 8 (14 * f + n) b) 9 (14 * f + n) c) 10 f (t.1 10 f + 1)) = _
  rw [pk_us, e, nI_1]
theorem s_instr : sm_instr Rel := by
  intro g t h x1 x2 x3 x4 x5
  have h0 : Rel g (qm_i t 20 0) := h
  rcases is_below x1 (b := 6) (by decide) with ⟨e1, n1⟩ | ⟨f, hf, ex, e1⟩
  · have e1 : f_Q_isBelow x1 6 = some 0 := e1
    have e2 : f_N_in x1 0 5 = some 0 := (below6 x1).symm.trans e1
    refine ⟨.inl ("java/lang/IllegalArgumentException", g), 0, qm_i (qm_i t 20 0) 20 1, ?_, ?_, rfl, (fun r u e => by cases e), h⟩
    · unfold f_Q_instr; rw [qs_pb_of e1]; rfl
    · unfold f_N_instr; rw [qs_st_of, qs_pb_of e2]; rfl
  · have e1 : f_Q_isBelow x1 6 = some 1 := e1
    have e2 : f_N_in x1 0 5 = some 1 := (below6 x1).symm.trans e1
    have hs : f_P_isSound x2 x3 x4 x5 = some 0 ∨ f_P_isSound x2 x3 x4 x5 = some 1 := sound_01 x2 x3 x4 x5
    rcases hs with hs | hs
    · have hs2 := (sound_eq x2 x3 x4 x5).symm.trans hs
      refine ⟨.inl ("java/lang/IllegalArgumentException", g), 0, qm_i (qm_i t 20 0) 20 1, ?_, ?_, rfl, (fun r u e => by cases e), h⟩
      · unfold f_Q_instr; rw [qs_pb_of e1, if_neg (by decide), qs_pb_of hs]; rfl
      · unfold f_N_instr; rw [qs_st_of, qs_pb_of e2, if_neg (by decide), qs_pb_of hs2]; rfl
    · have hs2 := (sound_eq x2 x3 x4 x5).symm.trans hs
      subst ex
      obtain ⟨q1, n, hn, q2, q3⟩ := h.1 f hf
      have c0 : (nI f).toNatClampNeg = f := nI_clamp (by omega)
      have el : f_P_length g (nI f) = some (nI n, g) := by unfold f_P_length; rw [qs_in_ok (vp_in_nI hf (by decide)), c0, q2]
      by_cases c : n = 14
      · subst c
        refine ⟨.inl ("java/lang/IllegalStateException", g), 0, qm_i (qm_i t 20 0) 20 2, ?_, ?_, rfl, (fun r u e => by cases e), h⟩
        · unfold f_Q_instr; rw [qs_pb_of e1, if_neg (by decide), qs_pb_of hs, if_neg (by decide), qs_bn_of el]; rfl
        · unfold f_N_instr; rw [qs_st_of, qs_pb_of e2, if_neg (by decide), qs_pb_of hs2, if_neg (by decide), qs_in_ok (vp_in_nI hf (by decide)), c0, if_pos (show (qm_i t 20 0).1 10 f = 14 from q1.trans q2)]; rfl
      · have hn14 : n < 14 := by omega
        have hne : ¬ nI n = 14 := fun q => absurd ((nI_eq (b := 14) (by omega) (by decide)).mp q) c
        have eq : f_Q_instr g (nI f) x2 x3 x4 x5 = qs_bn (f_P_add g (nI f) x2 x3 x4 x5) fun r8 u9 => some (.inr (r8, u9)) := by
          unfold f_Q_instr
          rw [qs_pb_of e1, if_neg (by decide), qs_pb_of hs, if_neg (by decide), qs_bn_of el, if_neg hne]
        exact ⟨_, nI (n + 1), _, eq.trans (qs_bn_of (p_add hf hn14 q2 x2 x3 x4 x5)), n_instr hf hn14 (q1.trans q2) x2 x3 x4 x5 e2 hs2, rfl, (fun r u e => by cases e; rfl), prog_add h0 hn14 q2 hs⟩
