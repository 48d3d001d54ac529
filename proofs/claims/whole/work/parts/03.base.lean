abbrev Sg : Type := Nat → Nat → Int32
def qs_i (g : Sg) (k : Nat) (v : Int32) : Sg := fun j => cond (Nat.beq j k) (fun _ => v) (g j)
def qs_a (g : Sg) (k i : Nat) (v : Int32) : Sg := fun j => cond (Nat.beq j k) (upd (g j) i v) (g j)
abbrev Sm : Type := Sg × (Nat → Nat → Int64)
def qm_i (g : Sm) (k : Nat) (v : Int32) : Sm := (qs_i g.1 k v, g.2)
def qm_a (g : Sm) (k i : Nat) (v : Int32) : Sm := (qs_a g.1 k i v, g.2)
def qm_l (g : Sm) (k : Nat) (v : Int64) : Sm := (g.1, fun j => cond (Nat.beq j k) (fun _ => v) (g.2 j))
def qm_la (g : Sm) (k i : Nat) (v : Int64) : Sm := (g.1, fun j => cond (Nat.beq j k) (vp_updL (g.2 j) i v) (g.2 j))
def qs_in {α : Type} (i : Int32) (n : Nat) (x : Option α) : Option α := if i < 0 ∨ n ≤ i.toNatClampNeg then none else x
theorem qs_in_some {α : Type} {i : Int32} {n : Nat} {x : Option α} {v : α} (h : qs_in i n x = some v) : vp_in i n ∧ x = some v := by
  unfold qs_in at h
  by_cases q : i < 0 ∨ n ≤ i.toNatClampNeg
  · rw [if_pos q] at h; cases h
  · rw [if_neg q] at h; exact ⟨q, h⟩
def qs_nzi {α : Type} (y : Int32) (x : Option α) : Option α := if y = 0 then none else x
theorem qs_nzi_some {α : Type} {y : Int32} {x : Option α} {v : α} (h : qs_nzi y x = some v) : ¬ y = 0 ∧ x = some v := by
  unfold qs_nzi at h
  by_cases q : y = 0
  · rw [if_pos q] at h; cases h
  · rw [if_neg q] at h; exact ⟨q, h⟩
def qs_nzl {α : Type} (y : Int64) (x : Option α) : Option α := if y = 0 then none else x
theorem qs_nzl_some {α : Type} {y : Int64} {x : Option α} {v : α} (h : qs_nzl y x = some v) : ¬ y = 0 ∧ x = some v := by
  unfold qs_nzl at h
  by_cases q : y = 0
  · rw [if_pos q] at h; cases h
  · rw [if_neg q] at h; exact ⟨q, h⟩
def qs_nan {α : Type} (r : UInt64) (x : Option α) : Option α := if r &&& 0x7fffffffffffffff ≤ 0x7ff0000000000000 then x else none
theorem qs_nan_some {α : Type} {r : UInt64} {x : Option α} {v : α} (h : qs_nan r x = some v) : vf_n64 r ∧ x = some v := by
  unfold qs_nan at h
  by_cases q : r &&& 0x7fffffffffffffff ≤ 0x7ff0000000000000
  · rw [if_pos q] at h; exact ⟨q, h⟩
  · rw [if_neg q] at h; cases h
def qs_bo {α : Type} (r : Int32) (x : Option α) : Option α := if r = 0 ∨ r = 1 then x else none
theorem qs_bo_some {α : Type} {r : Int32} {x : Option α} {v : α} (h : qs_bo r x = some v) : narrow .boolean (.int r) = .int r ∧ x = some v := by
  unfold qs_bo at h
  by_cases q : r = 0 ∨ r = 1
  · rw [if_pos q] at h
    refine ⟨?_, h⟩
    rcases q with rfl | rfl <;> rfl
  · rw [if_neg q] at h; cases h
def qs_bn {α β γ : Type} (x : Option (α × β)) (f : α → β → Option γ) : Option γ := x.bind fun q => f q.1 q.2
theorem qs_bn_some {α β γ : Type} {x : Option (α × β)} {f : α → β → Option γ} {v : γ} (h : qs_bn x f = some v) : ∃ r u, x = some (r, u) ∧ f r u = some v := by
  unfold qs_bn at h
  cases x with
  | none => cases h
  | some q => exact ⟨q.1, q.2, rfl, h⟩
def qs_pb {α γ : Type} (x : Option α) (f : α → Option γ) : Option γ := x.bind f
theorem qs_pb_some {α γ : Type} {x : Option α} {f : α → Option γ} {v : γ} (h : qs_pb x f = some v) : ∃ r, x = some r ∧ f r = some v := by
  unfold qs_pb at h
  cases x with
  | none => cases h
  | some q => exact ⟨q, rfl, h⟩
def qs_st {S γ : Type} (x : S) (f : S → Option γ) : Option γ := f x
theorem qs_st_some {S γ : Type} {x : S} {f : S → Option γ} {v : γ} (h : qs_st x f = some v) : ∃ u, u = x ∧ f u = some v := ⟨x, rfl, h⟩
theorem qs_pos {c : Prop} [Decidable c] {α : Type} {x y v : α} (h : c) (hF : (if c then x else y) = v) : x = v := by rw [if_pos h] at hF; exact hF
theorem qs_neg {c : Prop} [Decidable c] {α : Type} {x y v : α} (h : ¬ c) (hF : (if c then x else y) = v) : y = v := by rw [if_neg h] at hF; exact hF
theorem qs_ret {α β : Type} {a c : α} {b d : β} (h : some (a, b) = some (c, d)) : a = c ∧ b = d := by cases h; exact ⟨rfl, rfl⟩
def qs_G0 : va_G := (fun _ => 0, fun _ _ => 0)
theorem qs_P0 {D : va_G} {cl : List vw_C} {H : Heap} : va_P D cl [] H := fun k q h => by simp at h
theorem qs_D0 {A : Nat → Prop} : va_D A [] := ⟨fun i j p q h => by simp at h, fun k q h => by simp at h⟩
theorem qs_blind {av : List Value} {D : va_G} {cl : List vw_C} {tys : List (ClassId × FieldType)} {ws : va_W} {sz : Nat} {B : Nat → Prop} : FrameBlind (va_Pc av (fun U => U.heap.size = sz ∧ va_P D cl ws U.heap ∧ va_K D cl tys U ∧ va_D B ws ∧ qs_N U)) :=
  fun a U g mk q => by
    obtain ⟨q0, q1, qP, qK, qD, qN⟩ := q
    exact ⟨q0, q1, qP, va_K.moved (u := U) (U := U.calling g mk a) (Vm.Alike.refl U.vm) qK, qD, qs_N.same (s := U) (U := U.calling g mk a) rfl qN⟩
theorem qs_blind0 {av : List Value} {sz : Nat} : FrameBlind (va_Pc av (fun U => U.heap.size = sz ∧ qs_N U)) :=
  fun a U g mk q => ⟨q.1, q.2.1, qs_N.same (s := U) (U := U.calling g mk a) rfl q.2.2⟩
section QSC
variable {p : Program} {l : Launch} {e : Env} {R : Room} {s : State} {m : MethodId} {args : Array Value} {below : List Frame} {meth : Method} {cd : Code} {H : Heap} {locs : List Loc} {cells slots : Nat} {Q : State → Prop}
variable {pc : Nat} {ls : Array Slot} {rest st0 : List Value} {a : Array Value} {D : va_G} {cl : List vw_C} {ws : va_W} {A : Nat → Prop} {H0 : Heap}
theorem qs_free0 (hS : va_S A H0 H locs) (hA : ∀ q : Nat, H0.size ≤ q → A q) : ∀ q : Nat, va_A [] H.size q → A q := fun q h => by
  rcases h with ⟨k, e, h⟩ | h
  · simp at h
  · exact hA q (Nat.le_trans hS.1 h)
theorem qs_kept0 {H1 : Heap} (hP : va_P D cl ws H) (hk : ∀ q : Nat, q < H.size → ¬ va_A [] H.size q → H1[q]? = H[q]?) : va_P D cl ws H1 := hP.kept (fun k q hq => hk q.1 (hP k q hq).lt (fun h => by
  rcases h with ⟨k2, e, h2⟩ | h2
  · simp at h2
  · exact absurd (hP k q hq).lt (Nat.not_lt.mpr h2)))
theorem qs_psi {r0 : Int32} (hr : va_Run p l e R s m args below meth cd H locs cells slots 0 0 (F0 m pc ls st0) rest (va_Qi (fun (r : Int32) (_ : Unit) => r = r0) (fun _ _ => True) (va_A [] H.size) a) (va_A [] H.size))
    (hP : va_P D cl ws H) (_ : va_D A ws) (hS : va_S A H0 H locs) (hA : ∀ q : Nat, H0.size ≤ q → A q)
    (kk : ∀ (H1 : Heap) (locs1 : List Loc), va_P D cl ws H1 → va_S A H0 H1 locs1 → W p l e R s m args below meth cd H1 locs1 cells slots Q (F0 m (pc + 3) ls (.int r0 :: rest))) : W p l e R s m args below meth cd H locs cells slots Q (F0 m pc ls st0) := by
  have hFc := qs_free0 hS hA
  refine va_calli hr hS (fun q _ h => hFc q h) hFc (fun r u t H1 locs1 ht hvm hw hB hz hk hS1 => ?_)
  subst hw
  exact kk H1 locs1 (qs_kept0 hP hk) hS1
theorem qs_psl {r0 : Int64} (hr : va_Run p l e R s m args below meth cd H locs cells slots 0 0 (F0 m pc ls st0) rest (va_Ql (fun (r : Int64) (_ : Unit) => r = r0) (fun _ _ => True) (va_A [] H.size) a) (va_A [] H.size))
    (hP : va_P D cl ws H) (_ : va_D A ws) (hS : va_S A H0 H locs) (hA : ∀ q : Nat, H0.size ≤ q → A q)
    (kk : ∀ (H1 : Heap) (locs1 : List Loc), va_P D cl ws H1 → va_S A H0 H1 locs1 → W p l e R s m args below meth cd H1 locs1 cells slots Q (F0 m (pc + 3) ls (.long r0 :: rest))) : W p l e R s m args below meth cd H locs cells slots Q (F0 m pc ls st0) := by
  have hFc := qs_free0 hS hA
  refine va_calll hr hS (fun q _ h => hFc q h) hFc (fun r u t H1 locs1 ht hvm hw hB hz hk hS1 => ?_)
  subst hw
  exact kk H1 locs1 (qs_kept0 hP hk) hS1
theorem qs_psd {r0 : UInt64} (hr : va_Run p l e R s m args below meth cd H locs cells slots 0 0 (F0 m pc ls st0) rest (va_Qd (fun (r : UInt64) (_ : Unit) => r = r0) (fun _ _ => True) (va_A [] H.size) a) (va_A [] H.size))
    (hP : va_P D cl ws H) (_ : va_D A ws) (hS : va_S A H0 H locs) (hA : ∀ q : Nat, H0.size ≤ q → A q)
    (kk : ∀ (H1 : Heap) (locs1 : List Loc), va_P D cl ws H1 → va_S A H0 H1 locs1 → W p l e R s m args below meth cd H1 locs1 cells slots Q (F0 m (pc + 3) ls (.double r0 :: rest))) : W p l e R s m args below meth cd H locs cells slots Q (F0 m pc ls st0) := by
  have hFc := qs_free0 hS hA
  refine va_calld hr hS (fun q _ h => hFc q h) hFc (fun r u t H1 locs1 ht hvm hw hB hz hk hS1 => ?_)
  subst hw
  exact kk H1 locs1 (qs_kept0 hP hk) hS1
variable {S : Type} {Wd : S → va_W} {tys : List (ClassId × FieldType)} {g u0 : S} {isC : List Nat}
theorem qs_joined {H1 : Heap} (hC : isC.map (fun i => (Wd g)[i]?) = (Wd g).map some) (hP : va_P D cl (Wd g) H) (hD : va_D A (Wd g)) (hk : ∀ q : Nat, q < H.size → ¬ va_A (Wd g) H.size q → H1[q]? = H[q]?) (hF : ∀ q, va_A (Wd g) H.size q → A q) (hP1 : va_P D cl (Wd u0) H1) (hD1 : va_D (va_A (Wd g) H.size) (Wd u0)) : va_P D cl (Wd u0) H1 ∧ va_D A (Wd u0) :=
  va_join (wr := []) (w1 := Wd u0) hP hD isC [] hC rfl rfl (fun i h => by simp at h) hk hF hP1 hD1
theorem qs_ci {r0 : Int32} (hr : va_Run p l e R s m args below meth cd H locs cells slots 0 0 (F0 m pc ls st0) rest (va_Qi (fun (r : Int32) (u : S) => r = r0 ∧ u = u0) (fun u t => va_P D cl (Wd u) t.heap ∧ va_K D cl tys t ∧ va_D (va_A (Wd g) H.size) (Wd u)) (va_A (Wd g) H.size) a) (va_A (Wd g) H.size))
    (hC : isC.map (fun i => (Wd g)[i]?) = (Wd g).map some) (hP : va_P D cl (Wd g) H) (hD : va_D A (Wd g)) (hS : va_S A H0 H locs) (hA : ∀ q : Nat, H0.size ≤ q → A q)
    (kk : ∀ (H1 : Heap) (locs1 : List Loc), va_P D cl (Wd u0) H1 → va_D A (Wd u0) → va_S A H0 H1 locs1 → W p l e R s m args below meth cd H1 locs1 cells slots Q (F0 m (pc + 3) ls (.int r0 :: rest))) : W p l e R s m args below meth cd H locs cells slots Q (F0 m pc ls st0) := by
  have hFc := va_free (wc := Wd g) hD hS hA isC hC
  refine va_calli hr hS (fun q _ h => hFc q h) hFc (fun r u t H1 locs1 ht hvm hw hB hz hk hS1 => ?_)
  obtain ⟨rfl, rfl⟩ := hw
  obtain ⟨hP1, hK1, hD1⟩ := hB
  rw [ht] at hP1
  obtain ⟨hP2, hD2⟩ := qs_joined hC hP hD hk hFc hP1 hD1
  exact kk H1 locs1 hP2 hD2 hS1
theorem qs_cd {r0 : UInt64} (hr : va_Run p l e R s m args below meth cd H locs cells slots 0 0 (F0 m pc ls st0) rest (va_Qd (fun (r : UInt64) (u : S) => r = r0 ∧ u = u0) (fun u t => va_P D cl (Wd u) t.heap ∧ va_K D cl tys t ∧ va_D (va_A (Wd g) H.size) (Wd u)) (va_A (Wd g) H.size) a) (va_A (Wd g) H.size))
    (hC : isC.map (fun i => (Wd g)[i]?) = (Wd g).map some) (hP : va_P D cl (Wd g) H) (hD : va_D A (Wd g)) (hS : va_S A H0 H locs) (hA : ∀ q : Nat, H0.size ≤ q → A q)
    (kk : ∀ (H1 : Heap) (locs1 : List Loc), va_P D cl (Wd u0) H1 → va_D A (Wd u0) → va_S A H0 H1 locs1 → W p l e R s m args below meth cd H1 locs1 cells slots Q (F0 m (pc + 3) ls (.double r0 :: rest))) : W p l e R s m args below meth cd H locs cells slots Q (F0 m pc ls st0) := by
  have hFc := va_free (wc := Wd g) hD hS hA isC hC
  refine va_calld hr hS (fun q _ h => hFc q h) hFc (fun r u t H1 locs1 ht hvm hw hB hz hk hS1 => ?_)
  obtain ⟨rfl, rfl⟩ := hw
  obtain ⟨hP1, hK1, hD1⟩ := hB
  rw [ht] at hP1
  obtain ⟨hP2, hD2⟩ := qs_joined hC hP hD hk hFc hP1 hD1
  exact kk H1 locs1 hP2 hD2 hS1
theorem qs_cl {r0 : Int64} (hr : va_Run p l e R s m args below meth cd H locs cells slots 0 0 (F0 m pc ls st0) rest (va_Ql (fun (r : Int64) (u : S) => r = r0 ∧ u = u0) (fun u t => va_P D cl (Wd u) t.heap ∧ va_K D cl tys t ∧ va_D (va_A (Wd g) H.size) (Wd u)) (va_A (Wd g) H.size) a) (va_A (Wd g) H.size))
    (hC : isC.map (fun i => (Wd g)[i]?) = (Wd g).map some) (hP : va_P D cl (Wd g) H) (hD : va_D A (Wd g)) (hS : va_S A H0 H locs) (hA : ∀ q : Nat, H0.size ≤ q → A q)
    (kk : ∀ (H1 : Heap) (locs1 : List Loc), va_P D cl (Wd u0) H1 → va_D A (Wd u0) → va_S A H0 H1 locs1 → W p l e R s m args below meth cd H1 locs1 cells slots Q (F0 m (pc + 3) ls (.long r0 :: rest))) : W p l e R s m args below meth cd H locs cells slots Q (F0 m pc ls st0) := by
  have hFc := va_free (wc := Wd g) hD hS hA isC hC
  refine va_calll hr hS (fun q _ h => hFc q h) hFc (fun r u t H1 locs1 ht hvm hw hB hz hk hS1 => ?_)
  obtain ⟨rfl, rfl⟩ := hw
  obtain ⟨hP1, hK1, hD1⟩ := hB
  rw [ht] at hP1
  obtain ⟨hP2, hD2⟩ := qs_joined hC hP hD hk hFc hP1 hD1
  exact kk H1 locs1 hP2 hD2 hS1
theorem qs_cv (hr : va_Run p l e R s m args below meth cd H locs cells slots 0 0 (F0 m pc ls st0) rest (va_Qv (fun (u : S) => u = u0) (fun u t => va_P D cl (Wd u) t.heap ∧ va_K D cl tys t ∧ va_D (va_A (Wd g) H.size) (Wd u)) (va_A (Wd g) H.size) a) (va_A (Wd g) H.size))
    (hC : isC.map (fun i => (Wd g)[i]?) = (Wd g).map some) (hP : va_P D cl (Wd g) H) (hD : va_D A (Wd g)) (hS : va_S A H0 H locs) (hA : ∀ q : Nat, H0.size ≤ q → A q)
    (kk : ∀ (H1 : Heap) (locs1 : List Loc), va_P D cl (Wd u0) H1 → va_D A (Wd u0) → va_S A H0 H1 locs1 → W p l e R s m args below meth cd H1 locs1 cells slots Q (F0 m (pc + 3) ls rest)) : W p l e R s m args below meth cd H locs cells slots Q (F0 m pc ls st0) := by
  have hFc := va_free (wc := Wd g) hD hS hA isC hC
  refine va_callv hr hS (fun q _ h => hFc q h) hFc (fun u t H1 locs1 ht hvm hw hB hz hk hS1 => ?_)
  obtain rfl := hw
  obtain ⟨hP1, hK1, hD1⟩ := hB
  rw [ht] at hP1
  obtain ⟨hP2, hD2⟩ := qs_joined hC hP hD hk hFc hP1 hD1
  exact kk H1 locs1 hP2 hD2 hS1
end QSC
theorem qs_F {A : Nat → Prop} {s t : State} {H : Heap} {locs : List Loc} (hS : va_S A s.heap H locs) (hz : H.size ≤ t.heap.size) (hk : ∀ q : Nat, q < H.size → t.heap[q]? = H[q]?) : va_F A s t := ⟨Nat.le_trans hS.1 hz, fun q h1 h2 => (hk q (Nat.lt_of_lt_of_le h1 hS.1)).trans (hS.2.1 q h1 h2)⟩
