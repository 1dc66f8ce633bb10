/-! the tables of types, as naturals: n, kind, detail, parts, fallback; of a part: name, type, alias, has, default -/
abbrev sg_T : Type := Nat × (Nat → Nat) × (Nat → Nat) × (Nat → Nat) × (Nat → Int32) × (Nat → Nat) × (Nat → Nat) × (Nat → Int32) × (Nat → Int32) × (Nat → Int32)
def sg_n (g : sg_T) : Nat := g.1
def sg_k (g : sg_T) : Nat → Nat := g.2.1
def sg_d (g : sg_T) : Nat → Nat := g.2.2.1
def sg_p (g : sg_T) : Nat → Nat := g.2.2.2.1
def sg_f (g : sg_T) : Nat → Int32 := g.2.2.2.2.1
def sg_m (g : sg_T) : Nat → Nat := g.2.2.2.2.2.1
def sg_t (g : sg_T) : Nat → Nat := g.2.2.2.2.2.2.1
def sg_a (g : sg_T) : Nat → Int32 := g.2.2.2.2.2.2.2.1
def sg_h (g : sg_T) : Nat → Int32 := g.2.2.2.2.2.2.2.2.1
def sg_v (g : sg_T) : Nat → Int32 := g.2.2.2.2.2.2.2.2.2

/-- a name or none -/
def sg_nam (x : Int32) : Prop := x = -1 ∨ ∃ a : Nat, a < 16 ∧ x = nI a

def sg_ok (g : sg_T) : Prop :=
  sg_n g ≤ 20 ∧ (∀ t, sg_k g t ≤ 9) ∧ (∀ t, sg_p g t ≤ 5) ∧ (∀ t, sg_n g ≤ t → sg_p g t = 0) ∧
  (∀ t, t < sg_n g → sg_k g t = 6 → sg_d g t ≤ 8) ∧ (∀ t, t < sg_n g → sg_k g t = 7 → sg_d g t < sg_n g) ∧
  (∀ t j, t < sg_n g → j < sg_p g t → sg_k g t ≠ 8 → sg_m g (5 * t + j) < 16) ∧
  (∀ t j, t < sg_n g → j < sg_p g t → sg_k g t ≠ 5 → sg_t g (5 * t + j) < sg_n g) ∧
  (∀ t j, t < sg_n g → j < sg_p g t → sg_k g t = 8 → sg_k g (sg_t g (5 * t + j)) ≠ 8) ∧
  (∀ t j, t < sg_n g → j < sg_p g t → sg_k g t = 9 → sg_nam (sg_a g (5 * t + j))) ∧
  (∀ t, t < sg_n g → sg_nam (sg_f g t)) ∧ (∀ t, t < sg_n g → sg_k g t ≠ 5 → sg_f g t = -1) ∧
  (∀ t, t < sg_n g → sg_k g t ≠ 5 → sg_k g t ≠ 8 → sg_k g t ≠ 9 → sg_p g t = 0) ∧
  (∀ i, sg_h g i = 0 ∨ sg_h g i = 1)

/-- the class's tables hold g -/
def sg_X (g : sg_T) (aD aN aT aA aH aV : Nat → Int32) : Prop :=
  (∀ t, t < sg_n g → sg_k g t = 6 ∨ sg_k g t = 7 → aD t = nI (sg_d g t)) ∧
  (∀ t j, t < sg_n g → j < sg_p g t → sg_k g t ≠ 8 → aN (5 * t + j) = nI (sg_m g (5 * t + j))) ∧
  (∀ t j, t < sg_n g → j < sg_p g t → sg_k g t ≠ 5 → aT (5 * t + j) = nI (sg_t g (5 * t + j))) ∧
  (∀ t j, t < sg_n g → j < sg_p g t → sg_k g t = 9 → aA (5 * t + j) = sg_a g (5 * t + j) ∧ aH (5 * t + j) = sg_h g (5 * t + j) ∧ aV (5 * t + j) = sg_v g (5 * t + j)) ∧
  (∀ t j, t < sg_n g → j < sg_p g t → sg_k g t = 8 → aN (5 * t + j) = -1) ∧
  (∀ t j, t < sg_n g → j < sg_p g t → sg_k g t ≠ 9 → aA (5 * t + j) = -1 ∧ aH (5 * t + j) = 0) ∧
  (∀ i, aH i = 0 ∨ aH i = 1)

/-- the reference's tables hold g -/
def sg_Y (g : sg_T) (aD aN aT aA aH aV : Nat → Int32) : Prop :=
  (∀ t, t < sg_n g → sg_k g t = 6 ∨ sg_k g t = 7 → aD t = nI (sg_d g t)) ∧
  (∀ t j, t < sg_n g → j < sg_p g t → sg_k g t ≠ 8 → aN (5 * t + j) = nI (sg_m g (5 * t + j))) ∧
  (∀ t j, t < sg_n g → j < sg_p g t → sg_k g t ≠ 5 → aT (5 * t + j) = nI (sg_t g (5 * t + j))) ∧
  (∀ t j, t < sg_n g → j < sg_p g t → sg_k g t = 9 → aA (5 * t + j) = sg_a g (5 * t + j) ∧ aH (5 * t + j) = sg_h g (5 * t + j) ∧ aV (5 * t + j) = sg_v g (5 * t + j)) ∧
  (∀ i, aH i = 0 ∨ aH i = 1)

/-- the first k of m ones at or behind i with p -/
def sd_ff (p : Nat → Bool) : Nat → Nat → Option Nat
  | 0, _ => none
  | m + 1, i => if p i then some i else sd_ff p m (i + 1)
def sd_oi : Option Nat → Int32
  | none => -1
  | some k => nI k
theorem sd_ff_some {p : Nat → Bool} : ∀ {m i k : Nat}, sd_ff p m i = some k → i ≤ k ∧ k < i + m ∧ p k = true := by
  intro m
  induction m with
  | zero => intro i k h; cases h
  | succ m ih =>
    intro i k h
    rw [sd_ff] at h
    by_cases hp : p i = true
    · rw [if_pos hp] at h
      cases h
      exact ⟨Nat.le_refl _, by omega, hp⟩
    · rw [if_neg hp] at h
      have ⟨a, b, c⟩ := ih h
      exact ⟨by omega, by omega, c⟩
theorem sd_ff_none {p : Nat → Bool} : ∀ {m i : Nat}, sd_ff p m i = none → ∀ k, i ≤ k → k < i + m → p k = false := by
  intro m
  induction m with
  | zero => intro i h k h1 h2; omega
  | succ m ih =>
    intro i h k h1 h2
    rw [sd_ff] at h
    by_cases hp : p i = true
    · rw [if_pos hp] at h
      cases h
    · rw [if_neg hp] at h
      by_cases e : k = i
      · subst e; exact Bool.eq_false_iff.mpr hp
      · exact ih h k (by omega) (by omega)
theorem sd_ff_yes {p : Nat → Bool} {m i : Nat} (h : p i = true) : sd_ff p (m + 1) i = some i := by
  rw [sd_ff, if_pos h]
theorem sd_ff_no {p : Nat → Bool} {m i : Nat} (h : ¬ p i = true) : sd_ff p (m + 1) i = sd_ff p m (i + 1) := by
  rw [sd_ff, if_neg h]
theorem sd_oi_none {o : Option Nat} (h : ∀ k, o = some k → k < 100) : sd_oi o = -1 ↔ o = none := by
  cases o with
  | none => exact ⟨fun _ => rfl, fun _ => rfl⟩
  | some k =>
    refine ⟨fun e => ?_, fun e => by cases e⟩
    have h1 := h k rfl
    have h2 : ¬ nI k < 0 := nI_pos (by omega)
    rw [show nI k = -1 from e] at h2
    exact absurd (by decide) h2

/-- the part of t that has that name -/
def sg_find (g : sg_T) (t : Nat) (x : Int32) : Option Nat := sd_ff (fun k => decide (nI (sg_m g (5 * t + k)) = x)) (sg_p g t) 0
def sg_su (g : sg_T) (w r : Nat) : Bool := decide ((sg_k g w = sg_k g r ∧ (sg_k g w = 6 → sg_d g w = sg_d g r)) ∨ (sg_k g w = 2 ∧ sg_k g r = 3))
def sg_br (g : sg_T) (w r : Nat) : Option Nat := sd_ff (fun k => sg_su g w (sg_t g (5 * r + k))) (sg_p g r) 0
def sg_ff (g : sg_T) (w i : Nat) : Option Nat := if sg_find g w (nI (sg_m g i)) = none then (if sg_a g i = -1 then none else sg_find g w (sg_a g i)) else sg_find g w (nI (sg_m g i))
theorem sg_find_lt {g : sg_T} {t : Nat} {x : Int32} {k : Nat} (h : sg_find g t x = some k) : k < sg_p g t := by
  have h2 := sd_ff_some h
  omega
theorem sg_br_lt {g : sg_T} {w r k : Nat} (h : sg_br g w r = some k) : k < sg_p g r ∧ sg_su g w (sg_t g (5 * r + k)) = true := by
  have h2 := sd_ff_some h
  exact ⟨by omega, h2.2.2⟩
theorem sg_ff_lt {g : sg_T} {w i k : Nat} (h : sg_ff g w i = some k) : k < sg_p g w := by
  unfold sg_ff at h
  by_cases e : sg_find g w (nI (sg_m g i)) = none
  · rw [if_pos e] at h
    by_cases e2 : sg_a g i = -1
    · rw [if_pos e2] at h; cases h
    · rw [if_neg e2] at h; exact sg_find_lt h
  · rw [if_neg e] at h; exact sg_find_lt h

/-! how many cells are not 0 -/
def sd_cn (f : Nat → Int32) : Nat → Nat
  | 0 => 0
  | m + 1 => sd_cn f m + (if f m = 0 then 0 else 1)
theorem sd_cn_le (f : Nat → Int32) : ∀ m, sd_cn f m ≤ m := by
  intro m
  induction m with
  | zero => exact Nat.le_refl _
  | succ m ih => rw [sd_cn]; split <;> omega
theorem sd_cn_lt {f : Nat → Int32} : ∀ {m i : Nat}, i < m → f i = 0 → sd_cn f m < m := by
  intro m
  induction m with
  | zero => intro i h; omega
  | succ m ih =>
    intro i h h0
    have h1 := sd_cn_le f m
    rw [sd_cn]
    by_cases e : i = m
    · subst e; rw [if_pos h0]; omega
    · have := ih (by omega) h0
      split <;> omega
theorem sd_cn_same {f h : Nat → Int32} : ∀ {m : Nat}, (∀ i, i < m → f i = h i) → sd_cn f m = sd_cn h m := by
  intro m
  induction m with
  | zero => intro _; rfl
  | succ m ih => intro e; rw [sd_cn, sd_cn, ih (fun i hi => e i (by omega)), e m (by omega)]
theorem sd_cn_up {f : Nat → Int32} {x : Int32} (hx : ¬ x = 0) : ∀ {m i : Nat}, i < m → f i = 0 → sd_cn (upd f i x) m = sd_cn f m + 1 := by
  intro m
  induction m with
  | zero => intro i h; omega
  | succ m ih =>
    intro i h h0
    rw [sd_cn, sd_cn]
    by_cases e : i = m
    · subst e
      rw [sd_cn_same (h := f) (fun j hj => pk_un (by omega)), pk_us, if_neg hx, if_pos h0]
    · rw [ih (by omega) h0, pk_un (fun z => e z.symm)]
      omega
theorem sd_cn_down {f : Nat → Int32} : ∀ {m i : Nat}, i < m → ¬ f i = 0 → sd_cn (upd f i 0) m + 1 = sd_cn f m := by
  intro m
  induction m with
  | zero => intro i h; omega
  | succ m ih =>
    intro i h h0
    rw [sd_cn, sd_cn]
    by_cases e : i = m
    · subst e
      rw [sd_cn_same (h := f) (fun j hj => pk_un (by omega)), pk_us, if_neg h0, if_pos rfl]
    · have := ih (i := i) (by omega) h0
      rw [pk_un (fun z => e z.symm)]
      omega
theorem sd_cn_0 {f : Nat → Int32} : ∀ {m : Nat}, (∀ i, i < m → f i = 0) → sd_cn f m = 0 := by
  intro m
  induction m with
  | zero => intro _; rfl
  | succ m ih => intro e; rw [sd_cn, ih (fun i hi => e i (by omega)), if_pos (e m (by omega))]
