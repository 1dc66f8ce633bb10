/-! closed sets of pairs: safe (a default stands as type 20), same -/
def sf_ok (g : sg_T) (S : Nat → Nat → Prop) (w r : Nat) : Prop :=
  if w = 20 then
    (sg_k g r = 5 → 0 < sg_p g r) ∧ (sg_k g r = 8 → 0 < sg_p g r ∧ S 20 (sg_t g (5 * r))) ∧
    (sg_k g r = 9 → ∀ j, j < sg_p g r → ¬ sg_h g (5 * r + j) = 0 ∧ S 20 (sg_t g (5 * r + j)))
  else if sg_k g w = 8 then ∀ j, j < sg_p g w → S (sg_t g (5 * w + j)) r
  else if sg_k g r = 8 then ∃ j, sg_br g w r = some j ∧ S w (sg_t g (5 * r + j))
  else sg_su g w r = true ∧
    (sg_k g r = 5 → sg_f g r = -1 → ∀ j, j < sg_p g w → ¬ sg_find g r (nI (sg_m g (5 * w + j))) = none) ∧
    (sg_k g r = 9 → ∀ j, j < sg_p g r → (∀ q, sg_ff g w (5 * r + j) = some q → S (sg_t g (5 * w + q)) (sg_t g (5 * r + j))) ∧
      (sg_ff g w (5 * r + j) = none → ¬ sg_h g (5 * r + j) = 0 ∧ S 20 (sg_t g (5 * r + j)))) ∧
    (sg_k g r = 7 → S (sg_d g w) (sg_d g r))
theorem sf_mono {g : sg_T} {S T : Nat → Nat → Prop} (h : ∀ a b, S a b → T a b) {w r : Nat} (o : sf_ok g S w r) : sf_ok g T w r := by
  unfold sf_ok at o ⊢
  by_cases h20 : w = 20
  · rw [if_pos h20] at o ⊢
    exact ⟨o.1, fun z => ⟨(o.2.1 z).1, h _ _ (o.2.1 z).2⟩, fun z j hj => ⟨(o.2.2 z j hj).1, h _ _ (o.2.2 z j hj).2⟩⟩
  rw [if_neg h20] at o ⊢
  by_cases h8 : sg_k g w = 8
  · rw [if_pos h8] at o ⊢
    exact fun j hj => h _ _ (o j hj)
  rw [if_neg h8] at o ⊢
  by_cases r8 : sg_k g r = 8
  · rw [if_pos r8] at o ⊢
    obtain ⟨j, h1, h2⟩ := o
    exact ⟨j, h1, h _ _ h2⟩
  rw [if_neg r8] at o ⊢
  exact ⟨o.1, o.2.1, fun z j hj => ⟨fun q hq => h _ _ ((o.2.2.1 z j hj).1 q hq), fun hn => ⟨((o.2.2.1 z j hj).2 hn).1, h _ _ ((o.2.2.1 z j hj).2 hn).2⟩⟩, fun z => h _ _ (o.2.2.2 z)⟩
def sa_ok (g : sg_T) (S : Nat → Nat → Prop) (t u : Nat) : Prop :=
  sg_k g t = sg_k g u ∧ sg_p g t = sg_p g u ∧ (sg_k g t = 6 → sg_d g t = sg_d g u) ∧ (sg_k g t = 7 → S (sg_d g t) (sg_d g u)) ∧
  (sg_k g t = 5 → sg_f g t = sg_f g u) ∧
  ∀ j, j < sg_p g t → (¬ sg_k g t = 8 → sg_m g (5 * t + j) = sg_m g (5 * u + j)) ∧ (¬ sg_k g t = 5 → S (sg_t g (5 * t + j)) (sg_t g (5 * u + j))) ∧
    (sg_k g t = 9 → sg_a g (5 * t + j) = sg_a g (5 * u + j) ∧ sg_h g (5 * t + j) = sg_h g (5 * u + j) ∧ (¬ sg_h g (5 * t + j) = 0 → sg_v g (5 * t + j) = sg_v g (5 * u + j)))
theorem sa_mono {g : sg_T} {S T : Nat → Nat → Prop} (h : ∀ a b, S a b → T a b) {w r : Nat} (o : sa_ok g S w r) : sa_ok g T w r :=
  ⟨o.1, o.2.1, o.2.2.1, fun z => h _ _ (o.2.2.2.1 z), o.2.2.2.2.1, fun j hj => ⟨(o.2.2.2.2.2 j hj).1, fun z => h _ _ ((o.2.2.2.2.2 j hj).2.1 z), (o.2.2.2.2.2 j hj).2.2⟩⟩
theorem sa_flip {g : sg_T} {S : Nat → Nat → Prop} {t u : Nat} (o : sa_ok g S t u) : sa_ok g (fun a b => S b a) u t := by
  obtain ⟨h1, h2, h3, h4, h5, h6⟩ := o
  refine ⟨h1.symm, h2.symm, fun z => (h3 (h1.trans z)).symm, fun z => h4 (h1.trans z), fun z => (h5 (h1.trans z)).symm, fun j hj => ?_⟩
  obtain ⟨a, b, c⟩ := h6 j (by omega)
  refine ⟨fun z => (a (by omega)).symm, fun z => b (by omega), fun z => ?_⟩
  obtain ⟨c1, c2, c3⟩ := c (by omega)
  exact ⟨c1.symm, c2.symm, fun y => (c3 (by rw [c2]; exact y)).symm⟩
/-- in some closed set -/
def sc_in (ok : (Nat → Nat → Prop) → Nat → Nat → Prop) (a b : Nat) : Prop := ∃ S : Nat → Nat → Prop, (∀ x y, S x y → ok S x y) ∧ S a b
theorem sa_sym {g : sg_T} {t u : Nat} (h : sc_in (sa_ok g) t u) : sc_in (sa_ok g) u t := by
  obtain ⟨S, h1, h2⟩ := h
  exact ⟨fun a b => S b a, fun x y z => sa_flip (h1 y x z), h2⟩
/-! the class's queue: pr has c pairs, sn says which were seen -/
def sq_ok (c : Nat) (pr sn : Nat → Int32) : Prop :=
  c = sd_cn sn 420 ∧ (∀ i, i < 420 → sn i = 0 ∨ sn i = 1) ∧ (∀ j, j < c → ∃ i, i < 420 ∧ pr j = nI i ∧ ¬ sn i = 0) ∧ (∀ i, i < 420 → ¬ sn i = 0 → ∃ j, j < c ∧ pr j = nI i)
def sq_S (sn : Nat → Int32) (a b : Nat) : Prop := a ≤ 20 ∧ b < 20 ∧ ¬ sn (20 * a + b) = 0
def sq_V (n : Nat) (sn : Nat → Int32) : Prop := ∀ a b, sq_S sn a b → (a < n ∨ a = 20) ∧ b < n
def sq_next (n : Nat) (c : Nat) (pr sn : Nat → Int32) (c' : Nat) (pr' sn' : Nat → Int32) : Prop :=
  sq_ok c' pr' sn' ∧ c ≤ c' ∧ (∀ j, j < c → pr' j = pr j) ∧ sq_V n sn' ∧ (∀ a b, sq_S sn a b → sq_S sn' a b)
theorem sq_next_refl {n c : Nat} {pr sn : Nat → Int32} (h : sq_ok c pr sn) (v : sq_V n sn) : sq_next n c pr sn c pr sn :=
  ⟨h, Nat.le_refl _, fun _ _ => rfl, v, fun _ _ z => z⟩
theorem sq_next_trans {n c c' c'' : Nat} {pr sn pr' sn' pr'' sn'' : Nat → Int32} (h : sq_next n c pr sn c' pr' sn') (k : sq_next n c' pr' sn' c'' pr'' sn'') : sq_next n c pr sn c'' pr'' sn'' :=
  ⟨k.1, Nat.le_trans h.2.1 k.2.1, fun j hj => (k.2.2.1 j (Nat.lt_of_lt_of_le hj h.2.1)).trans (h.2.2.1 j hj), k.2.2.2.1, fun a b z => k.2.2.2.2 a b (h.2.2.2.2 a b z)⟩
theorem sq_lt {c : Nat} {pr sn : Nat → Int32} {i : Nat} (h : sq_ok c pr sn) (hi : i < 420) (h0 : sn i = 0) : c < 420 := by
  rw [h.1]; exact sd_cn_lt hi h0
theorem sq_add {n c : Nat} {pr sn : Nat → Int32} {a b : Nat} (hn : n ≤ 20) (h : sq_ok c pr sn) (v : sq_V n sn) (ha : a < n ∨ a = 20) (hb : b < n) (h0 : sn (20 * a + b) = 0) :
    sq_next n c pr sn (c + 1) (upd pr c (nI (20 * a + b))) (upd sn (20 * a + b) 1) ∧ (∀ x y, sq_S (upd sn (20 * a + b) 1) x y → sq_S sn x y ∨ (x = a ∧ y = b)) ∧ sq_S (upd sn (20 * a + b) 1) a b := by
  have hi : 20 * a + b < 420 := by omega
  have key : ∀ x y, sq_S (upd sn (20 * a + b) 1) x y → sq_S sn x y ∨ (x = a ∧ y = b) := by
    intro x y ⟨h1, h2, h3⟩
    by_cases e : 20 * x + y = 20 * a + b
    · exact Or.inr (by omega)
    · rw [pk_un e] at h3
      exact Or.inl ⟨h1, h2, h3⟩
  refine ⟨⟨⟨?_, fun i hi' => ?_, fun j hj => ?_, fun i hi2 hs => ?_⟩, by omega, fun j hj => pk_un (by omega), ?_, ?_⟩, key, ⟨by omega, by omega, by rw [pk_us]; decide⟩⟩
  · rw [sd_cn_up (by decide) hi h0, ← h.1]
  · by_cases e : i = 20 * a + b
    · subst e; rw [pk_us]; exact Or.inr rfl
    · rw [pk_un e]; exact h.2.1 i hi'
  · by_cases e : j = c
    · subst e
      exact ⟨20 * a + b, hi, pk_us, by rw [pk_us]; decide⟩
    · obtain ⟨i, h1, h2, h3⟩ := h.2.2.1 j (by omega)
      refine ⟨i, h1, by rw [pk_un e]; exact h2, ?_⟩
      by_cases e2 : i = 20 * a + b
      · subst e2; rw [pk_us]; decide
      · rw [pk_un e2]; exact h3
  · by_cases e : i = 20 * a + b
    · subst e; exact ⟨c, by omega, pk_us⟩
    · rw [pk_un e] at hs
      obtain ⟨j, h1, h2⟩ := h.2.2.2 i hi2 hs
      exact ⟨j, by omega, by rw [pk_un (by omega)]; exact h2⟩
  · intro x y z
    rcases key x y z with z | ⟨rfl, rfl⟩
    · exact v x y z
    · exact ⟨ha, hb⟩
  · intro x y ⟨h1, h2, h3⟩
    refine ⟨h1, h2, ?_⟩
    by_cases e : 20 * x + y = 20 * a + b
    · rw [e, pk_us]; decide
    · rw [pk_un e]; exact h3
