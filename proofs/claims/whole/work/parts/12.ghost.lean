/-! the tables grow -/
def sg_un (f : Nat → Nat) (i x : Nat) : Nat → Nat := fun j => if j = i then x else f j
theorem sg_un_s {f : Nat → Nat} {i x : Nat} : sg_un f i x i = x := if_pos rfl
theorem sg_un_n {f : Nat → Nat} {i x j : Nat} (h : ¬ j = i) : sg_un f i x j = f j := if_neg h
def sg_type (g : sg_T) (k d : Nat) : sg_T := (sg_n g + 1, sg_un (sg_k g) (sg_n g) k, sg_un (sg_d g) (sg_n g) d, sg_p g, upd (sg_f g) (sg_n g) (-1), sg_m g, sg_t g, sg_a g, sg_h g, sg_v g)
def sg_part (g : sg_T) (t nm u : Nat) (al ha v : Int32) : sg_T :=
  (sg_n g, sg_k g, sg_d g, sg_un (sg_p g) t (sg_p g t + 1), sg_f g, sg_un (sg_m g) (5 * t + sg_p g t) nm, sg_un (sg_t g) (5 * t + sg_p g t) u, upd (sg_a g) (5 * t + sg_p g t) al, upd (sg_h g) (5 * t + sg_p g t) ha, upd (sg_v g) (5 * t + sg_p g t) v)
def sg_fall (g : sg_T) (t : Nat) (x : Int32) : sg_T := (sg_n g, sg_k g, sg_d g, sg_p g, upd (sg_f g) t x, sg_m g, sg_t g, sg_a g, sg_h g, sg_v g)
theorem sg_K_type (g : sg_T) (k d : Nat) : sg_K (sg_type g k d) = upd (sg_K g) (sg_n g) (nI k) := by
  funext j
  show nI (sg_un (sg_k g) (sg_n g) k j) = _
  by_cases e : j = sg_n g
  · subst e; rw [sg_un_s, pk_us]
  · rw [sg_un_n e, pk_un e]; rfl
theorem sg_P_part (g : sg_T) (t nm u : Nat) (al ha v : Int32) : sg_P (sg_part g t nm u al ha v) = upd (sg_P g) t (nI (sg_p g t + 1)) := by
  funext j
  show nI (sg_un (sg_p g) t (sg_p g t + 1) j) = _
  by_cases e : j = t
  · subst e; rw [sg_un_s, pk_us]
  · rw [sg_un_n e, pk_un e]; rfl
theorem sg_type_ok {g : sg_T} {k d : Nat} (hg : sg_ok g) (hn : sg_n g < 20) (hk : k ≤ 9) (h6 : k = 6 → d ≤ 8) (h7 : k = 7 → d < sg_n g) : sg_ok (sg_type g k d) := by
  obtain ⟨g1, g2, g3, g4, g5, g6, g7, g8, g9, g10, g11, g12, g13, g14⟩ := hg
  have eN : sg_n (sg_type g k d) = sg_n g + 1 := rfl
  have eKs : sg_k (sg_type g k d) (sg_n g) = k := sg_un_s
  have eKn : ∀ j, ¬ j = sg_n g → sg_k (sg_type g k d) j = sg_k g j := fun j h => sg_un_n h
  have eDs : sg_d (sg_type g k d) (sg_n g) = d := sg_un_s
  have eDn : ∀ j, ¬ j = sg_n g → sg_d (sg_type g k d) j = sg_d g j := fun j h => sg_un_n h
  have eFs : sg_f (sg_type g k d) (sg_n g) = -1 := pk_us
  have eFn : ∀ j, ¬ j = sg_n g → sg_f (sg_type g k d) j = sg_f g j := fun j h => pk_un h
  have eP : ∀ j, sg_p (sg_type g k d) j = sg_p g j := fun j => rfl
  have p0 := g4 (sg_n g) (Nat.le_refl _)
  refine ⟨by omega, fun t => ?_, g3, fun t ht => g4 t (by omega), fun t ht h => ?_, fun t ht h => ?_, fun t j ht hj h => ?_, fun t j ht hj h => ?_, fun t j ht hj h => ?_, fun t j ht hj h => ?_, fun t ht => ?_, fun t ht h => ?_, fun t ht a b c => ?_, g14⟩
  · by_cases e : t = sg_n g
    · subst e; rw [eKs]; exact hk
    · rw [eKn t e]; exact g2 t
  · by_cases e : t = sg_n g
    · subst e; rw [eKs] at h; rw [eDs]; exact h6 h
    · rw [eKn t e] at h; rw [eDn t e]; exact g5 t (by omega) h
  · by_cases e : t = sg_n g
    · subst e; rw [eKs] at h; rw [eDs]; have := h7 h; omega
    · rw [eKn t e] at h; rw [eDn t e]; have := g6 t (by omega) h; omega
  · rw [eP] at hj
    by_cases e : t = sg_n g
    · subst e; omega
    · rw [eKn t e] at h; exact g7 t j (by omega) hj h
  · rw [eP] at hj
    by_cases e : t = sg_n g
    · subst e; omega
    · rw [eKn t e] at h; have := g8 t j (by omega) hj h; exact Nat.lt_succ_of_lt this
  · rw [eP] at hj
    by_cases e : t = sg_n g
    · subst e; omega
    · rw [eKn t e] at h
      have h2 := g8 t j (by omega) hj (by omega)
      have h3 := g9 t j (by omega) hj h
      show ¬ sg_k (sg_type g k d) (sg_t g (5 * t + j)) = 8
      rw [eKn _ (by omega)]
      exact h3
  · rw [eP] at hj
    by_cases e : t = sg_n g
    · subst e; omega
    · rw [eKn t e] at h; exact g10 t j (by omega) hj h
  · by_cases e : t = sg_n g
    · subst e; rw [eFs]; exact Or.inl rfl
    · rw [eFn t e]; exact g11 t (by omega)
  · by_cases e : t = sg_n g
    · subst e; exact eFs
    · rw [eKn t e] at h; rw [eFn t e]; exact g12 t (by omega) h
  · by_cases e : t = sg_n g
    · subst e; exact p0
    · rw [eKn t e] at a b c; exact g13 t (by omega) a b c
theorem sg_type_T {g : sg_T} {k d : Nat} {aD aD' : Nat → Int32} (h : ∀ t, t < sg_n g → sg_k g t = 6 ∨ sg_k g t = 7 → aD t = nI (sg_d g t)) (ho : ∀ t, ¬ t = sg_n g → aD' t = aD t) (hs : k = 6 ∨ k = 7 → aD' (sg_n g) = nI d) :
    ∀ t, t < sg_n (sg_type g k d) → sg_k (sg_type g k d) t = 6 ∨ sg_k (sg_type g k d) t = 7 → aD' t = nI (sg_d (sg_type g k d) t) := by
  intro t ht hk
  have eN : sg_n (sg_type g k d) = sg_n g + 1 := rfl
  by_cases e : t = sg_n g
  · subst e
    have eKs : sg_k (sg_type g k d) (sg_n g) = k := sg_un_s
    have eDs : sg_d (sg_type g k d) (sg_n g) = d := sg_un_s
    rw [eKs] at hk; rw [eDs]; exact hs hk
  · have eKn : sg_k (sg_type g k d) t = sg_k g t := sg_un_n e
    have eDn : sg_d (sg_type g k d) t = sg_d g t := sg_un_n e
    rw [eKn] at hk; rw [eDn, ho t e]; exact h t (by omega) hk
/-- a row of parts stays as it was when a type comes -/
theorem sg_type_part {g : sg_T} {k d : Nat} (hg : sg_ok g) {Q : Nat → Prop} {P : Nat → Nat → Prop} (h : ∀ t j, t < sg_n g → j < sg_p g t → Q (sg_k g t) → P t j) :
    ∀ t j, t < sg_n (sg_type g k d) → j < sg_p (sg_type g k d) t → Q (sg_k (sg_type g k d) t) → P t j := by
  intro t j ht hj hk
  have eN : sg_n (sg_type g k d) = sg_n g + 1 := rfl
  have eP : sg_p (sg_type g k d) t = sg_p g t := rfl
  by_cases e : t = sg_n g
  · have := hg.2.2.2.1 t (by omega); omega
  · have eKn : sg_k (sg_type g k d) t = sg_k g t := sg_un_n e
    rw [eKn] at hk
    exact h t j (by omega) (by omega) hk
theorem sg_type_X {g : sg_T} {k d : Nat} {aD aN aT aA aH aV aD' : Nat → Int32} (hg : sg_ok g) (h : sg_X g aD aN aT aA aH aV) (ho : ∀ t, ¬ t = sg_n g → aD' t = aD t) (hs : k = 6 ∨ k = 7 → aD' (sg_n g) = nI d) : sg_X (sg_type g k d) aD' aN aT aA aH aV :=
  ⟨sg_type_T h.1 ho hs, sg_type_part hg (Q := fun q => ¬ q = 8) h.2.1, sg_type_part hg (Q := fun q => ¬ q = 5) h.2.2.1, sg_type_part hg (Q := fun q => q = 9) h.2.2.2.1, sg_type_part hg (Q := fun q => q = 8) h.2.2.2.2.1, sg_type_part hg (Q := fun q => ¬ q = 9) h.2.2.2.2.2.1, h.2.2.2.2.2.2⟩
theorem sg_type_Y {g : sg_T} {k d : Nat} {aD aN aT aA aH aV aD' : Nat → Int32} (hg : sg_ok g) (h : sg_Y g aD aN aT aA aH aV) (ho : ∀ t, ¬ t = sg_n g → aD' t = aD t) (hs : k = 6 ∨ k = 7 → aD' (sg_n g) = nI d) : sg_Y (sg_type g k d) aD' aN aT aA aH aV :=
  ⟨sg_type_T h.1 ho hs, sg_type_part hg (Q := fun q => ¬ q = 8) h.2.1, sg_type_part hg (Q := fun q => ¬ q = 5) h.2.2.1, sg_type_part hg (Q := fun q => q = 9) h.2.2.2.1, h.2.2.2.2⟩
theorem sg_fall_ok {g : sg_T} {t : Nat} {x : Int32} (hg : sg_ok g) (hk : sg_k g t = 5) (hx : sg_nam x) : sg_ok (sg_fall g t x) := by
  obtain ⟨g1, g2, g3, g4, g5, g6, g7, g8, g9, g10, g11, g12, g13, g14⟩ := hg
  refine ⟨g1, g2, g3, g4, g5, g6, g7, g8, g9, g10, fun s hs => ?_, fun s hs h => ?_, g13, g14⟩
  · by_cases e : s = t
    · subst e; show sg_nam (upd (sg_f g) s x s); rw [pk_us]; exact hx
    · show sg_nam (upd (sg_f g) t x s); rw [pk_un e]; exact g11 s hs
  · have e : ¬ s = t := by
      intro e; subst e; exact h hk
    show upd (sg_f g) t x s = -1
    rw [pk_un e]
    exact g12 s hs h
theorem sg_part_ok {g : sg_T} {t nm u : Nat} {al ha v : Int32} (hg : sg_ok g) (ht : t < sg_n g) (hp : sg_p g t < 5) (hk : sg_k g t = 5 ∨ sg_k g t = 8 ∨ sg_k g t = 9)
    (h1 : ¬ sg_k g t = 8 → nm < 16) (h2 : ¬ sg_k g t = 5 → u < sg_n g) (h3 : sg_k g t = 8 → ¬ sg_k g u = 8) (h4 : sg_k g t = 9 → sg_nam al) (h5 : ha = 0 ∨ ha = 1) : sg_ok (sg_part g t nm u al ha v) := by
  obtain ⟨g1, g2, g3, g4, g5, g6, g7, g8, g9, g10, g11, g12, g13, g14⟩ := hg
  have ePs : sg_p (sg_part g t nm u al ha v) t = sg_p g t + 1 := sg_un_s
  have ePn : ∀ j, ¬ j = t → sg_p (sg_part g t nm u al ha v) j = sg_p g j := fun j h => sg_un_n h
  have key : ∀ s j, s < sg_n g → j < sg_p (sg_part g t nm u al ha v) s → (s = t ∧ j = sg_p g t) ∨ (j < sg_p g s ∧ ¬ 5 * s + j = 5 * t + sg_p g t) := by
    intro s j hs hj
    have p5 := g3 s
    by_cases e : s = t
    · subst e
      rw [ePs] at hj
      by_cases e2 : j = sg_p g s
      · exact Or.inl ⟨rfl, e2⟩
      · exact Or.inr ⟨by omega, by omega⟩
    · rw [ePn s e] at hj
      exact Or.inr ⟨hj, by omega⟩
  refine ⟨g1, g2, fun s => ?_, fun s hs => ?_, g5, g6, fun s j hs hj h => ?_, fun s j hs hj h => ?_, fun s j hs hj h => ?_, fun s j hs hj h => ?_, g11, g12, fun s hs a b c => ?_, fun i => ?_⟩
  · by_cases e : s = t
    · subst e; rw [ePs]; omega
    · rw [ePn s e]; exact g3 s
  · have hs2 : sg_n g ≤ s := hs
    rw [ePn s (by omega)]; exact g4 s hs2
  · rcases key s j hs hj with ⟨rfl, rfl⟩ | ⟨a, b⟩
    · show sg_un (sg_m g) _ nm _ < 16
      rw [sg_un_s]; exact h1 h
    · show sg_un (sg_m g) _ nm _ < 16
      rw [sg_un_n b]; exact g7 s j hs a h
  · rcases key s j hs hj with ⟨rfl, rfl⟩ | ⟨a, b⟩
    · show sg_un (sg_t g) _ u _ < sg_n g
      rw [sg_un_s]; exact h2 h
    · show sg_un (sg_t g) _ u _ < sg_n g
      rw [sg_un_n b]; exact g8 s j hs a h
  · rcases key s j hs hj with ⟨rfl, rfl⟩ | ⟨a, b⟩
    · show ¬ sg_k g (sg_un (sg_t g) _ u _) = 8
      rw [sg_un_s]; exact h3 h
    · show ¬ sg_k g (sg_un (sg_t g) _ u _) = 8
      rw [sg_un_n b]; exact g9 s j hs a h
  · rcases key s j hs hj with ⟨rfl, rfl⟩ | ⟨a, b⟩
    · show sg_nam (upd (sg_a g) _ al _)
      rw [pk_us]; exact h4 h
    · show sg_nam (upd (sg_a g) _ al _)
      rw [pk_un b]; exact g10 s j hs a h
  · have e : ¬ s = t := by
      intro e; subst e
      have a' : ¬ sg_k g s = 5 := a
      have b' : ¬ sg_k g s = 8 := b
      have c' : ¬ sg_k g s = 9 := c
      omega
    rw [ePn s e]; exact g13 s hs a b c
  · show upd (sg_h g) _ ha i = 0 ∨ upd (sg_h g) _ ha i = 1
    by_cases e : i = 5 * t + sg_p g t
    · subst e; rw [pk_us]; exact h5
    · rw [pk_un e]; exact g14 i
theorem sg_part_key {g : sg_T} {t nm u : Nat} {al ha v : Int32} (hg : sg_ok g) (hp : sg_p g t < 5) {s j : Nat} (hj : j < sg_p (sg_part g t nm u al ha v) s) : (s = t ∧ j = sg_p g t) ∨ (j < sg_p g s ∧ ¬ 5 * s + j = 5 * t + sg_p g t) := by
  have p5 := hg.2.2.1 s
  by_cases e : s = t
  · subst e
    have ePs : sg_p (sg_part g s nm u al ha v) s = sg_p g s + 1 := sg_un_s
    rw [ePs] at hj
    by_cases e2 : j = sg_p g s
    · exact Or.inl ⟨rfl, e2⟩
    · exact Or.inr ⟨by omega, by omega⟩
  · have ePn : sg_p (sg_part g t nm u al ha v) s = sg_p g s := sg_un_n e
    rw [ePn] at hj
    exact Or.inr ⟨hj, by omega⟩
theorem sg_part_1 {g : sg_T} {t nm u : Nat} {al ha v : Int32} {aN bN : Nat → Int32} (hg : sg_ok g) (hp : sg_p g t < 5)
    (h : ∀ s j, s < sg_n g → j < sg_p g s → ¬ sg_k g s = 8 → aN (5 * s + j) = nI (sg_m g (5 * s + j))) (o : ∀ j, ¬ j = 5 * t + sg_p g t → bN j = aN j) (n1 : ¬ sg_k g t = 8 → bN (5 * t + sg_p g t) = nI nm) :
    ∀ s j, s < sg_n (sg_part g t nm u al ha v) → j < sg_p (sg_part g t nm u al ha v) s → ¬ sg_k (sg_part g t nm u al ha v) s = 8 → bN (5 * s + j) = nI (sg_m (sg_part g t nm u al ha v) (5 * s + j)) := by
  intro s j hs hj hk
  show bN (5 * s + j) = nI (sg_un (sg_m g) (5 * t + sg_p g t) nm (5 * s + j))
  rcases sg_part_key hg hp hj with ⟨rfl, rfl⟩ | ⟨a, b⟩
  · rw [sg_un_s]; exact n1 hk
  · rw [sg_un_n b, o _ b]; exact h s j hs a hk
theorem sg_part_2 {g : sg_T} {t nm u : Nat} {al ha v : Int32} {aN bN : Nat → Int32} (hg : sg_ok g) (hp : sg_p g t < 5)
    (h : ∀ s j, s < sg_n g → j < sg_p g s → ¬ sg_k g s = 5 → aN (5 * s + j) = nI (sg_t g (5 * s + j))) (o : ∀ j, ¬ j = 5 * t + sg_p g t → bN j = aN j) (n1 : ¬ sg_k g t = 5 → bN (5 * t + sg_p g t) = nI u) :
    ∀ s j, s < sg_n (sg_part g t nm u al ha v) → j < sg_p (sg_part g t nm u al ha v) s → ¬ sg_k (sg_part g t nm u al ha v) s = 5 → bN (5 * s + j) = nI (sg_t (sg_part g t nm u al ha v) (5 * s + j)) := by
  intro s j hs hj hk
  show bN (5 * s + j) = nI (sg_un (sg_t g) (5 * t + sg_p g t) u (5 * s + j))
  rcases sg_part_key hg hp hj with ⟨rfl, rfl⟩ | ⟨a, b⟩
  · rw [sg_un_s]; exact n1 hk
  · rw [sg_un_n b, o _ b]; exact h s j hs a hk
theorem sg_part_3 {g : sg_T} {t nm u : Nat} {al ha v : Int32} {aA aH aV bA bH bV : Nat → Int32} (hg : sg_ok g) (hp : sg_p g t < 5)
    (h : ∀ s j, s < sg_n g → j < sg_p g s → sg_k g s = 9 → aA (5 * s + j) = sg_a g (5 * s + j) ∧ aH (5 * s + j) = sg_h g (5 * s + j) ∧ aV (5 * s + j) = sg_v g (5 * s + j))
    (oA : ∀ j, ¬ j = 5 * t + sg_p g t → bA j = aA j) (oH : ∀ j, ¬ j = 5 * t + sg_p g t → bH j = aH j) (oV : ∀ j, ¬ j = 5 * t + sg_p g t → bV j = aV j)
    (n1 : sg_k g t = 9 → bA (5 * t + sg_p g t) = al ∧ bH (5 * t + sg_p g t) = ha ∧ bV (5 * t + sg_p g t) = v) :
    ∀ s j, s < sg_n (sg_part g t nm u al ha v) → j < sg_p (sg_part g t nm u al ha v) s → sg_k (sg_part g t nm u al ha v) s = 9 → bA (5 * s + j) = sg_a (sg_part g t nm u al ha v) (5 * s + j) ∧ bH (5 * s + j) = sg_h (sg_part g t nm u al ha v) (5 * s + j) ∧ bV (5 * s + j) = sg_v (sg_part g t nm u al ha v) (5 * s + j) := by
  intro s j hs hj hk
  show bA (5 * s + j) = upd (sg_a g) (5 * t + sg_p g t) al (5 * s + j) ∧ bH (5 * s + j) = upd (sg_h g) (5 * t + sg_p g t) ha (5 * s + j) ∧ bV (5 * s + j) = upd (sg_v g) (5 * t + sg_p g t) v (5 * s + j)
  rcases sg_part_key hg hp hj with ⟨rfl, rfl⟩ | ⟨a, b⟩
  · rw [pk_us, pk_us, pk_us]; exact n1 hk
  · rw [pk_un b, pk_un b, pk_un b, oA _ b, oH _ b, oV _ b]; exact h s j hs a hk
theorem sg_part_X {g : sg_T} {t nm u : Nat} {al ha v : Int32} {aD aN aT aA aH aV bN bT bA bH bV : Nat → Int32} (hg : sg_ok g) (hp : sg_p g t < 5) (h : sg_X g aD aN aT aA aH aV)
    (oN : ∀ j, ¬ j = 5 * t + sg_p g t → bN j = aN j) (oT : ∀ j, ¬ j = 5 * t + sg_p g t → bT j = aT j)
    (oA : ∀ j, ¬ j = 5 * t + sg_p g t → bA j = aA j) (oH : ∀ j, ¬ j = 5 * t + sg_p g t → bH j = aH j) (oV : ∀ j, ¬ j = 5 * t + sg_p g t → bV j = aV j)
    (n1 : ¬ sg_k g t = 8 → bN (5 * t + sg_p g t) = nI nm) (n2 : sg_k g t = 8 → bN (5 * t + sg_p g t) = -1) (t1 : ¬ sg_k g t = 5 → bT (5 * t + sg_p g t) = nI u)
    (r1 : sg_k g t = 9 → bA (5 * t + sg_p g t) = al ∧ bH (5 * t + sg_p g t) = ha ∧ bV (5 * t + sg_p g t) = v) (r2 : ¬ sg_k g t = 9 → bA (5 * t + sg_p g t) = -1 ∧ bH (5 * t + sg_p g t) = 0)
    (hh : ∀ i, bH i = 0 ∨ bH i = 1) : sg_X (sg_part g t nm u al ha v) aD bN bT bA bH bV := by
  refine ⟨h.1, sg_part_1 hg hp h.2.1 oN n1, sg_part_2 hg hp h.2.2.1 oT t1, sg_part_3 hg hp h.2.2.2.1 oA oH oV r1, fun s j hs hj hk => ?_, fun s j hs hj hk => ?_, hh⟩
  · rcases sg_part_key hg hp hj with ⟨rfl, rfl⟩ | ⟨a, b⟩
    · exact n2 hk
    · rw [oN _ b]; exact h.2.2.2.2.1 s j hs a hk
  · rcases sg_part_key hg hp hj with ⟨rfl, rfl⟩ | ⟨a, b⟩
    · exact r2 hk
    · rw [oA _ b, oH _ b]; exact h.2.2.2.2.2.1 s j hs a hk
theorem sg_part_Y {g : sg_T} {t nm u : Nat} {al ha v : Int32} {aD aN aT aA aH aV bN bT bA bH bV : Nat → Int32} (hg : sg_ok g) (hp : sg_p g t < 5) (h : sg_Y g aD aN aT aA aH aV)
    (oN : ∀ j, ¬ j = 5 * t + sg_p g t → bN j = aN j) (oT : ∀ j, ¬ j = 5 * t + sg_p g t → bT j = aT j)
    (oA : ∀ j, ¬ j = 5 * t + sg_p g t → bA j = aA j) (oH : ∀ j, ¬ j = 5 * t + sg_p g t → bH j = aH j) (oV : ∀ j, ¬ j = 5 * t + sg_p g t → bV j = aV j)
    (n1 : ¬ sg_k g t = 8 → bN (5 * t + sg_p g t) = nI nm) (t1 : ¬ sg_k g t = 5 → bT (5 * t + sg_p g t) = nI u)
    (r1 : sg_k g t = 9 → bA (5 * t + sg_p g t) = al ∧ bH (5 * t + sg_p g t) = ha ∧ bV (5 * t + sg_p g t) = v)
    (hh : ∀ i, bH i = 0 ∨ bH i = 1) : sg_Y (sg_part g t nm u al ha v) aD bN bT bA bH bV :=
  ⟨h.1, sg_part_1 hg hp h.2.1 oN n1, sg_part_2 hg hp h.2.2.1 oT t1, sg_part_3 hg hp h.2.2.2.1 oA oH oV r1, hh⟩
