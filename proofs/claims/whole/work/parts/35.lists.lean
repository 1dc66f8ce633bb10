/-! lists held in arrays -/
def sl_is (L : List Int64) (a : Nat → Int64) : Prop := ∀ i (h : i < L.length), a i = L[i]
theorem sl_nil (a : Nat → Int64) : sl_is [] a := fun i h => absurd h (Nat.not_lt_zero i)
theorem sl_put {L : List Int64} {a : Nat → Int64} (h : sl_is L a) (x : Int64) : sl_is (L ++ [x]) (vp_updL a L.length x) := by
  intro i hi
  rw [List.length_append, List.length_singleton] at hi
  by_cases e : i = L.length
  · subst e
    rw [pk_uLs, List.getElem_append_right (Nat.le_refl _)]
    simp
  · rw [pk_uLn e, List.getElem_append_left (by omega)]
    exact h i (by omega)
/-- the numbers o came behind L, or were too many -/
def sl_out (L o : List Int64) (lc : Int32) (a : Nat → Int64) (tr : Int32) : Prop :=
  (L.length + o.length ≤ 150 ∧ lc = nI (L.length + o.length) ∧ sl_is (L ++ o) a ∧ tr = 0) ∨ (150 < L.length + o.length ∧ lc = nI 150 ∧ tr = -7)
theorem sl_out0 {L : List Int64} {a : Nat → Int64} (h : sl_is L a) (hl : L.length ≤ 150) : sl_out L [] (nI L.length) a 0 :=
  Or.inl ⟨hl, rfl, by rw [List.append_nil]; exact h, rfl⟩
theorem sl_outL {L o : List Int64} {lc tr : Int32} {a : Nat → Int64} (h : sl_out L o lc a tr) (x : Int64) (hp : L.length + o.length < 150) :
    lc = nI (L.length + o.length) ∧ tr = 0 ∧ sl_out L (o ++ [x]) (nI (L.length + o.length + 1)) (vp_updL a (L.length + o.length) x) 0 := by
  rcases h with ⟨h1, h2, h3, h4⟩ | ⟨h1, h2, h3⟩
  · refine ⟨h2, h4, Or.inl ⟨?_, ?_, ?_, rfl⟩⟩
    · rw [List.length_append, List.length_singleton]; omega
    · rw [List.length_append, List.length_singleton]; rfl
    · have h5 := sl_put h3 x
      rw [List.length_append, List.append_assoc] at h5
      exact h5
  · omega
theorem sl_outF {L o : List Int64} {lc tr : Int32} {a : Nat → Int64} (h : sl_out L o lc a tr) (x : Int64) (hp : 150 ≤ L.length + o.length) :
    lc = nI 150 ∧ (tr = 0 ∨ tr = -7) ∧ ∀ a', sl_out L (o ++ [x]) (nI 150) a' (-7) := by
  have hl : (o ++ [x]).length = o.length + 1 := by rw [List.length_append, List.length_singleton]
  rcases h with ⟨h1, h2, h3, h4⟩ | ⟨h1, h2, h3⟩
  · exact ⟨by rw [h2, show L.length + o.length = 150 by omega], Or.inl h4, fun a' => Or.inr ⟨by omega, rfl, rfl⟩⟩
  · exact ⟨h2, Or.inr h3, fun a' => Or.inr ⟨by omega, rfl, rfl⟩⟩
/-! the class's frames in their arrays -/
def sx_fr (aV aT aS aL aB : Nat → Int32) : List sx_F → Prop
  | [] => True
  | f :: F => (aV F.length = nI f.1 ∧ aT F.length = nI f.2.1 ∧ aS F.length = nI f.2.2.1 ∧ aL F.length = nI f.2.2.2.1 ∧ aB F.length = nI f.2.2.2.2) ∧ sx_fr aV aT aS aL aB F
theorem sx_fr_same {aV aT aS aL aB bV bT bS bL bB : Nat → Int32} : ∀ {F : List sx_F},
    (∀ i, i < F.length → bV i = aV i ∧ bT i = aT i ∧ bS i = aS i ∧ bL i = aL i ∧ bB i = aB i) → sx_fr aV aT aS aL aB F → sx_fr bV bT bS bL bB F := by
  intro F
  induction F with
  | nil => intro _ _; trivial
  | cons f F ih =>
    intro h k
    obtain ⟨e1, e2, e3, e4, e5⟩ := h F.length (by rw [List.length_cons]; omega)
    refine ⟨?_, ih (fun i hi => h i (by rw [List.length_cons]; omega)) k.2⟩
    rw [e1, e2, e3, e4, e5]
    exact k.1
/-! the reference's stack of things to do -/
def sy_cell (it : sr_I) (v t x : Int32) : Prop :=
  (it.1 = 0 → v = nI it.2.1 ∧ t = nI it.2.2.1) ∧ (it.1 = 1 → v = -1 ∧ t = nI it.2.2.1 ∧ x = it.2.2.2) ∧ (it.1 = 2 → v = -2) ∧ (¬ it.1 = 0 → ¬ it.1 = 1 → ¬ it.1 = 2 → v = -3)
def sy_do (aV aT aD : Nat → Int32) : List sr_I → Prop
  | [] => True
  | i :: c => sy_cell i (aV c.length) (aT c.length) (aD c.length) ∧ sy_do aV aT aD c
theorem sy_do_same {aV aT aD bV bT bD : Nat → Int32} : ∀ {c : List sr_I}, (∀ i, i < c.length → bV i = aV i ∧ bT i = aT i ∧ bD i = aD i) → sy_do aV aT aD c → sy_do bV bT bD c := by
  intro c
  induction c with
  | nil => intro _ _; trivial
  | cons f F ih =>
    intro h k
    obtain ⟨e1, e2, e3⟩ := h F.length (by rw [List.length_cons]; omega)
    refine ⟨?_, ih (fun i hi => h i (by rw [List.length_cons]; omega)) k.2⟩
    rw [e1, e2, e3]
    exact k.1
theorem sy_do_push {aV aT aD : Nat → Int32} {c : List sr_I} (h : sy_do aV aT aD c) (i : sr_I) {v t x : Int32} (hc : sy_cell i v t x) :
    sy_do (upd aV c.length v) (upd aT c.length t) (upd aD c.length x) (i :: c) := by
  refine ⟨?_, sy_do_same (fun j hj => ⟨pk_un (by omega), pk_un (by omega), pk_un (by omega)⟩) h⟩
  rw [pk_us, pk_us, pk_us]
  exact hc
/-- the trees in the arrays -/
def sx_tree (g : sg_T) (w : sr_V) (vt vf va : Nat → Int32) (vn : Nat → Int64) : Prop :=
  ∀ v, v < sv_m w → vt v = nI (sv_t w v) ∧ vn v = sv_n w v ∧ va v = nI (sv_a w v) ∧ (sg_k g (sv_t w v) = 4 ∨ sg_k g (sv_t w v) = 6 → vf v = nI (sv_f w v))
def sy_tree (g : sg_T) (w : sr_V) (vt st ch nx : Nat → Int32) (vn : Nat → Int64) : Prop :=
  ∀ v, v < sv_m w → vt v = nI (sv_t w v) ∧ (sg_k g (sv_t w v) = 4 ∨ sg_k g (sv_t w v) = 6 → st v = nI (sv_f w v)) ∧
    (0 < sv_cnt g w v → ch v = nI (v + 1)) ∧ (∀ i, i + 1 < sv_cnt g w v → nx (sv_ch (sv_a w) v i) = nI (sv_ch (sv_a w) v (i + 1))) ∧
    (1 ≤ sg_k g (sv_t w v) ∧ sg_k g (sv_t w v) ≤ 4 ∨ sg_k g (sv_t w v) = 7 → vn v = sv_n w v) ∧
    (sg_k g (sv_t w v) = 5 → ∃ s, s < sg_p g (sv_t w v) ∧ vn v = lN s ∧ sv_n w v = lN (sg_m g (5 * sv_t w v + s)))
