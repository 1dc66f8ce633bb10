/-! resolving as a pure machine: a list of items to do, how many RECORDs are open, the numbers given so far.
An item (tag, v, t, x): 0 the value v to type t; 1 the default x of type t; 2 a RECORD ends; 3 a field without value -/
abbrev sr_I : Type := Nat × Nat × Nat × Int32
/-- the tree that was read: how many, type, number, first byte, after, depth; the bytes -/
abbrev sr_V : Type := Nat × (Nat → Nat) × (Nat → Int64) × (Nat → Nat) × (Nat → Nat) × (Nat → Nat) × (Nat → Int32)
def sv_m (w : sr_V) : Nat := w.1
def sv_t (w : sr_V) : Nat → Nat := w.2.1
def sv_n (w : sr_V) : Nat → Int64 := w.2.2.1
def sv_f (w : sr_V) : Nat → Nat := w.2.2.2.1
def sv_a (w : sr_V) : Nat → Nat := w.2.2.2.2.1
def sv_d (w : sr_V) : Nat → Nat := w.2.2.2.2.2.1
def sv_b (w : sr_V) : Nat → Int32 := w.2.2.2.2.2.2
/-- child i of v, by the afters -/
def sv_ch (af : Nat → Nat) (v : Nat) : Nat → Nat
  | 0 => v + 1
  | i + 1 => af (sv_ch af v i)
theorem sv_ch_same {af bf : Nat → Nat} {v : Nat} : ∀ {i : Nat}, (∀ j, j < i → af (sv_ch af v j) = bf (sv_ch af v j)) → sv_ch bf v i = sv_ch af v i := by
  intro i
  induction i with
  | zero => intro _; rfl
  | succ i ih =>
    intro h
    rw [sv_ch, sv_ch, ih (fun j hj => h j (by omega)), ← h i (by omega)]
def sv_it (af : Nat → Nat) : Nat → Nat → Nat
  | c, 0 => c
  | c, k + 1 => sv_it af (af c) k
theorem sv_it_ch (af : Nat → Nat) (v : Nat) : ∀ i k, sv_it af (sv_ch af v i) k = sv_ch af v (i + k) := by
  intro i k
  induction k generalizing i with
  | zero => rfl
  | succ k ih =>
    have h := ih (i + 1)
    rw [show i + 1 + k = i + (k + 1) by omega] at h
    exact h
/-- bytes of the list -/
def sr_by (b : Nat → Int32) : Nat → Nat → List Int64
  | 0, _ => []
  | k + 1, i => (b i).toInt64 :: sr_by b k (i + 1)
theorem sr_by_len (b : Nat → Int32) : ∀ k i, (sr_by b k i).length = k := by
  intro k
  induction k with
  | zero => intro i; rfl
  | succ k ih => intro i; rw [sr_by, List.length_cons, ih]
def sr_rep (x : Int64) : Nat → List Int64
  | 0 => []
  | k + 1 => x :: sr_rep x k
theorem sr_rep_len (x : Int64) : ∀ k, (sr_rep x k).length = k := by
  intro k
  induction k with
  | zero => rfl
  | succ k ih => rw [sr_rep, List.length_cons, ih]
/-- k values at c and behind it, each to type t -/
def sr_items (w : sr_V) (t : Nat) : Nat → Nat → List sr_I
  | 0, _ => []
  | k + 1, c => (0, c, t, 0) :: sr_items w t k (sv_a w c)
theorem sr_items_len (w : sr_V) (t : Nat) : ∀ k c, (sr_items w t k c).length = k := by
  intro k
  induction k with
  | zero => intro c; rfl
  | succ k ih => intro c; rw [sr_items, List.length_cons, ih]
/-- field k of r, for a RECORD that was read (v below 400) or a default -/
def sr_dfi (g : sg_T) (i : Nat) : sr_I := if sg_h g i = 0 then (3, 0, 0, 0) else (1, 0, sg_t g i, sg_v g i)
def sr_fi (g : sg_T) (w : sr_V) (v r k : Nat) : sr_I :=
  if v < 400 then
    match sg_ff g (sv_t w v) (5 * r + k) with
    | some q => (0, sv_ch (sv_a w) v q, sg_t g (5 * r + k), 0)
    | none => sr_dfi g (5 * r + k)
  else sr_dfi g (5 * r + k)
def sr_fs (g : sg_T) (w : sr_V) (v r : Nat) : Nat → Nat → List sr_I
  | 0, _ => [(2, 0, 0, 0)]
  | l + 1, k => sr_fi g w v r k :: sr_fs g w v r l (k + 1)
theorem sr_fs_len (g : sg_T) (w : sr_V) (v r : Nat) : ∀ l k, (sr_fs g w v r l k).length = l + 1 := by
  intro l
  induction l with
  | zero => intro k; rfl
  | succ l ih => intro k; rw [sr_fs, List.length_cons, ih]
/-- what a step gives: numbers, trouble, new items, RECORDs open -/
abbrev sr_O : Type := List Int64 × Int32 × List sr_I × Nat
def sr_rec (g : sg_T) (w : sr_V) (v r d : Nat) : sr_O := if d = 10 then ([], -5, [], d) else ([], 0, sr_fs g w v r (sg_p g r) 0, d + 1)
def sr_val (g : sg_T) (w : sr_V) (v r d : Nat) : sr_O :=
  if sg_k g r = 4 then (sv_n w v :: sr_by (sv_b w) (sv_n w v).toInt32.toNatClampNeg (sv_f w v), 0, [], d)
  else if sg_k g r = 5 then
    (if sg_find g r (sv_n w v).toInt32 = none then
      (if sg_f g r = -1 then ([], -6, [], d) else ([(sg_f g r).toInt64], 0, [], d))
    else ([(sv_n w v).toInt32.toInt64], 0, [], d))
  else if sg_k g r = 6 then (sr_by (sv_b w) (sg_d g r) (sv_f w v), 0, [], d)
  else if sg_k g r = 7 then ([sv_n w v], 0, sr_items w (sg_d g r) (sv_n w v).toInt32.toNatClampNeg (v + 1), d)
  else if sg_k g r = 9 then sr_rec g w v r d
  else ([sv_n w v], 0, [], d)
def sr_in (g : sg_T) (w : sr_V) (v : Nat) : Nat := if sg_k g (sv_t w v) = 8 then v + 1 else v
def sr_turn (g : sg_T) (w : sr_V) (f r d : Nat) : sr_O :=
  if sg_k g r = 8 then
    match sg_br g (sv_t w (sr_in g w f)) r with
    | none => ([], -6, [], d)
    | some k => ((nI k).toInt64 :: (sr_val g w (sr_in g w f) (sg_t g (5 * r + k)) d).1, (sr_val g w (sr_in g w f) (sg_t g (5 * r + k)) d).2)
  else if sg_su g (sv_t w (sr_in g w f)) r = true then sr_val g w (sr_in g w f) r d
  else ([], -6, [], d)
/-- the number of the symbol that is the default -/
def sr_mod (x : Int32) (p : Nat) : Nat := (x.toInt % (p : Int)).toNat
def sr_dfl (g : sg_T) (w : sr_V) (t : Nat) (x : Int32) (d : Nat) : sr_O :=
  if sg_k g t = 1 then ([(x &&& 1).toInt64], 0, [], d)
  else if sg_k g t = 2 ∨ sg_k g t = 3 then ([x.toInt64], 0, [], d)
  else if sg_k g t = 4 then ([1, (x &&& 255).toInt64], 0, [], d)
  else if sg_k g t = 5 then (if sg_p g t = 0 then ([], -6, [], d) else ([(nI (sg_m g (5 * t + sr_mod x (sg_p g t)))).toInt64], 0, [], d))
  else if sg_k g t = 6 then (sr_rep (x &&& 255).toInt64 (sg_d g t), 0, [], d)
  else if sg_k g t = 9 then sr_rec g w (400 + d) t d
  else ([0], 0, [], d)
def sr_dft (g : sg_T) (w : sr_V) (t : Nat) (x : Int32) (d : Nat) : sr_O :=
  if sg_k g t = 8 then (if sg_p g t = 0 then ([], -6, [], d) else ([0], 0, [(1, 0, sg_t g (5 * t), x)], d))
  else sr_dfl g w t x d
def sr_stp (g : sg_T) (w : sr_V) (i : sr_I) (d : Nat) : sr_O :=
  if i.1 = 0 then sr_turn g w i.2.1 i.2.2.1 d
  else if i.1 = 1 then sr_dft g w i.2.2.1 i.2.2.2 d
  else if i.1 = 2 then ([], 0, [], d - 1)
  else ([], -6, [], d)

/-! runs -/
def sr_step (g : sg_T) (w : sr_V) (c : List sr_I) (d : Nat) (L : List Int64) (c' : List sr_I) (d' : Nat) (L' : List Int64) : Prop :=
  ∃ it rest, c = it :: rest ∧ (sr_stp g w it d).2.1 = 0 ∧ L.length + (sr_stp g w it d).1.length ≤ 150 ∧
    c' = (sr_stp g w it d).2.2.1 ++ rest ∧ d' = (sr_stp g w it d).2.2.2 ∧ L' = L ++ (sr_stp g w it d).1
def sr_cert (g : sg_T) (w : sr_V) (c : List sr_I) (d : Nat) (L : List Int64) (c' : List sr_I) (d' : Nat) (L' : List Int64) : Prop :=
  ∀ P : List sr_I → Nat → List Int64 → Prop, (∀ a x A b y B, sr_step g w a x A b y B → P b y B → P a x A) → P c' d' L' → P c d L
def sr_fin (g : sg_T) (w : sr_V) (c : List sr_I) (d : Nat) (L : List Int64) (e : Int32) : Prop :=
  (c = [] ∧ e = 0) ∨ ∃ it rest, c = it :: rest ∧
    ((150 < L.length + (sr_stp g w it d).1.length ∧ e = -7) ∨ (L.length + (sr_stp g w it d).1.length ≤ 150 ∧ (sr_stp g w it d).2.1 = e ∧ ¬ e = 0))
def sr_q (g : sg_T) (w : sr_V) (c : List sr_I) (d : Nat) (c' : List sr_I) (d' : Nat) : Prop :=
  ∃ it rest, c = it :: rest ∧ (sr_stp g w it d).2.1 = 0 ∧ (sr_stp g w it d).1 = [] ∧ c' = (sr_stp g w it d).2.2.1 ++ rest ∧ d' = (sr_stp g w it d).2.2.2
def sr_qt (g : sg_T) (w : sr_V) (c : List sr_I) (d : Nat) (c' : List sr_I) (d' : Nat) : Prop :=
  ∀ P : List sr_I → Nat → Prop, (∀ a x b y, sr_q g w a x b y → P b y → P a x) → P c' d' → P c d
theorem sr_cert_refl {g : sg_T} {w : sr_V} {c : List sr_I} {d : Nat} {L : List Int64} : sr_cert g w c d L c d L := fun _ _ h => h
theorem sr_cert_trans {g : sg_T} {w : sr_V} {c c' c'' : List sr_I} {d d' d'' : Nat} {L L' L'' : List Int64} (h : sr_cert g w c d L c' d' L') (k : sr_cert g w c' d' L' c'' d'' L'') : sr_cert g w c d L c'' d'' L'' :=
  fun P s z => h P s (k P s z)
theorem sr_cert_step {g : sg_T} {w : sr_V} {c c' : List sr_I} {d d' : Nat} {L L' : List Int64} (h : sr_step g w c d L c' d' L') : sr_cert g w c d L c' d' L' :=
  fun _ s z => s _ _ _ _ _ _ h z
theorem sr_qt_refl {g : sg_T} {w : sr_V} {c : List sr_I} {d : Nat} : sr_qt g w c d c d := fun _ _ h => h
theorem sr_qt_trans {g : sg_T} {w : sr_V} {c c' c'' : List sr_I} {d d' d'' : Nat} (h : sr_qt g w c d c' d') (k : sr_qt g w c' d' c'' d'') : sr_qt g w c d c'' d'' :=
  fun P s z => h P s (k P s z)
theorem sr_qt_step {g : sg_T} {w : sr_V} {c c' : List sr_I} {d d' : Nat} (h : sr_q g w c d c' d') : sr_qt g w c d c' d' :=
  fun _ s z => s _ _ _ _ h z
theorem sr_q_frame {g : sg_T} {w : sr_V} {c c' : List sr_I} {d d' : Nat} (h : sr_q g w c d c' d') (R : List sr_I) : sr_q g w (c ++ R) d (c' ++ R) d' := by
  obtain ⟨it, rest, rfl, h1, h2, rfl, h3⟩ := h
  exact ⟨it, rest ++ R, rfl, h1, h2, List.append_assoc _ _ _, h3⟩
theorem sr_qt_frame {g : sg_T} {w : sr_V} {c c' : List sr_I} {d d' : Nat} (h : sr_qt g w c d c' d') (R : List sr_I) : sr_qt g w (c ++ R) d (c' ++ R) d' :=
  fun P s z => h (fun a x => P (a ++ R) x) (fun a x b y q k => s _ _ _ _ (sr_q_frame q R) k) z
theorem sr_q_qstep {g : sg_T} {w : sr_V} {c c' : List sr_I} {d d' : Nat} {L : List Int64} (hL : L.length ≤ 150) (h : sr_q g w c d c' d') : sr_step g w c d L c' d' L := by
  obtain ⟨it, rest, h0, h1, h2, h3, h4⟩ := h
  refine ⟨it, rest, h0, h1, ?_, h3, h4, ?_⟩
  · rw [h2]; exact hL
  · rw [h2, List.append_nil]
theorem sr_qt_cert {g : sg_T} {w : sr_V} {c c' : List sr_I} {d d' : Nat} {L : List Int64} (hL : L.length ≤ 150) (h : sr_qt g w c d c' d') : sr_cert g w c d L c' d' L :=
  fun P s z => h (fun a x => P a x L) (fun _ _ _ _ q k => s _ _ _ _ _ _ (sr_q_qstep hL q) k) z
theorem sr_q_of_step {g : sg_T} {w : sr_V} {c c' : List sr_I} {d d' : Nat} {L : List Int64} (h : sr_step g w c d L c' d' L) : sr_q g w c d c' d' := by
  obtain ⟨it, rest, h0, h1, h2, h3, h4, h5⟩ := h
  refine ⟨it, rest, h0, h1, ?_, h3, h4⟩
  have h6 := congrArg List.length h5
  rw [List.length_append] at h6
  exact List.length_eq_zero_iff.mp (by omega)
