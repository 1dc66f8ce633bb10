/-! reading, as a pure machine: frames (value, type, begun, left), the top first; trouble, place, the tree so far, raw numbers -/
def gr_lg (b : Nat → Int32) (bc : Nat) : Nat → Nat → Int64 → Nat → Int32 × Int64 × Nat
  | 0, _, u, pl => (0, u, pl)
  | f + 1, i, u, pl =>
    if pl = bc then (-2, u, pl)
    else if i = 9 ∧ ¬ b pl ≤ 1 then (-3, u, pl + 1)
    else if 128 ≤ b pl then gr_lg b bc f (i + 1) (u ||| (((b pl &&& 127).toInt64) <<< ((7 * nI i).toInt64 &&& 63))) (pl + 1)
    else (0, u ||| (((b pl &&& 127).toInt64) <<< ((7 * nI i).toInt64 &&& 63)), pl + 1)
def gr_z (u : Int64) : Int64 := ((u.toUInt64 >>> ((1 : Int32).toInt64.toUInt64 &&& Int64.toUInt64 63)).toInt64) ^^^ (-(u &&& 1))
/-- trouble, the number, the place behind it -/
def gr_long (b : Nat → Int32) (bc pl : Nat) : Int32 × Int64 × Nat := ((gr_lg b bc 10 0 0 pl).1, gr_z (gr_lg b bc 10 0 0 pl).2.1, (gr_lg b bc 10 0 0 pl).2.2)
theorem gr_lg_ok {b : Nat → Int32} {bc : Nat} (hb : bc ≤ 100) : ∀ f i u pl, i + f = 10 → pl ≤ bc → (gr_lg b bc f i u pl).2.2 ≤ bc ∧ ((gr_lg b bc f i u pl).1 = 0 → 0 < f → pl < (gr_lg b bc f i u pl).2.2) := by
  intro f
  induction f with
  | zero => intro i u pl _ h; exact ⟨h, fun _ z => absurd z (by omega)⟩
  | succ f ih =>
    intro i u pl hi h
    rw [gr_lg]
    by_cases h1 : pl = bc
    · rw [if_pos h1]; exact ⟨h, fun z => absurd (show (-2 : Int32) = 0 from z) (by decide)⟩
    rw [if_neg h1]
    by_cases h2 : i = 9 ∧ ¬ b pl ≤ 1
    · rw [if_pos h2]; exact ⟨by show pl + 1 ≤ bc; omega, fun z => absurd (show (-3 : Int32) = 0 from z) (by decide)⟩
    rw [if_neg h2]
    by_cases h3 : 128 ≤ b pl
    · rw [if_pos h3]
      obtain ⟨a1, a2⟩ := ih (i + 1) (u ||| (((b pl &&& 127).toInt64) <<< ((7 * nI i).toInt64 &&& 63))) (pl + 1) (by omega) (by omega)
      refine ⟨a1, fun z _ => ?_⟩
      by_cases hf : 0 < f
      · have := a2 z hf; omega
      · have e : f = 0 := by omega
        subst e
        show pl < pl + 1
        omega
    · rw [if_neg h3]
      exact ⟨by show pl + 1 ≤ bc; omega, fun _ _ => by show pl < pl + 1; omega⟩
theorem gr_long_ok {b : Nat → Int32} {bc pl : Nat} (hb : bc ≤ 100) (h : pl ≤ bc) : (gr_long b bc pl).2.2 ≤ bc ∧ ((gr_long b bc pl).1 = 0 → pl < (gr_long b bc pl).2.2) := by
  obtain ⟨a1, a2⟩ := gr_lg_ok (b := b) hb 10 0 0 pl (by omega) h
  exact ⟨a1, fun z => a2 z (by omega)⟩
abbrev gr_F : Type := Nat × Nat × Nat × Nat
def gr_rc (g : sg_T) : List gr_F → Nat
  | [] => 0
  | f :: F => gr_rc g F + (if sg_k g f.2.1 = 9 then 1 else 0)
/-- the head of a value: trouble, the class's number, first byte, raw number, place -/
abbrev gr_H : Type := Int32 × Int64 × Nat × Int64 × Nat
def gr_within (b : Nat → Int32) (bc pl : Nat) (lo hi : Int64) : Int32 × Int64 × Nat :=
  if (gr_long b bc pl).1 = 0 then (if (gr_long b bc pl).2.1 < lo ∨ hi < (gr_long b bc pl).2.1 then (-3, (gr_long b bc pl).2) else gr_long b bc pl) else gr_long b bc pl
def gr_head (g : sg_T) (b : Nat → Int32) (bc t pl : Nat) : gr_H :=
  if sg_k g t = 1 then (if pl = bc then (-2, 0, pl, 0, pl) else if ¬ (b pl).toInt64 ≤ 1 then (-3, 0, pl, 0, pl) else (0, (b pl).toInt64, pl, (b pl).toInt64, pl + 1))
  else if sg_k g t = 2 then ((gr_within b bc pl (-2147483648) 2147483647).1, (gr_within b bc pl (-2147483648) 2147483647).2.1, 0, (gr_within b bc pl (-2147483648) 2147483647).2.1, (gr_within b bc pl (-2147483648) 2147483647).2.2)
  else if sg_k g t = 3 then ((gr_long b bc pl).1, (gr_long b bc pl).2.1, 0, (gr_long b bc pl).2.1, (gr_long b bc pl).2.2)
  else if sg_k g t = 4 then
    (if (gr_within b bc pl 0 20).1 = 0 then
      (if (gr_within b bc pl 0 20).2.2 + (gr_within b bc pl 0 20).2.1.toInt32.toNatClampNeg ≤ bc then (0, (gr_within b bc pl 0 20).2.1, (gr_within b bc pl 0 20).2.2, (gr_within b bc pl 0 20).2.1, (gr_within b bc pl 0 20).2.2 + (gr_within b bc pl 0 20).2.1.toInt32.toNatClampNeg)
      else (-2, 0, 0, 0, pl))
    else ((gr_within b bc pl 0 20).1, 0, 0, 0, pl))
  else if sg_k g t = 5 then ((gr_within b bc pl 0 (nI (sg_p g t) - 1).toInt64).1, (nI (sg_m g (5 * t + (gr_within b bc pl 0 (nI (sg_p g t) - 1).toInt64).2.1.toInt32.toNatClampNeg))).toInt64, 0, (gr_within b bc pl 0 (nI (sg_p g t) - 1).toInt64).2.1, (gr_within b bc pl 0 (nI (sg_p g t) - 1).toInt64).2.2)
  else if sg_k g t = 6 then (if pl + sg_d g t ≤ bc then (0, 0, pl, 0, pl + sg_d g t) else (-2, 0, 0, 0, pl))
  else if sg_k g t = 8 then ((gr_within b bc pl 0 (nI (sg_p g t) - 1).toInt64).1, 0, 0, (gr_within b bc pl 0 (nI (sg_p g t) - 1).toInt64).2.1, (gr_within b bc pl 0 (nI (sg_p g t) - 1).toInt64).2.2)
  else (0, 0, 0, 0, pl)
def gr_uL (f : Nat → Int64) (i : Nat) (x : Int64) : Nat → Int64 := vp_updL f i x
/-- the tree with one more value -/
def gr_add (w : sr_V) (t : Nat) (x : Int64) (fr d : Nat) : sr_V := (sv_m w + 1, sg_un (sv_t w) (sv_m w) t, vp_updL (sv_n w) (sv_m w) x, sg_un (sv_f w) (sv_m w) fr, sg_un (sv_a w) (sv_m w) (sv_m w + 1), sg_un (sv_d w) (sv_m w) d, sv_b w)
/-- value v ends -/
def gr_end (w : sr_V) (v : Nat) : sr_V := (sv_m w, sv_t w, sv_n w, sv_f w, sg_un (sv_a w) v (sv_m w), sv_d w, sv_b w)
/-- so many more in ARRAY v -/
def gr_more (w : sr_V) (v c : Nat) : sr_V := (sv_m w, sv_t w, vp_updL (sv_n w) v (sv_n w v + lN c), sv_f w, sv_a w, sv_d w, sv_b w)
abbrev gr_C : Type := List gr_F × Int32 × Nat × sr_V × (Nat → Int64)
def gr_value (g : sg_T) (bc t : Nat) (F : List gr_F) (pl : Nat) (w : sr_V) (yr : Nat → Int64) : gr_C :=
  if sv_m w = 400 then (F, -4, pl, w, yr)
  else if sg_k g t = 9 ∧ gr_rc g F = 10 then (F, -5, pl, w, yr)
  else (if sg_k g t < 7 then F else (sv_m w, t, 0, (if sg_k g t = 7 then 0 else if sg_k g t = 8 then 1 else sg_p g t)) :: F,
    (gr_head g (sv_b w) bc t pl).1, (gr_head g (sv_b w) bc t pl).2.2.2.2, gr_add w t (gr_head g (sv_b w) bc t pl).2.1 (gr_head g (sv_b w) bc t pl).2.2.1 (gr_rc g F), vp_updL yr (sv_m w) (gr_head g (sv_b w) bc t pl).2.2.2.1)
/-- the head of a block: trouble, how many, place -/
def gr_block (b : Nat → Int32) (bc pl : Nat) (num : Nat) : Int32 × Nat × Nat :=
  if (gr_long b bc pl).1 = 0 then
    (if (gr_long b bc pl).2.1 < -40 ∨ 40 < (gr_long b bc pl).2.1 ∨ 40 < num + (gr_long b bc pl).2.1.toInt.natAbs then (-4, 0, pl)
    else if (gr_long b bc pl).2.1 < 0 then ((gr_long b bc (gr_long b bc pl).2.2).1, (gr_long b bc pl).2.1.toInt.natAbs, (gr_long b bc (gr_long b bc pl).2.2).2.2)
    else (0, (gr_long b bc pl).2.1.toInt.natAbs, (gr_long b bc pl).2.2))
  else ((gr_long b bc pl).1, 0, pl)
def gr_step (g : sg_T) (bc v t k l : Nat) (F : List gr_F) (pl : Nat) (w : sr_V) (yr : Nat → Int64) : gr_C :=
  match l with
  | 0 =>
    if sg_k g t = 7 then
      (if (gr_block (sv_b w) bc pl k).1 = 0 then
        (if (gr_block (sv_b w) bc pl k).2.1 = 0 then (F, 0, (gr_block (sv_b w) bc pl k).2.2, gr_end w v, yr)
        else ((v, t, k, (gr_block (sv_b w) bc pl k).2.1) :: F, 0, (gr_block (sv_b w) bc pl k).2.2, gr_more w v (gr_block (sv_b w) bc pl k).2.1, yr))
      else ((v, t, k, 0) :: F, (gr_block (sv_b w) bc pl k).1, pl, w, yr))
    else (F, 0, pl, gr_end w v, yr)
  | l + 1 => gr_value g bc (if sg_k g t = 7 then sg_d g t else if sg_k g t = 8 then sg_t g (5 * t + (yr v).toInt32.toNatClampNeg) else sg_t g (5 * t + k)) ((v, t, k + 1, l) :: F) pl w yr
def gr_run (g : sg_T) (bc : Nat) : Nat → gr_C → gr_C
  | 0, c => c
  | n + 1, c =>
    match c with
    | ([], e, pl, w, yr) => ([], e, pl, w, yr)
    | ((v, t, k, l) :: F, e, pl, w, yr) => if e = 0 then gr_run g bc n (gr_step g bc v t k l F pl w yr) else ((v, t, k, l) :: F, e, pl, w, yr)
theorem gr_run_nil {g : sg_T} {bc : Nat} {e : Int32} {pl : Nat} {w : sr_V} {yr : Nat → Int64} : ∀ n, gr_run g bc n ([], e, pl, w, yr) = ([], e, pl, w, yr) := by
  intro n
  cases n <;> rfl
theorem gr_run_tr {g : sg_T} {bc : Nat} {e : Int32} {pl : Nat} {w : sr_V} {yr : Nat → Int64} {F : List gr_F} (h : ¬ e = 0) : ∀ n, gr_run g bc n (F, e, pl, w, yr) = (F, e, pl, w, yr) := by
  intro n
  cases n with
  | zero => rfl
  | succ n =>
    cases F with
    | nil => rfl
    | cons f F =>
      obtain ⟨v, t, k, l⟩ := f
      rw [gr_run, if_neg h]
theorem gr_run_go {g : sg_T} {bc v t k l pl : Nat} {w : sr_V} {yr : Nat → Int64} {F : List gr_F} (n : Nat) : gr_run g bc (n + 1) ((v, t, k, l) :: F, 0, pl, w, yr) = gr_run g bc n (gr_step g bc v t k l F pl w yr) := by
  rw [gr_run, if_pos rfl]
/-! what holds of the tree and the frames while there is no trouble -/
def gr_cp (F : List gr_F) (v : Nat) : Prop := ∀ f, f ∈ F → ¬ f.1 = v
/-- a value's own facts, open or not -/
def gr_own (g : sg_T) (w : sr_V) (bc v : Nat) : Prop :=
  sv_t w v < sg_n g ∧ v < sv_a w v ∧ sv_a w v ≤ sv_m w ∧ sv_d w v ≤ 10 ∧
  (sg_k g (sv_t w v) = 4 → ∃ c : Nat, c ≤ 20 ∧ sv_n w v = lN c ∧ sv_f w v + c ≤ 100) ∧
  (sg_k g (sv_t w v) = 5 → ∃ c : Nat, c < 16 ∧ sv_n w v = lN c) ∧
  (sg_k g (sv_t w v) = 6 → sv_f w v + sg_d g (sv_t w v) ≤ 100) ∧
  (sg_k g (sv_t w v) = 7 → ∃ c : Nat, c ≤ 40 ∧ sv_n w v = lN c) ∧ (sg_k g (sv_t w v) = 0 → sv_n w v = 0)
/-- the i-th child of v is there -/
def gr_kid (g : sg_T) (w : sr_V) (v i : Nat) : Prop :=
  v < sv_ch (sv_a w) v i ∧ sv_ch (sv_a w) v i < sv_m w ∧ sv_d w (sv_ch (sv_a w) v i) = sv_d w v + (if sg_k g (sv_t w v) = 9 then 1 else 0)
def gr_full (g : sg_T) (w : sr_V) (F : List gr_F) (v : Nat) : Prop :=
  sv_ch (sv_a w) v (sv_cnt g w v) ≤ sv_a w v ∧ ∀ i, i < sv_cnt g w v → gr_kid g w v i ∧ gr_cp F (sv_ch (sv_a w) v i)
/-- a frame's own facts; F below it -/
def gr_fr1 (g : sg_T) (w : sr_V) (yr : Nat → Int64) (f : gr_F) (F : List gr_F) : Prop :=
  f.1 < sv_m w ∧ sv_t w f.1 = f.2.1 ∧ f.2.1 < sg_n g ∧ sv_d w f.1 = gr_rc g F ∧ (∀ e, e ∈ F → e.1 < f.1) ∧
  ((sg_k g f.2.1 = 7 ∧ f.2.2.1 + f.2.2.2 ≤ 40 ∧ sv_n w f.1 = lN (f.2.2.1 + f.2.2.2)) ∨ (sg_k g f.2.1 = 8 ∧ f.2.2.1 + f.2.2.2 = 1 ∧ ∃ q, q < sg_p g f.2.1 ∧ yr f.1 = lN q) ∨ (sg_k g f.2.1 = 9 ∧ f.2.2.1 + f.2.2.2 = sg_p g f.2.1))
/-- the frames below one whose value is x; A is all the frames -/
def gr_low (g : sg_T) (w : sr_V) (yr : Nat → Int64) (A : List gr_F) : Nat → List gr_F → Prop
  | _, [] => True
  | x, f :: F => gr_fr1 g w yr f F ∧ 1 ≤ f.2.2.1 ∧ sv_ch (sv_a w) f.1 (f.2.2.1 - 1) = x ∧ f.1 < x ∧ (∀ i, i + 1 < f.2.2.1 → gr_kid g w f.1 i ∧ gr_cp A (sv_ch (sv_a w) f.1 i)) ∧ gr_low g w yr A f.1 F
def gr_top (g : sg_T) (w : sr_V) (yr : Nat → Int64) : List gr_F → Prop
  | [] => True
  | f :: F => gr_fr1 g w yr f F ∧ sv_ch (sv_a w) f.1 f.2.2.1 = sv_m w ∧ (∀ i, i < f.2.2.1 → gr_kid g w f.1 i ∧ gr_cp (f :: F) (sv_ch (sv_a w) f.1 i)) ∧ gr_low g w yr (f :: F) f.1 F
def gr_inv (g : sg_T) (bc : Nat) (F : List gr_F) (pl : Nat) (w : sr_V) (yr : Nat → Int64) : Prop :=
  pl ≤ bc ∧ sv_m w ≤ 400 ∧ F.length ≤ sv_m w ∧ gr_rc g F ≤ 10 ∧ (∀ v, v < sv_m w → gr_own g w bc v) ∧ (∀ v, v < sv_m w → gr_cp F v → gr_full g w F v) ∧ gr_top g w yr F
def gr_ok (g : sg_T) (bc : Nat) (c : gr_C) : Prop := c.2.1 = 0 → gr_inv g bc c.1 c.2.2.1 c.2.2.2.1 c.2.2.2.2
def gr_mu (c : gr_C) : Nat := 3 * (400 - sv_m c.2.2.2.1) + (100 - c.2.2.1) + c.1.length

theorem gr_kid_map {g : sg_T} {w w' : sr_V} {v i : Nat} (hm : sv_m w ≤ sv_m w') (ht : ∀ u, u < sv_m w → sv_t w' u = sv_t w u ∧ sv_d w' u = sv_d w u) (hv : v < sv_m w) (hch : sv_ch (sv_a w') v i = sv_ch (sv_a w) v i) (h : gr_kid g w v i) : gr_kid g w' v i := by
  obtain ⟨h1, h2, h3⟩ := h
  unfold gr_kid
  rw [hch, (ht _ h2).2, (ht v hv).2, (ht v hv).1]
  exact ⟨h1, by omega, h3⟩
theorem gr_full_map {g : sg_T} {w w' : sr_V} {F F' : List gr_F} {v : Nat} (hm : sv_m w ≤ sv_m w') (ht : ∀ u, u < sv_m w → sv_t w' u = sv_t w u ∧ sv_d w' u = sv_d w u) (hn : sv_n w' v = sv_n w v)
    (ha : ∀ u, u < sv_m w → gr_cp F u → sv_a w' u = sv_a w u) (hc : ∀ u, u < sv_m w → gr_cp F u → gr_cp F' u) (hv : v < sv_m w) (hcv : gr_cp F v) (h : gr_full g w F v) : gr_full g w' F' v := by
  have hcnt : sv_cnt g w' v = sv_cnt g w v := by
    unfold sv_cnt
    rw [(ht v hv).1, hn]
  have hch : ∀ i, i ≤ sv_cnt g w v → sv_ch (sv_a w') v i = sv_ch (sv_a w) v i := by
    intro i hi
    refine sv_ch_same (fun j hj => ?_)
    obtain ⟨k1, k2⟩ := h.2 j (by omega)
    exact (ha _ k1.2.1 k2).symm
  refine ⟨?_, fun i hi => ?_⟩
  · rw [hcnt, hch _ (Nat.le_refl _), ha v hv hcv]; exact h.1
  · rw [hcnt] at hi
    obtain ⟨k1, k2⟩ := h.2 i hi
    refine ⟨gr_kid_map hm ht hv (hch i (by omega)) k1, ?_⟩
    rw [hch i (by omega)]
    exact hc _ k1.2.1 k2
theorem gr_fr1_map {g : sg_T} {w w' : sr_V} {yr yr' : Nat → Int64} {f : gr_F} {F : List gr_F} (hm : sv_m w ≤ sv_m w') (ht : ∀ u, u < sv_m w → sv_t w' u = sv_t w u ∧ sv_d w' u = sv_d w u) (hn : sv_n w' f.1 = sv_n w f.1 ∧ yr' f.1 = yr f.1) (h : gr_fr1 g w yr f F) : gr_fr1 g w' yr' f F := by
  obtain ⟨h1, h2, h3, h4, h5, h6⟩ := h
  unfold gr_fr1
  rw [(ht _ h1).1, (ht _ h1).2, hn.1, hn.2]
  exact ⟨by omega, h2, h3, h4, h5, h6⟩
theorem gr_low_map {g : sg_T} {w w' : sr_V} {yr yr' : Nat → Int64} {A A' : List gr_F} (hm : sv_m w ≤ sv_m w') (ht : ∀ u, u < sv_m w → sv_t w' u = sv_t w u ∧ sv_d w' u = sv_d w u)
    (ha : ∀ u, u < sv_m w → gr_cp A u → sv_a w' u = sv_a w u) (hc : ∀ u, u < sv_m w → gr_cp A u → gr_cp A' u) : ∀ {F : List gr_F} {x : Nat}, (∀ f, f ∈ F → sv_n w' f.1 = sv_n w f.1 ∧ yr' f.1 = yr f.1) → gr_low g w yr A x F → gr_low g w' yr' A' x F := by
  intro F
  induction F with
  | nil => intro x _ _; trivial
  | cons f F ih =>
    intro x hn h
    obtain ⟨h1, h2, h3, h4, h5, h6⟩ := h
    have hch : ∀ i, i ≤ f.2.2.1 - 1 → sv_ch (sv_a w') f.1 i = sv_ch (sv_a w) f.1 i := by
      intro i hi
      refine sv_ch_same (fun j hj => ?_)
      obtain ⟨k1, k2⟩ := h5 j (by omega)
      exact (ha _ k1.2.1 k2).symm
    refine ⟨gr_fr1_map hm ht (hn f List.mem_cons_self) h1, h2, by rw [hch _ (Nat.le_refl _)]; exact h3, h4, fun i hi => ?_, ih (fun e he => hn e (List.mem_cons_of_mem _ he)) h6⟩
    obtain ⟨k1, k2⟩ := h5 i hi
    refine ⟨gr_kid_map hm ht h1.1 (hch i (by omega)) k1, ?_⟩
    rw [hch i (by omega)]
    exact hc _ k1.2.1 k2
theorem gr_low_lt {g : sg_T} {w : sr_V} {yr : Nat → Int64} {A : List gr_F} : ∀ {F : List gr_F} {x : Nat}, gr_low g w yr A x F → ∀ f, f ∈ F → f.1 < x ∧ f.1 < sv_m w := by
  intro F
  induction F with
  | nil => intro x _ f hf; cases hf
  | cons f F ih =>
    intro x h e he
    obtain ⟨h1, h2, h3, h4, h5, h6⟩ := h
    rcases List.mem_cons.mp he with rfl | he
    · exact ⟨h4, h1.1⟩
    · obtain ⟨a1, a2⟩ := ih h6 e he
      exact ⟨by omega, a2⟩
