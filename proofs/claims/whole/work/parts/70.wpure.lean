/-! writing, as a pure machine: trouble, place, bytes; frames (type, step, left), the top first -/
abbrev gw_S : Type := Int32 × Nat × List Int32
def gw_fail (e : Int32) (s : gw_S) : gw_S := if s.1 = 0 then (e, s.2) else s
def gw_need (nu : Nat → Int64) (nc : Nat) (lo hi : Int64) (s : gw_S) : gw_S :=
  if s.1 = 0 then (if s.2.1 = nc then (-2, s.2) else if nu s.2.1 < lo ∨ hi < nu s.2.1 then (-3, s.2) else (0, s.2.1 + 1, s.2.2)) else s
def gw_put (b : Int32) (s : gw_S) : gw_S := if s.1 = 0 then (if s.2.2.length = 100 then (-7, s.2) else (0, s.2.1, s.2.2 ++ [b])) else s
def gw_puts : List Int32 → gw_S → gw_S
  | [], s => s
  | b :: bs, s => gw_puts bs (gw_put b s)
def gw_bytes (nu : Nat → Int64) (nc : Nat) : Nat → gw_S → gw_S
  | 0, s => s
  | n + 1, s => gw_bytes nu nc n (gw_put (nu s.2.1).toInt32 (gw_need nu nc 0 255 s))
def gw_lb : Nat → Nat → List Int32
  | 0, _ => []
  | f + 1, N => if N / 128 = 0 then [nI (N % 128)] else nI (N % 128 + 128) :: gw_lb f (N / 128)
def gw_u (v : Int64) : Int64 := (v <<< ((1 : Int32).toInt64 &&& 63)) ^^^ (v >>> ((63 : Int32).toInt64 &&& 63))
def gw_long (v : Int64) : List Int32 := gw_lb 10 (gw_u v).toBitVec.toNat
theorem gw_put_tr {b : Int32} {s : gw_S} (h : ¬ s.1 = 0) : gw_put b s = s := if_neg h
theorem gw_puts_tr {s : gw_S} (h : ¬ s.1 = 0) : ∀ bs, gw_puts bs s = s := by
  intro bs
  induction bs with
  | nil => rfl
  | cons b bs ih => rw [gw_puts, gw_put_tr h, ih]
theorem gw_need_tr {nu : Nat → Int64} {nc : Nat} {lo hi : Int64} {s : gw_S} (h : ¬ s.1 = 0) : gw_need nu nc lo hi s = s := if_neg h
theorem gw_bytes_tr {nu : Nat → Int64} {nc : Nat} {s : gw_S} (h : ¬ s.1 = 0) : ∀ n, gw_bytes nu nc n s = s := by
  intro n
  induction n with
  | zero => rfl
  | succ n ih => rw [gw_bytes, gw_need_tr h, gw_put_tr h, ih]
theorem gw_fail_tr {e : Int32} {s : gw_S} (h : ¬ s.1 = 0) : gw_fail e s = s := if_neg h
/-- the bits of a number that is written -/
theorem gw_and128 {a : Nat} (ha : a < 2 ^ 64) : lN a &&& (-128) = 0 ↔ a / 128 = 0 := by
  have e1 : (-128 : Int64) = lN (2 ^ 64 - 2 ^ 7) := by decide
  have e2 : (0 : Int64) = lN 0 := by decide
  have h1 : (a &&& (2 ^ 64 - 2 ^ 7)) / 2 ^ 7 = a / 2 ^ 7 := by
    rw [Nat.and_div_two_pow, show (2 ^ 64 - 2 ^ 7) / 2 ^ 7 = 2 ^ 57 - 1 from (by decide), Nat.and_two_pow_sub_one_eq_mod]
    apply Nat.mod_eq_of_lt
    omega
  have h2 : (a &&& (2 ^ 64 - 2 ^ 7)) % 2 ^ 7 = 0 := by
    rw [Nat.and_mod_two_pow, show (2 ^ 64 - 2 ^ 7) % 2 ^ 7 = 0 from (by decide), Nat.and_zero]
  rw [e1, e2, wb_and ha (by decide)]
  generalize a &&& (2 ^ 64 - 2 ^ 7) = c at h1 h2
  constructor
  · intro h
    have h3 := congrArg (fun x : Int64 => x.toBitVec.toNat) h
    by_cases hc : c < 2 ^ 64
    · rw [wb_tn hc, wb_tn (by decide)] at h3
      subst h3
      omega
    · omega
  · intro h
    have hc : c = 0 := by omega
    rw [hc]
theorem gw_low {N : Nat} (hN : N < 2 ^ 64) : (lN N &&& 127).toInt32 = nI (N % 128) := by
  have e1 : (127 : Int64) = lN (2 ^ 7 - 1) := by decide
  rw [e1, wb_mask hN (by decide), lN_i]
theorem gw_shr {N : Nat} (hN : N < 2 ^ 64) : ((lN N).toUInt64 >>> ((7 : Int32).toInt64.toUInt64 &&& Int64.toUInt64 63)).toInt64 = lN (N / 128) := wb_shr (k := 7) hN (by decide)
theorem gw_0 {N : Nat} (hN : N < 2 ^ 64) : lN (N / 128) = 0 ↔ N / 128 = 0 := pk_lEQ (b := 0) (by omega) (by decide)
theorem gw_of (x : Int64) : x = lN x.toBitVec.toNat ∧ x.toBitVec.toNat < 2 ^ 64 := by
  obtain ⟨n, hn, e⟩ := wb_of x
  refine ⟨?_, x.toBitVec.isLt⟩
  rw [e, wb_tn hn]
/-- the bytes in an array -/
def sw_is (W : List Int32) (a : Nat → Int32) : Prop := ∀ i (h : i < W.length), a i = W[i]
theorem sw_nil (a : Nat → Int32) : sw_is [] a := fun i h => absurd h (Nat.not_lt_zero i)
theorem sw_put {W : List Int32} {a : Nat → Int32} (h : sw_is W a) (x : Int32) : sw_is (W ++ [x]) (upd a W.length x) := by
  intro i hi
  rw [List.length_append, List.length_singleton] at hi
  by_cases e : i = W.length
  · subst e
    rw [pk_us, List.getElem_append_right (Nat.le_refl _)]
    simp
  · rw [pk_un e, List.getElem_append_left (by omega)]
    exact h i (by omega)
/-- the class's and the reference's walk variables against the machine's -/
def gw_R (nc : Nat) (s : gw_S) (tr pl wc : Int32) (wr : Nat → Int32) : Prop :=
  tr = s.1 ∧ (s.1 = 0 → s.2.1 ≤ nc ∧ s.2.2.length ≤ 100 ∧ pl = nI s.2.1 ∧ wc = nI s.2.2.length ∧ sw_is s.2.2 wr) ∧ (∃ p, p ≤ nc ∧ pl = nI p) ∧ (∃ q, q ≤ 100 ∧ wc = nI q)
/-- one value begins -/
abbrev gw_F : Type := Nat × Nat × Nat
def gw_rc (g : sg_T) : List gw_F → Nat
  | [] => 0
  | f :: F => gw_rc g F + (if sg_k g f.1 = 9 then 1 else 0)
abbrev gw_C : Type := List gw_F × Nat × gw_S
def gw_value (g : sg_T) (nu : Nat → Int64) (nc : Nat) (t : Nat) (F : List gw_F) (vc : Nat) (s : gw_S) : gw_C :=
  if vc = 400 then (F, vc, (-4, s.2))
  else if sg_k g t = 9 ∧ gw_rc g F = 10 then (F, vc, (-5, s.2))
  else if sg_k g t = 0 then (F, vc + 1, gw_need nu nc 0 0 s)
  else if sg_k g t = 1 then (F, vc + 1, gw_put (nu s.2.1).toInt32 (gw_need nu nc 0 1 s))
  else if sg_k g t = 2 then (F, vc + 1, gw_puts (gw_long (nu s.2.1)) (gw_need nu nc (-2147483648) 2147483647 s))
  else if sg_k g t = 3 then (F, vc + 1, gw_puts (gw_long (nu s.2.1)) (gw_need nu nc (-9223372036854775808) 9223372036854775807 s))
  else if sg_k g t = 4 then (F, vc + 1, gw_bytes nu nc (nu s.2.1).toInt32.toNatClampNeg (gw_puts (gw_long (nu s.2.1)) (gw_need nu nc 0 20 s)))
  else if sg_k g t = 5 then (F, vc + 1,
    match sg_find g t (nu s.2.1).toInt32 with
    | none => gw_fail (-3) (gw_need nu nc 0 15 s)
    | some q => gw_puts (gw_long (nI q).toInt64) (gw_need nu nc 0 15 s))
  else if sg_k g t = 6 then (F, vc + 1, gw_bytes nu nc (sg_d g t) s)
  else if sg_k g t = 7 then ((t, 0, (nu s.2.1).toInt32.toNatClampNeg) :: F, vc + 1, if nu s.2.1 ≤ 0 then gw_need nu nc 0 40 s else gw_puts (gw_long (nu s.2.1)) (gw_need nu nc 0 40 s))
  else if sg_k g t = 8 then ((t, (nu s.2.1).toInt32.toNatClampNeg, 1) :: F, vc + 1, gw_puts (gw_long (nu s.2.1)) (gw_need nu nc 0 (nI (sg_p g t) - 1).toInt64 s))
  else ((t, 0, sg_p g t) :: F, vc + 1, s)
def gw_step (g : sg_T) (nu : Nat → Int64) (nc : Nat) (t st l : Nat) (F : List gw_F) (vc : Nat) (s : gw_S) : gw_C :=
  match l with
  | 0 => (F, vc, if sg_k g t = 7 then gw_put 0 s else s)
  | l + 1 => if sg_k g t = 7 then gw_value g nu nc (sg_d g t) ((t, st, l) :: F) vc s else gw_value g nu nc (sg_t g (5 * t + st)) ((t, st + 1, l) :: F) vc s
def gw_run (g : sg_T) (nu : Nat → Int64) (nc : Nat) : Nat → gw_C → gw_C
  | 0, c => c
  | n + 1, c =>
    match c with
    | ([], vc, s) => ([], vc, s)
    | ((t, st, l) :: F, vc, s) => if s.1 = 0 then gw_run g nu nc n (gw_step g nu nc t st l F vc s) else ((t, st, l) :: F, vc, s)
theorem gw_run_nil {g : sg_T} {nu : Nat → Int64} {nc vc : Nat} {s : gw_S} : ∀ n, gw_run g nu nc n ([], vc, s) = ([], vc, s) := by
  intro n
  cases n <;> rfl
theorem gw_run_tr {g : sg_T} {nu : Nat → Int64} {nc vc : Nat} {s : gw_S} {F : List gw_F} (h : ¬ s.1 = 0) : ∀ n, gw_run g nu nc n (F, vc, s) = (F, vc, s) := by
  intro n
  cases n with
  | zero => rfl
  | succ n =>
    cases F with
    | nil => rfl
    | cons f F =>
      obtain ⟨t, st, l⟩ := f
      rw [gw_run, if_neg h]
theorem gw_run_go {g : sg_T} {nu : Nat → Int64} {nc vc t st l : Nat} {s : gw_S} {F : List gw_F} (h : s.1 = 0) (n : Nat) : gw_run g nu nc (n + 1) ((t, st, l) :: F, vc, s) = gw_run g nu nc n (gw_step g nu nc t st l F vc s) := by
  rw [gw_run, if_pos h]
/-- what holds of the frames while there is no trouble -/
def gw_one (g : sg_T) (f : gw_F) : Prop :=
  f.1 < sg_n g ∧ f.2.2 ≤ 40 ∧ (sg_k g f.1 = 7 ∨ sg_k g f.1 = 8 ∨ sg_k g f.1 = 9) ∧ (sg_k g f.1 = 8 → f.2.2 ≤ 1 ∧ (f.2.2 = 1 → f.2.1 < sg_p g f.1)) ∧ (sg_k g f.1 = 9 → f.2.1 + f.2.2 = sg_p g f.1)
def gw_ok (g : sg_T) (nc : Nat) (c : gw_C) : Prop :=
  c.2.2.1 = 0 → (∀ f, f ∈ c.1 → gw_one g f) ∧ gw_rc g c.1 ≤ 10 ∧ c.1.length ≤ c.2.1 ∧ c.2.1 ≤ 400
def gw_mu (c : gw_C) : Nat := 2 * (400 - c.2.1) + c.1.length
theorem gw_range {v hi : Int64} {m : Nat} (hm : m < 2 ^ 31) (e : hi = lN m) (h1 : ¬ v < 0) (h2 : ¬ hi < v) : ∃ k, k ≤ m ∧ v = lN k := by
  obtain ⟨k, hk, rfl⟩ := pk_lOf h1
  rw [e, pk_lLT (by omega) hk] at h2
  exact ⟨k, by omega, rfl⟩
theorem gw_need_ok {nu : Nat → Int64} {nc : Nat} {lo hi : Int64} {s : gw_S} (h : (gw_need nu nc lo hi s).1 = 0) : s.1 = 0 ∧ ¬ s.2.1 = nc ∧ ¬ nu s.2.1 < lo ∧ ¬ hi < nu s.2.1 ∧ gw_need nu nc lo hi s = (0, s.2.1 + 1, s.2.2) := by
  unfold gw_need at h ⊢
  by_cases h0 : s.1 = 0
  · rw [if_pos h0] at h ⊢
    by_cases h1 : s.2.1 = nc
    · rw [if_pos h1] at h; exact absurd (show (-2 : Int32) = 0 from h) (by decide)
    · rw [if_neg h1] at h ⊢
      by_cases h2 : nu s.2.1 < lo ∨ hi < nu s.2.1
      · rw [if_pos h2] at h; exact absurd (show (-3 : Int32) = 0 from h) (by decide)
      · rw [if_neg h2]
        exact ⟨h0, h1, fun z => h2 (Or.inl z), fun z => h2 (Or.inr z), rfl⟩
  · rw [if_neg h0] at h
    exact absurd h h0
theorem gw_put_ok {b : Int32} {s : gw_S} (h : (gw_put b s).1 = 0) : s.1 = 0 := by
  by_cases h0 : s.1 = 0
  · exact h0
  · rw [gw_put_tr h0] at h; exact h
theorem gw_puts_ok {bs : List Int32} {s : gw_S} (h : (gw_puts bs s).1 = 0) : s.1 = 0 := by
  by_cases h0 : s.1 = 0
  · exact h0
  · rw [gw_puts_tr h0] at h; exact h
theorem gw_rc_cons {g : sg_T} {f : gw_F} {F : List gw_F} : gw_rc g (f :: F) = gw_rc g F + (if sg_k g f.1 = 9 then 1 else 0) := rfl
theorem gw_value_ok {g : sg_T} {nu : Nat → Int64} {nc t vc : Nat} {F : List gw_F} {s : gw_S} (hg : sg_ok g) (ht : t < sg_n g) (hF : ∀ f, f ∈ F → gw_one g f) (hrc : gw_rc g F ≤ 10) (hlen : F.length ≤ vc) (hvc : vc ≤ 400)
    (h : (gw_value g nu nc t F vc s).2.2.1 = 0) :
    (∀ f, f ∈ (gw_value g nu nc t F vc s).1 → gw_one g f) ∧ gw_rc g (gw_value g nu nc t F vc s).1 ≤ 10 ∧ (gw_value g nu nc t F vc s).1.length ≤ F.length + 1 ∧ (gw_value g nu nc t F vc s).2.1 = vc + 1 ∧ vc < 400 := by
  have p5 := hg.2.2.1 t
  have k9 := hg.2.1 t
  unfold gw_value at h ⊢
  by_cases h4 : vc = 400
  · rw [if_pos h4] at h; exact absurd (show (-4 : Int32) = 0 from h) (by decide)
  rw [if_neg h4] at h ⊢
  by_cases h5 : sg_k g t = 9 ∧ gw_rc g F = 10
  · rw [if_pos h5] at h; exact absurd (show (-5 : Int32) = 0 from h) (by decide)
  rw [if_neg h5] at h ⊢
  have base : (∀ f, f ∈ F → gw_one g f) ∧ gw_rc g F ≤ 10 ∧ F.length ≤ F.length + 1 ∧ vc + 1 = vc + 1 ∧ vc < 400 := ⟨hF, hrc, by omega, rfl, by omega⟩
  have push : ∀ (st l : Nat), gw_one g (t, st, l) → (∀ f, f ∈ (t, st, l) :: F → gw_one g f) ∧ gw_rc g ((t, st, l) :: F) ≤ 10 ∧ ((t, st, l) :: F).length ≤ F.length + 1 ∧ vc + 1 = vc + 1 ∧ vc < 400 := by
    intro st l h1
    refine ⟨fun f hf => ?_, ?_, by rw [List.length_cons]; omega, rfl, by omega⟩
    · rcases List.mem_cons.mp hf with rfl | hf
      · exact h1
      · exact hF f hf
    · rw [gw_rc_cons]
      dsimp only
      split <;> omega
  by_cases k0 : sg_k g t = 0
  · rw [if_pos k0]; exact base
  rw [if_neg k0] at h ⊢
  by_cases k1 : sg_k g t = 1
  · rw [if_pos k1]; exact base
  rw [if_neg k1] at h ⊢
  by_cases k2 : sg_k g t = 2
  · rw [if_pos k2]; exact base
  rw [if_neg k2] at h ⊢
  by_cases k3 : sg_k g t = 3
  · rw [if_pos k3]; exact base
  rw [if_neg k3] at h ⊢
  by_cases k4 : sg_k g t = 4
  · rw [if_pos k4]; exact base
  rw [if_neg k4] at h ⊢
  by_cases k5 : sg_k g t = 5
  · rw [if_pos k5]; exact base
  rw [if_neg k5] at h ⊢
  by_cases k6 : sg_k g t = 6
  · rw [if_pos k6]; exact base
  rw [if_neg k6] at h ⊢
  by_cases k7 : sg_k g t = 7
  · rw [if_pos k7] at h ⊢
    have hn : (gw_need nu nc 0 40 s).1 = 0 := by
      by_cases hv : nu s.2.1 ≤ 0
      · have h2 : (if nu s.2.1 ≤ 0 then gw_need nu nc 0 40 s else gw_puts (gw_long (nu s.2.1)) (gw_need nu nc 0 40 s)).1 = 0 := h
        rw [if_pos hv] at h2; exact h2
      · have h2 : (if nu s.2.1 ≤ 0 then gw_need nu nc 0 40 s else gw_puts (gw_long (nu s.2.1)) (gw_need nu nc 0 40 s)).1 = 0 := h
        rw [if_neg hv] at h2; exact gw_puts_ok h2
    obtain ⟨_, _, n1, n2, _⟩ := gw_need_ok hn
    obtain ⟨k, hk, e⟩ := gw_range (m := 40) (by omega) rfl n1 n2
    have ec : (nu s.2.1).toInt32.toNatClampNeg = k := by rw [e, lN_i, nI_clamp (by omega)]
    rw [ec]
    exact push 0 k ⟨ht, hk, Or.inl k7, fun z => by dsimp only at z; omega, fun z => by dsimp only at z; omega⟩
  rw [if_neg k7] at h ⊢
  by_cases k8 : sg_k g t = 8
  · rw [if_pos k8] at h ⊢
    obtain ⟨_, _, n1, n2, _⟩ := gw_need_ok (gw_puts_ok h)
    by_cases hp0 : sg_p g t = 0
    · exfalso
      rw [hp0] at n2
      have e : (nI 0 - 1).toInt64 = -1 := by decide
      rw [e] at n2
      have h3 : (0 : Int64) ≤ nu s.2.1 := Int64.not_lt.mp n1
      exact n2 (Int64.lt_of_lt_of_le (by decide) h3)
    · rw [li_s1 (by omega), nI_l (by omega)] at n2
      obtain ⟨k, hk, e⟩ := gw_range (m := sg_p g t - 1) (by omega) rfl n1 n2
      have ec : (nu s.2.1).toInt32.toNatClampNeg = k := by rw [e, lN_i, nI_clamp (by omega)]
      rw [ec]
      exact push k 1 ⟨ht, by dsimp only; omega, Or.inr (Or.inl k8), fun _ => ⟨Nat.le_refl _, fun _ => by dsimp only; omega⟩, fun z => by dsimp only at z; omega⟩
  rw [if_neg k8] at h ⊢
  exact push 0 (sg_p g t) ⟨ht, by dsimp only; omega, Or.inr (Or.inr (by dsimp only; omega)), fun z => by dsimp only at z; omega, fun _ => by dsimp only; omega⟩
theorem gw_step_ok {g : sg_T} {nu : Nat → Int64} {nc t st l vc : Nat} {F : List gw_F} {s : gw_S} (hg : sg_ok g) (h : gw_ok g nc ((t, st, l) :: F, vc, s)) (h0 : s.1 = 0) :
    gw_ok g nc (gw_step g nu nc t st l F vc s) ∧ ((gw_step g nu nc t st l F vc s).2.2.1 = 0 → gw_mu (gw_step g nu nc t st l F vc s) + 1 ≤ gw_mu ((t, st, l) :: F, vc, s)) := by
  obtain ⟨hF, hrc, hlen, hvc⟩ := h h0
  dsimp only at hF hrc hlen hvc
  have ho := hF _ List.mem_cons_self
  obtain ⟨o1, o2, o3, o4, o5⟩ := ho
  dsimp only at o1 o2 o3 o4 o5
  have hF2 : ∀ f, f ∈ F → gw_one g f := fun f hf => hF f (List.mem_cons_of_mem _ hf)
  rw [gw_rc_cons] at hrc
  dsimp only at hrc
  rw [List.length_cons] at hlen
  have hm0 : gw_mu ((t, st, l) :: F, vc, s) = 2 * (400 - vc) + (F.length + 1) := by unfold gw_mu; rw [List.length_cons]
  cases l with
  | zero =>
    refine ⟨fun _ => ⟨hF2, by show gw_rc g F ≤ 10; omega, by show F.length ≤ vc; omega, hvc⟩, fun _ => ?_⟩
    rw [hm0]
    show 2 * (400 - vc) + F.length + 1 ≤ _
    omega
  | succ l =>
    have go : ∀ (u st' : Nat), u < sg_n g → gw_one g (t, st', l) → gw_ok g nc (gw_value g nu nc u ((t, st', l) :: F) vc s) ∧ ((gw_value g nu nc u ((t, st', l) :: F) vc s).2.2.1 = 0 → gw_mu (gw_value g nu nc u ((t, st', l) :: F) vc s) + 1 ≤ gw_mu ((t, st, l + 1) :: F, vc, s)) := by
      intro u st' hu h1
      have hv := fun z => gw_value_ok (nu := nu) (nc := nc) (F := (t, st', l) :: F) (vc := vc) (s := s) hg hu (fun f hf => by
        rcases List.mem_cons.mp hf with rfl | hf
        · exact h1
        · exact hF2 f hf) (by rw [gw_rc_cons]; dsimp only; exact hrc) (by rw [List.length_cons]; omega) hvc z
      refine ⟨fun z => ?_, fun z => ?_⟩
      · obtain ⟨a1, a2, a3, a4, a5⟩ := hv z
        rw [List.length_cons] at a3
        exact ⟨a1, a2, by omega, by omega⟩
      · obtain ⟨a1, a2, a3, a4, a5⟩ := hv z
        rw [List.length_cons] at a3
        rw [hm0]
        unfold gw_mu
        omega
    unfold gw_step
    dsimp only
    by_cases k7 : sg_k g t = 7
    · rw [if_pos k7]
      exact go _ st (hg.2.2.2.2.2.1 t o1 k7) ⟨o1, by dsimp only; omega, o3, fun z => by dsimp only at z; omega, fun z => by dsimp only at z; omega⟩
    · rw [if_neg k7]
      have hp : st < sg_p g t := by
        rcases o3 with o3 | o3 | o3
        · omega
        · have := o4 o3; omega
        · have := o5 o3; omega
      exact go _ (st + 1) (hg.2.2.2.2.2.2.2.1 t st o1 hp (by omega)) ⟨o1, by dsimp only; omega, o3, fun z => by have := o4 z; dsimp only; omega, fun z => by have := o5 z; dsimp only; omega⟩
