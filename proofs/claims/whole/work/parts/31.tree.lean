/-! what is known of the tree that was read, and of the items to do -/
def sv_cnt (g : sg_T) (w : sr_V) (v : Nat) : Nat :=
  if sg_k g (sv_t w v) = 8 then 1 else if sg_k g (sv_t w v) = 9 then sg_p g (sv_t w v) else if sg_k g (sv_t w v) = 7 then (sv_n w v).toInt32.toNatClampNeg else 0
def sv_one (g : sg_T) (w : sr_V) (v : Nat) : Prop :=
  sv_t w v < sg_n g ∧ v < sv_a w v ∧ sv_d w v ≤ 10 ∧ sv_ch (sv_a w) v (sv_cnt g w v) ≤ sv_a w v ∧
  (∀ i, i < sv_cnt g w v → v < sv_ch (sv_a w) v i ∧ sv_ch (sv_a w) v i < sv_m w ∧ sv_d w (sv_ch (sv_a w) v i) = sv_d w v + (if sg_k g (sv_t w v) = 9 then 1 else 0)) ∧
  (sg_k g (sv_t w v) = 4 → ∃ c : Nat, c ≤ 20 ∧ sv_n w v = lN c ∧ sv_f w v + c ≤ 100) ∧
  (sg_k g (sv_t w v) = 5 → ∃ c : Nat, c < 16 ∧ sv_n w v = lN c) ∧
  (sg_k g (sv_t w v) = 6 → sv_f w v + sg_d g (sv_t w v) ≤ 100) ∧
  (sg_k g (sv_t w v) = 7 → ∃ c : Nat, c ≤ 40 ∧ sv_n w v = lN c) ∧ (sg_k g (sv_t w v) = 0 → sv_n w v = 0)
def sv_ok (g : sg_T) (w : sr_V) : Prop := sv_m w ≤ 400 ∧ (∀ v, v < sv_m w → sv_one g w v)
/-- the tree is whole, and the afters stay within -/
def sv_full (g : sg_T) (w : sr_V) : Prop := sv_ok g w ∧ ∀ v, v < sv_m w → sv_a w v ≤ sv_m w

def sr_use (w : sr_V) (i : sr_I) (d : Nat) : Nat :=
  if i.1 = 0 then 6 * (11 - d) + (sv_a w i.2.1 - i.2.1) else if i.1 = 1 then 6 * (11 - d) + 1 else 1
def sr_iok (g : sg_T) (w : sr_V) (i : sr_I) (d : Nat) : Prop :=
  (i.1 = 0 → i.2.1 < sv_m w ∧ i.2.2.1 < sg_n g ∧ sv_d w i.2.1 = d) ∧ (i.1 = 1 → i.2.2.1 < sg_n g)
def sr_good (g : sg_T) (w : sr_V) : List sr_I → Nat → Prop
  | [], _ => True
  | i :: rest, d => d ≤ 10 ∧ sr_iok g w i d ∧ sr_use w i d + rest.length ≤ 1000 ∧ (if i.1 = 2 then 1 ≤ d ∧ sr_good g w rest (d - 1) else sr_good g w rest d)

theorem sr_good_fs {g : sg_T} {w : sr_V} {v r d : Nat} {rest : List sr_I} (S : Nat) (hd : d < 10) (hg : sr_good g w rest d)
    (hi : ∀ k, k < sg_p g r → sr_iok g w (sr_fi g w v r k) (d + 1) ∧ sr_use w (sr_fi g w v r k) (d + 1) ≤ 6 * (10 - d) + S ∧ ¬ (sr_fi g w v r k).1 = 2) :
    ∀ l k, k + l = sg_p g r → 6 * (10 - d) + S + l + rest.length ≤ 1000 → sr_good g w (sr_fs g w v r l k ++ rest) (d + 1) := by
  intro l
  induction l with
  | zero =>
    intro k _ hb
    refine ⟨by omega, ⟨fun z => absurd z (by decide), fun z => absurd z (by decide)⟩, ?_, ?_⟩
    · show (1 : Nat) + rest.length ≤ 1000
      omega
    · exact (if_pos (c := (2 : Nat) = 2) rfl).mpr ⟨by omega, hg⟩
  | succ l ih =>
    intro k hk hb
    obtain ⟨h1, h2, h3⟩ := hi k (by omega)
    refine ⟨by omega, h1, ?_, ?_⟩
    · show sr_use w (sr_fi g w v r k) (d + 1) + (sr_fs g w v r l (k + 1) ++ rest).length ≤ 1000
      rw [List.length_append, sr_fs_len]
      omega
    · exact (if_neg h3).mpr (ih (k + 1) (by omega) (by omega))
theorem sr_fi_tag (g : sg_T) (w : sr_V) (v r k : Nat) : ¬ (sr_fi g w v r k).1 = 2 := by
  unfold sr_fi sr_dfi
  by_cases h : v < 400
  · rw [if_pos h]
    cases sg_ff g (sv_t w v) (5 * r + k) with
    | some q => exact fun z => absurd z (by first | decide | (intro q; cases q))
    | none =>
      by_cases h2 : sg_h g (5 * r + k) = 0
      · simp only [h2, if_true]; exact fun z => absurd z (by first | decide | (intro q; cases q))
      · simp only [h2, if_false]; exact fun z => absurd z (by first | decide | (intro q; cases q))
  · rw [if_neg h]
    by_cases h2 : sg_h g (5 * r + k) = 0
    · rw [if_pos h2]; exact fun z => absurd z (by first | decide | (intro q; cases q))
    · rw [if_neg h2]; exact fun z => absurd z (by first | decide | (intro q; cases q))
theorem sr_dfi_ok {g : sg_T} {w : sr_V} {r k d : Nat} (hg : sg_ok g) (hr : r < sg_n g) (hk : sg_k g r = 9) (hp : k < sg_p g r) :
    sr_iok g w (sr_dfi g (5 * r + k)) d ∧ sr_use w (sr_dfi g (5 * r + k)) d ≤ 6 * (11 - d) + 1 := by
  unfold sr_dfi
  by_cases h2 : sg_h g (5 * r + k) = 0
  · rw [if_pos h2]
    refine ⟨⟨fun z => absurd z (by decide), fun z => absurd z (by decide)⟩, ?_⟩
    show (1 : Nat) ≤ _
    omega
  · rw [if_neg h2]
    refine ⟨⟨fun z => absurd (show (1 : Nat) = 0 from z) (by decide), fun _ => hg.2.2.2.2.2.2.2.1 r k hr hp (by omega)⟩, ?_⟩
    show 6 * (11 - d) + 1 ≤ _
    omega
theorem sv_cnt9 {g : sg_T} {w : sr_V} {v : Nat} (h : sg_k g (sv_t w v) = 9) : sv_cnt g w v = sg_p g (sv_t w v) := by
  unfold sv_cnt
  rw [if_neg (by omega), if_pos h]
theorem sv_cnt8 {g : sg_T} {w : sr_V} {v : Nat} (h : sg_k g (sv_t w v) = 8) : sv_cnt g w v = 1 := by
  unfold sv_cnt
  rw [if_pos h]
theorem sv_cnt7 {g : sg_T} {w : sr_V} {v : Nat} (h : sg_k g (sv_t w v) = 7) : sv_cnt g w v = (sv_n w v).toInt32.toNatClampNeg := by
  unfold sv_cnt
  rw [if_neg (by omega), if_neg (by omega), if_pos h]
/-- children behind one another -/
theorem sv_ch_up {g : sg_T} {w : sr_V} {v : Nat} (hw : sv_ok g w) (hv : v < sv_m w) : ∀ e i, i + e ≤ sv_cnt g w v → sv_ch (sv_a w) v i + e ≤ sv_ch (sv_a w) v (i + e) := by
  intro e
  induction e with
  | zero => intro i _; exact Nat.le_refl _
  | succ e ih =>
    intro i h
    have h1 := ih i (by omega)
    have h2 := ((hw.2 v hv).2.2.2.2.1 (i + e) (by omega)).2.1
    have h3 := (hw.2 _ h2).2.1
    have h4 : sv_ch (sv_a w) v (i + (e + 1)) = sv_a w (sv_ch (sv_a w) v (i + e)) := rfl
    omega
theorem sv_ch_end {g : sg_T} {w : sr_V} {v i : Nat} (hw : sv_ok g w) (hv : v < sv_m w) (hi : i < sv_cnt g w v) : sv_a w (sv_ch (sv_a w) v i) + (sv_cnt g w v - i - 1) ≤ sv_a w v := by
  have h1 := sv_ch_up hw hv (sv_cnt g w v - i - 1) (i + 1) (by omega)
  have h2 := (hw.2 v hv).2.2.2.1
  have h3 : i + 1 + (sv_cnt g w v - i - 1) = sv_cnt g w v := by omega
  rw [h3] at h1
  have h4 : sv_ch (sv_a w) v (i + 1) = sv_a w (sv_ch (sv_a w) v i) := rfl
  omega
theorem sr_good_items {g : sg_T} {w : sr_V} {v t d : Nat} {rest : List sr_I} (hw : sv_ok g w) (hv : v < sv_m w) (ht : t < sg_n g) (h7 : sg_k g (sv_t w v) = 7) (hd : d ≤ 10) (hdv : sv_d w v = d)
    (hg : sr_good g w rest d) (hb : 6 * (11 - d) + (sv_a w v - v) + rest.length ≤ 1000) :
    ∀ k i, i + k = sv_cnt g w v → sr_good g w (sr_items w t k (sv_ch (sv_a w) v i) ++ rest) d := by
  intro k
  induction k with
  | zero => intro i _; exact hg
  | succ k ih =>
    intro i hi
    obtain ⟨h1, h2, h3⟩ := (hw.2 v hv).2.2.2.2.1 i (by omega)
    rw [if_neg (by omega)] at h3
    refine ⟨hd, ⟨fun _ => ⟨h2, ht, by show sv_d w (sv_ch (sv_a w) v i) = d; omega⟩, fun z => absurd (show (0 : Nat) = 1 from z) (by decide)⟩, ?_, ?_⟩
    · show 6 * (11 - d) + (sv_a w (sv_ch (sv_a w) v i) - sv_ch (sv_a w) v i) + (sr_items w t k (sv_ch (sv_a w) v (i + 1)) ++ rest).length ≤ 1000
      rw [List.length_append, sr_items_len]
      have h4 := sv_ch_end hw hv (i := i) (by omega)
      have h5 := (hw.2 _ h2).2.1
      omega
    · exact (if_neg (c := (0 : Nat) = 2) (by omega)).mpr (ih (i + 1) (by omega))
theorem sr_fi_ok {g : sg_T} {w : sr_V} {v r k d : Nat} (hg : sg_ok g) (hw : sv_ok g w) (hr : r < sg_n g) (hk : sg_k g r = 9) (hp : k < sg_p g r)
    (hv : v < 400 → v < sv_m w ∧ sg_k g (sv_t w v) = 9 ∧ sv_d w v = d) :
    sr_iok g w (sr_fi g w v r k) (d + 1) ∧ sr_use w (sr_fi g w v r k) (d + 1) ≤ 6 * (10 - d) + (if v < 400 then sv_a w v - v else 1) ∧ ¬ (sr_fi g w v r k).1 = 2 := by
  refine ⟨?_, ?_, sr_fi_tag g w v r k⟩
  · unfold sr_fi
    by_cases h : v < 400
    · rw [if_pos h]
      obtain ⟨h1, h2, h3⟩ := hv h
      cases e : sg_ff g (sv_t w v) (5 * r + k) with
      | none => exact (sr_dfi_ok hg hr hk hp).1
      | some q =>
        have h4 := sg_ff_lt e
        obtain ⟨h5, h6, h7⟩ := (hw.2 v h1).2.2.2.2.1 q (by rw [sv_cnt9 h2]; exact h4)
        rw [if_pos h2] at h7
        exact ⟨fun _ => ⟨h6, hg.2.2.2.2.2.2.2.1 r k hr hp (by omega), by show sv_d w (sv_ch (sv_a w) v q) = d + 1; omega⟩, fun z => absurd (show (0 : Nat) = 1 from z) (by decide)⟩
    · rw [if_neg h]
      exact (sr_dfi_ok hg hr hk hp).1
  · have hdf := (sr_dfi_ok (w := w) (d := d + 1) hg hr hk hp).2
    unfold sr_fi
    by_cases h : v < 400
    · rw [if_pos h, if_pos h]
      obtain ⟨h1, h2, h3⟩ := hv h
      have ha := (hw.2 v h1).2.1
      cases e : sg_ff g (sv_t w v) (5 * r + k) with
      | none =>
        show sr_use w (sr_dfi g (5 * r + k)) (d + 1) ≤ _
        omega
      | some q =>
        have h4 := sg_ff_lt e
        have hq : q < sv_cnt g w v := by rw [sv_cnt9 h2]; exact h4
        obtain ⟨h5, h6, h7⟩ := (hw.2 v h1).2.2.2.2.1 q hq
        have h8 := sv_ch_end hw h1 hq
        show 6 * (11 - (d + 1)) + (sv_a w (sv_ch (sv_a w) v q) - sv_ch (sv_a w) v q) ≤ _
        omega
    · rw [if_neg h, if_neg h]
      omega
