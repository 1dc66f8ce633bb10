/-! a step keeps the items good -/
theorem sr_su_k {g : sg_T} {w r : Nat} (h : sg_su g w r = true) : sg_k g w = sg_k g r ∨ (sg_k g w = 2 ∧ sg_k g r = 3) := by
  have h2 := of_decide_eq_true h
  rcases h2 with h3 | h3
  · exact Or.inl h3.1
  · exact Or.inr h3
theorem sr_good_rec {g : sg_T} {w : sr_V} {v r d : Nat} {rest : List sr_I} (hg : sg_ok g) (hw : sv_ok g w) (hr : r < sg_n g) (hk : sg_k g r = 9)
    (hv : v < 400 → v < sv_m w ∧ sg_k g (sv_t w v) = 9 ∧ sv_d w v = d) (hR : sr_good g w rest d) (hd : d ≤ 10)
    (hb : 6 * (11 - d) + (if v < 400 then sv_a w v - v else 1) + rest.length ≤ 1000) (h0 : (sr_rec g w v r d).2.1 = 0) :
    sr_good g w ((sr_rec g w v r d).2.2.1 ++ rest) (sr_rec g w v r d).2.2.2 := by
  unfold sr_rec at h0 ⊢
  by_cases h : d = 10
  · rw [if_pos h] at h0
    exact absurd (show (-5 : Int32) = 0 from h0) (by decide)
  · rw [if_neg h]
    have h5 := hg.2.2.1 r
    exact sr_good_fs (if v < 400 then sv_a w v - v else 1) (by omega) hR (fun k hp => sr_fi_ok hg hw hr hk hp hv) (sg_p g r) 0 (by omega) (by omega)
theorem sr_good_val {g : sg_T} {w : sr_V} {v r d : Nat} {rest : List sr_I} (hg : sg_ok g) (hw : sv_ok g w) (hr : r < sg_n g) (hv : v < sv_m w) (hdv : sv_d w v = d)
    (hs : sg_su g (sv_t w v) r = true) (hR : sr_good g w rest d) (hd : d ≤ 10)
    (hb : 6 * (11 - d) + (sv_a w v - v) + rest.length ≤ 1000) (h0 : (sr_val g w v r d).2.1 = 0) :
    sr_good g w ((sr_val g w v r d).2.2.1 ++ rest) (sr_val g w v r d).2.2.2 := by
  unfold sr_val at h0 ⊢
  by_cases h4 : sg_k g r = 4
  · rw [if_pos h4]; exact hR
  rw [if_neg h4] at h0 ⊢
  by_cases h5 : sg_k g r = 5
  · rw [if_pos h5] at h0 ⊢
    by_cases e : sg_find g r (sv_n w v).toInt32 = none
    · rw [if_pos e] at h0 ⊢
      by_cases e2 : sg_f g r = -1
      · rw [if_pos e2] at h0 ⊢; exact hR
      · rw [if_neg e2] at h0 ⊢; exact hR
    · rw [if_neg e] at h0 ⊢; exact hR
  rw [if_neg h5] at h0 ⊢
  by_cases h6 : sg_k g r = 6
  · rw [if_pos h6]; exact hR
  rw [if_neg h6] at h0 ⊢
  by_cases h7 : sg_k g r = 7
  · rw [if_pos h7] at h0 ⊢
    have h8 : sg_k g (sv_t w v) = 7 := by
      rcases sr_su_k hs with h | h <;> omega
    have hc := sv_cnt7 h8
    exact sr_good_items hw hv (hg.2.2.2.2.2.1 r hr h7) h8 hd hdv hR hb _ 0 (by rw [hc]; omega)
  rw [if_neg h7] at h0 ⊢
  by_cases h9 : sg_k g r = 9
  · rw [if_pos h9] at h0 ⊢
    have h8 : sg_k g (sv_t w v) = 9 := by
      rcases sr_su_k hs with h | h <;> omega
    have h400 : v < 400 := Nat.lt_of_lt_of_le hv hw.1
    exact sr_good_rec hg hw hr h9 (fun _ => ⟨hv, h8, hdv⟩) hR hd (by rw [if_pos h400]; exact hb) h0
  · rw [if_neg h9]; exact hR
theorem sr_in_ok {g : sg_T} {w : sr_V} {f : Nat} (hw : sv_ok g w) (hf : f < sv_m w) :
    sr_in g w f < sv_m w ∧ sv_d w (sr_in g w f) = sv_d w f ∧ sv_a w (sr_in g w f) - sr_in g w f ≤ sv_a w f - f := by
  unfold sr_in
  by_cases h : sg_k g (sv_t w f) = 8
  · rw [if_pos h]
    have hc : 0 < sv_cnt g w f := by rw [sv_cnt8 h]; omega
    obtain ⟨h1, h2, h3⟩ := (hw.2 f hf).2.2.2.2.1 0 hc
    have h4 := sv_ch_end hw hf hc
    rw [if_neg (by omega)] at h3
    have e : sv_ch (sv_a w) f 0 = f + 1 := rfl
    rw [e] at h1 h2 h3 h4
    exact ⟨h2, h3, by omega⟩
  · rw [if_neg h]
    exact ⟨hf, rfl, Nat.le_refl _⟩
theorem sr_good_turn {g : sg_T} {w : sr_V} {f r d : Nat} {rest : List sr_I} (hg : sg_ok g) (hw : sv_ok g w) (hr : r < sg_n g) (hf : f < sv_m w) (hdv : sv_d w f = d)
    (hR : sr_good g w rest d) (hd : d ≤ 10)
    (hb : 6 * (11 - d) + (sv_a w f - f) + rest.length ≤ 1000) (h0 : (sr_turn g w f r d).2.1 = 0) :
    sr_good g w ((sr_turn g w f r d).2.2.1 ++ rest) (sr_turn g w f r d).2.2.2 := by
  obtain ⟨h1, h2, h3⟩ := sr_in_ok hw hf
  unfold sr_turn at h0 ⊢
  by_cases h8 : sg_k g r = 8
  · rw [if_pos h8] at h0 ⊢
    cases e : sg_br g (sv_t w (sr_in g w f)) r with
    | none => rw [e] at h0; exact absurd (show (-6 : Int32) = 0 from h0) (by decide)
    | some k =>
      rw [e] at h0
      obtain ⟨h4, h5⟩ := sg_br_lt e
      exact sr_good_val hg hw (hg.2.2.2.2.2.2.2.1 r k hr h4 (by omega)) h1 (by omega) h5 hR hd (by omega) h0
  · rw [if_neg h8] at h0 ⊢
    by_cases hs : sg_su g (sv_t w (sr_in g w f)) r = true
    · rw [if_pos hs] at h0 ⊢
      exact sr_good_val hg hw hr h1 (by omega) hs hR hd (by omega) h0
    · rw [if_neg hs] at h0
      exact absurd (show (-6 : Int32) = 0 from h0) (by decide)
theorem sr_good_dfl {g : sg_T} {w : sr_V} {t d : Nat} {x : Int32} {rest : List sr_I} (hg : sg_ok g) (hw : sv_ok g w) (ht : t < sg_n g)
    (hR : sr_good g w rest d) (hd : d ≤ 10)
    (hb : 6 * (11 - d) + 1 + rest.length ≤ 1000) (h0 : (sr_dfl g w t x d).2.1 = 0) :
    sr_good g w ((sr_dfl g w t x d).2.2.1 ++ rest) (sr_dfl g w t x d).2.2.2 := by
  unfold sr_dfl at h0 ⊢
  by_cases h1 : sg_k g t = 1
  · rw [if_pos h1]; exact hR
  rw [if_neg h1] at h0 ⊢
  by_cases h2 : sg_k g t = 2 ∨ sg_k g t = 3
  · rw [if_pos h2]; exact hR
  rw [if_neg h2] at h0 ⊢
  by_cases h4 : sg_k g t = 4
  · rw [if_pos h4]; exact hR
  rw [if_neg h4] at h0 ⊢
  by_cases h5 : sg_k g t = 5
  · rw [if_pos h5] at h0 ⊢
    by_cases e : sg_p g t = 0
    · rw [if_pos e] at h0 ⊢; exact hR
    · rw [if_neg e] at h0 ⊢; exact hR
  rw [if_neg h5] at h0 ⊢
  by_cases h6 : sg_k g t = 6
  · rw [if_pos h6]; exact hR
  rw [if_neg h6] at h0 ⊢
  by_cases h9 : sg_k g t = 9
  · rw [if_pos h9] at h0 ⊢
    exact sr_good_rec hg hw ht h9 (fun z => absurd z (by omega)) hR hd (by rw [if_neg (by omega)]; exact hb) h0
  · rw [if_neg h9]; exact hR
theorem sr_good_dft {g : sg_T} {w : sr_V} {t d : Nat} {x : Int32} {rest : List sr_I} (hg : sg_ok g) (hw : sv_ok g w) (ht : t < sg_n g)
    (hR : sr_good g w rest d) (hd : d ≤ 10)
    (hb : 6 * (11 - d) + 1 + rest.length ≤ 1000) (h0 : (sr_dft g w t x d).2.1 = 0) :
    sr_good g w ((sr_dft g w t x d).2.2.1 ++ rest) (sr_dft g w t x d).2.2.2 := by
  unfold sr_dft at h0 ⊢
  by_cases h8 : sg_k g t = 8
  · rw [if_pos h8] at h0 ⊢
    by_cases e : sg_p g t = 0
    · rw [if_pos e] at h0 ⊢; exact hR
    · rw [if_neg e] at h0 ⊢
      have ht2 := hg.2.2.2.2.2.2.2.1 t 0 ht (by omega) (by omega)
      refine ⟨hd, ⟨fun z => absurd (show (1 : Nat) = 0 from z) (by decide), fun _ => ht2⟩, ?_, ?_⟩
      · show 6 * (11 - d) + 1 + rest.length ≤ 1000
        exact hb
      · exact (if_neg (c := (1 : Nat) = 2) (by omega)).mpr hR
  · rw [if_neg h8] at h0 ⊢
    exact sr_good_dfl hg hw ht hR hd hb h0
theorem sr_good_stp {g : sg_T} {w : sr_V} {i : sr_I} {d : Nat} {rest : List sr_I} (hg : sg_ok g) (hw : sv_ok g w) (hR : sr_good g w (i :: rest) d)
    (h0 : (sr_stp g w i d).2.1 = 0) : sr_good g w ((sr_stp g w i d).2.2.1 ++ rest) (sr_stp g w i d).2.2.2 := by
  obtain ⟨hd, ⟨ho1, ho2⟩, hu, hr⟩ := hR
  unfold sr_use at hu
  unfold sr_stp at h0 ⊢
  by_cases e0 : i.1 = 0
  · rw [if_pos e0] at h0 hu ⊢
    rw [if_neg (by omega)] at hr
    obtain ⟨a1, a2, a3⟩ := ho1 e0
    exact sr_good_turn hg hw a2 a1 a3 hr hd hu h0
  rw [if_neg e0] at h0 hu ⊢
  by_cases e1 : i.1 = 1
  · rw [if_pos e1] at h0 hu ⊢
    rw [if_neg (by omega)] at hr
    exact sr_good_dft hg hw (ho2 e1) hr hd hu h0
  rw [if_neg e1] at h0 hu ⊢
  by_cases e2 : i.1 = 2
  · rw [if_pos e2] at h0 hr ⊢
    exact hr.2
  · rw [if_neg e2] at h0
    exact absurd (show (-6 : Int32) = 0 from h0) (by decide)
theorem sr_good_step {g : sg_T} {w : sr_V} {c c' : List sr_I} {d d' : Nat} {L L' : List Int64} (hg : sg_ok g) (hw : sv_ok g w) (hR : sr_good g w c d)
    (h : sr_step g w c d L c' d' L') : sr_good g w c' d' := by
  obtain ⟨i, rest, rfl, h0, _, rfl, rfl, _⟩ := h
  exact sr_good_stp hg hw hR h0
