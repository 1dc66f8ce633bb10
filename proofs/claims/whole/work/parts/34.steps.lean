/-! the top frame: an item is taken, or it ends -/
theorem sx_take7 {g : sg_T} {w : sr_V} {r v t s l st : Nat} {F : List sx_F} {L : List Int64} {mk : Nat → Int32} (hw : sv_ok g w) (hk : sg_k g t = 7) (h : sx_inv g w r ((v, t, s, l + 1, st) :: F) L mk) :
    sx_mid g w r (0, s, sg_d g t, 0) ((v, t, sv_a w s, l, st) :: F) L mk ∧ sx_mu g ((v, t, sv_a w s, l, st) :: F) L mk + 1 = sx_mu g ((v, t, s, l + 1, st) :: F) L mk ∧
    s < sv_m w ∧ v < s ∧ sv_d w s = sx_rc g F := by
  obtain ⟨⟨⟨b1, b2, b3, b4⟩, h1⟩, h2, h3, h4, ⟨h5a, h5b⟩, h6, h7⟩ := h
  have e1 : sx_seg g w (v, t, s, l + 1, st) = (0, s, sg_d g t, 0) :: sx_seg g w (v, t, sv_a w s, l, st) := by
    unfold sx_seg
    rw [if_pos (show sg_k g (v, t, s, l + 1, st).2.1 = 7 from hk), if_pos (show sg_k g (v, t, sv_a w s, l, st).2.1 = 7 from hk)]
    rfl
  rcases b4 with ⟨c1, c2, c3, c4, i, c5, c6⟩ | ⟨c1, _⟩
  · dsimp only at c1 c2 c3 c4 c5 c6 b1 b2 b3
    have hi := (hw.2 v c2).2.2.2.2.1 i (by omega)
    rw [if_neg (by omega), ← c5] at hi
    refine ⟨⟨⟨⟨b1, b2, b3, Or.inl ⟨c1, c2, c3, c4, i + 1, ?_, ?_⟩⟩, h1⟩, h2, h3, h4, ⟨fun z => ?_, ?_⟩, h6, ?_⟩, ?_, hi.2.1, hi.1, ?_⟩
    · show sv_a w s = sv_ch (sv_a w) v (i + 1)
      rw [c5]; rfl
    · show i + 1 + l = sv_cnt g w v
      omega
    · exact absurd (show sg_k g t = 9 from z) (by omega)
    · rw [e1] at h5b; exact h5b
    · rw [sx_td, e1] at h7
      rw [sx_td]
      exact h7
    · unfold sx_mu
      have e2 : sx_sm ((v, t, s, l + 1, st) :: F) = sx_sm F + (l + 1) + 1 := rfl
      have e3 : sx_sm ((v, t, sv_a w s, l, st) :: F) = sx_sm F + l + 1 := rfl
      have e4 : sx_op g L.length ((v, t, s, l + 1, st) :: F) = sx_op g L.length ((v, t, sv_a w s, l, st) :: F) := rfl
      omega
    · omega
  · exact absurd (show sg_k g t = 9 from c1) (by omega)
theorem sx_take9 {g : sg_T} {w : sr_V} {r v t s l st : Nat} {F : List sx_F} {L : List Int64} {mk : Nat → Int32} (hk : sg_k g t = 9) (h : sx_inv g w r ((v, t, s, l + 1, st) :: F) L mk) :
    sx_mid g w r (sr_fi g w v t s) ((v, t, s + 1, l, st) :: F) L mk ∧ sx_mu g ((v, t, s + 1, l, st) :: F) L mk + 1 = sx_mu g ((v, t, s, l + 1, st) :: F) L mk ∧
    t < sg_n g ∧ s + l + 1 = sg_p g t ∧ (v < 400 → v < sv_m w ∧ sg_k g (sv_t w v) = 9 ∧ sv_d w v = sx_rc g F) ∧ (¬ v < 400 → v = 400 + sx_rc g F) := by
  obtain ⟨⟨⟨b1, b2, b3, b4⟩, h1⟩, h2, h3, h4, ⟨h5a, h5b⟩, h6, h7⟩ := h
  have e1 : sx_seg g w (v, t, s, l + 1, st) = sr_fi g w v t s :: sx_seg g w (v, t, s + 1, l, st) := by
    unfold sx_seg
    rw [if_neg (show ¬ sg_k g (v, t, s, l + 1, st).2.1 = 7 from (by dsimp only; omega)), if_neg (show ¬ sg_k g (v, t, s + 1, l, st).2.1 = 7 from (by dsimp only; omega))]
    rfl
  rcases b4 with ⟨c1, _⟩ | ⟨c1, c2, c3, c4, c5⟩
  · exact absurd (show sg_k g t = 7 from c1) (by omega)
  · dsimp only at c1 c2 c3 c4 c5 b1 b2 b3
    refine ⟨⟨⟨⟨b1, b2, b3, Or.inr ⟨c1, ?_, c3, c4, c5⟩⟩, h1⟩, h2, h3, h4, ⟨fun z z2 => ?_, ?_⟩, h6, ?_⟩, ?_, b1, by omega, c4, c5⟩
    · show s + 1 + l = sg_p g t
      omega
    · have h8 := h5a z z2
      rw [e1] at h8
      exact h8
    · rw [e1] at h5b; exact h5b
    · rw [sx_td, e1] at h7
      rw [sx_td]
      exact h7
    · unfold sx_mu
      have e2 : sx_sm ((v, t, s, l + 1, st) :: F) = sx_sm F + (l + 1) + 1 := rfl
      have e3 : sx_sm ((v, t, s + 1, l, st) :: F) = sx_sm F + l + 1 := rfl
      have e4 : sx_op g L.length ((v, t, s, l + 1, st) :: F) = sx_op g L.length ((v, t, s + 1, l, st) :: F) := rfl
      omega
theorem sx_end7 {g : sg_T} {w : sr_V} {r v t s st : Nat} {F : List sx_F} {L : List Int64} {mk : Nat → Int32} (hk : sg_k g t = 7) (h : sx_inv g w r ((v, t, s, 0, st) :: F) L mk) :
    sx_inv g w r F L mk ∧ sx_mu g F L mk + 1 ≤ sx_mu g ((v, t, s, 0, st) :: F) L mk ∧ sx_rc g ((v, t, s, 0, st) :: F) = sx_rc g F := by
  obtain ⟨⟨b, h1⟩, h2, h3, h4, ⟨h5a, h5b⟩, h6, h7⟩ := h
  have e0 : sx_rc g ((v, t, s, 0, st) :: F) = sx_rc g F := by
    rw [sx_rc, if_neg (show ¬ sg_k g (v, t, s, 0, st).2.1 = 9 from (by dsimp only; omega))]; rfl
  have e1 : sx_seg g w (v, t, s, 0, st) = [] := by
    unfold sx_seg
    rw [if_pos (show sg_k g (v, t, s, 0, st).2.1 = 7 from hk)]
    rfl
  rw [e0] at h2 h3 h5b h7
  rw [e1] at h5b
  rw [sx_td, e1] at h7
  rw [List.length_cons] at h3
  refine ⟨⟨h1, h2, by omega, h4, h5b, h6, h7⟩, ?_, e0⟩
  unfold sx_mu
  have e2 : sx_sm ((v, t, s, 0, st) :: F) = sx_sm F + 0 + 1 := rfl
  have e4 : sx_op g L.length ((v, t, s, 0, st) :: F) = sx_op g L.length F := by
    rw [sx_op, if_neg (show ¬ (sg_k g (v, t, s, 0, st).2.1 = 9 ∧ _) from (fun z => absurd (show sg_k g t = 9 from z.1) (by omega)))]; rfl
  omega
theorem sx_end9 {g : sg_T} {w : sr_V} {r v t s st : Nat} {F : List sx_F} {L : List Int64} {mk : Nat → Int32} (hg : sg_ok g) (hk : sg_k g t = 9) (h : sx_inv g w r ((v, t, s, 0, st) :: F) L mk) :
    t < sg_n g ∧ v < 410 ∧ sx_rc g ((v, t, s, 0, st) :: F) = sx_rc g F + 1 ∧
    (st = L.length → sx_inv g w r F L (upd mk (20 * v + t) 1) ∧ sx_mu g F L (upd mk (20 * v + t) 1) + 1 ≤ sx_mu g ((v, t, s, 0, st) :: F) L mk) ∧
    (¬ st = L.length → sx_inv g w r F L mk ∧ sx_mu g F L mk + 1 ≤ sx_mu g ((v, t, s, 0, st) :: F) L mk) := by
  obtain ⟨⟨⟨b1, b2, b3, b4⟩, h1⟩, h2, h3, h4, ⟨h5a, h5b⟩, h6, h7⟩ := h
  have e0 : sx_rc g ((v, t, s, 0, st) :: F) = sx_rc g F + 1 := by
    rw [sx_rc, if_pos (show sg_k g (v, t, s, 0, st).2.1 = 9 from hk)]
  have e1 : sx_seg g w (v, t, s, 0, st) = [(2, 0, 0, 0)] := by
    unfold sx_seg
    rw [if_neg (show ¬ sg_k g (v, t, s, 0, st).2.1 = 7 from (by dsimp only; omega))]
    rfl
  have hq : ∀ X, sr_q g w ([(2, 0, 0, 0)] ++ X) (sx_rc g F + 1) ([] ++ X) (sx_rc g F) := by
    intro X
    exact ⟨(2, 0, 0, 0), X, rfl, rfl, rfl, rfl, rfl⟩
  rw [e0] at h2 h3 h5a h5b h7
  rw [e1] at h5a h5b
  rw [sx_td, e1] at h7
  rw [List.length_cons] at h3
  have hqi : sx_qi g w L.length (sx_rc g F) [] F := sx_qi_mono (pre := [] ++ [(2, 0, 0, 0)]) (fun X => sr_qt_step (hq X)) h5b
  have hce : sr_cert g w [(0, 0, r, 0)] 0 [] (sx_td g w F) (sx_rc g F) L := sr_cert_trans h7 (sr_qt_cert h4 (sr_qt_step (hq (sx_td g w F))))
  dsimp only at b1 b2 b3
  rcases b4 with ⟨c1, _⟩ | ⟨c1, c2, c3, c4, c5⟩
  · exact absurd (show sg_k g t = 7 from c1) (by omega)
  dsimp only at c1 c2 c3 c4 c5
  have hv : v < 410 := by
    by_cases h400 : v < 400
    · omega
    · have := c5 h400; omega
  have e2 : sx_sm ((v, t, s, 0, st) :: F) = sx_sm F + 0 + 1 := rfl
  have ho := sx_op_le g L.length F
  refine ⟨b1, hv, e0, fun hst => ?_, fun hst => ?_⟩
  · have hn := hg.1
    have hi : 20 * v + t < 8200 := by omega
    have ecn := sd_cn_up (f := mk) (x := 1) (by decide) hi c3
    have e4 : sx_op g L.length ((v, t, s, 0, st) :: F) = sx_op g L.length F + 1 := by
      rw [sx_op, if_pos (show sg_k g (v, t, s, 0, st).2.1 = 9 ∧ (v, t, s, 0, st).2.2.2.2 = L.length from ⟨hk, hst⟩)]
    refine ⟨⟨sx_ok_mk hg b1 b3 h1, by omega, by omega, h4, hqi, ⟨fun v' t' hv' ht' hm => ?_, fun i hi' => ?_⟩, hce⟩, ?_⟩
    · by_cases e : 20 * v' + t' = 20 * v + t
      · have e3 : v' = v := by omega
        have e5 : t' = t := by omega
        subst e3 e5
        have h8 := sr_qt_trans (h5a hk hst) (sr_qt_step (hq []))
        have e6 : (if v' < 400 then sv_d w v' else v' - 400) = sx_rc g F := by
          by_cases h400 : v' < 400
          · rw [if_pos h400]; exact (c4 h400).2.2
          · rw [if_neg h400]; have := c5 h400; omega
        rw [e6]
        exact h8
      · rw [pk_un e] at hm
        exact h6.1 v' t' hv' ht' hm
    · by_cases e : i = 20 * v + t
      · subst e; rw [pk_us]; exact Or.inr rfl
      · rw [pk_un e]; exact h6.2 i hi'
    · unfold sx_mu
      have h9 := sd_cn_le (upd mk (20 * v + t) 1) 8200
      omega
  · have e4 : sx_op g L.length ((v, t, s, 0, st) :: F) = sx_op g L.length F := by
      rw [sx_op, if_neg (show ¬ (sg_k g (v, t, s, 0, st).2.1 = 9 ∧ (v, t, s, 0, st).2.2.2.2 = L.length) from (fun z => hst z.2))]; rfl
    refine ⟨⟨h1, by omega, by omega, h4, hqi, h6, hce⟩, ?_⟩
    unfold sx_mu
    omega
