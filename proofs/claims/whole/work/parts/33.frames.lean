/-! the class's stack of frames (value, type, step, left, start), the top first, against the machine -/
abbrev sx_F : Type := Nat × Nat × Nat × Nat × Nat
def sx_seg (g : sg_T) (w : sr_V) (f : sx_F) : List sr_I :=
  if sg_k g f.2.1 = 7 then sr_items w (sg_d g f.2.1) f.2.2.2.1 f.2.2.1 else sr_fs g w f.1 f.2.1 f.2.2.2.1 f.2.2.1
def sx_td (g : sg_T) (w : sr_V) : List sx_F → List sr_I
  | [] => []
  | f :: F => sx_seg g w f ++ sx_td g w F
def sx_rc (g : sg_T) : List sx_F → Nat
  | [] => 0
  | f :: F => sx_rc g F + (if sg_k g f.2.1 = 9 then 1 else 0)
def sx_op (g : sg_T) (lc : Nat) : List sx_F → Nat
  | [] => 0
  | f :: F => sx_op g lc F + (if sg_k g f.2.1 = 9 ∧ f.2.2.2.2 = lc then 1 else 0)
def sx_sm : List sx_F → Nat
  | [] => 0
  | f :: F => sx_sm F + f.2.2.2.1 + 1
def sx_one (g : sg_T) (w : sr_V) (lc : Nat) (mk : Nat → Int32) (f : sx_F) (F : List sx_F) : Prop :=
  f.2.1 < sg_n g ∧ f.2.2.2.2 ≤ lc ∧ (∀ e, e ∈ F → e.1 < f.1) ∧
  ((sg_k g f.2.1 = 7 ∧ f.1 < sv_m w ∧ sg_k g (sv_t w f.1) = 7 ∧ sv_d w f.1 = sx_rc g F ∧ ∃ i, f.2.2.1 = sv_ch (sv_a w) f.1 i ∧ i + f.2.2.2.1 = sv_cnt g w f.1) ∨
   (sg_k g f.2.1 = 9 ∧ f.2.2.1 + f.2.2.2.1 = sg_p g f.2.1 ∧ mk (20 * f.1 + f.2.1) = 0 ∧
    (f.1 < 400 → f.1 < sv_m w ∧ sg_k g (sv_t w f.1) = 9 ∧ sv_d w f.1 = sx_rc g F) ∧ (¬ f.1 < 400 → f.1 = 400 + sx_rc g F)))
def sx_ok (g : sg_T) (w : sr_V) (lc : Nat) (mk : Nat → Int32) : List sx_F → Prop
  | [] => True
  | f :: F => sx_one g w lc mk f F ∧ sx_ok g w lc mk F
def sx_qi (g : sg_T) (w : sr_V) (lc R : Nat) : List sr_I → List sx_F → Prop
  | _, [] => True
  | pre, f :: F => (sg_k g f.2.1 = 9 → f.2.2.2.2 = lc → sr_qt g w (sr_fs g w f.1 f.2.1 (sg_p g f.2.1) 0) (sx_rc g F + 1) (pre ++ sx_seg g w f) R) ∧ sx_qi g w lc R (pre ++ sx_seg g w f) F
def sx_mk (g : sg_T) (w : sr_V) (mk : Nat → Int32) : Prop :=
  (∀ v t, v < 410 → t < sg_n g → ¬ mk (20 * v + t) = 0 → sr_qt g w (sr_fs g w v t (sg_p g t) 0) ((if v < 400 then sv_d w v else v - 400) + 1) [] (if v < 400 then sv_d w v else v - 400)) ∧
  (∀ i, i < 8200 → mk i = 0 ∨ mk i = 1)
theorem sx_op_le (g : sg_T) (lc : Nat) : ∀ F, sx_op g lc F ≤ sx_rc g F := by
  intro F
  induction F with
  | nil => exact Nat.le_refl _
  | cons f F ih =>
    rw [sx_op, sx_rc]
    by_cases h : sg_k g f.2.1 = 9
    · rw [if_pos h]; split <;> omega
    · rw [if_neg h, if_neg (fun z => h z.1)]; omega
theorem sx_ok_up {g : sg_T} {w : sr_V} {lc lc' : Nat} {mk : Nat → Int32} (hl : lc ≤ lc') : ∀ {F}, sx_ok g w lc mk F → sx_ok g w lc' mk F := by
  intro F
  induction F with
  | nil => intro _; trivial
  | cons f F ih =>
    intro h
    obtain ⟨⟨h1, h2, h3⟩, h4⟩ := h
    exact ⟨⟨h1, by omega, h3⟩, ih h4⟩
theorem sx_ok_mk {g : sg_T} {w : sr_V} {lc v t : Nat} {mk : Nat → Int32} (hg : sg_ok g) (ht : t < sg_n g) : ∀ {F}, (∀ e, e ∈ F → e.1 < v) → sx_ok g w lc mk F → sx_ok g w lc (upd mk (20 * v + t) 1) F := by
  intro F
  induction F with
  | nil => intro _ _; trivial
  | cons f F ih =>
    intro hv h
    obtain ⟨⟨h1, h2, h3, h5⟩, h4⟩ := h
    refine ⟨⟨h1, h2, h3, ?_⟩, ih (fun e he => hv e (List.mem_cons_of_mem _ he)) h4⟩
    rcases h5 with h5 | ⟨a, b, c, d⟩
    · exact Or.inl h5
    · refine Or.inr ⟨a, b, ?_, d⟩
      have h6 := hv f (List.mem_cons_self)
      have h7 := hg.1
      rw [pk_un (by omega)]
      exact c
theorem sx_qi_vac {g : sg_T} {w : sr_V} {lc lc' R : Nat} {mk : Nat → Int32} (hl : lc < lc') : ∀ {F pre}, sx_ok g w lc mk F → sx_qi g w lc' R pre F := by
  intro F
  induction F with
  | nil => intro _ _; trivial
  | cons f F ih =>
    intro pre h
    obtain ⟨⟨h1, h2, h3⟩, h4⟩ := h
    exact ⟨fun _ z => absurd z (by omega), ih h4⟩
theorem sx_qi_mono {g : sg_T} {w : sr_V} {lc R R' : Nat} : ∀ {F : List sx_F} {pre pre' : List sr_I}, (∀ X, sr_qt g w (pre ++ X) R (pre' ++ X) R') → sx_qi g w lc R pre F → sx_qi g w lc R' pre' F := by
  intro F
  induction F with
  | nil => intro _ _ _ _; trivial
  | cons f F ih =>
    intro pre pre' hq h
    refine ⟨fun h1 h2 => sr_qt_trans (h.1 h1 h2) (hq _), ih (pre := pre ++ sx_seg g w f) (fun X => ?_) h.2⟩
    rw [List.append_assoc, List.append_assoc]
    exact hq _
/-- between two steps -/
def sx_inv (g : sg_T) (w : sr_V) (r : Nat) (F : List sx_F) (L : List Int64) (mk : Nat → Int32) : Prop :=
  sx_ok g w L.length mk F ∧ sx_rc g F ≤ 10 ∧ F.length ≤ sx_rc g F + L.length ∧ L.length ≤ 150 ∧ sx_qi g w L.length (sx_rc g F) [] F ∧ sx_mk g w mk ∧
  sr_cert g w [(0, 0, r, 0)] 0 [] (sx_td g w F) (sx_rc g F) L
/-- an item is taken from the top frame, not done yet -/
def sx_mid (g : sg_T) (w : sr_V) (r : Nat) (it : sr_I) (F : List sx_F) (L : List Int64) (mk : Nat → Int32) : Prop :=
  sx_ok g w L.length mk F ∧ sx_rc g F ≤ 10 ∧ F.length ≤ sx_rc g F + L.length ∧ L.length ≤ 150 ∧ sx_qi g w L.length (sx_rc g F) [it] F ∧ sx_mk g w mk ∧
  sr_cert g w [(0, 0, r, 0)] 0 [] (it :: sx_td g w F) (sx_rc g F) L
def sx_mu (g : sg_T) (F : List sx_F) (L : List Int64) (mk : Nat → Int32) : Nat :=
  130 * (150 - L.length) + 8 * (8200 - sd_cn mk 8200) + sx_sm F + 8 * (10 - sx_op g L.length F)
theorem sx_step_of {g : sg_T} {w : sr_V} {it : sr_I} {rest : List sr_I} {d : Nat} {L : List Int64} (h0 : (sr_stp g w it d).2.1 = 0) (hl : L.length + (sr_stp g w it d).1.length ≤ 150) :
    sr_step g w (it :: rest) d L ((sr_stp g w it d).2.2.1 ++ rest) (sr_stp g w it d).2.2.2 (L ++ (sr_stp g w it d).1) := ⟨it, rest, rfl, h0, hl, rfl, rfl, rfl⟩
/-- the invariants behind a step without trouble, the new items still ahead -/
theorem sx_after {g : sg_T} {w : sr_V} {r : Nat} {it : sr_I} {F : List sx_F} {L : List Int64} {mk : Nat → Int32} (h : sx_mid g w r it F L mk)
    {o : List Int64} {new : List sr_I} {d' : Nat} (hs : sr_stp g w it (sx_rc g F) = (o, 0, new, d')) (hl : L.length + o.length ≤ 150) :
    sx_ok g w (L ++ o).length mk F ∧ F.length ≤ sx_rc g F + (L ++ o).length ∧ (L ++ o).length ≤ 150 ∧ sx_qi g w (L ++ o).length d' new F ∧
    sr_cert g w [(0, 0, r, 0)] 0 [] (new ++ sx_td g w F) d' (L ++ o) := by
  obtain ⟨h1, h2, h3, h4, h5, h6, h7⟩ := h
  have e1 : (sr_stp g w it (sx_rc g F)).2.1 = 0 := by rw [hs]
  have e2 : (sr_stp g w it (sx_rc g F)).1 = o := by rw [hs]
  have st : ∀ rest, sr_step g w (it :: rest) (sx_rc g F) L (new ++ rest) d' (L ++ o) := by
    intro rest
    have h8 := sx_step_of (rest := rest) (L := L) e1 (by rw [e2]; exact hl)
    rw [hs] at h8
    exact h8
  have hlen : (L ++ o).length = L.length + o.length := List.length_append
  refine ⟨sx_ok_up (by omega) h1, by omega, by omega, ?_, sr_cert_trans h7 (sr_cert_step (st _))⟩
  by_cases ho : o = []
  · subst ho
    rw [List.append_nil] at st ⊢
    exact sx_qi_mono (pre := [it]) (fun X => sr_qt_step (sr_q_of_step (st X))) h5
  · have hp : 0 < o.length := List.length_pos_iff.mpr ho
    exact sx_qi_vac (lc := L.length) (by omega) h1
/-- no new items -/
theorem sx_done {g : sg_T} {w : sr_V} {r : Nat} {it : sr_I} {F : List sx_F} {L : List Int64} {mk : Nat → Int32} (h : sx_mid g w r it F L mk)
    {o : List Int64} (hs : sr_stp g w it (sx_rc g F) = (o, 0, [], sx_rc g F)) (hl : L.length + o.length ≤ 150) :
    sx_inv g w r F (L ++ o) mk ∧ sx_mu g F (L ++ o) mk ≤ sx_mu g F L mk := by
  obtain ⟨a1, a2, a3, a4, a5⟩ := sx_after h hs hl
  obtain ⟨h1, h2, h3, h4, h5, h6, h7⟩ := h
  refine ⟨⟨a1, h2, a2, a3, a4, h6, a5⟩, ?_⟩
  unfold sx_mu
  have hlen : (L ++ o).length = L.length + o.length := List.length_append
  by_cases ho : o = []
  · subst ho; rw [List.append_nil]; exact Nat.le_refl _
  · have hp : 0 < o.length := List.length_pos_iff.mpr ho
    have h8 := sx_op_le g L.length F
    have h9 := sx_op_le g (L ++ o).length F
    omega
/-- a new frame -/
theorem sx_push {g : sg_T} {w : sr_V} {r : Nat} {it : sr_I} {F : List sx_F} {L : List Int64} {mk : Nat → Int32} (h : sx_mid g w r it F L mk)
    {o : List Int64} {new : List sr_I} {d' : Nat} {f : sx_F} (hs : sr_stp g w it (sx_rc g F) = (o, 0, new, d')) (hl : L.length + o.length ≤ 150)
    (hf : sx_seg g w f = new) (hst : f.2.2.2.2 = (L ++ o).length) (hone : sx_one g w (L ++ o).length mk f F) (hd : d' = sx_rc g (f :: F)) (hd10 : d' ≤ 10)
    (hk : (sg_k g f.2.1 = 9 ∧ f.2.2.2.1 = sg_p g f.2.1 ∧ f.2.2.1 = 0 ∧ sg_p g f.2.1 ≤ 5) ∨ (sg_k g f.2.1 = 7 ∧ f.2.2.2.1 ≤ 40 ∧ ¬ o = [])) :
    sx_inv g w r (f :: F) (L ++ o) mk ∧ sx_mu g (f :: F) (L ++ o) mk ≤ sx_mu g F L mk := by
  obtain ⟨a1, a2, a3, a4, a5⟩ := sx_after h hs hl
  obtain ⟨h1, h2, h3, h4, h5, h6, h7⟩ := h
  have hlen : (L ++ o).length = L.length + o.length := List.length_append
  have h8 := sx_op_le g L.length F
  have h9 := sx_op_le g (L ++ o).length (f :: F)
  have h10 := sx_op_le g (L ++ o).length F
  have hF : (f :: F).length = F.length + 1 := List.length_cons
  have hm : sx_sm (f :: F) = sx_sm F + f.2.2.2.1 + 1 := rfl
  subst hd
  refine ⟨⟨⟨hone, a1⟩, hd10, ?_, a3, ⟨fun k9 _ => ?_, ?_⟩, h6, ?_⟩, ?_⟩
  · rw [sx_rc, hF]
    rcases hk with hk | hk
    · rw [if_pos hk.1]; omega
    · have hp : 0 < o.length := List.length_pos_iff.mpr hk.2.2
      rw [if_neg (by omega)]
      omega
  · rcases hk with hk | hk
    · have e : sr_fs g w f.1 f.2.1 (sg_p g f.2.1) 0 = [] ++ sx_seg g w f := by
        rw [List.nil_append, sx_seg, if_neg (by omega), hk.2.1, hk.2.2.1]
      rw [e, sx_rc, if_pos k9]
      exact sr_qt_refl
    · omega
  · rw [List.nil_append, hf]; exact a4
  · rw [sx_td, hf]; exact a5
  · unfold sx_mu
    rcases hk with hk | hk
    · have e : sx_op g (L ++ o).length (f :: F) = sx_op g (L ++ o).length F + 1 := by
        rw [sx_op, if_pos ⟨hk.1, hst⟩]
      rw [sx_rc, if_pos hk.1] at h9 hd10
      by_cases ho : o = []
      · subst ho
        rw [List.append_nil] at e ⊢
        omega
      · have hp : 0 < o.length := List.length_pos_iff.mpr ho
        omega
    · have hp : 0 < o.length := List.length_pos_iff.mpr hk.2.2
      omega
/-- a RECORD that was seen to add nothing -/
theorem sx_skip {g : sg_T} {w : sr_V} {r : Nat} {it : sr_I} {F : List sx_F} {L : List Int64} {mk : Nat → Int32} (h : sx_mid g w r it F L mk)
    {o : List Int64} {new : List sr_I} {d' : Nat} (hs : sr_stp g w it (sx_rc g F) = (o, 0, new, d')) (hl : L.length + o.length ≤ 150)
    (hq : sr_qt g w new d' [] (sx_rc g F)) :
    sx_inv g w r F (L ++ o) mk ∧ sx_mu g F (L ++ o) mk ≤ sx_mu g F L mk := by
  obtain ⟨a1, a2, a3, a4, a5⟩ := sx_after h hs hl
  obtain ⟨h1, h2, h3, h4, h5, h6, h7⟩ := h
  have hlen : (L ++ o).length = L.length + o.length := List.length_append
  refine ⟨⟨a1, h2, a2, a3, sx_qi_mono (pre := new) (fun X => ?_) a4, h6, sr_cert_trans a5 (sr_qt_cert a3 ?_)⟩, ?_⟩
  · exact sr_qt_frame hq X
  · exact sr_qt_frame hq _
  · unfold sx_mu
    by_cases ho : o = []
    · subst ho; rw [List.append_nil]; exact Nat.le_refl _
    · have hp : 0 < o.length := List.length_pos_iff.mpr ho
      have h8 := sx_op_le g L.length F
      have h9 := sx_op_le g (L ++ o).length F
      omega
