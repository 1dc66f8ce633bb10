/-! reading as a whole -/
def gr_w0 (b : Nat → Int32) : sr_V := (0, fun _ => 0, fun _ => 0, fun _ => 0, fun _ => 0, fun _ => 0, b)
def gr_c0 (g : sg_T) (b : Nat → Int32) (bc t : Nat) : gr_C := gr_value g bc t [] 0 (gr_w0 b) (fun _ => 0)
def gr_all (g : sg_T) (b : Nat → Int32) (bc t : Nat) : gr_C := gr_run g bc 1400 (gr_c0 g b bc t)
theorem gr_pre0 {g : sg_T} {b : Nat → Int32} {bc : Nat} : gr_pre g bc [] (gr_w0 b) (fun _ => 0) :=
  ⟨Nat.zero_le _, Nat.le_refl _, Nat.zero_le _, fun v hv => absurd hv (Nat.not_lt_zero v), fun v hv => absurd hv (Nat.not_lt_zero v), fun _ => rfl, trivial⟩
theorem gr_c0_ok {g : sg_T} {b : Nat → Int32} {bc t : Nat} (hg : sg_ok g) (hb : bc ≤ 100) (ht : t < sg_n g) : gr_ok g bc (gr_c0 g b bc t) ∧ ((gr_c0 g b bc t).2.1 = 0 → gr_mu (gr_c0 g b bc t) ≤ 1400) := by
  have hv := fun z => gr_value_inv (F := []) (w := gr_w0 b) (yr := fun _ => 0) (pl := 0) hg hb ht (Nat.zero_le _) gr_pre0 z
  refine ⟨fun z => (hv z).1, fun z => ?_⟩
  obtain ⟨_, a1, a2, a3, a4⟩ := hv z
  rw [List.length_nil] at a4
  unfold gr_mu
  show 3 * (400 - sv_m (gr_value g bc t [] 0 (gr_w0 b) (fun _ => 0)).2.2.2.1) + (100 - (gr_value g bc t [] 0 (gr_w0 b) (fun _ => 0)).2.2.1) + (gr_value g bc t [] 0 (gr_w0 b) (fun _ => 0)).1.length ≤ 1400
  omega
/-- the first value is there, at depth 0 -/
def gr_Z (w : sr_V) : Prop := 1 ≤ sv_m w ∧ sv_d w 0 = 0
theorem gr_Z_value {g : sg_T} {bc t pl : Nat} {F : List gr_F} {w : sr_V} {yr : Nat → Int64} (h : gr_Z w) : gr_Z (gr_value g bc t F pl w yr).2.2.2.1 := by
  unfold gr_value
  split
  · exact h
  · split
    · exact h
    · refine ⟨Nat.le_succ_of_le h.1, ?_⟩
      show sg_un (sv_d w) (sv_m w) (gr_rc g F) 0 = 0
      rw [sg_un_n (by have := h.1; omega)]
      exact h.2
theorem gr_Z_step {g : sg_T} {bc v t k l pl : Nat} {F : List gr_F} {w : sr_V} {yr : Nat → Int64} (h : gr_Z w) : gr_Z (gr_step g bc v t k l F pl w yr).2.2.2.1 := by
  cases l with
  | zero =>
    unfold gr_step
    dsimp only
    split
    · split
      · split
        · exact h
        · exact h
      · exact h
    · exact h
  | succ l => exact gr_Z_value h
theorem gr_Z_run {g : sg_T} {bc : Nat} : ∀ (N : Nat) (c : gr_C), gr_Z c.2.2.2.1 → gr_Z (gr_run g bc N c).2.2.2.1 := by
  intro N
  induction N with
  | zero => intro c h; exact h
  | succ N ih =>
    intro c h
    obtain ⟨F, e, pl, w, yr⟩ := c
    cases F with
    | nil => rw [gr_run_nil]; exact h
    | cons f F =>
      by_cases h0 : e = 0
      · subst h0
        obtain ⟨v, t, k, l⟩ := f
        rw [gr_run_go]
        exact ih _ (gr_Z_step h)
      · rw [gr_run_tr h0]; exact h
theorem gr_b_run {g : sg_T} {bc : Nat} : ∀ (N : Nat) (c : gr_C), sv_b (gr_run g bc N c).2.2.2.1 = sv_b c.2.2.2.1 := by
  intro N
  induction N with
  | zero => intro c; rfl
  | succ N ih =>
    intro c
    obtain ⟨F, e, pl, w, yr⟩ := c
    cases F with
    | nil => rw [gr_run_nil]
    | cons f F =>
      by_cases h0 : e = 0
      · subst h0
        obtain ⟨v, t, k, l⟩ := f
        rw [gr_run_go, ih]
        exact gr_step_b
      · rw [gr_run_tr h0]
theorem gr_Z_0 {g : sg_T} {b : Nat → Int32} {bc t : Nat} (h : (gr_c0 g b bc t).2.1 = 0) : gr_Z (gr_c0 g b bc t).2.2.2.1 := by
  unfold gr_c0 gr_value at h ⊢
  rw [if_neg (show ¬ sv_m (gr_w0 b) = 400 from (by show ¬ (0 : Nat) = 400; decide))] at h ⊢
  by_cases a2 : sg_k g t = 9 ∧ gr_rc g [] = 10
  · rw [if_pos a2] at h; exact absurd (show (-5 : Int32) = 0 from h) (by decide)
  rw [if_neg a2]
  exact ⟨Nat.le_refl 1, rfl⟩
/-- no trouble: the tree is whole -/
theorem gr_all_ok {g : sg_T} {b : Nat → Int32} {bc t : Nat} (hg : sg_ok g) (hb : bc ≤ 100) (ht : t < sg_n g) (h : (gr_all g b bc t).2.1 = 0) :
    (gr_all g b bc t).1 = [] ∧ sv_ok g (gr_all g b bc t).2.2.2.1 ∧ 0 < sv_m (gr_all g b bc t).2.2.2.1 ∧ sv_d (gr_all g b bc t).2.2.2.1 0 = 0 ∧ sv_a (gr_all g b bc t).2.2.2.1 0 ≤ 400 ∧ (gr_all g b bc t).2.2.1 ≤ bc ∧ sv_b (gr_all g b bc t).2.2.2.1 = b := by
  obtain ⟨k1, k2⟩ := gr_c0_ok (b := b) hg hb ht
  obtain ⟨r1, r2⟩ := gr_run_ok hg hb 1400 _ k1 k2
  have hF := r2 h
  have hinv := r1 h
  have h0 : (gr_c0 g b bc t).2.1 = 0 := by
    apply Decidable.byContradiction
    intro hz
    have e : gr_all g b bc t = gr_c0 g b bc t := gr_run_tr hz 1400
    rw [e] at h
    exact hz h
  have hZ : gr_Z (gr_all g b bc t).2.2.2.1 := gr_Z_run 1400 _ (gr_Z_0 h0)
  have hF2 : (gr_all g b bc t).1 = [] := hF
  have hinv2 : gr_inv g bc [] (gr_all g b bc t).2.2.1 (gr_all g b bc t).2.2.2.1 (gr_all g b bc t).2.2.2.2 := by
    have h3 : gr_inv g bc (gr_all g b bc t).1 (gr_all g b bc t).2.2.1 (gr_all g b bc t).2.2.2.1 (gr_all g b bc t).2.2.2.2 := hinv
    rw [hF2] at h3
    exact h3
  obtain ⟨p1, p2, p3, p4, p5, p6, p7⟩ := hinv2
  refine ⟨hF2, ⟨p2, fun v hv => ?_⟩, hZ.1, hZ.2, ?_, p1, ?_⟩
  · obtain ⟨o1, o2, o3, o4, o5, o6, o7, o8, o9⟩ := p5 v hv
    obtain ⟨f1, f2⟩ := p6 v hv (fun f hf => by cases hf)
    exact ⟨o1, o2, o4, f1, fun i hi => (f2 i hi).1, o5, o6, o7, o8, o9⟩
  · exact Nat.le_trans (p5 0 hZ.1).2.2.1 p2
  · have e : sv_b (gr_all g b bc t).2.2.2.1 = sv_b (gr_c0 g b bc t).2.2.2.1 := gr_b_run 1400 _
    rw [e]
    exact gr_value_b
theorem ry_sy {g : sg_T} {w : sr_V} {yr : Nat → Int64} {vt st ch nx : Nat → Int32} {vn : Nat → Int64} (h : ry_tree g [] w yr vt st ch nx vn) : sy_tree g w vt st ch nx vn := by
  intro v hv
  obtain ⟨h1, h2, h3, h4, h5, h6⟩ := h v hv
  obtain ⟨z1, z2⟩ := h6 (fun f hf => by cases hf)
  refine ⟨h1, h2, z1, z2, h3, fun z => ?_⟩
  obtain ⟨s, hs, e1, e2⟩ := h5 z
  exact ⟨s, hs, by rw [h4 (Or.inl z)]; exact e1, e2⟩
section
variable {x_typeCount x_byteCount x_numberCount x_listCount x_trouble x_place x_valueCount x_top x_records x_writtenCount x_pairCount : Int32}
variable {x_kindOf x_detailOf x_fallbackOf x_partCount x_partName x_partType x_partAlias x_partHas x_partDefault x_bytes x_valueType x_valueFrom x_valueAfter x_frameValue x_frameType x_frameStep x_frameLeft x_frameStart x_addsNothing x_written x_pairs x_pairSeen : Nat → Int32}
variable {x_numbers x_list x_valueNumber : Nat → Int64}
variable {bc : Nat} {g : sg_T} {post : SX → Prop}
theorem xr_readAll (hg : sg_ok g) (hX : sg_X g x_detailOf x_partName x_partType x_partAlias x_partHas x_partDefault) (hb : bc ≤ 100) {t : Nat} (ht : t < sg_n g)
    (HP : ∀ (tr pp vc rc top : Int32) (vt vf va : Nat → Int32) (vn : Nat → Int64) (fV fT fS fL fB : Nat → Int32), rx_R g (gr_all g x_bytes bc t) tr pp vc rc top vt vf va fV fT fS fL vn → post (nI (sg_n g), nI bc, x_numberCount, x_listCount, tr, pp, vc, top, rc, x_writtenCount, x_pairCount, sg_K g, x_detailOf, sg_f g, sg_P g, x_partName, x_partType, x_partAlias, x_partHas, x_partDefault, x_bytes, x_numbers, x_list, vt, vn, vf, va, fV, fT, fS, fL, fB, x_addsNothing, x_written, x_pairs, x_pairSeen)) :
    wpX_readAll post (nI (sg_n g), nI bc, x_numberCount, x_listCount, x_trouble, x_place, x_valueCount, x_top, x_records, x_writtenCount, x_pairCount, sg_K g, x_detailOf, sg_f g, sg_P g, x_partName, x_partType, x_partAlias, x_partHas, x_partDefault, x_bytes, x_numbers, x_list, x_valueType, x_valueNumber, x_valueFrom, x_valueAfter, x_frameValue, x_frameType, x_frameStep, x_frameLeft, x_frameStart, x_addsNothing, x_written, x_pairs, x_pairSeen) (nI t) := by
  obtain ⟨k1, k2⟩ := gr_c0_ok (b := x_bytes) hg hb ht
  simp (disch := omega) only [wpX_readAll, wpX_startWalk, forall_eq, nI_leI, nI_ltI, nI_eq, vp_in_nI, nI_clamp, nI_1, li_e0, li_f0, li_l0, li_g0, li_m0, li_h0, li_e1, li_f1, li_l1, li_g1, li_m1, li_h1, li_e2, li_f2, li_l2, li_g2, li_m2, li_h2, li_e3, li_f3, li_l3, li_g3, li_m3, li_h3, li_e4, li_f4, li_l4, li_g4, li_m4, li_h4, li_e5, li_f5, li_l5, li_g5, li_m5, li_h5, li_e6, li_f6, li_l6, li_g6, li_m6, li_h6, li_e7, li_f7, li_l7, li_g7, li_m7, li_h7, li_e8, li_f8, li_l8, li_g8, li_m8, li_h8, li_e9, li_f9, li_l9, li_g9, li_m9, li_h9, li_e10, li_f10, li_l10, li_g10, li_m10, li_h10, li_e15, li_f15, li_l15, li_g15, li_m15, li_h15, li_e16, li_f16, li_l16, li_g16, li_m16, li_h16, li_e20, li_f20, li_l20, li_g20, li_m20, li_h20, li_e40, li_f40, li_l40, li_g40, li_m40, li_h40, li_e100, li_f100, li_l100, li_g100, li_m100, li_h100, li_e128, li_f128, li_l128, li_g128, li_m128, li_h128, li_e150, li_f150, li_l150, li_g150, li_m150, li_h150, li_e255, li_f255, li_l255, li_g255, li_m255, li_h255, li_e400, li_f400, li_l400, li_g400, li_m400, li_h400, li_e410, li_f410, li_l410, li_g410, li_m410, li_h410, li_e420, li_f420, li_l420, li_g420, li_m420, li_h420, li_e2000, li_f2000, li_l2000, li_g2000, li_m2000, li_h2000, li_e8200, li_f8200, li_l8200, li_g8200, li_m8200, li_h8200, li_e1000000, li_f1000000, li_l1000000, li_g1000000, li_m1000000, li_h1000000, li_50, li_50', li_200, li_200', nI_add, li_s1, li_t1, li_c1, li_c2, li_c3, li_c4, li_c5, li_c6, li_c7, li_c8, li_c9, li_c10, li_c11, li_c12, li_c13, li_c14, li_c15, sg_Kat, sg_Pat, pk_us, pk_uLs, true_implies, forall_const, not_true_eq_false, not_false_eq_true, false_implies, and_true, true_and, implies_true, and_self, if_true, if_false, ite_true, ite_false, reduceIte, eq_self, Nat.reduceEqDiff, Nat.reduceLeDiff, Nat.reduceLT, Int32.reduceLT, Int32.reduceLE]
  refine xr_value (F := []) (w := gr_w0 x_bytes) (yr := fun _ => 0) (pl := 0) (vt := x_valueType) (vf := x_valueFrom) (va := x_valueAfter) (vn := x_valueNumber) hg hX hb (Nat.zero_le _) ht gr_pre0 (fun v hv => absurd hv (Nat.not_lt_zero v)) trivial rfl (fun tr pp vc rc top vt vf va vn fV fT fS fL fB hr => ?_)
  simp (disch := omega) only [forall_eq, nI_leI, nI_ltI, nI_eq, vp_in_nI, nI_clamp, nI_1, li_e0, li_f0, li_l0, li_g0, li_m0, li_h0, li_e1, li_f1, li_l1, li_g1, li_m1, li_h1, li_e2, li_f2, li_l2, li_g2, li_m2, li_h2, li_e3, li_f3, li_l3, li_g3, li_m3, li_h3, li_e4, li_f4, li_l4, li_g4, li_m4, li_h4, li_e5, li_f5, li_l5, li_g5, li_m5, li_h5, li_e6, li_f6, li_l6, li_g6, li_m6, li_h6, li_e7, li_f7, li_l7, li_g7, li_m7, li_h7, li_e8, li_f8, li_l8, li_g8, li_m8, li_h8, li_e9, li_f9, li_l9, li_g9, li_m9, li_h9, li_e10, li_f10, li_l10, li_g10, li_m10, li_h10, li_e15, li_f15, li_l15, li_g15, li_m15, li_h15, li_e16, li_f16, li_l16, li_g16, li_m16, li_h16, li_e20, li_f20, li_l20, li_g20, li_m20, li_h20, li_e40, li_f40, li_l40, li_g40, li_m40, li_h40, li_e100, li_f100, li_l100, li_g100, li_m100, li_h100, li_e128, li_f128, li_l128, li_g128, li_m128, li_h128, li_e150, li_f150, li_l150, li_g150, li_m150, li_h150, li_e255, li_f255, li_l255, li_g255, li_m255, li_h255, li_e400, li_f400, li_l400, li_g400, li_m400, li_h400, li_e410, li_f410, li_l410, li_g410, li_m410, li_h410, li_e420, li_f420, li_l420, li_g420, li_m420, li_h420, li_e2000, li_f2000, li_l2000, li_g2000, li_m2000, li_h2000, li_e8200, li_f8200, li_l8200, li_g8200, li_m8200, li_h8200, li_e1000000, li_f1000000, li_l1000000, li_g1000000, li_m1000000, li_h1000000, li_50, li_50', li_200, li_200', nI_add, li_s1, li_t1, li_c1, li_c2, li_c3, li_c4, li_c5, li_c6, li_c7, li_c8, li_c9, li_c10, li_c11, li_c12, li_c13, li_c14, li_c15, sg_Kat, sg_Pat, pk_us, pk_uLs, true_implies, forall_const, not_true_eq_false, not_false_eq_true, false_implies, and_true, true_and, implies_true, and_self, if_true, if_false, ite_true, ite_false, reduceIte, eq_self, Nat.reduceEqDiff, Nat.reduceLeDiff, Nat.reduceLT, Int32.reduceLT, Int32.reduceLE]
  exact ⟨1401, xr_loop (bb := x_bytes) hg hX hb 1400 0 (gr_c0 g x_bytes bc t) tr pp vc rc top vt vf va vn fV fT fS fL fB gr_value_b k1 k2 (by omega) hr HP⟩
end
section
variable {y_types y_byteCount y_writtenCount y_numberCount y_listCount y_values y_depth y_records y_at y_wrong y_todo : Int32}
variable {y_kind y_of y_parts y_fallback y_name y_part y_alias y_given y_has y_bytes y_written y_valueType y_start y_child y_last y_next y_open y_come y_left y_todoValue y_todoType y_todoDefault y_pair y_whole : Nat → Int32}
variable {y_numbers y_list y_value : Nat → Int64}
variable {bc : Nat} {g : sg_T} {post : Int32 → SY → Prop} {x2 : Int32}
theorem yr_readAll (hg : sg_ok g) (hY : sg_Y g y_of y_name y_part y_alias y_has y_given) (hb : bc ≤ 100) {t : Nat} (ht : t < sg_n g)
    (HP : ∀ (wg pp vc rc dp : Int32) (vt st ch la nx op co le : Nat → Int32) (vn : Nat → Int64), ry_R g (gr_all g y_bytes bc t) wg pp vc rc dp vt st ch la nx op co le vn → wY_read_86 post x2 (nI (sg_n g)) (nI bc) y_writtenCount y_numberCount y_listCount vc dp rc pp wg y_todo (sg_K g) y_of (sg_P g) (sg_f g) y_name y_part y_alias y_given y_has y_bytes y_written y_numbers y_list vt st ch la nx vn op co le y_todoValue y_todoType y_todoDefault y_pair y_whole) :
    wpY_begin (fun u => match u with | (y_types, y_byteCount, y_writtenCount, y_numberCount, y_listCount, y_values, y_depth, y_records, y_at, y_wrong, y_todo, y_kind, y_of, y_parts, y_fallback, y_name, y_part, y_alias, y_given, y_has, y_bytes, y_written, y_numbers, y_list, y_valueType, y_start, y_child, y_last, y_next, y_value, y_open, y_come, y_left, y_todoValue, y_todoType, y_todoDefault, y_pair, y_whole) => ∃ n65, wY_read_65 post x2 n65 y_types y_byteCount y_writtenCount y_numberCount y_listCount y_values y_depth y_records y_at y_wrong y_todo y_kind y_of y_parts y_fallback y_name y_part y_alias y_given y_has y_bytes y_written y_numbers y_list y_valueType y_start y_child y_last y_next y_value y_open y_come y_left y_todoValue y_todoType y_todoDefault y_pair y_whole) (nI (sg_n g), nI bc, y_writtenCount, y_numberCount, y_listCount, 0, 0, 0, 0, 0, y_todo, sg_K g, y_of, sg_P g, sg_f g, y_name, y_part, y_alias, y_given, y_has, y_bytes, y_written, y_numbers, y_list, y_valueType, y_start, y_child, y_last, y_next, y_value, y_open, y_come, y_left, y_todoValue, y_todoType, y_todoDefault, y_pair, y_whole) (nI t) := by
  obtain ⟨k1, k2⟩ := gr_c0_ok (b := y_bytes) hg hb ht
  refine yr_value (F := []) (w := gr_w0 y_bytes) (yr := fun _ => 0) (pl := 0) (vt := y_valueType) (st := y_start) (ch := y_child) (la := y_last) (nx := y_next) (op := y_open) (co := y_come) (le := y_left) (vn := y_value) hg hY hb (Nat.zero_le _) ht gr_pre0 (fun v hv => absurd hv (Nat.not_lt_zero v)) trivial rfl (fun wg pp vc rc dp vt st ch la nx op co le vn hr => ?_)
  exact ⟨1401, yr_loop (bb := y_bytes) hg hY hb 1400 1401 (gr_c0 g y_bytes bc t) wg pp vc rc dp vt st ch la nx op co le vn (by omega) gr_value_b k1 k2 hr HP⟩
end
