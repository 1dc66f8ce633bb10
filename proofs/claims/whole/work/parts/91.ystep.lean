/-! the reference's reading: blocks, the end of a value, the loop -/
theorem ry_fr_map {g : sg_T} {w w' : sr_V} {yr : Nat → Int64} {A : List gr_F} {ch la nx op co le : Nat → Int32} (ha : ∀ u, u < sv_m w → gr_cp A u → sv_a w' u = sv_a w u) : ∀ {F : List gr_F} {x : Nat}, gr_low g w yr A x F → ry_fr g w ch la nx op co le F → ry_fr g w' ch la nx op co le F := by
  intro F
  induction F with
  | nil => intro x _ _; trivial
  | cons f F ih =>
    intro x hl hf
    obtain ⟨l1, l2, l3, l4, l5, l6⟩ := hl
    obtain ⟨r1, r2, r3⟩ := hf
    refine ⟨r1, ry_kids_map rfl rfl (fun i hi => ?_) (fun _ _ => rfl) r2, ih l6 r3⟩
    refine sv_ch_same (fun j hj => ?_)
    obtain ⟨k1, k2⟩ := l5 j (by omega)
    exact (ha _ k1.2.1 k2).symm
section
variable {y_types y_byteCount y_writtenCount y_numberCount y_listCount y_values y_depth y_records y_at y_wrong y_todo : Int32}
variable {y_kind y_of y_parts y_fallback y_name y_part y_alias y_given y_has y_bytes y_written y_valueType y_start y_child y_last y_next y_open y_come y_left y_todoValue y_todoType y_todoDefault y_pair y_whole : Nat → Int32}
variable {y_numbers y_list y_value : Nat → Int64}
variable {bc pl : Nat} {g : sg_T} {post : SY → Prop} {c' : gr_C} {vt st ch la nx op co le : Nat → Int32} {vn : Nat → Int64} {F : List gr_F} {w : sr_V} {yr : Nat → Int64}
/-- the top ends -/
theorem ry_end {v t k p : Nat} (h : gr_inv g bc ((v, t, k, 0) :: F) pl w yr) (htr : ry_tree g ((v, t, k, 0) :: F) w yr vt st ch nx vn) (hfr : ry_fr g w ch la nx op co le ((v, t, k, 0) :: F)) : ry_tree g F (gr_end w v) yr vt st ch nx vn ∧ ry_fr g (gr_end w v) ch la nx op co le F := by
  obtain ⟨p1, p2, p3, p4, p5, p6, p7⟩ := h
  obtain ⟨f1, t2, t3, t4⟩ := p7
  obtain ⟨f1a, f1b, f1c, f1d, f1e, f1f⟩ := f1
  dsimp only at f1a f1b f1c f1d f1e f1f t2 t3 t4
  obtain ⟨r1, r2, r3⟩ := hfr
  dsimp only at r2
  have ea : ∀ u, ¬ u = v → sv_a (gr_end w v) u = sv_a w u := fun u hu => sg_un_n hu
  have hne : ∀ u, gr_cp ((v, t, k, 0) :: F) u → ¬ u = v := fun u hu z => hu _ List.mem_cons_self z.symm
  have hcnt : sv_cnt g w v = k := by
    unfold sv_cnt
    rw [f1b]
    rcases f1f with ⟨a, b, c⟩ | ⟨a, b, c⟩ | ⟨a, b⟩
    · rw [if_neg (by omega), if_neg (by omega), if_pos a, c, lN_i, nI_clamp (by omega)]; rfl
    · rw [if_pos a]; omega
    · rw [if_neg (by omega), if_pos a]; omega
  refine ⟨fun u hu => ?_, ry_fr_map (fun x _ hx => ea x (hne x hx)) t4 r3⟩
  obtain ⟨h1, h2, h3, h4, h5, h6⟩ := htr u hu
  refine ⟨h1, h2, h3, h4, h5, fun hcu => ?_⟩
  have hcnt2 : ∀ x, sv_cnt g (gr_end w v) x = sv_cnt g w x := fun x => rfl
  rw [hcnt2]
  by_cases eu : u = v
  · subst eu
    have hch : ∀ i, i ≤ k → sv_ch (sv_a (gr_end w u)) u i = sv_ch (sv_a w) u i := by
      intro i hi
      refine sv_ch_same (fun j hj => ?_)
      exact (ea _ (hne _ (t3 j (by omega)).2)).symm
    rw [hcnt]
    refine ⟨fun z => (r2.2.1 z).1, fun i hi => ?_⟩
    rw [hch i (by omega), hch (i + 1) (by omega)]
    exact r2.2.2 i hi
  · have hcu2 : gr_cp ((v, t, k, 0) :: F) u := by
      intro e he
      rcases List.mem_cons.mp he with rfl | he
      · exact fun z => eu z.symm
      · exact hcu e he
    obtain ⟨z1, z2⟩ := h6 hcu2
    have hfu := p6 u hu hcu2
    have hch : ∀ i, i ≤ sv_cnt g w u → sv_ch (sv_a (gr_end w v)) u i = sv_ch (sv_a w) u i := by
      intro i hi
      refine sv_ch_same (fun j hj => ?_)
      exact (ea _ (hne _ (hfu.2 j (by omega)).2)).symm
    refine ⟨z1, fun i hi => ?_⟩
    rw [hch i (by omega), hch (i + 1) (by omega)]
    exact z2 i hi
theorem yr_pop (hg : sg_ok g) {v t k p : Nat} {x1 x2 : Int32} (h : gr_inv g bc ((v, t, k, 0) :: F) pl w yr) (htr : ry_tree g ((v, t, k, 0) :: F) w yr vt st ch nx vn) (hfr : ry_fr g w ch la nx op co le ((v, t, k, 0) :: F)) (hc : c' = (F, 0, p, gr_end w v, yr)) (HP : ∀ (wg pp vc rc dp : Int32) (vt st ch la nx op co le : Nat → Int32) (vn : Nat → Int64), ry_R g c' wg pp vc rc dp vt st ch la nx op co le vn → post (nI (sg_n g), nI bc, y_writtenCount, y_numberCount, y_listCount, vc, dp, rc, pp, wg, y_todo, sg_K g, y_of, sg_P g, sg_f g, y_name, y_part, y_alias, y_given, y_has, sv_b w, y_written, y_numbers, y_list, vt, st, ch, la, nx, vn, op, co, le, y_todoValue, y_todoType, y_todoDefault, y_pair, y_whole)) :
    wY_goOn_118 post x1 x2 (nI t) 0 (nI (sg_n g)) (nI bc) y_writtenCount y_numberCount y_listCount (nI (sv_m w)) (nI (F.length + 1)) (nI (gr_rc g ((v, t, k, 0) :: F))) (nI p) 0 y_todo (sg_K g) y_of (sg_P g) (sg_f g) y_name y_part y_alias y_given y_has (sv_b w) y_written y_numbers y_list vt st ch la nx vn op co le y_todoValue y_todoType y_todoDefault y_pair y_whole := by
  have hn := hg.1
  have k9 := hg.2.1 t
  obtain ⟨e1, e2⟩ := ry_end (p := p) h htr hfr
  have f1c := h.2.2.2.2.2.2.1.2.2.1
  dsimp only at f1c
  have ep : nI (F.length + 1) - 1 = nI F.length := nI_pred _
  subst hc
  by_cases h9 : sg_k g t = 9
  · have er : nI (gr_rc g F + 1) - 1 = nI (gr_rc g F) := nI_pred _
    simp (disch := omega) only [wY_goOn_118, h9, gr_rc_cons9, er, ep, forall_eq, nI_leI, nI_ltI, nI_eq, vp_in_nI, nI_clamp, nI_1, li_e0, li_f0, li_l0, li_g0, li_m0, li_h0, li_e1, li_f1, li_l1, li_g1, li_m1, li_h1, li_e2, li_f2, li_l2, li_g2, li_m2, li_h2, li_e3, li_f3, li_l3, li_g3, li_m3, li_h3, li_e4, li_f4, li_l4, li_g4, li_m4, li_h4, li_e5, li_f5, li_l5, li_g5, li_m5, li_h5, li_e6, li_f6, li_l6, li_g6, li_m6, li_h6, li_e7, li_f7, li_l7, li_g7, li_m7, li_h7, li_e8, li_f8, li_l8, li_g8, li_m8, li_h8, li_e9, li_f9, li_l9, li_g9, li_m9, li_h9, li_e10, li_f10, li_l10, li_g10, li_m10, li_h10, li_e15, li_f15, li_l15, li_g15, li_m15, li_h15, li_e16, li_f16, li_l16, li_g16, li_m16, li_h16, li_e20, li_f20, li_l20, li_g20, li_m20, li_h20, li_e40, li_f40, li_l40, li_g40, li_m40, li_h40, li_e100, li_f100, li_l100, li_g100, li_m100, li_h100, li_e128, li_f128, li_l128, li_g128, li_m128, li_h128, li_e150, li_f150, li_l150, li_g150, li_m150, li_h150, li_e255, li_f255, li_l255, li_g255, li_m255, li_h255, li_e400, li_f400, li_l400, li_g400, li_m400, li_h400, li_e410, li_f410, li_l410, li_g410, li_m410, li_h410, li_e420, li_f420, li_l420, li_g420, li_m420, li_h420, li_e2000, li_f2000, li_l2000, li_g2000, li_m2000, li_h2000, li_e8200, li_f8200, li_l8200, li_g8200, li_m8200, li_h8200, li_e1000000, li_f1000000, li_l1000000, li_g1000000, li_m1000000, li_h1000000, li_50, li_50', li_200, li_200', nI_add, li_s1, li_t1, li_c1, li_c2, li_c3, li_c4, li_c5, li_c6, li_c7, li_c8, li_c9, li_c10, li_c11, li_c12, li_c13, li_c14, li_c15, sg_Kat, sg_Pat, pk_us, pk_uLs, true_implies, forall_const, not_true_eq_false, not_false_eq_true, false_implies, and_true, true_and, implies_true, and_self, if_true, if_false, ite_true, ite_false, reduceIte, eq_self, Nat.reduceEqDiff, Nat.reduceLeDiff, Nat.reduceLT, Int32.reduceLT, Int32.reduceLE]
    exact HP _ _ _ _ _ _ _ _ _ _ _ _ _ _ ⟨rfl, fun _ => ⟨rfl, rfl, rfl, rfl, e1, e2⟩⟩
  · simp (disch := omega) only [wY_goOn_118, h9, gr_rc_consn h9, ep, forall_eq, nI_leI, nI_ltI, nI_eq, vp_in_nI, nI_clamp, nI_1, li_e0, li_f0, li_l0, li_g0, li_m0, li_h0, li_e1, li_f1, li_l1, li_g1, li_m1, li_h1, li_e2, li_f2, li_l2, li_g2, li_m2, li_h2, li_e3, li_f3, li_l3, li_g3, li_m3, li_h3, li_e4, li_f4, li_l4, li_g4, li_m4, li_h4, li_e5, li_f5, li_l5, li_g5, li_m5, li_h5, li_e6, li_f6, li_l6, li_g6, li_m6, li_h6, li_e7, li_f7, li_l7, li_g7, li_m7, li_h7, li_e8, li_f8, li_l8, li_g8, li_m8, li_h8, li_e9, li_f9, li_l9, li_g9, li_m9, li_h9, li_e10, li_f10, li_l10, li_g10, li_m10, li_h10, li_e15, li_f15, li_l15, li_g15, li_m15, li_h15, li_e16, li_f16, li_l16, li_g16, li_m16, li_h16, li_e20, li_f20, li_l20, li_g20, li_m20, li_h20, li_e40, li_f40, li_l40, li_g40, li_m40, li_h40, li_e100, li_f100, li_l100, li_g100, li_m100, li_h100, li_e128, li_f128, li_l128, li_g128, li_m128, li_h128, li_e150, li_f150, li_l150, li_g150, li_m150, li_h150, li_e255, li_f255, li_l255, li_g255, li_m255, li_h255, li_e400, li_f400, li_l400, li_g400, li_m400, li_h400, li_e410, li_f410, li_l410, li_g410, li_m410, li_h410, li_e420, li_f420, li_l420, li_g420, li_m420, li_h420, li_e2000, li_f2000, li_l2000, li_g2000, li_m2000, li_h2000, li_e8200, li_f8200, li_l8200, li_g8200, li_m8200, li_h8200, li_e1000000, li_f1000000, li_l1000000, li_g1000000, li_m1000000, li_h1000000, li_50, li_50', li_200, li_200', nI_add, li_s1, li_t1, li_c1, li_c2, li_c3, li_c4, li_c5, li_c6, li_c7, li_c8, li_c9, li_c10, li_c11, li_c12, li_c13, li_c14, li_c15, sg_Kat, sg_Pat, pk_us, pk_uLs, true_implies, forall_const, not_true_eq_false, not_false_eq_true, false_implies, and_true, true_and, implies_true, and_self, if_true, if_false, ite_true, ite_false, reduceIte, eq_self, Nat.reduceEqDiff, Nat.reduceLeDiff, Nat.reduceLT, Int32.reduceLT, Int32.reduceLE]
    exact HP _ _ _ _ _ _ _ _ _ _ _ _ _ _ ⟨rfl, fun _ => ⟨rfl, rfl, rfl, rfl, e1, e2⟩⟩
/-- the next child -/
theorem yr_child (hg : sg_ok g) (hY : sg_Y g y_of y_name y_part y_alias y_has y_given) {v t k l : Nat} (hb : bc ≤ 100) (h : gr_inv g bc ((v, t, k, l + 1) :: F) pl w yr) (htr : ry_tree g ((v, t, k, l + 1) :: F) w yr vt st ch nx vn) (hfr : ry_fr g w ch la nx op co le ((v, t, k, l + 1) :: F)) (hc : c' = gr_step g bc v t k (l + 1) F pl w yr) (HP : ∀ (wg pp vc rc dp : Int32) (vt st ch la nx op co le : Nat → Int32) (vn : Nat → Int64), ry_R g c' wg pp vc rc dp vt st ch la nx op co le vn → post (nI (sg_n g), nI bc, y_writtenCount, y_numberCount, y_listCount, vc, dp, rc, pp, wg, y_todo, sg_K g, y_of, sg_P g, sg_f g, y_name, y_part, y_alias, y_given, y_has, sv_b w, y_written, y_numbers, y_list, vt, st, ch, la, nx, vn, op, co, le, y_todoValue, y_todoType, y_todoDefault, y_pair, y_whole)) :
    wY_goOn_118 post (nI F.length) (nI v) (nI t) 1 (nI (sg_n g)) (nI bc) y_writtenCount y_numberCount y_listCount (nI (sv_m w)) (nI (F.length + 1)) (nI (gr_rc g ((v, t, k, l + 1) :: F))) (nI pl) 0 y_todo (sg_K g) y_of (sg_P g) (sg_f g) y_name y_part y_alias y_given y_has (sv_b w) y_written y_numbers y_list vt st ch la nx vn op co le y_todoValue y_todoType y_todoDefault y_pair y_whole := by
  have hn := hg.1
  have k9 := hg.2.1 t
  have p5 := hg.2.2.1 t
  have hct := gr_ctype hg h
  have hpre := gr_next h
  have p1 := h.1
  have p2 := h.2.1
  have p3 := h.2.2.1
  rw [List.length_cons] at p3
  obtain ⟨f1a, f1b, f1c, f1d, f1e, f1f⟩ := h.2.2.2.2.2.2.1
  dsimp only at f1a f1b f1c f1d f1f
  obtain ⟨⟨c1, c2, c3⟩, r2, r3⟩ := hfr
  dsimp only at c1 c2 c3 r2
  have hl40 : l + 1 ≤ 40 := by
    rcases f1f with ⟨a, b, c⟩ | ⟨a, b, c⟩ | ⟨a, b⟩
    · omega
    · omega
    · omega
  have el : nI (l + 1) - 1 = nI l := nI_pred l
  have htr2 : ry_tree g ((v, t, k + 1, l) :: F) w yr vt st ch nx vn := by
    intro u hu
    obtain ⟨h1, h2, h3, h4, h5, h6⟩ := htr u hu
    exact ⟨h1, h2, h3, h4, h5, fun z => h6 (gr_cp_top z)⟩
  have cells : ∀ (lv : Int32) {G : List gr_F}, G.length ≤ F.length → ry_fr g w ch la nx op co le G → ry_fr g w ch la nx op (upd co F.length (nI (k + 1))) (upd le F.length lv) G := by
    intro lv G
    induction G with
    | nil => intro _ _; trivial
    | cons f G ihG =>
      intro hl hg2
      rw [List.length_cons] at hl
      obtain ⟨⟨b1, b2, b3⟩, b4, b5⟩ := hg2
      exact ⟨⟨b1, by rw [pk_un (by omega)]; exact b2, fun z => by rw [pk_un (by omega)]; exact b3 z⟩, b4, ihG (by omega) b5⟩
  have pre : ∀ (lv : Int32), (sg_k g t = 7 → lv = nI l) → ry_pre g w ch la nx op (upd co F.length (nI (k + 1))) (upd le F.length lv) ((v, t, k + 1, l) :: F) := by
    intro lv hlv
    exact ⟨⟨c1, pk_us, fun z => by dsimp only at z ⊢; rw [pk_us]; exact hlv z⟩, r2, cells lv (Nat.le_refl _) r3⟩
  have fin : ∀ (u : Nat) (lv : Int32), (sg_k g t = 7 → lv = nI l) → u < sg_n g → (if sg_k g t = 7 then sg_d g t else if sg_k g t = 8 then sg_t g (5 * t + (yr v).toInt32.toNatClampNeg) else sg_t g (5 * t + k)) = u →
      wY_goOn_247 post (nI u) (nI (sg_n g)) (nI bc) y_writtenCount y_numberCount y_listCount (nI (sv_m w)) (nI (F.length + 1)) (nI (gr_rc g ((v, t, k, l + 1) :: F))) (nI pl) 0 y_todo (sg_K g) y_of (sg_P g) (sg_f g) y_name y_part y_alias y_given y_has (sv_b w) y_written y_numbers y_list vt st ch la nx vn op (upd co F.length (nI (k + 1))) (upd le F.length lv) y_todoValue y_todoType y_todoDefault y_pair y_whole := by
    intro u lv hlv hu he
    unfold wY_goOn_247
    refine yr_value (F := (v, t, k + 1, l) :: F) (w := w) (yr := yr) (pl := pl) hg hY hb p1 hu hpre htr2 (pre lv hlv) (c' := c') (by rw [hc]; unfold gr_step; dsimp only; rw [he]) (fun wg pp vc rc dp vt st ch la nx op co le vn hr => ?_)
    exact HP _ _ _ _ _ _ _ _ _ _ _ _ _ _ hr
  have htv := htr v f1a
  by_cases k7 : sg_k g t = 7
  · have ed := hY.1 t f1c (Or.inr k7)
    have c3' := c3 k7
    have h2 := fin (sg_d g t) (nI l) (fun _ => rfl) (hg.2.2.2.2.2.1 t f1c k7) (by rw [if_pos k7])
    simp (disch := omega) only [wY_goOn_118, k7, c2, c3', el, ed, forall_eq, nI_leI, nI_ltI, nI_eq, vp_in_nI, nI_clamp, nI_1, li_e0, li_f0, li_l0, li_g0, li_m0, li_h0, li_e1, li_f1, li_l1, li_g1, li_m1, li_h1, li_e2, li_f2, li_l2, li_g2, li_m2, li_h2, li_e3, li_f3, li_l3, li_g3, li_m3, li_h3, li_e4, li_f4, li_l4, li_g4, li_m4, li_h4, li_e5, li_f5, li_l5, li_g5, li_m5, li_h5, li_e6, li_f6, li_l6, li_g6, li_m6, li_h6, li_e7, li_f7, li_l7, li_g7, li_m7, li_h7, li_e8, li_f8, li_l8, li_g8, li_m8, li_h8, li_e9, li_f9, li_l9, li_g9, li_m9, li_h9, li_e10, li_f10, li_l10, li_g10, li_m10, li_h10, li_e15, li_f15, li_l15, li_g15, li_m15, li_h15, li_e16, li_f16, li_l16, li_g16, li_m16, li_h16, li_e20, li_f20, li_l20, li_g20, li_m20, li_h20, li_e40, li_f40, li_l40, li_g40, li_m40, li_h40, li_e100, li_f100, li_l100, li_g100, li_m100, li_h100, li_e128, li_f128, li_l128, li_g128, li_m128, li_h128, li_e150, li_f150, li_l150, li_g150, li_m150, li_h150, li_e255, li_f255, li_l255, li_g255, li_m255, li_h255, li_e400, li_f400, li_l400, li_g400, li_m400, li_h400, li_e410, li_f410, li_l410, li_g410, li_m410, li_h410, li_e420, li_f420, li_l420, li_g420, li_m420, li_h420, li_e2000, li_f2000, li_l2000, li_g2000, li_m2000, li_h2000, li_e8200, li_f8200, li_l8200, li_g8200, li_m8200, li_h8200, li_e1000000, li_f1000000, li_l1000000, li_g1000000, li_m1000000, li_h1000000, li_50, li_50', li_200, li_200', nI_add, li_s1, li_t1, li_c1, li_c2, li_c3, li_c4, li_c5, li_c6, li_c7, li_c8, li_c9, li_c10, li_c11, li_c12, li_c13, li_c14, li_c15, sg_Kat, sg_Pat, pk_us, pk_uLs, true_implies, forall_const, not_true_eq_false, not_false_eq_true, false_implies, and_true, true_and, implies_true, and_self, if_true, if_false, ite_true, ite_false, reduceIte, eq_self, Nat.reduceEqDiff, Nat.reduceLeDiff, Nat.reduceLT, Int32.reduceLT, Int32.reduceLE]
    exact h2
  · rcases f1f with ⟨a, b, c⟩ | ⟨a, b, q, hq, ey⟩ | ⟨a, b⟩
    · exact absurd a k7
    · have ec : (yr v).toInt32.toNatClampNeg = q := by rw [ey, lN_i, nI_clamp (by omega)]
      have ev : vn v = lN q := by rw [htv.2.2.2.1 (by rw [f1b]; exact Or.inr a), ey]
      have eT := hY.2.2.1 t q f1c hq (by omega)
      have h2 := fin (sg_t g (5 * t + q)) (le F.length - 1) (fun z => absurd z k7) (hg.2.2.2.2.2.2.2.1 t q f1c hq (by omega)) (by rw [if_neg k7, if_pos a, ec])
      simp (disch := omega) only [wY_goOn_118, k7, a, c2, ev, lN_i, eT, forall_eq, nI_leI, nI_ltI, nI_eq, vp_in_nI, nI_clamp, nI_1, li_e0, li_f0, li_l0, li_g0, li_m0, li_h0, li_e1, li_f1, li_l1, li_g1, li_m1, li_h1, li_e2, li_f2, li_l2, li_g2, li_m2, li_h2, li_e3, li_f3, li_l3, li_g3, li_m3, li_h3, li_e4, li_f4, li_l4, li_g4, li_m4, li_h4, li_e5, li_f5, li_l5, li_g5, li_m5, li_h5, li_e6, li_f6, li_l6, li_g6, li_m6, li_h6, li_e7, li_f7, li_l7, li_g7, li_m7, li_h7, li_e8, li_f8, li_l8, li_g8, li_m8, li_h8, li_e9, li_f9, li_l9, li_g9, li_m9, li_h9, li_e10, li_f10, li_l10, li_g10, li_m10, li_h10, li_e15, li_f15, li_l15, li_g15, li_m15, li_h15, li_e16, li_f16, li_l16, li_g16, li_m16, li_h16, li_e20, li_f20, li_l20, li_g20, li_m20, li_h20, li_e40, li_f40, li_l40, li_g40, li_m40, li_h40, li_e100, li_f100, li_l100, li_g100, li_m100, li_h100, li_e128, li_f128, li_l128, li_g128, li_m128, li_h128, li_e150, li_f150, li_l150, li_g150, li_m150, li_h150, li_e255, li_f255, li_l255, li_g255, li_m255, li_h255, li_e400, li_f400, li_l400, li_g400, li_m400, li_h400, li_e410, li_f410, li_l410, li_g410, li_m410, li_h410, li_e420, li_f420, li_l420, li_g420, li_m420, li_h420, li_e2000, li_f2000, li_l2000, li_g2000, li_m2000, li_h2000, li_e8200, li_f8200, li_l8200, li_g8200, li_m8200, li_h8200, li_e1000000, li_f1000000, li_l1000000, li_g1000000, li_m1000000, li_h1000000, li_50, li_50', li_200, li_200', nI_add, li_s1, li_t1, li_c1, li_c2, li_c3, li_c4, li_c5, li_c6, li_c7, li_c8, li_c9, li_c10, li_c11, li_c12, li_c13, li_c14, li_c15, sg_Kat, sg_Pat, pk_us, pk_uLs, true_implies, forall_const, not_true_eq_false, not_false_eq_true, false_implies, and_true, true_and, implies_true, and_self, if_true, if_false, ite_true, ite_false, reduceIte, eq_self, Nat.reduceEqDiff, Nat.reduceLeDiff, Nat.reduceLT, Int32.reduceLT, Int32.reduceLE]
      exact h2
    · have n8 : ¬ sg_k g t = 8 := by omega
      have eT := hY.2.2.1 t k f1c (by omega) (by omega)
      have h2 := fin (sg_t g (5 * t + k)) (le F.length - 1) (fun z => absurd z k7) (hg.2.2.2.2.2.2.2.1 t k f1c (by omega) (by omega)) (by rw [if_neg k7, if_neg n8])
      simp (disch := omega) only [wY_goOn_118, k7, n8, c2, eT, forall_eq, nI_leI, nI_ltI, nI_eq, vp_in_nI, nI_clamp, nI_1, li_e0, li_f0, li_l0, li_g0, li_m0, li_h0, li_e1, li_f1, li_l1, li_g1, li_m1, li_h1, li_e2, li_f2, li_l2, li_g2, li_m2, li_h2, li_e3, li_f3, li_l3, li_g3, li_m3, li_h3, li_e4, li_f4, li_l4, li_g4, li_m4, li_h4, li_e5, li_f5, li_l5, li_g5, li_m5, li_h5, li_e6, li_f6, li_l6, li_g6, li_m6, li_h6, li_e7, li_f7, li_l7, li_g7, li_m7, li_h7, li_e8, li_f8, li_l8, li_g8, li_m8, li_h8, li_e9, li_f9, li_l9, li_g9, li_m9, li_h9, li_e10, li_f10, li_l10, li_g10, li_m10, li_h10, li_e15, li_f15, li_l15, li_g15, li_m15, li_h15, li_e16, li_f16, li_l16, li_g16, li_m16, li_h16, li_e20, li_f20, li_l20, li_g20, li_m20, li_h20, li_e40, li_f40, li_l40, li_g40, li_m40, li_h40, li_e100, li_f100, li_l100, li_g100, li_m100, li_h100, li_e128, li_f128, li_l128, li_g128, li_m128, li_h128, li_e150, li_f150, li_l150, li_g150, li_m150, li_h150, li_e255, li_f255, li_l255, li_g255, li_m255, li_h255, li_e400, li_f400, li_l400, li_g400, li_m400, li_h400, li_e410, li_f410, li_l410, li_g410, li_m410, li_h410, li_e420, li_f420, li_l420, li_g420, li_m420, li_h420, li_e2000, li_f2000, li_l2000, li_g2000, li_m2000, li_h2000, li_e8200, li_f8200, li_l8200, li_g8200, li_m8200, li_h8200, li_e1000000, li_f1000000, li_l1000000, li_g1000000, li_m1000000, li_h1000000, li_50, li_50', li_200, li_200', nI_add, li_s1, li_t1, li_c1, li_c2, li_c3, li_c4, li_c5, li_c6, li_c7, li_c8, li_c9, li_c10, li_c11, li_c12, li_c13, li_c14, li_c15, sg_Kat, sg_Pat, pk_us, pk_uLs, true_implies, forall_const, not_true_eq_false, not_false_eq_true, false_implies, and_true, true_and, implies_true, and_self, if_true, if_false, ite_true, ite_false, reduceIte, eq_self, Nat.reduceEqDiff, Nat.reduceLeDiff, Nat.reduceLT, Int32.reduceLT, Int32.reduceLE]
      exact h2
end
