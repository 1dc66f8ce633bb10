/-! the reference's reading: blocks, the loop -/
section
variable {y_types y_byteCount y_writtenCount y_numberCount y_listCount y_values y_depth y_records y_at y_wrong y_todo : Int32}
variable {y_kind y_of y_parts y_fallback y_name y_part y_alias y_given y_has y_bytes y_written y_valueType y_start y_child y_last y_next y_open y_come y_left y_todoValue y_todoType y_todoDefault y_pair y_whole : Nat → Int32}
variable {y_numbers y_list y_value : Nat → Int64}
variable {bc pl : Nat} {g : sg_T} {post : SY → Prop} {vt st ch la nx op co le : Nat → Int32} {vn : Nat → Int64} {F : List gr_F} {w : sr_V} {yr : Nat → Int64}
theorem yr_block (hg : sg_ok g) {v t k : Nat} (hb : bc ≤ 100) (k7 : sg_k g t = 7) (h : gr_inv g bc ((v, t, k, 0) :: F) pl w yr) (htr : ry_tree g ((v, t, k, 0) :: F) w yr vt st ch nx vn) (hfr : ry_fr g w ch la nx op co le ((v, t, k, 0) :: F))
    (H0 : (gr_block (sv_b w) bc pl k).1 = 0 → ∀ (le : Nat → Int32) (vn : Nat → Int64), ry_tree g ((v, t, k, (gr_block (sv_b w) bc pl k).2.1) :: F) (gr_more w v (gr_block (sv_b w) bc pl k).2.1) yr vt st ch nx vn → ry_fr g (gr_more w v (gr_block (sv_b w) bc pl k).2.1) ch la nx op co le ((v, t, k, (gr_block (sv_b w) bc pl k).2.1) :: F) →
      post (nI (sg_n g), nI bc, y_writtenCount, y_numberCount, y_listCount, nI (sv_m w), nI (F.length + 1), nI (gr_rc g ((v, t, k, 0) :: F)), nI (gr_block (sv_b w) bc pl k).2.2, 0, y_todo, sg_K g, y_of, sg_P g, sg_f g, y_name, y_part, y_alias, y_given, y_has, sv_b w, y_written, y_numbers, y_list, vt, st, ch, la, nx, vn, op, co, le, y_todoValue, y_todoType, y_todoDefault, y_pair, y_whole))
    (H1 : ¬ (gr_block (sv_b w) bc pl k).1 = 0 → ∀ (pp : Int32) (le : Nat → Int32) (vn : Nat → Int64), post (nI (sg_n g), nI bc, y_writtenCount, y_numberCount, y_listCount, nI (sv_m w), nI (F.length + 1), nI (gr_rc g ((v, t, k, 0) :: F)), pp, (gr_block (sv_b w) bc pl k).1, y_todo, sg_K g, y_of, sg_P g, sg_f g, y_name, y_part, y_alias, y_given, y_has, sv_b w, y_written, y_numbers, y_list, vt, st, ch, la, nx, vn, op, co, le, y_todoValue, y_todoType, y_todoDefault, y_pair, y_whole)) :
    wpY_block post (nI (sg_n g), nI bc, y_writtenCount, y_numberCount, y_listCount, nI (sv_m w), nI (F.length + 1), nI (gr_rc g ((v, t, k, 0) :: F)), nI pl, 0, y_todo, sg_K g, y_of, sg_P g, sg_f g, y_name, y_part, y_alias, y_given, y_has, sv_b w, y_written, y_numbers, y_list, vt, st, ch, la, nx, vn, op, co, le, y_todoValue, y_todoType, y_todoDefault, y_pair, y_whole) (nI F.length) (nI v) := by
  have hn := hg.1
  have p1 := h.1
  have p2 := h.2.1
  have p3 := h.2.2.1
  rw [List.length_cons] at p3
  obtain ⟨f1a, f1b, f1c, f1d, f1e, f1f⟩ := h.2.2.2.2.2.2.1
  dsimp only at f1a f1b f1c f1d f1e f1f
  obtain ⟨⟨c1, c2, c3⟩, r2, r3⟩ := hfr
  dsimp only at c1 c2 c3 r2
  have hnum : sv_n w v = lN k ∧ k ≤ 40 := by
    rcases f1f with ⟨a, b, c⟩ | ⟨a, b, c⟩ | ⟨a, b⟩
    · exact ⟨c, by omega⟩
    · omega
    · omega
  obtain ⟨hnum, hk40⟩ := hnum
  clear f1f
  have evn : vn v = lN k := by rw [(htr v f1a).2.2.1 (by rw [f1b]; exact Or.inr k7), hnum]
  obtain ⟨l1, l2⟩ := gr_long_ok (b := sv_b w) hb p1
  have good : ∀ (a : Nat) (pp wg : Int32), a ≤ 40 → (wg = 0 → pp = nI (gr_block (sv_b w) bc pl k).2.2 ∧ gr_block (sv_b w) bc pl k = (0, a, (gr_block (sv_b w) bc pl k).2.2)) → wg = (gr_block (sv_b w) bc pl k).1 → wY_block_90 post (nI F.length) (nI v) (lN a) (nI F.length) (nI (sg_n g)) (nI bc) y_writtenCount y_numberCount y_listCount (nI (sv_m w)) (nI (F.length + 1)) (nI (gr_rc g ((v, t, k, 0) :: F))) pp wg y_todo (sg_K g) y_of (sg_P g) (sg_f g) y_name y_part y_alias y_given y_has (sv_b w) y_written y_numbers y_list vt st ch la nx vn op co le y_todoValue y_todoType y_todoDefault y_pair y_whole := by
    intro a pp wg ha hB hwg
    have el : (lN a).toInt32 = nI a := lN_i a
    have el2 : (nI a).toInt64 = lN a := nI_l (by omega)
    by_cases hz : wg = 0
    · obtain ⟨e1, e2⟩ := hB hz
      have e3 : (gr_block (sv_b w) bc pl k).2.1 = a := by rw [e2]
      have hz2 : (gr_block (sv_b w) bc pl k).1 = 0 := by rw [← hwg]; exact hz
      rw [e3] at H0
      have h2 := H0 hz2 (upd le F.length (nI a)) (vp_updL vn v (vn v + lN a)) (fun u hu => by
        obtain ⟨h1, h2, h3, h4, h5, h6⟩ := htr u hu
        have hcn : ¬ u = v → sv_cnt g (gr_more w v a) u = sv_cnt g w u := by
          intro e
          unfold sv_cnt
          rw [show sv_n (gr_more w v a) u = sv_n w u from pk_uLn e]
          rfl
        refine ⟨h1, h2, fun z => ?_, fun z => ?_, fun z => ?_, fun z => ?_⟩
        · show vp_updL vn v (vn v + lN a) u = vp_updL (sv_n w) v (sv_n w v + lN a) u
          by_cases e : u = v
          · subst e; rw [pk_uLs, pk_uLs, h3 z]
          · rw [pk_uLn e, pk_uLn e]; exact h3 z
        · have e : ¬ u = v := by
            intro e; subst e
            have z2 : sg_k g (sv_t w u) = 5 ∨ sg_k g (sv_t w u) = 8 := z
            rw [f1b] at z2; omega
          rw [pk_uLn e]; exact h4 z
        · have e : ¬ u = v := by
            intro e; subst e
            have z2 : sg_k g (sv_t w u) = 5 := z
            rw [f1b] at z2; omega
          have en : sv_n (gr_more w v a) u = sv_n w u := pk_uLn e
          rw [en]; exact h5 z
        · have e : ¬ u = v := fun e => z _ List.mem_cons_self e.symm
          rw [hcn e]
          exact h6 (gr_cp_top z)) ⟨⟨c1, c2, fun _ => pk_us⟩, r2, by
          have cells : ∀ {G : List gr_F}, G.length ≤ F.length → ry_fr g w ch la nx op co le G → ry_fr g (gr_more w v a) ch la nx op co (upd le F.length (nI a)) G := by
            intro G
            induction G with
            | nil => intro _ _; trivial
            | cons f G ihG =>
              intro hl hg2
              rw [List.length_cons] at hl
              obtain ⟨⟨b1, b2, b3⟩, b4, b5⟩ := hg2
              exact ⟨⟨b1, b2, fun z => by rw [pk_un (by omega)]; exact b3 z⟩, b4, ihG (by omega) b5⟩
          exact cells (Nat.le_refl _) r3⟩
      subst hz e1
      simp (disch := omega) only [wY_block_90, el, el2, forall_eq, nI_leI, nI_ltI, nI_eq, vp_in_nI, nI_clamp, nI_1, li_e0, li_f0, li_l0, li_g0, li_m0, li_h0, li_e1, li_f1, li_l1, li_g1, li_m1, li_h1, li_e2, li_f2, li_l2, li_g2, li_m2, li_h2, li_e3, li_f3, li_l3, li_g3, li_m3, li_h3, li_e4, li_f4, li_l4, li_g4, li_m4, li_h4, li_e5, li_f5, li_l5, li_g5, li_m5, li_h5, li_e6, li_f6, li_l6, li_g6, li_m6, li_h6, li_e7, li_f7, li_l7, li_g7, li_m7, li_h7, li_e8, li_f8, li_l8, li_g8, li_m8, li_h8, li_e9, li_f9, li_l9, li_g9, li_m9, li_h9, li_e10, li_f10, li_l10, li_g10, li_m10, li_h10, li_e15, li_f15, li_l15, li_g15, li_m15, li_h15, li_e16, li_f16, li_l16, li_g16, li_m16, li_h16, li_e20, li_f20, li_l20, li_g20, li_m20, li_h20, li_e40, li_f40, li_l40, li_g40, li_m40, li_h40, li_e100, li_f100, li_l100, li_g100, li_m100, li_h100, li_e128, li_f128, li_l128, li_g128, li_m128, li_h128, li_e150, li_f150, li_l150, li_g150, li_m150, li_h150, li_e255, li_f255, li_l255, li_g255, li_m255, li_h255, li_e400, li_f400, li_l400, li_g400, li_m400, li_h400, li_e410, li_f410, li_l410, li_g410, li_m410, li_h410, li_e420, li_f420, li_l420, li_g420, li_m420, li_h420, li_e2000, li_f2000, li_l2000, li_g2000, li_m2000, li_h2000, li_e8200, li_f8200, li_l8200, li_g8200, li_m8200, li_h8200, li_e1000000, li_f1000000, li_l1000000, li_g1000000, li_m1000000, li_h1000000, li_50, li_50', li_200, li_200', nI_add, li_s1, li_t1, li_c1, li_c2, li_c3, li_c4, li_c5, li_c6, li_c7, li_c8, li_c9, li_c10, li_c11, li_c12, li_c13, li_c14, li_c15, sg_Kat, sg_Pat, pk_us, pk_uLs, true_implies, forall_const, not_true_eq_false, not_false_eq_true, false_implies, and_true, true_and, implies_true, and_self, if_true, if_false, ite_true, ite_false, reduceIte, eq_self, Nat.reduceEqDiff, Nat.reduceLeDiff, Nat.reduceLT, Int32.reduceLT, Int32.reduceLE]
      exact h2
    · have hz2 : ¬ (gr_block (sv_b w) bc pl k).1 = 0 := by rw [← hwg]; exact hz
      have h2 := H1 hz2
      rw [← hwg] at h2
      simp (disch := omega) only [wY_block_90, el, el2, forall_eq, nI_leI, nI_ltI, nI_eq, vp_in_nI, nI_clamp, nI_1, li_e0, li_f0, li_l0, li_g0, li_m0, li_h0, li_e1, li_f1, li_l1, li_g1, li_m1, li_h1, li_e2, li_f2, li_l2, li_g2, li_m2, li_h2, li_e3, li_f3, li_l3, li_g3, li_m3, li_h3, li_e4, li_f4, li_l4, li_g4, li_m4, li_h4, li_e5, li_f5, li_l5, li_g5, li_m5, li_h5, li_e6, li_f6, li_l6, li_g6, li_m6, li_h6, li_e7, li_f7, li_l7, li_g7, li_m7, li_h7, li_e8, li_f8, li_l8, li_g8, li_m8, li_h8, li_e9, li_f9, li_l9, li_g9, li_m9, li_h9, li_e10, li_f10, li_l10, li_g10, li_m10, li_h10, li_e15, li_f15, li_l15, li_g15, li_m15, li_h15, li_e16, li_f16, li_l16, li_g16, li_m16, li_h16, li_e20, li_f20, li_l20, li_g20, li_m20, li_h20, li_e40, li_f40, li_l40, li_g40, li_m40, li_h40, li_e100, li_f100, li_l100, li_g100, li_m100, li_h100, li_e128, li_f128, li_l128, li_g128, li_m128, li_h128, li_e150, li_f150, li_l150, li_g150, li_m150, li_h150, li_e255, li_f255, li_l255, li_g255, li_m255, li_h255, li_e400, li_f400, li_l400, li_g400, li_m400, li_h400, li_e410, li_f410, li_l410, li_g410, li_m410, li_h410, li_e420, li_f420, li_l420, li_g420, li_m420, li_h420, li_e2000, li_f2000, li_l2000, li_g2000, li_m2000, li_h2000, li_e8200, li_f8200, li_l8200, li_g8200, li_m8200, li_h8200, li_e1000000, li_f1000000, li_l1000000, li_g1000000, li_m1000000, li_h1000000, li_50, li_50', li_200, li_200', nI_add, li_s1, li_t1, li_c1, li_c2, li_c3, li_c4, li_c5, li_c6, li_c7, li_c8, li_c9, li_c10, li_c11, li_c12, li_c13, li_c14, li_c15, sg_Kat, sg_Pat, pk_us, pk_uLs, true_implies, forall_const, not_true_eq_false, not_false_eq_true, false_implies, and_true, true_and, implies_true, and_self, if_true, if_false, ite_true, ite_false, reduceIte, eq_self, Nat.reduceEqDiff, Nat.reduceLeDiff, Nat.reduceLT, Int32.reduceLT, Int32.reduceLE]
      exact h2 _ _ _
  unfold gr_block at good H1
  unfold wpY_block
  refine yr_long hb p1 (fun z => ?_) (fun z v p => ?_)
  · rw [if_pos z] at good H1
    dsimp only
    refine br_t rfl ?_
    by_cases c1' : (gr_long (sv_b w) bc pl).2.1 < -40
    · rw [if_pos (Or.inl c1')] at H1
      exact br_t c1' (H1 (by show ¬ (-4 : Int32) = 0; decide) _ _ _)
    refine br_f c1' ?_
    by_cases c2' : 40 < (gr_long (sv_b w) bc pl).2.1
    · rw [if_pos (Or.inr (Or.inl c2'))] at H1
      exact br_t c2' (H1 (by show ¬ (-4 : Int32) = 0; decide) _ _ _)
    refine br_f c2' ⟨vp_in_nI (by omega) (by omega), ?_⟩
    rcases gr_ncase (gr_long (sv_b w) bc pl).2.1 with ⟨a, ha, e, ei⟩ | ⟨n1, n2, n3⟩ | ⟨n1, a, a0, a1, e, ei⟩
    · have ha40 : a ≤ 40 := by
        rw [gr_gt40, ei] at c2'; omega
      have hnn : ¬ (gr_long (sv_b w) bc pl).2.1 < 0 := by rw [e, show (0 : Int64) = lN 0 from rfl, pk_lLT ha (by decide)]; omega
      have hge : (0 : Int64) ≤ (gr_long (sv_b w) bc pl).2.1 := Int64.not_lt.mp hnn
      have hab : (gr_long (sv_b w) bc pl).2.1.toInt.natAbs = a := by rw [ei]; rfl
      rw [hab] at good H1
      have es : lN k + lN a = lN (k + a) := lN_add k a
      have hcmp : lN (k + a) ≤ 40 ↔ k + a ≤ 40 := pk_lLE (b := 40) (by omega) (by decide)
      by_cases hle : k + a ≤ 40
      · have hcond : ¬ ((gr_long (sv_b w) bc pl).2.1 < -40 ∨ 40 < (gr_long (sv_b w) bc pl).2.1 ∨ 40 < k + a) := by
          intro y
          rcases y with y | y | y
          · exact c1' y
          · exact c2' y
          · omega
        rw [if_neg hcond, if_neg hnn] at good
        have h2 := good a _ 0 ha40 (fun _ => ⟨rfl, rfl⟩) rfl
        rw [e] at hge ⊢
        simp (disch := omega) only [hge, wY_block_47, wY_block_73, evn, es, hcmp, hle, forall_eq, nI_leI, nI_ltI, nI_eq, vp_in_nI, nI_clamp, nI_1, li_e0, li_f0, li_l0, li_g0, li_m0, li_h0, li_e1, li_f1, li_l1, li_g1, li_m1, li_h1, li_e2, li_f2, li_l2, li_g2, li_m2, li_h2, li_e3, li_f3, li_l3, li_g3, li_m3, li_h3, li_e4, li_f4, li_l4, li_g4, li_m4, li_h4, li_e5, li_f5, li_l5, li_g5, li_m5, li_h5, li_e6, li_f6, li_l6, li_g6, li_m6, li_h6, li_e7, li_f7, li_l7, li_g7, li_m7, li_h7, li_e8, li_f8, li_l8, li_g8, li_m8, li_h8, li_e9, li_f9, li_l9, li_g9, li_m9, li_h9, li_e10, li_f10, li_l10, li_g10, li_m10, li_h10, li_e15, li_f15, li_l15, li_g15, li_m15, li_h15, li_e16, li_f16, li_l16, li_g16, li_m16, li_h16, li_e20, li_f20, li_l20, li_g20, li_m20, li_h20, li_e40, li_f40, li_l40, li_g40, li_m40, li_h40, li_e100, li_f100, li_l100, li_g100, li_m100, li_h100, li_e128, li_f128, li_l128, li_g128, li_m128, li_h128, li_e150, li_f150, li_l150, li_g150, li_m150, li_h150, li_e255, li_f255, li_l255, li_g255, li_m255, li_h255, li_e400, li_f400, li_l400, li_g400, li_m400, li_h400, li_e410, li_f410, li_l410, li_g410, li_m410, li_h410, li_e420, li_f420, li_l420, li_g420, li_m420, li_h420, li_e2000, li_f2000, li_l2000, li_g2000, li_m2000, li_h2000, li_e8200, li_f8200, li_l8200, li_g8200, li_m8200, li_h8200, li_e1000000, li_f1000000, li_l1000000, li_g1000000, li_m1000000, li_h1000000, li_50, li_50', li_200, li_200', nI_add, li_s1, li_t1, li_c1, li_c2, li_c3, li_c4, li_c5, li_c6, li_c7, li_c8, li_c9, li_c10, li_c11, li_c12, li_c13, li_c14, li_c15, sg_Kat, sg_Pat, pk_us, pk_uLs, true_implies, forall_const, not_true_eq_false, not_false_eq_true, false_implies, and_true, true_and, implies_true, and_self, if_true, if_false, ite_true, ite_false, reduceIte, eq_self, Nat.reduceEqDiff, Nat.reduceLeDiff, Nat.reduceLT, Int32.reduceLT, Int32.reduceLE]
        exact h2
      · rw [if_pos (Or.inr (Or.inr (by omega)))] at H1
        have h2 := H1 (by show ¬ (-4 : Int32) = 0; decide)
        rw [e] at hge ⊢
        simp (disch := omega) only [hge, wY_block_47, evn, es, hcmp, hle, forall_eq, nI_leI, nI_ltI, nI_eq, vp_in_nI, nI_clamp, nI_1, li_e0, li_f0, li_l0, li_g0, li_m0, li_h0, li_e1, li_f1, li_l1, li_g1, li_m1, li_h1, li_e2, li_f2, li_l2, li_g2, li_m2, li_h2, li_e3, li_f3, li_l3, li_g3, li_m3, li_h3, li_e4, li_f4, li_l4, li_g4, li_m4, li_h4, li_e5, li_f5, li_l5, li_g5, li_m5, li_h5, li_e6, li_f6, li_l6, li_g6, li_m6, li_h6, li_e7, li_f7, li_l7, li_g7, li_m7, li_h7, li_e8, li_f8, li_l8, li_g8, li_m8, li_h8, li_e9, li_f9, li_l9, li_g9, li_m9, li_h9, li_e10, li_f10, li_l10, li_g10, li_m10, li_h10, li_e15, li_f15, li_l15, li_g15, li_m15, li_h15, li_e16, li_f16, li_l16, li_g16, li_m16, li_h16, li_e20, li_f20, li_l20, li_g20, li_m20, li_h20, li_e40, li_f40, li_l40, li_g40, li_m40, li_h40, li_e100, li_f100, li_l100, li_g100, li_m100, li_h100, li_e128, li_f128, li_l128, li_g128, li_m128, li_h128, li_e150, li_f150, li_l150, li_g150, li_m150, li_h150, li_e255, li_f255, li_l255, li_g255, li_m255, li_h255, li_e400, li_f400, li_l400, li_g400, li_m400, li_h400, li_e410, li_f410, li_l410, li_g410, li_m410, li_h410, li_e420, li_f420, li_l420, li_g420, li_m420, li_h420, li_e2000, li_f2000, li_l2000, li_g2000, li_m2000, li_h2000, li_e8200, li_f8200, li_l8200, li_g8200, li_m8200, li_h8200, li_e1000000, li_f1000000, li_l1000000, li_g1000000, li_m1000000, li_h1000000, li_50, li_50', li_200, li_200', nI_add, li_s1, li_t1, li_c1, li_c2, li_c3, li_c4, li_c5, li_c6, li_c7, li_c8, li_c9, li_c10, li_c11, li_c12, li_c13, li_c14, li_c15, sg_Kat, sg_Pat, pk_us, pk_uLs, true_implies, forall_const, not_true_eq_false, not_false_eq_true, false_implies, and_true, true_and, implies_true, and_self, if_true, if_false, ite_true, ite_false, reduceIte, eq_self, Nat.reduceEqDiff, Nat.reduceLeDiff, Nat.reduceLT, Int32.reduceLT, Int32.reduceLE]
        exact h2 _ _ _
    · exact absurd n3 c1'
    · have ha40 : a ≤ 40 := by
        rw [gr_lt40, ei] at c1'; omega
      have hge : ¬ (0 : Int64) ≤ (gr_long (sv_b w) bc pl).2.1 := Int64.not_le.mpr n1
      have hab : (gr_long (sv_b w) bc pl).2.1.toInt.natAbs = a := by rw [ei]; omega
      rw [hab] at good H1
      have es : lN k + lN a = lN (k + a) := lN_add k a
      have hcmp : lN (k + a) ≤ 40 ↔ k + a ≤ 40 := pk_lLE (b := 40) (by omega) (by decide)
      by_cases hle : k + a ≤ 40
      · have hcond : ¬ ((gr_long (sv_b w) bc pl).2.1 < -40 ∨ 40 < (gr_long (sv_b w) bc pl).2.1 ∨ 40 < k + a) := by
          intro y
          rcases y with y | y | y
          · exact c1' y
          · exact c2' y
          · omega
        rw [if_neg hcond, if_pos n1] at good
        simp (disch := omega) only [hge, e, wY_block_47, evn, es, hcmp, hle, forall_eq, nI_leI, nI_ltI, nI_eq, vp_in_nI, nI_clamp, nI_1, li_e0, li_f0, li_l0, li_g0, li_m0, li_h0, li_e1, li_f1, li_l1, li_g1, li_m1, li_h1, li_e2, li_f2, li_l2, li_g2, li_m2, li_h2, li_e3, li_f3, li_l3, li_g3, li_m3, li_h3, li_e4, li_f4, li_l4, li_g4, li_m4, li_h4, li_e5, li_f5, li_l5, li_g5, li_m5, li_h5, li_e6, li_f6, li_l6, li_g6, li_m6, li_h6, li_e7, li_f7, li_l7, li_g7, li_m7, li_h7, li_e8, li_f8, li_l8, li_g8, li_m8, li_h8, li_e9, li_f9, li_l9, li_g9, li_m9, li_h9, li_e10, li_f10, li_l10, li_g10, li_m10, li_h10, li_e15, li_f15, li_l15, li_g15, li_m15, li_h15, li_e16, li_f16, li_l16, li_g16, li_m16, li_h16, li_e20, li_f20, li_l20, li_g20, li_m20, li_h20, li_e40, li_f40, li_l40, li_g40, li_m40, li_h40, li_e100, li_f100, li_l100, li_g100, li_m100, li_h100, li_e128, li_f128, li_l128, li_g128, li_m128, li_h128, li_e150, li_f150, li_l150, li_g150, li_m150, li_h150, li_e255, li_f255, li_l255, li_g255, li_m255, li_h255, li_e400, li_f400, li_l400, li_g400, li_m400, li_h400, li_e410, li_f410, li_l410, li_g410, li_m410, li_h410, li_e420, li_f420, li_l420, li_g420, li_m420, li_h420, li_e2000, li_f2000, li_l2000, li_g2000, li_m2000, li_h2000, li_e8200, li_f8200, li_l8200, li_g8200, li_m8200, li_h8200, li_e1000000, li_f1000000, li_l1000000, li_g1000000, li_m1000000, li_h1000000, li_50, li_50', li_200, li_200', nI_add, li_s1, li_t1, li_c1, li_c2, li_c3, li_c4, li_c5, li_c6, li_c7, li_c8, li_c9, li_c10, li_c11, li_c12, li_c13, li_c14, li_c15, sg_Kat, sg_Pat, pk_us, pk_uLs, true_implies, forall_const, not_true_eq_false, not_false_eq_true, false_implies, and_true, true_and, implies_true, and_self, if_true, if_false, ite_true, ite_false, reduceIte, eq_self, Nat.reduceEqDiff, Nat.reduceLeDiff, Nat.reduceLT, Int32.reduceLT, Int32.reduceLE]
        refine yr_long hb l1 (fun z2 => ?_) (fun z2 v2 p2 => ?_)
        · have h2 := good a _ 0 ha40 (fun _ => ⟨rfl, by rw [z2]⟩) z2.symm
          simp (disch := omega) only [hge, e, wY_block_73, forall_eq, nI_leI, nI_ltI, nI_eq, vp_in_nI, nI_clamp, nI_1, li_e0, li_f0, li_l0, li_g0, li_m0, li_h0, li_e1, li_f1, li_l1, li_g1, li_m1, li_h1, li_e2, li_f2, li_l2, li_g2, li_m2, li_h2, li_e3, li_f3, li_l3, li_g3, li_m3, li_h3, li_e4, li_f4, li_l4, li_g4, li_m4, li_h4, li_e5, li_f5, li_l5, li_g5, li_m5, li_h5, li_e6, li_f6, li_l6, li_g6, li_m6, li_h6, li_e7, li_f7, li_l7, li_g7, li_m7, li_h7, li_e8, li_f8, li_l8, li_g8, li_m8, li_h8, li_e9, li_f9, li_l9, li_g9, li_m9, li_h9, li_e10, li_f10, li_l10, li_g10, li_m10, li_h10, li_e15, li_f15, li_l15, li_g15, li_m15, li_h15, li_e16, li_f16, li_l16, li_g16, li_m16, li_h16, li_e20, li_f20, li_l20, li_g20, li_m20, li_h20, li_e40, li_f40, li_l40, li_g40, li_m40, li_h40, li_e100, li_f100, li_l100, li_g100, li_m100, li_h100, li_e128, li_f128, li_l128, li_g128, li_m128, li_h128, li_e150, li_f150, li_l150, li_g150, li_m150, li_h150, li_e255, li_f255, li_l255, li_g255, li_m255, li_h255, li_e400, li_f400, li_l400, li_g400, li_m400, li_h400, li_e410, li_f410, li_l410, li_g410, li_m410, li_h410, li_e420, li_f420, li_l420, li_g420, li_m420, li_h420, li_e2000, li_f2000, li_l2000, li_g2000, li_m2000, li_h2000, li_e8200, li_f8200, li_l8200, li_g8200, li_m8200, li_h8200, li_e1000000, li_f1000000, li_l1000000, li_g1000000, li_m1000000, li_h1000000, li_50, li_50', li_200, li_200', nI_add, li_s1, li_t1, li_c1, li_c2, li_c3, li_c4, li_c5, li_c6, li_c7, li_c8, li_c9, li_c10, li_c11, li_c12, li_c13, li_c14, li_c15, sg_Kat, sg_Pat, pk_us, pk_uLs, true_implies, forall_const, not_true_eq_false, not_false_eq_true, false_implies, and_true, true_and, implies_true, and_self, if_true, if_false, ite_true, ite_false, reduceIte, eq_self, Nat.reduceEqDiff, Nat.reduceLeDiff, Nat.reduceLT, Int32.reduceLT, Int32.reduceLE]
          exact h2
        · have h2 := good a p2 _ ha40 (fun y => absurd y z2) rfl
          simp (disch := omega) only [hge, e, wY_block_73, forall_eq, nI_leI, nI_ltI, nI_eq, vp_in_nI, nI_clamp, nI_1, li_e0, li_f0, li_l0, li_g0, li_m0, li_h0, li_e1, li_f1, li_l1, li_g1, li_m1, li_h1, li_e2, li_f2, li_l2, li_g2, li_m2, li_h2, li_e3, li_f3, li_l3, li_g3, li_m3, li_h3, li_e4, li_f4, li_l4, li_g4, li_m4, li_h4, li_e5, li_f5, li_l5, li_g5, li_m5, li_h5, li_e6, li_f6, li_l6, li_g6, li_m6, li_h6, li_e7, li_f7, li_l7, li_g7, li_m7, li_h7, li_e8, li_f8, li_l8, li_g8, li_m8, li_h8, li_e9, li_f9, li_l9, li_g9, li_m9, li_h9, li_e10, li_f10, li_l10, li_g10, li_m10, li_h10, li_e15, li_f15, li_l15, li_g15, li_m15, li_h15, li_e16, li_f16, li_l16, li_g16, li_m16, li_h16, li_e20, li_f20, li_l20, li_g20, li_m20, li_h20, li_e40, li_f40, li_l40, li_g40, li_m40, li_h40, li_e100, li_f100, li_l100, li_g100, li_m100, li_h100, li_e128, li_f128, li_l128, li_g128, li_m128, li_h128, li_e150, li_f150, li_l150, li_g150, li_m150, li_h150, li_e255, li_f255, li_l255, li_g255, li_m255, li_h255, li_e400, li_f400, li_l400, li_g400, li_m400, li_h400, li_e410, li_f410, li_l410, li_g410, li_m410, li_h410, li_e420, li_f420, li_l420, li_g420, li_m420, li_h420, li_e2000, li_f2000, li_l2000, li_g2000, li_m2000, li_h2000, li_e8200, li_f8200, li_l8200, li_g8200, li_m8200, li_h8200, li_e1000000, li_f1000000, li_l1000000, li_g1000000, li_m1000000, li_h1000000, li_50, li_50', li_200, li_200', nI_add, li_s1, li_t1, li_c1, li_c2, li_c3, li_c4, li_c5, li_c6, li_c7, li_c8, li_c9, li_c10, li_c11, li_c12, li_c13, li_c14, li_c15, sg_Kat, sg_Pat, pk_us, pk_uLs, true_implies, forall_const, not_true_eq_false, not_false_eq_true, false_implies, and_true, true_and, implies_true, and_self, if_true, if_false, ite_true, ite_false, reduceIte, eq_self, Nat.reduceEqDiff, Nat.reduceLeDiff, Nat.reduceLT, Int32.reduceLT, Int32.reduceLE]
          exact h2
      · rw [if_pos (Or.inr (Or.inr (by omega)))] at H1
        have h2 := H1 (by show ¬ (-4 : Int32) = 0; decide)
        simp (disch := omega) only [hge, e, wY_block_47, evn, es, hcmp, hle, forall_eq, nI_leI, nI_ltI, nI_eq, vp_in_nI, nI_clamp, nI_1, li_e0, li_f0, li_l0, li_g0, li_m0, li_h0, li_e1, li_f1, li_l1, li_g1, li_m1, li_h1, li_e2, li_f2, li_l2, li_g2, li_m2, li_h2, li_e3, li_f3, li_l3, li_g3, li_m3, li_h3, li_e4, li_f4, li_l4, li_g4, li_m4, li_h4, li_e5, li_f5, li_l5, li_g5, li_m5, li_h5, li_e6, li_f6, li_l6, li_g6, li_m6, li_h6, li_e7, li_f7, li_l7, li_g7, li_m7, li_h7, li_e8, li_f8, li_l8, li_g8, li_m8, li_h8, li_e9, li_f9, li_l9, li_g9, li_m9, li_h9, li_e10, li_f10, li_l10, li_g10, li_m10, li_h10, li_e15, li_f15, li_l15, li_g15, li_m15, li_h15, li_e16, li_f16, li_l16, li_g16, li_m16, li_h16, li_e20, li_f20, li_l20, li_g20, li_m20, li_h20, li_e40, li_f40, li_l40, li_g40, li_m40, li_h40, li_e100, li_f100, li_l100, li_g100, li_m100, li_h100, li_e128, li_f128, li_l128, li_g128, li_m128, li_h128, li_e150, li_f150, li_l150, li_g150, li_m150, li_h150, li_e255, li_f255, li_l255, li_g255, li_m255, li_h255, li_e400, li_f400, li_l400, li_g400, li_m400, li_h400, li_e410, li_f410, li_l410, li_g410, li_m410, li_h410, li_e420, li_f420, li_l420, li_g420, li_m420, li_h420, li_e2000, li_f2000, li_l2000, li_g2000, li_m2000, li_h2000, li_e8200, li_f8200, li_l8200, li_g8200, li_m8200, li_h8200, li_e1000000, li_f1000000, li_l1000000, li_g1000000, li_m1000000, li_h1000000, li_50, li_50', li_200, li_200', nI_add, li_s1, li_t1, li_c1, li_c2, li_c3, li_c4, li_c5, li_c6, li_c7, li_c8, li_c9, li_c10, li_c11, li_c12, li_c13, li_c14, li_c15, sg_Kat, sg_Pat, pk_us, pk_uLs, true_implies, forall_const, not_true_eq_false, not_false_eq_true, false_implies, and_true, true_and, implies_true, and_self, if_true, if_false, ite_true, ite_false, reduceIte, eq_self, Nat.reduceEqDiff, Nat.reduceLeDiff, Nat.reduceLT, Int32.reduceLT, Int32.reduceLE]
        exact h2 _ _ _
  · rw [if_neg z] at H1
    dsimp only
    exact br_f z (H1 z _ _ _)
end
