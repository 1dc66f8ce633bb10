/-! the reference's resolving: a value that was read -/
section
variable {y_types y_byteCount y_writtenCount y_numberCount y_listCount y_values y_depth y_records y_at y_wrong y_todo : Int32}
variable {y_kind y_of y_parts y_fallback y_name y_part y_alias y_given y_has y_bytes y_written y_valueType y_start y_child y_last y_next y_open y_come y_left y_todoValue y_todoType y_todoDefault y_pair y_whole : Nat → Int32}
variable {y_numbers y_list y_value : Nat → Int64}
variable {g : sg_T} {w : sr_V} {L O : List Int64} {post : SY → Prop}
theorem yl_fieldsV (hg : sg_ok g) (hY : sg_Y g y_of y_name y_part y_alias y_has y_given) (hw : sv_ok g w) (ht : sy_tree g w y_valueType y_start y_child y_next y_value) {t v : Nat} {rest : List sr_I} (htn : t < sg_n g) (h9 : sg_k g t = 9) (hv : v < sv_m w) (hv9 : sg_k g (sv_t w v) = 9) (hb : rest.length + 7 ≤ 2000)
    (hp : ∀ tv tt td, sy_do tv tt td (sr_fs g w v t (sg_p g t) 0 ++ rest) → post (nI (sg_n g), y_byteCount, y_writtenCount, y_numberCount, y_listCount, y_values, y_depth, y_records, y_at, y_wrong, nI (rest.length + 1 + sg_p g t), sg_K g, y_of, sg_P g, sg_f g, y_name, y_part, y_alias, y_given, y_has, y_bytes, y_written, y_numbers, y_list, y_valueType, y_start, y_child, y_last, y_next, y_value, y_open, y_come, y_left, tv, tt, td, y_pair, y_whole)) :
    ∀ (k l : Nat) (tv tt td : Nat → Int32), k + l = sg_p g t → sy_do tv tt td (sr_fs g w v t l k ++ rest) → wY_fields_14 post (nI v) (nI (sv_t w v)) (nI t) (k + 1) (nI k - 1) (nI (sg_n g)) y_byteCount y_writtenCount y_numberCount y_listCount y_values y_depth y_records y_at y_wrong (nI (rest.length + 1 + l)) (sg_K g) y_of (sg_P g) (sg_f g) y_name y_part y_alias y_given y_has y_bytes y_written y_numbers y_list y_valueType y_start y_child y_last y_next y_value y_open y_come y_left tv tt td y_pair y_whole := by
  have hn := hg.1
  have hm4 := hw.1
  have p5 := hg.2.2.1 t
  have pu := hg.2.2.1 (sv_t w v)
  have e1 : (nI 0 - 1 : Int32) < 0 := by decide
  have w1 := (hw.2 v hv).1
  have w5 := (hw.2 v hv).2.2.2.2.1
  have t3 := (ht v hv).2.2.1
  have t4 := (ht v hv).2.2.2.1
  rw [sv_cnt9 hv9] at w5 t3 t4
  intro k
  induction k with
  | zero =>
    intro l tv tt td hl hd
    have e2 : l = sg_p g t := by omega
    subst e2
    rw [wY_fields_14]
    simp (disch := omega) only [e1, forall_eq, nI_leI, nI_ltI, nI_eq, vp_in_nI, nI_clamp, nI_1, li_e0, li_f0, li_l0, li_g0, li_m0, li_h0, li_e1, li_f1, li_l1, li_g1, li_m1, li_h1, li_e2, li_f2, li_l2, li_g2, li_m2, li_h2, li_e3, li_f3, li_l3, li_g3, li_m3, li_h3, li_e4, li_f4, li_l4, li_g4, li_m4, li_h4, li_e5, li_f5, li_l5, li_g5, li_m5, li_h5, li_e6, li_f6, li_l6, li_g6, li_m6, li_h6, li_e7, li_f7, li_l7, li_g7, li_m7, li_h7, li_e8, li_f8, li_l8, li_g8, li_m8, li_h8, li_e9, li_f9, li_l9, li_g9, li_m9, li_h9, li_e10, li_f10, li_l10, li_g10, li_m10, li_h10, li_e15, li_f15, li_l15, li_g15, li_m15, li_h15, li_e16, li_f16, li_l16, li_g16, li_m16, li_h16, li_e20, li_f20, li_l20, li_g20, li_m20, li_h20, li_e40, li_f40, li_l40, li_g40, li_m40, li_h40, li_e100, li_f100, li_l100, li_g100, li_m100, li_h100, li_e128, li_f128, li_l128, li_g128, li_m128, li_h128, li_e150, li_f150, li_l150, li_g150, li_m150, li_h150, li_e255, li_f255, li_l255, li_g255, li_m255, li_h255, li_e400, li_f400, li_l400, li_g400, li_m400, li_h400, li_e410, li_f410, li_l410, li_g410, li_m410, li_h410, li_e420, li_f420, li_l420, li_g420, li_m420, li_h420, li_e2000, li_f2000, li_l2000, li_g2000, li_m2000, li_h2000, li_e8200, li_f8200, li_l8200, li_g8200, li_m8200, li_h8200, li_e1000000, li_f1000000, li_l1000000, li_g1000000, li_m1000000, li_h1000000, li_5, li_5', li_50, li_50', li_20, li_20', li_s1, li_t1, sg_Kat, sg_Pat, pk_us, pk_uLs, true_implies, forall_const, not_true_eq_false, not_false_eq_true, false_implies, and_true, true_and, implies_true, and_self, if_true, if_false, ite_true, ite_false, reduceIte, eq_self, Int32.reduceEq, Int32.reduceLT, Int32.reduceLE, Int32.reduceNeg]
    exact hp tv tt td hd
  | succ k ih =>
    intro l tv tt td hl hd
    have e2 : nI (k + 1) - 1 = nI k := nI_pred k
    have e3 : ¬ nI k < 0 := nI_pos (by omega)
    have e4 : nI k + (-1) = nI k - 1 := by rw [Int32.sub_eq_add_neg]
    have eT := hY.2.2.1 t k htn (by omega) (by omega)
    have eN := hY.2.1 t k htn (by omega) (by omega)
    have nam := hg.2.2.2.2.2.2.2.2.2.1 t k htn (by omega) h9
    obtain ⟨eA, eH, eV⟩ := hY.2.2.2.1 t k htn (by omega) h9
    have hlen : (sr_fs g w v t l (k + 1) ++ rest).length = rest.length + 1 + l := by
      rw [List.length_append, sr_fs_len]; omega
    have h400 : v < 400 := by omega
    -- none: a default, or none
    have hnone : sg_ff g (sv_t w v) (5 * t + k) = none → ∀ x7, ∃ n81, wY_fields_81 post (wY_fields_14 post (nI v) (nI (sv_t w v)) (nI t) (k + 1)) (nI v) (nI (sv_t w v)) (nI t) (nI k) (nI (5 * t + k)) (-1) (nI (sg_n g)) y_byteCount y_writtenCount y_numberCount y_listCount y_values y_depth y_records y_at y_wrong (nI (rest.length + 1 + l)) (sg_K g) y_of (sg_P g) (sg_f g) y_name y_part y_alias y_given y_has y_bytes y_written y_numbers y_list y_valueType y_start y_child y_last y_next y_value y_open y_come y_left tv tt td y_pair y_whole n81 x7 0 := by
      intro e x7
      have efi : sr_fi g w v t k = sr_dfi g (5 * t + k) := by
        unfold sr_fi
        rw [if_pos h400, e]
      refine ⟨1, ?_⟩
      rw [wY_fields_81]
      by_cases hh : sg_h g (5 * t + k) = 0
      · simp (disch := omega) only [eH, hh, wY_fields_130, eT, eV, forall_eq, nI_leI, nI_ltI, nI_eq, vp_in_nI, nI_clamp, nI_1, li_e0, li_f0, li_l0, li_g0, li_m0, li_h0, li_e1, li_f1, li_l1, li_g1, li_m1, li_h1, li_e2, li_f2, li_l2, li_g2, li_m2, li_h2, li_e3, li_f3, li_l3, li_g3, li_m3, li_h3, li_e4, li_f4, li_l4, li_g4, li_m4, li_h4, li_e5, li_f5, li_l5, li_g5, li_m5, li_h5, li_e6, li_f6, li_l6, li_g6, li_m6, li_h6, li_e7, li_f7, li_l7, li_g7, li_m7, li_h7, li_e8, li_f8, li_l8, li_g8, li_m8, li_h8, li_e9, li_f9, li_l9, li_g9, li_m9, li_h9, li_e10, li_f10, li_l10, li_g10, li_m10, li_h10, li_e15, li_f15, li_l15, li_g15, li_m15, li_h15, li_e16, li_f16, li_l16, li_g16, li_m16, li_h16, li_e20, li_f20, li_l20, li_g20, li_m20, li_h20, li_e40, li_f40, li_l40, li_g40, li_m40, li_h40, li_e100, li_f100, li_l100, li_g100, li_m100, li_h100, li_e128, li_f128, li_l128, li_g128, li_m128, li_h128, li_e150, li_f150, li_l150, li_g150, li_m150, li_h150, li_e255, li_f255, li_l255, li_g255, li_m255, li_h255, li_e400, li_f400, li_l400, li_g400, li_m400, li_h400, li_e410, li_f410, li_l410, li_g410, li_m410, li_h410, li_e420, li_f420, li_l420, li_g420, li_m420, li_h420, li_e2000, li_f2000, li_l2000, li_g2000, li_m2000, li_h2000, li_e8200, li_f8200, li_l8200, li_g8200, li_m8200, li_h8200, li_e1000000, li_f1000000, li_l1000000, li_g1000000, li_m1000000, li_h1000000, li_5, li_5', li_50, li_50', li_20, li_20', li_s1, li_t1, sg_Kat, sg_Pat, pk_us, pk_uLs, true_implies, forall_const, not_true_eq_false, not_false_eq_true, false_implies, and_true, true_and, implies_true, and_self, if_true, if_false, ite_true, ite_false, reduceIte, eq_self, Int32.reduceEq, Int32.reduceLT, Int32.reduceLE, Int32.reduceNeg]
        refine yl_later (by omega) ?_
        simp (disch := omega) only [e4, forall_eq, nI_leI, nI_ltI, nI_eq, vp_in_nI, nI_clamp, nI_1, li_e0, li_f0, li_l0, li_g0, li_m0, li_h0, li_e1, li_f1, li_l1, li_g1, li_m1, li_h1, li_e2, li_f2, li_l2, li_g2, li_m2, li_h2, li_e3, li_f3, li_l3, li_g3, li_m3, li_h3, li_e4, li_f4, li_l4, li_g4, li_m4, li_h4, li_e5, li_f5, li_l5, li_g5, li_m5, li_h5, li_e6, li_f6, li_l6, li_g6, li_m6, li_h6, li_e7, li_f7, li_l7, li_g7, li_m7, li_h7, li_e8, li_f8, li_l8, li_g8, li_m8, li_h8, li_e9, li_f9, li_l9, li_g9, li_m9, li_h9, li_e10, li_f10, li_l10, li_g10, li_m10, li_h10, li_e15, li_f15, li_l15, li_g15, li_m15, li_h15, li_e16, li_f16, li_l16, li_g16, li_m16, li_h16, li_e20, li_f20, li_l20, li_g20, li_m20, li_h20, li_e40, li_f40, li_l40, li_g40, li_m40, li_h40, li_e100, li_f100, li_l100, li_g100, li_m100, li_h100, li_e128, li_f128, li_l128, li_g128, li_m128, li_h128, li_e150, li_f150, li_l150, li_g150, li_m150, li_h150, li_e255, li_f255, li_l255, li_g255, li_m255, li_h255, li_e400, li_f400, li_l400, li_g400, li_m400, li_h400, li_e410, li_f410, li_l410, li_g410, li_m410, li_h410, li_e420, li_f420, li_l420, li_g420, li_m420, li_h420, li_e2000, li_f2000, li_l2000, li_g2000, li_m2000, li_h2000, li_e8200, li_f8200, li_l8200, li_g8200, li_m8200, li_h8200, li_e1000000, li_f1000000, li_l1000000, li_g1000000, li_m1000000, li_h1000000, li_5, li_5', li_50, li_50', li_20, li_20', li_s1, li_t1, sg_Kat, sg_Pat, pk_us, pk_uLs, true_implies, forall_const, not_true_eq_false, not_false_eq_true, false_implies, and_true, true_and, implies_true, and_self, if_true, if_false, ite_true, ite_false, reduceIte, eq_self, Int32.reduceEq, Int32.reduceLT, Int32.reduceLE, Int32.reduceNeg]
        refine ih (l + 1) _ _ _ (by omega) ?_
        have h5 := sy_do_push hd (sr_fi g w v t k) (v := -3) (t := nI (sg_t g (5 * t + k))) (x := sg_v g (5 * t + k)) (by
          rw [efi, sr_dfi, if_pos hh]; exact yl_cell3)
        rw [hlen] at h5
        exact h5
      · simp (disch := omega) only [eH, hh, wY_fields_130, eT, eV, forall_eq, nI_leI, nI_ltI, nI_eq, vp_in_nI, nI_clamp, nI_1, li_e0, li_f0, li_l0, li_g0, li_m0, li_h0, li_e1, li_f1, li_l1, li_g1, li_m1, li_h1, li_e2, li_f2, li_l2, li_g2, li_m2, li_h2, li_e3, li_f3, li_l3, li_g3, li_m3, li_h3, li_e4, li_f4, li_l4, li_g4, li_m4, li_h4, li_e5, li_f5, li_l5, li_g5, li_m5, li_h5, li_e6, li_f6, li_l6, li_g6, li_m6, li_h6, li_e7, li_f7, li_l7, li_g7, li_m7, li_h7, li_e8, li_f8, li_l8, li_g8, li_m8, li_h8, li_e9, li_f9, li_l9, li_g9, li_m9, li_h9, li_e10, li_f10, li_l10, li_g10, li_m10, li_h10, li_e15, li_f15, li_l15, li_g15, li_m15, li_h15, li_e16, li_f16, li_l16, li_g16, li_m16, li_h16, li_e20, li_f20, li_l20, li_g20, li_m20, li_h20, li_e40, li_f40, li_l40, li_g40, li_m40, li_h40, li_e100, li_f100, li_l100, li_g100, li_m100, li_h100, li_e128, li_f128, li_l128, li_g128, li_m128, li_h128, li_e150, li_f150, li_l150, li_g150, li_m150, li_h150, li_e255, li_f255, li_l255, li_g255, li_m255, li_h255, li_e400, li_f400, li_l400, li_g400, li_m400, li_h400, li_e410, li_f410, li_l410, li_g410, li_m410, li_h410, li_e420, li_f420, li_l420, li_g420, li_m420, li_h420, li_e2000, li_f2000, li_l2000, li_g2000, li_m2000, li_h2000, li_e8200, li_f8200, li_l8200, li_g8200, li_m8200, li_h8200, li_e1000000, li_f1000000, li_l1000000, li_g1000000, li_m1000000, li_h1000000, li_5, li_5', li_50, li_50', li_20, li_20', li_s1, li_t1, sg_Kat, sg_Pat, pk_us, pk_uLs, true_implies, forall_const, not_true_eq_false, not_false_eq_true, false_implies, and_true, true_and, implies_true, and_self, if_true, if_false, ite_true, ite_false, reduceIte, eq_self, Int32.reduceEq, Int32.reduceLT, Int32.reduceLE, Int32.reduceNeg]
        refine yl_later (by omega) ?_
        simp (disch := omega) only [e4, forall_eq, nI_leI, nI_ltI, nI_eq, vp_in_nI, nI_clamp, nI_1, li_e0, li_f0, li_l0, li_g0, li_m0, li_h0, li_e1, li_f1, li_l1, li_g1, li_m1, li_h1, li_e2, li_f2, li_l2, li_g2, li_m2, li_h2, li_e3, li_f3, li_l3, li_g3, li_m3, li_h3, li_e4, li_f4, li_l4, li_g4, li_m4, li_h4, li_e5, li_f5, li_l5, li_g5, li_m5, li_h5, li_e6, li_f6, li_l6, li_g6, li_m6, li_h6, li_e7, li_f7, li_l7, li_g7, li_m7, li_h7, li_e8, li_f8, li_l8, li_g8, li_m8, li_h8, li_e9, li_f9, li_l9, li_g9, li_m9, li_h9, li_e10, li_f10, li_l10, li_g10, li_m10, li_h10, li_e15, li_f15, li_l15, li_g15, li_m15, li_h15, li_e16, li_f16, li_l16, li_g16, li_m16, li_h16, li_e20, li_f20, li_l20, li_g20, li_m20, li_h20, li_e40, li_f40, li_l40, li_g40, li_m40, li_h40, li_e100, li_f100, li_l100, li_g100, li_m100, li_h100, li_e128, li_f128, li_l128, li_g128, li_m128, li_h128, li_e150, li_f150, li_l150, li_g150, li_m150, li_h150, li_e255, li_f255, li_l255, li_g255, li_m255, li_h255, li_e400, li_f400, li_l400, li_g400, li_m400, li_h400, li_e410, li_f410, li_l410, li_g410, li_m410, li_h410, li_e420, li_f420, li_l420, li_g420, li_m420, li_h420, li_e2000, li_f2000, li_l2000, li_g2000, li_m2000, li_h2000, li_e8200, li_f8200, li_l8200, li_g8200, li_m8200, li_h8200, li_e1000000, li_f1000000, li_l1000000, li_g1000000, li_m1000000, li_h1000000, li_5, li_5', li_50, li_50', li_20, li_20', li_s1, li_t1, sg_Kat, sg_Pat, pk_us, pk_uLs, true_implies, forall_const, not_true_eq_false, not_false_eq_true, false_implies, and_true, true_and, implies_true, and_self, if_true, if_false, ite_true, ite_false, reduceIte, eq_self, Int32.reduceEq, Int32.reduceLT, Int32.reduceLE, Int32.reduceNeg]
        refine ih (l + 1) _ _ _ (by omega) ?_
        have h5 := sy_do_push hd (sr_fi g w v t k) (v := -1) (t := nI (sg_t g (5 * t + k))) (x := sg_v g (5 * t + k)) (by
          rw [efi, sr_dfi, if_neg hh]; exact yl_cell1)
        rw [hlen] at h5
        exact h5
    have hsome : ∀ q, sg_ff g (sv_t w v) (5 * t + k) = some q → ∃ n81, wY_fields_81 post (wY_fields_14 post (nI v) (nI (sv_t w v)) (nI t) (k + 1)) (nI v) (nI (sv_t w v)) (nI t) (nI k) (nI (5 * t + k)) (nI q) (nI (sg_n g)) y_byteCount y_writtenCount y_numberCount y_listCount y_values y_depth y_records y_at y_wrong (nI (rest.length + 1 + l)) (sg_K g) y_of (sg_P g) (sg_f g) y_name y_part y_alias y_given y_has y_bytes y_written y_numbers y_list y_valueType y_start y_child y_last y_next y_value y_open y_come y_left tv tt td y_pair y_whole n81 (y_child v) 0 := by
      intro q e
      have hq := sg_ff_lt e
      have efi : sr_fi g w v t k = (0, sv_ch (sv_a w) v q, sg_t g (5 * t + k), 0) := by
        unfold sr_fi
        rw [if_pos h400, e]
      rw [t3 (by omega)]
      have H : ∀ m i, i + m = q → wY_fields_81 post (wY_fields_14 post (nI v) (nI (sv_t w v)) (nI t) (k + 1)) (nI v) (nI (sv_t w v)) (nI t) (nI k) (nI (5 * t + k)) (nI q) (nI (sg_n g)) y_byteCount y_writtenCount y_numberCount y_listCount y_values y_depth y_records y_at y_wrong (nI (rest.length + 1 + l)) (sg_K g) y_of (sg_P g) (sg_f g) y_name y_part y_alias y_given y_has y_bytes y_written y_numbers y_list y_valueType y_start y_child y_last y_next y_value y_open y_come y_left tv tt td y_pair y_whole (m + 1) (nI (sv_ch (sv_a w) v i)) (nI i) := by
        intro m
        induction m with
        | zero =>
          intro i hi
          have e5 : i = q := by omega
          subst e5
          have e6 : ¬ nI i < 0 := nI_pos (by omega)
          rw [wY_fields_81]
          simp (disch := omega) only [e6, Nat.le_refl, wY_fields_130, eT, eV, forall_eq, nI_leI, nI_ltI, nI_eq, vp_in_nI, nI_clamp, nI_1, li_e0, li_f0, li_l0, li_g0, li_m0, li_h0, li_e1, li_f1, li_l1, li_g1, li_m1, li_h1, li_e2, li_f2, li_l2, li_g2, li_m2, li_h2, li_e3, li_f3, li_l3, li_g3, li_m3, li_h3, li_e4, li_f4, li_l4, li_g4, li_m4, li_h4, li_e5, li_f5, li_l5, li_g5, li_m5, li_h5, li_e6, li_f6, li_l6, li_g6, li_m6, li_h6, li_e7, li_f7, li_l7, li_g7, li_m7, li_h7, li_e8, li_f8, li_l8, li_g8, li_m8, li_h8, li_e9, li_f9, li_l9, li_g9, li_m9, li_h9, li_e10, li_f10, li_l10, li_g10, li_m10, li_h10, li_e15, li_f15, li_l15, li_g15, li_m15, li_h15, li_e16, li_f16, li_l16, li_g16, li_m16, li_h16, li_e20, li_f20, li_l20, li_g20, li_m20, li_h20, li_e40, li_f40, li_l40, li_g40, li_m40, li_h40, li_e100, li_f100, li_l100, li_g100, li_m100, li_h100, li_e128, li_f128, li_l128, li_g128, li_m128, li_h128, li_e150, li_f150, li_l150, li_g150, li_m150, li_h150, li_e255, li_f255, li_l255, li_g255, li_m255, li_h255, li_e400, li_f400, li_l400, li_g400, li_m400, li_h400, li_e410, li_f410, li_l410, li_g410, li_m410, li_h410, li_e420, li_f420, li_l420, li_g420, li_m420, li_h420, li_e2000, li_f2000, li_l2000, li_g2000, li_m2000, li_h2000, li_e8200, li_f8200, li_l8200, li_g8200, li_m8200, li_h8200, li_e1000000, li_f1000000, li_l1000000, li_g1000000, li_m1000000, li_h1000000, li_5, li_5', li_50, li_50', li_20, li_20', li_s1, li_t1, sg_Kat, sg_Pat, pk_us, pk_uLs, true_implies, forall_const, not_true_eq_false, not_false_eq_true, false_implies, and_true, true_and, implies_true, and_self, if_true, if_false, ite_true, ite_false, reduceIte, eq_self, Int32.reduceEq, Int32.reduceLT, Int32.reduceLE, Int32.reduceNeg]
          refine yl_later (by omega) ?_
          simp (disch := omega) only [e4, forall_eq, nI_leI, nI_ltI, nI_eq, vp_in_nI, nI_clamp, nI_1, li_e0, li_f0, li_l0, li_g0, li_m0, li_h0, li_e1, li_f1, li_l1, li_g1, li_m1, li_h1, li_e2, li_f2, li_l2, li_g2, li_m2, li_h2, li_e3, li_f3, li_l3, li_g3, li_m3, li_h3, li_e4, li_f4, li_l4, li_g4, li_m4, li_h4, li_e5, li_f5, li_l5, li_g5, li_m5, li_h5, li_e6, li_f6, li_l6, li_g6, li_m6, li_h6, li_e7, li_f7, li_l7, li_g7, li_m7, li_h7, li_e8, li_f8, li_l8, li_g8, li_m8, li_h8, li_e9, li_f9, li_l9, li_g9, li_m9, li_h9, li_e10, li_f10, li_l10, li_g10, li_m10, li_h10, li_e15, li_f15, li_l15, li_g15, li_m15, li_h15, li_e16, li_f16, li_l16, li_g16, li_m16, li_h16, li_e20, li_f20, li_l20, li_g20, li_m20, li_h20, li_e40, li_f40, li_l40, li_g40, li_m40, li_h40, li_e100, li_f100, li_l100, li_g100, li_m100, li_h100, li_e128, li_f128, li_l128, li_g128, li_m128, li_h128, li_e150, li_f150, li_l150, li_g150, li_m150, li_h150, li_e255, li_f255, li_l255, li_g255, li_m255, li_h255, li_e400, li_f400, li_l400, li_g400, li_m400, li_h400, li_e410, li_f410, li_l410, li_g410, li_m410, li_h410, li_e420, li_f420, li_l420, li_g420, li_m420, li_h420, li_e2000, li_f2000, li_l2000, li_g2000, li_m2000, li_h2000, li_e8200, li_f8200, li_l8200, li_g8200, li_m8200, li_h8200, li_e1000000, li_f1000000, li_l1000000, li_g1000000, li_m1000000, li_h1000000, li_5, li_5', li_50, li_50', li_20, li_20', li_s1, li_t1, sg_Kat, sg_Pat, pk_us, pk_uLs, true_implies, forall_const, not_true_eq_false, not_false_eq_true, false_implies, and_true, true_and, implies_true, and_self, if_true, if_false, ite_true, ite_false, reduceIte, eq_self, Int32.reduceEq, Int32.reduceLT, Int32.reduceLE, Int32.reduceNeg]
          refine ih (l + 1) _ _ _ (by omega) ?_
          have h5 := sy_do_push hd (sr_fi g w v t k) (v := nI (sv_ch (sv_a w) v i)) (t := nI (sg_t g (5 * t + k))) (x := sg_v g (5 * t + k)) (by
            rw [efi]; exact yl_cell0)
          rw [hlen] at h5
          exact h5
        | succ m ihm =>
          intro i hi
          obtain ⟨a1, a2, a3⟩ := w5 i (by omega)
          have e6 : ¬ q ≤ i := by omega
          have e7 := t4 i (by omega)
          rw [wY_fields_81]
          simp (disch := omega) only [e6, e7, forall_eq, nI_leI, nI_ltI, nI_eq, vp_in_nI, nI_clamp, nI_1, li_e0, li_f0, li_l0, li_g0, li_m0, li_h0, li_e1, li_f1, li_l1, li_g1, li_m1, li_h1, li_e2, li_f2, li_l2, li_g2, li_m2, li_h2, li_e3, li_f3, li_l3, li_g3, li_m3, li_h3, li_e4, li_f4, li_l4, li_g4, li_m4, li_h4, li_e5, li_f5, li_l5, li_g5, li_m5, li_h5, li_e6, li_f6, li_l6, li_g6, li_m6, li_h6, li_e7, li_f7, li_l7, li_g7, li_m7, li_h7, li_e8, li_f8, li_l8, li_g8, li_m8, li_h8, li_e9, li_f9, li_l9, li_g9, li_m9, li_h9, li_e10, li_f10, li_l10, li_g10, li_m10, li_h10, li_e15, li_f15, li_l15, li_g15, li_m15, li_h15, li_e16, li_f16, li_l16, li_g16, li_m16, li_h16, li_e20, li_f20, li_l20, li_g20, li_m20, li_h20, li_e40, li_f40, li_l40, li_g40, li_m40, li_h40, li_e100, li_f100, li_l100, li_g100, li_m100, li_h100, li_e128, li_f128, li_l128, li_g128, li_m128, li_h128, li_e150, li_f150, li_l150, li_g150, li_m150, li_h150, li_e255, li_f255, li_l255, li_g255, li_m255, li_h255, li_e400, li_f400, li_l400, li_g400, li_m400, li_h400, li_e410, li_f410, li_l410, li_g410, li_m410, li_h410, li_e420, li_f420, li_l420, li_g420, li_m420, li_h420, li_e2000, li_f2000, li_l2000, li_g2000, li_m2000, li_h2000, li_e8200, li_f8200, li_l8200, li_g8200, li_m8200, li_h8200, li_e1000000, li_f1000000, li_l1000000, li_g1000000, li_m1000000, li_h1000000, li_5, li_5', li_50, li_50', li_20, li_20', li_s1, li_t1, sg_Kat, sg_Pat, pk_us, pk_uLs, true_implies, forall_const, not_true_eq_false, not_false_eq_true, false_implies, and_true, true_and, implies_true, and_self, if_true, if_false, ite_true, ite_false, reduceIte, eq_self, Int32.reduceEq, Int32.reduceLT, Int32.reduceLE, Int32.reduceNeg]
          exact ihm (i + 1) (by omega)
      exact ⟨q + 1, H q 0 (by omega)⟩
    rw [wY_fields_14]
    simp (disch := omega) only [e2, e3, eN, forall_eq, nI_leI, nI_ltI, nI_eq, vp_in_nI, nI_clamp, nI_1, li_e0, li_f0, li_l0, li_g0, li_m0, li_h0, li_e1, li_f1, li_l1, li_g1, li_m1, li_h1, li_e2, li_f2, li_l2, li_g2, li_m2, li_h2, li_e3, li_f3, li_l3, li_g3, li_m3, li_h3, li_e4, li_f4, li_l4, li_g4, li_m4, li_h4, li_e5, li_f5, li_l5, li_g5, li_m5, li_h5, li_e6, li_f6, li_l6, li_g6, li_m6, li_h6, li_e7, li_f7, li_l7, li_g7, li_m7, li_h7, li_e8, li_f8, li_l8, li_g8, li_m8, li_h8, li_e9, li_f9, li_l9, li_g9, li_m9, li_h9, li_e10, li_f10, li_l10, li_g10, li_m10, li_h10, li_e15, li_f15, li_l15, li_g15, li_m15, li_h15, li_e16, li_f16, li_l16, li_g16, li_m16, li_h16, li_e20, li_f20, li_l20, li_g20, li_m20, li_h20, li_e40, li_f40, li_l40, li_g40, li_m40, li_h40, li_e100, li_f100, li_l100, li_g100, li_m100, li_h100, li_e128, li_f128, li_l128, li_g128, li_m128, li_h128, li_e150, li_f150, li_l150, li_g150, li_m150, li_h150, li_e255, li_f255, li_l255, li_g255, li_m255, li_h255, li_e400, li_f400, li_l400, li_g400, li_m400, li_h400, li_e410, li_f410, li_l410, li_g410, li_m410, li_h410, li_e420, li_f420, li_l420, li_g420, li_m420, li_h420, li_e2000, li_f2000, li_l2000, li_g2000, li_m2000, li_h2000, li_e8200, li_f8200, li_l8200, li_g8200, li_m8200, li_h8200, li_e1000000, li_f1000000, li_l1000000, li_g1000000, li_m1000000, li_h1000000, li_5, li_5', li_50, li_50', li_20, li_20', li_s1, li_t1, sg_Kat, sg_Pat, pk_us, pk_uLs, true_implies, forall_const, not_true_eq_false, not_false_eq_true, false_implies, and_true, true_and, implies_true, and_self, if_true, if_false, ite_true, ite_false, reduceIte, eq_self, Int32.reduceEq, Int32.reduceLT, Int32.reduceLE, Int32.reduceNeg]
    refine yt_find hg hY w1 (by omega) _ ?_
    unfold sg_ff at hnone hsome
    cases e : sg_find g (sv_t w v) (nI (sg_m g (5 * t + k))) with
    | none =>
      rw [e, if_pos rfl] at hnone hsome
      have e5 : ¬ (0 : Int32) ≤ -1 := by decide
      rcases nam with hal | ⟨al, hal1, hal2⟩
      · rw [if_pos hal] at hnone
        have e6 : (-1 : Int32) < 0 := by decide
        simp (disch := omega) only [sd_oi, e5, eA, hal, e6, forall_eq, nI_leI, nI_ltI, nI_eq, vp_in_nI, nI_clamp, nI_1, li_e0, li_f0, li_l0, li_g0, li_m0, li_h0, li_e1, li_f1, li_l1, li_g1, li_m1, li_h1, li_e2, li_f2, li_l2, li_g2, li_m2, li_h2, li_e3, li_f3, li_l3, li_g3, li_m3, li_h3, li_e4, li_f4, li_l4, li_g4, li_m4, li_h4, li_e5, li_f5, li_l5, li_g5, li_m5, li_h5, li_e6, li_f6, li_l6, li_g6, li_m6, li_h6, li_e7, li_f7, li_l7, li_g7, li_m7, li_h7, li_e8, li_f8, li_l8, li_g8, li_m8, li_h8, li_e9, li_f9, li_l9, li_g9, li_m9, li_h9, li_e10, li_f10, li_l10, li_g10, li_m10, li_h10, li_e15, li_f15, li_l15, li_g15, li_m15, li_h15, li_e16, li_f16, li_l16, li_g16, li_m16, li_h16, li_e20, li_f20, li_l20, li_g20, li_m20, li_h20, li_e40, li_f40, li_l40, li_g40, li_m40, li_h40, li_e100, li_f100, li_l100, li_g100, li_m100, li_h100, li_e128, li_f128, li_l128, li_g128, li_m128, li_h128, li_e150, li_f150, li_l150, li_g150, li_m150, li_h150, li_e255, li_f255, li_l255, li_g255, li_m255, li_h255, li_e400, li_f400, li_l400, li_g400, li_m400, li_h400, li_e410, li_f410, li_l410, li_g410, li_m410, li_h410, li_e420, li_f420, li_l420, li_g420, li_m420, li_h420, li_e2000, li_f2000, li_l2000, li_g2000, li_m2000, li_h2000, li_e8200, li_f8200, li_l8200, li_g8200, li_m8200, li_h8200, li_e1000000, li_f1000000, li_l1000000, li_g1000000, li_m1000000, li_h1000000, li_5, li_5', li_50, li_50', li_20, li_20', li_s1, li_t1, sg_Kat, sg_Pat, pk_us, pk_uLs, true_implies, forall_const, not_true_eq_false, not_false_eq_true, false_implies, and_true, true_and, implies_true, and_self, if_true, if_false, ite_true, ite_false, reduceIte, eq_self, Int32.reduceEq, Int32.reduceLT, Int32.reduceLE, Int32.reduceNeg]
        exact hnone rfl _
      · have e6 : ¬ sg_a g (5 * t + k) = -1 := by rw [hal2]; exact li_m1 (by omega)
        have e7 : ¬ sg_a g (5 * t + k) < 0 := by rw [hal2]; exact nI_pos (by omega)
        rw [if_neg e6] at hnone hsome
        simp (disch := omega) only [sd_oi, e5, eA, e7, forall_eq, nI_leI, nI_ltI, nI_eq, vp_in_nI, nI_clamp, nI_1, li_e0, li_f0, li_l0, li_g0, li_m0, li_h0, li_e1, li_f1, li_l1, li_g1, li_m1, li_h1, li_e2, li_f2, li_l2, li_g2, li_m2, li_h2, li_e3, li_f3, li_l3, li_g3, li_m3, li_h3, li_e4, li_f4, li_l4, li_g4, li_m4, li_h4, li_e5, li_f5, li_l5, li_g5, li_m5, li_h5, li_e6, li_f6, li_l6, li_g6, li_m6, li_h6, li_e7, li_f7, li_l7, li_g7, li_m7, li_h7, li_e8, li_f8, li_l8, li_g8, li_m8, li_h8, li_e9, li_f9, li_l9, li_g9, li_m9, li_h9, li_e10, li_f10, li_l10, li_g10, li_m10, li_h10, li_e15, li_f15, li_l15, li_g15, li_m15, li_h15, li_e16, li_f16, li_l16, li_g16, li_m16, li_h16, li_e20, li_f20, li_l20, li_g20, li_m20, li_h20, li_e40, li_f40, li_l40, li_g40, li_m40, li_h40, li_e100, li_f100, li_l100, li_g100, li_m100, li_h100, li_e128, li_f128, li_l128, li_g128, li_m128, li_h128, li_e150, li_f150, li_l150, li_g150, li_m150, li_h150, li_e255, li_f255, li_l255, li_g255, li_m255, li_h255, li_e400, li_f400, li_l400, li_g400, li_m400, li_h400, li_e410, li_f410, li_l410, li_g410, li_m410, li_h410, li_e420, li_f420, li_l420, li_g420, li_m420, li_h420, li_e2000, li_f2000, li_l2000, li_g2000, li_m2000, li_h2000, li_e8200, li_f8200, li_l8200, li_g8200, li_m8200, li_h8200, li_e1000000, li_f1000000, li_l1000000, li_g1000000, li_m1000000, li_h1000000, li_5, li_5', li_50, li_50', li_20, li_20', li_s1, li_t1, sg_Kat, sg_Pat, pk_us, pk_uLs, true_implies, forall_const, not_true_eq_false, not_false_eq_true, false_implies, and_true, true_and, implies_true, and_self, if_true, if_false, ite_true, ite_false, reduceIte, eq_self, Int32.reduceEq, Int32.reduceLT, Int32.reduceLE, Int32.reduceNeg]
        refine yt_find hg hY w1 (by omega) _ ?_
        cases e8 : sg_find g (sv_t w v) (sg_a g (5 * t + k)) with
        | none =>
          simp (disch := omega) only [sd_oi, forall_eq, nI_leI, nI_ltI, nI_eq, vp_in_nI, nI_clamp, nI_1, li_e0, li_f0, li_l0, li_g0, li_m0, li_h0, li_e1, li_f1, li_l1, li_g1, li_m1, li_h1, li_e2, li_f2, li_l2, li_g2, li_m2, li_h2, li_e3, li_f3, li_l3, li_g3, li_m3, li_h3, li_e4, li_f4, li_l4, li_g4, li_m4, li_h4, li_e5, li_f5, li_l5, li_g5, li_m5, li_h5, li_e6, li_f6, li_l6, li_g6, li_m6, li_h6, li_e7, li_f7, li_l7, li_g7, li_m7, li_h7, li_e8, li_f8, li_l8, li_g8, li_m8, li_h8, li_e9, li_f9, li_l9, li_g9, li_m9, li_h9, li_e10, li_f10, li_l10, li_g10, li_m10, li_h10, li_e15, li_f15, li_l15, li_g15, li_m15, li_h15, li_e16, li_f16, li_l16, li_g16, li_m16, li_h16, li_e20, li_f20, li_l20, li_g20, li_m20, li_h20, li_e40, li_f40, li_l40, li_g40, li_m40, li_h40, li_e100, li_f100, li_l100, li_g100, li_m100, li_h100, li_e128, li_f128, li_l128, li_g128, li_m128, li_h128, li_e150, li_f150, li_l150, li_g150, li_m150, li_h150, li_e255, li_f255, li_l255, li_g255, li_m255, li_h255, li_e400, li_f400, li_l400, li_g400, li_m400, li_h400, li_e410, li_f410, li_l410, li_g410, li_m410, li_h410, li_e420, li_f420, li_l420, li_g420, li_m420, li_h420, li_e2000, li_f2000, li_l2000, li_g2000, li_m2000, li_h2000, li_e8200, li_f8200, li_l8200, li_g8200, li_m8200, li_h8200, li_e1000000, li_f1000000, li_l1000000, li_g1000000, li_m1000000, li_h1000000, li_5, li_5', li_50, li_50', li_20, li_20', li_s1, li_t1, sg_Kat, sg_Pat, pk_us, pk_uLs, true_implies, forall_const, not_true_eq_false, not_false_eq_true, false_implies, and_true, true_and, implies_true, and_self, if_true, if_false, ite_true, ite_false, reduceIte, eq_self, Int32.reduceEq, Int32.reduceLT, Int32.reduceLE, Int32.reduceNeg]
          exact hnone e8 _
        | some q =>
          simp (disch := omega) only [sd_oi, forall_eq, nI_leI, nI_ltI, nI_eq, vp_in_nI, nI_clamp, nI_1, li_e0, li_f0, li_l0, li_g0, li_m0, li_h0, li_e1, li_f1, li_l1, li_g1, li_m1, li_h1, li_e2, li_f2, li_l2, li_g2, li_m2, li_h2, li_e3, li_f3, li_l3, li_g3, li_m3, li_h3, li_e4, li_f4, li_l4, li_g4, li_m4, li_h4, li_e5, li_f5, li_l5, li_g5, li_m5, li_h5, li_e6, li_f6, li_l6, li_g6, li_m6, li_h6, li_e7, li_f7, li_l7, li_g7, li_m7, li_h7, li_e8, li_f8, li_l8, li_g8, li_m8, li_h8, li_e9, li_f9, li_l9, li_g9, li_m9, li_h9, li_e10, li_f10, li_l10, li_g10, li_m10, li_h10, li_e15, li_f15, li_l15, li_g15, li_m15, li_h15, li_e16, li_f16, li_l16, li_g16, li_m16, li_h16, li_e20, li_f20, li_l20, li_g20, li_m20, li_h20, li_e40, li_f40, li_l40, li_g40, li_m40, li_h40, li_e100, li_f100, li_l100, li_g100, li_m100, li_h100, li_e128, li_f128, li_l128, li_g128, li_m128, li_h128, li_e150, li_f150, li_l150, li_g150, li_m150, li_h150, li_e255, li_f255, li_l255, li_g255, li_m255, li_h255, li_e400, li_f400, li_l400, li_g400, li_m400, li_h400, li_e410, li_f410, li_l410, li_g410, li_m410, li_h410, li_e420, li_f420, li_l420, li_g420, li_m420, li_h420, li_e2000, li_f2000, li_l2000, li_g2000, li_m2000, li_h2000, li_e8200, li_f8200, li_l8200, li_g8200, li_m8200, li_h8200, li_e1000000, li_f1000000, li_l1000000, li_g1000000, li_m1000000, li_h1000000, li_5, li_5', li_50, li_50', li_20, li_20', li_s1, li_t1, sg_Kat, sg_Pat, pk_us, pk_uLs, true_implies, forall_const, not_true_eq_false, not_false_eq_true, false_implies, and_true, true_and, implies_true, and_self, if_true, if_false, ite_true, ite_false, reduceIte, eq_self, Int32.reduceEq, Int32.reduceLT, Int32.reduceLE, Int32.reduceNeg]
          exact hsome q e8
    | some q =>
      have hq := sg_find_lt e
      have e5 : ¬ (some q : Option Nat) = none := by intro z; cases z
      rw [e, if_neg e5] at hsome
      have e6 : (0 : Int32) ≤ nI q := nI_pos' (by omega)
      simp (disch := omega) only [sd_oi, e6, forall_eq, nI_leI, nI_ltI, nI_eq, vp_in_nI, nI_clamp, nI_1, li_e0, li_f0, li_l0, li_g0, li_m0, li_h0, li_e1, li_f1, li_l1, li_g1, li_m1, li_h1, li_e2, li_f2, li_l2, li_g2, li_m2, li_h2, li_e3, li_f3, li_l3, li_g3, li_m3, li_h3, li_e4, li_f4, li_l4, li_g4, li_m4, li_h4, li_e5, li_f5, li_l5, li_g5, li_m5, li_h5, li_e6, li_f6, li_l6, li_g6, li_m6, li_h6, li_e7, li_f7, li_l7, li_g7, li_m7, li_h7, li_e8, li_f8, li_l8, li_g8, li_m8, li_h8, li_e9, li_f9, li_l9, li_g9, li_m9, li_h9, li_e10, li_f10, li_l10, li_g10, li_m10, li_h10, li_e15, li_f15, li_l15, li_g15, li_m15, li_h15, li_e16, li_f16, li_l16, li_g16, li_m16, li_h16, li_e20, li_f20, li_l20, li_g20, li_m20, li_h20, li_e40, li_f40, li_l40, li_g40, li_m40, li_h40, li_e100, li_f100, li_l100, li_g100, li_m100, li_h100, li_e128, li_f128, li_l128, li_g128, li_m128, li_h128, li_e150, li_f150, li_l150, li_g150, li_m150, li_h150, li_e255, li_f255, li_l255, li_g255, li_m255, li_h255, li_e400, li_f400, li_l400, li_g400, li_m400, li_h400, li_e410, li_f410, li_l410, li_g410, li_m410, li_h410, li_e420, li_f420, li_l420, li_g420, li_m420, li_h420, li_e2000, li_f2000, li_l2000, li_g2000, li_m2000, li_h2000, li_e8200, li_f8200, li_l8200, li_g8200, li_m8200, li_h8200, li_e1000000, li_f1000000, li_l1000000, li_g1000000, li_m1000000, li_h1000000, li_5, li_5', li_50, li_50', li_20, li_20', li_s1, li_t1, sg_Kat, sg_Pat, pk_us, pk_uLs, true_implies, forall_const, not_true_eq_false, not_false_eq_true, false_implies, and_true, true_and, implies_true, and_self, if_true, if_false, ite_true, ite_false, reduceIte, eq_self, Int32.reduceEq, Int32.reduceLT, Int32.reduceLE, Int32.reduceNeg]
      exact hsome q rfl
/-- the values of an ARRAY -/
theorem yl_do_items {t : Nat} {rest : List sr_I} {tv tt td : Nat → Int32} : ∀ (n c : Nat), sy_do tv tt td rest →
    (∀ k, k < n → tv (rest.length + (n - 1 - k)) = nI (sv_it (sv_a w) c k) ∧ tt (rest.length + (n - 1 - k)) = nI t) → sy_do tv tt td (sr_items w t n c ++ rest) := by
  intro n
  induction n with
  | zero => intro c h _; exact h
  | succ n ih =>
    intro c h hk
    refine ⟨?_, ih (sv_a w c) h (fun k hkn => ?_)⟩
    · have e : (sr_items w t n (sv_a w c) ++ rest).length = rest.length + (n + 1 - 1 - 0) := by
        rw [List.length_append, sr_items_len]; omega
      rw [e]
      obtain ⟨a, b⟩ := hk 0 (by omega)
      rw [a, b]
      exact yl_cell0
    · have h2 := hk (k + 1) (by omega)
      rw [show n + 1 - 1 - (k + 1) = n - 1 - k by omega] at h2
      exact h2
theorem yl_items (hg : sg_ok g) (hY : sg_Y g y_of y_name y_part y_alias y_has y_given) (hw : sv_ok g w) (ht : sy_tree g w y_valueType y_start y_child y_next y_value) {t v c : Nat} {rest : List sr_I} (htn : t < sg_n g) (h7 : sg_k g t = 7) (hv : v < sv_m w) (hv7 : sg_k g (sv_t w v) = 7) (hc : sv_n w v = lN c) (hc40 : c ≤ 40) (hb : rest.length + 50 ≤ 2000) (hd : sy_do y_todoValue y_todoType y_todoDefault rest)
    (hp : ∀ tv tt, sy_do tv tt y_todoDefault (sr_items w (sg_d g t) c (v + 1) ++ rest) → post (nI (sg_n g), y_byteCount, y_writtenCount, y_numberCount, y_listCount, y_values, y_depth, y_records, y_at, y_wrong, nI (rest.length + c), sg_K g, y_of, sg_P g, sg_f g, y_name, y_part, y_alias, y_given, y_has, y_bytes, y_written, y_numbers, y_list, y_valueType, y_start, y_child, y_last, y_next, y_value, y_open, y_come, y_left, tv, tt, y_todoDefault, y_pair, y_whole)) :
    ∃ n159, wY_plain_159 post (nI t) (nI c) (nI (sg_n g)) y_byteCount y_writtenCount y_numberCount y_listCount y_values y_depth y_records y_at y_wrong (nI rest.length) n159 (y_child v) 0 (sg_K g) y_of (sg_P g) (sg_f g) y_name y_part y_alias y_given y_has y_bytes y_written y_numbers y_list y_valueType y_start y_child y_last y_next y_value y_open y_come y_left y_todoValue y_todoType y_todoDefault y_pair y_whole := by
  have hn := hg.1
  have hm4 := hw.1
  have ecn : sv_cnt g w v = c := by rw [sv_cnt7 hv7, hc, lN_i, nI_clamp (by omega)]
  have w5 := (hw.2 v hv).2.2.2.2.1
  have t3 := (ht v hv).2.2.1
  have t4 := (ht v hv).2.2.2.1
  have eD := hY.1 t htn (Or.inr h7)
  rw [ecn] at w5 t3 t4
  have H : ∀ m i x6 (tv tt : Nat → Int32), i + m = c → (i < c → x6 = nI (sv_ch (sv_a w) v i)) → (∀ j, j < rest.length → tv j = y_todoValue j ∧ tt j = y_todoType j) →
      (∀ k, k < i → tv (rest.length + (c - 1 - k)) = nI (sv_ch (sv_a w) v k) ∧ tt (rest.length + (c - 1 - k)) = nI (sg_d g t)) →
      wY_plain_159 post (nI t) (nI c) (nI (sg_n g)) y_byteCount y_writtenCount y_numberCount y_listCount y_values y_depth y_records y_at y_wrong (nI rest.length) (m + 1) x6 (nI i) (sg_K g) y_of (sg_P g) (sg_f g) y_name y_part y_alias y_given y_has y_bytes y_written y_numbers y_list y_valueType y_start y_child y_last y_next y_value y_open y_come y_left tv tt y_todoDefault y_pair y_whole := by
    intro m
    induction m with
    | zero =>
      intro i x6 tv tt hi hx hlo hk
      have e : i = c := by omega
      subst e
      rw [wY_plain_159]
      simp (disch := omega) only [Nat.le_refl, nI_add, forall_eq, nI_leI, nI_ltI, nI_eq, vp_in_nI, nI_clamp, nI_1, li_e0, li_f0, li_l0, li_g0, li_m0, li_h0, li_e1, li_f1, li_l1, li_g1, li_m1, li_h1, li_e2, li_f2, li_l2, li_g2, li_m2, li_h2, li_e3, li_f3, li_l3, li_g3, li_m3, li_h3, li_e4, li_f4, li_l4, li_g4, li_m4, li_h4, li_e5, li_f5, li_l5, li_g5, li_m5, li_h5, li_e6, li_f6, li_l6, li_g6, li_m6, li_h6, li_e7, li_f7, li_l7, li_g7, li_m7, li_h7, li_e8, li_f8, li_l8, li_g8, li_m8, li_h8, li_e9, li_f9, li_l9, li_g9, li_m9, li_h9, li_e10, li_f10, li_l10, li_g10, li_m10, li_h10, li_e15, li_f15, li_l15, li_g15, li_m15, li_h15, li_e16, li_f16, li_l16, li_g16, li_m16, li_h16, li_e20, li_f20, li_l20, li_g20, li_m20, li_h20, li_e40, li_f40, li_l40, li_g40, li_m40, li_h40, li_e100, li_f100, li_l100, li_g100, li_m100, li_h100, li_e128, li_f128, li_l128, li_g128, li_m128, li_h128, li_e150, li_f150, li_l150, li_g150, li_m150, li_h150, li_e255, li_f255, li_l255, li_g255, li_m255, li_h255, li_e400, li_f400, li_l400, li_g400, li_m400, li_h400, li_e410, li_f410, li_l410, li_g410, li_m410, li_h410, li_e420, li_f420, li_l420, li_g420, li_m420, li_h420, li_e2000, li_f2000, li_l2000, li_g2000, li_m2000, li_h2000, li_e8200, li_f8200, li_l8200, li_g8200, li_m8200, li_h8200, li_e1000000, li_f1000000, li_l1000000, li_g1000000, li_m1000000, li_h1000000, li_5, li_5', li_50, li_50', li_20, li_20', li_s1, li_t1, sg_Kat, sg_Pat, pk_us, pk_uLs, true_implies, forall_const, not_true_eq_false, not_false_eq_true, false_implies, and_true, true_and, implies_true, and_self, if_true, if_false, ite_true, ite_false, reduceIte, eq_self, Int32.reduceEq, Int32.reduceLT, Int32.reduceLE, Int32.reduceNeg]
      refine hp tv tt (yl_do_items i (v + 1) (sy_do_same (fun j hj => ⟨(hlo j hj).1, (hlo j hj).2, rfl⟩) hd) (fun k hki => ?_))
      have h2 := hk k hki
      have e2 := sv_it_ch (sv_a w) v 0 k
      rw [Nat.zero_add] at e2
      rw [show sv_it (sv_a w) (v + 1) k = sv_ch (sv_a w) v k from e2]
      exact h2
    | succ m ih =>
      intro i x6 tv tt hi hx hlo hk
      have hic : i < c := by omega
      obtain ⟨a1, a2, a3⟩ := w5 i hic
      have hx2 := hx hic
      subst hx2
      have e6 : ¬ c ≤ i := by omega
      have eix : nI rest.length + nI c - 1 - nI i = nI (rest.length + (c - 1 - i)) := by
        rw [nI_add, li_s1 (by omega), pk_sub (by omega)]
        exact congrArg nI (by omega)
      rw [wY_plain_159]
      simp (disch := omega) only [e6, eix, eD, forall_eq, nI_leI, nI_ltI, nI_eq, vp_in_nI, nI_clamp, nI_1, li_e0, li_f0, li_l0, li_g0, li_m0, li_h0, li_e1, li_f1, li_l1, li_g1, li_m1, li_h1, li_e2, li_f2, li_l2, li_g2, li_m2, li_h2, li_e3, li_f3, li_l3, li_g3, li_m3, li_h3, li_e4, li_f4, li_l4, li_g4, li_m4, li_h4, li_e5, li_f5, li_l5, li_g5, li_m5, li_h5, li_e6, li_f6, li_l6, li_g6, li_m6, li_h6, li_e7, li_f7, li_l7, li_g7, li_m7, li_h7, li_e8, li_f8, li_l8, li_g8, li_m8, li_h8, li_e9, li_f9, li_l9, li_g9, li_m9, li_h9, li_e10, li_f10, li_l10, li_g10, li_m10, li_h10, li_e15, li_f15, li_l15, li_g15, li_m15, li_h15, li_e16, li_f16, li_l16, li_g16, li_m16, li_h16, li_e20, li_f20, li_l20, li_g20, li_m20, li_h20, li_e40, li_f40, li_l40, li_g40, li_m40, li_h40, li_e100, li_f100, li_l100, li_g100, li_m100, li_h100, li_e128, li_f128, li_l128, li_g128, li_m128, li_h128, li_e150, li_f150, li_l150, li_g150, li_m150, li_h150, li_e255, li_f255, li_l255, li_g255, li_m255, li_h255, li_e400, li_f400, li_l400, li_g400, li_m400, li_h400, li_e410, li_f410, li_l410, li_g410, li_m410, li_h410, li_e420, li_f420, li_l420, li_g420, li_m420, li_h420, li_e2000, li_f2000, li_l2000, li_g2000, li_m2000, li_h2000, li_e8200, li_f8200, li_l8200, li_g8200, li_m8200, li_h8200, li_e1000000, li_f1000000, li_l1000000, li_g1000000, li_m1000000, li_h1000000, li_5, li_5', li_50, li_50', li_20, li_20', li_s1, li_t1, sg_Kat, sg_Pat, pk_us, pk_uLs, true_implies, forall_const, not_true_eq_false, not_false_eq_true, false_implies, and_true, true_and, implies_true, and_self, if_true, if_false, ite_true, ite_false, reduceIte, eq_self, Int32.reduceEq, Int32.reduceLT, Int32.reduceLE, Int32.reduceNeg]
      refine ih (i + 1) _ _ _ (by omega) (fun hi1 => t4 i hi1) (fun j hj => ?_) (fun k hk2 => ?_)
      · rw [pk_un (by omega), pk_un (by omega)]; exact hlo j hj
      · by_cases ek : k = i
        · subst ek; rw [pk_us, pk_us]; exact ⟨rfl, rfl⟩
        · rw [pk_un (by omega), pk_un (by omega)]; exact hk k (by omega)
  by_cases h0 : c = 0
  · subst h0
    exact ⟨1, H 0 0 (y_child v) _ _ rfl (fun z => absurd z (by omega)) (fun _ _ => ⟨rfl, rfl⟩) (fun k hk => absurd hk (by omega))⟩
  · rw [t3 (by omega)]
    exact ⟨c + 1, H c 0 _ _ _ (by omega) (fun _ => rfl) (fun _ _ => ⟨rfl, rfl⟩) (fun k hk => absurd hk (by omega))⟩
end
