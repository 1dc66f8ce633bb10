/-! the class's reading: blocks, the loop -/
theorem gr_ncase (n : Int64) : (∃ a : Nat, a < 2 ^ 63 ∧ n = lN a ∧ n.toInt = (a : Int)) ∨ (n < 0 ∧ -n < 0 ∧ n < -40) ∨ (n < 0 ∧ ∃ a : Nat, 0 < a ∧ a < 2 ^ 63 ∧ -n = lN a ∧ n.toInt = -(a : Int)) := by
  by_cases h : n < 0
  · have h1 := Int64.lt_iff_toInt_lt.mp h
    have e0 : (0 : Int64).toInt = 0 := by decide
    rw [e0] at h1
    have hlo : -9223372036854775808 ≤ n.toInt := Int64.le_toInt n
    by_cases hmin : n.toInt = -9223372036854775808
    · have e : n = -9223372036854775808 := Int64.toInt_inj.mp (by rw [hmin]; decide)
      subst e
      exact Or.inr (Or.inl ⟨by decide, by decide, by decide⟩)
    · refine Or.inr (Or.inr ⟨h, n.toInt.natAbs, by omega, by omega, ?_, by omega⟩)
      apply Int64.toInt_inj.mp
      rw [Int64.toInt_neg, pk_lT (by omega)]
      rw [Int.bmod_eq_of_le (by omega) (by omega)]
      omega
  · obtain ⟨a, ha, e⟩ := pk_lOf h
    exact Or.inl ⟨a, ha, e, by rw [e, pk_lT ha]⟩
theorem gr_lt40 {n : Int64} : n < -40 ↔ n.toInt < -40 := by
  rw [Int64.lt_iff_toInt_lt, show (-40 : Int64).toInt = -40 from by decide]
theorem gr_gt40 {n : Int64} : 40 < n ↔ 40 < n.toInt := by
  rw [Int64.lt_iff_toInt_lt, show (40 : Int64).toInt = 40 from by decide]
theorem gr_sub40 {k : Nat} (h : k ≤ 40) : (40 : Int64) - lN k = lN (40 - k) := lN_sub (a := 40) h
theorem gr_rc_cons9 {g : sg_T} {v t k l : Nat} {F : List gr_F} (h : sg_k g t = 9) : gr_rc g ((v, t, k, l) :: F) = gr_rc g F + 1 := by
  rw [gr_rc, if_pos (show sg_k g ((v, t, k, l) : gr_F).2.1 = 9 from h)]
theorem gr_rc_consn {g : sg_T} {v t k l : Nat} {F : List gr_F} (h : ¬ sg_k g t = 9) : gr_rc g ((v, t, k, l) :: F) = gr_rc g F := by
  rw [gr_rc, if_neg (show ¬ sg_k g ((v, t, k, l) : gr_F).2.1 = 9 from h)]; rfl
section
variable {x_typeCount x_byteCount x_numberCount x_listCount x_trouble x_place x_valueCount x_top x_records x_writtenCount x_pairCount : Int32}
variable {x_kindOf x_detailOf x_fallbackOf x_partCount x_partName x_partType x_partAlias x_partHas x_partDefault x_bytes x_valueType x_valueFrom x_valueAfter x_frameValue x_frameType x_frameStep x_frameLeft x_frameStart x_addsNothing x_written x_pairs x_pairSeen : Nat → Int32}
variable {x_numbers x_list x_valueNumber : Nat → Int64}
variable {bc pl : Nat} {g : sg_T} {post : SX → Prop} {c' : gr_C} {vt vf va fV fT fS fL fB : Nat → Int32} {vn : Nat → Int64} {F : List gr_F} {w : sr_V} {yr : Nat → Int64}
theorem rx_tree_end {v : Nat} (hv : v < sv_m w) (h : sx_tree g w vt vf va vn) : sx_tree g (gr_end w v) vt vf (upd va v (nI (sv_m w))) vn := by
  intro u hu
  obtain ⟨h1, h2, h3, h4⟩ := h u hu
  refine ⟨h1, h2, ?_, h4⟩
  by_cases e : u = v
  · subst e
    have : sv_a (gr_end w u) u = sv_m w := sg_un_s
    rw [pk_us, this]
  · have : sv_a (gr_end w v) u = sv_a w u := sg_un_n e
    rw [pk_un e, this]; exact h3
theorem xr_endRead (hg : sg_ok g) (hX : sg_X g x_detailOf x_partName x_partType x_partAlias x_partHas x_partDefault) {v t k p : Nat} (hb : bc ≤ 100) (h : gr_inv g bc ((v, t, k, 0) :: F) pl w yr) (htr : sx_tree g w vt vf va vn) (hfr : rx_fr g yr fV fT fS fL ((v, t, k, 0) :: F)) (hc : c' = (F, 0, p, gr_end w v, yr)) (HP : ∀ (tr pp vc rc top : Int32) (vt vf va : Nat → Int32) (vn : Nat → Int64) (fV fT fS fL fB : Nat → Int32), rx_R g c' tr pp vc rc top vt vf va fV fT fS fL vn → post (nI (sg_n g), nI bc, x_numberCount, x_listCount, tr, pp, vc, top, rc, x_writtenCount, x_pairCount, sg_K g, x_detailOf, sg_f g, sg_P g, x_partName, x_partType, x_partAlias, x_partHas, x_partDefault, sv_b w, x_numbers, x_list, vt, vn, vf, va, fV, fT, fS, fL, fB, x_addsNothing, x_written, x_pairs, x_pairSeen)) :
    wpX_endRead post (nI (sg_n g), nI bc, x_numberCount, x_listCount, 0, nI p, nI (sv_m w), nI (F.length + 1), nI (gr_rc g ((v, t, k, 0) :: F)), x_writtenCount, x_pairCount, sg_K g, x_detailOf, sg_f g, sg_P g, x_partName, x_partType, x_partAlias, x_partHas, x_partDefault, sv_b w, x_numbers, x_list, vt, vn, vf, va, fV, fT, fS, fL, fB, x_addsNothing, x_written, x_pairs, x_pairSeen) (nI F.length) := by
  have hn := hg.1
  obtain ⟨p1, p2, p3, p4, p5, p6, p7⟩ := h
  obtain ⟨f1a, f1b, f1c, f1d, f1e, f1f⟩ := p7.1
  clear p5 p6 p7
  dsimp only at f1a f1b f1c f1d
  obtain ⟨⟨r1, r2, r3, r4, r5⟩, hfr2⟩ := hfr
  dsimp only at r1 r2 r3
  rw [List.length_cons] at p3
  simp (disch := omega) only [wpX_endRead, r1, forall_eq, nI_leI, nI_ltI, nI_eq, vp_in_nI, nI_clamp, nI_1, li_e0, li_f0, li_l0, li_g0, li_m0, li_h0, li_e1, li_f1, li_l1, li_g1, li_m1, li_h1, li_e2, li_f2, li_l2, li_g2, li_m2, li_h2, li_e3, li_f3, li_l3, li_g3, li_m3, li_h3, li_e4, li_f4, li_l4, li_g4, li_m4, li_h4, li_e5, li_f5, li_l5, li_g5, li_m5, li_h5, li_e6, li_f6, li_l6, li_g6, li_m6, li_h6, li_e7, li_f7, li_l7, li_g7, li_m7, li_h7, li_e8, li_f8, li_l8, li_g8, li_m8, li_h8, li_e9, li_f9, li_l9, li_g9, li_m9, li_h9, li_e10, li_f10, li_l10, li_g10, li_m10, li_h10, li_e15, li_f15, li_l15, li_g15, li_m15, li_h15, li_e16, li_f16, li_l16, li_g16, li_m16, li_h16, li_e20, li_f20, li_l20, li_g20, li_m20, li_h20, li_e40, li_f40, li_l40, li_g40, li_m40, li_h40, li_e100, li_f100, li_l100, li_g100, li_m100, li_h100, li_e128, li_f128, li_l128, li_g128, li_m128, li_h128, li_e150, li_f150, li_l150, li_g150, li_m150, li_h150, li_e255, li_f255, li_l255, li_g255, li_m255, li_h255, li_e400, li_f400, li_l400, li_g400, li_m400, li_h400, li_e410, li_f410, li_l410, li_g410, li_m410, li_h410, li_e420, li_f420, li_l420, li_g420, li_m420, li_h420, li_e2000, li_f2000, li_l2000, li_g2000, li_m2000, li_h2000, li_e8200, li_f8200, li_l8200, li_g8200, li_m8200, li_h8200, li_e1000000, li_f1000000, li_l1000000, li_g1000000, li_m1000000, li_h1000000, li_50, li_50', li_200, li_200', nI_add, li_s1, li_t1, li_c1, li_c2, li_c3, li_c4, li_c5, li_c6, li_c7, li_c8, li_c9, li_c10, li_c11, li_c12, li_c13, li_c14, li_c15, sg_Kat, sg_Pat, pk_us, pk_uLs, true_implies, forall_const, not_true_eq_false, not_false_eq_true, false_implies, and_true, true_and, implies_true, and_self, if_true, if_false, ite_true, ite_false, reduceIte, eq_self, Nat.reduceEqDiff, Nat.reduceLeDiff, Nat.reduceLT, Int32.reduceLT, Int32.reduceLE]
  refine xl_pop hg (by omega) (by omega) r2 ?_
  subst hc
  refine HP _ _ _ _ _ _ _ _ _ _ _ _ _ _ ⟨rfl, fun _ => ⟨rfl, rfl, ?_, rfl, rx_tree_end f1a htr, hfr2⟩⟩
  show _ = nI (gr_rc g F)
  by_cases h9 : sg_k g t = 9
  · rw [if_pos h9, gr_rc_cons9 h9]; exact nI_pred _
  · rw [if_neg h9, gr_rc_consn h9]
theorem xr_block (hg : sg_ok g) (hX : sg_X g x_detailOf x_partName x_partType x_partAlias x_partHas x_partDefault) {v t k : Nat} (hb : bc ≤ 100) (k7 : sg_k g t = 7) (h : gr_inv g bc ((v, t, k, 0) :: F) pl w yr) (htr : sx_tree g w vt vf va vn) (hfr : rx_fr g yr fV fT fS fL ((v, t, k, 0) :: F)) (hc : c' = gr_step g bc v t k 0 F pl w yr) (HP : ∀ (tr pp vc rc top : Int32) (vt vf va : Nat → Int32) (vn : Nat → Int64) (fV fT fS fL fB : Nat → Int32), rx_R g c' tr pp vc rc top vt vf va fV fT fS fL vn → post (nI (sg_n g), nI bc, x_numberCount, x_listCount, tr, pp, vc, top, rc, x_writtenCount, x_pairCount, sg_K g, x_detailOf, sg_f g, sg_P g, x_partName, x_partType, x_partAlias, x_partHas, x_partDefault, sv_b w, x_numbers, x_list, vt, vn, vf, va, fV, fT, fS, fL, fB, x_addsNothing, x_written, x_pairs, x_pairSeen)) :
    wpX_readBlock post (nI (sg_n g), nI bc, x_numberCount, x_listCount, 0, nI pl, nI (sv_m w), nI (F.length + 1), nI (gr_rc g ((v, t, k, 0) :: F)), x_writtenCount, x_pairCount, sg_K g, x_detailOf, sg_f g, sg_P g, x_partName, x_partType, x_partAlias, x_partHas, x_partDefault, sv_b w, x_numbers, x_list, vt, vn, vf, va, fV, fT, fS, fL, fB, x_addsNothing, x_written, x_pairs, x_pairSeen) (nI F.length) := by
  have hn := hg.1
  have h' := h
  obtain ⟨p1, p2, p3, p4, p5, p6, p7⟩ := h
  obtain ⟨f1a, f1b, f1c, f1d, f1e, f1f⟩ := p7.1
  clear p5 p6 p7
  dsimp only at f1a f1b f1c f1d f1f
  have hfr' := hfr
  obtain ⟨⟨r1, r2, r3, r4, r5⟩, hfr2⟩ := hfr
  dsimp only at r1 r2 r3
  rw [List.length_cons] at p3
  have hnum : sv_n w v = lN k ∧ k ≤ 40 := by
    rcases f1f with ⟨a, b, c⟩ | ⟨a, b, c⟩ | ⟨a, b⟩
    · exact ⟨c, by omega⟩
    · omega
    · omega
  obtain ⟨hnum, hk40⟩ := hnum
  clear f1f
  have evn : vn v = lN k := by rw [(htr v f1a).2.1, hnum]
  have e40 := gr_sub40 hk40
  unfold gr_step at hc
  dsimp only at hc
  rw [if_pos k7] at hc
  -- trouble
  have bad : ∀ (e : Int32), c'.2.1 = e → ¬ e = 0 → ∀ (pp vc rc top : Int32) (vt vf va : Nat → Int32) (vn : Nat → Int64) (fV fT fS fL fB : Nat → Int32), post (nI (sg_n g), nI bc, x_numberCount, x_listCount, e, pp, vc, top, rc, x_writtenCount, x_pairCount, sg_K g, x_detailOf, sg_f g, sg_P g, x_partName, x_partType, x_partAlias, x_partHas, x_partDefault, sv_b w, x_numbers, x_list, vt, vn, vf, va, fV, fT, fS, fL, fB, x_addsNothing, x_written, x_pairs, x_pairSeen) := by
    intro e he hz pp vc rc top vt vf va vn fV fT fS fL fB
    exact HP e pp vc rc top vt vf va vn fV fT fS fL fB ⟨he.symm, fun z => absurd (he.symm.trans z) hz⟩
  -- a good head
  have good : ∀ (a p : Nat), k + a ≤ 40 → gr_block (sv_b w) bc pl k = (0, a, p) → wX_readBlock_69 post (nI F.length) (nI v) (lN a) (nI (sg_n g)) (nI bc) x_numberCount x_listCount 0 (nI p) (nI (sv_m w)) (nI (F.length + 1)) (nI (gr_rc g ((v, t, k, 0) :: F))) x_writtenCount x_pairCount (sg_K g) x_detailOf (sg_f g) (sg_P g) x_partName x_partType x_partAlias x_partHas x_partDefault (sv_b w) x_numbers x_list vt vn vf va fV fT fS fL fB x_addsNothing x_written x_pairs x_pairSeen := by
    intro a p ha hB
    rw [hB] at hc
    dsimp only at hc
    rw [if_pos rfl] at hc
    have el : (lN a).toInt32 = nI a := lN_i a
    have hz : lN a = 0 ↔ a = 0 := pk_lEQ (b := 0) (by omega) (by decide)
    by_cases ha0 : a = 0
    · subst ha0
      rw [if_pos rfl] at hc
      have hz1 : (lN 0 = 0) = True := eq_true rfl
      have hid : vp_updL vn v (vn v + lN 0) = vn := by
        funext j
        by_cases e : j = v
        · subst e; rw [pk_uLs, evn, lN_add]; exact rfl
        · rw [pk_uLn e]
      have hid2 : upd fL F.length (nI 0) = fL := sd_upd_id r3
      simp (disch := omega) only [wX_readBlock_69, el, hz1, hid, hid2, forall_eq, nI_leI, nI_ltI, nI_eq, vp_in_nI, nI_clamp, nI_1, li_e0, li_f0, li_l0, li_g0, li_m0, li_h0, li_e1, li_f1, li_l1, li_g1, li_m1, li_h1, li_e2, li_f2, li_l2, li_g2, li_m2, li_h2, li_e3, li_f3, li_l3, li_g3, li_m3, li_h3, li_e4, li_f4, li_l4, li_g4, li_m4, li_h4, li_e5, li_f5, li_l5, li_g5, li_m5, li_h5, li_e6, li_f6, li_l6, li_g6, li_m6, li_h6, li_e7, li_f7, li_l7, li_g7, li_m7, li_h7, li_e8, li_f8, li_l8, li_g8, li_m8, li_h8, li_e9, li_f9, li_l9, li_g9, li_m9, li_h9, li_e10, li_f10, li_l10, li_g10, li_m10, li_h10, li_e15, li_f15, li_l15, li_g15, li_m15, li_h15, li_e16, li_f16, li_l16, li_g16, li_m16, li_h16, li_e20, li_f20, li_l20, li_g20, li_m20, li_h20, li_e40, li_f40, li_l40, li_g40, li_m40, li_h40, li_e100, li_f100, li_l100, li_g100, li_m100, li_h100, li_e128, li_f128, li_l128, li_g128, li_m128, li_h128, li_e150, li_f150, li_l150, li_g150, li_m150, li_h150, li_e255, li_f255, li_l255, li_g255, li_m255, li_h255, li_e400, li_f400, li_l400, li_g400, li_m400, li_h400, li_e410, li_f410, li_l410, li_g410, li_m410, li_h410, li_e420, li_f420, li_l420, li_g420, li_m420, li_h420, li_e2000, li_f2000, li_l2000, li_g2000, li_m2000, li_h2000, li_e8200, li_f8200, li_l8200, li_g8200, li_m8200, li_h8200, li_e1000000, li_f1000000, li_l1000000, li_g1000000, li_m1000000, li_h1000000, li_50, li_50', li_200, li_200', nI_add, li_s1, li_t1, li_c1, li_c2, li_c3, li_c4, li_c5, li_c6, li_c7, li_c8, li_c9, li_c10, li_c11, li_c12, li_c13, li_c14, li_c15, sg_Kat, sg_Pat, pk_us, pk_uLs, true_implies, forall_const, not_true_eq_false, not_false_eq_true, false_implies, and_true, true_and, implies_true, and_self, if_true, if_false, ite_true, ite_false, reduceIte, eq_self, Nat.reduceEqDiff, Nat.reduceLeDiff, Nat.reduceLT, Int32.reduceLT, Int32.reduceLE]
      exact xr_endRead hg hX hb h' htr hfr' hc HP
    · rw [if_neg ha0] at hc
      simp (disch := omega) only [wX_readBlock_69, el, hz, ha0, forall_eq, nI_leI, nI_ltI, nI_eq, vp_in_nI, nI_clamp, nI_1, li_e0, li_f0, li_l0, li_g0, li_m0, li_h0, li_e1, li_f1, li_l1, li_g1, li_m1, li_h1, li_e2, li_f2, li_l2, li_g2, li_m2, li_h2, li_e3, li_f3, li_l3, li_g3, li_m3, li_h3, li_e4, li_f4, li_l4, li_g4, li_m4, li_h4, li_e5, li_f5, li_l5, li_g5, li_m5, li_h5, li_e6, li_f6, li_l6, li_g6, li_m6, li_h6, li_e7, li_f7, li_l7, li_g7, li_m7, li_h7, li_e8, li_f8, li_l8, li_g8, li_m8, li_h8, li_e9, li_f9, li_l9, li_g9, li_m9, li_h9, li_e10, li_f10, li_l10, li_g10, li_m10, li_h10, li_e15, li_f15, li_l15, li_g15, li_m15, li_h15, li_e16, li_f16, li_l16, li_g16, li_m16, li_h16, li_e20, li_f20, li_l20, li_g20, li_m20, li_h20, li_e40, li_f40, li_l40, li_g40, li_m40, li_h40, li_e100, li_f100, li_l100, li_g100, li_m100, li_h100, li_e128, li_f128, li_l128, li_g128, li_m128, li_h128, li_e150, li_f150, li_l150, li_g150, li_m150, li_h150, li_e255, li_f255, li_l255, li_g255, li_m255, li_h255, li_e400, li_f400, li_l400, li_g400, li_m400, li_h400, li_e410, li_f410, li_l410, li_g410, li_m410, li_h410, li_e420, li_f420, li_l420, li_g420, li_m420, li_h420, li_e2000, li_f2000, li_l2000, li_g2000, li_m2000, li_h2000, li_e8200, li_f8200, li_l8200, li_g8200, li_m8200, li_h8200, li_e1000000, li_f1000000, li_l1000000, li_g1000000, li_m1000000, li_h1000000, li_50, li_50', li_200, li_200', nI_add, li_s1, li_t1, li_c1, li_c2, li_c3, li_c4, li_c5, li_c6, li_c7, li_c8, li_c9, li_c10, li_c11, li_c12, li_c13, li_c14, li_c15, sg_Kat, sg_Pat, pk_us, pk_uLs, true_implies, forall_const, not_true_eq_false, not_false_eq_true, false_implies, and_true, true_and, implies_true, and_self, if_true, if_false, ite_true, ite_false, reduceIte, eq_self, Nat.reduceEqDiff, Nat.reduceLeDiff, Nat.reduceLT, Int32.reduceLT, Int32.reduceLE]
      subst hc
      refine HP _ _ _ _ _ _ _ _ _ _ _ _ _ _ ⟨rfl, fun _ => ⟨rfl, rfl, rfl, rfl, fun u hu => ?_, ⟨r1, r2, pk_us, r4, r5⟩, ?_⟩⟩
      · obtain ⟨h1, h2, h3, h4⟩ := htr u hu
        refine ⟨h1, ?_, h3, h4⟩
        show vp_updL vn v (vn v + lN a) u = vp_updL (sv_n w) v (sv_n w v + lN a) u
        by_cases e : u = v
        · subst e; rw [pk_uLs, pk_uLs, h2]
        · rw [pk_uLn e, pk_uLn e]; exact h2
      · exact rx_fr_same (fun i hi => ⟨rfl, rfl, rfl, pk_un (by omega)⟩) (fun _ _ => rfl) hfr2
  obtain ⟨l1, l2⟩ := gr_long_ok (b := sv_b w) hb p1
  unfold gr_block at good hc
  simp (disch := omega) only [wpX_readBlock, r1, forall_eq, nI_leI, nI_ltI, nI_eq, vp_in_nI, nI_clamp, nI_1, li_e0, li_f0, li_l0, li_g0, li_m0, li_h0, li_e1, li_f1, li_l1, li_g1, li_m1, li_h1, li_e2, li_f2, li_l2, li_g2, li_m2, li_h2, li_e3, li_f3, li_l3, li_g3, li_m3, li_h3, li_e4, li_f4, li_l4, li_g4, li_m4, li_h4, li_e5, li_f5, li_l5, li_g5, li_m5, li_h5, li_e6, li_f6, li_l6, li_g6, li_m6, li_h6, li_e7, li_f7, li_l7, li_g7, li_m7, li_h7, li_e8, li_f8, li_l8, li_g8, li_m8, li_h8, li_e9, li_f9, li_l9, li_g9, li_m9, li_h9, li_e10, li_f10, li_l10, li_g10, li_m10, li_h10, li_e15, li_f15, li_l15, li_g15, li_m15, li_h15, li_e16, li_f16, li_l16, li_g16, li_m16, li_h16, li_e20, li_f20, li_l20, li_g20, li_m20, li_h20, li_e40, li_f40, li_l40, li_g40, li_m40, li_h40, li_e100, li_f100, li_l100, li_g100, li_m100, li_h100, li_e128, li_f128, li_l128, li_g128, li_m128, li_h128, li_e150, li_f150, li_l150, li_g150, li_m150, li_h150, li_e255, li_f255, li_l255, li_g255, li_m255, li_h255, li_e400, li_f400, li_l400, li_g400, li_m400, li_h400, li_e410, li_f410, li_l410, li_g410, li_m410, li_h410, li_e420, li_f420, li_l420, li_g420, li_m420, li_h420, li_e2000, li_f2000, li_l2000, li_g2000, li_m2000, li_h2000, li_e8200, li_f8200, li_l8200, li_g8200, li_m8200, li_h8200, li_e1000000, li_f1000000, li_l1000000, li_g1000000, li_m1000000, li_h1000000, li_50, li_50', li_200, li_200', nI_add, li_s1, li_t1, li_c1, li_c2, li_c3, li_c4, li_c5, li_c6, li_c7, li_c8, li_c9, li_c10, li_c11, li_c12, li_c13, li_c14, li_c15, sg_Kat, sg_Pat, pk_us, pk_uLs, true_implies, forall_const, not_true_eq_false, not_false_eq_true, false_implies, and_true, true_and, implies_true, and_self, if_true, if_false, ite_true, ite_false, reduceIte, eq_self, Nat.reduceEqDiff, Nat.reduceLeDiff, Nat.reduceLT, Int32.reduceLT, Int32.reduceLE]
  refine xr_long hb p1 (fun z => ?_) (fun z p => ?_)
  · rw [if_pos z] at good hc
    rcases gr_ncase (gr_long (sv_b w) bc pl).2.1 with ⟨a, ha, e, ei⟩ | ⟨n1, n2, n3⟩ | ⟨n1, a, a0, a1, e, ei⟩
    · have hnn : ¬ (gr_long (sv_b w) bc pl).2.1 < 0 := by rw [e, show (0 : Int64) = lN 0 from rfl, pk_lLT ha (by decide)]; omega
      have hge : (0 : Int64) ≤ (gr_long (sv_b w) bc pl).2.1 := Int64.not_lt.mp hnn
      have hab : (gr_long (sv_b w) bc pl).2.1.toInt.natAbs = a := by rw [ei]; rfl
      have c1 : ¬ (gr_long (sv_b w) bc pl).2.1 < -40 := by rw [gr_lt40, ei]; omega
      have c2 : (40 < (gr_long (sv_b w) bc pl).2.1) ↔ 40 < a := by rw [gr_gt40, ei]; omega
      rw [hab] at good hc
      by_cases hle : a ≤ 40 - k
      · have hcond : ¬ ((gr_long (sv_b w) bc pl).2.1 < -40 ∨ 40 < (gr_long (sv_b w) bc pl).2.1 ∨ 40 < k + a) := by
          intro y
          rcases y with y | y | y
          · exact c1 y
          · exact absurd (c2.mp y) (by omega)
          · omega
        rw [if_neg hcond, if_neg hnn] at good hc
        have hz0 : lN a ≤ lN (40 - k) := (pk_lLE ha (by omega)).mpr hle
        rw [e] at hge hnn ⊢
        simp (disch := omega) only [hge, wX_readBlock_24, hnn, evn, e40, hz0, forall_eq, nI_leI, nI_ltI, nI_eq, vp_in_nI, nI_clamp, nI_1, li_e0, li_f0, li_l0, li_g0, li_m0, li_h0, li_e1, li_f1, li_l1, li_g1, li_m1, li_h1, li_e2, li_f2, li_l2, li_g2, li_m2, li_h2, li_e3, li_f3, li_l3, li_g3, li_m3, li_h3, li_e4, li_f4, li_l4, li_g4, li_m4, li_h4, li_e5, li_f5, li_l5, li_g5, li_m5, li_h5, li_e6, li_f6, li_l6, li_g6, li_m6, li_h6, li_e7, li_f7, li_l7, li_g7, li_m7, li_h7, li_e8, li_f8, li_l8, li_g8, li_m8, li_h8, li_e9, li_f9, li_l9, li_g9, li_m9, li_h9, li_e10, li_f10, li_l10, li_g10, li_m10, li_h10, li_e15, li_f15, li_l15, li_g15, li_m15, li_h15, li_e16, li_f16, li_l16, li_g16, li_m16, li_h16, li_e20, li_f20, li_l20, li_g20, li_m20, li_h20, li_e40, li_f40, li_l40, li_g40, li_m40, li_h40, li_e100, li_f100, li_l100, li_g100, li_m100, li_h100, li_e128, li_f128, li_l128, li_g128, li_m128, li_h128, li_e150, li_f150, li_l150, li_g150, li_m150, li_h150, li_e255, li_f255, li_l255, li_g255, li_m255, li_h255, li_e400, li_f400, li_l400, li_g400, li_m400, li_h400, li_e410, li_f410, li_l410, li_g410, li_m410, li_h410, li_e420, li_f420, li_l420, li_g420, li_m420, li_h420, li_e2000, li_f2000, li_l2000, li_g2000, li_m2000, li_h2000, li_e8200, li_f8200, li_l8200, li_g8200, li_m8200, li_h8200, li_e1000000, li_f1000000, li_l1000000, li_g1000000, li_m1000000, li_h1000000, li_50, li_50', li_200, li_200', nI_add, li_s1, li_t1, li_c1, li_c2, li_c3, li_c4, li_c5, li_c6, li_c7, li_c8, li_c9, li_c10, li_c11, li_c12, li_c13, li_c14, li_c15, sg_Kat, sg_Pat, pk_us, pk_uLs, true_implies, forall_const, not_true_eq_false, not_false_eq_true, false_implies, and_true, true_and, implies_true, and_self, if_true, if_false, ite_true, ite_false, reduceIte, eq_self, Nat.reduceEqDiff, Nat.reduceLeDiff, Nat.reduceLT, Int32.reduceLT, Int32.reduceLE]
        exact good a _ (by omega) rfl
      · rw [if_pos (Or.inr (Or.inr (by omega)))] at hc
        have hz0 : ¬ lN a ≤ lN (40 - k) := fun y => hle ((pk_lLE ha (by omega)).mp y)
        rw [e] at hge hnn ⊢
        simp (disch := omega) only [hge, wX_readBlock_24, hnn, evn, e40, hz0, wX_readBlock_49, wpX_fail, wX_readBlock_69, forall_eq, nI_leI, nI_ltI, nI_eq, vp_in_nI, nI_clamp, nI_1, li_e0, li_f0, li_l0, li_g0, li_m0, li_h0, li_e1, li_f1, li_l1, li_g1, li_m1, li_h1, li_e2, li_f2, li_l2, li_g2, li_m2, li_h2, li_e3, li_f3, li_l3, li_g3, li_m3, li_h3, li_e4, li_f4, li_l4, li_g4, li_m4, li_h4, li_e5, li_f5, li_l5, li_g5, li_m5, li_h5, li_e6, li_f6, li_l6, li_g6, li_m6, li_h6, li_e7, li_f7, li_l7, li_g7, li_m7, li_h7, li_e8, li_f8, li_l8, li_g8, li_m8, li_h8, li_e9, li_f9, li_l9, li_g9, li_m9, li_h9, li_e10, li_f10, li_l10, li_g10, li_m10, li_h10, li_e15, li_f15, li_l15, li_g15, li_m15, li_h15, li_e16, li_f16, li_l16, li_g16, li_m16, li_h16, li_e20, li_f20, li_l20, li_g20, li_m20, li_h20, li_e40, li_f40, li_l40, li_g40, li_m40, li_h40, li_e100, li_f100, li_l100, li_g100, li_m100, li_h100, li_e128, li_f128, li_l128, li_g128, li_m128, li_h128, li_e150, li_f150, li_l150, li_g150, li_m150, li_h150, li_e255, li_f255, li_l255, li_g255, li_m255, li_h255, li_e400, li_f400, li_l400, li_g400, li_m400, li_h400, li_e410, li_f410, li_l410, li_g410, li_m410, li_h410, li_e420, li_f420, li_l420, li_g420, li_m420, li_h420, li_e2000, li_f2000, li_l2000, li_g2000, li_m2000, li_h2000, li_e8200, li_f8200, li_l8200, li_g8200, li_m8200, li_h8200, li_e1000000, li_f1000000, li_l1000000, li_g1000000, li_m1000000, li_h1000000, li_50, li_50', li_200, li_200', nI_add, li_s1, li_t1, li_c1, li_c2, li_c3, li_c4, li_c5, li_c6, li_c7, li_c8, li_c9, li_c10, li_c11, li_c12, li_c13, li_c14, li_c15, sg_Kat, sg_Pat, pk_us, pk_uLs, true_implies, forall_const, not_true_eq_false, not_false_eq_true, false_implies, and_true, true_and, implies_true, and_self, if_true, if_false, ite_true, ite_false, reduceIte, eq_self, Nat.reduceEqDiff, Nat.reduceLeDiff, Nat.reduceLT, Int32.reduceLT, Int32.reduceLE]
        exact bad (-4) (by rw [hc]; rfl) (by decide) _ _ _ _ _ _ _ _ _ _ _ _ _
    · rw [if_pos (Or.inl n3)] at hc
      have hge : ¬ (0 : Int64) ≤ (gr_long (sv_b w) bc pl).2.1 := Int64.not_le.mpr n1
      simp (disch := omega) only [hge, wX_readBlock_24, n2, wX_readBlock_49, wpX_fail, wX_readBlock_69, forall_eq, nI_leI, nI_ltI, nI_eq, vp_in_nI, nI_clamp, nI_1, li_e0, li_f0, li_l0, li_g0, li_m0, li_h0, li_e1, li_f1, li_l1, li_g1, li_m1, li_h1, li_e2, li_f2, li_l2, li_g2, li_m2, li_h2, li_e3, li_f3, li_l3, li_g3, li_m3, li_h3, li_e4, li_f4, li_l4, li_g4, li_m4, li_h4, li_e5, li_f5, li_l5, li_g5, li_m5, li_h5, li_e6, li_f6, li_l6, li_g6, li_m6, li_h6, li_e7, li_f7, li_l7, li_g7, li_m7, li_h7, li_e8, li_f8, li_l8, li_g8, li_m8, li_h8, li_e9, li_f9, li_l9, li_g9, li_m9, li_h9, li_e10, li_f10, li_l10, li_g10, li_m10, li_h10, li_e15, li_f15, li_l15, li_g15, li_m15, li_h15, li_e16, li_f16, li_l16, li_g16, li_m16, li_h16, li_e20, li_f20, li_l20, li_g20, li_m20, li_h20, li_e40, li_f40, li_l40, li_g40, li_m40, li_h40, li_e100, li_f100, li_l100, li_g100, li_m100, li_h100, li_e128, li_f128, li_l128, li_g128, li_m128, li_h128, li_e150, li_f150, li_l150, li_g150, li_m150, li_h150, li_e255, li_f255, li_l255, li_g255, li_m255, li_h255, li_e400, li_f400, li_l400, li_g400, li_m400, li_h400, li_e410, li_f410, li_l410, li_g410, li_m410, li_h410, li_e420, li_f420, li_l420, li_g420, li_m420, li_h420, li_e2000, li_f2000, li_l2000, li_g2000, li_m2000, li_h2000, li_e8200, li_f8200, li_l8200, li_g8200, li_m8200, li_h8200, li_e1000000, li_f1000000, li_l1000000, li_g1000000, li_m1000000, li_h1000000, li_50, li_50', li_200, li_200', nI_add, li_s1, li_t1, li_c1, li_c2, li_c3, li_c4, li_c5, li_c6, li_c7, li_c8, li_c9, li_c10, li_c11, li_c12, li_c13, li_c14, li_c15, sg_Kat, sg_Pat, pk_us, pk_uLs, true_implies, forall_const, not_true_eq_false, not_false_eq_true, false_implies, and_true, true_and, implies_true, and_self, if_true, if_false, ite_true, ite_false, reduceIte, eq_self, Nat.reduceEqDiff, Nat.reduceLeDiff, Nat.reduceLT, Int32.reduceLT, Int32.reduceLE]
      exact bad (-4) (by rw [hc]; rfl) (by decide) _ _ _ _ _ _ _ _ _ _ _ _ _
    · have hge : ¬ (0 : Int64) ≤ (gr_long (sv_b w) bc pl).2.1 := Int64.not_le.mpr n1
      have hnn : ¬ lN a < 0 := by rw [show (0 : Int64) = lN 0 from rfl, pk_lLT a1 (by decide)]; omega
      have hab : (gr_long (sv_b w) bc pl).2.1.toInt.natAbs = a := by rw [ei]; omega
      have c1 : (gr_long (sv_b w) bc pl).2.1 < -40 ↔ 40 < a := by rw [gr_lt40, ei]; omega
      have c2 : ¬ (40 < (gr_long (sv_b w) bc pl).2.1) := by rw [gr_gt40, ei]; omega
      rw [hab] at good hc
      by_cases hle : a ≤ 40 - k
      · have hcond : ¬ ((gr_long (sv_b w) bc pl).2.1 < -40 ∨ 40 < (gr_long (sv_b w) bc pl).2.1 ∨ 40 < k + a) := by
          intro y
          rcases y with y | y | y
          · exact absurd (c1.mp y) (by omega)
          · exact c2 y
          · omega
        rw [if_neg hcond, if_pos n1] at good hc
        have hz0 : lN a ≤ lN (40 - k) := (pk_lLE a1 (by omega)).mpr hle
        simp (disch := omega) only [hge, e, wX_readBlock_24, hnn, evn, e40, hz0, forall_eq, nI_leI, nI_ltI, nI_eq, vp_in_nI, nI_clamp, nI_1, li_e0, li_f0, li_l0, li_g0, li_m0, li_h0, li_e1, li_f1, li_l1, li_g1, li_m1, li_h1, li_e2, li_f2, li_l2, li_g2, li_m2, li_h2, li_e3, li_f3, li_l3, li_g3, li_m3, li_h3, li_e4, li_f4, li_l4, li_g4, li_m4, li_h4, li_e5, li_f5, li_l5, li_g5, li_m5, li_h5, li_e6, li_f6, li_l6, li_g6, li_m6, li_h6, li_e7, li_f7, li_l7, li_g7, li_m7, li_h7, li_e8, li_f8, li_l8, li_g8, li_m8, li_h8, li_e9, li_f9, li_l9, li_g9, li_m9, li_h9, li_e10, li_f10, li_l10, li_g10, li_m10, li_h10, li_e15, li_f15, li_l15, li_g15, li_m15, li_h15, li_e16, li_f16, li_l16, li_g16, li_m16, li_h16, li_e20, li_f20, li_l20, li_g20, li_m20, li_h20, li_e40, li_f40, li_l40, li_g40, li_m40, li_h40, li_e100, li_f100, li_l100, li_g100, li_m100, li_h100, li_e128, li_f128, li_l128, li_g128, li_m128, li_h128, li_e150, li_f150, li_l150, li_g150, li_m150, li_h150, li_e255, li_f255, li_l255, li_g255, li_m255, li_h255, li_e400, li_f400, li_l400, li_g400, li_m400, li_h400, li_e410, li_f410, li_l410, li_g410, li_m410, li_h410, li_e420, li_f420, li_l420, li_g420, li_m420, li_h420, li_e2000, li_f2000, li_l2000, li_g2000, li_m2000, li_h2000, li_e8200, li_f8200, li_l8200, li_g8200, li_m8200, li_h8200, li_e1000000, li_f1000000, li_l1000000, li_g1000000, li_m1000000, li_h1000000, li_50, li_50', li_200, li_200', nI_add, li_s1, li_t1, li_c1, li_c2, li_c3, li_c4, li_c5, li_c6, li_c7, li_c8, li_c9, li_c10, li_c11, li_c12, li_c13, li_c14, li_c15, sg_Kat, sg_Pat, pk_us, pk_uLs, true_implies, forall_const, not_true_eq_false, not_false_eq_true, false_implies, and_true, true_and, implies_true, and_self, if_true, if_false, ite_true, ite_false, reduceIte, eq_self, Nat.reduceEqDiff, Nat.reduceLeDiff, Nat.reduceLT, Int32.reduceLT, Int32.reduceLE]
        refine xr_long hb l1 (fun z2 => ?_) (fun z2 p => ?_)
        · simp (disch := omega) only [forall_eq, nI_leI, nI_ltI, nI_eq, vp_in_nI, nI_clamp, nI_1, li_e0, li_f0, li_l0, li_g0, li_m0, li_h0, li_e1, li_f1, li_l1, li_g1, li_m1, li_h1, li_e2, li_f2, li_l2, li_g2, li_m2, li_h2, li_e3, li_f3, li_l3, li_g3, li_m3, li_h3, li_e4, li_f4, li_l4, li_g4, li_m4, li_h4, li_e5, li_f5, li_l5, li_g5, li_m5, li_h5, li_e6, li_f6, li_l6, li_g6, li_m6, li_h6, li_e7, li_f7, li_l7, li_g7, li_m7, li_h7, li_e8, li_f8, li_l8, li_g8, li_m8, li_h8, li_e9, li_f9, li_l9, li_g9, li_m9, li_h9, li_e10, li_f10, li_l10, li_g10, li_m10, li_h10, li_e15, li_f15, li_l15, li_g15, li_m15, li_h15, li_e16, li_f16, li_l16, li_g16, li_m16, li_h16, li_e20, li_f20, li_l20, li_g20, li_m20, li_h20, li_e40, li_f40, li_l40, li_g40, li_m40, li_h40, li_e100, li_f100, li_l100, li_g100, li_m100, li_h100, li_e128, li_f128, li_l128, li_g128, li_m128, li_h128, li_e150, li_f150, li_l150, li_g150, li_m150, li_h150, li_e255, li_f255, li_l255, li_g255, li_m255, li_h255, li_e400, li_f400, li_l400, li_g400, li_m400, li_h400, li_e410, li_f410, li_l410, li_g410, li_m410, li_h410, li_e420, li_f420, li_l420, li_g420, li_m420, li_h420, li_e2000, li_f2000, li_l2000, li_g2000, li_m2000, li_h2000, li_e8200, li_f8200, li_l8200, li_g8200, li_m8200, li_h8200, li_e1000000, li_f1000000, li_l1000000, li_g1000000, li_m1000000, li_h1000000, li_50, li_50', li_200, li_200', nI_add, li_s1, li_t1, li_c1, li_c2, li_c3, li_c4, li_c5, li_c6, li_c7, li_c8, li_c9, li_c10, li_c11, li_c12, li_c13, li_c14, li_c15, sg_Kat, sg_Pat, pk_us, pk_uLs, true_implies, forall_const, not_true_eq_false, not_false_eq_true, false_implies, and_true, true_and, implies_true, and_self, if_true, if_false, ite_true, ite_false, reduceIte, eq_self, Nat.reduceEqDiff, Nat.reduceLeDiff, Nat.reduceLT, Int32.reduceLT, Int32.reduceLE]
          exact good a _ (by omega) (by rw [z2])
        · simp (disch := omega) only [wX_readBlock_69, z2, forall_eq, nI_leI, nI_ltI, nI_eq, vp_in_nI, nI_clamp, nI_1, li_e0, li_f0, li_l0, li_g0, li_m0, li_h0, li_e1, li_f1, li_l1, li_g1, li_m1, li_h1, li_e2, li_f2, li_l2, li_g2, li_m2, li_h2, li_e3, li_f3, li_l3, li_g3, li_m3, li_h3, li_e4, li_f4, li_l4, li_g4, li_m4, li_h4, li_e5, li_f5, li_l5, li_g5, li_m5, li_h5, li_e6, li_f6, li_l6, li_g6, li_m6, li_h6, li_e7, li_f7, li_l7, li_g7, li_m7, li_h7, li_e8, li_f8, li_l8, li_g8, li_m8, li_h8, li_e9, li_f9, li_l9, li_g9, li_m9, li_h9, li_e10, li_f10, li_l10, li_g10, li_m10, li_h10, li_e15, li_f15, li_l15, li_g15, li_m15, li_h15, li_e16, li_f16, li_l16, li_g16, li_m16, li_h16, li_e20, li_f20, li_l20, li_g20, li_m20, li_h20, li_e40, li_f40, li_l40, li_g40, li_m40, li_h40, li_e100, li_f100, li_l100, li_g100, li_m100, li_h100, li_e128, li_f128, li_l128, li_g128, li_m128, li_h128, li_e150, li_f150, li_l150, li_g150, li_m150, li_h150, li_e255, li_f255, li_l255, li_g255, li_m255, li_h255, li_e400, li_f400, li_l400, li_g400, li_m400, li_h400, li_e410, li_f410, li_l410, li_g410, li_m410, li_h410, li_e420, li_f420, li_l420, li_g420, li_m420, li_h420, li_e2000, li_f2000, li_l2000, li_g2000, li_m2000, li_h2000, li_e8200, li_f8200, li_l8200, li_g8200, li_m8200, li_h8200, li_e1000000, li_f1000000, li_l1000000, li_g1000000, li_m1000000, li_h1000000, li_50, li_50', li_200, li_200', nI_add, li_s1, li_t1, li_c1, li_c2, li_c3, li_c4, li_c5, li_c6, li_c7, li_c8, li_c9, li_c10, li_c11, li_c12, li_c13, li_c14, li_c15, sg_Kat, sg_Pat, pk_us, pk_uLs, true_implies, forall_const, not_true_eq_false, not_false_eq_true, false_implies, and_true, true_and, implies_true, and_self, if_true, if_false, ite_true, ite_false, reduceIte, eq_self, Nat.reduceEqDiff, Nat.reduceLeDiff, Nat.reduceLT, Int32.reduceLT, Int32.reduceLE]
          exact bad _ (by rw [hc]; dsimp only; rw [if_neg z2]) z2 _ _ _ _ _ _ _ _ _ _ _ _ _
      · rw [if_pos (Or.inr (Or.inr (by omega)))] at hc
        have hz0 : ¬ lN a ≤ lN (40 - k) := fun y => hle ((pk_lLE a1 (by omega)).mp y)
        simp (disch := omega) only [hge, e, wX_readBlock_24, hnn, evn, e40, hz0, wX_readBlock_49, wpX_fail, wX_readBlock_69, forall_eq, nI_leI, nI_ltI, nI_eq, vp_in_nI, nI_clamp, nI_1, li_e0, li_f0, li_l0, li_g0, li_m0, li_h0, li_e1, li_f1, li_l1, li_g1, li_m1, li_h1, li_e2, li_f2, li_l2, li_g2, li_m2, li_h2, li_e3, li_f3, li_l3, li_g3, li_m3, li_h3, li_e4, li_f4, li_l4, li_g4, li_m4, li_h4, li_e5, li_f5, li_l5, li_g5, li_m5, li_h5, li_e6, li_f6, li_l6, li_g6, li_m6, li_h6, li_e7, li_f7, li_l7, li_g7, li_m7, li_h7, li_e8, li_f8, li_l8, li_g8, li_m8, li_h8, li_e9, li_f9, li_l9, li_g9, li_m9, li_h9, li_e10, li_f10, li_l10, li_g10, li_m10, li_h10, li_e15, li_f15, li_l15, li_g15, li_m15, li_h15, li_e16, li_f16, li_l16, li_g16, li_m16, li_h16, li_e20, li_f20, li_l20, li_g20, li_m20, li_h20, li_e40, li_f40, li_l40, li_g40, li_m40, li_h40, li_e100, li_f100, li_l100, li_g100, li_m100, li_h100, li_e128, li_f128, li_l128, li_g128, li_m128, li_h128, li_e150, li_f150, li_l150, li_g150, li_m150, li_h150, li_e255, li_f255, li_l255, li_g255, li_m255, li_h255, li_e400, li_f400, li_l400, li_g400, li_m400, li_h400, li_e410, li_f410, li_l410, li_g410, li_m410, li_h410, li_e420, li_f420, li_l420, li_g420, li_m420, li_h420, li_e2000, li_f2000, li_l2000, li_g2000, li_m2000, li_h2000, li_e8200, li_f8200, li_l8200, li_g8200, li_m8200, li_h8200, li_e1000000, li_f1000000, li_l1000000, li_g1000000, li_m1000000, li_h1000000, li_50, li_50', li_200, li_200', nI_add, li_s1, li_t1, li_c1, li_c2, li_c3, li_c4, li_c5, li_c6, li_c7, li_c8, li_c9, li_c10, li_c11, li_c12, li_c13, li_c14, li_c15, sg_Kat, sg_Pat, pk_us, pk_uLs, true_implies, forall_const, not_true_eq_false, not_false_eq_true, false_implies, and_true, true_and, implies_true, and_self, if_true, if_false, ite_true, ite_false, reduceIte, eq_self, Nat.reduceEqDiff, Nat.reduceLeDiff, Nat.reduceLT, Int32.reduceLT, Int32.reduceLE]
        exact bad (-4) (by rw [hc]; rfl) (by decide) _ _ _ _ _ _ _ _ _ _ _ _ _
  · rw [if_neg z] at hc
    have h00 : (0 : Int64) ≤ 0 := by decide
    have h01 : ¬ (0 : Int64) < 0 := by decide
    have hz0 : (0 : Int64) ≤ lN (40 - k) := (pk_lLE (a := 0) (by decide) (by omega)).mpr (Nat.zero_le _)
    simp (disch := omega) only [h00, h01, wX_readBlock_24, evn, e40, hz0, wX_readBlock_69, z, forall_eq, nI_leI, nI_ltI, nI_eq, vp_in_nI, nI_clamp, nI_1, li_e0, li_f0, li_l0, li_g0, li_m0, li_h0, li_e1, li_f1, li_l1, li_g1, li_m1, li_h1, li_e2, li_f2, li_l2, li_g2, li_m2, li_h2, li_e3, li_f3, li_l3, li_g3, li_m3, li_h3, li_e4, li_f4, li_l4, li_g4, li_m4, li_h4, li_e5, li_f5, li_l5, li_g5, li_m5, li_h5, li_e6, li_f6, li_l6, li_g6, li_m6, li_h6, li_e7, li_f7, li_l7, li_g7, li_m7, li_h7, li_e8, li_f8, li_l8, li_g8, li_m8, li_h8, li_e9, li_f9, li_l9, li_g9, li_m9, li_h9, li_e10, li_f10, li_l10, li_g10, li_m10, li_h10, li_e15, li_f15, li_l15, li_g15, li_m15, li_h15, li_e16, li_f16, li_l16, li_g16, li_m16, li_h16, li_e20, li_f20, li_l20, li_g20, li_m20, li_h20, li_e40, li_f40, li_l40, li_g40, li_m40, li_h40, li_e100, li_f100, li_l100, li_g100, li_m100, li_h100, li_e128, li_f128, li_l128, li_g128, li_m128, li_h128, li_e150, li_f150, li_l150, li_g150, li_m150, li_h150, li_e255, li_f255, li_l255, li_g255, li_m255, li_h255, li_e400, li_f400, li_l400, li_g400, li_m400, li_h400, li_e410, li_f410, li_l410, li_g410, li_m410, li_h410, li_e420, li_f420, li_l420, li_g420, li_m420, li_h420, li_e2000, li_f2000, li_l2000, li_g2000, li_m2000, li_h2000, li_e8200, li_f8200, li_l8200, li_g8200, li_m8200, li_h8200, li_e1000000, li_f1000000, li_l1000000, li_g1000000, li_m1000000, li_h1000000, li_50, li_50', li_200, li_200', nI_add, li_s1, li_t1, li_c1, li_c2, li_c3, li_c4, li_c5, li_c6, li_c7, li_c8, li_c9, li_c10, li_c11, li_c12, li_c13, li_c14, li_c15, sg_Kat, sg_Pat, pk_us, pk_uLs, true_implies, forall_const, not_true_eq_false, not_false_eq_true, false_implies, and_true, true_and, implies_true, and_self, if_true, if_false, ite_true, ite_false, reduceIte, eq_self, Nat.reduceEqDiff, Nat.reduceLeDiff, Nat.reduceLT, Int32.reduceLT, Int32.reduceLE]
    exact bad _ (by rw [hc]; dsimp only; rw [if_neg z]) z _ _ _ _ _ _ _ _ _ _ _ _ _
end
