/-! the reference's reading: a value is linked into the tree -/
/-- what holds once the new value is linked -/
def ry_lk (g : sg_T) (F : List gr_F) (w : sr_V) (ch la nx op co le : Nat → Int32) : Prop :=
  (∀ v, v < sv_m w → gr_cp F v → (0 < sv_cnt g w v → ch v = nI (v + 1)) ∧ ∀ i, i + 1 < sv_cnt g w v → nx (sv_ch (sv_a w) v i) = nI (sv_ch (sv_a w) v (i + 1))) ∧
  ch (sv_m w) = -1 ∧ (∀ t x fr d, ry_fr g (gr_add w t x fr d) ch la nx op co le F)
theorem ry_add_ch {w : sr_V} {t fr d : Nat} {x : Int64} {v : Nat} : ∀ {i : Nat}, (∀ j, j < i → sv_ch (sv_a w) v j < sv_m w) → sv_ch (sv_a (gr_add w t x fr d)) v i = sv_ch (sv_a w) v i := by
  intro i h
  refine sv_ch_same (fun j hj => ?_)
  have : sv_a (gr_add w t x fr d) (sv_ch (sv_a w) v j) = sv_a w (sv_ch (sv_a w) v j) := sg_un_n (by have := h j hj; omega)
  exact this.symm
/-- the lower frames keep their children: cells change at m, at y (open), and next at m and at z, whose after is m -/
theorem ry_low_fr {g : sg_T} {w : sr_V} {yr : Nat → Int64} {A : List gr_F} {ch la nx ch' la' nx' op co le : Nat → Int32} {y : Nat} (h1 : ∀ u, u < y → ch' u = ch u ∧ la' u = la u) (h2 : ∀ u, u < sv_m w → ¬ sv_a w u = sv_m w → nx' u = nx u) :
    ∀ {F : List gr_F} {x : Nat}, x ≤ y → x < sv_m w → gr_low g w yr A x F → ry_fr g w ch la nx op co le F → ∀ t x fr d, ry_fr g (gr_add w t x fr d) ch' la' nx' op co le F := by
  intro F
  induction F with
  | nil => intro x _ _ _ _ t x fr d; trivial
  | cons f F ih =>
    intro x hx hxm hl hf t x' fr d
    obtain ⟨l1, l2, l3, l4, l5, l6⟩ := hl
    obtain ⟨r1, r2, r3⟩ := hf
    obtain ⟨a1, a2⟩ := h1 f.1 (by omega)
    have hk : ∀ j, j < f.2.2.1 → sv_ch (sv_a w) f.1 j < sv_m w := by
      intro j hj
      by_cases e : j = f.2.2.1 - 1
      · subst e; rw [l3]; exact hxm
      · exact (l5 j (by omega)).1.2.1
    refine ⟨r1, ry_kids_map a1 a2 (fun i hi => ry_add_ch (fun j hj => hk j (by omega))) (fun i hi => ?_) r2, ih (by omega) l1.1 l6 r3 t x' fr d⟩
    refine h2 _ (hk i (by omega)) (fun z => ?_)
    have h3 := hk (i + 1) hi
    have e : sv_ch (sv_a w) f.1 (i + 1) = sv_a w (sv_ch (sv_a w) f.1 i) := rfl
    omega
theorem ry_cp_nx {g : sg_T} {w : sr_V} {F : List gr_F} {nx nx' : Nat → Int32} (h2 : ∀ u, u < sv_m w → ¬ sv_a w u = sv_m w → nx' u = nx u) {v : Nat} (hf : gr_full g w F v) (h : ∀ i, i + 1 < sv_cnt g w v → nx (sv_ch (sv_a w) v i) = nI (sv_ch (sv_a w) v (i + 1))) :
    ∀ i, i + 1 < sv_cnt g w v → nx' (sv_ch (sv_a w) v i) = nI (sv_ch (sv_a w) v (i + 1)) := by
  intro i hi
  rw [h2 _ (hf.2 i (by omega)).1.2.1 (fun z => ?_)]
  · exact h i hi
  · have h3 := (hf.2 (i + 1) hi).1.2.1
    have e : sv_ch (sv_a w) v (i + 1) = sv_a w (sv_ch (sv_a w) v i) := rfl
    omega
section
variable {y_types y_byteCount y_writtenCount y_numberCount y_listCount y_values y_depth y_records y_at y_wrong y_todo : Int32}
variable {y_kind y_of y_parts y_fallback y_name y_part y_alias y_given y_has y_bytes y_written y_valueType y_start y_child y_last y_next y_open y_come y_left y_todoValue y_todoType y_todoDefault y_pair y_whole : Nat → Int32}
variable {y_numbers y_list y_value : Nat → Int64}
variable {bc pl : Nat} {g : sg_T} {post : SY → Prop} {vt st ch la nx op co le : Nat → Int32} {vn : Nat → Int64} {F : List gr_F} {w : sr_V} {yr : Nat → Int64}
theorem yr_link (hg : sg_ok g) {t : Nat} (hm : sv_m w < 400) (h910 : ¬ (sg_k g t = 9 ∧ gr_rc g F = 10)) (ht : t < sg_n g) (hp : gr_pre g bc F w yr) (htr : ry_tree g F w yr vt st ch nx vn) (hfr : ry_pre g w ch la nx op co le F)
    (H : ∀ ch2 la2 nx2, ry_lk g F w ch2 la2 nx2 op co le → wY_begin_150 post (nI t) (nI (sv_m w)) (nI (sg_n g)) (nI bc) y_writtenCount y_numberCount y_listCount (nI (sv_m w + 1)) (nI F.length) (nI (gr_rc g F)) (nI pl) 0 y_todo (sg_K g) y_of (sg_P g) (sg_f g) y_name y_part y_alias y_given y_has (sv_b w) y_written y_numbers y_list (upd vt (sv_m w) (nI t)) st ch2 la2 nx2 vn op co le y_todoValue y_todoType y_todoDefault y_pair y_whole) :
    wpY_begin post (nI (sg_n g), nI bc, y_writtenCount, y_numberCount, y_listCount, nI (sv_m w), nI F.length, nI (gr_rc g F), nI pl, 0, y_todo, sg_K g, y_of, sg_P g, sg_f g, y_name, y_part, y_alias, y_given, y_has, sv_b w, y_written, y_numbers, y_list, vt, st, ch, la, nx, vn, op, co, le, y_todoValue, y_todoType, y_todoDefault, y_pair, y_whole) (nI t) := by
  have hn := hg.1
  have k9 := hg.2.1 t
  obtain ⟨q1, q2, q3, q4, q5, q6, q7⟩ := hp
  have hlt := gr_low_lt q7
  have a1 : ¬ sv_m w = 400 := by omega
  have go : wY_begin_49 post (nI t) (nI (sg_n g)) (nI bc) y_writtenCount y_numberCount y_listCount (nI (sv_m w)) (nI F.length) (nI (gr_rc g F)) (nI pl) 0 y_todo (sg_K g) y_of (sg_P g) (sg_f g) y_name y_part y_alias y_given y_has (sv_b w) y_written y_numbers y_list vt st ch la nx vn op co le y_todoValue y_todoType y_todoDefault y_pair y_whole := by
    cases F with
    | nil =>
      have hm0 := q6 rfl
      have h2 := H (upd ch (sv_m w) (-1)) la (upd nx (sv_m w) (-1)) ⟨fun v hv => absurd hv (by omega), pk_us, fun _ _ _ _ => trivial⟩
      simp (disch := omega) only [wY_begin_49, List.length_nil, Int32.le_refl, li_n0, forall_eq, nI_leI, nI_ltI, nI_eq, vp_in_nI, nI_clamp, nI_1, li_e0, li_f0, li_l0, li_g0, li_m0, li_h0, li_e1, li_f1, li_l1, li_g1, li_m1, li_h1, li_e2, li_f2, li_l2, li_g2, li_m2, li_h2, li_e3, li_f3, li_l3, li_g3, li_m3, li_h3, li_e4, li_f4, li_l4, li_g4, li_m4, li_h4, li_e5, li_f5, li_l5, li_g5, li_m5, li_h5, li_e6, li_f6, li_l6, li_g6, li_m6, li_h6, li_e7, li_f7, li_l7, li_g7, li_m7, li_h7, li_e8, li_f8, li_l8, li_g8, li_m8, li_h8, li_e9, li_f9, li_l9, li_g9, li_m9, li_h9, li_e10, li_f10, li_l10, li_g10, li_m10, li_h10, li_e15, li_f15, li_l15, li_g15, li_m15, li_h15, li_e16, li_f16, li_l16, li_g16, li_m16, li_h16, li_e20, li_f20, li_l20, li_g20, li_m20, li_h20, li_e40, li_f40, li_l40, li_g40, li_m40, li_h40, li_e100, li_f100, li_l100, li_g100, li_m100, li_h100, li_e128, li_f128, li_l128, li_g128, li_m128, li_h128, li_e150, li_f150, li_l150, li_g150, li_m150, li_h150, li_e255, li_f255, li_l255, li_g255, li_m255, li_h255, li_e400, li_f400, li_l400, li_g400, li_m400, li_h400, li_e410, li_f410, li_l410, li_g410, li_m410, li_h410, li_e420, li_f420, li_l420, li_g420, li_m420, li_h420, li_e2000, li_f2000, li_l2000, li_g2000, li_m2000, li_h2000, li_e8200, li_f8200, li_l8200, li_g8200, li_m8200, li_h8200, li_e1000000, li_f1000000, li_l1000000, li_g1000000, li_m1000000, li_h1000000, li_50, li_50', li_200, li_200', nI_add, li_s1, li_t1, li_c1, li_c2, li_c3, li_c4, li_c5, li_c6, li_c7, li_c8, li_c9, li_c10, li_c11, li_c12, li_c13, li_c14, li_c15, sg_Kat, sg_Pat, pk_us, pk_uLs, true_implies, forall_const, not_true_eq_false, not_false_eq_true, false_implies, and_true, true_and, implies_true, and_self, if_true, if_false, ite_true, ite_false, reduceIte, eq_self, Nat.reduceEqDiff, Nat.reduceLeDiff, Nat.reduceLT, Int32.reduceLT, Int32.reduceLE]
      exact h2
    | cons f F =>
      obtain ⟨v, t0, k1, l⟩ := f
      obtain ⟨l1, l2, l3, l4, l5, l6⟩ := q7
      obtain ⟨⟨c1, c2, c3⟩, r2, r3⟩ := hfr
      dsimp only at l1 l2 l3 l4 l5 l6 c1 c2 c3 r2
      have hvm := l1.1
      dsimp only at hvm
      rw [List.length_cons] at q2
      have e0 : ¬ F.length + 1 ≤ 0 := by omega
      have ep : nI (F.length + 1) - 1 = nI F.length := nI_pred _
      have env : ¬ v = sv_m w := by omega
      obtain ⟨g1, g2, g3⟩ := r2
      by_cases hk : k1 - 1 = 0
      · have hch : ch v = -1 := g1 hk
        have ek : k1 = 1 := by omega
        have hc2 : (upd ch (sv_m w) (-1)) v = -1 := by rw [pk_un env]; exact hch
        have h2 := H (upd (upd ch (sv_m w) (-1)) v (nI (sv_m w))) (upd la v (nI (sv_m w))) (upd nx (sv_m w) (-1)) (by
          refine ⟨fun u hu hcu => ?_, ?_, fun t x fr d => ?_⟩
          · have euv : ¬ u = v := fun z => hcu _ List.mem_cons_self z.symm
            obtain ⟨_, _, _, _, _, z6⟩ := htr u hu
            obtain ⟨z7, z8⟩ := z6 hcu
            refine ⟨fun z => by rw [pk_un euv, pk_un (by omega)]; exact z7 z, ?_⟩
            exact ry_cp_nx (nx := nx) (nx' := upd nx (sv_m w) (-1)) (fun x hx _ => pk_un (by omega)) (q5 u hu hcu) z8
          · rw [pk_un (fun z => env z.symm), pk_us]
          · refine ⟨⟨c1, c2, c3⟩, ?_, ?_⟩
            · have e5 : sv_ch (sv_a w) v 0 = sv_m w := by rw [ek] at l3; exact l3
              have e6 : v + 1 = sv_m w := e5
              dsimp only
              rw [ek]
              refine ⟨fun z => by omega, fun _ => ⟨by rw [pk_us, e6], by rw [pk_us]; exact congrArg nI e6.symm⟩, fun i hi => by omega⟩
            · exact ry_low_fr (y := v) (fun u hu => ⟨by rw [pk_un (by omega), pk_un (by omega)], pk_un (by omega)⟩) (fun u hu _ => pk_un (by omega)) (Nat.le_refl v) hvm l6 r3 t x fr d)
        simp (disch := omega) only [wY_begin_49, List.length_cons, e0, ep, c1, hc2, wY_begin_143, forall_eq, nI_leI, nI_ltI, nI_eq, vp_in_nI, nI_clamp, nI_1, li_e0, li_f0, li_l0, li_g0, li_m0, li_h0, li_e1, li_f1, li_l1, li_g1, li_m1, li_h1, li_e2, li_f2, li_l2, li_g2, li_m2, li_h2, li_e3, li_f3, li_l3, li_g3, li_m3, li_h3, li_e4, li_f4, li_l4, li_g4, li_m4, li_h4, li_e5, li_f5, li_l5, li_g5, li_m5, li_h5, li_e6, li_f6, li_l6, li_g6, li_m6, li_h6, li_e7, li_f7, li_l7, li_g7, li_m7, li_h7, li_e8, li_f8, li_l8, li_g8, li_m8, li_h8, li_e9, li_f9, li_l9, li_g9, li_m9, li_h9, li_e10, li_f10, li_l10, li_g10, li_m10, li_h10, li_e15, li_f15, li_l15, li_g15, li_m15, li_h15, li_e16, li_f16, li_l16, li_g16, li_m16, li_h16, li_e20, li_f20, li_l20, li_g20, li_m20, li_h20, li_e40, li_f40, li_l40, li_g40, li_m40, li_h40, li_e100, li_f100, li_l100, li_g100, li_m100, li_h100, li_e128, li_f128, li_l128, li_g128, li_m128, li_h128, li_e150, li_f150, li_l150, li_g150, li_m150, li_h150, li_e255, li_f255, li_l255, li_g255, li_m255, li_h255, li_e400, li_f400, li_l400, li_g400, li_m400, li_h400, li_e410, li_f410, li_l410, li_g410, li_m410, li_h410, li_e420, li_f420, li_l420, li_g420, li_m420, li_h420, li_e2000, li_f2000, li_l2000, li_g2000, li_m2000, li_h2000, li_e8200, li_f8200, li_l8200, li_g8200, li_m8200, li_h8200, li_e1000000, li_f1000000, li_l1000000, li_g1000000, li_m1000000, li_h1000000, li_50, li_50', li_200, li_200', nI_add, li_s1, li_t1, li_c1, li_c2, li_c3, li_c4, li_c5, li_c6, li_c7, li_c8, li_c9, li_c10, li_c11, li_c12, li_c13, li_c14, li_c15, sg_Kat, sg_Pat, pk_us, pk_uLs, true_implies, forall_const, not_true_eq_false, not_false_eq_true, false_implies, and_true, true_and, implies_true, and_self, if_true, if_false, ite_true, ite_false, reduceIte, eq_self, Nat.reduceEqDiff, Nat.reduceLeDiff, Nat.reduceLT, Int32.reduceLT, Int32.reduceLE]
        exact h2
      · obtain ⟨g4, g5⟩ := g2 (by omega)
        have hkid := (l5 (k1 - 2) (by omega)).1
        have hlast : sv_ch (sv_a w) v (k1 - 1 - 1) = sv_ch (sv_a w) v (k1 - 2) := rfl
        have hz := hkid.2.1
        have haz : sv_a w (sv_ch (sv_a w) v (k1 - 2)) = sv_m w := by
          have e : sv_ch (sv_a w) v (k1 - 2 + 1) = sv_a w (sv_ch (sv_a w) v (k1 - 2)) := rfl
          rw [show k1 - 2 + 1 = k1 - 1 by omega] at e
          rw [← e]; exact l3
        rw [hlast] at g5
        have hc2 : (upd ch (sv_m w) (-1)) v = nI (v + 1) := by rw [pk_un env]; exact g4
        have hge : (0 : Int32) ≤ nI (v + 1) := nI_pos' (by omega)
        have nxs : ∀ u, u < sv_m w → ¬ sv_a w u = sv_m w → (upd (upd nx (sv_m w) (-1)) (sv_ch (sv_a w) v (k1 - 2)) (nI (sv_m w))) u = nx u := by
          intro u hu ha
          rw [pk_un (fun z => ha (by rw [z]; exact haz)), pk_un (by omega)]
        have h2 := H (upd ch (sv_m w) (-1)) (upd la v (nI (sv_m w))) (upd (upd nx (sv_m w) (-1)) (sv_ch (sv_a w) v (k1 - 2)) (nI (sv_m w))) (by
          refine ⟨fun u hu hcu => ?_, pk_us, fun t x fr d => ?_⟩
          · obtain ⟨_, _, _, _, _, z6⟩ := htr u hu
            obtain ⟨z7, z8⟩ := z6 hcu
            refine ⟨fun z => by rw [pk_un (by omega)]; exact z7 z, ?_⟩
            exact ry_cp_nx nxs (q5 u hu hcu) z8
          · refine ⟨⟨c1, c2, c3⟩, ?_, ?_⟩
            · dsimp only
              have hchs : ∀ i, i ≤ k1 - 1 → sv_ch (sv_a (gr_add w t x fr d)) v i = sv_ch (sv_a w) v i := fun i hi => ry_add_ch (fun j hj => (l5 j (by omega)).1.2.1)
              refine ⟨fun z => by omega, fun _ => ⟨hc2, by rw [pk_us, hchs _ (Nat.le_refl _), l3]⟩, fun i hi => ?_⟩
              rw [hchs i (by omega), hchs (i + 1) (by omega)]
              by_cases ei : i = k1 - 2
              · subst ei
                rw [pk_us, show k1 - 2 + 1 = k1 - 1 by omega, l3]
              · rw [nxs _ (l5 i (by omega)).1.2.1 (fun z => ?_)]
                · exact g3 i (by omega)
                · have h3 := (l5 (i + 1) (by omega)).1.2.1
                  have e : sv_ch (sv_a w) v (i + 1) = sv_a w (sv_ch (sv_a w) v i) := rfl
                  omega
            · exact ry_low_fr (y := v) (fun u hu => ⟨pk_un (by omega), pk_un (by omega)⟩) nxs (Nat.le_refl v) hvm l6 r3 t x fr d)
        simp (disch := omega) only [wY_begin_49, List.length_cons, e0, ep, c1, hc2, hge, g5, wY_begin_143, forall_eq, nI_leI, nI_ltI, nI_eq, vp_in_nI, nI_clamp, nI_1, li_e0, li_f0, li_l0, li_g0, li_m0, li_h0, li_e1, li_f1, li_l1, li_g1, li_m1, li_h1, li_e2, li_f2, li_l2, li_g2, li_m2, li_h2, li_e3, li_f3, li_l3, li_g3, li_m3, li_h3, li_e4, li_f4, li_l4, li_g4, li_m4, li_h4, li_e5, li_f5, li_l5, li_g5, li_m5, li_h5, li_e6, li_f6, li_l6, li_g6, li_m6, li_h6, li_e7, li_f7, li_l7, li_g7, li_m7, li_h7, li_e8, li_f8, li_l8, li_g8, li_m8, li_h8, li_e9, li_f9, li_l9, li_g9, li_m9, li_h9, li_e10, li_f10, li_l10, li_g10, li_m10, li_h10, li_e15, li_f15, li_l15, li_g15, li_m15, li_h15, li_e16, li_f16, li_l16, li_g16, li_m16, li_h16, li_e20, li_f20, li_l20, li_g20, li_m20, li_h20, li_e40, li_f40, li_l40, li_g40, li_m40, li_h40, li_e100, li_f100, li_l100, li_g100, li_m100, li_h100, li_e128, li_f128, li_l128, li_g128, li_m128, li_h128, li_e150, li_f150, li_l150, li_g150, li_m150, li_h150, li_e255, li_f255, li_l255, li_g255, li_m255, li_h255, li_e400, li_f400, li_l400, li_g400, li_m400, li_h400, li_e410, li_f410, li_l410, li_g410, li_m410, li_h410, li_e420, li_f420, li_l420, li_g420, li_m420, li_h420, li_e2000, li_f2000, li_l2000, li_g2000, li_m2000, li_h2000, li_e8200, li_f8200, li_l8200, li_g8200, li_m8200, li_h8200, li_e1000000, li_f1000000, li_l1000000, li_g1000000, li_m1000000, li_h1000000, li_50, li_50', li_200, li_200', nI_add, li_s1, li_t1, li_c1, li_c2, li_c3, li_c4, li_c5, li_c6, li_c7, li_c8, li_c9, li_c10, li_c11, li_c12, li_c13, li_c14, li_c15, sg_Kat, sg_Pat, pk_us, pk_uLs, true_implies, forall_const, not_true_eq_false, not_false_eq_true, false_implies, and_true, true_and, implies_true, and_self, if_true, if_false, ite_true, ite_false, reduceIte, eq_self, Nat.reduceEqDiff, Nat.reduceLeDiff, Nat.reduceLT, Int32.reduceLT, Int32.reduceLE]
        exact h2
  by_cases h9 : sg_k g t = 9
  · have h10 : ¬ gr_rc g F = 10 := fun z => h910 ⟨h9, z⟩
    simp (disch := omega) only [wpY_begin, wY_begin_16, a1, h9, h10, forall_eq, nI_leI, nI_ltI, nI_eq, vp_in_nI, nI_clamp, nI_1, li_e0, li_f0, li_l0, li_g0, li_m0, li_h0, li_e1, li_f1, li_l1, li_g1, li_m1, li_h1, li_e2, li_f2, li_l2, li_g2, li_m2, li_h2, li_e3, li_f3, li_l3, li_g3, li_m3, li_h3, li_e4, li_f4, li_l4, li_g4, li_m4, li_h4, li_e5, li_f5, li_l5, li_g5, li_m5, li_h5, li_e6, li_f6, li_l6, li_g6, li_m6, li_h6, li_e7, li_f7, li_l7, li_g7, li_m7, li_h7, li_e8, li_f8, li_l8, li_g8, li_m8, li_h8, li_e9, li_f9, li_l9, li_g9, li_m9, li_h9, li_e10, li_f10, li_l10, li_g10, li_m10, li_h10, li_e15, li_f15, li_l15, li_g15, li_m15, li_h15, li_e16, li_f16, li_l16, li_g16, li_m16, li_h16, li_e20, li_f20, li_l20, li_g20, li_m20, li_h20, li_e40, li_f40, li_l40, li_g40, li_m40, li_h40, li_e100, li_f100, li_l100, li_g100, li_m100, li_h100, li_e128, li_f128, li_l128, li_g128, li_m128, li_h128, li_e150, li_f150, li_l150, li_g150, li_m150, li_h150, li_e255, li_f255, li_l255, li_g255, li_m255, li_h255, li_e400, li_f400, li_l400, li_g400, li_m400, li_h400, li_e410, li_f410, li_l410, li_g410, li_m410, li_h410, li_e420, li_f420, li_l420, li_g420, li_m420, li_h420, li_e2000, li_f2000, li_l2000, li_g2000, li_m2000, li_h2000, li_e8200, li_f8200, li_l8200, li_g8200, li_m8200, li_h8200, li_e1000000, li_f1000000, li_l1000000, li_g1000000, li_m1000000, li_h1000000, li_50, li_50', li_200, li_200', nI_add, li_s1, li_t1, li_c1, li_c2, li_c3, li_c4, li_c5, li_c6, li_c7, li_c8, li_c9, li_c10, li_c11, li_c12, li_c13, li_c14, li_c15, sg_Kat, sg_Pat, pk_us, pk_uLs, true_implies, forall_const, not_true_eq_false, not_false_eq_true, false_implies, and_true, true_and, implies_true, and_self, if_true, if_false, ite_true, ite_false, reduceIte, eq_self, Nat.reduceEqDiff, Nat.reduceLeDiff, Nat.reduceLT, Int32.reduceLT, Int32.reduceLE]
    exact go
  · simp (disch := omega) only [wpY_begin, wY_begin_16, a1, h9, forall_eq, nI_leI, nI_ltI, nI_eq, vp_in_nI, nI_clamp, nI_1, li_e0, li_f0, li_l0, li_g0, li_m0, li_h0, li_e1, li_f1, li_l1, li_g1, li_m1, li_h1, li_e2, li_f2, li_l2, li_g2, li_m2, li_h2, li_e3, li_f3, li_l3, li_g3, li_m3, li_h3, li_e4, li_f4, li_l4, li_g4, li_m4, li_h4, li_e5, li_f5, li_l5, li_g5, li_m5, li_h5, li_e6, li_f6, li_l6, li_g6, li_m6, li_h6, li_e7, li_f7, li_l7, li_g7, li_m7, li_h7, li_e8, li_f8, li_l8, li_g8, li_m8, li_h8, li_e9, li_f9, li_l9, li_g9, li_m9, li_h9, li_e10, li_f10, li_l10, li_g10, li_m10, li_h10, li_e15, li_f15, li_l15, li_g15, li_m15, li_h15, li_e16, li_f16, li_l16, li_g16, li_m16, li_h16, li_e20, li_f20, li_l20, li_g20, li_m20, li_h20, li_e40, li_f40, li_l40, li_g40, li_m40, li_h40, li_e100, li_f100, li_l100, li_g100, li_m100, li_h100, li_e128, li_f128, li_l128, li_g128, li_m128, li_h128, li_e150, li_f150, li_l150, li_g150, li_m150, li_h150, li_e255, li_f255, li_l255, li_g255, li_m255, li_h255, li_e400, li_f400, li_l400, li_g400, li_m400, li_h400, li_e410, li_f410, li_l410, li_g410, li_m410, li_h410, li_e420, li_f420, li_l420, li_g420, li_m420, li_h420, li_e2000, li_f2000, li_l2000, li_g2000, li_m2000, li_h2000, li_e8200, li_f8200, li_l8200, li_g8200, li_m8200, li_h8200, li_e1000000, li_f1000000, li_l1000000, li_g1000000, li_m1000000, li_h1000000, li_50, li_50', li_200, li_200', nI_add, li_s1, li_t1, li_c1, li_c2, li_c3, li_c4, li_c5, li_c6, li_c7, li_c8, li_c9, li_c10, li_c11, li_c12, li_c13, li_c14, li_c15, sg_Kat, sg_Pat, pk_us, pk_uLs, true_implies, forall_const, not_true_eq_false, not_false_eq_true, false_implies, and_true, true_and, implies_true, and_self, if_true, if_false, ite_true, ite_false, reduceIte, eq_self, Nat.reduceEqDiff, Nat.reduceLeDiff, Nat.reduceLT, Int32.reduceLT, Int32.reduceLE]
    exact go
end
