/-! reading keeps the tree -/
theorem gr_within_ok {b : Nat → Int32} {bc pl : Nat} {lo hi : Int64} (h : (gr_within b bc pl lo hi).1 = 0) : (gr_long b bc pl).1 = 0 ∧ ¬ (gr_long b bc pl).2.1 < lo ∧ ¬ hi < (gr_long b bc pl).2.1 ∧ gr_within b bc pl lo hi = gr_long b bc pl := by
  unfold gr_within at h ⊢
  by_cases h0 : (gr_long b bc pl).1 = 0
  · rw [if_pos h0] at h ⊢
    by_cases h1 : (gr_long b bc pl).2.1 < lo ∨ hi < (gr_long b bc pl).2.1
    · rw [if_pos h1] at h; exact absurd (show (-3 : Int32) = 0 from h) (by decide)
    · rw [if_neg h1]
      exact ⟨h0, fun z => h1 (Or.inl z), fun z => h1 (Or.inr z), rfl⟩
  · rw [if_neg h0] at h
    exact absurd h h0
/-- a number of a part -/
theorem gr_part_ok {g : sg_T} {b : Nat → Int32} {bc pl t : Nat} (hg : sg_ok g) (h : (gr_within b bc pl 0 (nI (sg_p g t) - 1).toInt64).1 = 0) : ∃ q, q < sg_p g t ∧ (gr_within b bc pl 0 (nI (sg_p g t) - 1).toInt64).2.1 = lN q := by
  have p5 := hg.2.2.1 t
  obtain ⟨_, n1, n2, e⟩ := gr_within_ok h
  rw [e]
  by_cases hp0 : sg_p g t = 0
  · exfalso
    rw [hp0] at n2
    have e : (nI 0 - 1).toInt64 = -1 := by decide
    rw [e] at n2
    exact n2 (Int64.lt_of_lt_of_le (by decide) (Int64.not_lt.mp n1))
  · rw [li_s1 (by omega), nI_l (by omega)] at n2
    obtain ⟨k, hk, e⟩ := gw_range (m := sg_p g t - 1) (by omega) rfl n1 n2
    exact ⟨k, by omega, e⟩
theorem gr_head_ok {g : sg_T} {b : Nat → Int32} {bc t pl : Nat} (hg : sg_ok g) (hb : bc ≤ 100) (ht : t < sg_n g) (hpl : pl ≤ bc) (h : (gr_head g b bc t pl).1 = 0) :
    pl ≤ (gr_head g b bc t pl).2.2.2.2 ∧ (gr_head g b bc t pl).2.2.2.2 ≤ bc ∧
    (sg_k g t = 4 → ∃ c : Nat, c ≤ 20 ∧ (gr_head g b bc t pl).2.1 = lN c ∧ (gr_head g b bc t pl).2.2.1 + c ≤ 100) ∧
    (sg_k g t = 5 → ∃ q : Nat, q < sg_p g t ∧ (gr_head g b bc t pl).2.2.2.1 = lN q ∧ (gr_head g b bc t pl).2.1 = lN (sg_m g (5 * t + q))) ∧
    (sg_k g t = 6 → (gr_head g b bc t pl).2.2.1 + sg_d g t ≤ 100) ∧ (sg_k g t = 7 → (gr_head g b bc t pl).2.1 = 0) ∧ (sg_k g t = 0 → (gr_head g b bc t pl).2.1 = 0) ∧
    (sg_k g t = 8 → ∃ q : Nat, q < sg_p g t ∧ (gr_head g b bc t pl).2.2.2.1 = lN q) := by
  have k9 := hg.2.1 t
  have p5 := hg.2.2.1 t
  obtain ⟨l1, l2⟩ := gr_long_ok (b := b) hb hpl
  unfold gr_head at h ⊢
  by_cases k1 : sg_k g t = 1
  · rw [if_pos k1] at h ⊢
    by_cases a1 : pl = bc
    · rw [if_pos a1] at h; exact absurd (show (-2 : Int32) = 0 from h) (by decide)
    rw [if_neg a1] at h ⊢
    by_cases a2 : ¬ (b pl).toInt64 ≤ 1
    · rw [if_pos a2] at h; exact absurd (show (-3 : Int32) = 0 from h) (by decide)
    rw [if_neg a2]
    exact ⟨by show pl ≤ pl + 1; omega, by show pl + 1 ≤ bc; omega, fun z => by omega, fun z => by omega, fun z => by omega, fun z => by omega, fun z => by omega, fun z => by omega⟩
  rw [if_neg k1] at h ⊢
  by_cases k2 : sg_k g t = 2
  · rw [if_pos k2] at h ⊢
    obtain ⟨n0, _, _, e⟩ := gr_within_ok h
    dsimp only
    rw [e]
    have := l2 n0
    exact ⟨by omega, l1, fun z => by omega, fun z => by omega, fun z => by omega, fun z => by omega, fun z => by omega, fun z => by omega⟩
  rw [if_neg k2] at h ⊢
  by_cases k3 : sg_k g t = 3
  · rw [if_pos k3] at h ⊢
    have := l2 h
    exact ⟨by show pl ≤ (gr_long b bc pl).2.2; omega, l1, fun z => by omega, fun z => by omega, fun z => by omega, fun z => by omega, fun z => by omega, fun z => by omega⟩
  rw [if_neg k3] at h ⊢
  by_cases k4 : sg_k g t = 4
  · rw [if_pos k4] at h ⊢
    by_cases a1 : (gr_within b bc pl 0 20).1 = 0
    · rw [if_pos a1] at h ⊢
      by_cases a2 : (gr_within b bc pl 0 20).2.2 + (gr_within b bc pl 0 20).2.1.toInt32.toNatClampNeg ≤ bc
      · rw [if_pos a2]
        obtain ⟨n0, n1, n2, e⟩ := gr_within_ok a1
        obtain ⟨c, hc, ec⟩ := gw_range (m := 20) (by omega) rfl n1 n2
        have := l2 n0
        have ec2 : (gr_within b bc pl 0 20).2.1.toInt32.toNatClampNeg = c := by rw [e, ec, lN_i, nI_clamp (by omega)]
        rw [ec2] at a2 ⊢
        rw [e] at a2 ⊢
        exact ⟨by show pl ≤ (gr_long b bc pl).2.2 + c; omega, a2, fun _ => ⟨c, hc, ec, by show (gr_long b bc pl).2.2 + c ≤ 100; omega⟩, fun z => by omega, fun z => by omega, fun z => by omega, fun z => by omega, fun z => by omega⟩
      · rw [if_neg a2] at h; exact absurd (show (-2 : Int32) = 0 from h) (by decide)
    · rw [if_neg a1] at h; exact absurd h a1
  rw [if_neg k4] at h ⊢
  by_cases k5 : sg_k g t = 5
  · rw [if_pos k5] at h ⊢
    obtain ⟨q, hq, eq⟩ := gr_part_ok hg h
    obtain ⟨n0, _, _, e⟩ := gr_within_ok h
    have := l2 n0
    have m16 := hg.2.2.2.2.2.2.1 t q ht hq (by omega)
    have ec : (gr_within b bc pl 0 (nI (sg_p g t) - 1).toInt64).2.1.toInt32.toNatClampNeg = q := by rw [eq, lN_i, nI_clamp (by omega)]
    rw [ec]
    refine ⟨?_, ?_, fun z => by omega, fun _ => ⟨q, hq, eq, nI_l (by omega)⟩, fun z => by omega, fun z => by omega, fun z => by omega, fun z => by omega⟩
    · dsimp only; rw [e]; omega
    · dsimp only; rw [e]; exact l1
  rw [if_neg k5] at h ⊢
  by_cases k6 : sg_k g t = 6
  · rw [if_pos k6] at h ⊢
    by_cases a2 : pl + sg_d g t ≤ bc
    · rw [if_pos a2]
      exact ⟨by show pl ≤ pl + sg_d g t; omega, a2, fun z => by omega, fun z => by omega, fun _ => by show pl + sg_d g t ≤ 100; omega, fun z => by omega, fun z => by omega, fun z => by omega⟩
    · rw [if_neg a2] at h; exact absurd (show (-2 : Int32) = 0 from h) (by decide)
  rw [if_neg k6] at h ⊢
  by_cases k8 : sg_k g t = 8
  · rw [if_pos k8] at h ⊢
    obtain ⟨q, hq, eq⟩ := gr_part_ok hg h
    obtain ⟨n0, _, _, e⟩ := gr_within_ok h
    have := l2 n0
    refine ⟨?_, ?_, fun z => by omega, fun z => by omega, fun z => by omega, fun z => by omega, fun z => by omega, fun _ => ⟨q, hq, eq⟩⟩
    · dsimp only; rw [e]; omega
    · dsimp only; rw [e]; exact l1
  rw [if_neg k8]
  exact ⟨Nat.le_refl _, hpl, fun z => absurd z k4, fun z => absurd z k5, fun z => absurd z k6, fun _ => rfl, fun _ => rfl, fun z => absurd z k8⟩
/-- a value is about to begin, within the top of F -/
def gr_pre (g : sg_T) (bc : Nat) (F : List gr_F) (w : sr_V) (yr : Nat → Int64) : Prop :=
  sv_m w ≤ 400 ∧ F.length ≤ sv_m w ∧ gr_rc g F ≤ 10 ∧ (∀ v, v < sv_m w → gr_own g w bc v) ∧ (∀ v, v < sv_m w → gr_cp F v → gr_full g w F v) ∧ (F = [] → sv_m w = 0) ∧ gr_low g w yr F (sv_m w) F
theorem gr_value_inv {g : sg_T} {bc t pl : Nat} {F : List gr_F} {w : sr_V} {yr : Nat → Int64} (hg : sg_ok g) (hb : bc ≤ 100) (ht : t < sg_n g) (hpl : pl ≤ bc) (hp : gr_pre g bc F w yr) (h0 : (gr_value g bc t F pl w yr).2.1 = 0) :
    gr_inv g bc (gr_value g bc t F pl w yr).1 (gr_value g bc t F pl w yr).2.2.1 (gr_value g bc t F pl w yr).2.2.2.1 (gr_value g bc t F pl w yr).2.2.2.2 ∧
    sv_m (gr_value g bc t F pl w yr).2.2.2.1 = sv_m w + 1 ∧ sv_m w < 400 ∧ pl ≤ (gr_value g bc t F pl w yr).2.2.1 ∧ (gr_value g bc t F pl w yr).1.length ≤ F.length + 1 := by
  obtain ⟨q1, q2, q3, q4, q5, q6, q7⟩ := hp
  have k9 := hg.2.1 t
  unfold gr_value at h0 ⊢
  by_cases a1 : sv_m w = 400
  · rw [if_pos a1] at h0; exact absurd (show (-4 : Int32) = 0 from h0) (by decide)
  rw [if_neg a1] at h0 ⊢
  by_cases a2 : sg_k g t = 9 ∧ gr_rc g F = 10
  · rw [if_pos a2] at h0; exact absurd (show (-5 : Int32) = 0 from h0) (by decide)
  rw [if_neg a2] at h0 ⊢
  have hmlt : sv_m w < 400 := by omega
  obtain ⟨z1, z2, z3, z4, z5, z6, z7, z8⟩ := gr_head_ok hg hb ht hpl h0
  dsimp only
  generalize hH : gr_head g (sv_b w) bc t pl = H at *
  obtain ⟨He, Hn, Hf, Hr, Hp⟩ := H
  dsimp only at z1 z2 z3 z4 z5 z6 z7 z8 ⊢
  have hm' : sv_m (gr_add w t Hn Hf (gr_rc g F)) = sv_m w + 1 := rfl
  have et : ∀ u, u < sv_m w → sv_t (gr_add w t Hn Hf (gr_rc g F)) u = sv_t w u ∧ sv_d (gr_add w t Hn Hf (gr_rc g F)) u = sv_d w u := fun u hu => ⟨sg_un_n (by omega), sg_un_n (by omega)⟩
  have en : ∀ u, u < sv_m w → sv_n (gr_add w t Hn Hf (gr_rc g F)) u = sv_n w u ∧ vp_updL yr (sv_m w) Hr u = yr u := fun u hu => ⟨pk_uLn (by omega), pk_uLn (by omega)⟩
  have ef : ∀ u, u < sv_m w → sv_f (gr_add w t Hn Hf (gr_rc g F)) u = sv_f w u := fun u hu => sg_un_n (by omega)
  have ea : ∀ u, u < sv_m w → sv_a (gr_add w t Hn Hf (gr_rc g F)) u = sv_a w u := fun u hu => sg_un_n (by omega)
  have st : sv_t (gr_add w t Hn Hf (gr_rc g F)) (sv_m w) = t := sg_un_s
  have sn : sv_n (gr_add w t Hn Hf (gr_rc g F)) (sv_m w) = Hn := pk_uLs
  have sf : sv_f (gr_add w t Hn Hf (gr_rc g F)) (sv_m w) = Hf := sg_un_s
  have sa : sv_a (gr_add w t Hn Hf (gr_rc g F)) (sv_m w) = sv_m w + 1 := sg_un_s
  have sd : sv_d (gr_add w t Hn Hf (gr_rc g F)) (sv_m w) = gr_rc g F := sg_un_s
  have hlt := gr_low_lt q7
  have own : ∀ v, v < sv_m w + 1 → gr_own g (gr_add w t Hn Hf (gr_rc g F)) bc v := by
    intro v hv
    by_cases ev : v = sv_m w
    · subst ev
      unfold gr_own
      rw [st, sn, sf, sa, sd, hm']
      refine ⟨ht, by omega, Nat.le_refl _, q3, z3, fun z => ?_, z5, fun z => ⟨0, by omega, z6 z⟩, z7⟩
      obtain ⟨q, hq, _, e⟩ := z4 z
      exact ⟨_, hg.2.2.2.2.2.2.1 t q ht hq (by omega), e⟩
    · have hv2 : v < sv_m w := by omega
      unfold gr_own
      rw [(et v hv2).1, (et v hv2).2, (en v hv2).1, ef v hv2, ea v hv2, hm']
      obtain ⟨o1, o2, o3, o4⟩ := q4 v hv2
      exact ⟨o1, o2, by omega, o4⟩
  by_cases k7 : sg_k g t < 7
  · rw [if_pos k7]
    refine ⟨⟨z2, hmlt, Nat.le_succ_of_le q2, q3, own, fun v hv hcv => ?_, ?_⟩, rfl, hmlt, z1, Nat.le_succ _⟩
    · by_cases ev : v = sv_m w
      · subst ev
        have hc0 : sv_cnt g (gr_add w t Hn Hf (gr_rc g F)) (sv_m w) = 0 := by
          unfold sv_cnt
          rw [st, if_neg (by omega), if_neg (by omega), if_neg (by omega)]
        refine ⟨?_, fun i hi => by rw [hc0] at hi; omega⟩
        rw [hc0, sa]
        exact Nat.le_refl _
      · have hv2 : v < sv_m w := by rw [hm'] at hv; omega
        exact gr_full_map (by omega) et (en v hv2).1 (fun u hu _ => ea u hu) (fun u _ hu => hu) hv2 hcv (q5 v hv2 hcv)
    · cases F with
      | nil => trivial
      | cons f F =>
        obtain ⟨l1, l2, l3, l4, l5, l6⟩ := q7
        have lm := gr_low_map (F := F) (x := f.1) (w' := gr_add w t Hn Hf (gr_rc g (f :: F))) (yr' := vp_updL yr (sv_m w) Hr) (by rw [hm']; omega) et (fun u hu _ => ea u hu) (fun u _ hu => hu) (fun e he => en _ (hlt e (List.mem_cons_of_mem _ he)).2) l6
        have hch : ∀ i, i ≤ f.2.2.1 - 1 → sv_ch (sv_a (gr_add w t Hn Hf (gr_rc g (f :: F)))) f.1 i = sv_ch (sv_a w) f.1 i := by
          intro i hi
          exact sv_ch_same (fun j hj => (ea _ (l5 j (by omega)).1.2.1).symm)
        have hlast := hch _ (Nat.le_refl (f.2.2.1 - 1))
        rw [l3] at hlast
        refine ⟨gr_fr1_map (by rw [hm']; omega) et (en _ l1.1) l1, ?_, fun i hi => ?_, lm⟩
        · have e1 : f.2.2.1 = (f.2.2.1 - 1) + 1 := by omega
          rw [e1]
          show sv_a _ (sv_ch _ f.1 (f.2.2.1 - 1)) = _
          rw [hlast, sa]
          rfl
        · by_cases ei : i = f.2.2.1 - 1
          · subst ei
            refine ⟨?_, ?_⟩
            · unfold gr_kid
              rw [hlast, sd, (et _ l1.1).1, (et _ l1.1).2, l1.2.1, l1.2.2.2.1]
              exact ⟨l4, by rw [hm']; omega, rfl⟩
            · rw [hlast]
              intro e he
              have := (hlt e he).2
              omega
          · obtain ⟨k1, k2⟩ := l5 i (by omega)
            refine ⟨gr_kid_map (by rw [hm']; omega) et l1.1 (hch i (by omega)) k1, ?_⟩
            rw [hch i (by omega)]
            exact k2
  · rw [if_neg k7]
    have hrc : gr_rc g ((sv_m w, t, 0, (if sg_k g t = 7 then 0 else if sg_k g t = 8 then 1 else sg_p g t)) :: F) ≤ 10 := by
      show gr_rc g F + (if sg_k g t = 9 then 1 else 0) ≤ 10
      split
      · rename_i z; have : ¬ gr_rc g F = 10 := fun y => a2 ⟨z, y⟩; omega
      · omega
    refine ⟨⟨z2, hmlt, Nat.succ_le_succ q2, hrc, own, fun v hv hcv => ?_, ?_⟩, rfl, hmlt, z1, Nat.le_refl _⟩
    · have ev : ¬ v = sv_m w := fun z => hcv _ List.mem_cons_self z.symm
      have hv2 : v < sv_m w := by rw [hm'] at hv; omega
      have hcv2 : gr_cp F v := fun e he => hcv e (List.mem_cons_of_mem _ he)
      refine gr_full_map (by omega) et (en v hv2).1 (fun u hu _ => ea u hu) (fun u hu2 hu => ?_) hv2 hcv2 (q5 v hv2 hcv2)
      intro e he
      rcases List.mem_cons.mp he with rfl | he
      · show ¬ sv_m w = u; omega
      · exact hu e he
    · refine ⟨⟨by show sv_m w < sv_m w + 1; omega, st, ht, sd, fun e he => (hlt e he).2, ?_⟩, rfl, fun i hi => absurd hi (Nat.not_lt_zero i), ?_⟩
      · dsimp only
        by_cases e7 : sg_k g t = 7
        · rw [if_pos e7]
          exact Or.inl ⟨e7, by omega, by rw [sn]; exact z6 e7⟩
        · rw [if_neg e7]
          by_cases e8 : sg_k g t = 8
          · rw [if_pos e8]
            obtain ⟨q, hq, e⟩ := z8 e8
            exact Or.inr (Or.inl ⟨e8, rfl, q, hq, by rw [pk_uLs]; exact e⟩)
          · rw [if_neg e8]
            exact Or.inr (Or.inr ⟨by omega, by omega⟩)
      · exact gr_low_map (w := w) (by rw [hm']; omega) et (fun u hu _ => ea u hu) (fun u hu2 hu => by
          intro e he
          rcases List.mem_cons.mp he with rfl | he
          · show ¬ sv_m w = u; omega
          · exact hu e he) (fun e he => en _ (hlt e he).2) q7
