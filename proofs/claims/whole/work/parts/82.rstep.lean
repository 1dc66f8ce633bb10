/-! reading: a step keeps the tree -/
theorem gr_block_ok {b : Nat → Int32} {bc pl k : Nat} (hb : bc ≤ 100) (hpl : pl ≤ bc) (h : (gr_block b bc pl k).1 = 0) : pl < (gr_block b bc pl k).2.2 ∧ (gr_block b bc pl k).2.2 ≤ bc ∧ k + (gr_block b bc pl k).2.1 ≤ 40 := by
  obtain ⟨l1, l2⟩ := gr_long_ok (b := b) hb hpl
  unfold gr_block at h ⊢
  by_cases a1 : (gr_long b bc pl).1 = 0
  · rw [if_pos a1] at h ⊢
    have l3 := l2 a1
    by_cases a2 : (gr_long b bc pl).2.1 < -40 ∨ 40 < (gr_long b bc pl).2.1 ∨ 40 < k + (gr_long b bc pl).2.1.toInt.natAbs
    · rw [if_pos a2] at h; exact absurd (show (-4 : Int32) = 0 from h) (by decide)
    rw [if_neg a2] at h ⊢
    have a3 : ¬ 40 < k + (gr_long b bc pl).2.1.toInt.natAbs := fun z => a2 (Or.inr (Or.inr z))
    by_cases a4 : (gr_long b bc pl).2.1 < 0
    · rw [if_pos a4] at h ⊢
      obtain ⟨m1, m2⟩ := gr_long_ok (b := b) hb l1
      have m3 := m2 h
      exact ⟨by dsimp only; omega, m1, by dsimp only; omega⟩
    · rw [if_neg a4]
      exact ⟨l3, l1, by dsimp only; omega⟩
  · rw [if_neg a1] at h; exact absurd h a1
theorem gr_cp_top {v t k l k' l' : Nat} {F : List gr_F} {u : Nat} (h : gr_cp ((v, t, k, l) :: F) u) : gr_cp ((v, t, k', l') :: F) u := by
  intro e he
  rcases List.mem_cons.mp he with rfl | he
  · exact h (v, t, k, l) List.mem_cons_self
  · exact h e (List.mem_cons_of_mem _ he)
/-- the top is closed -/
theorem gr_close {g : sg_T} {bc v t k pl pl' : Nat} {F : List gr_F} {w : sr_V} {yr : Nat → Int64} (h : gr_inv g bc ((v, t, k, 0) :: F) pl w yr) (hpl : pl' ≤ bc) : gr_inv g bc F pl' (gr_end w v) yr := by
  obtain ⟨p1, p2, p3, p4, p5, p6, p7⟩ := h
  obtain ⟨f1, t2, t3, t4⟩ := p7
  obtain ⟨f1a, f1b, f1c, f1d, f1e, f1f⟩ := f1
  dsimp only at f1a f1b f1c f1d f1e f1f t2 t3 t4
  have hm' : sv_m (gr_end w v) = sv_m w := rfl
  have et : ∀ u, u < sv_m w → sv_t (gr_end w v) u = sv_t w u ∧ sv_d (gr_end w v) u = sv_d w u := fun u hu => ⟨rfl, rfl⟩
  have ea : ∀ u, ¬ u = v → sv_a (gr_end w v) u = sv_a w u := fun u hu => sg_un_n hu
  have sa : sv_a (gr_end w v) v = sv_m w := sg_un_s
  have hne : ∀ u, gr_cp ((v, t, k, 0) :: F) u → ¬ u = v := fun u hu z => hu _ List.mem_cons_self z.symm
  have hcF : ∀ u, gr_cp ((v, t, k, 0) :: F) u → gr_cp F u := fun u hu e he => hu e (List.mem_cons_of_mem _ he)
  have hcnt : sv_cnt g w v = k := by
    unfold sv_cnt
    rw [f1b]
    rcases f1f with ⟨a, b, c⟩ | ⟨a, b, c⟩ | ⟨a, b⟩
    · rw [if_neg (by omega), if_neg (by omega), if_pos a, c, lN_i, nI_clamp (by omega)]; rfl
    · rw [if_pos a]; omega
    · rw [if_neg (by omega), if_pos a]; omega
  rw [List.length_cons] at p3
  have hrcF : gr_rc g F ≤ 10 := Nat.le_trans (Nat.le_add_right _ _) p4
  refine ⟨hpl, p2, by rw [hm']; omega, hrcF, fun u hu => ?_, fun u hu hcu => ?_, ?_⟩
  · by_cases eu : u = v
    · subst eu
      obtain ⟨o1, o2, o3, o4⟩ := p5 u hu
      refine ⟨o1, ?_, ?_, o4⟩
      · rw [sa]; exact f1a
      · rw [sa]; exact Nat.le_refl _
    · obtain ⟨o1, o2, o3, o4⟩ := p5 u hu
      unfold gr_own
      rw [ea u eu]
      exact ⟨o1, o2, o3, o4⟩
  · by_cases eu : u = v
    · subst eu
      have hch : ∀ i, i ≤ k → sv_ch (sv_a (gr_end w u)) u i = sv_ch (sv_a w) u i := by
        intro i hi
        refine sv_ch_same (fun j hj => ?_)
        exact (ea _ (hne _ (t3 j (by omega)).2)).symm
      have hcnt' : sv_cnt g (gr_end w u) u = k := hcnt
      refine ⟨?_, fun i hi => ?_⟩
      · rw [hcnt', hch k (Nat.le_refl _), sa, t2]; exact Nat.le_refl _
      · rw [hcnt'] at hi
        obtain ⟨k1, k2⟩ := t3 i hi
        refine ⟨gr_kid_map (w := w) (w' := gr_end w u) (Nat.le_refl _) et f1a (hch i (by omega)) k1, ?_⟩
        rw [hch i (by omega)]
        exact hcF _ k2
    · have hcu2 : gr_cp ((v, t, k, 0) :: F) u := by
        intro e he
        rcases List.mem_cons.mp he with rfl | he
        · exact fun z => eu z.symm
        · exact hcu e he
      exact gr_full_map (w := w) (w' := gr_end w v) (Nat.le_refl _) et rfl (fun x _ hx => ea x (hne x hx)) (fun x _ hx => hcF x hx) hu hcu2 (p6 u hu hcu2)
  · cases F with
    | nil => trivial
    | cons f F =>
      obtain ⟨l1, l2, l3, l4, l5, l6⟩ := t4
      have hch : ∀ i, i ≤ f.2.2.1 - 1 → sv_ch (sv_a (gr_end w v)) f.1 i = sv_ch (sv_a w) f.1 i := by
        intro i hi
        refine sv_ch_same (fun j hj => ?_)
        exact (ea _ (hne _ (l5 j (by omega)).2)).symm
      have hlast := hch _ (Nat.le_refl (f.2.2.1 - 1))
      rw [l3] at hlast
      refine ⟨gr_fr1_map (w := w) (w' := gr_end w v) (Nat.le_refl _) et ⟨rfl, rfl⟩ l1, ?_, fun i hi => ?_, ?_⟩
      · have e1 : f.2.2.1 = (f.2.2.1 - 1) + 1 := by omega
        rw [e1]
        show sv_a _ (sv_ch _ f.1 (f.2.2.1 - 1)) = _
        rw [hlast, sa]
        rfl
      · by_cases ei : i = f.2.2.1 - 1
        · subst ei
          refine ⟨?_, ?_⟩
          · unfold gr_kid
            rw [hlast]
            refine ⟨l4, f1a, ?_⟩
            show sv_d w v = sv_d w f.1 + (if sg_k g (sv_t w f.1) = 9 then 1 else 0)
            rw [f1d, l1.2.2.2.1, l1.2.1]
            rfl
          · rw [hlast]
            intro e he z
            have := f1e e he
            omega
        · obtain ⟨k1, k2⟩ := l5 i (by omega)
          refine ⟨gr_kid_map (w := w) (w' := gr_end w v) (Nat.le_refl _) et l1.1 (hch i (by omega)) k1, ?_⟩
          rw [hch i (by omega)]
          exact hcF _ k2
      · exact gr_low_map (w := w) (w' := gr_end w v) (A := (v, t, k, 0) :: f :: F) (Nat.le_refl _) et (fun x _ hx => ea x (hne x hx)) (fun x _ hx => hcF x hx) (fun e he => ⟨rfl, rfl⟩) l6
/-- a block's head was read -/
theorem gr_blocked {g : sg_T} {bc v t k c pl pl' : Nat} {F : List gr_F} {w : sr_V} {yr : Nat → Int64} (h : gr_inv g bc ((v, t, k, 0) :: F) pl w yr) (k7 : sg_k g t = 7) (hc : k + c ≤ 40) (hpl : pl' ≤ bc) : gr_inv g bc ((v, t, k, c) :: F) pl' (gr_more w v c) yr := by
  obtain ⟨p1, p2, p3, p4, p5, p6, p7⟩ := h
  obtain ⟨f1, t2, t3, t4⟩ := p7
  obtain ⟨f1a, f1b, f1c, f1d, f1e, f1f⟩ := f1
  dsimp only at f1a f1b f1c f1d f1e f1f t2 t3 t4
  have hnum : sv_n w v = lN k := by
    rcases f1f with ⟨a, b, c⟩ | ⟨a, b, c⟩ | ⟨a, b⟩
    · exact c
    · omega
    · omega
  have et : ∀ u, u < sv_m w → sv_t (gr_more w v c) u = sv_t w u ∧ sv_d (gr_more w v c) u = sv_d w u := fun u hu => ⟨rfl, rfl⟩
  have sn : sv_n (gr_more w v c) v = lN (k + c) := by
    show vp_updL (sv_n w) v (sv_n w v + lN c) v = _
    rw [pk_uLs, hnum, lN_add]
  have en : ∀ u, ¬ u = v → sv_n (gr_more w v c) u = sv_n w u := fun u hu => pk_uLn hu
  refine ⟨hpl, p2, p3, p4, fun u hu => ?_, fun u hu hcu => ?_, ?_⟩
  · obtain ⟨o1, o2, o3, o4, o5, o6, o7, o8, o9⟩ := p5 u hu
    by_cases eu : u = v
    · subst eu
      unfold gr_own
      rw [sn]
      have et2 : sv_t (gr_more w u c) u = t := f1b
      rw [et2]
      exact ⟨f1c, o2, o3, o4, fun z => by omega, fun z => by omega, fun z => by omega, fun _ => ⟨k + c, hc, rfl⟩, fun z => by omega⟩
    · unfold gr_own
      rw [en u eu]
      exact ⟨o1, o2, o3, o4, o5, o6, o7, o8, o9⟩
  · have eu : ¬ u = v := fun z => hcu _ List.mem_cons_self z.symm
    exact gr_full_map (w := w) (w' := gr_more w v c) (Nat.le_refl _) et (en u eu) (fun _ _ _ => rfl) (fun x _ hx => gr_cp_top hx) hu (gr_cp_top hcu) (p6 u hu (gr_cp_top hcu))
  · refine ⟨⟨f1a, f1b, f1c, f1d, f1e, Or.inl ⟨k7, hc, sn⟩⟩, t2, fun i hi => ⟨gr_kid_map (w := w) (w' := gr_more w v c) (Nat.le_refl _) et f1a rfl (t3 i hi).1, gr_cp_top (t3 i hi).2⟩, ?_⟩
    exact gr_low_map (w := w) (w' := gr_more w v c) (Nat.le_refl _) et (fun _ _ _ => rfl) (fun x _ hx => gr_cp_top hx) (fun e he => ⟨en _ (by have := f1e e he; omega), rfl⟩) t4
/-- the next value within the top is about to begin -/
theorem gr_next {g : sg_T} {bc v t k l pl : Nat} {F : List gr_F} {w : sr_V} {yr : Nat → Int64} (h : gr_inv g bc ((v, t, k, l + 1) :: F) pl w yr) : gr_pre g bc ((v, t, k + 1, l) :: F) w yr := by
  obtain ⟨p1, p2, p3, p4, p5, p6, p7⟩ := h
  obtain ⟨f1, t2, t3, t4⟩ := p7
  obtain ⟨f1a, f1b, f1c, f1d, f1e, f1f⟩ := f1
  dsimp only at f1a f1b f1c f1d f1e f1f t2 t3 t4
  refine ⟨p2, p3, p4, p5, fun u hu hcu => ?_, fun z => (by cases z), ⟨f1a, f1b, f1c, f1d, f1e, ?_⟩, by dsimp only; omega, t2, f1a, fun i hi => ?_, ?_⟩
  · exact gr_full_map (w := w) (w' := w) (Nat.le_refl _) (fun _ _ => ⟨rfl, rfl⟩) rfl (fun _ _ _ => rfl) (fun x _ hx => gr_cp_top hx) hu (gr_cp_top hcu) (p6 u hu (gr_cp_top hcu))
  · dsimp only
    rw [show k + 1 + l = k + (l + 1) by omega]
    exact f1f
  · have := t3 i (by dsimp only at hi; omega)
    exact ⟨this.1, gr_cp_top this.2⟩
  · exact gr_low_map (w := w) (w' := w) (Nat.le_refl _) (fun _ _ => ⟨rfl, rfl⟩) (fun _ _ _ => rfl) (fun x _ hx => gr_cp_top hx) (fun e he => ⟨rfl, rfl⟩) t4
theorem gr_ctype {g : sg_T} {bc v t k l pl : Nat} {F : List gr_F} {w : sr_V} {yr : Nat → Int64} (hg : sg_ok g) (h : gr_inv g bc ((v, t, k, l + 1) :: F) pl w yr) :
    (if sg_k g t = 7 then sg_d g t else if sg_k g t = 8 then sg_t g (5 * t + (yr v).toInt32.toNatClampNeg) else sg_t g (5 * t + k)) < sg_n g := by
  obtain ⟨f1a, f1b, f1c, f1d, f1e, f1f⟩ := h.2.2.2.2.2.2.1
  dsimp only at f1c f1f
  have p5 := hg.2.2.1 t
  rcases f1f with ⟨a, b, c⟩ | ⟨a, b, q, hq, e⟩ | ⟨a, b⟩
  · rw [if_pos a]; exact hg.2.2.2.2.2.1 t f1c a
  · rw [if_neg (by omega), if_pos a, e, lN_i, nI_clamp (by omega)]
    exact hg.2.2.2.2.2.2.2.1 t q f1c hq (by omega)
  · rw [if_neg (by omega), if_neg (by omega)]
    exact hg.2.2.2.2.2.2.2.1 t k f1c (by omega) (by omega)
theorem gr_step_ok {g : sg_T} {bc v t k l pl : Nat} {F : List gr_F} {w : sr_V} {yr : Nat → Int64} (hg : sg_ok g) (hb : bc ≤ 100) (h : gr_inv g bc ((v, t, k, l) :: F) pl w yr) :
    gr_ok g bc (gr_step g bc v t k l F pl w yr) ∧ ((gr_step g bc v t k l F pl w yr).2.1 = 0 → gr_mu (gr_step g bc v t k l F pl w yr) + 1 ≤ gr_mu ((v, t, k, l) :: F, 0, pl, w, yr)) := by
  have p1 := h.1
  have hm0 : gr_mu ((v, t, k, l) :: F, 0, pl, w, yr) = 3 * (400 - sv_m w) + (100 - pl) + (F.length + 1) := by unfold gr_mu; rw [List.length_cons]
  rw [hm0]
  cases l with
  | zero =>
    unfold gr_step
    dsimp only
    by_cases k7 : sg_k g t = 7
    · rw [if_pos k7]
      by_cases e0 : (gr_block (sv_b w) bc pl k).1 = 0
      · rw [if_pos e0]
        obtain ⟨b1, b2, b3⟩ := gr_block_ok hb p1 e0
        by_cases e1 : (gr_block (sv_b w) bc pl k).2.1 = 0
        · rw [if_pos e1]
          refine ⟨fun _ => gr_close h b2, fun _ => ?_⟩
          show 3 * (400 - sv_m w) + (100 - (gr_block (sv_b w) bc pl k).2.2) + F.length + 1 ≤ _
          omega
        · rw [if_neg e1]
          refine ⟨fun _ => gr_blocked h k7 b3 b2, fun _ => ?_⟩
          show 3 * (400 - sv_m w) + (100 - (gr_block (sv_b w) bc pl k).2.2) + (F.length + 1) + 1 ≤ _
          omega
      · rw [if_neg e0]
        exact ⟨fun z => absurd z e0, fun z => absurd z e0⟩
    · rw [if_neg k7]
      refine ⟨fun _ => gr_close h p1, fun _ => ?_⟩
      show 3 * (400 - sv_m w) + (100 - pl) + F.length + 1 ≤ _
      omega
  | succ l =>
    unfold gr_step
    dsimp only
    have hv := fun z => gr_value_inv (pl := pl) hg hb (gr_ctype hg h) p1 (gr_next h) z
    refine ⟨fun z => (hv z).1, fun z => ?_⟩
    obtain ⟨_, a1, a2, a3, a4⟩ := hv z
    rw [List.length_cons] at a4
    unfold gr_mu
    rw [a1]
    omega
def gr_start (g : sg_T) (bc t : Nat) (w : sr_V) (yr : Nat → Int64) : gr_C := gr_run g bc 1400 (gr_value g bc t [] 0 w yr)
theorem gr_run_ok {g : sg_T} {bc : Nat} (hg : sg_ok g) (hb : bc ≤ 100) : ∀ N c, gr_ok g bc c → (c.2.1 = 0 → gr_mu c ≤ N) → gr_ok g bc (gr_run g bc N c) ∧ ((gr_run g bc N c).2.1 = 0 → (gr_run g bc N c).1 = []) := by
  intro N
  induction N with
  | zero =>
    intro c hok hmu
    refine ⟨hok, fun z => ?_⟩
    have := hmu z
    unfold gr_mu at this
    show c.1 = []
    exact List.length_eq_zero_iff.mp (by omega)
  | succ N ih =>
    intro c hok hmu
    obtain ⟨F, e, pl, w, yr⟩ := c
    cases F with
    | nil => rw [gr_run_nil]; exact ⟨hok, fun _ => rfl⟩
    | cons f F =>
      by_cases h0 : e = 0
      · subst h0
        obtain ⟨v, t, k, l⟩ := f
        rw [gr_run_go]
        have hk : gr_inv g bc ((v, t, k, l) :: F) pl w yr := hok rfl
        obtain ⟨a1, a2⟩ := gr_step_ok hg hb hk
        have := hmu rfl
        exact ih _ a1 (fun z => by have := a2 z; omega)
      · rw [gr_run_tr h0]
        exact ⟨hok, fun z => absurd z h0⟩
