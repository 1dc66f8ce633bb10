section
/-! pure rows to paste: stores, nI and lN arithmetic, masks, shifts, narrowing, branches by naturals (pk_le, pk_lt, pk_eq), loops (lp1 .. lp16: the measure of the state; rp1 ..: recursion), negatives. Take what you need -/
theorem pk_us {f : Nat → Int32} {k : Nat} {x : Int32} : upd f k x k = x := if_pos rfl
theorem pk_un {f : Nat → Int32} {k j : Nat} {x : Int32} (h : j ≠ k) : upd f k x j = f j := if_neg h
theorem pk_uLs {f : Nat → Int64} {k : Nat} {x : Int64} : vp_updL f k x k = x := if_pos rfl
theorem pk_uLn {f : Nat → Int64} {k j : Nat} {x : Int64} (h : j ≠ k) : vp_updL f k x j = f j := if_neg h
theorem pk_sub {a b : Nat} (h : b ≤ a) : nI a - nI b = nI (a - b) := by
  obtain ⟨c, rfl⟩ : ∃ c, a = c + b := ⟨a - b, by omega⟩
  rw [← nI_add, Int32.add_sub_cancel, Nat.add_sub_cancel]
theorem pk_m1 (n : Nat) : nI (n + 1) + (-1) = nI n := by
  rw [← nI_1, Int32.add_assoc, show (1 : Int32) + (-1) = 0 from rfl, Int32.add_zero]
theorem pk_mul (a b : Nat) : nI a * nI b = nI (a * b) := (Int32.ofNat_mul a b).symm
theorem pk_div {a d : Nat} (ha : a < 2 ^ 31) (h0 : 0 < d) (hd : d < 2 ^ 31) : nI a / nI d = nI (a / d) := by
  apply Int32.toInt_inj.mp
  rw [lg_idiv_nonneg (by rw [nI_toInt ha]; omega) (by rw [nI_toInt hd]; omega), nI_toInt ha, nI_toInt hd, nI_toInt (Nat.lt_of_le_of_lt (Nat.div_le_self a d) ha)]
  first | rfl | exact (Int.natCast_ediv _ _).symm
theorem pk_rem {a d : Nat} (ha : a < 2 ^ 31) (h0 : 0 < d) (hd : d < 2 ^ 31) : nI a - nI a / nI d * nI d = nI (a % d) := by
  rw [pk_div ha h0 hd, pk_mul, pk_sub (Nat.div_mul_le_self a d)]
  exact congrArg nI (by have := Nat.div_add_mod' a d; omega)
theorem pk_sub_toInt {a b : Nat} (ha : a < 2 ^ 30) (hb : b < 2 ^ 30) : (nI a - nI b).toInt = (a : Int) - b := by
  rw [Int32.toInt_sub, nI_toInt (by omega), nI_toInt (by omega)]
  exact Int.bmod_eq_of_le (by omega) (by omega)
theorem pk_sneg {a b : Nat} (hb : b < 2 ^ 30) (h : a < b) : nI a - nI b < 0 := by
  rw [Int32.lt_iff_toInt_lt, pk_sub_toInt (by omega) hb, show (0 : Int32).toInt = 0 from by decide]
  omega
theorem pk_ix (x : Int32) {n : Nat} (hn : n < 2 ^ 31) : x < 0 ∨ nI n ≤ x ∨ ∃ j : Nat, j < n ∧ x = nI j := by
  by_cases h : x < 0
  · exact Or.inl h
  · obtain ⟨j, hj, rfl⟩ := nI_of h
    by_cases h2 : j < n
    · exact Or.inr (Or.inr ⟨j, h2, rfl⟩)
    · exact Or.inr (Or.inl (nI_le (by omega) hj))
theorem pk_le {x y : Int32} {A B : Prop} (a b : Nat) (f : a ≤ b → A) (g : b < a → B) (hx : x = nI a := by rfl) (hy : y = nI b := by rfl) (ha : a < 2 ^ 31 := by omega) (hb : b < 2 ^ 31 := by omega) : (x ≤ y → A) ∧ (¬ x ≤ y → B) := by
  subst hx hy
  rw [nI_leI ha hb]
  exact ⟨f, fun z => g (by omega)⟩
theorem pk_lt {x y : Int32} {A B : Prop} (a b : Nat) (f : a < b → A) (g : b ≤ a → B) (hx : x = nI a := by rfl) (hy : y = nI b := by rfl) (ha : a < 2 ^ 31 := by omega) (hb : b < 2 ^ 31 := by omega) : (x < y → A) ∧ (¬ x < y → B) := by
  subst hx hy
  rw [nI_ltI ha hb]
  exact ⟨f, fun z => g (by omega)⟩
theorem pk_eq {x y : Int32} {A B : Prop} (a b : Nat) (f : a = b → A) (g : a ≠ b → B) (hx : x = nI a := by rfl) (hy : y = nI b := by rfl) (ha : a < 2 ^ 31 := by omega) (hb : b < 2 ^ 31 := by omega) : (x = y → A) ∧ (¬ x = y → B) := by
  subst hx hy
  rw [nI_eq ha hb]
  exact ⟨f, g⟩
theorem pk_in {x : Int32} (n N : Nat) (h : n < N) (hx : x = nI n := by rfl) (hN : N < 2 ^ 31 := by omega) : vp_in x N := by
  subst hx
  exact vp_in_nI h hN
theorem pk_cl {x : Int32} (n : Nat) (hx : x = nI n := by rfl) (h : n < 2 ^ 31 := by omega) : x.toNatClampNeg = n := by
  subst hx
  exact nI_clamp h
theorem pk_tn {n : Nat} (h : n < 2 ^ 32) : (nI n).toBitVec.toNat = n := Nat.mod_eq_of_lt h
theorem pk_and (x : Int32) {m : Int32} (k : Nat) (hm : m.toBitVec.toNat = 2 ^ k - 1) : x &&& m = nI (x.toBitVec.toNat % 2 ^ k) := by
  apply Int32.toBitVec_inj.mp
  apply BitVec.eq_of_toNat_eq
  rw [Int32.toBitVec_and, BitVec.toNat_and, hm, Nat.and_two_pow_sub_one_eq_mod]
  show _ = (BitVec.ofNat 32 _).toNat
  rw [BitVec.toNat_ofNat]
  exact (Nat.mod_eq_of_lt (Nat.lt_of_le_of_lt (Nat.mod_le _ _) x.toBitVec.isLt)).symm
theorem pk_andN {n : Nat} (h : n < 2 ^ 32) {m : Int32} (k : Nat) (hm : m.toBitVec.toNat = 2 ^ k - 1) : nI n &&& m = nI (n % 2 ^ k) := by
  rw [pk_and _ k hm, pk_tn h]
theorem pk_andE (x : Int32) {m : Int32} (k : Nat) (hm : m.toBitVec.toNat = 2 ^ k - 1) : ∃ j : Nat, j < 2 ^ k ∧ x &&& m = nI j := ⟨_, Nat.mod_lt _ (Nat.two_pow_pos k), pk_and x k hm⟩
theorem pk_andIn (x : Int32) {m : Int32} (k : Nat) (hm : m.toBitVec.toNat = 2 ^ k - 1) (hk : k ≤ 30) : vp_in (x &&& m) (2 ^ k) := by
  obtain ⟨j, hj, e⟩ := pk_andE x k hm
  rw [e]
  exact vp_in_nI hj (Nat.lt_of_le_of_lt (Nat.pow_le_pow_right (by decide) hk) (by decide))
theorem pk_shl (a s : Int32) (k : Nat) (hs : (s.toBitVec.smod 32).toNat = k) : (a <<< s).toBitVec.toNat = a.toBitVec.toNat * 2 ^ k % 2 ^ 32 := by
  show (a.toBitVec <<< (s.toBitVec.smod 32).toNat).toNat = _
  rw [hs, BitVec.toNat_shiftLeft, Nat.shiftLeft_eq]
theorem pk_shlN {n : Nat} (s : Int32) (k : Nat) (hs : (s.toBitVec.smod 32).toNat = k) (h : n * 2 ^ k < 2 ^ 32) : nI n <<< s = nI (n * 2 ^ k) := by
  apply Int32.toBitVec_inj.mp
  apply BitVec.eq_of_toNat_eq
  have hn : n < 2 ^ 32 := Nat.lt_of_le_of_lt (Nat.le_mul_of_pos_right n (Nat.two_pow_pos k)) h
  rw [pk_shl _ _ k hs, pk_tn hn, pk_tn h, Nat.mod_eq_of_lt h]
theorem pk_shr (a s : Int32) (k : Nat) (hs : (s.toBitVec.smod 32).toNat = k) : (a >>> s).toInt = a.toInt >>> k := by
  show (a.toBitVec.sshiftRight (s.toBitVec.smod 32).toNat).toInt = _
  rw [hs, BitVec.toInt_sshiftRight]
  rfl
theorem pk_shrN {n : Nat} (h : n < 2 ^ 31) (s : Int32) (k : Nat) (hs : (s.toBitVec.smod 32).toNat = k) : nI n >>> s = nI (n / 2 ^ k) := by
  apply Int32.toInt_inj.mp
  have h2 : n / 2 ^ k ≤ n := Nat.div_le_self _ _
  rw [pk_shr _ _ k hs, nI_toInt h, nI_toInt (by omega), Int.shiftRight_eq_div_pow]
  rfl
theorem pk_ushr (x s : Int32) (k : Nat) (hs : ((s.toUInt32 &&& Int32.toUInt32 31).toBitVec % 32).toNat = k) : (x.toUInt32 >>> (s.toUInt32 &&& Int32.toUInt32 31)).toInt32.toBitVec.toNat = x.toBitVec.toNat / 2 ^ k := by
  have e : (x.toUInt32 >>> (s.toUInt32 &&& Int32.toUInt32 31)).toInt32.toBitVec = x.toBitVec >>> k := by
    rw [← hs]
    exact UInt32.toBitVec_shiftRight _ _
  rw [e, BitVec.toNat_ushiftRight, Nat.shiftRight_eq_div_pow]
theorem pk_ushrN {n : Nat} (hn : n < 2 ^ 32) (s : Int32) (k : Nat) (hs : ((s.toUInt32 &&& Int32.toUInt32 31).toBitVec % 32).toNat = k) : ((nI n).toUInt32 >>> (s.toUInt32 &&& Int32.toUInt32 31)).toInt32 = nI (n / 2 ^ k) := by
  apply Int32.toBitVec_inj.mp
  apply BitVec.eq_of_toNat_eq
  rw [pk_ushr _ s k hs, pk_tn hn, pk_tn (Nat.lt_of_le_of_lt (Nat.div_le_self _ _) hn)]
theorem pk_nb (z : Int32) : narrow .byte (.int z.toInt8.toInt32) = .int z.toInt8.toInt32 := congrArg Value.int (by simp)
theorem pk_ns (z : Int32) : narrow .short (.int z.toInt16.toInt32) = .int z.toInt16.toInt32 := congrArg Value.int (by simp)
theorem pk_fb (r : Int32) : fits .byte (.int r.toInt8.toInt32) = true := by
  have ⟨a, b⟩ := lg_i2b_range r
  have h1 : (-128 : Int32).toInt = -128 := by decide
  have h2 : (127 : Int32).toInt = 127 := by decide
  simp only [fits, Bool.and_eq_true, decide_eq_true_eq, Int32.le_iff_toInt_le, h1, h2]
  omega
theorem pk_fs (r : Int32) : fits .short (.int r.toInt16.toInt32) = true := by
  have ⟨a, b⟩ := lg_i2s_range r
  have h1 : (-32768 : Int32).toInt = -32768 := by decide
  have h2 : (32767 : Int32).toInt = 32767 := by decide
  simp only [fits, Bool.and_eq_true, decide_eq_true_eq, Int32.le_iff_toInt_le, h1, h2]
  omega
theorem pk_charN {q : Nat} (hq : q < 65536) : narrow .char (.int (nI q)) = .int (nI q) ∧ fits .char (.int (nI q)) = true := by
  constructor
  · have e : (nI q).toUInt32.toUInt16.toUInt32.toInt32 = nI q := by
      apply Int32.toBitVec_inj.mp
      apply BitVec.eq_of_toNat_eq
      show (nI q).toUInt32.toUInt16.toUInt32.toNat = q % 2 ^ 32
      rw [UInt16.toNat_toUInt32, UInt32.toNat_toUInt16, show (nI q).toUInt32.toNat = q % 2 ^ 32 from rfl]
      omega
    exact congrArg Value.int e
  · have a : (0 : Int32) ≤ nI q := nI_pos' (by omega)
    have b : nI q ≤ 65535 := nI_le (b := 65535) (by omega) (by decide)
    show (decide ((0 : Int32) ≤ nI q) && decide (nI q ≤ 65535)) = true
    rw [decide_eq_true a, decide_eq_true b]
    rfl
theorem pk_char (x : Int32) : (x.toUInt32 % 65536).toInt32 = nI (x.toBitVec.toNat % 65536) := by
  apply Int32.toBitVec_inj.mp
  apply BitVec.eq_of_toNat_eq
  rw [pk_tn (by omega)]
  show (x.toUInt32 % 65536).toNat = _
  rw [UInt32.toNat_mod]
  rfl
theorem pk_nc (x : Int32) : narrow .char (.int (x.toUInt32 % 65536).toInt32) = .int (x.toUInt32 % 65536).toInt32 := by
  rw [pk_char]
  exact (pk_charN (Nat.mod_lt _ (by decide))).1
theorem pk_fc (x : Int32) : fits .char (.int (x.toUInt32 % 65536).toInt32) = true := by
  rw [pk_char]
  exact (pk_charN (Nat.mod_lt _ (by decide))).2
theorem pk_vb (z : Int32) : vp_nar .byte z.toInt8.toInt32 = z.toInt8.toInt32 := by rw [vp_nar_byte]; simp
theorem pk_vs (z : Int32) : vp_nar .short z.toInt16.toInt32 = z.toInt16.toInt32 := by rw [vp_nar_short]; simp
theorem pk_vc (z : Int32) : vp_nar .char (z.toUInt32 % 65536).toInt32 = (z.toUInt32 % 65536).toInt32 := Value.int.inj (pk_nc z)
theorem pk_lT {n : Nat} (h : n < 2 ^ 63) : (lN n).toInt = (n : Int) := lg_ofNat_toInt h
theorem pk_lLT {a b : Nat} (ha : a < 2 ^ 63) (hb : b < 2 ^ 63) : lN a < lN b ↔ a < b := by
  rw [Int64.lt_iff_toInt_lt, pk_lT ha, pk_lT hb]; omega
theorem pk_lLE {a b : Nat} (ha : a < 2 ^ 63) (hb : b < 2 ^ 63) : lN a ≤ lN b ↔ a ≤ b := by
  rw [Int64.le_iff_toInt_le, pk_lT ha, pk_lT hb]; omega
theorem pk_lEQ {a b : Nat} (ha : a < 2 ^ 63) (hb : b < 2 ^ 63) : lN a = lN b ↔ a = b := by
  rw [← Int64.toInt_inj, pk_lT ha, pk_lT hb]; omega
theorem pk_lOf {x : Int64} (h : ¬ x < 0) : ∃ k : Nat, k < 2 ^ 63 ∧ x = lN k := by
  rw [Int64.lt_iff_toInt_lt] at h
  have h0 : (0 : Int64).toInt = 0 := by decide
  have hx := Int64.toInt_lt x
  refine ⟨x.toInt.toNat, by omega, Int64.toInt_inj.mp ?_⟩
  rw [pk_lT (by omega)]
  omega
theorem pk_lDiv {a b : Nat} (ha : a < 2 ^ 63) (h0 : 0 < b) (hb : b < 2 ^ 63) : lN a / lN b = lN (a / b) := by
  apply Int64.toInt_inj.mp
  rw [lg_ldiv_nonneg (by rw [pk_lT ha]; omega) (by rw [pk_lT hb]; omega), pk_lT ha, pk_lT hb, pk_lT (Nat.lt_of_le_of_lt (Nat.div_le_self a b) ha)]
  rfl
theorem pk_lRem {a b : Nat} (ha : a < 2 ^ 63) (h0 : 0 < b) (hb : b < 2 ^ 63) : lN a - lN a / lN b * lN b = lN (a % b) := by
  rw [pk_lDiv ha h0 hb, lN_mul, lN_sub (Nat.div_mul_le_self a b)]
  exact congrArg lN (by have := Nat.div_add_mod' a b; omega)
theorem pk_loop {σ : Type} (W : Nat → Nat → σ → Prop) (I : Nat → σ → Prop) (e i0 : Nat) (s : σ) (hi : i0 ≤ e) (h0 : I i0 s) (hx : ∀ n s, I e s → W (n + 1) e s)
    (hs : ∀ n i s, i < e → I i s → (∀ s', I (i + 1) s' → W n (i + 1) s') → W (n + 1) i s) : ∃ n, W n i0 s :=
  ⟨e + 1, loop_i W I e hx hs (e + 1) i0 s hi (by omega) h0⟩
theorem pk_loopD {σ : Type} (W : Nat → Nat → σ → Prop) (I : Nat → σ → Prop) (hx : ∀ n s, I 0 s → W (n + 1) 0 s)
    (hs : ∀ n i s, I (i + 1) s → (∀ s', I i s' → W n i s') → W (n + 1) (i + 1) s) : ∀ (e : Nat) (s : σ), I e s → W (e + 1) e s := by
  intro e
  induction e with
  | zero => exact fun s h => hx 0 s h
  | succ e ih => exact fun s h => hs (e + 1) e s h (fun s' h' => ih s' h')
theorem lp1 {A1 : Type} (W : Nat → A1 → Prop) (I : A1 → Prop) (μ : A1 → Nat) (hs : ∀ (n : Nat) (a1 : A1), I a1 → (∀ (b1 : A1), I b1 → μ b1 < μ a1 → W n b1) → W (n + 1) a1) (a1 : A1) (h : I a1) : ∃ n, W n a1 :=
  loop_m (σ := A1) (fun n s => W n s) (fun s => I s) (fun s => μ s) (fun n s hI hk => hs n s hI (fun b1 h9 hm => hk b1 h9 hm)) a1 h
theorem lp2 {A1 A2 : Type} (W : Nat → A1 → A2 → Prop) (I : A1 → A2 → Prop) (μ : A1 → A2 → Nat) (hs : ∀ (n : Nat) (a1 : A1) (a2 : A2), I a1 a2 → (∀ (b1 : A1) (b2 : A2), I b1 b2 → μ b1 b2 < μ a1 a2 → W n b1 b2) → W (n + 1) a1 a2) (a1 : A1) (a2 : A2) (h : I a1 a2) : ∃ n, W n a1 a2 :=
  loop_m (σ := A1 × A2) (fun n s => W n s.1 s.2) (fun s => I s.1 s.2) (fun s => μ s.1 s.2) (fun n s hI hk => hs n s.1 s.2 hI (fun b1 b2 h9 hm => hk (b1, b2) h9 hm)) (a1, a2) h
theorem lp3 {A1 A2 A3 : Type} (W : Nat → A1 → A2 → A3 → Prop) (I : A1 → A2 → A3 → Prop) (μ : A1 → A2 → A3 → Nat) (hs : ∀ (n : Nat) (a1 : A1) (a2 : A2) (a3 : A3), I a1 a2 a3 → (∀ (b1 : A1) (b2 : A2) (b3 : A3), I b1 b2 b3 → μ b1 b2 b3 < μ a1 a2 a3 → W n b1 b2 b3) → W (n + 1) a1 a2 a3) (a1 : A1) (a2 : A2) (a3 : A3) (h : I a1 a2 a3) : ∃ n, W n a1 a2 a3 :=
  loop_m (σ := A1 × A2 × A3) (fun n s => W n s.1 s.2.1 s.2.2) (fun s => I s.1 s.2.1 s.2.2) (fun s => μ s.1 s.2.1 s.2.2) (fun n s hI hk => hs n s.1 s.2.1 s.2.2 hI (fun b1 b2 b3 h9 hm => hk (b1, b2, b3) h9 hm)) (a1, a2, a3) h
theorem lp4 {A1 A2 A3 A4 : Type} (W : Nat → A1 → A2 → A3 → A4 → Prop) (I : A1 → A2 → A3 → A4 → Prop) (μ : A1 → A2 → A3 → A4 → Nat) (hs : ∀ (n : Nat) (a1 : A1) (a2 : A2) (a3 : A3) (a4 : A4), I a1 a2 a3 a4 → (∀ (b1 : A1) (b2 : A2) (b3 : A3) (b4 : A4), I b1 b2 b3 b4 → μ b1 b2 b3 b4 < μ a1 a2 a3 a4 → W n b1 b2 b3 b4) → W (n + 1) a1 a2 a3 a4) (a1 : A1) (a2 : A2) (a3 : A3) (a4 : A4) (h : I a1 a2 a3 a4) : ∃ n, W n a1 a2 a3 a4 :=
  loop_m (σ := A1 × A2 × A3 × A4) (fun n s => W n s.1 s.2.1 s.2.2.1 s.2.2.2) (fun s => I s.1 s.2.1 s.2.2.1 s.2.2.2) (fun s => μ s.1 s.2.1 s.2.2.1 s.2.2.2) (fun n s hI hk => hs n s.1 s.2.1 s.2.2.1 s.2.2.2 hI (fun b1 b2 b3 b4 h9 hm => hk (b1, b2, b3, b4) h9 hm)) (a1, a2, a3, a4) h
theorem lp5 {A1 A2 A3 A4 A5 : Type} (W : Nat → A1 → A2 → A3 → A4 → A5 → Prop) (I : A1 → A2 → A3 → A4 → A5 → Prop) (μ : A1 → A2 → A3 → A4 → A5 → Nat) (hs : ∀ (n : Nat) (a1 : A1) (a2 : A2) (a3 : A3) (a4 : A4) (a5 : A5), I a1 a2 a3 a4 a5 → (∀ (b1 : A1) (b2 : A2) (b3 : A3) (b4 : A4) (b5 : A5), I b1 b2 b3 b4 b5 → μ b1 b2 b3 b4 b5 < μ a1 a2 a3 a4 a5 → W n b1 b2 b3 b4 b5) → W (n + 1) a1 a2 a3 a4 a5) (a1 : A1) (a2 : A2) (a3 : A3) (a4 : A4) (a5 : A5) (h : I a1 a2 a3 a4 a5) : ∃ n, W n a1 a2 a3 a4 a5 :=
  loop_m (σ := A1 × A2 × A3 × A4 × A5) (fun n s => W n s.1 s.2.1 s.2.2.1 s.2.2.2.1 s.2.2.2.2) (fun s => I s.1 s.2.1 s.2.2.1 s.2.2.2.1 s.2.2.2.2) (fun s => μ s.1 s.2.1 s.2.2.1 s.2.2.2.1 s.2.2.2.2) (fun n s hI hk => hs n s.1 s.2.1 s.2.2.1 s.2.2.2.1 s.2.2.2.2 hI (fun b1 b2 b3 b4 b5 h9 hm => hk (b1, b2, b3, b4, b5) h9 hm)) (a1, a2, a3, a4, a5) h
theorem lp6 {A1 A2 A3 A4 A5 A6 : Type} (W : Nat → A1 → A2 → A3 → A4 → A5 → A6 → Prop) (I : A1 → A2 → A3 → A4 → A5 → A6 → Prop) (μ : A1 → A2 → A3 → A4 → A5 → A6 → Nat) (hs : ∀ (n : Nat) (a1 : A1) (a2 : A2) (a3 : A3) (a4 : A4) (a5 : A5) (a6 : A6), I a1 a2 a3 a4 a5 a6 → (∀ (b1 : A1) (b2 : A2) (b3 : A3) (b4 : A4) (b5 : A5) (b6 : A6), I b1 b2 b3 b4 b5 b6 → μ b1 b2 b3 b4 b5 b6 < μ a1 a2 a3 a4 a5 a6 → W n b1 b2 b3 b4 b5 b6) → W (n + 1) a1 a2 a3 a4 a5 a6) (a1 : A1) (a2 : A2) (a3 : A3) (a4 : A4) (a5 : A5) (a6 : A6) (h : I a1 a2 a3 a4 a5 a6) : ∃ n, W n a1 a2 a3 a4 a5 a6 :=
  loop_m (σ := A1 × A2 × A3 × A4 × A5 × A6) (fun n s => W n s.1 s.2.1 s.2.2.1 s.2.2.2.1 s.2.2.2.2.1 s.2.2.2.2.2) (fun s => I s.1 s.2.1 s.2.2.1 s.2.2.2.1 s.2.2.2.2.1 s.2.2.2.2.2) (fun s => μ s.1 s.2.1 s.2.2.1 s.2.2.2.1 s.2.2.2.2.1 s.2.2.2.2.2) (fun n s hI hk => hs n s.1 s.2.1 s.2.2.1 s.2.2.2.1 s.2.2.2.2.1 s.2.2.2.2.2 hI (fun b1 b2 b3 b4 b5 b6 h9 hm => hk (b1, b2, b3, b4, b5, b6) h9 hm)) (a1, a2, a3, a4, a5, a6) h
theorem lp7 {A1 A2 A3 A4 A5 A6 A7 : Type} (W : Nat → A1 → A2 → A3 → A4 → A5 → A6 → A7 → Prop) (I : A1 → A2 → A3 → A4 → A5 → A6 → A7 → Prop) (μ : A1 → A2 → A3 → A4 → A5 → A6 → A7 → Nat) (hs : ∀ (n : Nat) (a1 : A1) (a2 : A2) (a3 : A3) (a4 : A4) (a5 : A5) (a6 : A6) (a7 : A7), I a1 a2 a3 a4 a5 a6 a7 → (∀ (b1 : A1) (b2 : A2) (b3 : A3) (b4 : A4) (b5 : A5) (b6 : A6) (b7 : A7), I b1 b2 b3 b4 b5 b6 b7 → μ b1 b2 b3 b4 b5 b6 b7 < μ a1 a2 a3 a4 a5 a6 a7 → W n b1 b2 b3 b4 b5 b6 b7) → W (n + 1) a1 a2 a3 a4 a5 a6 a7) (a1 : A1) (a2 : A2) (a3 : A3) (a4 : A4) (a5 : A5) (a6 : A6) (a7 : A7) (h : I a1 a2 a3 a4 a5 a6 a7) : ∃ n, W n a1 a2 a3 a4 a5 a6 a7 :=
  loop_m (σ := A1 × A2 × A3 × A4 × A5 × A6 × A7) (fun n s => W n s.1 s.2.1 s.2.2.1 s.2.2.2.1 s.2.2.2.2.1 s.2.2.2.2.2.1 s.2.2.2.2.2.2) (fun s => I s.1 s.2.1 s.2.2.1 s.2.2.2.1 s.2.2.2.2.1 s.2.2.2.2.2.1 s.2.2.2.2.2.2) (fun s => μ s.1 s.2.1 s.2.2.1 s.2.2.2.1 s.2.2.2.2.1 s.2.2.2.2.2.1 s.2.2.2.2.2.2) (fun n s hI hk => hs n s.1 s.2.1 s.2.2.1 s.2.2.2.1 s.2.2.2.2.1 s.2.2.2.2.2.1 s.2.2.2.2.2.2 hI (fun b1 b2 b3 b4 b5 b6 b7 h9 hm => hk (b1, b2, b3, b4, b5, b6, b7) h9 hm)) (a1, a2, a3, a4, a5, a6, a7) h
theorem lp8 {A1 A2 A3 A4 A5 A6 A7 A8 : Type} (W : Nat → A1 → A2 → A3 → A4 → A5 → A6 → A7 → A8 → Prop) (I : A1 → A2 → A3 → A4 → A5 → A6 → A7 → A8 → Prop) (μ : A1 → A2 → A3 → A4 → A5 → A6 → A7 → A8 → Nat) (hs : ∀ (n : Nat) (a1 : A1) (a2 : A2) (a3 : A3) (a4 : A4) (a5 : A5) (a6 : A6) (a7 : A7) (a8 : A8), I a1 a2 a3 a4 a5 a6 a7 a8 → (∀ (b1 : A1) (b2 : A2) (b3 : A3) (b4 : A4) (b5 : A5) (b6 : A6) (b7 : A7) (b8 : A8), I b1 b2 b3 b4 b5 b6 b7 b8 → μ b1 b2 b3 b4 b5 b6 b7 b8 < μ a1 a2 a3 a4 a5 a6 a7 a8 → W n b1 b2 b3 b4 b5 b6 b7 b8) → W (n + 1) a1 a2 a3 a4 a5 a6 a7 a8) (a1 : A1) (a2 : A2) (a3 : A3) (a4 : A4) (a5 : A5) (a6 : A6) (a7 : A7) (a8 : A8) (h : I a1 a2 a3 a4 a5 a6 a7 a8) : ∃ n, W n a1 a2 a3 a4 a5 a6 a7 a8 :=
  loop_m (σ := A1 × A2 × A3 × A4 × A5 × A6 × A7 × A8) (fun n s => W n s.1 s.2.1 s.2.2.1 s.2.2.2.1 s.2.2.2.2.1 s.2.2.2.2.2.1 s.2.2.2.2.2.2.1 s.2.2.2.2.2.2.2) (fun s => I s.1 s.2.1 s.2.2.1 s.2.2.2.1 s.2.2.2.2.1 s.2.2.2.2.2.1 s.2.2.2.2.2.2.1 s.2.2.2.2.2.2.2) (fun s => μ s.1 s.2.1 s.2.2.1 s.2.2.2.1 s.2.2.2.2.1 s.2.2.2.2.2.1 s.2.2.2.2.2.2.1 s.2.2.2.2.2.2.2) (fun n s hI hk => hs n s.1 s.2.1 s.2.2.1 s.2.2.2.1 s.2.2.2.2.1 s.2.2.2.2.2.1 s.2.2.2.2.2.2.1 s.2.2.2.2.2.2.2 hI (fun b1 b2 b3 b4 b5 b6 b7 b8 h9 hm => hk (b1, b2, b3, b4, b5, b6, b7, b8) h9 hm)) (a1, a2, a3, a4, a5, a6, a7, a8) h
theorem lp9 {A1 A2 A3 A4 A5 A6 A7 A8 A9 : Type} (W : Nat → A1 → A2 → A3 → A4 → A5 → A6 → A7 → A8 → A9 → Prop) (I : A1 → A2 → A3 → A4 → A5 → A6 → A7 → A8 → A9 → Prop) (μ : A1 → A2 → A3 → A4 → A5 → A6 → A7 → A8 → A9 → Nat) (hs : ∀ (n : Nat) (a1 : A1) (a2 : A2) (a3 : A3) (a4 : A4) (a5 : A5) (a6 : A6) (a7 : A7) (a8 : A8) (a9 : A9), I a1 a2 a3 a4 a5 a6 a7 a8 a9 → (∀ (b1 : A1) (b2 : A2) (b3 : A3) (b4 : A4) (b5 : A5) (b6 : A6) (b7 : A7) (b8 : A8) (b9 : A9), I b1 b2 b3 b4 b5 b6 b7 b8 b9 → μ b1 b2 b3 b4 b5 b6 b7 b8 b9 < μ a1 a2 a3 a4 a5 a6 a7 a8 a9 → W n b1 b2 b3 b4 b5 b6 b7 b8 b9) → W (n + 1) a1 a2 a3 a4 a5 a6 a7 a8 a9) (a1 : A1) (a2 : A2) (a3 : A3) (a4 : A4) (a5 : A5) (a6 : A6) (a7 : A7) (a8 : A8) (a9 : A9) (h : I a1 a2 a3 a4 a5 a6 a7 a8 a9) : ∃ n, W n a1 a2 a3 a4 a5 a6 a7 a8 a9 :=
  loop_m (σ := A1 × A2 × A3 × A4 × A5 × A6 × A7 × A8 × A9) (fun n s => W n s.1 s.2.1 s.2.2.1 s.2.2.2.1 s.2.2.2.2.1 s.2.2.2.2.2.1 s.2.2.2.2.2.2.1 s.2.2.2.2.2.2.2.1 s.2.2.2.2.2.2.2.2) (fun s => I s.1 s.2.1 s.2.2.1 s.2.2.2.1 s.2.2.2.2.1 s.2.2.2.2.2.1 s.2.2.2.2.2.2.1 s.2.2.2.2.2.2.2.1 s.2.2.2.2.2.2.2.2) (fun s => μ s.1 s.2.1 s.2.2.1 s.2.2.2.1 s.2.2.2.2.1 s.2.2.2.2.2.1 s.2.2.2.2.2.2.1 s.2.2.2.2.2.2.2.1 s.2.2.2.2.2.2.2.2) (fun n s hI hk => hs n s.1 s.2.1 s.2.2.1 s.2.2.2.1 s.2.2.2.2.1 s.2.2.2.2.2.1 s.2.2.2.2.2.2.1 s.2.2.2.2.2.2.2.1 s.2.2.2.2.2.2.2.2 hI (fun b1 b2 b3 b4 b5 b6 b7 b8 b9 h9 hm => hk (b1, b2, b3, b4, b5, b6, b7, b8, b9) h9 hm)) (a1, a2, a3, a4, a5, a6, a7, a8, a9) h
theorem lp10 {A1 A2 A3 A4 A5 A6 A7 A8 A9 A10 : Type} (W : Nat → A1 → A2 → A3 → A4 → A5 → A6 → A7 → A8 → A9 → A10 → Prop) (I : A1 → A2 → A3 → A4 → A5 → A6 → A7 → A8 → A9 → A10 → Prop) (μ : A1 → A2 → A3 → A4 → A5 → A6 → A7 → A8 → A9 → A10 → Nat) (hs : ∀ (n : Nat) (a1 : A1) (a2 : A2) (a3 : A3) (a4 : A4) (a5 : A5) (a6 : A6) (a7 : A7) (a8 : A8) (a9 : A9) (a10 : A10), I a1 a2 a3 a4 a5 a6 a7 a8 a9 a10 → (∀ (b1 : A1) (b2 : A2) (b3 : A3) (b4 : A4) (b5 : A5) (b6 : A6) (b7 : A7) (b8 : A8) (b9 : A9) (b10 : A10), I b1 b2 b3 b4 b5 b6 b7 b8 b9 b10 → μ b1 b2 b3 b4 b5 b6 b7 b8 b9 b10 < μ a1 a2 a3 a4 a5 a6 a7 a8 a9 a10 → W n b1 b2 b3 b4 b5 b6 b7 b8 b9 b10) → W (n + 1) a1 a2 a3 a4 a5 a6 a7 a8 a9 a10) (a1 : A1) (a2 : A2) (a3 : A3) (a4 : A4) (a5 : A5) (a6 : A6) (a7 : A7) (a8 : A8) (a9 : A9) (a10 : A10) (h : I a1 a2 a3 a4 a5 a6 a7 a8 a9 a10) : ∃ n, W n a1 a2 a3 a4 a5 a6 a7 a8 a9 a10 :=
  loop_m (σ := A1 × A2 × A3 × A4 × A5 × A6 × A7 × A8 × A9 × A10) (fun n s => W n s.1 s.2.1 s.2.2.1 s.2.2.2.1 s.2.2.2.2.1 s.2.2.2.2.2.1 s.2.2.2.2.2.2.1 s.2.2.2.2.2.2.2.1 s.2.2.2.2.2.2.2.2.1 s.2.2.2.2.2.2.2.2.2) (fun s => I s.1 s.2.1 s.2.2.1 s.2.2.2.1 s.2.2.2.2.1 s.2.2.2.2.2.1 s.2.2.2.2.2.2.1 s.2.2.2.2.2.2.2.1 s.2.2.2.2.2.2.2.2.1 s.2.2.2.2.2.2.2.2.2) (fun s => μ s.1 s.2.1 s.2.2.1 s.2.2.2.1 s.2.2.2.2.1 s.2.2.2.2.2.1 s.2.2.2.2.2.2.1 s.2.2.2.2.2.2.2.1 s.2.2.2.2.2.2.2.2.1 s.2.2.2.2.2.2.2.2.2) (fun n s hI hk => hs n s.1 s.2.1 s.2.2.1 s.2.2.2.1 s.2.2.2.2.1 s.2.2.2.2.2.1 s.2.2.2.2.2.2.1 s.2.2.2.2.2.2.2.1 s.2.2.2.2.2.2.2.2.1 s.2.2.2.2.2.2.2.2.2 hI (fun b1 b2 b3 b4 b5 b6 b7 b8 b9 b10 h9 hm => hk (b1, b2, b3, b4, b5, b6, b7, b8, b9, b10) h9 hm)) (a1, a2, a3, a4, a5, a6, a7, a8, a9, a10) h
theorem lp11 {A1 A2 A3 A4 A5 A6 A7 A8 A9 A10 A11 : Type} (W : Nat → A1 → A2 → A3 → A4 → A5 → A6 → A7 → A8 → A9 → A10 → A11 → Prop) (I : A1 → A2 → A3 → A4 → A5 → A6 → A7 → A8 → A9 → A10 → A11 → Prop) (μ : A1 → A2 → A3 → A4 → A5 → A6 → A7 → A8 → A9 → A10 → A11 → Nat) (hs : ∀ (n : Nat) (a1 : A1) (a2 : A2) (a3 : A3) (a4 : A4) (a5 : A5) (a6 : A6) (a7 : A7) (a8 : A8) (a9 : A9) (a10 : A10) (a11 : A11), I a1 a2 a3 a4 a5 a6 a7 a8 a9 a10 a11 → (∀ (b1 : A1) (b2 : A2) (b3 : A3) (b4 : A4) (b5 : A5) (b6 : A6) (b7 : A7) (b8 : A8) (b9 : A9) (b10 : A10) (b11 : A11), I b1 b2 b3 b4 b5 b6 b7 b8 b9 b10 b11 → μ b1 b2 b3 b4 b5 b6 b7 b8 b9 b10 b11 < μ a1 a2 a3 a4 a5 a6 a7 a8 a9 a10 a11 → W n b1 b2 b3 b4 b5 b6 b7 b8 b9 b10 b11) → W (n + 1) a1 a2 a3 a4 a5 a6 a7 a8 a9 a10 a11) (a1 : A1) (a2 : A2) (a3 : A3) (a4 : A4) (a5 : A5) (a6 : A6) (a7 : A7) (a8 : A8) (a9 : A9) (a10 : A10) (a11 : A11) (h : I a1 a2 a3 a4 a5 a6 a7 a8 a9 a10 a11) : ∃ n, W n a1 a2 a3 a4 a5 a6 a7 a8 a9 a10 a11 :=
  loop_m (σ := A1 × A2 × A3 × A4 × A5 × A6 × A7 × A8 × A9 × A10 × A11) (fun n s => W n s.1 s.2.1 s.2.2.1 s.2.2.2.1 s.2.2.2.2.1 s.2.2.2.2.2.1 s.2.2.2.2.2.2.1 s.2.2.2.2.2.2.2.1 s.2.2.2.2.2.2.2.2.1 s.2.2.2.2.2.2.2.2.2.1 s.2.2.2.2.2.2.2.2.2.2) (fun s => I s.1 s.2.1 s.2.2.1 s.2.2.2.1 s.2.2.2.2.1 s.2.2.2.2.2.1 s.2.2.2.2.2.2.1 s.2.2.2.2.2.2.2.1 s.2.2.2.2.2.2.2.2.1 s.2.2.2.2.2.2.2.2.2.1 s.2.2.2.2.2.2.2.2.2.2) (fun s => μ s.1 s.2.1 s.2.2.1 s.2.2.2.1 s.2.2.2.2.1 s.2.2.2.2.2.1 s.2.2.2.2.2.2.1 s.2.2.2.2.2.2.2.1 s.2.2.2.2.2.2.2.2.1 s.2.2.2.2.2.2.2.2.2.1 s.2.2.2.2.2.2.2.2.2.2) (fun n s hI hk => hs n s.1 s.2.1 s.2.2.1 s.2.2.2.1 s.2.2.2.2.1 s.2.2.2.2.2.1 s.2.2.2.2.2.2.1 s.2.2.2.2.2.2.2.1 s.2.2.2.2.2.2.2.2.1 s.2.2.2.2.2.2.2.2.2.1 s.2.2.2.2.2.2.2.2.2.2 hI (fun b1 b2 b3 b4 b5 b6 b7 b8 b9 b10 b11 h9 hm => hk (b1, b2, b3, b4, b5, b6, b7, b8, b9, b10, b11) h9 hm)) (a1, a2, a3, a4, a5, a6, a7, a8, a9, a10, a11) h
theorem lp12 {A1 A2 A3 A4 A5 A6 A7 A8 A9 A10 A11 A12 : Type} (W : Nat → A1 → A2 → A3 → A4 → A5 → A6 → A7 → A8 → A9 → A10 → A11 → A12 → Prop) (I : A1 → A2 → A3 → A4 → A5 → A6 → A7 → A8 → A9 → A10 → A11 → A12 → Prop) (μ : A1 → A2 → A3 → A4 → A5 → A6 → A7 → A8 → A9 → A10 → A11 → A12 → Nat) (hs : ∀ (n : Nat) (a1 : A1) (a2 : A2) (a3 : A3) (a4 : A4) (a5 : A5) (a6 : A6) (a7 : A7) (a8 : A8) (a9 : A9) (a10 : A10) (a11 : A11) (a12 : A12), I a1 a2 a3 a4 a5 a6 a7 a8 a9 a10 a11 a12 → (∀ (b1 : A1) (b2 : A2) (b3 : A3) (b4 : A4) (b5 : A5) (b6 : A6) (b7 : A7) (b8 : A8) (b9 : A9) (b10 : A10) (b11 : A11) (b12 : A12), I b1 b2 b3 b4 b5 b6 b7 b8 b9 b10 b11 b12 → μ b1 b2 b3 b4 b5 b6 b7 b8 b9 b10 b11 b12 < μ a1 a2 a3 a4 a5 a6 a7 a8 a9 a10 a11 a12 → W n b1 b2 b3 b4 b5 b6 b7 b8 b9 b10 b11 b12) → W (n + 1) a1 a2 a3 a4 a5 a6 a7 a8 a9 a10 a11 a12) (a1 : A1) (a2 : A2) (a3 : A3) (a4 : A4) (a5 : A5) (a6 : A6) (a7 : A7) (a8 : A8) (a9 : A9) (a10 : A10) (a11 : A11) (a12 : A12) (h : I a1 a2 a3 a4 a5 a6 a7 a8 a9 a10 a11 a12) : ∃ n, W n a1 a2 a3 a4 a5 a6 a7 a8 a9 a10 a11 a12 :=
  loop_m (σ := A1 × A2 × A3 × A4 × A5 × A6 × A7 × A8 × A9 × A10 × A11 × A12) (fun n s => W n s.1 s.2.1 s.2.2.1 s.2.2.2.1 s.2.2.2.2.1 s.2.2.2.2.2.1 s.2.2.2.2.2.2.1 s.2.2.2.2.2.2.2.1 s.2.2.2.2.2.2.2.2.1 s.2.2.2.2.2.2.2.2.2.1 s.2.2.2.2.2.2.2.2.2.2.1 s.2.2.2.2.2.2.2.2.2.2.2) (fun s => I s.1 s.2.1 s.2.2.1 s.2.2.2.1 s.2.2.2.2.1 s.2.2.2.2.2.1 s.2.2.2.2.2.2.1 s.2.2.2.2.2.2.2.1 s.2.2.2.2.2.2.2.2.1 s.2.2.2.2.2.2.2.2.2.1 s.2.2.2.2.2.2.2.2.2.2.1 s.2.2.2.2.2.2.2.2.2.2.2) (fun s => μ s.1 s.2.1 s.2.2.1 s.2.2.2.1 s.2.2.2.2.1 s.2.2.2.2.2.1 s.2.2.2.2.2.2.1 s.2.2.2.2.2.2.2.1 s.2.2.2.2.2.2.2.2.1 s.2.2.2.2.2.2.2.2.2.1 s.2.2.2.2.2.2.2.2.2.2.1 s.2.2.2.2.2.2.2.2.2.2.2) (fun n s hI hk => hs n s.1 s.2.1 s.2.2.1 s.2.2.2.1 s.2.2.2.2.1 s.2.2.2.2.2.1 s.2.2.2.2.2.2.1 s.2.2.2.2.2.2.2.1 s.2.2.2.2.2.2.2.2.1 s.2.2.2.2.2.2.2.2.2.1 s.2.2.2.2.2.2.2.2.2.2.1 s.2.2.2.2.2.2.2.2.2.2.2 hI (fun b1 b2 b3 b4 b5 b6 b7 b8 b9 b10 b11 b12 h9 hm => hk (b1, b2, b3, b4, b5, b6, b7, b8, b9, b10, b11, b12) h9 hm)) (a1, a2, a3, a4, a5, a6, a7, a8, a9, a10, a11, a12) h
theorem lp13 {A1 A2 A3 A4 A5 A6 A7 A8 A9 A10 A11 A12 A13 : Type} (W : Nat → A1 → A2 → A3 → A4 → A5 → A6 → A7 → A8 → A9 → A10 → A11 → A12 → A13 → Prop) (I : A1 → A2 → A3 → A4 → A5 → A6 → A7 → A8 → A9 → A10 → A11 → A12 → A13 → Prop) (μ : A1 → A2 → A3 → A4 → A5 → A6 → A7 → A8 → A9 → A10 → A11 → A12 → A13 → Nat) (hs : ∀ (n : Nat) (a1 : A1) (a2 : A2) (a3 : A3) (a4 : A4) (a5 : A5) (a6 : A6) (a7 : A7) (a8 : A8) (a9 : A9) (a10 : A10) (a11 : A11) (a12 : A12) (a13 : A13), I a1 a2 a3 a4 a5 a6 a7 a8 a9 a10 a11 a12 a13 → (∀ (b1 : A1) (b2 : A2) (b3 : A3) (b4 : A4) (b5 : A5) (b6 : A6) (b7 : A7) (b8 : A8) (b9 : A9) (b10 : A10) (b11 : A11) (b12 : A12) (b13 : A13), I b1 b2 b3 b4 b5 b6 b7 b8 b9 b10 b11 b12 b13 → μ b1 b2 b3 b4 b5 b6 b7 b8 b9 b10 b11 b12 b13 < μ a1 a2 a3 a4 a5 a6 a7 a8 a9 a10 a11 a12 a13 → W n b1 b2 b3 b4 b5 b6 b7 b8 b9 b10 b11 b12 b13) → W (n + 1) a1 a2 a3 a4 a5 a6 a7 a8 a9 a10 a11 a12 a13) (a1 : A1) (a2 : A2) (a3 : A3) (a4 : A4) (a5 : A5) (a6 : A6) (a7 : A7) (a8 : A8) (a9 : A9) (a10 : A10) (a11 : A11) (a12 : A12) (a13 : A13) (h : I a1 a2 a3 a4 a5 a6 a7 a8 a9 a10 a11 a12 a13) : ∃ n, W n a1 a2 a3 a4 a5 a6 a7 a8 a9 a10 a11 a12 a13 :=
  loop_m (σ := A1 × A2 × A3 × A4 × A5 × A6 × A7 × A8 × A9 × A10 × A11 × A12 × A13) (fun n s => W n s.1 s.2.1 s.2.2.1 s.2.2.2.1 s.2.2.2.2.1 s.2.2.2.2.2.1 s.2.2.2.2.2.2.1 s.2.2.2.2.2.2.2.1 s.2.2.2.2.2.2.2.2.1 s.2.2.2.2.2.2.2.2.2.1 s.2.2.2.2.2.2.2.2.2.2.1 s.2.2.2.2.2.2.2.2.2.2.2.1 s.2.2.2.2.2.2.2.2.2.2.2.2) (fun s => I s.1 s.2.1 s.2.2.1 s.2.2.2.1 s.2.2.2.2.1 s.2.2.2.2.2.1 s.2.2.2.2.2.2.1 s.2.2.2.2.2.2.2.1 s.2.2.2.2.2.2.2.2.1 s.2.2.2.2.2.2.2.2.2.1 s.2.2.2.2.2.2.2.2.2.2.1 s.2.2.2.2.2.2.2.2.2.2.2.1 s.2.2.2.2.2.2.2.2.2.2.2.2) (fun s => μ s.1 s.2.1 s.2.2.1 s.2.2.2.1 s.2.2.2.2.1 s.2.2.2.2.2.1 s.2.2.2.2.2.2.1 s.2.2.2.2.2.2.2.1 s.2.2.2.2.2.2.2.2.1 s.2.2.2.2.2.2.2.2.2.1 s.2.2.2.2.2.2.2.2.2.2.1 s.2.2.2.2.2.2.2.2.2.2.2.1 s.2.2.2.2.2.2.2.2.2.2.2.2) (fun n s hI hk => hs n s.1 s.2.1 s.2.2.1 s.2.2.2.1 s.2.2.2.2.1 s.2.2.2.2.2.1 s.2.2.2.2.2.2.1 s.2.2.2.2.2.2.2.1 s.2.2.2.2.2.2.2.2.1 s.2.2.2.2.2.2.2.2.2.1 s.2.2.2.2.2.2.2.2.2.2.1 s.2.2.2.2.2.2.2.2.2.2.2.1 s.2.2.2.2.2.2.2.2.2.2.2.2 hI (fun b1 b2 b3 b4 b5 b6 b7 b8 b9 b10 b11 b12 b13 h9 hm => hk (b1, b2, b3, b4, b5, b6, b7, b8, b9, b10, b11, b12, b13) h9 hm)) (a1, a2, a3, a4, a5, a6, a7, a8, a9, a10, a11, a12, a13) h
theorem lp14 {A1 A2 A3 A4 A5 A6 A7 A8 A9 A10 A11 A12 A13 A14 : Type} (W : Nat → A1 → A2 → A3 → A4 → A5 → A6 → A7 → A8 → A9 → A10 → A11 → A12 → A13 → A14 → Prop) (I : A1 → A2 → A3 → A4 → A5 → A6 → A7 → A8 → A9 → A10 → A11 → A12 → A13 → A14 → Prop) (μ : A1 → A2 → A3 → A4 → A5 → A6 → A7 → A8 → A9 → A10 → A11 → A12 → A13 → A14 → Nat) (hs : ∀ (n : Nat) (a1 : A1) (a2 : A2) (a3 : A3) (a4 : A4) (a5 : A5) (a6 : A6) (a7 : A7) (a8 : A8) (a9 : A9) (a10 : A10) (a11 : A11) (a12 : A12) (a13 : A13) (a14 : A14), I a1 a2 a3 a4 a5 a6 a7 a8 a9 a10 a11 a12 a13 a14 → (∀ (b1 : A1) (b2 : A2) (b3 : A3) (b4 : A4) (b5 : A5) (b6 : A6) (b7 : A7) (b8 : A8) (b9 : A9) (b10 : A10) (b11 : A11) (b12 : A12) (b13 : A13) (b14 : A14), I b1 b2 b3 b4 b5 b6 b7 b8 b9 b10 b11 b12 b13 b14 → μ b1 b2 b3 b4 b5 b6 b7 b8 b9 b10 b11 b12 b13 b14 < μ a1 a2 a3 a4 a5 a6 a7 a8 a9 a10 a11 a12 a13 a14 → W n b1 b2 b3 b4 b5 b6 b7 b8 b9 b10 b11 b12 b13 b14) → W (n + 1) a1 a2 a3 a4 a5 a6 a7 a8 a9 a10 a11 a12 a13 a14) (a1 : A1) (a2 : A2) (a3 : A3) (a4 : A4) (a5 : A5) (a6 : A6) (a7 : A7) (a8 : A8) (a9 : A9) (a10 : A10) (a11 : A11) (a12 : A12) (a13 : A13) (a14 : A14) (h : I a1 a2 a3 a4 a5 a6 a7 a8 a9 a10 a11 a12 a13 a14) : ∃ n, W n a1 a2 a3 a4 a5 a6 a7 a8 a9 a10 a11 a12 a13 a14 :=
  loop_m (σ := A1 × A2 × A3 × A4 × A5 × A6 × A7 × A8 × A9 × A10 × A11 × A12 × A13 × A14) (fun n s => W n s.1 s.2.1 s.2.2.1 s.2.2.2.1 s.2.2.2.2.1 s.2.2.2.2.2.1 s.2.2.2.2.2.2.1 s.2.2.2.2.2.2.2.1 s.2.2.2.2.2.2.2.2.1 s.2.2.2.2.2.2.2.2.2.1 s.2.2.2.2.2.2.2.2.2.2.1 s.2.2.2.2.2.2.2.2.2.2.2.1 s.2.2.2.2.2.2.2.2.2.2.2.2.1 s.2.2.2.2.2.2.2.2.2.2.2.2.2) (fun s => I s.1 s.2.1 s.2.2.1 s.2.2.2.1 s.2.2.2.2.1 s.2.2.2.2.2.1 s.2.2.2.2.2.2.1 s.2.2.2.2.2.2.2.1 s.2.2.2.2.2.2.2.2.1 s.2.2.2.2.2.2.2.2.2.1 s.2.2.2.2.2.2.2.2.2.2.1 s.2.2.2.2.2.2.2.2.2.2.2.1 s.2.2.2.2.2.2.2.2.2.2.2.2.1 s.2.2.2.2.2.2.2.2.2.2.2.2.2) (fun s => μ s.1 s.2.1 s.2.2.1 s.2.2.2.1 s.2.2.2.2.1 s.2.2.2.2.2.1 s.2.2.2.2.2.2.1 s.2.2.2.2.2.2.2.1 s.2.2.2.2.2.2.2.2.1 s.2.2.2.2.2.2.2.2.2.1 s.2.2.2.2.2.2.2.2.2.2.1 s.2.2.2.2.2.2.2.2.2.2.2.1 s.2.2.2.2.2.2.2.2.2.2.2.2.1 s.2.2.2.2.2.2.2.2.2.2.2.2.2) (fun n s hI hk => hs n s.1 s.2.1 s.2.2.1 s.2.2.2.1 s.2.2.2.2.1 s.2.2.2.2.2.1 s.2.2.2.2.2.2.1 s.2.2.2.2.2.2.2.1 s.2.2.2.2.2.2.2.2.1 s.2.2.2.2.2.2.2.2.2.1 s.2.2.2.2.2.2.2.2.2.2.1 s.2.2.2.2.2.2.2.2.2.2.2.1 s.2.2.2.2.2.2.2.2.2.2.2.2.1 s.2.2.2.2.2.2.2.2.2.2.2.2.2 hI (fun b1 b2 b3 b4 b5 b6 b7 b8 b9 b10 b11 b12 b13 b14 h9 hm => hk (b1, b2, b3, b4, b5, b6, b7, b8, b9, b10, b11, b12, b13, b14) h9 hm)) (a1, a2, a3, a4, a5, a6, a7, a8, a9, a10, a11, a12, a13, a14) h
theorem lp15 {A1 A2 A3 A4 A5 A6 A7 A8 A9 A10 A11 A12 A13 A14 A15 : Type} (W : Nat → A1 → A2 → A3 → A4 → A5 → A6 → A7 → A8 → A9 → A10 → A11 → A12 → A13 → A14 → A15 → Prop) (I : A1 → A2 → A3 → A4 → A5 → A6 → A7 → A8 → A9 → A10 → A11 → A12 → A13 → A14 → A15 → Prop) (μ : A1 → A2 → A3 → A4 → A5 → A6 → A7 → A8 → A9 → A10 → A11 → A12 → A13 → A14 → A15 → Nat) (hs : ∀ (n : Nat) (a1 : A1) (a2 : A2) (a3 : A3) (a4 : A4) (a5 : A5) (a6 : A6) (a7 : A7) (a8 : A8) (a9 : A9) (a10 : A10) (a11 : A11) (a12 : A12) (a13 : A13) (a14 : A14) (a15 : A15), I a1 a2 a3 a4 a5 a6 a7 a8 a9 a10 a11 a12 a13 a14 a15 → (∀ (b1 : A1) (b2 : A2) (b3 : A3) (b4 : A4) (b5 : A5) (b6 : A6) (b7 : A7) (b8 : A8) (b9 : A9) (b10 : A10) (b11 : A11) (b12 : A12) (b13 : A13) (b14 : A14) (b15 : A15), I b1 b2 b3 b4 b5 b6 b7 b8 b9 b10 b11 b12 b13 b14 b15 → μ b1 b2 b3 b4 b5 b6 b7 b8 b9 b10 b11 b12 b13 b14 b15 < μ a1 a2 a3 a4 a5 a6 a7 a8 a9 a10 a11 a12 a13 a14 a15 → W n b1 b2 b3 b4 b5 b6 b7 b8 b9 b10 b11 b12 b13 b14 b15) → W (n + 1) a1 a2 a3 a4 a5 a6 a7 a8 a9 a10 a11 a12 a13 a14 a15) (a1 : A1) (a2 : A2) (a3 : A3) (a4 : A4) (a5 : A5) (a6 : A6) (a7 : A7) (a8 : A8) (a9 : A9) (a10 : A10) (a11 : A11) (a12 : A12) (a13 : A13) (a14 : A14) (a15 : A15) (h : I a1 a2 a3 a4 a5 a6 a7 a8 a9 a10 a11 a12 a13 a14 a15) : ∃ n, W n a1 a2 a3 a4 a5 a6 a7 a8 a9 a10 a11 a12 a13 a14 a15 :=
  loop_m (σ := A1 × A2 × A3 × A4 × A5 × A6 × A7 × A8 × A9 × A10 × A11 × A12 × A13 × A14 × A15) (fun n s => W n s.1 s.2.1 s.2.2.1 s.2.2.2.1 s.2.2.2.2.1 s.2.2.2.2.2.1 s.2.2.2.2.2.2.1 s.2.2.2.2.2.2.2.1 s.2.2.2.2.2.2.2.2.1 s.2.2.2.2.2.2.2.2.2.1 s.2.2.2.2.2.2.2.2.2.2.1 s.2.2.2.2.2.2.2.2.2.2.2.1 s.2.2.2.2.2.2.2.2.2.2.2.2.1 s.2.2.2.2.2.2.2.2.2.2.2.2.2.1 s.2.2.2.2.2.2.2.2.2.2.2.2.2.2) (fun s => I s.1 s.2.1 s.2.2.1 s.2.2.2.1 s.2.2.2.2.1 s.2.2.2.2.2.1 s.2.2.2.2.2.2.1 s.2.2.2.2.2.2.2.1 s.2.2.2.2.2.2.2.2.1 s.2.2.2.2.2.2.2.2.2.1 s.2.2.2.2.2.2.2.2.2.2.1 s.2.2.2.2.2.2.2.2.2.2.2.1 s.2.2.2.2.2.2.2.2.2.2.2.2.1 s.2.2.2.2.2.2.2.2.2.2.2.2.2.1 s.2.2.2.2.2.2.2.2.2.2.2.2.2.2) (fun s => μ s.1 s.2.1 s.2.2.1 s.2.2.2.1 s.2.2.2.2.1 s.2.2.2.2.2.1 s.2.2.2.2.2.2.1 s.2.2.2.2.2.2.2.1 s.2.2.2.2.2.2.2.2.1 s.2.2.2.2.2.2.2.2.2.1 s.2.2.2.2.2.2.2.2.2.2.1 s.2.2.2.2.2.2.2.2.2.2.2.1 s.2.2.2.2.2.2.2.2.2.2.2.2.1 s.2.2.2.2.2.2.2.2.2.2.2.2.2.1 s.2.2.2.2.2.2.2.2.2.2.2.2.2.2) (fun n s hI hk => hs n s.1 s.2.1 s.2.2.1 s.2.2.2.1 s.2.2.2.2.1 s.2.2.2.2.2.1 s.2.2.2.2.2.2.1 s.2.2.2.2.2.2.2.1 s.2.2.2.2.2.2.2.2.1 s.2.2.2.2.2.2.2.2.2.1 s.2.2.2.2.2.2.2.2.2.2.1 s.2.2.2.2.2.2.2.2.2.2.2.1 s.2.2.2.2.2.2.2.2.2.2.2.2.1 s.2.2.2.2.2.2.2.2.2.2.2.2.2.1 s.2.2.2.2.2.2.2.2.2.2.2.2.2.2 hI (fun b1 b2 b3 b4 b5 b6 b7 b8 b9 b10 b11 b12 b13 b14 b15 h9 hm => hk (b1, b2, b3, b4, b5, b6, b7, b8, b9, b10, b11, b12, b13, b14, b15) h9 hm)) (a1, a2, a3, a4, a5, a6, a7, a8, a9, a10, a11, a12, a13, a14, a15) h
theorem lp16 {A1 A2 A3 A4 A5 A6 A7 A8 A9 A10 A11 A12 A13 A14 A15 A16 : Type} (W : Nat → A1 → A2 → A3 → A4 → A5 → A6 → A7 → A8 → A9 → A10 → A11 → A12 → A13 → A14 → A15 → A16 → Prop) (I : A1 → A2 → A3 → A4 → A5 → A6 → A7 → A8 → A9 → A10 → A11 → A12 → A13 → A14 → A15 → A16 → Prop) (μ : A1 → A2 → A3 → A4 → A5 → A6 → A7 → A8 → A9 → A10 → A11 → A12 → A13 → A14 → A15 → A16 → Nat) (hs : ∀ (n : Nat) (a1 : A1) (a2 : A2) (a3 : A3) (a4 : A4) (a5 : A5) (a6 : A6) (a7 : A7) (a8 : A8) (a9 : A9) (a10 : A10) (a11 : A11) (a12 : A12) (a13 : A13) (a14 : A14) (a15 : A15) (a16 : A16), I a1 a2 a3 a4 a5 a6 a7 a8 a9 a10 a11 a12 a13 a14 a15 a16 → (∀ (b1 : A1) (b2 : A2) (b3 : A3) (b4 : A4) (b5 : A5) (b6 : A6) (b7 : A7) (b8 : A8) (b9 : A9) (b10 : A10) (b11 : A11) (b12 : A12) (b13 : A13) (b14 : A14) (b15 : A15) (b16 : A16), I b1 b2 b3 b4 b5 b6 b7 b8 b9 b10 b11 b12 b13 b14 b15 b16 → μ b1 b2 b3 b4 b5 b6 b7 b8 b9 b10 b11 b12 b13 b14 b15 b16 < μ a1 a2 a3 a4 a5 a6 a7 a8 a9 a10 a11 a12 a13 a14 a15 a16 → W n b1 b2 b3 b4 b5 b6 b7 b8 b9 b10 b11 b12 b13 b14 b15 b16) → W (n + 1) a1 a2 a3 a4 a5 a6 a7 a8 a9 a10 a11 a12 a13 a14 a15 a16) (a1 : A1) (a2 : A2) (a3 : A3) (a4 : A4) (a5 : A5) (a6 : A6) (a7 : A7) (a8 : A8) (a9 : A9) (a10 : A10) (a11 : A11) (a12 : A12) (a13 : A13) (a14 : A14) (a15 : A15) (a16 : A16) (h : I a1 a2 a3 a4 a5 a6 a7 a8 a9 a10 a11 a12 a13 a14 a15 a16) : ∃ n, W n a1 a2 a3 a4 a5 a6 a7 a8 a9 a10 a11 a12 a13 a14 a15 a16 :=
  loop_m (σ := A1 × A2 × A3 × A4 × A5 × A6 × A7 × A8 × A9 × A10 × A11 × A12 × A13 × A14 × A15 × A16) (fun n s => W n s.1 s.2.1 s.2.2.1 s.2.2.2.1 s.2.2.2.2.1 s.2.2.2.2.2.1 s.2.2.2.2.2.2.1 s.2.2.2.2.2.2.2.1 s.2.2.2.2.2.2.2.2.1 s.2.2.2.2.2.2.2.2.2.1 s.2.2.2.2.2.2.2.2.2.2.1 s.2.2.2.2.2.2.2.2.2.2.2.1 s.2.2.2.2.2.2.2.2.2.2.2.2.1 s.2.2.2.2.2.2.2.2.2.2.2.2.2.1 s.2.2.2.2.2.2.2.2.2.2.2.2.2.2.1 s.2.2.2.2.2.2.2.2.2.2.2.2.2.2.2) (fun s => I s.1 s.2.1 s.2.2.1 s.2.2.2.1 s.2.2.2.2.1 s.2.2.2.2.2.1 s.2.2.2.2.2.2.1 s.2.2.2.2.2.2.2.1 s.2.2.2.2.2.2.2.2.1 s.2.2.2.2.2.2.2.2.2.1 s.2.2.2.2.2.2.2.2.2.2.1 s.2.2.2.2.2.2.2.2.2.2.2.1 s.2.2.2.2.2.2.2.2.2.2.2.2.1 s.2.2.2.2.2.2.2.2.2.2.2.2.2.1 s.2.2.2.2.2.2.2.2.2.2.2.2.2.2.1 s.2.2.2.2.2.2.2.2.2.2.2.2.2.2.2) (fun s => μ s.1 s.2.1 s.2.2.1 s.2.2.2.1 s.2.2.2.2.1 s.2.2.2.2.2.1 s.2.2.2.2.2.2.1 s.2.2.2.2.2.2.2.1 s.2.2.2.2.2.2.2.2.1 s.2.2.2.2.2.2.2.2.2.1 s.2.2.2.2.2.2.2.2.2.2.1 s.2.2.2.2.2.2.2.2.2.2.2.1 s.2.2.2.2.2.2.2.2.2.2.2.2.1 s.2.2.2.2.2.2.2.2.2.2.2.2.2.1 s.2.2.2.2.2.2.2.2.2.2.2.2.2.2.1 s.2.2.2.2.2.2.2.2.2.2.2.2.2.2.2) (fun n s hI hk => hs n s.1 s.2.1 s.2.2.1 s.2.2.2.1 s.2.2.2.2.1 s.2.2.2.2.2.1 s.2.2.2.2.2.2.1 s.2.2.2.2.2.2.2.1 s.2.2.2.2.2.2.2.2.1 s.2.2.2.2.2.2.2.2.2.1 s.2.2.2.2.2.2.2.2.2.2.1 s.2.2.2.2.2.2.2.2.2.2.2.1 s.2.2.2.2.2.2.2.2.2.2.2.2.1 s.2.2.2.2.2.2.2.2.2.2.2.2.2.1 s.2.2.2.2.2.2.2.2.2.2.2.2.2.2.1 s.2.2.2.2.2.2.2.2.2.2.2.2.2.2.2 hI (fun b1 b2 b3 b4 b5 b6 b7 b8 b9 b10 b11 b12 b13 b14 b15 b16 h9 hm => hk (b1, b2, b3, b4, b5, b6, b7, b8, b9, b10, b11, b12, b13, b14, b15, b16) h9 hm)) (a1, a2, a3, a4, a5, a6, a7, a8, a9, a10, a11, a12, a13, a14, a15, a16) h
theorem pk_least (P : Nat → Prop) (h : ∃ k, P k) : ∃ k, P k ∧ ∀ j, j < k → ¬ P j := by
  obtain ⟨k, hk⟩ := h
  induction k using Nat.strongRecOn with
  | ind k ih =>
    by_cases e : ∃ j, j < k ∧ P j
    · obtain ⟨j, hj, pj⟩ := e
      exact ih j hj pj
    · exact ⟨k, hk, fun j hj pj => e ⟨j, hj, pj⟩⟩
theorem rp1 {ρ A1 : Type} (W : Nat → (ρ → Prop) → A1 → Prop) (ok : A1 → Prop) (μ : A1 → Nat) (val : A1 → ρ)
    (hs : ∀ (d : Nat) (post : ρ → Prop) (a1 : A1), ok a1 → post (val a1) → (∀ (post' : ρ → Prop) (b1 : A1), ok b1 → μ b1 < μ a1 → post' (val b1) → W d post' b1) → W (d + 1) post a1) :
    ∀ (d : Nat) (post : ρ → Prop) (a1 : A1), ok a1 → μ a1 < d → post (val a1) → W d post a1 := by
  intro d
  induction d with
  | zero => intro post a1 _ h; omega
  | succ d ih =>
    intro post a1 ho hm hp
    exact hs d post a1 ho hp (fun post' b1 ho' hm' hp' => ih post' b1 ho' (by omega) hp')
theorem rp2 {ρ A1 A2 : Type} (W : Nat → (ρ → Prop) → A1 → A2 → Prop) (ok : A1 → A2 → Prop) (μ : A1 → A2 → Nat) (val : A1 → A2 → ρ)
    (hs : ∀ (d : Nat) (post : ρ → Prop) (a1 : A1) (a2 : A2), ok a1 a2 → post (val a1 a2) → (∀ (post' : ρ → Prop) (b1 : A1) (b2 : A2), ok b1 b2 → μ b1 b2 < μ a1 a2 → post' (val b1 b2) → W d post' b1 b2) → W (d + 1) post a1 a2) :
    ∀ (d : Nat) (post : ρ → Prop) (a1 : A1) (a2 : A2), ok a1 a2 → μ a1 a2 < d → post (val a1 a2) → W d post a1 a2 := by
  intro d
  induction d with
  | zero => intro post a1 a2 _ h; omega
  | succ d ih =>
    intro post a1 a2 ho hm hp
    exact hs d post a1 a2 ho hp (fun post' b1 b2 ho' hm' hp' => ih post' b1 b2 ho' (by omega) hp')
theorem rp3 {ρ A1 A2 A3 : Type} (W : Nat → (ρ → Prop) → A1 → A2 → A3 → Prop) (ok : A1 → A2 → A3 → Prop) (μ : A1 → A2 → A3 → Nat) (val : A1 → A2 → A3 → ρ)
    (hs : ∀ (d : Nat) (post : ρ → Prop) (a1 : A1) (a2 : A2) (a3 : A3), ok a1 a2 a3 → post (val a1 a2 a3) → (∀ (post' : ρ → Prop) (b1 : A1) (b2 : A2) (b3 : A3), ok b1 b2 b3 → μ b1 b2 b3 < μ a1 a2 a3 → post' (val b1 b2 b3) → W d post' b1 b2 b3) → W (d + 1) post a1 a2 a3) :
    ∀ (d : Nat) (post : ρ → Prop) (a1 : A1) (a2 : A2) (a3 : A3), ok a1 a2 a3 → μ a1 a2 a3 < d → post (val a1 a2 a3) → W d post a1 a2 a3 := by
  intro d
  induction d with
  | zero => intro post a1 a2 a3 _ h; omega
  | succ d ih =>
    intro post a1 a2 a3 ho hm hp
    exact hs d post a1 a2 a3 ho hp (fun post' b1 b2 b3 ho' hm' hp' => ih post' b1 b2 b3 ho' (by omega) hp')
theorem rp4 {ρ A1 A2 A3 A4 : Type} (W : Nat → (ρ → Prop) → A1 → A2 → A3 → A4 → Prop) (ok : A1 → A2 → A3 → A4 → Prop) (μ : A1 → A2 → A3 → A4 → Nat) (val : A1 → A2 → A3 → A4 → ρ)
    (hs : ∀ (d : Nat) (post : ρ → Prop) (a1 : A1) (a2 : A2) (a3 : A3) (a4 : A4), ok a1 a2 a3 a4 → post (val a1 a2 a3 a4) → (∀ (post' : ρ → Prop) (b1 : A1) (b2 : A2) (b3 : A3) (b4 : A4), ok b1 b2 b3 b4 → μ b1 b2 b3 b4 < μ a1 a2 a3 a4 → post' (val b1 b2 b3 b4) → W d post' b1 b2 b3 b4) → W (d + 1) post a1 a2 a3 a4) :
    ∀ (d : Nat) (post : ρ → Prop) (a1 : A1) (a2 : A2) (a3 : A3) (a4 : A4), ok a1 a2 a3 a4 → μ a1 a2 a3 a4 < d → post (val a1 a2 a3 a4) → W d post a1 a2 a3 a4 := by
  intro d
  induction d with
  | zero => intro post a1 a2 a3 a4 _ h; omega
  | succ d ih =>
    intro post a1 a2 a3 a4 ho hm hp
    exact hs d post a1 a2 a3 a4 ho hp (fun post' b1 b2 b3 b4 ho' hm' hp' => ih post' b1 b2 b3 b4 ho' (by omega) hp')
theorem rp5 {ρ A1 A2 A3 A4 A5 : Type} (W : Nat → (ρ → Prop) → A1 → A2 → A3 → A4 → A5 → Prop) (ok : A1 → A2 → A3 → A4 → A5 → Prop) (μ : A1 → A2 → A3 → A4 → A5 → Nat) (val : A1 → A2 → A3 → A4 → A5 → ρ)
    (hs : ∀ (d : Nat) (post : ρ → Prop) (a1 : A1) (a2 : A2) (a3 : A3) (a4 : A4) (a5 : A5), ok a1 a2 a3 a4 a5 → post (val a1 a2 a3 a4 a5) → (∀ (post' : ρ → Prop) (b1 : A1) (b2 : A2) (b3 : A3) (b4 : A4) (b5 : A5), ok b1 b2 b3 b4 b5 → μ b1 b2 b3 b4 b5 < μ a1 a2 a3 a4 a5 → post' (val b1 b2 b3 b4 b5) → W d post' b1 b2 b3 b4 b5) → W (d + 1) post a1 a2 a3 a4 a5) :
    ∀ (d : Nat) (post : ρ → Prop) (a1 : A1) (a2 : A2) (a3 : A3) (a4 : A4) (a5 : A5), ok a1 a2 a3 a4 a5 → μ a1 a2 a3 a4 a5 < d → post (val a1 a2 a3 a4 a5) → W d post a1 a2 a3 a4 a5 := by
  intro d
  induction d with
  | zero => intro post a1 a2 a3 a4 a5 _ h; omega
  | succ d ih =>
    intro post a1 a2 a3 a4 a5 ho hm hp
    exact hs d post a1 a2 a3 a4 a5 ho hp (fun post' b1 b2 b3 b4 b5 ho' hm' hp' => ih post' b1 b2 b3 b4 b5 ho' (by omega) hp')
theorem rp6 {ρ A1 A2 A3 A4 A5 A6 : Type} (W : Nat → (ρ → Prop) → A1 → A2 → A3 → A4 → A5 → A6 → Prop) (ok : A1 → A2 → A3 → A4 → A5 → A6 → Prop) (μ : A1 → A2 → A3 → A4 → A5 → A6 → Nat) (val : A1 → A2 → A3 → A4 → A5 → A6 → ρ)
    (hs : ∀ (d : Nat) (post : ρ → Prop) (a1 : A1) (a2 : A2) (a3 : A3) (a4 : A4) (a5 : A5) (a6 : A6), ok a1 a2 a3 a4 a5 a6 → post (val a1 a2 a3 a4 a5 a6) → (∀ (post' : ρ → Prop) (b1 : A1) (b2 : A2) (b3 : A3) (b4 : A4) (b5 : A5) (b6 : A6), ok b1 b2 b3 b4 b5 b6 → μ b1 b2 b3 b4 b5 b6 < μ a1 a2 a3 a4 a5 a6 → post' (val b1 b2 b3 b4 b5 b6) → W d post' b1 b2 b3 b4 b5 b6) → W (d + 1) post a1 a2 a3 a4 a5 a6) :
    ∀ (d : Nat) (post : ρ → Prop) (a1 : A1) (a2 : A2) (a3 : A3) (a4 : A4) (a5 : A5) (a6 : A6), ok a1 a2 a3 a4 a5 a6 → μ a1 a2 a3 a4 a5 a6 < d → post (val a1 a2 a3 a4 a5 a6) → W d post a1 a2 a3 a4 a5 a6 := by
  intro d
  induction d with
  | zero => intro post a1 a2 a3 a4 a5 a6 _ h; omega
  | succ d ih =>
    intro post a1 a2 a3 a4 a5 a6 ho hm hp
    exact hs d post a1 a2 a3 a4 a5 a6 ho hp (fun post' b1 b2 b3 b4 b5 b6 ho' hm' hp' => ih post' b1 b2 b3 b4 b5 b6 ho' (by omega) hp')
theorem rec_p {σ ρ : Type} (W : Nat → (ρ → Prop) → σ → Prop) (ok : σ → Prop) (μ : σ → Nat) (val : σ → ρ)
    (hs : ∀ d s post, ok s → post (val s) → (∀ s' post', ok s' → μ s' < μ s → post' (val s') → W d post' s') → W (d + 1) post s) :
    ∀ d s post, ok s → μ s < d → post (val s) → W d post s := by
  intro d
  induction d with
  | zero => intro s post _ h; omega
  | succ d ih =>
    intro s post ho hm hp
    exact hs d s post ho hp (fun s' post' ho' hm' hp' => ih s' post' ho' (by omega) hp')
theorem rec_q {σ ρ : Type} (W : Nat → (ρ → Prop) → σ → Prop) (ok : σ → Prop) (μ : σ → Nat) (Q : σ → ρ → Prop)
    (hs : ∀ d s post, ok s → (∀ r, Q s r → post r) → (∀ s' post', ok s' → μ s' < μ s → (∀ r, Q s' r → post' r) → W d post' s') → W (d + 1) post s) :
    ∀ d s post, ok s → μ s < d → (∀ r, Q s r → post r) → W d post s := by
  intro d
  induction d with
  | zero => intro s post _ h; omega
  | succ d ih =>
    intro s post ho hm hp
    exact hs d s post ho hp (fun s' post' ho' hm' hp' => ih s' post' ho' (by omega) hp')
def bx_sum (f : Nat → Int32) : Nat → Int32
  | 0 => 0
  | n + 1 => bx_sum f n + f n
theorem ek_u {A : Prop} {B : Nat → Prop} {k N : Nat} (hk : k < N) (h : B k) : (some k = none → A) ∧ (∀ y : Nat, some k = some y → (y < N ∧ B y)) :=
  ⟨fun z => absurd z (Option.some_ne_none k), fun _ e => (by cases e; exact ⟨hk, h⟩)⟩
theorem ek_nu {A : Prop} {B : Nat → Prop} (h : A) : ((none : Option Nat) = none → A) ∧ (∀ y : Nat, (none : Option Nat) = some y → B y) :=
  ⟨fun _ => h, fun _ e => (by cases e)⟩
theorem ek_if {c d A B : Prop} (e : c ↔ d) (f : d → A) (g : ¬ d → B) : (c → A) ∧ (¬ c → B) :=
  ⟨fun z => f (e.mp z), fun z => g (fun y => z (e.mpr y))⟩
theorem ek_v {α : Sort _} {P : α → Prop} {a b : α} (e : a = b) (h : P b) : P a := e ▸ h
theorem co_some {x : Option Nat} {A : Prop} {B : Nat → Prop} (i : Nat) (h : B i) (hx : x = some i := by rfl) : (x = none → A) ∧ (∀ y : Nat, x = some y → B y) := by
  subst hx
  exact ⟨fun e => (nomatch e), fun y e => Option.some.inj e ▸ h⟩
theorem co_none {x : Option Nat} {A : Prop} {B : Nat → Prop} (h : A) (hx : x = none := by rfl) : (x = none → A) ∧ (∀ y : Nat, x = some y → B y) := by
  subst hx
  exact ⟨fun _ => h, fun y e => (nomatch e)⟩
theorem co_any {x : Option Nat} {A : Prop} {B : Nat → Prop} (hn : x = none → A) (hs : ∀ i : Nat, x = some i → B i) : (x = none → A) ∧ (∀ y : Nat, x = some y → B y) := ⟨hn, hs⟩
theorem co_2 {P : Nat → Prop} (h0 : P 0) (h1 : P 1) {i : Nat} (hi : i < 2) : P i :=
  match i, hi with
  | 0, _ => h0
  | 1, _ => h1
theorem co_3 {P : Nat → Prop} (h0 : P 0) (h1 : P 1) (h2 : P 2) {i : Nat} (hi : i < 3) : P i :=
  match i, hi with
  | 0, _ => h0
  | 1, _ => h1
  | 2, _ => h2
theorem co_4 {P : Nat → Prop} (h0 : P 0) (h1 : P 1) (h2 : P 2) (h3 : P 3) {i : Nat} (hi : i < 4) : P i :=
  match i, hi with
  | 0, _ => h0
  | 1, _ => h1
  | 2, _ => h2
  | 3, _ => h3
theorem co_dec {N : Nat} {P : Nat → Prop} [DecidablePred P] (h : (List.range N).all (fun i => decide (P i)) = true) {i : Nat} (hi : i < N) : P i := by
  have := List.all_eq_true.mp h i (List.mem_range.mpr hi)
  exact of_decide_eq_true this
theorem co_tab {α : Type} {l : List α} {d : α} {P : α → Prop} (h : ∀ a, a ∈ l → P a) {i : Nat} (hi : i < l.length) : P (l.getD i d) := by
  rw [List.getD_eq_getElem?_getD, List.getElem?_eq_getElem hi]
  exact h _ (List.getElem_mem hi)
theorem pk_mu {x : Int32} {L : Nat} (h0 : ¬ x < 0) (h : ¬ nI L ≤ x) (hL : L < 2 ^ 31) : ∃ j : Nat, j < L ∧ x = nI j ∧ x + 1 = nI (j + 1) ∧ x.toNatClampNeg = j ∧ L - (x + 1).toNatClampNeg < L - x.toNatClampNeg := by
  obtain ⟨j, hj, rfl⟩ := nI_of h0
  have hl : j < L := Nat.not_le.mp fun q => h (nI_le q hj)
  refine ⟨j, hl, rfl, nI_1 j, nI_clamp hj, ?_⟩
  rw [nI_1, nI_clamp (by omega), nI_clamp hj]
  omega
theorem op_s {α : Type} {r : Option α} {A : Prop} {B : α → Prop} {y : α} (h : r = some y) (b : B y) : (r = none → A) ∧ ∀ z, r = some z → B z :=
  ⟨fun e => (by rw [h] at e; cases e), fun z e => (by rw [h] at e; cases e; exact b)⟩
def l_holds {α : Type} (a : Nat → Option Nat) (LP : List Nat) (p : Nat → α) (c : Nat) (b : Nat → α) : Prop :=
  ∀ j, j < c → ∃ y, a j = some y ∧ y ∈ LP ∧ p y = b j
theorem l_holds_0 {α : Type} {a : Nat → Option Nat} {LP : List Nat} {p b : Nat → α} : l_holds a LP p 0 b := fun j h => absurd h (Nat.not_lt_zero j)
theorem l_in_new (LP : List Nat) (q : Nat) : q ∈ LP ++ [q] := List.mem_append.mpr (Or.inr (List.mem_singleton.mpr rfl))
def l_sum (b : Nat → Int32) : Nat → Int32
  | 0 => 0
  | k + 1 => l_sum b k + b k
theorem sb_shr0 (x : Int32) : x >>> ((0 : Int32) &&& 31) = x := by
  rw [show ((0 : Int32) &&& 31) = 0 by decide]
  simp
theorem sb_shl0 (x : Int32) : x <<< ((0 : Int32) &&& 31) = x := by
  rw [show ((0 : Int32) &&& 31) = 0 by decide]
  simp
theorem sb_cl0 : (0 : Int32).toNatClampNeg = 0 := by decide
theorem sb_m1 {p : Nat} (h : 0 < p) : nI p + (-1) = nI (p - 1) := by
  obtain ⟨q, rfl⟩ : ∃ q, p = q + 1 := ⟨p - 1, by omega⟩
  exact pk_m1 q
def sb_b (c : Nat) : Int32 := (nI c).toInt8.toInt32
theorem sb_byte : ∀ c, c < 256 → sb_b c &&& 255 = nI c ∧ ((nI c).toUInt32 % 65536).toInt32 = nI c ∧ nI c ≤ 255 := by decide +kernel
def sb_Fit (a : Nat → Int32) : Prop := ∀ j, fits .byte (.int (a j)) = true
def sb_Lat (t : Nat → Nat) (n : Nat) (a : Nat → Int32) : Prop := ∀ j, j < n → t j < 256 ∧ a j = sb_b (t j)
theorem sb_fitB (c : Nat) : fits .byte (.int (sb_b c)) = true := pk_fb _
theorem sb_fit0 : sb_Fit (fun _ => 0) := fun _ => by
  show fits .byte (.int 0) = true
  decide
theorem sb_fitU {a : Nat → Int32} {k : Nat} {x : Int32} (h : sb_Fit a) (hx : fits .byte (.int x) = true) : sb_Fit (upd a k x) := by
  intro j
  by_cases e : j = k
  · subst e
    rw [pk_us]
    exact hx
  · rw [pk_un e]
    exact h j
def sb_cat (t : Nat → Nat) (n : Nat) (s : Nat → Nat) : Nat → Nat := fun j => if j < n then t j else s (j - n)
theorem sb_cat_lo {t s : Nat → Nat} {n j : Nat} (h : j < n) : sb_cat t n s j = t j := if_pos h
theorem sb_cat_hi {t s : Nat → Nat} {n j : Nat} : sb_cat t n s (n + j) = s j := by
  show (if n + j < n then t (n + j) else s (n + j - n)) = s j
  rw [if_neg (by omega), Nat.add_sub_cancel_left]
theorem sb_latPut {t s : Nat → Nat} {n w : Nat} {a a' : Nat → Int32} (h : sb_Lat t n a) (hk : ∀ j, j < n → a' j = a j) (hs : ∀ i, i < w → s i < 256 ∧ a' (n + i) = sb_b (s i)) : sb_Lat (sb_cat t n s) (n + w) a' := by
  intro j hj
  by_cases e : j < n
  · rw [sb_cat_lo e, hk j e]
    exact h j e
  · obtain ⟨i, rfl⟩ : ∃ i, j = n + i := ⟨j - n, by omega⟩
    rw [sb_cat_hi]
    exact hs i (by omega)
theorem sb_latKeep {t : Nat → Nat} {n : Nat} {a a' : Nat → Int32} (h : sb_Lat t n a) (hk : ∀ j, j < n → a' j = a j) : sb_Lat t n a' := fun j hj => by
  rw [hk j hj]
  exact h j hj
def sb_cap (q m : Nat) : Nat := if q ≤ m then m else if 2 * m + 2 < q then q else 2 * m + 2
def sb_Room (q m mc ms : Nat) : Prop := q ≤ m ∨ (1 ≤ mc ∧ sb_cap q m ≤ ms ∧ sb_cap q m ≤ 65536)
theorem sb_cap_ge (q m : Nat) : q ≤ sb_cap q m := by
  unfold sb_cap
  split
  · omega
  · split <;> omega
theorem sb_cap_gem (q m : Nat) : m ≤ sb_cap q m := by
  unfold sb_cap
  split
  · omega
  · split <;> omega
theorem sb_cap_le {q m mc ms : Nat} (hm : m ≤ 65536) (hr : sb_Room q m mc ms) : sb_cap q m ≤ 65536 := by
  rcases hr with h | h
  · rw [sb_cap, if_pos h]
    exact hm
  · exact h.2.2
theorem sb_at {P : Int32 → Prop} {x y : Int32} (e : x = y) (h : P y) : P x := e ▸ h
def sb_dg (w : Nat) : Nat := if w < 10 then 1 else if w < 100 then 2 else if w < 1000 then 3 else if w < 10000 then 4 else if w < 100000 then 5 else if w < 1000000 then 6 else if w < 10000000 then 7 else if w < 100000000 then 8 else if w < 1000000000 then 9 else 10
def sb_dec (v : Nat) : Nat → Nat := fun i => 48 + v / 10 ^ (sb_dg v - 1 - i) % 10
theorem sb_dg_in (w : Nat) : 1 ≤ sb_dg w ∧ sb_dg w ≤ 10 := by
  unfold sb_dg
  constructor <;> (repeat' split) <;> omega
theorem sb_dg100 {w : Nat} (h : 100 ≤ w) (hw : w < 2 ^ 31) : sb_dg w = sb_dg (w / 100) + 2 := by
  rw [sb_dg, sb_dg, if_neg (show ¬ w < 10 by omega), if_neg (show ¬ w < 100 by omega)]
  by_cases h3 : w < 1000
  · rw [if_pos h3, if_pos (show w / 100 < 10 by omega)]
  rw [if_neg h3, if_neg (show ¬ w / 100 < 10 by omega)]
  by_cases h4 : w < 10000
  · rw [if_pos h4, if_pos (show w / 100 < 100 by omega)]
  rw [if_neg h4, if_neg (show ¬ w / 100 < 100 by omega)]
  by_cases h5 : w < 100000
  · rw [if_pos h5, if_pos (show w / 100 < 1000 by omega)]
  rw [if_neg h5, if_neg (show ¬ w / 100 < 1000 by omega)]
  by_cases h6 : w < 1000000
  · rw [if_pos h6, if_pos (show w / 100 < 10000 by omega)]
  rw [if_neg h6, if_neg (show ¬ w / 100 < 10000 by omega)]
  by_cases h7 : w < 10000000
  · rw [if_pos h7, if_pos (show w / 100 < 100000 by omega)]
  rw [if_neg h7, if_neg (show ¬ w / 100 < 100000 by omega)]
  by_cases h8 : w < 100000000
  · rw [if_pos h8, if_pos (show w / 100 < 1000000 by omega)]
  rw [if_neg h8, if_neg (show ¬ w / 100 < 1000000 by omega)]
  by_cases h9 : w < 1000000000
  · rw [if_pos h9, if_pos (show w / 100 < 10000000 by omega)]
  rw [if_neg h9, if_neg (show ¬ w / 100 < 10000000 by omega)]
  rw [if_pos (show w / 100 < 100000000 by omega)]
theorem sb_negT {w : Nat} (h : w < 2 ^ 31) : (-nI w).toInt = -(w : Int) := by
  rw [Int32.toInt_neg, nI_toInt h]
  exact Int.bmod_eq_of_le (by omega) (by omega)
theorem sb_nle {a b : Nat} (ha : a < 2 ^ 31) (hb : b < 2 ^ 31) : -nI a ≤ -nI b ↔ b ≤ a := by
  rw [Int32.le_iff_toInt_le, sb_negT ha, sb_negT hb]
  omega
theorem sb_nlt {a b : Nat} (ha : a < 2 ^ 31) (hb : b < 2 ^ 31) : -nI a < -nI b ↔ b < a := by
  rw [Int32.lt_iff_toInt_lt, sb_negT ha, sb_negT hb]
  omega
theorem sb_cmp {A B : Prop} {x : Int32} (v c : Nat) (f : c ≤ v → A) (g : v < c → B) (hv : v < 2 ^ 31) (hx : x = -nI c := by rfl) (hc : c < 2 ^ 31 := by omega) : (-nI v ≤ x → A) ∧ (¬ -nI v ≤ x → B) := by
  subst hx
  rw [sb_nle hv hc]
  exact ⟨f, fun z => g (by omega)⟩
theorem sb_ndiv {w : Nat} (hw : w < 2 ^ 31) : (-nI w) / 100 = -nI (w / 100) := by
  apply Int32.toInt_inj.mp
  have h100 : (100 : Int32).toInt = 100 := by decide
  rw [Int32.toInt_div, sb_negT hw, h100, sb_negT (by omega), Int.neg_tdiv, Int.tdiv_eq_ediv_of_nonneg (by omega), Int.bmod_eq_of_le (by omega) (by omega)]
  omega
theorem sb_nrem {w : Nat} (hw : w < 2 ^ 31) : (-nI (w / 100)) * 100 - (-nI w) = nI (w % 100) := by
  have h := pk_rem (a := w) (d := 100) hw (by decide) (by decide)
  rw [pk_div hw (by decide) (by decide)] at h
  rw [← h]
  show (-nI (w / 100)) * nI 100 - (-nI w) = nI w - nI (w / 100) * nI 100
  rw [Int32.neg_mul, Int32.sub_neg, Int32.add_comm, ← Int32.sub_eq_add_neg]
end
section
/-! rows on bits, shifts and unsigned numbers, to paste: each family out of a closed proof of our own, whole with what it rests on; each by itself clean at Lean in its own claim (generation 39, form 5). Take a family whole -/
/-! ===== Int32 by its bits: bt x i ===== -/
def bt (x : Int32) (i : Nat) : Bool := x.toBitVec.getLsbD i
theorem b_ext {x y : Int32} (h : ∀ i, i < 32 → bt x i = bt y i) : x = y := Int32.toBitVec_inj.mp (BitVec.eq_of_getLsbD_eq (fun i hi => h i hi))
theorem b_or (x y : Int32) (i : Nat) : bt (x ||| y) i = (bt x i || bt y i) := by unfold bt; rw [Int32.toBitVec_or, BitVec.getLsbD_or]
theorem b_and (x y : Int32) (i : Nat) : bt (x &&& y) i = (bt x i && bt y i) := by unfold bt; rw [Int32.toBitVec_and, BitVec.getLsbD_and]
theorem b_xor (x y : Int32) (i : Nat) : bt (x ^^^ y) i = (bt x i ^^ bt y i) := by unfold bt; rw [Int32.toBitVec_xor, BitVec.getLsbD_xor]
theorem b_big {x : Int32} {i : Nat} (h : 32 ≤ i) : bt x i = false := BitVec.getLsbD_of_ge _ _ h
theorem b_255 (i : Nat) : bt 255 i = decide (i < 8) := by
  rcases Nat.lt_or_ge i 32 with h | h
  · exact (by decide +kernel : ∀ i, i < 32 → bt 255 i = decide (i < 8)) i h
  · rw [b_big h, decide_eq_false (by omega)]
theorem b_65535 (i : Nat) : bt 65535 i = decide (i < 16) := by
  rcases Nat.lt_or_ge i 32 with h | h
  · exact (by decide +kernel : ∀ i, i < 32 → bt 65535 i = decide (i < 16)) i h
  · rw [b_big h, decide_eq_false (by omega)]
theorem b_m1 : ∀ i, i < 32 → bt (-1) i = true := by decide +kernel
theorem b_0 (i : Nat) : bt 0 i = false := BitVec.getLsbD_zero
theorem s_l : ∀ n, n < 32 → ((nI n &&& 31).toBitVec.smod 32).toNat = n := by decide +kernel
theorem s_u : ∀ n, n < 32 → (((nI n).toUInt32 &&& Int32.toUInt32 31).toBitVec % 32).toNat = n := by decide +kernel
theorem b_shl (n : Nat) (hn : n < 32) (x : Int32) {i : Nat} (hi : i < 32) : bt (x <<< (nI n &&& 31)) i = (decide (n ≤ i) && bt x (i - n)) := by
  unfold bt
  rw [Int32.toBitVec_shiftLeft]
  show (x.toBitVec <<< ((nI n &&& 31).toBitVec.smod 32).toNat).getLsbD i = _
  rw [s_l n hn, BitVec.getLsbD_shiftLeft]
  rcases Nat.lt_or_ge i n with h | h
  · simp [h, Nat.not_le.mpr h]
  · simp [hi, h, Nat.not_lt.mpr h]
theorem b_ushr (n : Nat) (hn : n < 32) (x : Int32) (i : Nat) : bt ((x.toUInt32 >>> ((nI n).toUInt32 &&& Int32.toUInt32 31)).toInt32) i = bt x (n + i) := by
  show (x.toUInt32 >>> ((nI n).toUInt32 &&& Int32.toUInt32 31)).toBitVec.getLsbD i = x.toUInt32.toBitVec.getLsbD (n + i)
  rw [UInt32.toBitVec_shiftRight]
  show (x.toUInt32.toBitVec >>> (((nI n).toUInt32 &&& Int32.toUInt32 31).toBitVec % 32).toNat).getLsbD i = _
  rw [s_u n hn, BitVec.getLsbD_ushiftRight]
theorem b_sshr (n : Nat) (hn : n < 32) (x : Int32) {i : Nat} (hi : i < 32) : bt (x >>> (nI n &&& 31)) i = if n + i < 32 then bt x (n + i) else bt x 31 := by
  unfold bt
  rw [Int32.toBitVec_shiftRight]
  show (x.toBitVec.sshiftRight ((nI n &&& 31).toBitVec.smod 32).toNat).getLsbD i = _
  rw [s_l n hn, BitVec.getLsbD_sshiftRight, BitVec.msb_eq_getLsbD_last]
  simp [hi]
theorem b_shl8 (x : Int32) {i : Nat} (hi : i < 32) : bt (x <<< ((8 : Int32) &&& 31)) i = (decide (8 ≤ i) && bt x (i - 8)) := b_shl 8 (by omega) x hi
theorem b_shl16 (x : Int32) {i : Nat} (hi : i < 32) : bt (x <<< ((16 : Int32) &&& 31)) i = (decide (16 ≤ i) && bt x (i - 16)) := b_shl 16 (by omega) x hi
theorem b_shl24 (x : Int32) {i : Nat} (hi : i < 32) : bt (x <<< ((24 : Int32) &&& 31)) i = (decide (24 ≤ i) && bt x (i - 24)) := b_shl 24 (by omega) x hi
theorem b_sshr8 (x : Int32) {i : Nat} (hi : i < 32) : bt (x >>> ((8 : Int32) &&& 31)) i = if 8 + i < 32 then bt x (8 + i) else bt x 31 := b_sshr 8 (by omega) x hi
/-! ===== nI under and, xor, >>>, one bit, 65535 ===== -/
theorem nx_and (a b : Nat) : nI a &&& nI b = nI (a &&& b) := by
  apply Int32.toBitVec_inj.1
  show BitVec.ofNat 32 a &&& BitVec.ofNat 32 b = BitVec.ofNat 32 (a &&& b)
  apply BitVec.eq_of_getLsbD_eq
  intro i hi
  simp [hi]
theorem nx_xor (a b : Nat) : nI a ^^^ nI b = nI (a ^^^ b) := by
  apply Int32.toBitVec_inj.1
  show BitVec.ofNat 32 a ^^^ BitVec.ofNat 32 b = BitVec.ofNat 32 (a ^^^ b)
  apply BitVec.eq_of_getLsbD_eq
  intro i hi
  simp [hi]
theorem nx_cnt : ∀ j : Fin 32, (UInt32.ofNat j.val &&& Int32.toUInt32 31).toNat % 32 = j.val := by decide +kernel
theorem nx_ush {k j : Nat} (hk : k < 65536) (hj : j < 32) : ((nI k).toUInt32 >>> ((nI j).toUInt32 &&& Int32.toUInt32 31)).toInt32 = nI (k >>> j) := by
  have hs : k >>> j ≤ k := by
    rw [Nat.shiftRight_eq_div_pow]
    exact Nat.div_le_self _ _
  have e2 : UInt32.ofNat k >>> (UInt32.ofNat j &&& Int32.toUInt32 31) = UInt32.ofNat (k >>> j) := by
    apply UInt32.toNat_inj.1
    have h1 : (UInt32.ofNat k).toNat = k := Nat.mod_eq_of_lt (by omega)
    have h2 : (UInt32.ofNat (k >>> j)).toNat = k >>> j := Nat.mod_eq_of_lt (by omega)
    rw [UInt32.toNat_shiftRight, nx_cnt ⟨j, hj⟩, h1, h2]
  show (UInt32.ofNat k >>> (UInt32.ofNat j &&& Int32.toUInt32 31)).toInt32 = _
  rw [e2]
  rfl
theorem nx_bit {k j : Nat} (hk : k < 65536) (hj : j < 16) : (((nI k).toUInt32 >>> ((nI j).toUInt32 &&& Int32.toUInt32 31)).toInt32 &&& 1) = 0 ↔ k.testBit j = false := by
  rw [nx_ush hk (by omega)]
  show nI (k >>> j) &&& nI 1 = 0 ↔ _
  rw [nx_and, Nat.and_one_is_mod, ← nI_0, nI_eq (by omega) (by omega), Nat.testBit_eq_decide_div_mod_eq, Nat.shiftRight_eq_div_pow, decide_eq_false_iff_not]
  generalize k / 2 ^ j = z
  omega
theorem nx_mod (k : Nat) : nI k &&& 65535 = nI (k % 65536) := by
  show nI k &&& nI 65535 = _
  rw [nx_and, show (65535 : Nat) = 2 ^ 16 - 1 from rfl, Nat.and_two_pow_sub_one_eq_mod]
theorem nx_m16 {k : Nat} (h : k < 65536) : nI k &&& 65535 = nI k := by rw [nx_mod, Nat.mod_eq_of_lt h]
theorem nx_mask (x : Int32) : ∃ k, k < 65536 ∧ x &&& 65535 = nI k := by
  have e : x = nI x.toBitVec.toNat := by
    apply Int32.toBitVec_inj.1
    show x.toBitVec = BitVec.ofNat 32 x.toBitVec.toNat
    simp
  refine ⟨x.toBitVec.toNat % 65536, Nat.mod_lt _ (by omega), ?_⟩
  rw [← nx_mod, ← e]
/-! ===== Int32 as a set of bits: test, set ===== -/
def nf_M (m : Int32) : Nat := 4294967296 - m.toBitVec.toNat
theorem nf_sh : ∀ l, l < 32 → ((1 : Int32) <<< (nI l &&& 31)).toBitVec = BitVec.twoPow 32 l := by decide +kernel
theorem nf_sl : ∀ l, l < 32 → (((nI l).toUInt32 &&& Int32.toUInt32 31).toBitVec % 32).toNat = l := by decide +kernel
theorem nf_tp : ∀ l, l < 32 → BitVec.twoPow 32 l ≠ 0#32 := by decide +kernel
theorem nf_bit (m : Int32) (l : Nat) (hl : l < 32) : ((m.toUInt32 >>> ((nI l).toUInt32 &&& Int32.toUInt32 31)).toInt32 &&& 1) = 0 ↔ (m &&& ((1 : Int32) <<< (nI l &&& 31))) = 0 := by
  have e : ((m.toUInt32 >>> ((nI l).toUInt32 &&& Int32.toUInt32 31)).toInt32).toBitVec = m.toBitVec >>> l := by
    show m.toBitVec >>> (((nI l).toUInt32 &&& Int32.toUInt32 31).toBitVec % 32) = m.toBitVec >>> l
    rw [BitVec.ushiftRight_eq', nf_sl l hl]
  rw [← Int32.toBitVec_inj, ← Int32.toBitVec_inj, Int32.toBitVec_and, Int32.toBitVec_and, nf_sh l hl, e, BitVec.and_twoPow]
  show (m.toBitVec >>> l &&& 1#32) = 0#32 ↔ _ = 0#32
  rw [BitVec.and_one_eq_setWidth_ofBool_getLsbD, BitVec.getLsbD_ushiftRight, Nat.add_zero]
  cases hb : m.toBitVec.getLsbD l
  · exact ⟨fun _ => by simp, fun _ => by decide⟩
  · exact ⟨fun z => absurd z (by decide), fun z => absurd ((if_pos rfl).symm.trans z) (nf_tp l hl)⟩
theorem nf_gr (m k : Int32) (h : m &&& k = 0) (hk : k ≠ 0) : nf_M (m ||| k) < nf_M m := by
  have hm := m.toBitVec.isLt
  have hm' := (m ||| k).toBitVec.isLt
  have h1 : m.toBitVec.toNat ≤ (m ||| k).toBitVec.toNat := by
    rw [Int32.toBitVec_or, BitVec.toNat_or]
    exact Nat.left_le_or
  have h2 : m.toBitVec.toNat ≠ (m ||| k).toBitVec.toNat := by
    intro e
    have e2 : m = m ||| k := Int32.toBitVec_inj.mp (BitVec.eq_of_toNat_eq e)
    apply hk
    apply Int32.toBitVec_inj.mp
    show k.toBitVec = 0#32
    apply BitVec.eq_of_getLsbD_eq
    intro i hi
    have a : m.toBitVec.getLsbD i = (m.toBitVec.getLsbD i || k.toBitVec.getLsbD i) := by rw [← BitVec.getLsbD_or, ← Int32.toBitVec_or, ← e2]
    have b : (m.toBitVec.getLsbD i && k.toBitVec.getLsbD i) = false := by
      rw [← BitVec.getLsbD_and, ← Int32.toBitVec_and, h]
      exact BitVec.getLsbD_zero
    rw [BitVec.getLsbD_zero]
    revert a b
    cases m.toBitVec.getLsbD i <;> cases k.toBitVec.getLsbD i <;> simp
  unfold nf_M
  omega
/-! ===== a byte read unsigned ===== -/
theorem bp_b (x : Int32) : x.toInt8.toInt32 &&& 255 = x &&& 255 := by
  apply Int32.toBitVec_inj.mp
  rw [Int32.toBitVec_and, Int32.toBitVec_and, Int8.toBitVec_toInt32, Int32.toBitVec_toInt8]
  apply BitVec.eq_of_getLsbD_eq
  intro i hi
  rw [BitVec.getLsbD_and, BitVec.getLsbD_and]
  have hm : ∀ i < 32, 8 ≤ i → (255 : Int32).toBitVec.getLsbD i = false := by decide
  rcases Nat.lt_or_ge i 8 with z | z
  · rw [BitVec.getLsbD_signExtend, BitVec.getLsbD_signExtend, if_pos z, if_pos hi]
    simp only [z, hi, decide_true, Bool.true_and]
  · rw [hm i hi z]; simp
/-! ===== the char cast and 65535 ===== -/
theorem em_w (v : Int32) : ∃ w : Nat, w < 65536 ∧ (v.toUInt32 % 65536).toInt32 = nI w ∧ v &&& 65535 = nI w := by
  have hr := lw_u16_r v
  have h0 : (0 : Int32).toInt = 0 := by decide
  obtain ⟨w, h1, h2⟩ := nI_of (x := lw_u16 v) (by rw [Int32.lt_iff_toInt_lt]; omega)
  have h3 : (v.toUInt32 % 65536).toInt32 = nI w := h2
  rw [h2, nI_toInt h1] at hr
  exact ⟨w, by omega, h3, by rw [← lg_i2c_mask, ← lg_i2c_nf, h3]⟩
/-! ===== Int64 as a set of bits: test, set, clear ===== -/
theorem ts_nf {x : Bool} (h : ¬ x = false) : x = true := by cases x <;> first | rfl | exact absurd rfl h
theorem ts_nt {x : Bool} (h : ¬ x = true) : x = false := by cases x <;> first | rfl | exact absurd rfl h
theorem ts_bit {w : Int64} {s : UInt64} {j : Nat} (hj : j < 64) (hs : s.toNat = j) : ((w.toUInt64 >>> s).toInt64 &&& 1) = 0 ↔ w.toBitVec.getLsbD j = false := by
  have e : (w.toUInt64 >>> s).toInt64.toBitVec = w.toBitVec >>> j := by
    apply BitVec.eq_of_toNat_eq
    show (w.toUInt64 >>> s).toNat = _
    rw [UInt64.toNat_shiftRight, hs, Nat.mod_eq_of_lt hj, BitVec.toNat_ushiftRight]
    rfl
  rw [← Int64.toBitVec_inj, Int64.toBitVec_and, e]
  show w.toBitVec >>> j &&& 1#64 = 0#64 ↔ _
  constructor
  · intro h
    have t := congrArg (fun x => x.getLsbD 0) h
    simpa using t
  · intro h
    apply BitVec.eq_of_getLsbD_eq
    intro i hi
    cases i with
    | zero => simp [h]
    | succ i => simp
theorem ts_or {w m : Int64} {j : Nat} (hj : j < 64) (hm : m.toBitVec = BitVec.twoPow 64 j) : (w ||| m) = w ↔ w.toBitVec.getLsbD j = true := by
  rw [← Int64.toBitVec_inj, Int64.toBitVec_or, hm]
  constructor
  · intro h
    have t := congrArg (fun x => x.getLsbD j) h
    simp only [BitVec.getLsbD_or, BitVec.getLsbD_twoPow] at t
    simpa [hj] using t.symm
  · intro h
    apply BitVec.eq_of_getLsbD_eq
    intro i hi
    rw [BitVec.getLsbD_or, BitVec.getLsbD_twoPow]
    by_cases e : j = i
    · subst e; rw [h, Bool.true_or]
    · simp [e]
theorem ts_and {w m : Int64} {j : Nat} (hj : j < 64) (hm : m.toBitVec = BitVec.twoPow 64 j) : (w &&& (m ^^^ (-1))) = w ↔ w.toBitVec.getLsbD j = false := by
  have ha : (-1 : Int64).toBitVec = BitVec.allOnes 64 := by decide
  rw [← Int64.toBitVec_inj, Int64.toBitVec_and, Int64.toBitVec_xor, hm, ha]
  constructor
  · intro h
    have t := congrArg (fun x => x.getLsbD j) h
    simp only [BitVec.getLsbD_and, BitVec.getLsbD_xor, BitVec.getLsbD_twoPow, BitVec.getLsbD_allOnes] at t
    simpa [hj] using t.symm
  · intro h
    apply BitVec.eq_of_getLsbD_eq
    intro i hi
    rw [BitVec.getLsbD_and, BitVec.getLsbD_xor, BitVec.getLsbD_twoPow, BitVec.getLsbD_allOnes]
    by_cases e : j = i
    · subst e; rw [h, Bool.false_and]
    · simp [e, hi]
/-! ===== lN n to 2^64: shifts, and, or, masks, one bit ===== -/
theorem wb_tb (n : Nat) : (lN n).toBitVec = BitVec.ofNat 64 n := rfl
theorem wb_inj {a b : Int64} (h : a.toBitVec = b.toBitVec) : a = b := Int64.toBitVec_inj.mp h
theorem wb_tn {n : Nat} (h : n < 2 ^ 64) : (lN n).toBitVec.toNat = n := by rw [wb_tb, BitVec.toNat_ofNat, Nat.mod_eq_of_lt h]
theorem wb_of (x : Int64) : ∃ n, n < 2 ^ 64 ∧ x = lN n := ⟨x.toBitVec.toNat, x.toBitVec.isLt, wb_inj (by rw [wb_tb]; simp)⟩
theorem wb_of32 (x : Int32) : ∃ n, n < 2 ^ 32 ∧ x = nI n := ⟨x.toBitVec.toNat, x.toBitVec.isLt, Int32.toBitVec_inj.mp (by show _ = BitVec.ofNat 32 _; simp)⟩
theorem wb_c : ∀ k, k < 64 → ((nI k).toInt64 &&& 63) = lN k := by decide +kernel
theorem wb_cu : ∀ k, k < 64 → ((nI k).toInt64.toUInt64 &&& Int64.toUInt64 63) = UInt64.ofNat k := by decide +kernel
theorem wb_sm : ∀ k, k < 64 → (BitVec.ofNat 64 k).smod 64 = BitVec.ofNat 64 k := by decide +kernel
theorem wb_pw {a b : Nat} (h : a ≤ b) : 2 ^ b = 2 ^ a * 2 ^ (b - a) := by rw [← Nat.pow_add]; congr 1; omega
theorem wb_lt2 {a b : Nat} (h : a < b) : 2 ^ a < 2 ^ b := Nat.pow_lt_pow_right (by decide) h
theorem wb_mod (n : Nat) : lN n = lN (n % 2 ^ 64) := wb_inj (by rw [wb_tb, wb_tb]; apply BitVec.eq_of_toNat_eq; rw [BitVec.toNat_ofNat, BitVec.toNat_ofNat, Nat.mod_mod])
theorem wb_shr {n k : Nat} (hn : n < 2 ^ 64) (hk : k < 64) : ((lN n).toUInt64 >>> ((nI k).toInt64.toUInt64 &&& Int64.toUInt64 63)).toInt64 = lN (n / 2 ^ k) := by
  rw [wb_cu k hk]
  apply wb_inj
  apply BitVec.eq_of_toNat_eq
  show ((lN n).toUInt64 >>> UInt64.ofNat k).toNat = (BitVec.ofNat 64 _).toNat
  have h1 : (UInt64.ofNat k).toNat = k := by
    show (BitVec.ofNat 64 k).toNat = k
    rw [BitVec.toNat_ofNat, Nat.mod_eq_of_lt (by omega)]
  have h2 : (lN n).toUInt64.toNat = n := wb_tn hn
  rw [UInt64.toNat_shiftRight, h1, h2, Nat.mod_eq_of_lt hk, Nat.shiftRight_eq_div_pow, BitVec.toNat_ofNat, Nat.mod_eq_of_lt (Nat.lt_of_le_of_lt (Nat.div_le_self _ _) hn)]
theorem wb_shl (n : Nat) {k : Nat} (hk : k < 64) : lN n <<< ((nI k).toInt64 &&& 63) = lN (n * 2 ^ k) := by
  rw [wb_c k hk]
  apply wb_inj
  rw [Int64.toBitVec_shiftLeft, wb_tb, wb_tb, wb_tb, wb_sm k hk]
  apply BitVec.eq_of_toNat_eq
  rw [BitVec.shiftLeft_eq', BitVec.toNat_shiftLeft, BitVec.toNat_ofNat, BitVec.toNat_ofNat, BitVec.toNat_ofNat, Nat.mod_eq_of_lt (show k < 2 ^ 64 by omega), Nat.shiftLeft_eq, Nat.mul_mod, Nat.mod_mod, ← Nat.mul_mod]
theorem wb_and {a b : Nat} (ha : a < 2 ^ 64) (hb : b < 2 ^ 64) : lN a &&& lN b = lN (a &&& b) := by
  apply wb_inj
  rw [Int64.toBitVec_and, wb_tb, wb_tb, wb_tb]
  apply BitVec.eq_of_toNat_eq
  rw [BitVec.toNat_and, BitVec.toNat_ofNat, BitVec.toNat_ofNat, BitVec.toNat_ofNat, Nat.mod_eq_of_lt ha, Nat.mod_eq_of_lt hb, Nat.mod_eq_of_lt (Nat.and_lt_two_pow _ hb)]
theorem wb_or {a b : Nat} (ha : a < 2 ^ 64) (hb : b < 2 ^ 64) : lN a ||| lN b = lN (a ||| b) := by
  apply wb_inj
  rw [Int64.toBitVec_or, wb_tb, wb_tb, wb_tb]
  apply BitVec.eq_of_toNat_eq
  rw [BitVec.toNat_or, BitVec.toNat_ofNat, BitVec.toNat_ofNat, BitVec.toNat_ofNat, Nat.mod_eq_of_lt ha, Nat.mod_eq_of_lt hb, Nat.mod_eq_of_lt (Nat.or_lt_two_pow ha hb)]
theorem wb_mask {n k : Nat} (hn : n < 2 ^ 64) (hk : k < 64) : lN n &&& lN (2 ^ k - 1) = lN (n % 2 ^ k) := by
  rw [wb_and hn (by have := wb_lt2 hk; omega), Nat.and_two_pow_sub_one_eq_mod]
theorem wb_a1 {n : Nat} (hn : n < 2 ^ 64) : lN n &&& 1 = lN (n % 2) := wb_mask (k := 1) hn (by decide)
theorem wb_bit {n k : Nat} (hn : n < 2 ^ 64) (hk : k < 64) : ((lN n).toUInt64 >>> ((nI k).toInt64.toUInt64 &&& Int64.toUInt64 63)).toInt64 &&& 1 = lN (n / 2 ^ k % 2) := by
  rw [wb_shr hn hk, wb_a1 (Nat.lt_of_le_of_lt (Nat.div_le_self _ _) hn)]
theorem wb_xor {q k : Nat} (hk : k < 63) (h : 2 ^ k ≤ q) (h2 : q < 2 ^ (k + 1)) : lN q ^^^ lN (2 ^ k) = lN (q - 2 ^ k) := by
  obtain ⟨r, rfl⟩ : ∃ r, q = 2 ^ k + r := ⟨q - 2 ^ k, by omega⟩
  have hr : r < 2 ^ k := by rw [Nat.pow_succ] at h2; omega
  have hx : (2 ^ k + r) ^^^ 2 ^ k = r := by
    apply Nat.eq_of_testBit_eq
    intro i
    rw [Nat.testBit_xor, Nat.testBit_two_pow]
    rcases Nat.lt_trichotomy i k with h | h | h
    · rw [Nat.testBit_two_pow_add_gt h]
      simp [show ¬ k = i by omega]
    · subst h
      rw [Nat.testBit_two_pow_add_eq]
      simp
    · have a1 : 2 ^ (k + 1) ≤ 2 ^ i := Nat.pow_le_pow_right (by decide) h
      rw [Nat.testBit_lt_two_pow (show 2 ^ k + r < 2 ^ i by omega), Nat.testBit_lt_two_pow (show r < 2 ^ i by omega)]
      simp [show ¬ k = i by omega]
  have b1 := wb_lt2 (show k + 1 < 64 by omega)
  have b2 := wb_lt2 (show k < 64 by omega)
  apply wb_inj
  rw [Int64.toBitVec_xor, wb_tb, wb_tb, wb_tb]
  apply BitVec.eq_of_toNat_eq
  rw [BitVec.toNat_xor, BitVec.toNat_ofNat, BitVec.toNat_ofNat, BitVec.toNat_ofNat, Nat.mod_eq_of_lt (by omega : 2 ^ k + r < 2 ^ 64), Nat.mod_eq_of_lt b2, hx, Nat.add_sub_cancel_left, Nat.mod_eq_of_lt (by omega)]
/-! ===== lN: masks, 'or' of parts that don't overlap is a sum ===== -/
theorem u_tn {n : Nat} (h : n < 2 ^ 64) : (UInt64.ofNat n).toNat = n := Nat.mod_eq_of_lt h
theorem g_and {a b c : Nat} (ha : a < 2 ^ 64) (hb : b < 2 ^ 64) (hc : a &&& b = c) : lN a &&& lN b = lN c := by
  subst hc
  have h : UInt64.ofNat a &&& UInt64.ofNat b = UInt64.ofNat (a &&& b) := UInt64.toNat_inj.mp (by rw [UInt64.toNat_and, u_tn ha, u_tn hb, u_tn (Nat.and_lt_two_pow a hb)])
  have h2 := congrArg UInt64.toInt64 h
  exact h2
theorem g_and1 {a : Nat} (ha : a < 2 ^ 64) : lN a &&& 1 = lN (a % 2) := g_and (b := 1) ha (by decide) (Nat.and_two_pow_sub_one_eq_mod a 1)
theorem g_mask {a s p : Nat} (hp : 2 ^ s = p) (hs : s < 64) (ha : a < 2 ^ 64) : lN a &&& lN (p - 1) = lN (a % p) := by
  subst hp
  have := Nat.pow_lt_pow_right (show 1 < 2 by decide) hs
  exact g_and ha (by omega) (Nat.and_two_pow_sub_one_eq_mod a s)
theorem g_or {k p a b : Nat} (hp : 2 ^ k = p) (ha : a < p) (h : b * p + a < 2 ^ 64) : lN (b * p) ||| lN a = lN (b * p + a) := by
  subst hp
  have h1 : b * 2 ^ k ||| a = b * 2 ^ k + a := by rw [← Nat.shiftLeft_eq, Nat.shiftLeft_add_eq_or_of_lt ha]
  have h3 : UInt64.ofNat (b * 2 ^ k) ||| UInt64.ofNat a = UInt64.ofNat (b * 2 ^ k + a) := UInt64.toNat_inj.mp (by rw [UInt64.toNat_or, u_tn (by omega), u_tn (by omega), u_tn h, h1])
  have h2 := congrArg UInt64.toInt64 h3
  exact h2
theorem g_or' {k p a b : Nat} (hp : 2 ^ k = p) (ha : a < p) (h : a + b * p < 2 ^ 64) : lN a ||| lN (b * p) = lN (a + b * p) := by
  rw [Int64.or_comm, g_or hp ha (by omega), Nat.add_comm]
theorem g_ushr {a k p : Nat} {y : UInt64} (hy : y = UInt64.ofNat k) (hk : k < 64) (hp : 2 ^ k = p) (ha : a < 2 ^ 64) : ((lN a).toUInt64 >>> y).toInt64 = lN (a / p) := by
  subst hy hp
  have h : UInt64.ofNat a >>> UInt64.ofNat k = UInt64.ofNat (a / 2 ^ k) := UInt64.toNat_inj.mp (by rw [UInt64.toNat_shiftRight, u_tn ha, u_tn (by omega), u_tn (Nat.lt_of_le_of_lt (Nat.div_le_self _ _) ha), Nat.mod_eq_of_lt hk, Nat.shiftRight_eq_div_pow])
  have h2 := congrArg UInt64.toInt64 h
  exact h2
theorem g_shl {a k p : Nat} {y : Int64} (hy : y.toBitVec.smod 64 = BitVec.ofNat 64 k) (hk : k < 64) (hp : 2 ^ k = p) (ha : a < 2 ^ 64) : lN a <<< y = lN (a * p) := by
  subst hp
  apply Int64.toBitVec_inj.mp
  rw [Int64.toBitVec_shiftLeft, hy]
  apply BitVec.eq_of_toNat_eq
  have hb : (lN a).toBitVec.toNat = a := Nat.mod_eq_of_lt ha
  have hk' : (BitVec.ofNat 64 k).toNat = k := Nat.mod_eq_of_lt (by omega)
  have h : ((lN a).toBitVec <<< BitVec.ofNat 64 k).toNat = (a * 2 ^ k) % 2 ^ 64 := by simp only [BitVec.shiftLeft_eq', BitVec.toNat_shiftLeft, hb, hk', Nat.shiftLeft_eq]
  exact h
/-! ===== lN to 2^62 under >> and >>> ===== -/
theorem pf_lI {a : Nat} (h : a < 2 ^ 63) : (lN a).toInt = (a : Int) := lg_ofNat_toInt h
theorem pf_shr {a d : Nat} {D : Int64} (hD : (D.toBitVec.smod 64).toNat = d) (h : a < 2 ^ 62) : lN a >>> D = lN (a / 2 ^ d) := by
  have hd : a / 2 ^ d ≤ a := Nat.div_le_self _ _
  apply Int64.toInt_inj.mp
  have e : (lN a >>> D).toInt = (lN a).toInt >>> d := by
    rw [← hD]
    exact BitVec.toInt_sshiftRight ..
  rw [e, Int.shiftRight_eq_div_pow, pf_lI (by omega), pf_lI (by omega)]
  rfl
theorem pf_ushr {a d : Nat} {D : UInt64} (hD : D.toNat % 64 = d) (h : a < 2 ^ 62) : ((lN a).toUInt64 >>> D).toInt64 = lN (a / 2 ^ d) := by
  have hd : a / 2 ^ d ≤ a := Nat.div_le_self _ _
  have e : (lN a).toUInt64 >>> D = UInt64.ofNat (a / 2 ^ d) := UInt64.toNat_inj.mp (by
    rw [UInt64.toNat_shiftRight, hD, Nat.shiftRight_eq_div_pow, UInt64.toNat_ofNat']
    show (UInt64.ofNat a).toNat / 2 ^ d = _
    rw [UInt64.toNat_ofNat', Nat.mod_eq_of_lt (by omega), Nat.mod_eq_of_lt (by omega)])
  rw [e]
  rfl
theorem pf_andw (x : Int64) : ∃ m, m < 2 ^ 32 ∧ x &&& 4294967295 = lN m := ⟨x.toBitVec.toNat % 2 ^ 32, Nat.mod_lt _ (by decide), Int64.toBitVec_inj.mp (BitVec.eq_of_toNat_eq (by
  show (x.toBitVec &&& 4294967295#64).toNat = (BitVec.ofNat 64 (x.toBitVec.toNat % 2 ^ 32)).toNat
  rw [BitVec.toNat_and, show (4294967295#64).toNat = 2 ^ 32 - 1 from by decide, Nat.and_two_pow_sub_one_eq_mod, BitVec.toNat_ofNat]
  omega))⟩
/-! ===== Int64 as an unsigned number: uN x ===== -/
def uN (x : Int64) : Nat := x.toUInt64.toNat
theorem uN_lt (x : Int64) : uN x < 18446744073709551616 := x.toUInt64.toNat_lt
theorem uN_inj {x y : Int64} (h : uN x = uN y) : x = y := congrArg UInt64.toInt64 (UInt64.toNat_inj.mp h)
theorem uN_add (x y : Int64) : uN (x + y) = (uN x + uN y) % 18446744073709551616 := by
  show (x.toUInt64 + y.toUInt64).toNat = _
  exact UInt64.toNat_add _ _
theorem uN_mul (x y : Int64) : uN (x * y) = (uN x * uN y) % 18446744073709551616 := by
  show (x.toUInt64 * y.toUInt64).toNat = _
  exact UInt64.toNat_mul _ _
theorem uN_shl (x : Int64) : uN (x <<< ((1 : Int32).toInt64 &&& 63)) = (2 * uN x) % 18446744073709551616 := by
  have h : (((1 : Int32).toInt64 &&& 63).toBitVec.smod 64).toNat = 1 := by decide
  show (x.toBitVec <<< (((1 : Int32).toInt64 &&& 63).toBitVec.smod 64).toNat).toNat = _
  rw [h, BitVec.toNat_shiftLeft, Nat.shiftLeft_eq, Nat.mul_comm]
  rfl
theorem uN_shr (x : Int64) (s : UInt64) : uN (x.toUInt64 >>> s).toInt64 = uN x / 2 ^ (s.toNat % 64) := by
  show (x.toUInt64 >>> s).toNat = _
  rw [UInt64.toNat_shiftRight, Nat.shiftRight_eq_div_pow]
  rfl
theorem uN_s32 (x : Int64) : uN (x.toUInt64 >>> ((32 : Int32).toInt64.toUInt64 &&& Int64.toUInt64 63)).toInt64 = uN x / 4294967296 := by
  have h : ((32 : Int32).toInt64.toUInt64 &&& Int64.toUInt64 63).toNat % 64 = 32 := by decide
  rw [uN_shr, h]
theorem uN_s63 (x : Int64) : uN (x.toUInt64 >>> ((63 : Int32).toInt64.toUInt64 &&& Int64.toUInt64 63)).toInt64 = uN x / 9223372036854775808 := by
  have h : ((63 : Int32).toInt64.toUInt64 &&& Int64.toUInt64 63).toNat % 64 = 63 := by decide
  rw [uN_shr, h]
theorem uN_lo (x : Int64) : uN (x &&& 4294967295) = uN x % 4294967296 := by
  show (x.toUInt64 &&& Int64.toUInt64 4294967295).toNat = _
  rw [UInt64.toNat_and]
  exact Nat.and_two_pow_sub_one_eq_mod _ 32
theorem uN_bit (x : Int64) : (x &&& 1) = 0 ↔ uN x % 2 = 0 := by
  have h : uN (x &&& 1) = uN x % 2 := by
    show (x.toUInt64 &&& Int64.toUInt64 1).toNat = _
    rw [UInt64.toNat_and]
    exact Nat.and_two_pow_sub_one_eq_mod _ 1
  rw [← h]
  exact ⟨fun z => by rw [z]; rfl, fun z => uN_inj (z.trans rfl)⟩
theorem uN_or {x y : Int64} (hy : uN y < 2) : uN ((x <<< ((1 : Int32).toInt64 &&& 63)) ||| y) = (2 * uN x) % 18446744073709551616 + uN y := by
  have h1 : uN ((x <<< ((1 : Int32).toInt64 &&& 63)) ||| y) = uN (x <<< ((1 : Int32).toInt64 &&& 63)) ||| uN y := UInt64.toNat_or _ _
  have h2 : (2 * uN x) % 18446744073709551616 = 2 ^ 1 * (uN x % 9223372036854775808) := by omega
  rw [h1, uN_shl, h2]
  exact (Nat.two_pow_add_eq_or_of_lt (i := 1) hy _).symm
theorem nat_xor {a : Nat} (h : a < 18446744073709551616) : a ^^^ 2 ^ 63 = (a + 9223372036854775808) % 18446744073709551616 := by
  have h1 : (a ^^^ 2 ^ 63) % 2 ^ 63 = a % 2 ^ 63 := by rw [Nat.xor_mod_two_pow, Nat.mod_self, Nat.xor_zero]
  have h2 : (a ^^^ 2 ^ 63) / 2 ^ 63 = (a / 2 ^ 63) ^^^ 1 := by rw [Nat.xor_div_two_pow, Nat.div_self (Nat.two_pow_pos 63)]
  have h3 : a / 2 ^ 63 = 0 ∨ a / 2 ^ 63 = 1 := by omega
  generalize a ^^^ 2 ^ 63 = t at h1 h2
  rcases h3 with h3 | h3
  · rw [h3] at h2
    have h2 : t / 2 ^ 63 = 1 := h2
    omega
  · rw [h3] at h2
    have h2 : t / 2 ^ 63 = 0 := h2
    omega
theorem uN_xor (x : Int64) : uN (x ^^^ (-9223372036854775808)) = (uN x + 9223372036854775808) % 18446744073709551616 := by
  rw [← nat_xor (uN_lt x)]
  exact UInt64.toNat_xor _ _
theorem uN_int (x : Int64) : x.toInt = if 2 * uN x < 18446744073709551616 then (uN x : Int) else (uN x : Int) - 18446744073709551616 := BitVec.toInt_eq_toNat_cond _
theorem uN_le (x y : Int64) : (x ^^^ (-9223372036854775808)) ≤ (y ^^^ (-9223372036854775808)) ↔ uN x ≤ uN y := by
  have hx := uN_lt x
  have hy := uN_lt y
  rw [Int64.le_iff_toInt_le, uN_int, uN_int, uN_xor, uN_xor]
  omega
theorem uN_sk (x : Int64) {k : Nat} (hk : k < 64) : uN (x.toUInt64 >>> ((nI k).toInt64.toUInt64 &&& Int64.toUInt64 63)).toInt64 = uN x / 2 ^ k := by
  have h : ((nI k).toInt64.toUInt64 &&& Int64.toUInt64 63).toNat % 64 = k := by
    rw [nI_l (by omega), UInt64.toNat_and]
    have e : (lN k).toUInt64.toNat = k % 2 ^ 64 := rfl
    have e2 : (Int64.toUInt64 63).toNat = 2 ^ 6 - 1 := by decide
    rw [e, e2, Nat.and_two_pow_sub_one_eq_mod]
    omega
  rw [uN_shr, h]
/-! ===== unsigned comparison by xor with the least ===== -/
theorem lN_bv (n : Nat) : (lN n).toBitVec = BitVec.ofNat 64 n := rfl
theorem lN_nat {n : Nat} (h : n < 2 ^ 64) : (lN n).toBitVec.toNat = n := by rw [lN_bv, BitVec.toNat_ofNat]; exact Nat.mod_eq_of_lt h
theorem lN_xor (a b : Nat) : lN a ^^^ lN b = lN (a ^^^ b) := by
  apply Int64.toBitVec_inj.mp; rw [Int64.toBitVec_xor, lN_bv, lN_bv, lN_bv]; apply BitVec.eq_of_getLsbD_eq; intro i hi; simp [BitVec.getLsbD_ofNat, Nat.testBit_xor, hi]
theorem lN_ti {m : Nat} (h : m < 2 ^ 64) : (lN m).toInt = if m < 2 ^ 63 then (m : Int) else (m : Int) - 2 ^ 64 := by
  have c := BitVec.toInt_eq_toNat_cond (lN m).toBitVec
  rw [lN_nat h] at c
  show (lN m).toBitVec.toInt = _
  rw [c]
  split <;> split <;> omega
theorem xor63 {x : Nat} (h : x < 2 ^ 63) : x ^^^ 2 ^ 63 = 2 ^ 63 + x := by
  apply Nat.eq_of_testBit_eq
  intro i
  rw [Nat.testBit_xor, Nat.testBit_two_pow]
  rcases Nat.lt_trichotomy i 63 with z | z | z
  · rw [Nat.testBit_two_pow_add_gt z, decide_eq_false (by omega)]; simp
  · subst z; rw [Nat.testBit_two_pow_add_eq]; simp
  · have hp : 2 ^ 64 ≤ 2 ^ i := Nat.pow_le_pow_right (by decide) z
    rw [Nat.testBit_lt_two_pow (show x < 2 ^ i by omega), Nat.testBit_lt_two_pow (show 2 ^ 63 + x < 2 ^ i by omega), decide_eq_false (by omega)]; rfl
theorem xorS {a : Nat} (h : a < 2 ^ 64) : (lN a ^^^ (-9223372036854775808)).toInt = (a : Int) - 2 ^ 63 := by
  rw [show (-9223372036854775808 : Int64) = lN (2 ^ 63) from by decide +kernel, lN_xor]
  rcases Nat.lt_or_ge a (2 ^ 63) with z | z
  · rw [xor63 z, lN_ti (by omega), if_neg (by omega)]; omega
  · obtain ⟨x, rfl⟩ : ∃ x, a = 2 ^ 63 + x := ⟨a - 2 ^ 63, by omega⟩
    rw [← xor63 (by omega), Nat.xor_assoc, Nat.xor_self, Nat.xor_zero, lN_ti (by omega), if_pos (by omega), xor63 (by omega)]; omega
theorem ultL {a b : Nat} (ha : a < 2 ^ 64) (hb : b < 2 ^ 64) : ((lN b ^^^ (-9223372036854775808)) ≤ (lN a ^^^ (-9223372036854775808))) ↔ b ≤ a := by
  rw [Int64.le_iff_toInt_le, xorS ha, xorS hb]; omega
/-! ===== Int64 masks of n low bits ===== -/
theorem cr_bits (W U M : BitVec 64) : ((W &&& U) &&& (U &&& (M ^^^ BitVec.allOnes 64))) = 0#64 ↔ (W &&& U) &&& M = W &&& U := by
  constructor
  · intro h
    apply BitVec.eq_of_getLsbD_eq
    intro i hi
    have e := congrArg (fun x => BitVec.getLsbD x i) h
    simp only [BitVec.getLsbD_and, BitVec.getLsbD_xor, BitVec.getLsbD_allOnes, BitVec.getLsbD_zero, hi, decide_true] at e ⊢
    revert e
    cases W.getLsbD i <;> cases U.getLsbD i <;> cases M.getLsbD i <;> decide
  · intro h
    apply BitVec.eq_of_getLsbD_eq
    intro i hi
    have e := congrArg (fun x => BitVec.getLsbD x i) h
    simp only [BitVec.getLsbD_and, BitVec.getLsbD_xor, BitVec.getLsbD_allOnes, BitVec.getLsbD_zero, hi, decide_true] at e ⊢
    revert e
    cases W.getLsbD i <;> cases U.getLsbD i <;> cases M.getLsbD i <;> decide
theorem cr_mask (w U m : Int64) (n : Nat) (hm : m.toBitVec.toNat = 2 ^ n - 1) : ((w &&& U) &&& (U &&& (m ^^^ (-1)))) = 0 ↔ (w &&& U).toBitVec.toNat < 2 ^ n := by
  have e0 : (-1 : Int64).toBitVec = BitVec.allOnes 64 := by decide
  have z0 : (0 : Int64).toBitVec = 0#64 := by decide
  rw [← Int64.toBitVec_inj, z0, Int64.toBitVec_and, Int64.toBitVec_and, Int64.toBitVec_and, Int64.toBitVec_xor, e0, cr_bits]
  generalize w.toBitVec &&& U.toBitVec = T
  rw [← BitVec.toNat_inj, BitVec.toNat_and, hm, Nat.and_two_pow_sub_one_eq_mod]
  constructor
  · intro h
    have t := Nat.mod_lt T.toNat (Nat.two_pow_pos n)
    rw [h] at t
    exact t
  · exact Nat.mod_eq_of_lt
theorem cr_shr (t : Int64) (x : UInt64) (n : Nat) (hx : x.toNat % 64 = n) : (t.toUInt64 >>> x).toInt64 = 0 ↔ t.toBitVec.toNat < 2 ^ n := by
  rw [← Int64.toBitVec_inj, ← BitVec.toNat_inj]
  show (t.toUInt64 >>> x).toNat = 0 ↔ t.toUInt64.toNat < 2 ^ n
  rw [UInt64.toNat_shiftRight, hx, Nat.shiftRight_eq_div_pow]
  constructor
  · intro h
    have d : t.toUInt64.toNat / 2 ^ n < 1 := by
      rw [h]
      decide
    have e := (Nat.div_lt_iff_lt_mul (Nat.two_pow_pos n)).mp d
    rw [Nat.one_mul] at e
    exact e
  · exact Nat.div_eq_of_lt
theorem cr_amt (s : Int64) : ∃ n, n < 64 ∧ s &&& 63 = lN n ∧ (s.toUInt64 &&& Int64.toUInt64 63).toNat % 64 = n := by
  have e : (s.toUInt64 &&& Int64.toUInt64 63).toNat = s.toUInt64.toNat % 2 ^ 6 := by
    rw [UInt64.toNat_and, show (Int64.toUInt64 63).toNat = 2 ^ 6 - 1 from by decide, Nat.and_two_pow_sub_one_eq_mod]
  refine ⟨s.toUInt64.toNat % 2 ^ 6, by omega, ?_, by omega⟩
  rw [← Int64.toBitVec_inj, ← BitVec.toNat_inj]
  show (s.toUInt64 &&& Int64.toUInt64 63).toNat = (BitVec.ofNat 64 (s.toUInt64.toNat % 2 ^ 6)).toNat
  rw [e, BitVec.toNat_ofNat]
  omega
end
section
/-! the tables of types, as naturals: n, kind, detail, parts, fallback; of a part: name, type, alias, has, default -/
abbrev sg_T : Type := Nat × (Nat → Nat) × (Nat → Nat) × (Nat → Nat) × (Nat → Int32) × (Nat → Nat) × (Nat → Nat) × (Nat → Int32) × (Nat → Int32) × (Nat → Int32)
def sg_n (g : sg_T) : Nat := g.1
def sg_k (g : sg_T) : Nat → Nat := g.2.1
def sg_d (g : sg_T) : Nat → Nat := g.2.2.1
def sg_p (g : sg_T) : Nat → Nat := g.2.2.2.1
def sg_f (g : sg_T) : Nat → Int32 := g.2.2.2.2.1
def sg_m (g : sg_T) : Nat → Nat := g.2.2.2.2.2.1
def sg_t (g : sg_T) : Nat → Nat := g.2.2.2.2.2.2.1
def sg_a (g : sg_T) : Nat → Int32 := g.2.2.2.2.2.2.2.1
def sg_h (g : sg_T) : Nat → Int32 := g.2.2.2.2.2.2.2.2.1
def sg_v (g : sg_T) : Nat → Int32 := g.2.2.2.2.2.2.2.2.2

/-- a name or none -/
def sg_nam (x : Int32) : Prop := x = -1 ∨ ∃ a : Nat, a < 16 ∧ x = nI a

def sg_ok (g : sg_T) : Prop :=
  sg_n g ≤ 20 ∧ (∀ t, sg_k g t ≤ 9) ∧ (∀ t, sg_p g t ≤ 5) ∧ (∀ t, sg_n g ≤ t → sg_p g t = 0) ∧
  (∀ t, t < sg_n g → sg_k g t = 6 → sg_d g t ≤ 8) ∧ (∀ t, t < sg_n g → sg_k g t = 7 → sg_d g t < sg_n g) ∧
  (∀ t j, t < sg_n g → j < sg_p g t → sg_k g t ≠ 8 → sg_m g (5 * t + j) < 16) ∧
  (∀ t j, t < sg_n g → j < sg_p g t → sg_k g t ≠ 5 → sg_t g (5 * t + j) < sg_n g) ∧
  (∀ t j, t < sg_n g → j < sg_p g t → sg_k g t = 8 → sg_k g (sg_t g (5 * t + j)) ≠ 8) ∧
  (∀ t j, t < sg_n g → j < sg_p g t → sg_k g t = 9 → sg_nam (sg_a g (5 * t + j))) ∧
  (∀ t, t < sg_n g → sg_nam (sg_f g t)) ∧ (∀ t, t < sg_n g → sg_k g t ≠ 5 → sg_f g t = -1) ∧
  (∀ t, t < sg_n g → sg_k g t ≠ 5 → sg_k g t ≠ 8 → sg_k g t ≠ 9 → sg_p g t = 0) ∧
  (∀ i, sg_h g i = 0 ∨ sg_h g i = 1)

/-- the class's tables hold g -/
def sg_X (g : sg_T) (aD aN aT aA aH aV : Nat → Int32) : Prop :=
  (∀ t, t < sg_n g → sg_k g t = 6 ∨ sg_k g t = 7 → aD t = nI (sg_d g t)) ∧
  (∀ t j, t < sg_n g → j < sg_p g t → sg_k g t ≠ 8 → aN (5 * t + j) = nI (sg_m g (5 * t + j))) ∧
  (∀ t j, t < sg_n g → j < sg_p g t → sg_k g t ≠ 5 → aT (5 * t + j) = nI (sg_t g (5 * t + j))) ∧
  (∀ t j, t < sg_n g → j < sg_p g t → sg_k g t = 9 → aA (5 * t + j) = sg_a g (5 * t + j) ∧ aH (5 * t + j) = sg_h g (5 * t + j) ∧ aV (5 * t + j) = sg_v g (5 * t + j)) ∧
  (∀ t j, t < sg_n g → j < sg_p g t → sg_k g t = 8 → aN (5 * t + j) = -1) ∧
  (∀ t j, t < sg_n g → j < sg_p g t → sg_k g t ≠ 9 → aA (5 * t + j) = -1 ∧ aH (5 * t + j) = 0) ∧
  (∀ i, aH i = 0 ∨ aH i = 1)

/-- the reference's tables hold g -/
def sg_Y (g : sg_T) (aD aN aT aA aH aV : Nat → Int32) : Prop :=
  (∀ t, t < sg_n g → sg_k g t = 6 ∨ sg_k g t = 7 → aD t = nI (sg_d g t)) ∧
  (∀ t j, t < sg_n g → j < sg_p g t → sg_k g t ≠ 8 → aN (5 * t + j) = nI (sg_m g (5 * t + j))) ∧
  (∀ t j, t < sg_n g → j < sg_p g t → sg_k g t ≠ 5 → aT (5 * t + j) = nI (sg_t g (5 * t + j))) ∧
  (∀ t j, t < sg_n g → j < sg_p g t → sg_k g t = 9 → aA (5 * t + j) = sg_a g (5 * t + j) ∧ aH (5 * t + j) = sg_h g (5 * t + j) ∧ aV (5 * t + j) = sg_v g (5 * t + j)) ∧
  (∀ i, aH i = 0 ∨ aH i = 1)

/-- the first k of m ones at or behind i with p -/
def sd_ff (p : Nat → Bool) : Nat → Nat → Option Nat
  | 0, _ => none
  | m + 1, i => if p i then some i else sd_ff p m (i + 1)
def sd_oi : Option Nat → Int32
  | none => -1
  | some k => nI k
theorem sd_ff_some {p : Nat → Bool} : ∀ {m i k : Nat}, sd_ff p m i = some k → i ≤ k ∧ k < i + m ∧ p k = true := by
  intro m
  induction m with
  | zero => intro i k h; cases h
  | succ m ih =>
    intro i k h
    rw [sd_ff] at h
    by_cases hp : p i = true
    · rw [if_pos hp] at h
      cases h
      exact ⟨Nat.le_refl _, by omega, hp⟩
    · rw [if_neg hp] at h
      have ⟨a, b, c⟩ := ih h
      exact ⟨by omega, by omega, c⟩
theorem sd_ff_none {p : Nat → Bool} : ∀ {m i : Nat}, sd_ff p m i = none → ∀ k, i ≤ k → k < i + m → p k = false := by
  intro m
  induction m with
  | zero => intro i h k h1 h2; omega
  | succ m ih =>
    intro i h k h1 h2
    rw [sd_ff] at h
    by_cases hp : p i = true
    · rw [if_pos hp] at h
      cases h
    · rw [if_neg hp] at h
      by_cases e : k = i
      · subst e; exact Bool.eq_false_iff.mpr hp
      · exact ih h k (by omega) (by omega)
theorem sd_ff_yes {p : Nat → Bool} {m i : Nat} (h : p i = true) : sd_ff p (m + 1) i = some i := by
  rw [sd_ff, if_pos h]
theorem sd_ff_no {p : Nat → Bool} {m i : Nat} (h : ¬ p i = true) : sd_ff p (m + 1) i = sd_ff p m (i + 1) := by
  rw [sd_ff, if_neg h]
theorem sd_oi_none {o : Option Nat} (h : ∀ k, o = some k → k < 100) : sd_oi o = -1 ↔ o = none := by
  cases o with
  | none => exact ⟨fun _ => rfl, fun _ => rfl⟩
  | some k =>
    refine ⟨fun e => ?_, fun e => by cases e⟩
    have h1 := h k rfl
    have h2 : ¬ nI k < 0 := nI_pos (by omega)
    rw [show nI k = -1 from e] at h2
    exact absurd (by decide) h2

/-- the part of t that has that name -/
def sg_find (g : sg_T) (t : Nat) (x : Int32) : Option Nat := sd_ff (fun k => decide (nI (sg_m g (5 * t + k)) = x)) (sg_p g t) 0
def sg_su (g : sg_T) (w r : Nat) : Bool := decide ((sg_k g w = sg_k g r ∧ (sg_k g w = 6 → sg_d g w = sg_d g r)) ∨ (sg_k g w = 2 ∧ sg_k g r = 3))
def sg_br (g : sg_T) (w r : Nat) : Option Nat := sd_ff (fun k => sg_su g w (sg_t g (5 * r + k))) (sg_p g r) 0
def sg_ff (g : sg_T) (w i : Nat) : Option Nat := if sg_find g w (nI (sg_m g i)) = none then (if sg_a g i = -1 then none else sg_find g w (sg_a g i)) else sg_find g w (nI (sg_m g i))
theorem sg_find_lt {g : sg_T} {t : Nat} {x : Int32} {k : Nat} (h : sg_find g t x = some k) : k < sg_p g t := by
  have h2 := sd_ff_some h
  omega
theorem sg_br_lt {g : sg_T} {w r k : Nat} (h : sg_br g w r = some k) : k < sg_p g r ∧ sg_su g w (sg_t g (5 * r + k)) = true := by
  have h2 := sd_ff_some h
  exact ⟨by omega, h2.2.2⟩
theorem sg_ff_lt {g : sg_T} {w i k : Nat} (h : sg_ff g w i = some k) : k < sg_p g w := by
  unfold sg_ff at h
  by_cases e : sg_find g w (nI (sg_m g i)) = none
  · rw [if_pos e] at h
    by_cases e2 : sg_a g i = -1
    · rw [if_pos e2] at h; cases h
    · rw [if_neg e2] at h; exact sg_find_lt h
  · rw [if_neg e] at h; exact sg_find_lt h

/-! how many cells are not 0 -/
def sd_cn (f : Nat → Int32) : Nat → Nat
  | 0 => 0
  | m + 1 => sd_cn f m + (if f m = 0 then 0 else 1)
theorem sd_cn_le (f : Nat → Int32) : ∀ m, sd_cn f m ≤ m := by
  intro m
  induction m with
  | zero => exact Nat.le_refl _
  | succ m ih => rw [sd_cn]; split <;> omega
theorem sd_cn_lt {f : Nat → Int32} : ∀ {m i : Nat}, i < m → f i = 0 → sd_cn f m < m := by
  intro m
  induction m with
  | zero => intro i h; omega
  | succ m ih =>
    intro i h h0
    have h1 := sd_cn_le f m
    rw [sd_cn]
    by_cases e : i = m
    · subst e; rw [if_pos h0]; omega
    · have := ih (by omega) h0
      split <;> omega
theorem sd_cn_same {f h : Nat → Int32} : ∀ {m : Nat}, (∀ i, i < m → f i = h i) → sd_cn f m = sd_cn h m := by
  intro m
  induction m with
  | zero => intro _; rfl
  | succ m ih => intro e; rw [sd_cn, sd_cn, ih (fun i hi => e i (by omega)), e m (by omega)]
theorem sd_cn_up {f : Nat → Int32} {x : Int32} (hx : ¬ x = 0) : ∀ {m i : Nat}, i < m → f i = 0 → sd_cn (upd f i x) m = sd_cn f m + 1 := by
  intro m
  induction m with
  | zero => intro i h; omega
  | succ m ih =>
    intro i h h0
    rw [sd_cn, sd_cn]
    by_cases e : i = m
    · subst e
      rw [sd_cn_same (h := f) (fun j hj => pk_un (by omega)), pk_us, if_neg hx, if_pos h0]
    · rw [ih (by omega) h0, pk_un (fun z => e z.symm)]
      omega
theorem sd_cn_down {f : Nat → Int32} : ∀ {m i : Nat}, i < m → ¬ f i = 0 → sd_cn (upd f i 0) m + 1 = sd_cn f m := by
  intro m
  induction m with
  | zero => intro i h; omega
  | succ m ih =>
    intro i h h0
    rw [sd_cn, sd_cn]
    by_cases e : i = m
    · subst e
      rw [sd_cn_same (h := f) (fun j hj => pk_un (by omega)), pk_us, if_neg h0, if_pos rfl]
    · have := ih (i := i) (by omega) h0
      rw [pk_un (fun z => e z.symm)]
      omega
theorem sd_cn_0 {f : Nat → Int32} : ∀ {m : Nat}, (∀ i, i < m → f i = 0) → sd_cn f m = 0 := by
  intro m
  induction m with
  | zero => intro _; rfl
  | succ m ih => intro e; rw [sd_cn, ih (fun i hi => e i (by omega)), if_pos (e m (by omega))]
end
section
/-! literals against nI (written by wip/whole/lits.py) -/
theorem li_n0 : (nI 0) = 0 := rfl
theorem li_e0 {a : Nat} (h : a < 2 ^ 31) : nI a = 0 ↔ a = 0 := nI_eq (b := 0) h (by decide)
theorem li_f0 {a : Nat} (h : a < 2 ^ 31) : (0 : Int32) = nI a ↔ a = 0 := by rw [eq_comm]; exact li_e0 h
theorem li_l0 {a : Nat} (h : a < 2 ^ 31) : nI a < 0 ↔ a < 0 := nI_ltI (b := 0) h (by decide)
theorem li_g0 {a : Nat} (h : a < 2 ^ 31) : (0 : Int32) < nI a ↔ 0 < a := nI_ltI (a := 0) (by decide) h
theorem li_m0 {a : Nat} (h : a < 2 ^ 31) : nI a ≤ 0 ↔ a ≤ 0 := nI_leI (b := 0) h (by decide)
theorem li_h0 {a : Nat} (h : a < 2 ^ 31) : (0 : Int32) ≤ nI a ↔ 0 ≤ a := nI_leI (a := 0) (by decide) h
theorem li_n1 : (nI 1) = 1 := rfl
theorem li_e1 {a : Nat} (h : a < 2 ^ 31) : nI a = 1 ↔ a = 1 := nI_eq (b := 1) h (by decide)
theorem li_f1 {a : Nat} (h : a < 2 ^ 31) : (1 : Int32) = nI a ↔ a = 1 := by rw [eq_comm]; exact li_e1 h
theorem li_l1 {a : Nat} (h : a < 2 ^ 31) : nI a < 1 ↔ a < 1 := nI_ltI (b := 1) h (by decide)
theorem li_g1 {a : Nat} (h : a < 2 ^ 31) : (1 : Int32) < nI a ↔ 1 < a := nI_ltI (a := 1) (by decide) h
theorem li_m1 {a : Nat} (h : a < 2 ^ 31) : nI a ≤ 1 ↔ a ≤ 1 := nI_leI (b := 1) h (by decide)
theorem li_h1 {a : Nat} (h : a < 2 ^ 31) : (1 : Int32) ≤ nI a ↔ 1 ≤ a := nI_leI (a := 1) (by decide) h
theorem li_n2 : (nI 2) = 2 := rfl
theorem li_e2 {a : Nat} (h : a < 2 ^ 31) : nI a = 2 ↔ a = 2 := nI_eq (b := 2) h (by decide)
theorem li_f2 {a : Nat} (h : a < 2 ^ 31) : (2 : Int32) = nI a ↔ a = 2 := by rw [eq_comm]; exact li_e2 h
theorem li_l2 {a : Nat} (h : a < 2 ^ 31) : nI a < 2 ↔ a < 2 := nI_ltI (b := 2) h (by decide)
theorem li_g2 {a : Nat} (h : a < 2 ^ 31) : (2 : Int32) < nI a ↔ 2 < a := nI_ltI (a := 2) (by decide) h
theorem li_m2 {a : Nat} (h : a < 2 ^ 31) : nI a ≤ 2 ↔ a ≤ 2 := nI_leI (b := 2) h (by decide)
theorem li_h2 {a : Nat} (h : a < 2 ^ 31) : (2 : Int32) ≤ nI a ↔ 2 ≤ a := nI_leI (a := 2) (by decide) h
theorem li_n3 : (nI 3) = 3 := rfl
theorem li_e3 {a : Nat} (h : a < 2 ^ 31) : nI a = 3 ↔ a = 3 := nI_eq (b := 3) h (by decide)
theorem li_f3 {a : Nat} (h : a < 2 ^ 31) : (3 : Int32) = nI a ↔ a = 3 := by rw [eq_comm]; exact li_e3 h
theorem li_l3 {a : Nat} (h : a < 2 ^ 31) : nI a < 3 ↔ a < 3 := nI_ltI (b := 3) h (by decide)
theorem li_g3 {a : Nat} (h : a < 2 ^ 31) : (3 : Int32) < nI a ↔ 3 < a := nI_ltI (a := 3) (by decide) h
theorem li_m3 {a : Nat} (h : a < 2 ^ 31) : nI a ≤ 3 ↔ a ≤ 3 := nI_leI (b := 3) h (by decide)
theorem li_h3 {a : Nat} (h : a < 2 ^ 31) : (3 : Int32) ≤ nI a ↔ 3 ≤ a := nI_leI (a := 3) (by decide) h
theorem li_n4 : (nI 4) = 4 := rfl
theorem li_e4 {a : Nat} (h : a < 2 ^ 31) : nI a = 4 ↔ a = 4 := nI_eq (b := 4) h (by decide)
theorem li_f4 {a : Nat} (h : a < 2 ^ 31) : (4 : Int32) = nI a ↔ a = 4 := by rw [eq_comm]; exact li_e4 h
theorem li_l4 {a : Nat} (h : a < 2 ^ 31) : nI a < 4 ↔ a < 4 := nI_ltI (b := 4) h (by decide)
theorem li_g4 {a : Nat} (h : a < 2 ^ 31) : (4 : Int32) < nI a ↔ 4 < a := nI_ltI (a := 4) (by decide) h
theorem li_m4 {a : Nat} (h : a < 2 ^ 31) : nI a ≤ 4 ↔ a ≤ 4 := nI_leI (b := 4) h (by decide)
theorem li_h4 {a : Nat} (h : a < 2 ^ 31) : (4 : Int32) ≤ nI a ↔ 4 ≤ a := nI_leI (a := 4) (by decide) h
theorem li_n5 : (nI 5) = 5 := rfl
theorem li_e5 {a : Nat} (h : a < 2 ^ 31) : nI a = 5 ↔ a = 5 := nI_eq (b := 5) h (by decide)
theorem li_f5 {a : Nat} (h : a < 2 ^ 31) : (5 : Int32) = nI a ↔ a = 5 := by rw [eq_comm]; exact li_e5 h
theorem li_l5 {a : Nat} (h : a < 2 ^ 31) : nI a < 5 ↔ a < 5 := nI_ltI (b := 5) h (by decide)
theorem li_g5 {a : Nat} (h : a < 2 ^ 31) : (5 : Int32) < nI a ↔ 5 < a := nI_ltI (a := 5) (by decide) h
theorem li_m5 {a : Nat} (h : a < 2 ^ 31) : nI a ≤ 5 ↔ a ≤ 5 := nI_leI (b := 5) h (by decide)
theorem li_h5 {a : Nat} (h : a < 2 ^ 31) : (5 : Int32) ≤ nI a ↔ 5 ≤ a := nI_leI (a := 5) (by decide) h
theorem li_n6 : (nI 6) = 6 := rfl
theorem li_e6 {a : Nat} (h : a < 2 ^ 31) : nI a = 6 ↔ a = 6 := nI_eq (b := 6) h (by decide)
theorem li_f6 {a : Nat} (h : a < 2 ^ 31) : (6 : Int32) = nI a ↔ a = 6 := by rw [eq_comm]; exact li_e6 h
theorem li_l6 {a : Nat} (h : a < 2 ^ 31) : nI a < 6 ↔ a < 6 := nI_ltI (b := 6) h (by decide)
theorem li_g6 {a : Nat} (h : a < 2 ^ 31) : (6 : Int32) < nI a ↔ 6 < a := nI_ltI (a := 6) (by decide) h
theorem li_m6 {a : Nat} (h : a < 2 ^ 31) : nI a ≤ 6 ↔ a ≤ 6 := nI_leI (b := 6) h (by decide)
theorem li_h6 {a : Nat} (h : a < 2 ^ 31) : (6 : Int32) ≤ nI a ↔ 6 ≤ a := nI_leI (a := 6) (by decide) h
theorem li_n7 : (nI 7) = 7 := rfl
theorem li_e7 {a : Nat} (h : a < 2 ^ 31) : nI a = 7 ↔ a = 7 := nI_eq (b := 7) h (by decide)
theorem li_f7 {a : Nat} (h : a < 2 ^ 31) : (7 : Int32) = nI a ↔ a = 7 := by rw [eq_comm]; exact li_e7 h
theorem li_l7 {a : Nat} (h : a < 2 ^ 31) : nI a < 7 ↔ a < 7 := nI_ltI (b := 7) h (by decide)
theorem li_g7 {a : Nat} (h : a < 2 ^ 31) : (7 : Int32) < nI a ↔ 7 < a := nI_ltI (a := 7) (by decide) h
theorem li_m7 {a : Nat} (h : a < 2 ^ 31) : nI a ≤ 7 ↔ a ≤ 7 := nI_leI (b := 7) h (by decide)
theorem li_h7 {a : Nat} (h : a < 2 ^ 31) : (7 : Int32) ≤ nI a ↔ 7 ≤ a := nI_leI (a := 7) (by decide) h
theorem li_n8 : (nI 8) = 8 := rfl
theorem li_e8 {a : Nat} (h : a < 2 ^ 31) : nI a = 8 ↔ a = 8 := nI_eq (b := 8) h (by decide)
theorem li_f8 {a : Nat} (h : a < 2 ^ 31) : (8 : Int32) = nI a ↔ a = 8 := by rw [eq_comm]; exact li_e8 h
theorem li_l8 {a : Nat} (h : a < 2 ^ 31) : nI a < 8 ↔ a < 8 := nI_ltI (b := 8) h (by decide)
theorem li_g8 {a : Nat} (h : a < 2 ^ 31) : (8 : Int32) < nI a ↔ 8 < a := nI_ltI (a := 8) (by decide) h
theorem li_m8 {a : Nat} (h : a < 2 ^ 31) : nI a ≤ 8 ↔ a ≤ 8 := nI_leI (b := 8) h (by decide)
theorem li_h8 {a : Nat} (h : a < 2 ^ 31) : (8 : Int32) ≤ nI a ↔ 8 ≤ a := nI_leI (a := 8) (by decide) h
theorem li_n9 : (nI 9) = 9 := rfl
theorem li_e9 {a : Nat} (h : a < 2 ^ 31) : nI a = 9 ↔ a = 9 := nI_eq (b := 9) h (by decide)
theorem li_f9 {a : Nat} (h : a < 2 ^ 31) : (9 : Int32) = nI a ↔ a = 9 := by rw [eq_comm]; exact li_e9 h
theorem li_l9 {a : Nat} (h : a < 2 ^ 31) : nI a < 9 ↔ a < 9 := nI_ltI (b := 9) h (by decide)
theorem li_g9 {a : Nat} (h : a < 2 ^ 31) : (9 : Int32) < nI a ↔ 9 < a := nI_ltI (a := 9) (by decide) h
theorem li_m9 {a : Nat} (h : a < 2 ^ 31) : nI a ≤ 9 ↔ a ≤ 9 := nI_leI (b := 9) h (by decide)
theorem li_h9 {a : Nat} (h : a < 2 ^ 31) : (9 : Int32) ≤ nI a ↔ 9 ≤ a := nI_leI (a := 9) (by decide) h
theorem li_n10 : (nI 10) = 10 := rfl
theorem li_e10 {a : Nat} (h : a < 2 ^ 31) : nI a = 10 ↔ a = 10 := nI_eq (b := 10) h (by decide)
theorem li_f10 {a : Nat} (h : a < 2 ^ 31) : (10 : Int32) = nI a ↔ a = 10 := by rw [eq_comm]; exact li_e10 h
theorem li_l10 {a : Nat} (h : a < 2 ^ 31) : nI a < 10 ↔ a < 10 := nI_ltI (b := 10) h (by decide)
theorem li_g10 {a : Nat} (h : a < 2 ^ 31) : (10 : Int32) < nI a ↔ 10 < a := nI_ltI (a := 10) (by decide) h
theorem li_m10 {a : Nat} (h : a < 2 ^ 31) : nI a ≤ 10 ↔ a ≤ 10 := nI_leI (b := 10) h (by decide)
theorem li_h10 {a : Nat} (h : a < 2 ^ 31) : (10 : Int32) ≤ nI a ↔ 10 ≤ a := nI_leI (a := 10) (by decide) h
theorem li_n15 : (nI 15) = 15 := rfl
theorem li_e15 {a : Nat} (h : a < 2 ^ 31) : nI a = 15 ↔ a = 15 := nI_eq (b := 15) h (by decide)
theorem li_f15 {a : Nat} (h : a < 2 ^ 31) : (15 : Int32) = nI a ↔ a = 15 := by rw [eq_comm]; exact li_e15 h
theorem li_l15 {a : Nat} (h : a < 2 ^ 31) : nI a < 15 ↔ a < 15 := nI_ltI (b := 15) h (by decide)
theorem li_g15 {a : Nat} (h : a < 2 ^ 31) : (15 : Int32) < nI a ↔ 15 < a := nI_ltI (a := 15) (by decide) h
theorem li_m15 {a : Nat} (h : a < 2 ^ 31) : nI a ≤ 15 ↔ a ≤ 15 := nI_leI (b := 15) h (by decide)
theorem li_h15 {a : Nat} (h : a < 2 ^ 31) : (15 : Int32) ≤ nI a ↔ 15 ≤ a := nI_leI (a := 15) (by decide) h
theorem li_n16 : (nI 16) = 16 := rfl
theorem li_e16 {a : Nat} (h : a < 2 ^ 31) : nI a = 16 ↔ a = 16 := nI_eq (b := 16) h (by decide)
theorem li_f16 {a : Nat} (h : a < 2 ^ 31) : (16 : Int32) = nI a ↔ a = 16 := by rw [eq_comm]; exact li_e16 h
theorem li_l16 {a : Nat} (h : a < 2 ^ 31) : nI a < 16 ↔ a < 16 := nI_ltI (b := 16) h (by decide)
theorem li_g16 {a : Nat} (h : a < 2 ^ 31) : (16 : Int32) < nI a ↔ 16 < a := nI_ltI (a := 16) (by decide) h
theorem li_m16 {a : Nat} (h : a < 2 ^ 31) : nI a ≤ 16 ↔ a ≤ 16 := nI_leI (b := 16) h (by decide)
theorem li_h16 {a : Nat} (h : a < 2 ^ 31) : (16 : Int32) ≤ nI a ↔ 16 ≤ a := nI_leI (a := 16) (by decide) h
theorem li_n20 : (nI 20) = 20 := rfl
theorem li_e20 {a : Nat} (h : a < 2 ^ 31) : nI a = 20 ↔ a = 20 := nI_eq (b := 20) h (by decide)
theorem li_f20 {a : Nat} (h : a < 2 ^ 31) : (20 : Int32) = nI a ↔ a = 20 := by rw [eq_comm]; exact li_e20 h
theorem li_l20 {a : Nat} (h : a < 2 ^ 31) : nI a < 20 ↔ a < 20 := nI_ltI (b := 20) h (by decide)
theorem li_g20 {a : Nat} (h : a < 2 ^ 31) : (20 : Int32) < nI a ↔ 20 < a := nI_ltI (a := 20) (by decide) h
theorem li_m20 {a : Nat} (h : a < 2 ^ 31) : nI a ≤ 20 ↔ a ≤ 20 := nI_leI (b := 20) h (by decide)
theorem li_h20 {a : Nat} (h : a < 2 ^ 31) : (20 : Int32) ≤ nI a ↔ 20 ≤ a := nI_leI (a := 20) (by decide) h
theorem li_n40 : (nI 40) = 40 := rfl
theorem li_e40 {a : Nat} (h : a < 2 ^ 31) : nI a = 40 ↔ a = 40 := nI_eq (b := 40) h (by decide)
theorem li_f40 {a : Nat} (h : a < 2 ^ 31) : (40 : Int32) = nI a ↔ a = 40 := by rw [eq_comm]; exact li_e40 h
theorem li_l40 {a : Nat} (h : a < 2 ^ 31) : nI a < 40 ↔ a < 40 := nI_ltI (b := 40) h (by decide)
theorem li_g40 {a : Nat} (h : a < 2 ^ 31) : (40 : Int32) < nI a ↔ 40 < a := nI_ltI (a := 40) (by decide) h
theorem li_m40 {a : Nat} (h : a < 2 ^ 31) : nI a ≤ 40 ↔ a ≤ 40 := nI_leI (b := 40) h (by decide)
theorem li_h40 {a : Nat} (h : a < 2 ^ 31) : (40 : Int32) ≤ nI a ↔ 40 ≤ a := nI_leI (a := 40) (by decide) h
theorem li_n100 : (nI 100) = 100 := rfl
theorem li_e100 {a : Nat} (h : a < 2 ^ 31) : nI a = 100 ↔ a = 100 := nI_eq (b := 100) h (by decide)
theorem li_f100 {a : Nat} (h : a < 2 ^ 31) : (100 : Int32) = nI a ↔ a = 100 := by rw [eq_comm]; exact li_e100 h
theorem li_l100 {a : Nat} (h : a < 2 ^ 31) : nI a < 100 ↔ a < 100 := nI_ltI (b := 100) h (by decide)
theorem li_g100 {a : Nat} (h : a < 2 ^ 31) : (100 : Int32) < nI a ↔ 100 < a := nI_ltI (a := 100) (by decide) h
theorem li_m100 {a : Nat} (h : a < 2 ^ 31) : nI a ≤ 100 ↔ a ≤ 100 := nI_leI (b := 100) h (by decide)
theorem li_h100 {a : Nat} (h : a < 2 ^ 31) : (100 : Int32) ≤ nI a ↔ 100 ≤ a := nI_leI (a := 100) (by decide) h
theorem li_n128 : (nI 128) = 128 := rfl
theorem li_e128 {a : Nat} (h : a < 2 ^ 31) : nI a = 128 ↔ a = 128 := nI_eq (b := 128) h (by decide)
theorem li_f128 {a : Nat} (h : a < 2 ^ 31) : (128 : Int32) = nI a ↔ a = 128 := by rw [eq_comm]; exact li_e128 h
theorem li_l128 {a : Nat} (h : a < 2 ^ 31) : nI a < 128 ↔ a < 128 := nI_ltI (b := 128) h (by decide)
theorem li_g128 {a : Nat} (h : a < 2 ^ 31) : (128 : Int32) < nI a ↔ 128 < a := nI_ltI (a := 128) (by decide) h
theorem li_m128 {a : Nat} (h : a < 2 ^ 31) : nI a ≤ 128 ↔ a ≤ 128 := nI_leI (b := 128) h (by decide)
theorem li_h128 {a : Nat} (h : a < 2 ^ 31) : (128 : Int32) ≤ nI a ↔ 128 ≤ a := nI_leI (a := 128) (by decide) h
theorem li_n150 : (nI 150) = 150 := rfl
theorem li_e150 {a : Nat} (h : a < 2 ^ 31) : nI a = 150 ↔ a = 150 := nI_eq (b := 150) h (by decide)
theorem li_f150 {a : Nat} (h : a < 2 ^ 31) : (150 : Int32) = nI a ↔ a = 150 := by rw [eq_comm]; exact li_e150 h
theorem li_l150 {a : Nat} (h : a < 2 ^ 31) : nI a < 150 ↔ a < 150 := nI_ltI (b := 150) h (by decide)
theorem li_g150 {a : Nat} (h : a < 2 ^ 31) : (150 : Int32) < nI a ↔ 150 < a := nI_ltI (a := 150) (by decide) h
theorem li_m150 {a : Nat} (h : a < 2 ^ 31) : nI a ≤ 150 ↔ a ≤ 150 := nI_leI (b := 150) h (by decide)
theorem li_h150 {a : Nat} (h : a < 2 ^ 31) : (150 : Int32) ≤ nI a ↔ 150 ≤ a := nI_leI (a := 150) (by decide) h
theorem li_n255 : (nI 255) = 255 := rfl
theorem li_e255 {a : Nat} (h : a < 2 ^ 31) : nI a = 255 ↔ a = 255 := nI_eq (b := 255) h (by decide)
theorem li_f255 {a : Nat} (h : a < 2 ^ 31) : (255 : Int32) = nI a ↔ a = 255 := by rw [eq_comm]; exact li_e255 h
theorem li_l255 {a : Nat} (h : a < 2 ^ 31) : nI a < 255 ↔ a < 255 := nI_ltI (b := 255) h (by decide)
theorem li_g255 {a : Nat} (h : a < 2 ^ 31) : (255 : Int32) < nI a ↔ 255 < a := nI_ltI (a := 255) (by decide) h
theorem li_m255 {a : Nat} (h : a < 2 ^ 31) : nI a ≤ 255 ↔ a ≤ 255 := nI_leI (b := 255) h (by decide)
theorem li_h255 {a : Nat} (h : a < 2 ^ 31) : (255 : Int32) ≤ nI a ↔ 255 ≤ a := nI_leI (a := 255) (by decide) h
theorem li_n400 : (nI 400) = 400 := rfl
theorem li_e400 {a : Nat} (h : a < 2 ^ 31) : nI a = 400 ↔ a = 400 := nI_eq (b := 400) h (by decide)
theorem li_f400 {a : Nat} (h : a < 2 ^ 31) : (400 : Int32) = nI a ↔ a = 400 := by rw [eq_comm]; exact li_e400 h
theorem li_l400 {a : Nat} (h : a < 2 ^ 31) : nI a < 400 ↔ a < 400 := nI_ltI (b := 400) h (by decide)
theorem li_g400 {a : Nat} (h : a < 2 ^ 31) : (400 : Int32) < nI a ↔ 400 < a := nI_ltI (a := 400) (by decide) h
theorem li_m400 {a : Nat} (h : a < 2 ^ 31) : nI a ≤ 400 ↔ a ≤ 400 := nI_leI (b := 400) h (by decide)
theorem li_h400 {a : Nat} (h : a < 2 ^ 31) : (400 : Int32) ≤ nI a ↔ 400 ≤ a := nI_leI (a := 400) (by decide) h
theorem li_n410 : (nI 410) = 410 := rfl
theorem li_e410 {a : Nat} (h : a < 2 ^ 31) : nI a = 410 ↔ a = 410 := nI_eq (b := 410) h (by decide)
theorem li_f410 {a : Nat} (h : a < 2 ^ 31) : (410 : Int32) = nI a ↔ a = 410 := by rw [eq_comm]; exact li_e410 h
theorem li_l410 {a : Nat} (h : a < 2 ^ 31) : nI a < 410 ↔ a < 410 := nI_ltI (b := 410) h (by decide)
theorem li_g410 {a : Nat} (h : a < 2 ^ 31) : (410 : Int32) < nI a ↔ 410 < a := nI_ltI (a := 410) (by decide) h
theorem li_m410 {a : Nat} (h : a < 2 ^ 31) : nI a ≤ 410 ↔ a ≤ 410 := nI_leI (b := 410) h (by decide)
theorem li_h410 {a : Nat} (h : a < 2 ^ 31) : (410 : Int32) ≤ nI a ↔ 410 ≤ a := nI_leI (a := 410) (by decide) h
theorem li_n420 : (nI 420) = 420 := rfl
theorem li_e420 {a : Nat} (h : a < 2 ^ 31) : nI a = 420 ↔ a = 420 := nI_eq (b := 420) h (by decide)
theorem li_f420 {a : Nat} (h : a < 2 ^ 31) : (420 : Int32) = nI a ↔ a = 420 := by rw [eq_comm]; exact li_e420 h
theorem li_l420 {a : Nat} (h : a < 2 ^ 31) : nI a < 420 ↔ a < 420 := nI_ltI (b := 420) h (by decide)
theorem li_g420 {a : Nat} (h : a < 2 ^ 31) : (420 : Int32) < nI a ↔ 420 < a := nI_ltI (a := 420) (by decide) h
theorem li_m420 {a : Nat} (h : a < 2 ^ 31) : nI a ≤ 420 ↔ a ≤ 420 := nI_leI (b := 420) h (by decide)
theorem li_h420 {a : Nat} (h : a < 2 ^ 31) : (420 : Int32) ≤ nI a ↔ 420 ≤ a := nI_leI (a := 420) (by decide) h
theorem li_n2000 : (nI 2000) = 2000 := rfl
theorem li_e2000 {a : Nat} (h : a < 2 ^ 31) : nI a = 2000 ↔ a = 2000 := nI_eq (b := 2000) h (by decide)
theorem li_f2000 {a : Nat} (h : a < 2 ^ 31) : (2000 : Int32) = nI a ↔ a = 2000 := by rw [eq_comm]; exact li_e2000 h
theorem li_l2000 {a : Nat} (h : a < 2 ^ 31) : nI a < 2000 ↔ a < 2000 := nI_ltI (b := 2000) h (by decide)
theorem li_g2000 {a : Nat} (h : a < 2 ^ 31) : (2000 : Int32) < nI a ↔ 2000 < a := nI_ltI (a := 2000) (by decide) h
theorem li_m2000 {a : Nat} (h : a < 2 ^ 31) : nI a ≤ 2000 ↔ a ≤ 2000 := nI_leI (b := 2000) h (by decide)
theorem li_h2000 {a : Nat} (h : a < 2 ^ 31) : (2000 : Int32) ≤ nI a ↔ 2000 ≤ a := nI_leI (a := 2000) (by decide) h
theorem li_n8200 : (nI 8200) = 8200 := rfl
theorem li_e8200 {a : Nat} (h : a < 2 ^ 31) : nI a = 8200 ↔ a = 8200 := nI_eq (b := 8200) h (by decide)
theorem li_f8200 {a : Nat} (h : a < 2 ^ 31) : (8200 : Int32) = nI a ↔ a = 8200 := by rw [eq_comm]; exact li_e8200 h
theorem li_l8200 {a : Nat} (h : a < 2 ^ 31) : nI a < 8200 ↔ a < 8200 := nI_ltI (b := 8200) h (by decide)
theorem li_g8200 {a : Nat} (h : a < 2 ^ 31) : (8200 : Int32) < nI a ↔ 8200 < a := nI_ltI (a := 8200) (by decide) h
theorem li_m8200 {a : Nat} (h : a < 2 ^ 31) : nI a ≤ 8200 ↔ a ≤ 8200 := nI_leI (b := 8200) h (by decide)
theorem li_h8200 {a : Nat} (h : a < 2 ^ 31) : (8200 : Int32) ≤ nI a ↔ 8200 ≤ a := nI_leI (a := 8200) (by decide) h
theorem li_n1000000 : (nI 1000000) = 1000000 := rfl
theorem li_e1000000 {a : Nat} (h : a < 2 ^ 31) : nI a = 1000000 ↔ a = 1000000 := nI_eq (b := 1000000) h (by decide)
theorem li_f1000000 {a : Nat} (h : a < 2 ^ 31) : (1000000 : Int32) = nI a ↔ a = 1000000 := by rw [eq_comm]; exact li_e1000000 h
theorem li_l1000000 {a : Nat} (h : a < 2 ^ 31) : nI a < 1000000 ↔ a < 1000000 := nI_ltI (b := 1000000) h (by decide)
theorem li_g1000000 {a : Nat} (h : a < 2 ^ 31) : (1000000 : Int32) < nI a ↔ 1000000 < a := nI_ltI (a := 1000000) (by decide) h
theorem li_m1000000 {a : Nat} (h : a < 2 ^ 31) : nI a ≤ 1000000 ↔ a ≤ 1000000 := nI_leI (b := 1000000) h (by decide)
theorem li_h1000000 {a : Nat} (h : a < 2 ^ 31) : (1000000 : Int32) ≤ nI a ↔ 1000000 ≤ a := nI_leI (a := 1000000) (by decide) h
theorem li_neg {a : Nat} (h : a < 2 ^ 31) : ¬ nI a = -1 := by
  intro e
  have h2 : ¬ nI a < 0 := nI_pos h
  rw [e] at h2
  exact absurd (by decide) h2
theorem li_5 (t k : Nat) : nI t * 5 + nI k = nI (5 * t + k) := by
  rw [show (5 : Int32) = nI 5 from rfl, pk_mul, nI_add, Nat.mul_comm]
theorem li_5' (t k : Nat) : 5 * nI t + nI k = nI (5 * t + k) := by
  rw [show (5 : Int32) = nI 5 from rfl, pk_mul, nI_add]
theorem li_50 (t : Nat) : nI t * 5 = nI (5 * t) := by
  rw [show (5 : Int32) = nI 5 from rfl, pk_mul, Nat.mul_comm]
theorem li_50' (t : Nat) : 5 * nI t = nI (5 * t) := by
  rw [show (5 : Int32) = nI 5 from rfl, pk_mul]
theorem li_20 (t k : Nat) : nI t * 20 + nI k = nI (20 * t + k) := by
  rw [show (20 : Int32) = nI 20 from rfl, pk_mul, nI_add, Nat.mul_comm]
theorem li_20' (t k : Nat) : 20 * nI t + nI k = nI (20 * t + k) := by
  rw [show (20 : Int32) = nI 20 from rfl, pk_mul, nI_add]
theorem li_200 (t : Nat) : nI t * 20 = nI (20 * t) := by
  rw [show (20 : Int32) = nI 20 from rfl, pk_mul, Nat.mul_comm]
theorem li_200' (t : Nat) : 20 * nI t = nI (20 * t) := by
  rw [show (20 : Int32) = nI 20 from rfl, pk_mul]
theorem li_c1 : ((1 : Int32) = 0) = False := by decide
theorem li_c2 : ((-1 : Int32) = 0) = False := by decide
theorem li_c3 : ((-2 : Int32) = 0) = False := by decide
theorem li_c4 : ((-3 : Int32) = 0) = False := by decide
theorem li_c5 : ((-4 : Int32) = 0) = False := by decide
theorem li_c6 : ((-5 : Int32) = 0) = False := by decide
theorem li_c7 : ((-6 : Int32) = 0) = False := by decide
theorem li_c8 : ((-7 : Int32) = 0) = False := by decide
theorem li_c9 : ((-8 : Int32) = 0) = False := by decide
theorem li_c10 : ((-1 : Int32) < 0) = True := by decide
theorem li_c11 : ((0 : Int32) ≤ -1) = False := by decide
theorem li_c12 : ((-2 : Int32) = -3) = False := by decide
theorem li_c13 : ((-1 : Int32) = -3) = False := by decide
theorem li_c14 : ((-1 : Int32) = -2) = False := by decide
theorem li_c15 : ((0 : Int32) = -1) = False := by decide
theorem li_s1 {a : Nat} (h : 0 < a) : nI a - 1 = nI (a - 1) := by
  obtain ⟨b, rfl⟩ : ∃ b, a = b + 1 := ⟨a - 1, by omega⟩
  exact nI_pred b
theorem li_t1 {a : Nat} (h : 0 < a) : nI a + (-1) = nI (a - 1) := by
  obtain ⟨b, rfl⟩ : ∃ b, a = b + 1 := ⟨a - 1, by omega⟩
  exact pk_m1 b
theorem li_d20 {a b : Nat} (ha : a ≤ 20) (hb : b < 20) : nI (20 * a + b) / 20 = nI a := by
  rw [show (20 : Int32) = nI 20 from rfl, pk_div (by omega) (by omega) (by omega)]
  exact congrArg nI (by omega)
theorem li_r20 {a b : Nat} (ha : a ≤ 20) (hb : b < 20) : nI (20 * a + b) - nI (20 * a + b) / 20 * 20 = nI b := by
  rw [show (20 : Int32) = nI 20 from rfl, pk_rem (by omega) (by omega) (by omega)]
  exact congrArg nI (by omega)
def sg_K (g : sg_T) : Nat → Int32 := fun j => nI (sg_k g j)
def sg_P (g : sg_T) : Nat → Int32 := fun j => nI (sg_p g j)
theorem sg_Kat (g : sg_T) (j : Nat) : sg_K g j = nI (sg_k g j) := rfl
theorem sg_Pat (g : sg_T) (j : Nat) : sg_P g j = nI (sg_p g j) := rfl
end
section
/-! the tables grow -/
def sg_un (f : Nat → Nat) (i x : Nat) : Nat → Nat := fun j => if j = i then x else f j
theorem sg_un_s {f : Nat → Nat} {i x : Nat} : sg_un f i x i = x := if_pos rfl
theorem sg_un_n {f : Nat → Nat} {i x j : Nat} (h : ¬ j = i) : sg_un f i x j = f j := if_neg h
def sg_type (g : sg_T) (k d : Nat) : sg_T := (sg_n g + 1, sg_un (sg_k g) (sg_n g) k, sg_un (sg_d g) (sg_n g) d, sg_p g, upd (sg_f g) (sg_n g) (-1), sg_m g, sg_t g, sg_a g, sg_h g, sg_v g)
def sg_part (g : sg_T) (t nm u : Nat) (al ha v : Int32) : sg_T :=
  (sg_n g, sg_k g, sg_d g, sg_un (sg_p g) t (sg_p g t + 1), sg_f g, sg_un (sg_m g) (5 * t + sg_p g t) nm, sg_un (sg_t g) (5 * t + sg_p g t) u, upd (sg_a g) (5 * t + sg_p g t) al, upd (sg_h g) (5 * t + sg_p g t) ha, upd (sg_v g) (5 * t + sg_p g t) v)
def sg_fall (g : sg_T) (t : Nat) (x : Int32) : sg_T := (sg_n g, sg_k g, sg_d g, sg_p g, upd (sg_f g) t x, sg_m g, sg_t g, sg_a g, sg_h g, sg_v g)
theorem sg_K_type (g : sg_T) (k d : Nat) : sg_K (sg_type g k d) = upd (sg_K g) (sg_n g) (nI k) := by
  funext j
  show nI (sg_un (sg_k g) (sg_n g) k j) = _
  by_cases e : j = sg_n g
  · subst e; rw [sg_un_s, pk_us]
  · rw [sg_un_n e, pk_un e]; rfl
theorem sg_P_part (g : sg_T) (t nm u : Nat) (al ha v : Int32) : sg_P (sg_part g t nm u al ha v) = upd (sg_P g) t (nI (sg_p g t + 1)) := by
  funext j
  show nI (sg_un (sg_p g) t (sg_p g t + 1) j) = _
  by_cases e : j = t
  · subst e; rw [sg_un_s, pk_us]
  · rw [sg_un_n e, pk_un e]; rfl
theorem sg_type_ok {g : sg_T} {k d : Nat} (hg : sg_ok g) (hn : sg_n g < 20) (hk : k ≤ 9) (h6 : k = 6 → d ≤ 8) (h7 : k = 7 → d < sg_n g) : sg_ok (sg_type g k d) := by
  obtain ⟨g1, g2, g3, g4, g5, g6, g7, g8, g9, g10, g11, g12, g13, g14⟩ := hg
  have eN : sg_n (sg_type g k d) = sg_n g + 1 := rfl
  have eKs : sg_k (sg_type g k d) (sg_n g) = k := sg_un_s
  have eKn : ∀ j, ¬ j = sg_n g → sg_k (sg_type g k d) j = sg_k g j := fun j h => sg_un_n h
  have eDs : sg_d (sg_type g k d) (sg_n g) = d := sg_un_s
  have eDn : ∀ j, ¬ j = sg_n g → sg_d (sg_type g k d) j = sg_d g j := fun j h => sg_un_n h
  have eFs : sg_f (sg_type g k d) (sg_n g) = -1 := pk_us
  have eFn : ∀ j, ¬ j = sg_n g → sg_f (sg_type g k d) j = sg_f g j := fun j h => pk_un h
  have eP : ∀ j, sg_p (sg_type g k d) j = sg_p g j := fun j => rfl
  have p0 := g4 (sg_n g) (Nat.le_refl _)
  refine ⟨by omega, fun t => ?_, g3, fun t ht => g4 t (by omega), fun t ht h => ?_, fun t ht h => ?_, fun t j ht hj h => ?_, fun t j ht hj h => ?_, fun t j ht hj h => ?_, fun t j ht hj h => ?_, fun t ht => ?_, fun t ht h => ?_, fun t ht a b c => ?_, g14⟩
  · by_cases e : t = sg_n g
    · subst e; rw [eKs]; exact hk
    · rw [eKn t e]; exact g2 t
  · by_cases e : t = sg_n g
    · subst e; rw [eKs] at h; rw [eDs]; exact h6 h
    · rw [eKn t e] at h; rw [eDn t e]; exact g5 t (by omega) h
  · by_cases e : t = sg_n g
    · subst e; rw [eKs] at h; rw [eDs]; have := h7 h; omega
    · rw [eKn t e] at h; rw [eDn t e]; have := g6 t (by omega) h; omega
  · rw [eP] at hj
    by_cases e : t = sg_n g
    · subst e; omega
    · rw [eKn t e] at h; exact g7 t j (by omega) hj h
  · rw [eP] at hj
    by_cases e : t = sg_n g
    · subst e; omega
    · rw [eKn t e] at h; have := g8 t j (by omega) hj h; exact Nat.lt_succ_of_lt this
  · rw [eP] at hj
    by_cases e : t = sg_n g
    · subst e; omega
    · rw [eKn t e] at h
      have h2 := g8 t j (by omega) hj (by omega)
      have h3 := g9 t j (by omega) hj h
      show ¬ sg_k (sg_type g k d) (sg_t g (5 * t + j)) = 8
      rw [eKn _ (by omega)]
      exact h3
  · rw [eP] at hj
    by_cases e : t = sg_n g
    · subst e; omega
    · rw [eKn t e] at h; exact g10 t j (by omega) hj h
  · by_cases e : t = sg_n g
    · subst e; rw [eFs]; exact Or.inl rfl
    · rw [eFn t e]; exact g11 t (by omega)
  · by_cases e : t = sg_n g
    · subst e; exact eFs
    · rw [eKn t e] at h; rw [eFn t e]; exact g12 t (by omega) h
  · by_cases e : t = sg_n g
    · subst e; exact p0
    · rw [eKn t e] at a b c; exact g13 t (by omega) a b c
theorem sg_type_T {g : sg_T} {k d : Nat} {aD aD' : Nat → Int32} (h : ∀ t, t < sg_n g → sg_k g t = 6 ∨ sg_k g t = 7 → aD t = nI (sg_d g t)) (ho : ∀ t, ¬ t = sg_n g → aD' t = aD t) (hs : k = 6 ∨ k = 7 → aD' (sg_n g) = nI d) :
    ∀ t, t < sg_n (sg_type g k d) → sg_k (sg_type g k d) t = 6 ∨ sg_k (sg_type g k d) t = 7 → aD' t = nI (sg_d (sg_type g k d) t) := by
  intro t ht hk
  have eN : sg_n (sg_type g k d) = sg_n g + 1 := rfl
  by_cases e : t = sg_n g
  · subst e
    have eKs : sg_k (sg_type g k d) (sg_n g) = k := sg_un_s
    have eDs : sg_d (sg_type g k d) (sg_n g) = d := sg_un_s
    rw [eKs] at hk; rw [eDs]; exact hs hk
  · have eKn : sg_k (sg_type g k d) t = sg_k g t := sg_un_n e
    have eDn : sg_d (sg_type g k d) t = sg_d g t := sg_un_n e
    rw [eKn] at hk; rw [eDn, ho t e]; exact h t (by omega) hk
/-- a row of parts stays as it was when a type comes -/
theorem sg_type_part {g : sg_T} {k d : Nat} (hg : sg_ok g) {Q : Nat → Prop} {P : Nat → Nat → Prop} (h : ∀ t j, t < sg_n g → j < sg_p g t → Q (sg_k g t) → P t j) :
    ∀ t j, t < sg_n (sg_type g k d) → j < sg_p (sg_type g k d) t → Q (sg_k (sg_type g k d) t) → P t j := by
  intro t j ht hj hk
  have eN : sg_n (sg_type g k d) = sg_n g + 1 := rfl
  have eP : sg_p (sg_type g k d) t = sg_p g t := rfl
  by_cases e : t = sg_n g
  · have := hg.2.2.2.1 t (by omega); omega
  · have eKn : sg_k (sg_type g k d) t = sg_k g t := sg_un_n e
    rw [eKn] at hk
    exact h t j (by omega) (by omega) hk
theorem sg_type_X {g : sg_T} {k d : Nat} {aD aN aT aA aH aV aD' : Nat → Int32} (hg : sg_ok g) (h : sg_X g aD aN aT aA aH aV) (ho : ∀ t, ¬ t = sg_n g → aD' t = aD t) (hs : k = 6 ∨ k = 7 → aD' (sg_n g) = nI d) : sg_X (sg_type g k d) aD' aN aT aA aH aV :=
  ⟨sg_type_T h.1 ho hs, sg_type_part hg (Q := fun q => ¬ q = 8) h.2.1, sg_type_part hg (Q := fun q => ¬ q = 5) h.2.2.1, sg_type_part hg (Q := fun q => q = 9) h.2.2.2.1, sg_type_part hg (Q := fun q => q = 8) h.2.2.2.2.1, sg_type_part hg (Q := fun q => ¬ q = 9) h.2.2.2.2.2.1, h.2.2.2.2.2.2⟩
theorem sg_type_Y {g : sg_T} {k d : Nat} {aD aN aT aA aH aV aD' : Nat → Int32} (hg : sg_ok g) (h : sg_Y g aD aN aT aA aH aV) (ho : ∀ t, ¬ t = sg_n g → aD' t = aD t) (hs : k = 6 ∨ k = 7 → aD' (sg_n g) = nI d) : sg_Y (sg_type g k d) aD' aN aT aA aH aV :=
  ⟨sg_type_T h.1 ho hs, sg_type_part hg (Q := fun q => ¬ q = 8) h.2.1, sg_type_part hg (Q := fun q => ¬ q = 5) h.2.2.1, sg_type_part hg (Q := fun q => q = 9) h.2.2.2.1, h.2.2.2.2⟩
theorem sg_fall_ok {g : sg_T} {t : Nat} {x : Int32} (hg : sg_ok g) (hk : sg_k g t = 5) (hx : sg_nam x) : sg_ok (sg_fall g t x) := by
  obtain ⟨g1, g2, g3, g4, g5, g6, g7, g8, g9, g10, g11, g12, g13, g14⟩ := hg
  refine ⟨g1, g2, g3, g4, g5, g6, g7, g8, g9, g10, fun s hs => ?_, fun s hs h => ?_, g13, g14⟩
  · by_cases e : s = t
    · subst e; show sg_nam (upd (sg_f g) s x s); rw [pk_us]; exact hx
    · show sg_nam (upd (sg_f g) t x s); rw [pk_un e]; exact g11 s hs
  · have e : ¬ s = t := by
      intro e; subst e; exact h hk
    show upd (sg_f g) t x s = -1
    rw [pk_un e]
    exact g12 s hs h
theorem sg_part_ok {g : sg_T} {t nm u : Nat} {al ha v : Int32} (hg : sg_ok g) (ht : t < sg_n g) (hp : sg_p g t < 5) (hk : sg_k g t = 5 ∨ sg_k g t = 8 ∨ sg_k g t = 9)
    (h1 : ¬ sg_k g t = 8 → nm < 16) (h2 : ¬ sg_k g t = 5 → u < sg_n g) (h3 : sg_k g t = 8 → ¬ sg_k g u = 8) (h4 : sg_k g t = 9 → sg_nam al) (h5 : ha = 0 ∨ ha = 1) : sg_ok (sg_part g t nm u al ha v) := by
  obtain ⟨g1, g2, g3, g4, g5, g6, g7, g8, g9, g10, g11, g12, g13, g14⟩ := hg
  have ePs : sg_p (sg_part g t nm u al ha v) t = sg_p g t + 1 := sg_un_s
  have ePn : ∀ j, ¬ j = t → sg_p (sg_part g t nm u al ha v) j = sg_p g j := fun j h => sg_un_n h
  have key : ∀ s j, s < sg_n g → j < sg_p (sg_part g t nm u al ha v) s → (s = t ∧ j = sg_p g t) ∨ (j < sg_p g s ∧ ¬ 5 * s + j = 5 * t + sg_p g t) := by
    intro s j hs hj
    have p5 := g3 s
    by_cases e : s = t
    · subst e
      rw [ePs] at hj
      by_cases e2 : j = sg_p g s
      · exact Or.inl ⟨rfl, e2⟩
      · exact Or.inr ⟨by omega, by omega⟩
    · rw [ePn s e] at hj
      exact Or.inr ⟨hj, by omega⟩
  refine ⟨g1, g2, fun s => ?_, fun s hs => ?_, g5, g6, fun s j hs hj h => ?_, fun s j hs hj h => ?_, fun s j hs hj h => ?_, fun s j hs hj h => ?_, g11, g12, fun s hs a b c => ?_, fun i => ?_⟩
  · by_cases e : s = t
    · subst e; rw [ePs]; omega
    · rw [ePn s e]; exact g3 s
  · have hs2 : sg_n g ≤ s := hs
    rw [ePn s (by omega)]; exact g4 s hs2
  · rcases key s j hs hj with ⟨rfl, rfl⟩ | ⟨a, b⟩
    · show sg_un (sg_m g) _ nm _ < 16
      rw [sg_un_s]; exact h1 h
    · show sg_un (sg_m g) _ nm _ < 16
      rw [sg_un_n b]; exact g7 s j hs a h
  · rcases key s j hs hj with ⟨rfl, rfl⟩ | ⟨a, b⟩
    · show sg_un (sg_t g) _ u _ < sg_n g
      rw [sg_un_s]; exact h2 h
    · show sg_un (sg_t g) _ u _ < sg_n g
      rw [sg_un_n b]; exact g8 s j hs a h
  · rcases key s j hs hj with ⟨rfl, rfl⟩ | ⟨a, b⟩
    · show ¬ sg_k g (sg_un (sg_t g) _ u _) = 8
      rw [sg_un_s]; exact h3 h
    · show ¬ sg_k g (sg_un (sg_t g) _ u _) = 8
      rw [sg_un_n b]; exact g9 s j hs a h
  · rcases key s j hs hj with ⟨rfl, rfl⟩ | ⟨a, b⟩
    · show sg_nam (upd (sg_a g) _ al _)
      rw [pk_us]; exact h4 h
    · show sg_nam (upd (sg_a g) _ al _)
      rw [pk_un b]; exact g10 s j hs a h
  · have e : ¬ s = t := by
      intro e; subst e
      have a' : ¬ sg_k g s = 5 := a
      have b' : ¬ sg_k g s = 8 := b
      have c' : ¬ sg_k g s = 9 := c
      omega
    rw [ePn s e]; exact g13 s hs a b c
  · show upd (sg_h g) _ ha i = 0 ∨ upd (sg_h g) _ ha i = 1
    by_cases e : i = 5 * t + sg_p g t
    · subst e; rw [pk_us]; exact h5
    · rw [pk_un e]; exact g14 i
theorem sg_part_key {g : sg_T} {t nm u : Nat} {al ha v : Int32} (hg : sg_ok g) (hp : sg_p g t < 5) {s j : Nat} (hj : j < sg_p (sg_part g t nm u al ha v) s) : (s = t ∧ j = sg_p g t) ∨ (j < sg_p g s ∧ ¬ 5 * s + j = 5 * t + sg_p g t) := by
  have p5 := hg.2.2.1 s
  by_cases e : s = t
  · subst e
    have ePs : sg_p (sg_part g s nm u al ha v) s = sg_p g s + 1 := sg_un_s
    rw [ePs] at hj
    by_cases e2 : j = sg_p g s
    · exact Or.inl ⟨rfl, e2⟩
    · exact Or.inr ⟨by omega, by omega⟩
  · have ePn : sg_p (sg_part g t nm u al ha v) s = sg_p g s := sg_un_n e
    rw [ePn] at hj
    exact Or.inr ⟨hj, by omega⟩
theorem sg_part_1 {g : sg_T} {t nm u : Nat} {al ha v : Int32} {aN bN : Nat → Int32} (hg : sg_ok g) (hp : sg_p g t < 5)
    (h : ∀ s j, s < sg_n g → j < sg_p g s → ¬ sg_k g s = 8 → aN (5 * s + j) = nI (sg_m g (5 * s + j))) (o : ∀ j, ¬ j = 5 * t + sg_p g t → bN j = aN j) (n1 : ¬ sg_k g t = 8 → bN (5 * t + sg_p g t) = nI nm) :
    ∀ s j, s < sg_n (sg_part g t nm u al ha v) → j < sg_p (sg_part g t nm u al ha v) s → ¬ sg_k (sg_part g t nm u al ha v) s = 8 → bN (5 * s + j) = nI (sg_m (sg_part g t nm u al ha v) (5 * s + j)) := by
  intro s j hs hj hk
  show bN (5 * s + j) = nI (sg_un (sg_m g) (5 * t + sg_p g t) nm (5 * s + j))
  rcases sg_part_key hg hp hj with ⟨rfl, rfl⟩ | ⟨a, b⟩
  · rw [sg_un_s]; exact n1 hk
  · rw [sg_un_n b, o _ b]; exact h s j hs a hk
theorem sg_part_2 {g : sg_T} {t nm u : Nat} {al ha v : Int32} {aN bN : Nat → Int32} (hg : sg_ok g) (hp : sg_p g t < 5)
    (h : ∀ s j, s < sg_n g → j < sg_p g s → ¬ sg_k g s = 5 → aN (5 * s + j) = nI (sg_t g (5 * s + j))) (o : ∀ j, ¬ j = 5 * t + sg_p g t → bN j = aN j) (n1 : ¬ sg_k g t = 5 → bN (5 * t + sg_p g t) = nI u) :
    ∀ s j, s < sg_n (sg_part g t nm u al ha v) → j < sg_p (sg_part g t nm u al ha v) s → ¬ sg_k (sg_part g t nm u al ha v) s = 5 → bN (5 * s + j) = nI (sg_t (sg_part g t nm u al ha v) (5 * s + j)) := by
  intro s j hs hj hk
  show bN (5 * s + j) = nI (sg_un (sg_t g) (5 * t + sg_p g t) u (5 * s + j))
  rcases sg_part_key hg hp hj with ⟨rfl, rfl⟩ | ⟨a, b⟩
  · rw [sg_un_s]; exact n1 hk
  · rw [sg_un_n b, o _ b]; exact h s j hs a hk
theorem sg_part_3 {g : sg_T} {t nm u : Nat} {al ha v : Int32} {aA aH aV bA bH bV : Nat → Int32} (hg : sg_ok g) (hp : sg_p g t < 5)
    (h : ∀ s j, s < sg_n g → j < sg_p g s → sg_k g s = 9 → aA (5 * s + j) = sg_a g (5 * s + j) ∧ aH (5 * s + j) = sg_h g (5 * s + j) ∧ aV (5 * s + j) = sg_v g (5 * s + j))
    (oA : ∀ j, ¬ j = 5 * t + sg_p g t → bA j = aA j) (oH : ∀ j, ¬ j = 5 * t + sg_p g t → bH j = aH j) (oV : ∀ j, ¬ j = 5 * t + sg_p g t → bV j = aV j)
    (n1 : sg_k g t = 9 → bA (5 * t + sg_p g t) = al ∧ bH (5 * t + sg_p g t) = ha ∧ bV (5 * t + sg_p g t) = v) :
    ∀ s j, s < sg_n (sg_part g t nm u al ha v) → j < sg_p (sg_part g t nm u al ha v) s → sg_k (sg_part g t nm u al ha v) s = 9 → bA (5 * s + j) = sg_a (sg_part g t nm u al ha v) (5 * s + j) ∧ bH (5 * s + j) = sg_h (sg_part g t nm u al ha v) (5 * s + j) ∧ bV (5 * s + j) = sg_v (sg_part g t nm u al ha v) (5 * s + j) := by
  intro s j hs hj hk
  show bA (5 * s + j) = upd (sg_a g) (5 * t + sg_p g t) al (5 * s + j) ∧ bH (5 * s + j) = upd (sg_h g) (5 * t + sg_p g t) ha (5 * s + j) ∧ bV (5 * s + j) = upd (sg_v g) (5 * t + sg_p g t) v (5 * s + j)
  rcases sg_part_key hg hp hj with ⟨rfl, rfl⟩ | ⟨a, b⟩
  · rw [pk_us, pk_us, pk_us]; exact n1 hk
  · rw [pk_un b, pk_un b, pk_un b, oA _ b, oH _ b, oV _ b]; exact h s j hs a hk
theorem sg_part_X {g : sg_T} {t nm u : Nat} {al ha v : Int32} {aD aN aT aA aH aV bN bT bA bH bV : Nat → Int32} (hg : sg_ok g) (hp : sg_p g t < 5) (h : sg_X g aD aN aT aA aH aV)
    (oN : ∀ j, ¬ j = 5 * t + sg_p g t → bN j = aN j) (oT : ∀ j, ¬ j = 5 * t + sg_p g t → bT j = aT j)
    (oA : ∀ j, ¬ j = 5 * t + sg_p g t → bA j = aA j) (oH : ∀ j, ¬ j = 5 * t + sg_p g t → bH j = aH j) (oV : ∀ j, ¬ j = 5 * t + sg_p g t → bV j = aV j)
    (n1 : ¬ sg_k g t = 8 → bN (5 * t + sg_p g t) = nI nm) (n2 : sg_k g t = 8 → bN (5 * t + sg_p g t) = -1) (t1 : ¬ sg_k g t = 5 → bT (5 * t + sg_p g t) = nI u)
    (r1 : sg_k g t = 9 → bA (5 * t + sg_p g t) = al ∧ bH (5 * t + sg_p g t) = ha ∧ bV (5 * t + sg_p g t) = v) (r2 : ¬ sg_k g t = 9 → bA (5 * t + sg_p g t) = -1 ∧ bH (5 * t + sg_p g t) = 0)
    (hh : ∀ i, bH i = 0 ∨ bH i = 1) : sg_X (sg_part g t nm u al ha v) aD bN bT bA bH bV := by
  refine ⟨h.1, sg_part_1 hg hp h.2.1 oN n1, sg_part_2 hg hp h.2.2.1 oT t1, sg_part_3 hg hp h.2.2.2.1 oA oH oV r1, fun s j hs hj hk => ?_, fun s j hs hj hk => ?_, hh⟩
  · rcases sg_part_key hg hp hj with ⟨rfl, rfl⟩ | ⟨a, b⟩
    · exact n2 hk
    · rw [oN _ b]; exact h.2.2.2.2.1 s j hs a hk
  · rcases sg_part_key hg hp hj with ⟨rfl, rfl⟩ | ⟨a, b⟩
    · exact r2 hk
    · rw [oA _ b, oH _ b]; exact h.2.2.2.2.2.1 s j hs a hk
theorem sg_part_Y {g : sg_T} {t nm u : Nat} {al ha v : Int32} {aD aN aT aA aH aV bN bT bA bH bV : Nat → Int32} (hg : sg_ok g) (hp : sg_p g t < 5) (h : sg_Y g aD aN aT aA aH aV)
    (oN : ∀ j, ¬ j = 5 * t + sg_p g t → bN j = aN j) (oT : ∀ j, ¬ j = 5 * t + sg_p g t → bT j = aT j)
    (oA : ∀ j, ¬ j = 5 * t + sg_p g t → bA j = aA j) (oH : ∀ j, ¬ j = 5 * t + sg_p g t → bH j = aH j) (oV : ∀ j, ¬ j = 5 * t + sg_p g t → bV j = aV j)
    (n1 : ¬ sg_k g t = 8 → bN (5 * t + sg_p g t) = nI nm) (t1 : ¬ sg_k g t = 5 → bT (5 * t + sg_p g t) = nI u)
    (r1 : sg_k g t = 9 → bA (5 * t + sg_p g t) = al ∧ bH (5 * t + sg_p g t) = ha ∧ bV (5 * t + sg_p g t) = v)
    (hh : ∀ i, bH i = 0 ∨ bH i = 1) : sg_Y (sg_part g t nm u al ha v) aD bN bT bA bH bV :=
  ⟨h.1, sg_part_1 hg hp h.2.1 oN n1, sg_part_2 hg hp h.2.2.1 oT t1, sg_part_3 hg hp h.2.2.2.1 oA oH oV r1, hh⟩
end
section
/-! closed sets of pairs: safe (a default stands as type 20), same -/
def sf_ok (g : sg_T) (S : Nat → Nat → Prop) (w r : Nat) : Prop :=
  if w = 20 then
    (sg_k g r = 5 → 0 < sg_p g r) ∧ (sg_k g r = 8 → 0 < sg_p g r ∧ S 20 (sg_t g (5 * r))) ∧
    (sg_k g r = 9 → ∀ j, j < sg_p g r → ¬ sg_h g (5 * r + j) = 0 ∧ S 20 (sg_t g (5 * r + j)))
  else if sg_k g w = 8 then ∀ j, j < sg_p g w → S (sg_t g (5 * w + j)) r
  else if sg_k g r = 8 then ∃ j, sg_br g w r = some j ∧ S w (sg_t g (5 * r + j))
  else sg_su g w r = true ∧
    (sg_k g r = 5 → sg_f g r = -1 → ∀ j, j < sg_p g w → ¬ sg_find g r (nI (sg_m g (5 * w + j))) = none) ∧
    (sg_k g r = 9 → ∀ j, j < sg_p g r → (∀ q, sg_ff g w (5 * r + j) = some q → S (sg_t g (5 * w + q)) (sg_t g (5 * r + j))) ∧
      (sg_ff g w (5 * r + j) = none → ¬ sg_h g (5 * r + j) = 0 ∧ S 20 (sg_t g (5 * r + j)))) ∧
    (sg_k g r = 7 → S (sg_d g w) (sg_d g r))
theorem sf_mono {g : sg_T} {S T : Nat → Nat → Prop} (h : ∀ a b, S a b → T a b) {w r : Nat} (o : sf_ok g S w r) : sf_ok g T w r := by
  unfold sf_ok at o ⊢
  by_cases h20 : w = 20
  · rw [if_pos h20] at o ⊢
    exact ⟨o.1, fun z => ⟨(o.2.1 z).1, h _ _ (o.2.1 z).2⟩, fun z j hj => ⟨(o.2.2 z j hj).1, h _ _ (o.2.2 z j hj).2⟩⟩
  rw [if_neg h20] at o ⊢
  by_cases h8 : sg_k g w = 8
  · rw [if_pos h8] at o ⊢
    exact fun j hj => h _ _ (o j hj)
  rw [if_neg h8] at o ⊢
  by_cases r8 : sg_k g r = 8
  · rw [if_pos r8] at o ⊢
    obtain ⟨j, h1, h2⟩ := o
    exact ⟨j, h1, h _ _ h2⟩
  rw [if_neg r8] at o ⊢
  exact ⟨o.1, o.2.1, fun z j hj => ⟨fun q hq => h _ _ ((o.2.2.1 z j hj).1 q hq), fun hn => ⟨((o.2.2.1 z j hj).2 hn).1, h _ _ ((o.2.2.1 z j hj).2 hn).2⟩⟩, fun z => h _ _ (o.2.2.2 z)⟩
def sa_ok (g : sg_T) (S : Nat → Nat → Prop) (t u : Nat) : Prop :=
  sg_k g t = sg_k g u ∧ sg_p g t = sg_p g u ∧ (sg_k g t = 6 → sg_d g t = sg_d g u) ∧ (sg_k g t = 7 → S (sg_d g t) (sg_d g u)) ∧
  (sg_k g t = 5 → sg_f g t = sg_f g u) ∧
  ∀ j, j < sg_p g t → (¬ sg_k g t = 8 → sg_m g (5 * t + j) = sg_m g (5 * u + j)) ∧ (¬ sg_k g t = 5 → S (sg_t g (5 * t + j)) (sg_t g (5 * u + j))) ∧
    (sg_k g t = 9 → sg_a g (5 * t + j) = sg_a g (5 * u + j) ∧ sg_h g (5 * t + j) = sg_h g (5 * u + j) ∧ (¬ sg_h g (5 * t + j) = 0 → sg_v g (5 * t + j) = sg_v g (5 * u + j)))
theorem sa_mono {g : sg_T} {S T : Nat → Nat → Prop} (h : ∀ a b, S a b → T a b) {w r : Nat} (o : sa_ok g S w r) : sa_ok g T w r :=
  ⟨o.1, o.2.1, o.2.2.1, fun z => h _ _ (o.2.2.2.1 z), o.2.2.2.2.1, fun j hj => ⟨(o.2.2.2.2.2 j hj).1, fun z => h _ _ ((o.2.2.2.2.2 j hj).2.1 z), (o.2.2.2.2.2 j hj).2.2⟩⟩
theorem sa_flip {g : sg_T} {S : Nat → Nat → Prop} {t u : Nat} (o : sa_ok g S t u) : sa_ok g (fun a b => S b a) u t := by
  obtain ⟨h1, h2, h3, h4, h5, h6⟩ := o
  refine ⟨h1.symm, h2.symm, fun z => (h3 (h1.trans z)).symm, fun z => h4 (h1.trans z), fun z => (h5 (h1.trans z)).symm, fun j hj => ?_⟩
  obtain ⟨a, b, c⟩ := h6 j (by omega)
  refine ⟨fun z => (a (by omega)).symm, fun z => b (by omega), fun z => ?_⟩
  obtain ⟨c1, c2, c3⟩ := c (by omega)
  exact ⟨c1.symm, c2.symm, fun y => (c3 (by rw [c2]; exact y)).symm⟩
/-- in some closed set -/
def sc_in (ok : (Nat → Nat → Prop) → Nat → Nat → Prop) (a b : Nat) : Prop := ∃ S : Nat → Nat → Prop, (∀ x y, S x y → ok S x y) ∧ S a b
theorem sa_sym {g : sg_T} {t u : Nat} (h : sc_in (sa_ok g) t u) : sc_in (sa_ok g) u t := by
  obtain ⟨S, h1, h2⟩ := h
  exact ⟨fun a b => S b a, fun x y z => sa_flip (h1 y x z), h2⟩
/-! the class's queue: pr has c pairs, sn says which were seen -/
def sq_ok (c : Nat) (pr sn : Nat → Int32) : Prop :=
  c = sd_cn sn 420 ∧ (∀ i, sn i = 0 ∨ sn i = 1) ∧ (∀ j, j < c → ∃ i, i < 420 ∧ pr j = nI i ∧ ¬ sn i = 0) ∧ (∀ i, i < 420 → ¬ sn i = 0 → ∃ j, j < c ∧ pr j = nI i)
def sq_S (sn : Nat → Int32) (a b : Nat) : Prop := a ≤ 20 ∧ b < 20 ∧ ¬ sn (20 * a + b) = 0
def sq_V (n : Nat) (sn : Nat → Int32) : Prop := ∀ a b, sq_S sn a b → (a < n ∨ a = 20) ∧ b < n
def sq_next (n : Nat) (c : Nat) (pr sn : Nat → Int32) (c' : Nat) (pr' sn' : Nat → Int32) : Prop :=
  sq_ok c' pr' sn' ∧ c ≤ c' ∧ (∀ j, j < c → pr' j = pr j) ∧ sq_V n sn' ∧ (∀ a b, sq_S sn a b → sq_S sn' a b)
theorem sq_next_refl {n c : Nat} {pr sn : Nat → Int32} (h : sq_ok c pr sn) (v : sq_V n sn) : sq_next n c pr sn c pr sn :=
  ⟨h, Nat.le_refl _, fun _ _ => rfl, v, fun _ _ z => z⟩
theorem sq_next_trans {n c c' c'' : Nat} {pr sn pr' sn' pr'' sn'' : Nat → Int32} (h : sq_next n c pr sn c' pr' sn') (k : sq_next n c' pr' sn' c'' pr'' sn'') : sq_next n c pr sn c'' pr'' sn'' :=
  ⟨k.1, Nat.le_trans h.2.1 k.2.1, fun j hj => (k.2.2.1 j (Nat.lt_of_lt_of_le hj h.2.1)).trans (h.2.2.1 j hj), k.2.2.2.1, fun a b z => k.2.2.2.2 a b (h.2.2.2.2 a b z)⟩
theorem sq_lt {c : Nat} {pr sn : Nat → Int32} {i : Nat} (h : sq_ok c pr sn) (hi : i < 420) (h0 : sn i = 0) : c < 420 := by
  rw [h.1]; exact sd_cn_lt hi h0
theorem sq_add {n c : Nat} {pr sn : Nat → Int32} {a b : Nat} (hn : n ≤ 20) (h : sq_ok c pr sn) (v : sq_V n sn) (ha : a < n ∨ a = 20) (hb : b < n) (h0 : sn (20 * a + b) = 0) :
    sq_next n c pr sn (c + 1) (upd pr c (nI (20 * a + b))) (upd sn (20 * a + b) 1) ∧ (∀ x y, sq_S (upd sn (20 * a + b) 1) x y → sq_S sn x y ∨ (x = a ∧ y = b)) ∧ sq_S (upd sn (20 * a + b) 1) a b := by
  have hi : 20 * a + b < 420 := by omega
  have key : ∀ x y, sq_S (upd sn (20 * a + b) 1) x y → sq_S sn x y ∨ (x = a ∧ y = b) := by
    intro x y ⟨h1, h2, h3⟩
    by_cases e : 20 * x + y = 20 * a + b
    · exact Or.inr (by omega)
    · rw [pk_un e] at h3
      exact Or.inl ⟨h1, h2, h3⟩
  refine ⟨⟨⟨?_, fun i => ?_, fun j hj => ?_, fun i hi2 hs => ?_⟩, by omega, fun j hj => pk_un (by omega), ?_, ?_⟩, key, ⟨by omega, by omega, by rw [pk_us]; decide⟩⟩
  · rw [sd_cn_up (by decide) hi h0, ← h.1]
  · by_cases e : i = 20 * a + b
    · subst e; rw [pk_us]; exact Or.inr rfl
    · rw [pk_un e]; exact h.2.1 i
  · by_cases e : j = c
    · subst e
      exact ⟨20 * a + b, hi, pk_us, by rw [pk_us]; decide⟩
    · obtain ⟨i, h1, h2, h3⟩ := h.2.2.1 j (by omega)
      refine ⟨i, h1, by rw [pk_un e]; exact h2, ?_⟩
      by_cases e2 : i = 20 * a + b
      · subst e2; rw [pk_us]; decide
      · rw [pk_un e2]; exact h3
  · by_cases e : i = 20 * a + b
    · subst e; exact ⟨c, by omega, pk_us⟩
    · rw [pk_un e] at hs
      obtain ⟨j, h1, h2⟩ := h.2.2.2 i hi2 hs
      exact ⟨j, by omega, by rw [pk_un (by omega)]; exact h2⟩
  · intro x y z
    rcases key x y z with z | ⟨rfl, rfl⟩
    · exact v x y z
    · exact ⟨ha, hb⟩
  · intro x y ⟨h1, h2, h3⟩
    refine ⟨h1, h2, ?_⟩
    by_cases e : 20 * x + y = 20 * a + b
    · rw [e, pk_us]; decide
    · rw [pk_un e]; exact h3
end
section
/-! resolving as a pure machine: a list of items to do, how many RECORDs are open, the numbers given so far.
An item (tag, v, t, x): 0 the value v to type t; 1 the default x of type t; 2 a RECORD ends; 3 a field without value -/
abbrev sr_I : Type := Nat × Nat × Nat × Int32
/-- the tree that was read: how many, type, number, first byte, after, depth; the bytes -/
abbrev sr_V : Type := Nat × (Nat → Nat) × (Nat → Int64) × (Nat → Nat) × (Nat → Nat) × (Nat → Nat) × (Nat → Int32)
def sv_m (w : sr_V) : Nat := w.1
def sv_t (w : sr_V) : Nat → Nat := w.2.1
def sv_n (w : sr_V) : Nat → Int64 := w.2.2.1
def sv_f (w : sr_V) : Nat → Nat := w.2.2.2.1
def sv_a (w : sr_V) : Nat → Nat := w.2.2.2.2.1
def sv_d (w : sr_V) : Nat → Nat := w.2.2.2.2.2.1
def sv_b (w : sr_V) : Nat → Int32 := w.2.2.2.2.2.2
/-- child i of v, by the afters -/
def sv_ch (af : Nat → Nat) (v : Nat) : Nat → Nat
  | 0 => v + 1
  | i + 1 => af (sv_ch af v i)
theorem sv_ch_same {af bf : Nat → Nat} {v : Nat} : ∀ {i : Nat}, (∀ j, j < i → af (sv_ch af v j) = bf (sv_ch af v j)) → sv_ch bf v i = sv_ch af v i := by
  intro i
  induction i with
  | zero => intro _; rfl
  | succ i ih =>
    intro h
    rw [sv_ch, sv_ch, ih (fun j hj => h j (by omega)), ← h i (by omega)]
def sv_it (af : Nat → Nat) : Nat → Nat → Nat
  | c, 0 => c
  | c, k + 1 => sv_it af (af c) k
theorem sv_it_ch (af : Nat → Nat) (v : Nat) : ∀ i k, sv_it af (sv_ch af v i) k = sv_ch af v (i + k) := by
  intro i k
  induction k generalizing i with
  | zero => rfl
  | succ k ih =>
    have h := ih (i + 1)
    rw [show i + 1 + k = i + (k + 1) by omega] at h
    exact h
/-- bytes of the list -/
def sr_by (b : Nat → Int32) : Nat → Nat → List Int64
  | 0, _ => []
  | k + 1, i => (b i).toInt64 :: sr_by b k (i + 1)
theorem sr_by_len (b : Nat → Int32) : ∀ k i, (sr_by b k i).length = k := by
  intro k
  induction k with
  | zero => intro i; rfl
  | succ k ih => intro i; rw [sr_by, List.length_cons, ih]
def sr_rep (x : Int64) : Nat → List Int64
  | 0 => []
  | k + 1 => x :: sr_rep x k
theorem sr_rep_len (x : Int64) : ∀ k, (sr_rep x k).length = k := by
  intro k
  induction k with
  | zero => rfl
  | succ k ih => rw [sr_rep, List.length_cons, ih]
/-- k values at c and behind it, each to type t -/
def sr_items (w : sr_V) (t : Nat) : Nat → Nat → List sr_I
  | 0, _ => []
  | k + 1, c => (0, c, t, 0) :: sr_items w t k (sv_a w c)
theorem sr_items_len (w : sr_V) (t : Nat) : ∀ k c, (sr_items w t k c).length = k := by
  intro k
  induction k with
  | zero => intro c; rfl
  | succ k ih => intro c; rw [sr_items, List.length_cons, ih]
/-- field k of r, for a RECORD that was read (v below 400) or a default -/
def sr_dfi (g : sg_T) (i : Nat) : sr_I := if sg_h g i = 0 then (3, 0, 0, 0) else (1, 0, sg_t g i, sg_v g i)
def sr_fi (g : sg_T) (w : sr_V) (v r k : Nat) : sr_I :=
  if v < 400 then
    match sg_ff g (sv_t w v) (5 * r + k) with
    | some q => (0, sv_ch (sv_a w) v q, sg_t g (5 * r + k), 0)
    | none => sr_dfi g (5 * r + k)
  else sr_dfi g (5 * r + k)
def sr_fs (g : sg_T) (w : sr_V) (v r : Nat) : Nat → Nat → List sr_I
  | 0, _ => [(2, 0, 0, 0)]
  | l + 1, k => sr_fi g w v r k :: sr_fs g w v r l (k + 1)
theorem sr_fs_len (g : sg_T) (w : sr_V) (v r : Nat) : ∀ l k, (sr_fs g w v r l k).length = l + 1 := by
  intro l
  induction l with
  | zero => intro k; rfl
  | succ l ih => intro k; rw [sr_fs, List.length_cons, ih]
/-- what a step gives: numbers, trouble, new items, RECORDs open -/
abbrev sr_O : Type := List Int64 × Int32 × List sr_I × Nat
def sr_rec (g : sg_T) (w : sr_V) (v r d : Nat) : sr_O := if d = 10 then ([], -5, [], d) else ([], 0, sr_fs g w v r (sg_p g r) 0, d + 1)
def sr_val (g : sg_T) (w : sr_V) (v r d : Nat) : sr_O :=
  if sg_k g r = 4 then (sv_n w v :: sr_by (sv_b w) (sv_n w v).toInt32.toNatClampNeg (sv_f w v), 0, [], d)
  else if sg_k g r = 5 then
    (if sg_find g r (sv_n w v).toInt32 = none then
      (if sg_f g r = -1 then ([], -6, [], d) else ([(sg_f g r).toInt64], 0, [], d))
    else ([(sv_n w v).toInt32.toInt64], 0, [], d))
  else if sg_k g r = 6 then (sr_by (sv_b w) (sg_d g r) (sv_f w v), 0, [], d)
  else if sg_k g r = 7 then ([sv_n w v], 0, sr_items w (sg_d g r) (sv_n w v).toInt32.toNatClampNeg (v + 1), d)
  else if sg_k g r = 9 then sr_rec g w v r d
  else ([sv_n w v], 0, [], d)
def sr_in (g : sg_T) (w : sr_V) (v : Nat) : Nat := if sg_k g (sv_t w v) = 8 then v + 1 else v
def sr_turn (g : sg_T) (w : sr_V) (f r d : Nat) : sr_O :=
  if sg_k g r = 8 then
    match sg_br g (sv_t w (sr_in g w f)) r with
    | none => ([], -6, [], d)
    | some k => ((nI k).toInt64 :: (sr_val g w (sr_in g w f) (sg_t g (5 * r + k)) d).1, (sr_val g w (sr_in g w f) (sg_t g (5 * r + k)) d).2)
  else if sg_su g (sv_t w (sr_in g w f)) r = true then sr_val g w (sr_in g w f) r d
  else ([], -6, [], d)
/-- the number of the symbol that is the default -/
def sr_mod (x : Int32) (p : Nat) : Nat := (x.toInt % (p : Int)).toNat
def sr_dfl (g : sg_T) (w : sr_V) (t : Nat) (x : Int32) (d : Nat) : sr_O :=
  if sg_k g t = 1 then ([(x &&& 1).toInt64], 0, [], d)
  else if sg_k g t = 2 ∨ sg_k g t = 3 then ([x.toInt64], 0, [], d)
  else if sg_k g t = 4 then ([1, (x &&& 255).toInt64], 0, [], d)
  else if sg_k g t = 5 then (if sg_p g t = 0 then ([], -6, [], d) else ([(nI (sg_m g (5 * t + sr_mod x (sg_p g t)))).toInt64], 0, [], d))
  else if sg_k g t = 6 then (sr_rep (x &&& 255).toInt64 (sg_d g t), 0, [], d)
  else if sg_k g t = 9 then sr_rec g w (400 + d) t d
  else ([0], 0, [], d)
def sr_dft (g : sg_T) (w : sr_V) (t : Nat) (x : Int32) (d : Nat) : sr_O :=
  if sg_k g t = 8 then (if sg_p g t = 0 then ([], -6, [], d) else ([0], 0, [(1, 0, sg_t g (5 * t), x)], d))
  else sr_dfl g w t x d
def sr_stp (g : sg_T) (w : sr_V) (i : sr_I) (d : Nat) : sr_O :=
  if i.1 = 0 then sr_turn g w i.2.1 i.2.2.1 d
  else if i.1 = 1 then sr_dft g w i.2.2.1 i.2.2.2 d
  else if i.1 = 2 then ([], 0, [], d - 1)
  else ([], -6, [], d)

/-! runs -/
def sr_step (g : sg_T) (w : sr_V) (c : List sr_I) (d : Nat) (L : List Int64) (c' : List sr_I) (d' : Nat) (L' : List Int64) : Prop :=
  ∃ it rest, c = it :: rest ∧ (sr_stp g w it d).2.1 = 0 ∧ L.length + (sr_stp g w it d).1.length ≤ 150 ∧
    c' = (sr_stp g w it d).2.2.1 ++ rest ∧ d' = (sr_stp g w it d).2.2.2 ∧ L' = L ++ (sr_stp g w it d).1
def sr_cert (g : sg_T) (w : sr_V) (c : List sr_I) (d : Nat) (L : List Int64) (c' : List sr_I) (d' : Nat) (L' : List Int64) : Prop :=
  ∀ P : List sr_I → Nat → List Int64 → Prop, (∀ a x A b y B, sr_step g w a x A b y B → P b y B → P a x A) → P c' d' L' → P c d L
def sr_fin (g : sg_T) (w : sr_V) (c : List sr_I) (d : Nat) (L : List Int64) (e : Int32) : Prop :=
  (c = [] ∧ e = 0) ∨ ∃ it rest, c = it :: rest ∧
    ((150 < L.length + (sr_stp g w it d).1.length ∧ e = -7) ∨ (L.length + (sr_stp g w it d).1.length ≤ 150 ∧ (sr_stp g w it d).2.1 = e ∧ ¬ e = 0))
def sr_q (g : sg_T) (w : sr_V) (c : List sr_I) (d : Nat) (c' : List sr_I) (d' : Nat) : Prop :=
  ∃ it rest, c = it :: rest ∧ (sr_stp g w it d).2.1 = 0 ∧ (sr_stp g w it d).1 = [] ∧ c' = (sr_stp g w it d).2.2.1 ++ rest ∧ d' = (sr_stp g w it d).2.2.2
def sr_qt (g : sg_T) (w : sr_V) (c : List sr_I) (d : Nat) (c' : List sr_I) (d' : Nat) : Prop :=
  ∀ P : List sr_I → Nat → Prop, (∀ a x b y, sr_q g w a x b y → P b y → P a x) → P c' d' → P c d
theorem sr_cert_refl {g : sg_T} {w : sr_V} {c : List sr_I} {d : Nat} {L : List Int64} : sr_cert g w c d L c d L := fun _ _ h => h
theorem sr_cert_trans {g : sg_T} {w : sr_V} {c c' c'' : List sr_I} {d d' d'' : Nat} {L L' L'' : List Int64} (h : sr_cert g w c d L c' d' L') (k : sr_cert g w c' d' L' c'' d'' L'') : sr_cert g w c d L c'' d'' L'' :=
  fun P s z => h P s (k P s z)
theorem sr_cert_step {g : sg_T} {w : sr_V} {c c' : List sr_I} {d d' : Nat} {L L' : List Int64} (h : sr_step g w c d L c' d' L') : sr_cert g w c d L c' d' L' :=
  fun _ s z => s _ _ _ _ _ _ h z
theorem sr_qt_refl {g : sg_T} {w : sr_V} {c : List sr_I} {d : Nat} : sr_qt g w c d c d := fun _ _ h => h
theorem sr_qt_trans {g : sg_T} {w : sr_V} {c c' c'' : List sr_I} {d d' d'' : Nat} (h : sr_qt g w c d c' d') (k : sr_qt g w c' d' c'' d'') : sr_qt g w c d c'' d'' :=
  fun P s z => h P s (k P s z)
theorem sr_qt_step {g : sg_T} {w : sr_V} {c c' : List sr_I} {d d' : Nat} (h : sr_q g w c d c' d') : sr_qt g w c d c' d' :=
  fun _ s z => s _ _ _ _ h z
theorem sr_q_frame {g : sg_T} {w : sr_V} {c c' : List sr_I} {d d' : Nat} (h : sr_q g w c d c' d') (R : List sr_I) : sr_q g w (c ++ R) d (c' ++ R) d' := by
  obtain ⟨it, rest, rfl, h1, h2, rfl, h3⟩ := h
  exact ⟨it, rest ++ R, rfl, h1, h2, List.append_assoc _ _ _, h3⟩
theorem sr_qt_frame {g : sg_T} {w : sr_V} {c c' : List sr_I} {d d' : Nat} (h : sr_qt g w c d c' d') (R : List sr_I) : sr_qt g w (c ++ R) d (c' ++ R) d' :=
  fun P s z => h (fun a x => P (a ++ R) x) (fun a x b y q k => s _ _ _ _ (sr_q_frame q R) k) z
theorem sr_q_qstep {g : sg_T} {w : sr_V} {c c' : List sr_I} {d d' : Nat} {L : List Int64} (hL : L.length ≤ 150) (h : sr_q g w c d c' d') : sr_step g w c d L c' d' L := by
  obtain ⟨it, rest, h0, h1, h2, h3, h4⟩ := h
  refine ⟨it, rest, h0, h1, ?_, h3, h4, ?_⟩
  · rw [h2]; exact hL
  · rw [h2, List.append_nil]
theorem sr_qt_cert {g : sg_T} {w : sr_V} {c c' : List sr_I} {d d' : Nat} {L : List Int64} (hL : L.length ≤ 150) (h : sr_qt g w c d c' d') : sr_cert g w c d L c' d' L :=
  fun P s z => h (fun a x => P a x L) (fun _ _ _ _ q k => s _ _ _ _ _ _ (sr_q_qstep hL q) k) z
theorem sr_q_of_step {g : sg_T} {w : sr_V} {c c' : List sr_I} {d d' : Nat} {L : List Int64} (h : sr_step g w c d L c' d' L) : sr_q g w c d c' d' := by
  obtain ⟨it, rest, h0, h1, h2, h3, h4, h5⟩ := h
  refine ⟨it, rest, h0, h1, ?_, h3, h4⟩
  have h6 := congrArg List.length h5
  rw [List.length_append] at h6
  exact List.length_eq_zero_iff.mp (by omega)
end
section
/-! what is known of the tree that was read, and of the items to do -/
def sv_cnt (g : sg_T) (w : sr_V) (v : Nat) : Nat :=
  if sg_k g (sv_t w v) = 8 then 1 else if sg_k g (sv_t w v) = 9 then sg_p g (sv_t w v) else if sg_k g (sv_t w v) = 7 then (sv_n w v).toInt32.toNatClampNeg else 0
def sv_one (g : sg_T) (w : sr_V) (v : Nat) : Prop :=
  sv_t w v < sg_n g ∧ v < sv_a w v ∧ sv_d w v ≤ 10 ∧ sv_ch (sv_a w) v (sv_cnt g w v) ≤ sv_a w v ∧
  (∀ i, i < sv_cnt g w v → v < sv_ch (sv_a w) v i ∧ sv_ch (sv_a w) v i < sv_m w ∧ sv_d w (sv_ch (sv_a w) v i) = sv_d w v + (if sg_k g (sv_t w v) = 9 then 1 else 0)) ∧
  (sg_k g (sv_t w v) = 4 → ∃ c : Nat, c ≤ 20 ∧ sv_n w v = lN c ∧ sv_f w v + c ≤ 100) ∧
  (sg_k g (sv_t w v) = 5 → ∃ c : Nat, c < 16 ∧ sv_n w v = lN c) ∧
  (sg_k g (sv_t w v) = 6 → sv_f w v + sg_d g (sv_t w v) ≤ 100) ∧
  (sg_k g (sv_t w v) = 7 → ∃ c : Nat, c ≤ 40 ∧ sv_n w v = lN c) ∧ (sg_k g (sv_t w v) = 0 → sv_n w v = 0)
def sv_ok (g : sg_T) (w : sr_V) : Prop := sv_m w ≤ 400 ∧ (∀ v, v < sv_m w → sv_one g w v)
/-- the tree is whole, and the afters stay within -/
def sv_full (g : sg_T) (w : sr_V) : Prop := sv_ok g w ∧ ∀ v, v < sv_m w → sv_a w v ≤ sv_m w

def sr_use (w : sr_V) (i : sr_I) (d : Nat) : Nat :=
  if i.1 = 0 then 6 * (11 - d) + (sv_a w i.2.1 - i.2.1) else if i.1 = 1 then 6 * (11 - d) + 1 else 1
def sr_iok (g : sg_T) (w : sr_V) (i : sr_I) (d : Nat) : Prop :=
  (i.1 = 0 → i.2.1 < sv_m w ∧ i.2.2.1 < sg_n g ∧ sv_d w i.2.1 = d) ∧ (i.1 = 1 → i.2.2.1 < sg_n g)
def sr_good (g : sg_T) (w : sr_V) : List sr_I → Nat → Prop
  | [], _ => True
  | i :: rest, d => d ≤ 10 ∧ sr_iok g w i d ∧ sr_use w i d + rest.length ≤ 1000 ∧ (if i.1 = 2 then 1 ≤ d ∧ sr_good g w rest (d - 1) else sr_good g w rest d)

theorem sr_good_fs {g : sg_T} {w : sr_V} {v r d : Nat} {rest : List sr_I} (S : Nat) (hd : d < 10) (hg : sr_good g w rest d)
    (hi : ∀ k, k < sg_p g r → sr_iok g w (sr_fi g w v r k) (d + 1) ∧ sr_use w (sr_fi g w v r k) (d + 1) ≤ 6 * (10 - d) + S ∧ ¬ (sr_fi g w v r k).1 = 2) :
    ∀ l k, k + l = sg_p g r → 6 * (10 - d) + S + l + rest.length ≤ 1000 → sr_good g w (sr_fs g w v r l k ++ rest) (d + 1) := by
  intro l
  induction l with
  | zero =>
    intro k _ hb
    refine ⟨by omega, ⟨fun z => absurd z (by decide), fun z => absurd z (by decide)⟩, ?_, ?_⟩
    · show (1 : Nat) + rest.length ≤ 1000
      omega
    · exact (if_pos (c := (2 : Nat) = 2) rfl).mpr ⟨by omega, hg⟩
  | succ l ih =>
    intro k hk hb
    obtain ⟨h1, h2, h3⟩ := hi k (by omega)
    refine ⟨by omega, h1, ?_, ?_⟩
    · show sr_use w (sr_fi g w v r k) (d + 1) + (sr_fs g w v r l (k + 1) ++ rest).length ≤ 1000
      rw [List.length_append, sr_fs_len]
      omega
    · exact (if_neg h3).mpr (ih (k + 1) (by omega) (by omega))
theorem sr_fi_tag (g : sg_T) (w : sr_V) (v r k : Nat) : ¬ (sr_fi g w v r k).1 = 2 := by
  unfold sr_fi sr_dfi
  by_cases h : v < 400
  · rw [if_pos h]
    cases sg_ff g (sv_t w v) (5 * r + k) with
    | some q => exact fun z => absurd z (by first | decide | (intro q; cases q))
    | none =>
      by_cases h2 : sg_h g (5 * r + k) = 0
      · simp only [h2, if_true]; exact fun z => absurd z (by first | decide | (intro q; cases q))
      · simp only [h2, if_false]; exact fun z => absurd z (by first | decide | (intro q; cases q))
  · rw [if_neg h]
    by_cases h2 : sg_h g (5 * r + k) = 0
    · rw [if_pos h2]; exact fun z => absurd z (by first | decide | (intro q; cases q))
    · rw [if_neg h2]; exact fun z => absurd z (by first | decide | (intro q; cases q))
theorem sr_dfi_ok {g : sg_T} {w : sr_V} {r k d : Nat} (hg : sg_ok g) (hr : r < sg_n g) (hk : sg_k g r = 9) (hp : k < sg_p g r) :
    sr_iok g w (sr_dfi g (5 * r + k)) d ∧ sr_use w (sr_dfi g (5 * r + k)) d ≤ 6 * (11 - d) + 1 := by
  unfold sr_dfi
  by_cases h2 : sg_h g (5 * r + k) = 0
  · rw [if_pos h2]
    refine ⟨⟨fun z => absurd z (by decide), fun z => absurd z (by decide)⟩, ?_⟩
    show (1 : Nat) ≤ _
    omega
  · rw [if_neg h2]
    refine ⟨⟨fun z => absurd (show (1 : Nat) = 0 from z) (by decide), fun _ => hg.2.2.2.2.2.2.2.1 r k hr hp (by omega)⟩, ?_⟩
    show 6 * (11 - d) + 1 ≤ _
    omega
theorem sv_cnt9 {g : sg_T} {w : sr_V} {v : Nat} (h : sg_k g (sv_t w v) = 9) : sv_cnt g w v = sg_p g (sv_t w v) := by
  unfold sv_cnt
  rw [if_neg (by omega), if_pos h]
theorem sv_cnt8 {g : sg_T} {w : sr_V} {v : Nat} (h : sg_k g (sv_t w v) = 8) : sv_cnt g w v = 1 := by
  unfold sv_cnt
  rw [if_pos h]
theorem sv_cnt7 {g : sg_T} {w : sr_V} {v : Nat} (h : sg_k g (sv_t w v) = 7) : sv_cnt g w v = (sv_n w v).toInt32.toNatClampNeg := by
  unfold sv_cnt
  rw [if_neg (by omega), if_neg (by omega), if_pos h]
/-- children behind one another -/
theorem sv_ch_up {g : sg_T} {w : sr_V} {v : Nat} (hw : sv_ok g w) (hv : v < sv_m w) : ∀ e i, i + e ≤ sv_cnt g w v → sv_ch (sv_a w) v i + e ≤ sv_ch (sv_a w) v (i + e) := by
  intro e
  induction e with
  | zero => intro i _; exact Nat.le_refl _
  | succ e ih =>
    intro i h
    have h1 := ih i (by omega)
    have h2 := ((hw.2 v hv).2.2.2.2.1 (i + e) (by omega)).2.1
    have h3 := (hw.2 _ h2).2.1
    have h4 : sv_ch (sv_a w) v (i + (e + 1)) = sv_a w (sv_ch (sv_a w) v (i + e)) := rfl
    omega
theorem sv_ch_end {g : sg_T} {w : sr_V} {v i : Nat} (hw : sv_ok g w) (hv : v < sv_m w) (hi : i < sv_cnt g w v) : sv_a w (sv_ch (sv_a w) v i) + (sv_cnt g w v - i - 1) ≤ sv_a w v := by
  have h1 := sv_ch_up hw hv (sv_cnt g w v - i - 1) (i + 1) (by omega)
  have h2 := (hw.2 v hv).2.2.2.1
  have h3 : i + 1 + (sv_cnt g w v - i - 1) = sv_cnt g w v := by omega
  rw [h3] at h1
  have h4 : sv_ch (sv_a w) v (i + 1) = sv_a w (sv_ch (sv_a w) v i) := rfl
  omega
theorem sr_good_items {g : sg_T} {w : sr_V} {v t d : Nat} {rest : List sr_I} (hw : sv_ok g w) (hv : v < sv_m w) (ht : t < sg_n g) (h7 : sg_k g (sv_t w v) = 7) (hd : d ≤ 10) (hdv : sv_d w v = d)
    (hg : sr_good g w rest d) (hb : 6 * (11 - d) + (sv_a w v - v) + rest.length ≤ 1000) :
    ∀ k i, i + k = sv_cnt g w v → sr_good g w (sr_items w t k (sv_ch (sv_a w) v i) ++ rest) d := by
  intro k
  induction k with
  | zero => intro i _; exact hg
  | succ k ih =>
    intro i hi
    obtain ⟨h1, h2, h3⟩ := (hw.2 v hv).2.2.2.2.1 i (by omega)
    rw [if_neg (by omega)] at h3
    refine ⟨hd, ⟨fun _ => ⟨h2, ht, by show sv_d w (sv_ch (sv_a w) v i) = d; omega⟩, fun z => absurd (show (0 : Nat) = 1 from z) (by decide)⟩, ?_, ?_⟩
    · show 6 * (11 - d) + (sv_a w (sv_ch (sv_a w) v i) - sv_ch (sv_a w) v i) + (sr_items w t k (sv_ch (sv_a w) v (i + 1)) ++ rest).length ≤ 1000
      rw [List.length_append, sr_items_len]
      have h4 := sv_ch_end hw hv (i := i) (by omega)
      have h5 := (hw.2 _ h2).2.1
      omega
    · exact (if_neg (c := (0 : Nat) = 2) (by omega)).mpr (ih (i + 1) (by omega))
theorem sr_fi_ok {g : sg_T} {w : sr_V} {v r k d : Nat} (hg : sg_ok g) (hw : sv_ok g w) (hr : r < sg_n g) (hk : sg_k g r = 9) (hp : k < sg_p g r)
    (hv : v < 400 → v < sv_m w ∧ sg_k g (sv_t w v) = 9 ∧ sv_d w v = d) :
    sr_iok g w (sr_fi g w v r k) (d + 1) ∧ sr_use w (sr_fi g w v r k) (d + 1) ≤ 6 * (10 - d) + (if v < 400 then sv_a w v - v else 1) ∧ ¬ (sr_fi g w v r k).1 = 2 := by
  refine ⟨?_, ?_, sr_fi_tag g w v r k⟩
  · unfold sr_fi
    by_cases h : v < 400
    · rw [if_pos h]
      obtain ⟨h1, h2, h3⟩ := hv h
      cases e : sg_ff g (sv_t w v) (5 * r + k) with
      | none => exact (sr_dfi_ok hg hr hk hp).1
      | some q =>
        have h4 := sg_ff_lt e
        obtain ⟨h5, h6, h7⟩ := (hw.2 v h1).2.2.2.2.1 q (by rw [sv_cnt9 h2]; exact h4)
        rw [if_pos h2] at h7
        exact ⟨fun _ => ⟨h6, hg.2.2.2.2.2.2.2.1 r k hr hp (by omega), by show sv_d w (sv_ch (sv_a w) v q) = d + 1; omega⟩, fun z => absurd (show (0 : Nat) = 1 from z) (by decide)⟩
    · rw [if_neg h]
      exact (sr_dfi_ok hg hr hk hp).1
  · have hdf := (sr_dfi_ok (w := w) (d := d + 1) hg hr hk hp).2
    unfold sr_fi
    by_cases h : v < 400
    · rw [if_pos h, if_pos h]
      obtain ⟨h1, h2, h3⟩ := hv h
      have ha := (hw.2 v h1).2.1
      cases e : sg_ff g (sv_t w v) (5 * r + k) with
      | none =>
        show sr_use w (sr_dfi g (5 * r + k)) (d + 1) ≤ _
        omega
      | some q =>
        have h4 := sg_ff_lt e
        have hq : q < sv_cnt g w v := by rw [sv_cnt9 h2]; exact h4
        obtain ⟨h5, h6, h7⟩ := (hw.2 v h1).2.2.2.2.1 q hq
        have h8 := sv_ch_end hw h1 hq
        show 6 * (11 - (d + 1)) + (sv_a w (sv_ch (sv_a w) v q) - sv_ch (sv_a w) v q) ≤ _
        omega
    · rw [if_neg h, if_neg h]
      omega
end
section
/-! a step keeps the items good -/
theorem sr_su_k {g : sg_T} {w r : Nat} (h : sg_su g w r = true) : sg_k g w = sg_k g r ∨ (sg_k g w = 2 ∧ sg_k g r = 3) := by
  have h2 := of_decide_eq_true h
  rcases h2 with h3 | h3
  · exact Or.inl h3.1
  · exact Or.inr h3
theorem sr_good_rec {g : sg_T} {w : sr_V} {v r d : Nat} {rest : List sr_I} (hg : sg_ok g) (hw : sv_ok g w) (hr : r < sg_n g) (hk : sg_k g r = 9)
    (hv : v < 400 → v < sv_m w ∧ sg_k g (sv_t w v) = 9 ∧ sv_d w v = d) (hR : sr_good g w rest d) (hd : d ≤ 10)
    (hb : 6 * (11 - d) + (if v < 400 then sv_a w v - v else 1) + rest.length ≤ 1000) (h0 : (sr_rec g w v r d).2.1 = 0) :
    sr_good g w ((sr_rec g w v r d).2.2.1 ++ rest) (sr_rec g w v r d).2.2.2 := by
  unfold sr_rec at h0 ⊢
  by_cases h : d = 10
  · rw [if_pos h] at h0
    exact absurd (show (-5 : Int32) = 0 from h0) (by decide)
  · rw [if_neg h]
    have h5 := hg.2.2.1 r
    exact sr_good_fs (if v < 400 then sv_a w v - v else 1) (by omega) hR (fun k hp => sr_fi_ok hg hw hr hk hp hv) (sg_p g r) 0 (by omega) (by omega)
theorem sr_good_val {g : sg_T} {w : sr_V} {v r d : Nat} {rest : List sr_I} (hg : sg_ok g) (hw : sv_ok g w) (hr : r < sg_n g) (hv : v < sv_m w) (hdv : sv_d w v = d)
    (hs : sg_su g (sv_t w v) r = true) (hR : sr_good g w rest d) (hd : d ≤ 10)
    (hb : 6 * (11 - d) + (sv_a w v - v) + rest.length ≤ 1000) (h0 : (sr_val g w v r d).2.1 = 0) :
    sr_good g w ((sr_val g w v r d).2.2.1 ++ rest) (sr_val g w v r d).2.2.2 := by
  unfold sr_val at h0 ⊢
  by_cases h4 : sg_k g r = 4
  · rw [if_pos h4]; exact hR
  rw [if_neg h4] at h0 ⊢
  by_cases h5 : sg_k g r = 5
  · rw [if_pos h5] at h0 ⊢
    by_cases e : sg_find g r (sv_n w v).toInt32 = none
    · rw [if_pos e] at h0 ⊢
      by_cases e2 : sg_f g r = -1
      · rw [if_pos e2] at h0 ⊢; exact hR
      · rw [if_neg e2] at h0 ⊢; exact hR
    · rw [if_neg e] at h0 ⊢; exact hR
  rw [if_neg h5] at h0 ⊢
  by_cases h6 : sg_k g r = 6
  · rw [if_pos h6]; exact hR
  rw [if_neg h6] at h0 ⊢
  by_cases h7 : sg_k g r = 7
  · rw [if_pos h7] at h0 ⊢
    have h8 : sg_k g (sv_t w v) = 7 := by
      rcases sr_su_k hs with h | h <;> omega
    have hc := sv_cnt7 h8
    exact sr_good_items hw hv (hg.2.2.2.2.2.1 r hr h7) h8 hd hdv hR hb _ 0 (by rw [hc]; omega)
  rw [if_neg h7] at h0 ⊢
  by_cases h9 : sg_k g r = 9
  · rw [if_pos h9] at h0 ⊢
    have h8 : sg_k g (sv_t w v) = 9 := by
      rcases sr_su_k hs with h | h <;> omega
    have h400 : v < 400 := Nat.lt_of_lt_of_le hv hw.1
    exact sr_good_rec hg hw hr h9 (fun _ => ⟨hv, h8, hdv⟩) hR hd (by rw [if_pos h400]; exact hb) h0
  · rw [if_neg h9]; exact hR
theorem sr_in_ok {g : sg_T} {w : sr_V} {f : Nat} (hw : sv_ok g w) (hf : f < sv_m w) :
    sr_in g w f < sv_m w ∧ sv_d w (sr_in g w f) = sv_d w f ∧ sv_a w (sr_in g w f) - sr_in g w f ≤ sv_a w f - f := by
  unfold sr_in
  by_cases h : sg_k g (sv_t w f) = 8
  · rw [if_pos h]
    have hc : 0 < sv_cnt g w f := by rw [sv_cnt8 h]; omega
    obtain ⟨h1, h2, h3⟩ := (hw.2 f hf).2.2.2.2.1 0 hc
    have h4 := sv_ch_end hw hf hc
    rw [if_neg (by omega)] at h3
    have e : sv_ch (sv_a w) f 0 = f + 1 := rfl
    rw [e] at h1 h2 h3 h4
    exact ⟨h2, h3, by omega⟩
  · rw [if_neg h]
    exact ⟨hf, rfl, Nat.le_refl _⟩
theorem sr_good_turn {g : sg_T} {w : sr_V} {f r d : Nat} {rest : List sr_I} (hg : sg_ok g) (hw : sv_ok g w) (hr : r < sg_n g) (hf : f < sv_m w) (hdv : sv_d w f = d)
    (hR : sr_good g w rest d) (hd : d ≤ 10)
    (hb : 6 * (11 - d) + (sv_a w f - f) + rest.length ≤ 1000) (h0 : (sr_turn g w f r d).2.1 = 0) :
    sr_good g w ((sr_turn g w f r d).2.2.1 ++ rest) (sr_turn g w f r d).2.2.2 := by
  obtain ⟨h1, h2, h3⟩ := sr_in_ok hw hf
  unfold sr_turn at h0 ⊢
  by_cases h8 : sg_k g r = 8
  · rw [if_pos h8] at h0 ⊢
    cases e : sg_br g (sv_t w (sr_in g w f)) r with
    | none => rw [e] at h0; exact absurd (show (-6 : Int32) = 0 from h0) (by decide)
    | some k =>
      rw [e] at h0
      obtain ⟨h4, h5⟩ := sg_br_lt e
      exact sr_good_val hg hw (hg.2.2.2.2.2.2.2.1 r k hr h4 (by omega)) h1 (by omega) h5 hR hd (by omega) h0
  · rw [if_neg h8] at h0 ⊢
    by_cases hs : sg_su g (sv_t w (sr_in g w f)) r = true
    · rw [if_pos hs] at h0 ⊢
      exact sr_good_val hg hw hr h1 (by omega) hs hR hd (by omega) h0
    · rw [if_neg hs] at h0
      exact absurd (show (-6 : Int32) = 0 from h0) (by decide)
theorem sr_good_dfl {g : sg_T} {w : sr_V} {t d : Nat} {x : Int32} {rest : List sr_I} (hg : sg_ok g) (hw : sv_ok g w) (ht : t < sg_n g)
    (hR : sr_good g w rest d) (hd : d ≤ 10)
    (hb : 6 * (11 - d) + 1 + rest.length ≤ 1000) (h0 : (sr_dfl g w t x d).2.1 = 0) :
    sr_good g w ((sr_dfl g w t x d).2.2.1 ++ rest) (sr_dfl g w t x d).2.2.2 := by
  unfold sr_dfl at h0 ⊢
  by_cases h1 : sg_k g t = 1
  · rw [if_pos h1]; exact hR
  rw [if_neg h1] at h0 ⊢
  by_cases h2 : sg_k g t = 2 ∨ sg_k g t = 3
  · rw [if_pos h2]; exact hR
  rw [if_neg h2] at h0 ⊢
  by_cases h4 : sg_k g t = 4
  · rw [if_pos h4]; exact hR
  rw [if_neg h4] at h0 ⊢
  by_cases h5 : sg_k g t = 5
  · rw [if_pos h5] at h0 ⊢
    by_cases e : sg_p g t = 0
    · rw [if_pos e] at h0 ⊢; exact hR
    · rw [if_neg e] at h0 ⊢; exact hR
  rw [if_neg h5] at h0 ⊢
  by_cases h6 : sg_k g t = 6
  · rw [if_pos h6]; exact hR
  rw [if_neg h6] at h0 ⊢
  by_cases h9 : sg_k g t = 9
  · rw [if_pos h9] at h0 ⊢
    exact sr_good_rec hg hw ht h9 (fun z => absurd z (by omega)) hR hd (by rw [if_neg (by omega)]; exact hb) h0
  · rw [if_neg h9]; exact hR
theorem sr_good_dft {g : sg_T} {w : sr_V} {t d : Nat} {x : Int32} {rest : List sr_I} (hg : sg_ok g) (hw : sv_ok g w) (ht : t < sg_n g)
    (hR : sr_good g w rest d) (hd : d ≤ 10)
    (hb : 6 * (11 - d) + 1 + rest.length ≤ 1000) (h0 : (sr_dft g w t x d).2.1 = 0) :
    sr_good g w ((sr_dft g w t x d).2.2.1 ++ rest) (sr_dft g w t x d).2.2.2 := by
  unfold sr_dft at h0 ⊢
  by_cases h8 : sg_k g t = 8
  · rw [if_pos h8] at h0 ⊢
    by_cases e : sg_p g t = 0
    · rw [if_pos e] at h0 ⊢; exact hR
    · rw [if_neg e] at h0 ⊢
      have ht2 := hg.2.2.2.2.2.2.2.1 t 0 ht (by omega) (by omega)
      refine ⟨hd, ⟨fun z => absurd (show (1 : Nat) = 0 from z) (by decide), fun _ => ht2⟩, ?_, ?_⟩
      · show 6 * (11 - d) + 1 + rest.length ≤ 1000
        exact hb
      · exact (if_neg (c := (1 : Nat) = 2) (by omega)).mpr hR
  · rw [if_neg h8] at h0 ⊢
    exact sr_good_dfl hg hw ht hR hd hb h0
theorem sr_good_stp {g : sg_T} {w : sr_V} {i : sr_I} {d : Nat} {rest : List sr_I} (hg : sg_ok g) (hw : sv_ok g w) (hR : sr_good g w (i :: rest) d)
    (h0 : (sr_stp g w i d).2.1 = 0) : sr_good g w ((sr_stp g w i d).2.2.1 ++ rest) (sr_stp g w i d).2.2.2 := by
  obtain ⟨hd, ⟨ho1, ho2⟩, hu, hr⟩ := hR
  unfold sr_use at hu
  unfold sr_stp at h0 ⊢
  by_cases e0 : i.1 = 0
  · rw [if_pos e0] at h0 hu ⊢
    rw [if_neg (by omega)] at hr
    obtain ⟨a1, a2, a3⟩ := ho1 e0
    exact sr_good_turn hg hw a2 a1 a3 hr hd hu h0
  rw [if_neg e0] at h0 hu ⊢
  by_cases e1 : i.1 = 1
  · rw [if_pos e1] at h0 hu ⊢
    rw [if_neg (by omega)] at hr
    exact sr_good_dft hg hw (ho2 e1) hr hd hu h0
  rw [if_neg e1] at h0 hu ⊢
  by_cases e2 : i.1 = 2
  · rw [if_pos e2] at h0 hr ⊢
    exact hr.2
  · rw [if_neg e2] at h0
    exact absurd (show (-6 : Int32) = 0 from h0) (by decide)
theorem sr_good_step {g : sg_T} {w : sr_V} {c c' : List sr_I} {d d' : Nat} {L L' : List Int64} (hg : sg_ok g) (hw : sv_ok g w) (hR : sr_good g w c d)
    (h : sr_step g w c d L c' d' L') : sr_good g w c' d' := by
  obtain ⟨i, rest, rfl, h0, _, rfl, rfl, _⟩ := h
  exact sr_good_stp hg hw hR h0
end
section
/-! the class's stack of frames (value, type, step, left, start), the top first, against the machine -/
abbrev sx_F : Type := Nat × Nat × Nat × Nat × Nat
def sx_seg (g : sg_T) (w : sr_V) (f : sx_F) : List sr_I :=
  if sg_k g f.2.1 = 7 then sr_items w (sg_d g f.2.1) f.2.2.2.1 f.2.2.1 else sr_fs g w f.1 f.2.1 f.2.2.2.1 f.2.2.1
def sx_td (g : sg_T) (w : sr_V) : List sx_F → List sr_I
  | [] => []
  | f :: F => sx_seg g w f ++ sx_td g w F
def sx_rc (g : sg_T) : List sx_F → Nat
  | [] => 0
  | f :: F => sx_rc g F + (if sg_k g f.2.1 = 9 then 1 else 0)
def sx_op (g : sg_T) (lc : Nat) : List sx_F → Nat
  | [] => 0
  | f :: F => sx_op g lc F + (if sg_k g f.2.1 = 9 ∧ f.2.2.2.2 = lc then 1 else 0)
def sx_sm : List sx_F → Nat
  | [] => 0
  | f :: F => sx_sm F + f.2.2.2.1 + 1
def sx_one (g : sg_T) (w : sr_V) (lc : Nat) (mk : Nat → Int32) (f : sx_F) (F : List sx_F) : Prop :=
  f.2.1 < sg_n g ∧ f.2.2.2.2 ≤ lc ∧ (∀ e, e ∈ F → e.1 < f.1) ∧
  ((sg_k g f.2.1 = 7 ∧ f.1 < sv_m w ∧ sg_k g (sv_t w f.1) = 7 ∧ sv_d w f.1 = sx_rc g F ∧ ∃ i, f.2.2.1 = sv_ch (sv_a w) f.1 i ∧ i + f.2.2.2.1 = sv_cnt g w f.1) ∨
   (sg_k g f.2.1 = 9 ∧ f.2.2.1 + f.2.2.2.1 = sg_p g f.2.1 ∧ mk (20 * f.1 + f.2.1) = 0 ∧
    (f.1 < 400 → f.1 < sv_m w ∧ sg_k g (sv_t w f.1) = 9 ∧ sv_d w f.1 = sx_rc g F) ∧ (¬ f.1 < 400 → f.1 = 400 + sx_rc g F)))
def sx_ok (g : sg_T) (w : sr_V) (lc : Nat) (mk : Nat → Int32) : List sx_F → Prop
  | [] => True
  | f :: F => sx_one g w lc mk f F ∧ sx_ok g w lc mk F
def sx_qi (g : sg_T) (w : sr_V) (lc R : Nat) : List sr_I → List sx_F → Prop
  | _, [] => True
  | pre, f :: F => (sg_k g f.2.1 = 9 → f.2.2.2.2 = lc → sr_qt g w (sr_fs g w f.1 f.2.1 (sg_p g f.2.1) 0) (sx_rc g F + 1) (pre ++ sx_seg g w f) R) ∧ sx_qi g w lc R (pre ++ sx_seg g w f) F
def sx_mk (g : sg_T) (w : sr_V) (mk : Nat → Int32) : Prop :=
  (∀ v t, v < 410 → t < sg_n g → ¬ mk (20 * v + t) = 0 → sr_qt g w (sr_fs g w v t (sg_p g t) 0) ((if v < 400 then sv_d w v else v - 400) + 1) [] (if v < 400 then sv_d w v else v - 400)) ∧
  (∀ i, i < 8200 → mk i = 0 ∨ mk i = 1)
theorem sx_op_le (g : sg_T) (lc : Nat) : ∀ F, sx_op g lc F ≤ sx_rc g F := by
  intro F
  induction F with
  | nil => exact Nat.le_refl _
  | cons f F ih =>
    rw [sx_op, sx_rc]
    by_cases h : sg_k g f.2.1 = 9
    · rw [if_pos h]; split <;> omega
    · rw [if_neg h, if_neg (fun z => h z.1)]; omega
theorem sx_ok_up {g : sg_T} {w : sr_V} {lc lc' : Nat} {mk : Nat → Int32} (hl : lc ≤ lc') : ∀ {F}, sx_ok g w lc mk F → sx_ok g w lc' mk F := by
  intro F
  induction F with
  | nil => intro _; trivial
  | cons f F ih =>
    intro h
    obtain ⟨⟨h1, h2, h3⟩, h4⟩ := h
    exact ⟨⟨h1, by omega, h3⟩, ih h4⟩
theorem sx_ok_mk {g : sg_T} {w : sr_V} {lc v t : Nat} {mk : Nat → Int32} (hg : sg_ok g) (ht : t < sg_n g) : ∀ {F}, (∀ e, e ∈ F → e.1 < v) → sx_ok g w lc mk F → sx_ok g w lc (upd mk (20 * v + t) 1) F := by
  intro F
  induction F with
  | nil => intro _ _; trivial
  | cons f F ih =>
    intro hv h
    obtain ⟨⟨h1, h2, h3, h5⟩, h4⟩ := h
    refine ⟨⟨h1, h2, h3, ?_⟩, ih (fun e he => hv e (List.mem_cons_of_mem _ he)) h4⟩
    rcases h5 with h5 | ⟨a, b, c, d⟩
    · exact Or.inl h5
    · refine Or.inr ⟨a, b, ?_, d⟩
      have h6 := hv f (List.mem_cons_self)
      have h7 := hg.1
      rw [pk_un (by omega)]
      exact c
theorem sx_qi_vac {g : sg_T} {w : sr_V} {lc lc' R : Nat} {mk : Nat → Int32} (hl : lc < lc') : ∀ {F pre}, sx_ok g w lc mk F → sx_qi g w lc' R pre F := by
  intro F
  induction F with
  | nil => intro _ _; trivial
  | cons f F ih =>
    intro pre h
    obtain ⟨⟨h1, h2, h3⟩, h4⟩ := h
    exact ⟨fun _ z => absurd z (by omega), ih h4⟩
theorem sx_qi_mono {g : sg_T} {w : sr_V} {lc R R' : Nat} : ∀ {F : List sx_F} {pre pre' : List sr_I}, (∀ X, sr_qt g w (pre ++ X) R (pre' ++ X) R') → sx_qi g w lc R pre F → sx_qi g w lc R' pre' F := by
  intro F
  induction F with
  | nil => intro _ _ _ _; trivial
  | cons f F ih =>
    intro pre pre' hq h
    refine ⟨fun h1 h2 => sr_qt_trans (h.1 h1 h2) (hq _), ih (pre := pre ++ sx_seg g w f) (fun X => ?_) h.2⟩
    rw [List.append_assoc, List.append_assoc]
    exact hq _
/-- between two steps -/
def sx_inv (g : sg_T) (w : sr_V) (r : Nat) (F : List sx_F) (L : List Int64) (mk : Nat → Int32) : Prop :=
  sx_ok g w L.length mk F ∧ sx_rc g F ≤ 10 ∧ F.length ≤ sx_rc g F + L.length ∧ L.length ≤ 150 ∧ sx_qi g w L.length (sx_rc g F) [] F ∧ sx_mk g w mk ∧
  sr_cert g w [(0, 0, r, 0)] 0 [] (sx_td g w F) (sx_rc g F) L
/-- an item is taken from the top frame, not done yet -/
def sx_mid (g : sg_T) (w : sr_V) (r : Nat) (it : sr_I) (F : List sx_F) (L : List Int64) (mk : Nat → Int32) : Prop :=
  sx_ok g w L.length mk F ∧ sx_rc g F ≤ 10 ∧ F.length ≤ sx_rc g F + L.length ∧ L.length ≤ 150 ∧ sx_qi g w L.length (sx_rc g F) [it] F ∧ sx_mk g w mk ∧
  sr_cert g w [(0, 0, r, 0)] 0 [] (it :: sx_td g w F) (sx_rc g F) L
def sx_mu (g : sg_T) (F : List sx_F) (L : List Int64) (mk : Nat → Int32) : Nat :=
  130 * (150 - L.length) + 8 * (8200 - sd_cn mk 8200) + sx_sm F + 8 * (10 - sx_op g L.length F)
theorem sx_step_of {g : sg_T} {w : sr_V} {it : sr_I} {rest : List sr_I} {d : Nat} {L : List Int64} (h0 : (sr_stp g w it d).2.1 = 0) (hl : L.length + (sr_stp g w it d).1.length ≤ 150) :
    sr_step g w (it :: rest) d L ((sr_stp g w it d).2.2.1 ++ rest) (sr_stp g w it d).2.2.2 (L ++ (sr_stp g w it d).1) := ⟨it, rest, rfl, h0, hl, rfl, rfl, rfl⟩
/-- the invariants behind a step without trouble, the new items still ahead -/
theorem sx_after {g : sg_T} {w : sr_V} {r : Nat} {it : sr_I} {F : List sx_F} {L : List Int64} {mk : Nat → Int32} (h : sx_mid g w r it F L mk)
    {o : List Int64} {new : List sr_I} {d' : Nat} (hs : sr_stp g w it (sx_rc g F) = (o, 0, new, d')) (hl : L.length + o.length ≤ 150) :
    sx_ok g w (L ++ o).length mk F ∧ F.length ≤ sx_rc g F + (L ++ o).length ∧ (L ++ o).length ≤ 150 ∧ sx_qi g w (L ++ o).length d' new F ∧
    sr_cert g w [(0, 0, r, 0)] 0 [] (new ++ sx_td g w F) d' (L ++ o) := by
  obtain ⟨h1, h2, h3, h4, h5, h6, h7⟩ := h
  have e1 : (sr_stp g w it (sx_rc g F)).2.1 = 0 := by rw [hs]
  have e2 : (sr_stp g w it (sx_rc g F)).1 = o := by rw [hs]
  have st : ∀ rest, sr_step g w (it :: rest) (sx_rc g F) L (new ++ rest) d' (L ++ o) := by
    intro rest
    have h8 := sx_step_of (rest := rest) (L := L) e1 (by rw [e2]; exact hl)
    rw [hs] at h8
    exact h8
  have hlen : (L ++ o).length = L.length + o.length := List.length_append
  refine ⟨sx_ok_up (by omega) h1, by omega, by omega, ?_, sr_cert_trans h7 (sr_cert_step (st _))⟩
  by_cases ho : o = []
  · subst ho
    rw [List.append_nil] at st ⊢
    exact sx_qi_mono (pre := [it]) (fun X => sr_qt_step (sr_q_of_step (st X))) h5
  · have hp : 0 < o.length := List.length_pos_iff.mpr ho
    exact sx_qi_vac (lc := L.length) (by omega) h1
/-- no new items -/
theorem sx_done {g : sg_T} {w : sr_V} {r : Nat} {it : sr_I} {F : List sx_F} {L : List Int64} {mk : Nat → Int32} (h : sx_mid g w r it F L mk)
    {o : List Int64} (hs : sr_stp g w it (sx_rc g F) = (o, 0, [], sx_rc g F)) (hl : L.length + o.length ≤ 150) :
    sx_inv g w r F (L ++ o) mk ∧ sx_mu g F (L ++ o) mk ≤ sx_mu g F L mk := by
  obtain ⟨a1, a2, a3, a4, a5⟩ := sx_after h hs hl
  obtain ⟨h1, h2, h3, h4, h5, h6, h7⟩ := h
  refine ⟨⟨a1, h2, a2, a3, a4, h6, a5⟩, ?_⟩
  unfold sx_mu
  have hlen : (L ++ o).length = L.length + o.length := List.length_append
  by_cases ho : o = []
  · subst ho; rw [List.append_nil]; exact Nat.le_refl _
  · have hp : 0 < o.length := List.length_pos_iff.mpr ho
    have h8 := sx_op_le g L.length F
    have h9 := sx_op_le g (L ++ o).length F
    omega
/-- a new frame -/
theorem sx_push {g : sg_T} {w : sr_V} {r : Nat} {it : sr_I} {F : List sx_F} {L : List Int64} {mk : Nat → Int32} (h : sx_mid g w r it F L mk)
    {o : List Int64} {new : List sr_I} {d' : Nat} {f : sx_F} (hs : sr_stp g w it (sx_rc g F) = (o, 0, new, d')) (hl : L.length + o.length ≤ 150)
    (hf : sx_seg g w f = new) (hst : f.2.2.2.2 = (L ++ o).length) (hone : sx_one g w (L ++ o).length mk f F) (hd : d' = sx_rc g (f :: F)) (hd10 : d' ≤ 10)
    (hk : (sg_k g f.2.1 = 9 ∧ f.2.2.2.1 = sg_p g f.2.1 ∧ f.2.2.1 = 0 ∧ sg_p g f.2.1 ≤ 5) ∨ (sg_k g f.2.1 = 7 ∧ f.2.2.2.1 ≤ 40 ∧ ¬ o = [])) :
    sx_inv g w r (f :: F) (L ++ o) mk ∧ sx_mu g (f :: F) (L ++ o) mk ≤ sx_mu g F L mk := by
  obtain ⟨a1, a2, a3, a4, a5⟩ := sx_after h hs hl
  obtain ⟨h1, h2, h3, h4, h5, h6, h7⟩ := h
  have hlen : (L ++ o).length = L.length + o.length := List.length_append
  have h8 := sx_op_le g L.length F
  have h9 := sx_op_le g (L ++ o).length (f :: F)
  have h10 := sx_op_le g (L ++ o).length F
  have hF : (f :: F).length = F.length + 1 := List.length_cons
  have hm : sx_sm (f :: F) = sx_sm F + f.2.2.2.1 + 1 := rfl
  subst hd
  refine ⟨⟨⟨hone, a1⟩, hd10, ?_, a3, ⟨fun k9 _ => ?_, ?_⟩, h6, ?_⟩, ?_⟩
  · rw [sx_rc, hF]
    rcases hk with hk | hk
    · rw [if_pos hk.1]; omega
    · have hp : 0 < o.length := List.length_pos_iff.mpr hk.2.2
      rw [if_neg (by omega)]
      omega
  · rcases hk with hk | hk
    · have e : sr_fs g w f.1 f.2.1 (sg_p g f.2.1) 0 = [] ++ sx_seg g w f := by
        rw [List.nil_append, sx_seg, if_neg (by omega), hk.2.1, hk.2.2.1]
      rw [e, sx_rc, if_pos k9]
      exact sr_qt_refl
    · omega
  · rw [List.nil_append, hf]; exact a4
  · rw [sx_td, hf]; exact a5
  · unfold sx_mu
    rcases hk with hk | hk
    · have e : sx_op g (L ++ o).length (f :: F) = sx_op g (L ++ o).length F + 1 := by
        rw [sx_op, if_pos ⟨hk.1, hst⟩]
      rw [sx_rc, if_pos hk.1] at h9 hd10
      by_cases ho : o = []
      · subst ho
        rw [List.append_nil] at e ⊢
        omega
      · have hp : 0 < o.length := List.length_pos_iff.mpr ho
        omega
    · have hp : 0 < o.length := List.length_pos_iff.mpr hk.2.2
      omega
/-- a RECORD that was seen to add nothing -/
theorem sx_skip {g : sg_T} {w : sr_V} {r : Nat} {it : sr_I} {F : List sx_F} {L : List Int64} {mk : Nat → Int32} (h : sx_mid g w r it F L mk)
    {o : List Int64} {new : List sr_I} {d' : Nat} (hs : sr_stp g w it (sx_rc g F) = (o, 0, new, d')) (hl : L.length + o.length ≤ 150)
    (hq : sr_qt g w new d' [] (sx_rc g F)) :
    sx_inv g w r F (L ++ o) mk ∧ sx_mu g F (L ++ o) mk ≤ sx_mu g F L mk := by
  obtain ⟨a1, a2, a3, a4, a5⟩ := sx_after h hs hl
  obtain ⟨h1, h2, h3, h4, h5, h6, h7⟩ := h
  have hlen : (L ++ o).length = L.length + o.length := List.length_append
  refine ⟨⟨a1, h2, a2, a3, sx_qi_mono (pre := new) (fun X => ?_) a4, h6, sr_cert_trans a5 (sr_qt_cert a3 ?_)⟩, ?_⟩
  · exact sr_qt_frame hq X
  · exact sr_qt_frame hq _
  · unfold sx_mu
    by_cases ho : o = []
    · subst ho; rw [List.append_nil]; exact Nat.le_refl _
    · have hp : 0 < o.length := List.length_pos_iff.mpr ho
      have h8 := sx_op_le g L.length F
      have h9 := sx_op_le g (L ++ o).length F
      omega
end
section
/-! the top frame: an item is taken, or it ends -/
theorem sx_take7 {g : sg_T} {w : sr_V} {r v t s l st : Nat} {F : List sx_F} {L : List Int64} {mk : Nat → Int32} (hw : sv_ok g w) (hk : sg_k g t = 7) (h : sx_inv g w r ((v, t, s, l + 1, st) :: F) L mk) :
    sx_mid g w r (0, s, sg_d g t, 0) ((v, t, sv_a w s, l, st) :: F) L mk ∧ sx_mu g ((v, t, sv_a w s, l, st) :: F) L mk + 1 = sx_mu g ((v, t, s, l + 1, st) :: F) L mk ∧
    s < sv_m w ∧ v < s ∧ sv_d w s = sx_rc g F := by
  obtain ⟨⟨⟨b1, b2, b3, b4⟩, h1⟩, h2, h3, h4, ⟨h5a, h5b⟩, h6, h7⟩ := h
  have e1 : sx_seg g w (v, t, s, l + 1, st) = (0, s, sg_d g t, 0) :: sx_seg g w (v, t, sv_a w s, l, st) := by
    unfold sx_seg
    rw [if_pos (show sg_k g (v, t, s, l + 1, st).2.1 = 7 from hk), if_pos (show sg_k g (v, t, sv_a w s, l, st).2.1 = 7 from hk)]
    rfl
  rcases b4 with ⟨c1, c2, c3, c4, i, c5, c6⟩ | ⟨c1, _⟩
  · dsimp only at c1 c2 c3 c4 c5 c6 b1 b2 b3
    have hi := (hw.2 v c2).2.2.2.2.1 i (by omega)
    rw [if_neg (by omega), ← c5] at hi
    refine ⟨⟨⟨⟨b1, b2, b3, Or.inl ⟨c1, c2, c3, c4, i + 1, ?_, ?_⟩⟩, h1⟩, h2, h3, h4, ⟨fun z => ?_, ?_⟩, h6, ?_⟩, ?_, hi.2.1, hi.1, ?_⟩
    · show sv_a w s = sv_ch (sv_a w) v (i + 1)
      rw [c5]; rfl
    · show i + 1 + l = sv_cnt g w v
      omega
    · exact absurd (show sg_k g t = 9 from z) (by omega)
    · rw [e1] at h5b; exact h5b
    · rw [sx_td, e1] at h7
      rw [sx_td]
      exact h7
    · unfold sx_mu
      have e2 : sx_sm ((v, t, s, l + 1, st) :: F) = sx_sm F + (l + 1) + 1 := rfl
      have e3 : sx_sm ((v, t, sv_a w s, l, st) :: F) = sx_sm F + l + 1 := rfl
      have e4 : sx_op g L.length ((v, t, s, l + 1, st) :: F) = sx_op g L.length ((v, t, sv_a w s, l, st) :: F) := rfl
      omega
    · omega
  · exact absurd (show sg_k g t = 9 from c1) (by omega)
theorem sx_take9 {g : sg_T} {w : sr_V} {r v t s l st : Nat} {F : List sx_F} {L : List Int64} {mk : Nat → Int32} (hk : sg_k g t = 9) (h : sx_inv g w r ((v, t, s, l + 1, st) :: F) L mk) :
    sx_mid g w r (sr_fi g w v t s) ((v, t, s + 1, l, st) :: F) L mk ∧ sx_mu g ((v, t, s + 1, l, st) :: F) L mk + 1 = sx_mu g ((v, t, s, l + 1, st) :: F) L mk ∧
    t < sg_n g ∧ s + l + 1 = sg_p g t ∧ (v < 400 → v < sv_m w ∧ sg_k g (sv_t w v) = 9 ∧ sv_d w v = sx_rc g F) ∧ (¬ v < 400 → v = 400 + sx_rc g F) := by
  obtain ⟨⟨⟨b1, b2, b3, b4⟩, h1⟩, h2, h3, h4, ⟨h5a, h5b⟩, h6, h7⟩ := h
  have e1 : sx_seg g w (v, t, s, l + 1, st) = sr_fi g w v t s :: sx_seg g w (v, t, s + 1, l, st) := by
    unfold sx_seg
    rw [if_neg (show ¬ sg_k g (v, t, s, l + 1, st).2.1 = 7 from (by dsimp only; omega)), if_neg (show ¬ sg_k g (v, t, s + 1, l, st).2.1 = 7 from (by dsimp only; omega))]
    rfl
  rcases b4 with ⟨c1, _⟩ | ⟨c1, c2, c3, c4, c5⟩
  · exact absurd (show sg_k g t = 7 from c1) (by omega)
  · dsimp only at c1 c2 c3 c4 c5 b1 b2 b3
    refine ⟨⟨⟨⟨b1, b2, b3, Or.inr ⟨c1, ?_, c3, c4, c5⟩⟩, h1⟩, h2, h3, h4, ⟨fun z z2 => ?_, ?_⟩, h6, ?_⟩, ?_, b1, by omega, c4, c5⟩
    · show s + 1 + l = sg_p g t
      omega
    · have h8 := h5a z z2
      rw [e1] at h8
      exact h8
    · rw [e1] at h5b; exact h5b
    · rw [sx_td, e1] at h7
      rw [sx_td]
      exact h7
    · unfold sx_mu
      have e2 : sx_sm ((v, t, s, l + 1, st) :: F) = sx_sm F + (l + 1) + 1 := rfl
      have e3 : sx_sm ((v, t, s + 1, l, st) :: F) = sx_sm F + l + 1 := rfl
      have e4 : sx_op g L.length ((v, t, s, l + 1, st) :: F) = sx_op g L.length ((v, t, s + 1, l, st) :: F) := rfl
      omega
theorem sx_end7 {g : sg_T} {w : sr_V} {r v t s st : Nat} {F : List sx_F} {L : List Int64} {mk : Nat → Int32} (hk : sg_k g t = 7) (h : sx_inv g w r ((v, t, s, 0, st) :: F) L mk) :
    sx_inv g w r F L mk ∧ sx_mu g F L mk + 1 ≤ sx_mu g ((v, t, s, 0, st) :: F) L mk ∧ sx_rc g ((v, t, s, 0, st) :: F) = sx_rc g F := by
  obtain ⟨⟨b, h1⟩, h2, h3, h4, ⟨h5a, h5b⟩, h6, h7⟩ := h
  have e0 : sx_rc g ((v, t, s, 0, st) :: F) = sx_rc g F := by
    rw [sx_rc, if_neg (show ¬ sg_k g (v, t, s, 0, st).2.1 = 9 from (by dsimp only; omega))]; rfl
  have e1 : sx_seg g w (v, t, s, 0, st) = [] := by
    unfold sx_seg
    rw [if_pos (show sg_k g (v, t, s, 0, st).2.1 = 7 from hk)]
    rfl
  rw [e0] at h2 h3 h5b h7
  rw [e1] at h5b
  rw [sx_td, e1] at h7
  rw [List.length_cons] at h3
  refine ⟨⟨h1, h2, by omega, h4, h5b, h6, h7⟩, ?_, e0⟩
  unfold sx_mu
  have e2 : sx_sm ((v, t, s, 0, st) :: F) = sx_sm F + 0 + 1 := rfl
  have e4 : sx_op g L.length ((v, t, s, 0, st) :: F) = sx_op g L.length F := by
    rw [sx_op, if_neg (show ¬ (sg_k g (v, t, s, 0, st).2.1 = 9 ∧ _) from (fun z => absurd (show sg_k g t = 9 from z.1) (by omega)))]; rfl
  omega
theorem sx_end9 {g : sg_T} {w : sr_V} {r v t s st : Nat} {F : List sx_F} {L : List Int64} {mk : Nat → Int32} (hg : sg_ok g) (hk : sg_k g t = 9) (h : sx_inv g w r ((v, t, s, 0, st) :: F) L mk) :
    t < sg_n g ∧ v < 410 ∧ sx_rc g ((v, t, s, 0, st) :: F) = sx_rc g F + 1 ∧
    (st = L.length → sx_inv g w r F L (upd mk (20 * v + t) 1) ∧ sx_mu g F L (upd mk (20 * v + t) 1) + 1 ≤ sx_mu g ((v, t, s, 0, st) :: F) L mk) ∧
    (¬ st = L.length → sx_inv g w r F L mk ∧ sx_mu g F L mk + 1 ≤ sx_mu g ((v, t, s, 0, st) :: F) L mk) := by
  obtain ⟨⟨⟨b1, b2, b3, b4⟩, h1⟩, h2, h3, h4, ⟨h5a, h5b⟩, h6, h7⟩ := h
  have e0 : sx_rc g ((v, t, s, 0, st) :: F) = sx_rc g F + 1 := by
    rw [sx_rc, if_pos (show sg_k g (v, t, s, 0, st).2.1 = 9 from hk)]
  have e1 : sx_seg g w (v, t, s, 0, st) = [(2, 0, 0, 0)] := by
    unfold sx_seg
    rw [if_neg (show ¬ sg_k g (v, t, s, 0, st).2.1 = 7 from (by dsimp only; omega))]
    rfl
  have hq : ∀ X, sr_q g w ([(2, 0, 0, 0)] ++ X) (sx_rc g F + 1) ([] ++ X) (sx_rc g F) := by
    intro X
    exact ⟨(2, 0, 0, 0), X, rfl, rfl, rfl, rfl, rfl⟩
  rw [e0] at h2 h3 h5a h5b h7
  rw [e1] at h5a h5b
  rw [sx_td, e1] at h7
  rw [List.length_cons] at h3
  have hqi : sx_qi g w L.length (sx_rc g F) [] F := sx_qi_mono (pre := [] ++ [(2, 0, 0, 0)]) (fun X => sr_qt_step (hq X)) h5b
  have hce : sr_cert g w [(0, 0, r, 0)] 0 [] (sx_td g w F) (sx_rc g F) L := sr_cert_trans h7 (sr_qt_cert h4 (sr_qt_step (hq (sx_td g w F))))
  dsimp only at b1 b2 b3
  rcases b4 with ⟨c1, _⟩ | ⟨c1, c2, c3, c4, c5⟩
  · exact absurd (show sg_k g t = 7 from c1) (by omega)
  dsimp only at c1 c2 c3 c4 c5
  have hv : v < 410 := by
    by_cases h400 : v < 400
    · omega
    · have := c5 h400; omega
  have e2 : sx_sm ((v, t, s, 0, st) :: F) = sx_sm F + 0 + 1 := rfl
  have ho := sx_op_le g L.length F
  refine ⟨b1, hv, e0, fun hst => ?_, fun hst => ?_⟩
  · have hn := hg.1
    have hi : 20 * v + t < 8200 := by omega
    have ecn := sd_cn_up (f := mk) (x := 1) (by decide) hi c3
    have e4 : sx_op g L.length ((v, t, s, 0, st) :: F) = sx_op g L.length F + 1 := by
      rw [sx_op, if_pos (show sg_k g (v, t, s, 0, st).2.1 = 9 ∧ (v, t, s, 0, st).2.2.2.2 = L.length from ⟨hk, hst⟩)]
    refine ⟨⟨sx_ok_mk hg b1 b3 h1, by omega, by omega, h4, hqi, ⟨fun v' t' hv' ht' hm => ?_, fun i hi' => ?_⟩, hce⟩, ?_⟩
    · by_cases e : 20 * v' + t' = 20 * v + t
      · have e3 : v' = v := by omega
        have e5 : t' = t := by omega
        subst e3 e5
        have h8 := sr_qt_trans (h5a hk hst) (sr_qt_step (hq []))
        have e6 : (if v' < 400 then sv_d w v' else v' - 400) = sx_rc g F := by
          by_cases h400 : v' < 400
          · rw [if_pos h400]; exact (c4 h400).2.2
          · rw [if_neg h400]; have := c5 h400; omega
        rw [e6]
        exact h8
      · rw [pk_un e] at hm
        exact h6.1 v' t' hv' ht' hm
    · by_cases e : i = 20 * v + t
      · subst e; rw [pk_us]; exact Or.inr rfl
      · rw [pk_un e]; exact h6.2 i hi'
    · unfold sx_mu
      have h9 := sd_cn_le (upd mk (20 * v + t) 1) 8200
      omega
  · have e4 : sx_op g L.length ((v, t, s, 0, st) :: F) = sx_op g L.length F := by
      rw [sx_op, if_neg (show ¬ (sg_k g (v, t, s, 0, st).2.1 = 9 ∧ (v, t, s, 0, st).2.2.2.2 = L.length) from (fun z => hst z.2))]; rfl
    refine ⟨⟨h1, by omega, by omega, h4, hqi, h6, hce⟩, ?_⟩
    unfold sx_mu
    omega
end
section
/-! lists held in arrays -/
def sl_is (L : List Int64) (a : Nat → Int64) : Prop := ∀ i (h : i < L.length), a i = L[i]
theorem sl_nil (a : Nat → Int64) : sl_is [] a := fun i h => absurd h (Nat.not_lt_zero i)
theorem sl_put {L : List Int64} {a : Nat → Int64} (h : sl_is L a) (x : Int64) : sl_is (L ++ [x]) (vp_updL a L.length x) := by
  intro i hi
  rw [List.length_append, List.length_singleton] at hi
  by_cases e : i = L.length
  · subst e
    rw [pk_uLs, List.getElem_append_right (Nat.le_refl _)]
    simp
  · rw [pk_uLn e, List.getElem_append_left (by omega)]
    exact h i (by omega)
/-- the numbers o came behind L, or were too many -/
def sl_out (L o : List Int64) (lc : Int32) (a : Nat → Int64) (tr : Int32) : Prop :=
  (L.length + o.length ≤ 150 ∧ lc = nI (L.length + o.length) ∧ sl_is (L ++ o) a ∧ tr = 0) ∨ (150 < L.length + o.length ∧ lc = nI 150 ∧ tr = -7)
theorem sl_out0 {L : List Int64} {a : Nat → Int64} (h : sl_is L a) (hl : L.length ≤ 150) : sl_out L [] (nI L.length) a 0 :=
  Or.inl ⟨hl, rfl, by rw [List.append_nil]; exact h, rfl⟩
theorem sl_outL {L o : List Int64} {lc tr : Int32} {a : Nat → Int64} (h : sl_out L o lc a tr) (x : Int64) (hp : L.length + o.length < 150) :
    lc = nI (L.length + o.length) ∧ tr = 0 ∧ sl_out L (o ++ [x]) (nI (L.length + o.length + 1)) (vp_updL a (L.length + o.length) x) 0 := by
  rcases h with ⟨h1, h2, h3, h4⟩ | ⟨h1, h2, h3⟩
  · refine ⟨h2, h4, Or.inl ⟨?_, ?_, ?_, rfl⟩⟩
    · rw [List.length_append, List.length_singleton]; omega
    · rw [List.length_append, List.length_singleton]; rfl
    · have h5 := sl_put h3 x
      rw [List.length_append, List.append_assoc] at h5
      exact h5
  · omega
theorem sl_outF {L o : List Int64} {lc tr : Int32} {a : Nat → Int64} (h : sl_out L o lc a tr) (x : Int64) (hp : 150 ≤ L.length + o.length) :
    lc = nI 150 ∧ (tr = 0 ∨ tr = -7) ∧ ∀ a', sl_out L (o ++ [x]) (nI 150) a' (-7) := by
  have hl : (o ++ [x]).length = o.length + 1 := by rw [List.length_append, List.length_singleton]
  rcases h with ⟨h1, h2, h3, h4⟩ | ⟨h1, h2, h3⟩
  · exact ⟨by rw [h2, show L.length + o.length = 150 by omega], Or.inl h4, fun a' => Or.inr ⟨by omega, rfl, rfl⟩⟩
  · exact ⟨h2, Or.inr h3, fun a' => Or.inr ⟨by omega, rfl, rfl⟩⟩
/-! the class's frames in their arrays -/
def sx_fr (aV aT aS aL aB : Nat → Int32) : List sx_F → Prop
  | [] => True
  | f :: F => (aV F.length = nI f.1 ∧ aT F.length = nI f.2.1 ∧ aS F.length = nI f.2.2.1 ∧ aL F.length = nI f.2.2.2.1 ∧ aB F.length = nI f.2.2.2.2) ∧ sx_fr aV aT aS aL aB F
theorem sx_fr_same {aV aT aS aL aB bV bT bS bL bB : Nat → Int32} : ∀ {F : List sx_F},
    (∀ i, i < F.length → bV i = aV i ∧ bT i = aT i ∧ bS i = aS i ∧ bL i = aL i ∧ bB i = aB i) → sx_fr aV aT aS aL aB F → sx_fr bV bT bS bL bB F := by
  intro F
  induction F with
  | nil => intro _ _; trivial
  | cons f F ih =>
    intro h k
    obtain ⟨e1, e2, e3, e4, e5⟩ := h F.length (by rw [List.length_cons]; omega)
    refine ⟨?_, ih (fun i hi => h i (by rw [List.length_cons]; omega)) k.2⟩
    rw [e1, e2, e3, e4, e5]
    exact k.1
/-! the reference's stack of things to do -/
def sy_cell (it : sr_I) (v t x : Int32) : Prop :=
  (it.1 = 0 → v = nI it.2.1 ∧ t = nI it.2.2.1) ∧ (it.1 = 1 → v = -1 ∧ t = nI it.2.2.1 ∧ x = it.2.2.2) ∧ (it.1 = 2 → v = -2) ∧ (¬ it.1 = 0 → ¬ it.1 = 1 → ¬ it.1 = 2 → v = -3)
def sy_do (aV aT aD : Nat → Int32) : List sr_I → Prop
  | [] => True
  | i :: c => sy_cell i (aV c.length) (aT c.length) (aD c.length) ∧ sy_do aV aT aD c
theorem sy_do_same {aV aT aD bV bT bD : Nat → Int32} : ∀ {c : List sr_I}, (∀ i, i < c.length → bV i = aV i ∧ bT i = aT i ∧ bD i = aD i) → sy_do aV aT aD c → sy_do bV bT bD c := by
  intro c
  induction c with
  | nil => intro _ _; trivial
  | cons f F ih =>
    intro h k
    obtain ⟨e1, e2, e3⟩ := h F.length (by rw [List.length_cons]; omega)
    refine ⟨?_, ih (fun i hi => h i (by rw [List.length_cons]; omega)) k.2⟩
    rw [e1, e2, e3]
    exact k.1
theorem sy_do_push {aV aT aD : Nat → Int32} {c : List sr_I} (h : sy_do aV aT aD c) (i : sr_I) {v t x : Int32} (hc : sy_cell i v t x) :
    sy_do (upd aV c.length v) (upd aT c.length t) (upd aD c.length x) (i :: c) := by
  refine ⟨?_, sy_do_same (fun j hj => ⟨pk_un (by omega), pk_un (by omega), pk_un (by omega)⟩) h⟩
  rw [pk_us, pk_us, pk_us]
  exact hc
/-- the trees in the arrays -/
def sx_tree (g : sg_T) (w : sr_V) (vt vf va : Nat → Int32) (vn : Nat → Int64) : Prop :=
  ∀ v, v < sv_m w → vt v = nI (sv_t w v) ∧ vn v = sv_n w v ∧ va v = nI (sv_a w v) ∧ (sg_k g (sv_t w v) = 4 ∨ sg_k g (sv_t w v) = 6 → vf v = nI (sv_f w v))
def sy_tree (g : sg_T) (w : sr_V) (vt st ch nx : Nat → Int32) (vn : Nat → Int64) : Prop :=
  ∀ v, v < sv_m w → vt v = nI (sv_t w v) ∧ (sg_k g (sv_t w v) = 4 ∨ sg_k g (sv_t w v) = 6 → st v = nI (sv_f w v)) ∧
    (0 < sv_cnt g w v → ch v = nI (v + 1)) ∧ (∀ i, i + 1 < sv_cnt g w v → nx (sv_ch (sv_a w) v i) = nI (sv_ch (sv_a w) v (i + 1))) ∧
    (1 ≤ sg_k g (sv_t w v) ∧ sg_k g (sv_t w v) ≤ 4 ∨ sg_k g (sv_t w v) = 7 → vn v = sv_n w v) ∧
    (sg_k g (sv_t w v) = 5 → ∃ s, s < sg_p g (sv_t w v) ∧ vn v = lN s ∧ sv_n w v = lN (sg_m g (5 * sv_t w v + s)))
end
section
/-! the number of the symbol that is the default: the class's reckoning and the reference's -/
theorem sm_int {x p : Int} (hp : 0 < p) : (0 ≤ x.tmod p → x.tmod p = x % p) ∧ (x.tmod p < 0 → x.tmod p + p = x % p) := by
  have hb := tmod_bounds (a := x) hp
  have he : x % p = x.tmod p % p := by
    have h1 := Int.tmod_add_mul_tdiv x p
    have h2 := Int.add_mul_emod_self_left (x.tmod p) p (x.tdiv p)
    rw [h1] at h2
    exact h2
  constructor
  · intro h
    rw [he, Int.emod_eq_of_lt h hb.2]
  · intro h
    rw [he, ← Int.add_emod_right (x.tmod p) p, Int.emod_eq_of_lt (by omega) (by omega)]
theorem sm_lt (x : Int32) {p : Nat} (h0 : 0 < p) : sr_mod x p < p ∧ ((sr_mod x p : Nat) : Int) = x.toInt % (p : Int) := by
  have h1 := Int.emod_nonneg x.toInt (b := (p : Int)) (by omega)
  have h2 := Int.emod_lt_of_pos x.toInt (b := (p : Int)) (by omega)
  unfold sr_mod
  omega
theorem sm_add {a b : Int32} (h1 : -1000 < a.toInt) (h2 : a.toInt < 1000) (h3 : -1000 < b.toInt) (h4 : b.toInt < 1000) : (a + b).toInt = a.toInt + b.toInt := by
  rw [Int32.toInt_add]
  exact Int.bmod_eq_of_le (by omega) (by omega)
theorem sm_nI {a : Int32} {n : Nat} (hn : n < 1000) (h : a.toInt = (n : Int)) : a = nI n := by
  apply Int32.toInt_inj.mp
  rw [h, nI_toInt (by omega)]
theorem sm_x (x : Int32) {p : Nat} (h0 : 0 < p) (h5 : p ≤ 5) :
    (0 ≤ x - x / nI p * nI p → x - x / nI p * nI p = nI (sr_mod x p)) ∧ (¬ 0 ≤ x - x / nI p * nI p → x - x / nI p * nI p + nI p = nI (sr_mod x p)) := by
  have hr := rem_toInt x (nI p)
  rw [nI_toInt (by omega)] at hr
  have hb := tmod_bounds (a := x.toInt) (M := (p : Int)) (by omega)
  have hi := sm_int (x := x.toInt) (p := (p : Int)) (by omega)
  have hm := sm_lt x h0
  have e0 : (0 : Int32).toInt = 0 := by decide
  constructor
  · intro h
    rw [Int32.le_iff_toInt_le, hr, e0] at h
    exact sm_nI (by omega) (by rw [hr, hi.1 h, hm.2])
  · intro h
    rw [Int32.le_iff_toInt_le, hr, e0] at h
    refine sm_nI (by omega) ?_
    rw [sm_add (by omega) (by omega) (by rw [nI_toInt (by omega)]; omega) (by rw [nI_toInt (by omega)]; omega), hr, nI_toInt (by omega), hi.2 (by omega), hm.2]
theorem sm_y (x : Int32) {p : Nat} (h0 : 0 < p) (h5 : p ≤ 5) :
    ((x - x / nI p * nI p) + nI p) - ((x - x / nI p * nI p) + nI p) / nI p * nI p = nI (sr_mod x p) := by
  have hr := rem_toInt x (nI p)
  rw [nI_toInt (by omega)] at hr
  have hb := tmod_bounds (a := x.toInt) (M := (p : Int)) (by omega)
  have hi := sm_int (x := x.toInt) (p := (p : Int)) (by omega)
  have hm := sm_lt x h0
  have e1 : ((x - x / nI p * nI p) + nI p).toInt = x.toInt.tmod p + p := by
    rw [sm_add (by omega) (by omega) (by rw [nI_toInt (by omega)]; omega) (by rw [nI_toInt (by omega)]; omega), hr, nI_toInt (by omega)]
  have hr2 := rem_toInt ((x - x / nI p * nI p) + nI p) (nI p)
  rw [nI_toInt (by omega), e1, Int.tmod_eq_emod_of_nonneg (by omega), Int.add_emod_right] at hr2
  refine sm_nI (by omega) ?_
  rw [hr2, hm.2]
  have he : x.toInt % p = x.toInt.tmod p % p := by
    have h1 := Int.tmod_add_mul_tdiv x.toInt p
    have h2 := Int.add_mul_emod_self_left (x.toInt.tmod p) p (x.toInt.tdiv p)
    rw [h1] at h2
    exact h2
  rw [he]
end
section
/-! the relation -/
def sr_core (g : sg_T) (bc nc lc : Nat) (u : SX) (v : SY) : Prop :=
  match u with
  | (x_typeCount, x_byteCount, x_numberCount, x_listCount, x_trouble, x_place, x_valueCount, x_top, x_records, x_writtenCount, x_pairCount, x_kindOf, x_detailOf, x_fallbackOf, x_partCount, x_partName, x_partType, x_partAlias, x_partHas, x_partDefault, x_bytes, x_numbers, x_list, x_valueType, x_valueNumber, x_valueFrom, x_valueAfter, x_frameValue, x_frameType, x_frameStep, x_frameLeft, x_frameStart, x_addsNothing, x_written, x_pairs, x_pairSeen) => match v with
    | (y_types, y_byteCount, y_writtenCount, y_numberCount, y_listCount, y_values, y_depth, y_records, y_at, y_wrong, y_todo, y_kind, y_of, y_parts, y_fallback, y_name, y_part, y_alias, y_given, y_has, y_bytes, y_written, y_numbers, y_list, y_valueType, y_start, y_child, y_last, y_next, y_value, y_open, y_come, y_left, y_todoValue, y_todoType, y_todoDefault, y_pair, y_whole) =>
      sg_ok g ∧ sg_X g x_detailOf x_partName x_partType x_partAlias x_partHas x_partDefault ∧ sg_Y g y_of y_name y_part y_alias y_has y_given ∧
      bc ≤ 100 ∧ nc ≤ 100 ∧ lc ≤ 150 ∧ (∀ i, i < bc → ∃ b : Nat, b < 256 ∧ x_bytes i = nI b) ∧ (∀ i, i < lc → y_list i = x_list i) ∧
      x_typeCount = nI (sg_n g) ∧ y_types = nI (sg_n g) ∧ x_kindOf = sg_K g ∧ y_kind = sg_K g ∧ x_partCount = sg_P g ∧ y_parts = sg_P g ∧ x_fallbackOf = sg_f g ∧ y_fallback = sg_f g ∧
      x_byteCount = nI bc ∧ y_byteCount = nI bc ∧ x_numberCount = nI nc ∧ y_numberCount = nI nc ∧ x_listCount = nI lc ∧ y_listCount = nI lc ∧ y_numbers = x_numbers ∧ y_bytes = x_bytes
def i_Rel (_ : Nat) (u : SX) (v : SY) : Prop := ∃ g bc nc lc, sr_core g bc nc lc u v
theorem i_up {k : Nat} {u : SX} {v : SY} (h : i_Rel k u v) : i_Rel (k + 7) u v := h
end
section
/-! what both sides look up in the tables -/
section
variable {x_typeCount x_byteCount x_numberCount x_listCount x_trouble x_place x_valueCount x_top x_records x_writtenCount x_pairCount : Int32}
variable {x_kindOf x_detailOf x_fallbackOf x_partCount x_partName x_partType x_partAlias x_partHas x_partDefault x_bytes x_valueType x_valueFrom x_valueAfter x_frameValue x_frameType x_frameStep x_frameLeft x_frameStart x_addsNothing x_written x_pairs x_pairSeen : Nat → Int32}
variable {x_numbers x_list x_valueNumber : Nat → Int64}
variable {g : sg_T}
theorem xt_partNamed {post : Int32 → Prop} (hg : sg_ok g) (hX : sg_X g x_detailOf x_partName x_partType x_partAlias x_partHas x_partDefault) {t : Nat} (ht : t < sg_n g) (hk : ¬ sg_k g t = 8) (x : Int32)
    (h : post (sd_oi (sg_find g t x))) : wpX_partNamed post (nI (sg_n g), x_byteCount, x_numberCount, x_listCount, x_trouble, x_place, x_valueCount, x_top, x_records, x_writtenCount, x_pairCount, sg_K g, x_detailOf, sg_f g, sg_P g, x_partName, x_partType, x_partAlias, x_partHas, x_partDefault, x_bytes, x_numbers, x_list, x_valueType, x_valueNumber, x_valueFrom, x_valueAfter, x_frameValue, x_frameType, x_frameStep, x_frameLeft, x_frameStart, x_addsNothing, x_written, x_pairs, x_pairSeen) (nI t) x := by
  have hn := hg.1
  have hp5 := hg.2.2.1 t
  have H : ∀ m i, i + m = sg_p g t → post (sd_oi (sd_ff (fun k => decide (nI (sg_m g (5 * t + k)) = x)) m i)) → wX_partNamed_2 post (nI t) x (nI (sg_n g)) x_byteCount x_numberCount x_listCount x_trouble x_place x_valueCount x_top x_records x_writtenCount x_pairCount (sg_K g) x_detailOf (sg_f g) (sg_P g) x_partName x_partType x_partAlias x_partHas x_partDefault x_bytes x_numbers x_list x_valueType x_valueNumber x_valueFrom x_valueAfter x_frameValue x_frameType x_frameStep x_frameLeft x_frameStart x_addsNothing x_written x_pairs x_pairSeen (m + 1) (nI i) := by
    intro m
    induction m with
    | zero =>
      intro i hi hpost
      simp (disch := omega) only [wX_partNamed_2, forall_eq, nI_leI, nI_ltI, nI_eq, vp_in_nI, nI_clamp, nI_1, li_e0, li_f0, li_l0, li_g0, li_m0, li_h0, li_e1, li_f1, li_l1, li_g1, li_m1, li_h1, li_e2, li_f2, li_l2, li_g2, li_m2, li_h2, li_e3, li_f3, li_l3, li_g3, li_m3, li_h3, li_e4, li_f4, li_l4, li_g4, li_m4, li_h4, li_e5, li_f5, li_l5, li_g5, li_m5, li_h5, li_e6, li_f6, li_l6, li_g6, li_m6, li_h6, li_e7, li_f7, li_l7, li_g7, li_m7, li_h7, li_e8, li_f8, li_l8, li_g8, li_m8, li_h8, li_e9, li_f9, li_l9, li_g9, li_m9, li_h9, li_e10, li_f10, li_l10, li_g10, li_m10, li_h10, li_e15, li_f15, li_l15, li_g15, li_m15, li_h15, li_e16, li_f16, li_l16, li_g16, li_m16, li_h16, li_e20, li_f20, li_l20, li_g20, li_m20, li_h20, li_e40, li_f40, li_l40, li_g40, li_m40, li_h40, li_e100, li_f100, li_l100, li_g100, li_m100, li_h100, li_e128, li_f128, li_l128, li_g128, li_m128, li_h128, li_e150, li_f150, li_l150, li_g150, li_m150, li_h150, li_e255, li_f255, li_l255, li_g255, li_m255, li_h255, li_e400, li_f400, li_l400, li_g400, li_m400, li_h400, li_e410, li_f410, li_l410, li_g410, li_m410, li_h410, li_e420, li_f420, li_l420, li_g420, li_m420, li_h420, li_e2000, li_f2000, li_l2000, li_g2000, li_m2000, li_h2000, li_e8200, li_f8200, li_l8200, li_g8200, li_m8200, li_h8200, li_e1000000, li_f1000000, li_l1000000, li_g1000000, li_m1000000, li_h1000000, li_50, li_50', li_200, li_200', nI_add, li_s1, li_t1, li_c1, li_c2, li_c3, li_c4, li_c5, li_c6, li_c7, li_c8, li_c9, li_c10, li_c11, li_c12, li_c13, li_c14, li_c15, sg_Kat, sg_Pat, pk_us, pk_uLs, true_implies, forall_const, not_true_eq_false, not_false_eq_true, false_implies, and_true, true_and, implies_true, and_self, if_true, if_false, ite_true, ite_false, reduceIte, eq_self, Nat.reduceEqDiff, Nat.reduceLeDiff, Nat.reduceLT, Int32.reduceLT, Int32.reduceLE]
      exact ⟨fun _ => hpost, fun z => absurd (by omega) z⟩
    | succ m ih =>
      intro i hi hpost
      have e := hX.2.1 t i ht (by omega) hk
      have hlt : ¬ sg_p g t ≤ i := by omega
      by_cases hd : nI (sg_m g (5 * t + i)) = x
      · rw [sd_ff_yes (by exact decide_eq_true hd)] at hpost
        rw [wX_partNamed_2]
        simp (disch := omega) only [e, hlt, hd, forall_eq, nI_leI, nI_ltI, nI_eq, vp_in_nI, nI_clamp, nI_1, li_e0, li_f0, li_l0, li_g0, li_m0, li_h0, li_e1, li_f1, li_l1, li_g1, li_m1, li_h1, li_e2, li_f2, li_l2, li_g2, li_m2, li_h2, li_e3, li_f3, li_l3, li_g3, li_m3, li_h3, li_e4, li_f4, li_l4, li_g4, li_m4, li_h4, li_e5, li_f5, li_l5, li_g5, li_m5, li_h5, li_e6, li_f6, li_l6, li_g6, li_m6, li_h6, li_e7, li_f7, li_l7, li_g7, li_m7, li_h7, li_e8, li_f8, li_l8, li_g8, li_m8, li_h8, li_e9, li_f9, li_l9, li_g9, li_m9, li_h9, li_e10, li_f10, li_l10, li_g10, li_m10, li_h10, li_e15, li_f15, li_l15, li_g15, li_m15, li_h15, li_e16, li_f16, li_l16, li_g16, li_m16, li_h16, li_e20, li_f20, li_l20, li_g20, li_m20, li_h20, li_e40, li_f40, li_l40, li_g40, li_m40, li_h40, li_e100, li_f100, li_l100, li_g100, li_m100, li_h100, li_e128, li_f128, li_l128, li_g128, li_m128, li_h128, li_e150, li_f150, li_l150, li_g150, li_m150, li_h150, li_e255, li_f255, li_l255, li_g255, li_m255, li_h255, li_e400, li_f400, li_l400, li_g400, li_m400, li_h400, li_e410, li_f410, li_l410, li_g410, li_m410, li_h410, li_e420, li_f420, li_l420, li_g420, li_m420, li_h420, li_e2000, li_f2000, li_l2000, li_g2000, li_m2000, li_h2000, li_e8200, li_f8200, li_l8200, li_g8200, li_m8200, li_h8200, li_e1000000, li_f1000000, li_l1000000, li_g1000000, li_m1000000, li_h1000000, li_50, li_50', li_200, li_200', nI_add, li_s1, li_t1, li_c1, li_c2, li_c3, li_c4, li_c5, li_c6, li_c7, li_c8, li_c9, li_c10, li_c11, li_c12, li_c13, li_c14, li_c15, sg_Kat, sg_Pat, pk_us, pk_uLs, true_implies, forall_const, not_true_eq_false, not_false_eq_true, false_implies, and_true, true_and, implies_true, and_self, if_true, if_false, ite_true, ite_false, reduceIte, eq_self, Nat.reduceEqDiff, Nat.reduceLeDiff, Nat.reduceLT, Int32.reduceLT, Int32.reduceLE]
        exact hpost
      · rw [sd_ff_no (by simp only [hd, decide_false]; decide)] at hpost
        rw [wX_partNamed_2]
        simp (disch := omega) only [e, hlt, hd, forall_eq, nI_leI, nI_ltI, nI_eq, vp_in_nI, nI_clamp, nI_1, li_e0, li_f0, li_l0, li_g0, li_m0, li_h0, li_e1, li_f1, li_l1, li_g1, li_m1, li_h1, li_e2, li_f2, li_l2, li_g2, li_m2, li_h2, li_e3, li_f3, li_l3, li_g3, li_m3, li_h3, li_e4, li_f4, li_l4, li_g4, li_m4, li_h4, li_e5, li_f5, li_l5, li_g5, li_m5, li_h5, li_e6, li_f6, li_l6, li_g6, li_m6, li_h6, li_e7, li_f7, li_l7, li_g7, li_m7, li_h7, li_e8, li_f8, li_l8, li_g8, li_m8, li_h8, li_e9, li_f9, li_l9, li_g9, li_m9, li_h9, li_e10, li_f10, li_l10, li_g10, li_m10, li_h10, li_e15, li_f15, li_l15, li_g15, li_m15, li_h15, li_e16, li_f16, li_l16, li_g16, li_m16, li_h16, li_e20, li_f20, li_l20, li_g20, li_m20, li_h20, li_e40, li_f40, li_l40, li_g40, li_m40, li_h40, li_e100, li_f100, li_l100, li_g100, li_m100, li_h100, li_e128, li_f128, li_l128, li_g128, li_m128, li_h128, li_e150, li_f150, li_l150, li_g150, li_m150, li_h150, li_e255, li_f255, li_l255, li_g255, li_m255, li_h255, li_e400, li_f400, li_l400, li_g400, li_m400, li_h400, li_e410, li_f410, li_l410, li_g410, li_m410, li_h410, li_e420, li_f420, li_l420, li_g420, li_m420, li_h420, li_e2000, li_f2000, li_l2000, li_g2000, li_m2000, li_h2000, li_e8200, li_f8200, li_l8200, li_g8200, li_m8200, li_h8200, li_e1000000, li_f1000000, li_l1000000, li_g1000000, li_m1000000, li_h1000000, li_50, li_50', li_200, li_200', nI_add, li_s1, li_t1, li_c1, li_c2, li_c3, li_c4, li_c5, li_c6, li_c7, li_c8, li_c9, li_c10, li_c11, li_c12, li_c13, li_c14, li_c15, sg_Kat, sg_Pat, pk_us, pk_uLs, true_implies, forall_const, not_true_eq_false, not_false_eq_true, false_implies, and_true, true_and, implies_true, and_self, if_true, if_false, ite_true, ite_false, reduceIte, eq_self, Nat.reduceEqDiff, Nat.reduceLeDiff, Nat.reduceLT, Int32.reduceLT, Int32.reduceLE]
        exact ih (i + 1) (by omega) hpost
  exact ⟨sg_p g t + 1, H (sg_p g t) 0 (by omega) h⟩
theorem xt_suits {post : Int32 → Prop} (hg : sg_ok g) (hX : sg_X g x_detailOf x_partName x_partType x_partAlias x_partHas x_partDefault) {w r : Nat} (hw : w < sg_n g) (hr : r < sg_n g)
    (h : post (if sg_su g w r = true then 1 else 0)) : wpX_suits post (nI (sg_n g), x_byteCount, x_numberCount, x_listCount, x_trouble, x_place, x_valueCount, x_top, x_records, x_writtenCount, x_pairCount, sg_K g, x_detailOf, sg_f g, sg_P g, x_partName, x_partType, x_partAlias, x_partHas, x_partDefault, x_bytes, x_numbers, x_list, x_valueType, x_valueNumber, x_valueFrom, x_valueAfter, x_frameValue, x_frameType, x_frameStep, x_frameLeft, x_frameStart, x_addsNothing, x_written, x_pairs, x_pairSeen) (nI w) (nI r) := by
  have hn := hg.1
  have k1 := hg.2.1 w
  have k2 := hg.2.1 r
  unfold sg_su at h
  simp (disch := omega) only [wpX_suits, wX_suits_22, forall_eq, nI_leI, nI_ltI, nI_eq, vp_in_nI, nI_clamp, nI_1, li_e0, li_f0, li_l0, li_g0, li_m0, li_h0, li_e1, li_f1, li_l1, li_g1, li_m1, li_h1, li_e2, li_f2, li_l2, li_g2, li_m2, li_h2, li_e3, li_f3, li_l3, li_g3, li_m3, li_h3, li_e4, li_f4, li_l4, li_g4, li_m4, li_h4, li_e5, li_f5, li_l5, li_g5, li_m5, li_h5, li_e6, li_f6, li_l6, li_g6, li_m6, li_h6, li_e7, li_f7, li_l7, li_g7, li_m7, li_h7, li_e8, li_f8, li_l8, li_g8, li_m8, li_h8, li_e9, li_f9, li_l9, li_g9, li_m9, li_h9, li_e10, li_f10, li_l10, li_g10, li_m10, li_h10, li_e15, li_f15, li_l15, li_g15, li_m15, li_h15, li_e16, li_f16, li_l16, li_g16, li_m16, li_h16, li_e20, li_f20, li_l20, li_g20, li_m20, li_h20, li_e40, li_f40, li_l40, li_g40, li_m40, li_h40, li_e100, li_f100, li_l100, li_g100, li_m100, li_h100, li_e128, li_f128, li_l128, li_g128, li_m128, li_h128, li_e150, li_f150, li_l150, li_g150, li_m150, li_h150, li_e255, li_f255, li_l255, li_g255, li_m255, li_h255, li_e400, li_f400, li_l400, li_g400, li_m400, li_h400, li_e410, li_f410, li_l410, li_g410, li_m410, li_h410, li_e420, li_f420, li_l420, li_g420, li_m420, li_h420, li_e2000, li_f2000, li_l2000, li_g2000, li_m2000, li_h2000, li_e8200, li_f8200, li_l8200, li_g8200, li_m8200, li_h8200, li_e1000000, li_f1000000, li_l1000000, li_g1000000, li_m1000000, li_h1000000, li_50, li_50', li_200, li_200', nI_add, li_s1, li_t1, li_c1, li_c2, li_c3, li_c4, li_c5, li_c6, li_c7, li_c8, li_c9, li_c10, li_c11, li_c12, li_c13, li_c14, li_c15, sg_Kat, sg_Pat, pk_us, pk_uLs, true_implies, forall_const, not_true_eq_false, not_false_eq_true, false_implies, and_true, true_and, implies_true, and_self, if_true, if_false, ite_true, ite_false, reduceIte, eq_self, Nat.reduceEqDiff, Nat.reduceLeDiff, Nat.reduceLT, Int32.reduceLT, Int32.reduceLE]
  by_cases e1 : sg_k g w = 2 ∧ sg_k g r = 3
  · rw [if_pos (decide_eq_true (Or.inr e1))] at h
    simp (disch := omega) only [e1.1, e1.2, forall_eq, nI_leI, nI_ltI, nI_eq, vp_in_nI, nI_clamp, nI_1, li_e0, li_f0, li_l0, li_g0, li_m0, li_h0, li_e1, li_f1, li_l1, li_g1, li_m1, li_h1, li_e2, li_f2, li_l2, li_g2, li_m2, li_h2, li_e3, li_f3, li_l3, li_g3, li_m3, li_h3, li_e4, li_f4, li_l4, li_g4, li_m4, li_h4, li_e5, li_f5, li_l5, li_g5, li_m5, li_h5, li_e6, li_f6, li_l6, li_g6, li_m6, li_h6, li_e7, li_f7, li_l7, li_g7, li_m7, li_h7, li_e8, li_f8, li_l8, li_g8, li_m8, li_h8, li_e9, li_f9, li_l9, li_g9, li_m9, li_h9, li_e10, li_f10, li_l10, li_g10, li_m10, li_h10, li_e15, li_f15, li_l15, li_g15, li_m15, li_h15, li_e16, li_f16, li_l16, li_g16, li_m16, li_h16, li_e20, li_f20, li_l20, li_g20, li_m20, li_h20, li_e40, li_f40, li_l40, li_g40, li_m40, li_h40, li_e100, li_f100, li_l100, li_g100, li_m100, li_h100, li_e128, li_f128, li_l128, li_g128, li_m128, li_h128, li_e150, li_f150, li_l150, li_g150, li_m150, li_h150, li_e255, li_f255, li_l255, li_g255, li_m255, li_h255, li_e400, li_f400, li_l400, li_g400, li_m400, li_h400, li_e410, li_f410, li_l410, li_g410, li_m410, li_h410, li_e420, li_f420, li_l420, li_g420, li_m420, li_h420, li_e2000, li_f2000, li_l2000, li_g2000, li_m2000, li_h2000, li_e8200, li_f8200, li_l8200, li_g8200, li_m8200, li_h8200, li_e1000000, li_f1000000, li_l1000000, li_g1000000, li_m1000000, li_h1000000, li_50, li_50', li_200, li_200', nI_add, li_s1, li_t1, li_c1, li_c2, li_c3, li_c4, li_c5, li_c6, li_c7, li_c8, li_c9, li_c10, li_c11, li_c12, li_c13, li_c14, li_c15, sg_Kat, sg_Pat, pk_us, pk_uLs, true_implies, forall_const, not_true_eq_false, not_false_eq_true, false_implies, and_true, true_and, implies_true, and_self, if_true, if_false, ite_true, ite_false, reduceIte, eq_self, Nat.reduceEqDiff, Nat.reduceLeDiff, Nat.reduceLT, Int32.reduceLT, Int32.reduceLE]
    exact h
  · by_cases e2 : sg_k g w = sg_k g r
    · by_cases e6 : sg_k g r = 6
      · have d1 := hX.1 w hw (Or.inl (by omega))
        have d2 := hX.1 r hr (Or.inl e6)
        have b1 := hg.2.2.2.2.1 w hw (by omega)
        have b2 := hg.2.2.2.2.1 r hr e6
        by_cases e : sg_d g w = sg_d g r
        · rw [if_pos (decide_eq_true (Or.inl ⟨e2, fun _ => e⟩))] at h
          simp (disch := omega) only [e2, e6, d1, d2, e, forall_eq, nI_leI, nI_ltI, nI_eq, vp_in_nI, nI_clamp, nI_1, li_e0, li_f0, li_l0, li_g0, li_m0, li_h0, li_e1, li_f1, li_l1, li_g1, li_m1, li_h1, li_e2, li_f2, li_l2, li_g2, li_m2, li_h2, li_e3, li_f3, li_l3, li_g3, li_m3, li_h3, li_e4, li_f4, li_l4, li_g4, li_m4, li_h4, li_e5, li_f5, li_l5, li_g5, li_m5, li_h5, li_e6, li_f6, li_l6, li_g6, li_m6, li_h6, li_e7, li_f7, li_l7, li_g7, li_m7, li_h7, li_e8, li_f8, li_l8, li_g8, li_m8, li_h8, li_e9, li_f9, li_l9, li_g9, li_m9, li_h9, li_e10, li_f10, li_l10, li_g10, li_m10, li_h10, li_e15, li_f15, li_l15, li_g15, li_m15, li_h15, li_e16, li_f16, li_l16, li_g16, li_m16, li_h16, li_e20, li_f20, li_l20, li_g20, li_m20, li_h20, li_e40, li_f40, li_l40, li_g40, li_m40, li_h40, li_e100, li_f100, li_l100, li_g100, li_m100, li_h100, li_e128, li_f128, li_l128, li_g128, li_m128, li_h128, li_e150, li_f150, li_l150, li_g150, li_m150, li_h150, li_e255, li_f255, li_l255, li_g255, li_m255, li_h255, li_e400, li_f400, li_l400, li_g400, li_m400, li_h400, li_e410, li_f410, li_l410, li_g410, li_m410, li_h410, li_e420, li_f420, li_l420, li_g420, li_m420, li_h420, li_e2000, li_f2000, li_l2000, li_g2000, li_m2000, li_h2000, li_e8200, li_f8200, li_l8200, li_g8200, li_m8200, li_h8200, li_e1000000, li_f1000000, li_l1000000, li_g1000000, li_m1000000, li_h1000000, li_50, li_50', li_200, li_200', nI_add, li_s1, li_t1, li_c1, li_c2, li_c3, li_c4, li_c5, li_c6, li_c7, li_c8, li_c9, li_c10, li_c11, li_c12, li_c13, li_c14, li_c15, sg_Kat, sg_Pat, pk_us, pk_uLs, true_implies, forall_const, not_true_eq_false, not_false_eq_true, false_implies, and_true, true_and, implies_true, and_self, if_true, if_false, ite_true, ite_false, reduceIte, eq_self, Nat.reduceEqDiff, Nat.reduceLeDiff, Nat.reduceLT, Int32.reduceLT, Int32.reduceLE]
          exact h
        · rw [if_neg (by simp only [e2, e6, e]; decide)] at h
          simp (disch := omega) only [e2, e6, d1, d2, e, forall_eq, nI_leI, nI_ltI, nI_eq, vp_in_nI, nI_clamp, nI_1, li_e0, li_f0, li_l0, li_g0, li_m0, li_h0, li_e1, li_f1, li_l1, li_g1, li_m1, li_h1, li_e2, li_f2, li_l2, li_g2, li_m2, li_h2, li_e3, li_f3, li_l3, li_g3, li_m3, li_h3, li_e4, li_f4, li_l4, li_g4, li_m4, li_h4, li_e5, li_f5, li_l5, li_g5, li_m5, li_h5, li_e6, li_f6, li_l6, li_g6, li_m6, li_h6, li_e7, li_f7, li_l7, li_g7, li_m7, li_h7, li_e8, li_f8, li_l8, li_g8, li_m8, li_h8, li_e9, li_f9, li_l9, li_g9, li_m9, li_h9, li_e10, li_f10, li_l10, li_g10, li_m10, li_h10, li_e15, li_f15, li_l15, li_g15, li_m15, li_h15, li_e16, li_f16, li_l16, li_g16, li_m16, li_h16, li_e20, li_f20, li_l20, li_g20, li_m20, li_h20, li_e40, li_f40, li_l40, li_g40, li_m40, li_h40, li_e100, li_f100, li_l100, li_g100, li_m100, li_h100, li_e128, li_f128, li_l128, li_g128, li_m128, li_h128, li_e150, li_f150, li_l150, li_g150, li_m150, li_h150, li_e255, li_f255, li_l255, li_g255, li_m255, li_h255, li_e400, li_f400, li_l400, li_g400, li_m400, li_h400, li_e410, li_f410, li_l410, li_g410, li_m410, li_h410, li_e420, li_f420, li_l420, li_g420, li_m420, li_h420, li_e2000, li_f2000, li_l2000, li_g2000, li_m2000, li_h2000, li_e8200, li_f8200, li_l8200, li_g8200, li_m8200, li_h8200, li_e1000000, li_f1000000, li_l1000000, li_g1000000, li_m1000000, li_h1000000, li_50, li_50', li_200, li_200', nI_add, li_s1, li_t1, li_c1, li_c2, li_c3, li_c4, li_c5, li_c6, li_c7, li_c8, li_c9, li_c10, li_c11, li_c12, li_c13, li_c14, li_c15, sg_Kat, sg_Pat, pk_us, pk_uLs, true_implies, forall_const, not_true_eq_false, not_false_eq_true, false_implies, and_true, true_and, implies_true, and_self, if_true, if_false, ite_true, ite_false, reduceIte, eq_self, Nat.reduceEqDiff, Nat.reduceLeDiff, Nat.reduceLT, Int32.reduceLT, Int32.reduceLE]
          exact h
      · rw [if_pos (decide_eq_true (Or.inl ⟨e2, fun z => absurd z (by omega)⟩))] at h
        have hne : ¬ (sg_k g r = 2 ∧ sg_k g r = 3) := by omega
        by_cases e22 : sg_k g r = 2
        · simp (disch := omega) only [e2, e22, forall_eq, nI_leI, nI_ltI, nI_eq, vp_in_nI, nI_clamp, nI_1, li_e0, li_f0, li_l0, li_g0, li_m0, li_h0, li_e1, li_f1, li_l1, li_g1, li_m1, li_h1, li_e2, li_f2, li_l2, li_g2, li_m2, li_h2, li_e3, li_f3, li_l3, li_g3, li_m3, li_h3, li_e4, li_f4, li_l4, li_g4, li_m4, li_h4, li_e5, li_f5, li_l5, li_g5, li_m5, li_h5, li_e6, li_f6, li_l6, li_g6, li_m6, li_h6, li_e7, li_f7, li_l7, li_g7, li_m7, li_h7, li_e8, li_f8, li_l8, li_g8, li_m8, li_h8, li_e9, li_f9, li_l9, li_g9, li_m9, li_h9, li_e10, li_f10, li_l10, li_g10, li_m10, li_h10, li_e15, li_f15, li_l15, li_g15, li_m15, li_h15, li_e16, li_f16, li_l16, li_g16, li_m16, li_h16, li_e20, li_f20, li_l20, li_g20, li_m20, li_h20, li_e40, li_f40, li_l40, li_g40, li_m40, li_h40, li_e100, li_f100, li_l100, li_g100, li_m100, li_h100, li_e128, li_f128, li_l128, li_g128, li_m128, li_h128, li_e150, li_f150, li_l150, li_g150, li_m150, li_h150, li_e255, li_f255, li_l255, li_g255, li_m255, li_h255, li_e400, li_f400, li_l400, li_g400, li_m400, li_h400, li_e410, li_f410, li_l410, li_g410, li_m410, li_h410, li_e420, li_f420, li_l420, li_g420, li_m420, li_h420, li_e2000, li_f2000, li_l2000, li_g2000, li_m2000, li_h2000, li_e8200, li_f8200, li_l8200, li_g8200, li_m8200, li_h8200, li_e1000000, li_f1000000, li_l1000000, li_g1000000, li_m1000000, li_h1000000, li_50, li_50', li_200, li_200', nI_add, li_s1, li_t1, li_c1, li_c2, li_c3, li_c4, li_c5, li_c6, li_c7, li_c8, li_c9, li_c10, li_c11, li_c12, li_c13, li_c14, li_c15, sg_Kat, sg_Pat, pk_us, pk_uLs, true_implies, forall_const, not_true_eq_false, not_false_eq_true, false_implies, and_true, true_and, implies_true, and_self, if_true, if_false, ite_true, ite_false, reduceIte, eq_self, Nat.reduceEqDiff, Nat.reduceLeDiff, Nat.reduceLT, Int32.reduceLT, Int32.reduceLE]
          exact h
        · simp (disch := omega) only [e2, e22, e6, forall_eq, nI_leI, nI_ltI, nI_eq, vp_in_nI, nI_clamp, nI_1, li_e0, li_f0, li_l0, li_g0, li_m0, li_h0, li_e1, li_f1, li_l1, li_g1, li_m1, li_h1, li_e2, li_f2, li_l2, li_g2, li_m2, li_h2, li_e3, li_f3, li_l3, li_g3, li_m3, li_h3, li_e4, li_f4, li_l4, li_g4, li_m4, li_h4, li_e5, li_f5, li_l5, li_g5, li_m5, li_h5, li_e6, li_f6, li_l6, li_g6, li_m6, li_h6, li_e7, li_f7, li_l7, li_g7, li_m7, li_h7, li_e8, li_f8, li_l8, li_g8, li_m8, li_h8, li_e9, li_f9, li_l9, li_g9, li_m9, li_h9, li_e10, li_f10, li_l10, li_g10, li_m10, li_h10, li_e15, li_f15, li_l15, li_g15, li_m15, li_h15, li_e16, li_f16, li_l16, li_g16, li_m16, li_h16, li_e20, li_f20, li_l20, li_g20, li_m20, li_h20, li_e40, li_f40, li_l40, li_g40, li_m40, li_h40, li_e100, li_f100, li_l100, li_g100, li_m100, li_h100, li_e128, li_f128, li_l128, li_g128, li_m128, li_h128, li_e150, li_f150, li_l150, li_g150, li_m150, li_h150, li_e255, li_f255, li_l255, li_g255, li_m255, li_h255, li_e400, li_f400, li_l400, li_g400, li_m400, li_h400, li_e410, li_f410, li_l410, li_g410, li_m410, li_h410, li_e420, li_f420, li_l420, li_g420, li_m420, li_h420, li_e2000, li_f2000, li_l2000, li_g2000, li_m2000, li_h2000, li_e8200, li_f8200, li_l8200, li_g8200, li_m8200, li_h8200, li_e1000000, li_f1000000, li_l1000000, li_g1000000, li_m1000000, li_h1000000, li_50, li_50', li_200, li_200', nI_add, li_s1, li_t1, li_c1, li_c2, li_c3, li_c4, li_c5, li_c6, li_c7, li_c8, li_c9, li_c10, li_c11, li_c12, li_c13, li_c14, li_c15, sg_Kat, sg_Pat, pk_us, pk_uLs, true_implies, forall_const, not_true_eq_false, not_false_eq_true, false_implies, and_true, true_and, implies_true, and_self, if_true, if_false, ite_true, ite_false, reduceIte, eq_self, Nat.reduceEqDiff, Nat.reduceLeDiff, Nat.reduceLT, Int32.reduceLT, Int32.reduceLE]
          exact h
    · rw [if_neg (fun z => by
        have z2 := of_decide_eq_true z
        rcases z2 with z2 | z2
        · exact e2 z2.1
        · exact e1 z2)] at h
      by_cases e22 : sg_k g w = 2
      · have e33 : ¬ sg_k g r = 3 := fun z => e1 ⟨e22, z⟩
        have e2' : ¬ 2 = sg_k g r := by omega
        simp (disch := omega) only [e22, e33, e2', forall_eq, nI_leI, nI_ltI, nI_eq, vp_in_nI, nI_clamp, nI_1, li_e0, li_f0, li_l0, li_g0, li_m0, li_h0, li_e1, li_f1, li_l1, li_g1, li_m1, li_h1, li_e2, li_f2, li_l2, li_g2, li_m2, li_h2, li_e3, li_f3, li_l3, li_g3, li_m3, li_h3, li_e4, li_f4, li_l4, li_g4, li_m4, li_h4, li_e5, li_f5, li_l5, li_g5, li_m5, li_h5, li_e6, li_f6, li_l6, li_g6, li_m6, li_h6, li_e7, li_f7, li_l7, li_g7, li_m7, li_h7, li_e8, li_f8, li_l8, li_g8, li_m8, li_h8, li_e9, li_f9, li_l9, li_g9, li_m9, li_h9, li_e10, li_f10, li_l10, li_g10, li_m10, li_h10, li_e15, li_f15, li_l15, li_g15, li_m15, li_h15, li_e16, li_f16, li_l16, li_g16, li_m16, li_h16, li_e20, li_f20, li_l20, li_g20, li_m20, li_h20, li_e40, li_f40, li_l40, li_g40, li_m40, li_h40, li_e100, li_f100, li_l100, li_g100, li_m100, li_h100, li_e128, li_f128, li_l128, li_g128, li_m128, li_h128, li_e150, li_f150, li_l150, li_g150, li_m150, li_h150, li_e255, li_f255, li_l255, li_g255, li_m255, li_h255, li_e400, li_f400, li_l400, li_g400, li_m400, li_h400, li_e410, li_f410, li_l410, li_g410, li_m410, li_h410, li_e420, li_f420, li_l420, li_g420, li_m420, li_h420, li_e2000, li_f2000, li_l2000, li_g2000, li_m2000, li_h2000, li_e8200, li_f8200, li_l8200, li_g8200, li_m8200, li_h8200, li_e1000000, li_f1000000, li_l1000000, li_g1000000, li_m1000000, li_h1000000, li_50, li_50', li_200, li_200', nI_add, li_s1, li_t1, li_c1, li_c2, li_c3, li_c4, li_c5, li_c6, li_c7, li_c8, li_c9, li_c10, li_c11, li_c12, li_c13, li_c14, li_c15, sg_Kat, sg_Pat, pk_us, pk_uLs, true_implies, forall_const, not_true_eq_false, not_false_eq_true, false_implies, and_true, true_and, implies_true, and_self, if_true, if_false, ite_true, ite_false, reduceIte, eq_self, Nat.reduceEqDiff, Nat.reduceLeDiff, Nat.reduceLT, Int32.reduceLT, Int32.reduceLE]
        exact h
      · simp (disch := omega) only [e22, e2, forall_eq, nI_leI, nI_ltI, nI_eq, vp_in_nI, nI_clamp, nI_1, li_e0, li_f0, li_l0, li_g0, li_m0, li_h0, li_e1, li_f1, li_l1, li_g1, li_m1, li_h1, li_e2, li_f2, li_l2, li_g2, li_m2, li_h2, li_e3, li_f3, li_l3, li_g3, li_m3, li_h3, li_e4, li_f4, li_l4, li_g4, li_m4, li_h4, li_e5, li_f5, li_l5, li_g5, li_m5, li_h5, li_e6, li_f6, li_l6, li_g6, li_m6, li_h6, li_e7, li_f7, li_l7, li_g7, li_m7, li_h7, li_e8, li_f8, li_l8, li_g8, li_m8, li_h8, li_e9, li_f9, li_l9, li_g9, li_m9, li_h9, li_e10, li_f10, li_l10, li_g10, li_m10, li_h10, li_e15, li_f15, li_l15, li_g15, li_m15, li_h15, li_e16, li_f16, li_l16, li_g16, li_m16, li_h16, li_e20, li_f20, li_l20, li_g20, li_m20, li_h20, li_e40, li_f40, li_l40, li_g40, li_m40, li_h40, li_e100, li_f100, li_l100, li_g100, li_m100, li_h100, li_e128, li_f128, li_l128, li_g128, li_m128, li_h128, li_e150, li_f150, li_l150, li_g150, li_m150, li_h150, li_e255, li_f255, li_l255, li_g255, li_m255, li_h255, li_e400, li_f400, li_l400, li_g400, li_m400, li_h400, li_e410, li_f410, li_l410, li_g410, li_m410, li_h410, li_e420, li_f420, li_l420, li_g420, li_m420, li_h420, li_e2000, li_f2000, li_l2000, li_g2000, li_m2000, li_h2000, li_e8200, li_f8200, li_l8200, li_g8200, li_m8200, li_h8200, li_e1000000, li_f1000000, li_l1000000, li_g1000000, li_m1000000, li_h1000000, li_50, li_50', li_200, li_200', nI_add, li_s1, li_t1, li_c1, li_c2, li_c3, li_c4, li_c5, li_c6, li_c7, li_c8, li_c9, li_c10, li_c11, li_c12, li_c13, li_c14, li_c15, sg_Kat, sg_Pat, pk_us, pk_uLs, true_implies, forall_const, not_true_eq_false, not_false_eq_true, false_implies, and_true, true_and, implies_true, and_self, if_true, if_false, ite_true, ite_false, reduceIte, eq_self, Nat.reduceEqDiff, Nat.reduceLeDiff, Nat.reduceLT, Int32.reduceLT, Int32.reduceLE]
        exact h
theorem xt_branchFor {post : Int32 → Prop} (hg : sg_ok g) (hX : sg_X g x_detailOf x_partName x_partType x_partAlias x_partHas x_partDefault) {w r : Nat} (hw : w < sg_n g) (hr : r < sg_n g) (hk : sg_k g r = 8)
    (h : post (sd_oi (sg_br g w r))) : wpX_branchFor post (nI (sg_n g), x_byteCount, x_numberCount, x_listCount, x_trouble, x_place, x_valueCount, x_top, x_records, x_writtenCount, x_pairCount, sg_K g, x_detailOf, sg_f g, sg_P g, x_partName, x_partType, x_partAlias, x_partHas, x_partDefault, x_bytes, x_numbers, x_list, x_valueType, x_valueNumber, x_valueFrom, x_valueAfter, x_frameValue, x_frameType, x_frameStep, x_frameLeft, x_frameStart, x_addsNothing, x_written, x_pairs, x_pairSeen) (nI w) (nI r) := by
  have hn := hg.1
  have hp5 := hg.2.2.1 r
  have H : ∀ m i, i + m = sg_p g r → post (sd_oi (sd_ff (fun k => sg_su g w (sg_t g (5 * r + k))) m i)) → wX_branchFor_2 post (nI w) (nI r) (nI (sg_n g)) x_byteCount x_numberCount x_listCount x_trouble x_place x_valueCount x_top x_records x_writtenCount x_pairCount (sg_K g) x_detailOf (sg_f g) (sg_P g) x_partName x_partType x_partAlias x_partHas x_partDefault x_bytes x_numbers x_list x_valueType x_valueNumber x_valueFrom x_valueAfter x_frameValue x_frameType x_frameStep x_frameLeft x_frameStart x_addsNothing x_written x_pairs x_pairSeen (m + 1) (nI i) := by
    intro m
    induction m with
    | zero =>
      intro i hi hpost
      simp (disch := omega) only [wX_branchFor_2, forall_eq, nI_leI, nI_ltI, nI_eq, vp_in_nI, nI_clamp, nI_1, li_e0, li_f0, li_l0, li_g0, li_m0, li_h0, li_e1, li_f1, li_l1, li_g1, li_m1, li_h1, li_e2, li_f2, li_l2, li_g2, li_m2, li_h2, li_e3, li_f3, li_l3, li_g3, li_m3, li_h3, li_e4, li_f4, li_l4, li_g4, li_m4, li_h4, li_e5, li_f5, li_l5, li_g5, li_m5, li_h5, li_e6, li_f6, li_l6, li_g6, li_m6, li_h6, li_e7, li_f7, li_l7, li_g7, li_m7, li_h7, li_e8, li_f8, li_l8, li_g8, li_m8, li_h8, li_e9, li_f9, li_l9, li_g9, li_m9, li_h9, li_e10, li_f10, li_l10, li_g10, li_m10, li_h10, li_e15, li_f15, li_l15, li_g15, li_m15, li_h15, li_e16, li_f16, li_l16, li_g16, li_m16, li_h16, li_e20, li_f20, li_l20, li_g20, li_m20, li_h20, li_e40, li_f40, li_l40, li_g40, li_m40, li_h40, li_e100, li_f100, li_l100, li_g100, li_m100, li_h100, li_e128, li_f128, li_l128, li_g128, li_m128, li_h128, li_e150, li_f150, li_l150, li_g150, li_m150, li_h150, li_e255, li_f255, li_l255, li_g255, li_m255, li_h255, li_e400, li_f400, li_l400, li_g400, li_m400, li_h400, li_e410, li_f410, li_l410, li_g410, li_m410, li_h410, li_e420, li_f420, li_l420, li_g420, li_m420, li_h420, li_e2000, li_f2000, li_l2000, li_g2000, li_m2000, li_h2000, li_e8200, li_f8200, li_l8200, li_g8200, li_m8200, li_h8200, li_e1000000, li_f1000000, li_l1000000, li_g1000000, li_m1000000, li_h1000000, li_50, li_50', li_200, li_200', nI_add, li_s1, li_t1, li_c1, li_c2, li_c3, li_c4, li_c5, li_c6, li_c7, li_c8, li_c9, li_c10, li_c11, li_c12, li_c13, li_c14, li_c15, sg_Kat, sg_Pat, pk_us, pk_uLs, true_implies, forall_const, not_true_eq_false, not_false_eq_true, false_implies, and_true, true_and, implies_true, and_self, if_true, if_false, ite_true, ite_false, reduceIte, eq_self, Nat.reduceEqDiff, Nat.reduceLeDiff, Nat.reduceLT, Int32.reduceLT, Int32.reduceLE]
      exact ⟨fun _ => hpost, fun z => absurd (by omega) z⟩
    | succ m ih =>
      intro i hi hpost
      have e := hX.2.2.1 r i hr (by omega) (by omega)
      have hty := hg.2.2.2.2.2.2.2.1 r i hr (by omega) (by omega)
      have hlt : ¬ sg_p g r ≤ i := by omega
      rw [wX_branchFor_2]
      simp (disch := omega) only [e, hlt, forall_eq, nI_leI, nI_ltI, nI_eq, vp_in_nI, nI_clamp, nI_1, li_e0, li_f0, li_l0, li_g0, li_m0, li_h0, li_e1, li_f1, li_l1, li_g1, li_m1, li_h1, li_e2, li_f2, li_l2, li_g2, li_m2, li_h2, li_e3, li_f3, li_l3, li_g3, li_m3, li_h3, li_e4, li_f4, li_l4, li_g4, li_m4, li_h4, li_e5, li_f5, li_l5, li_g5, li_m5, li_h5, li_e6, li_f6, li_l6, li_g6, li_m6, li_h6, li_e7, li_f7, li_l7, li_g7, li_m7, li_h7, li_e8, li_f8, li_l8, li_g8, li_m8, li_h8, li_e9, li_f9, li_l9, li_g9, li_m9, li_h9, li_e10, li_f10, li_l10, li_g10, li_m10, li_h10, li_e15, li_f15, li_l15, li_g15, li_m15, li_h15, li_e16, li_f16, li_l16, li_g16, li_m16, li_h16, li_e20, li_f20, li_l20, li_g20, li_m20, li_h20, li_e40, li_f40, li_l40, li_g40, li_m40, li_h40, li_e100, li_f100, li_l100, li_g100, li_m100, li_h100, li_e128, li_f128, li_l128, li_g128, li_m128, li_h128, li_e150, li_f150, li_l150, li_g150, li_m150, li_h150, li_e255, li_f255, li_l255, li_g255, li_m255, li_h255, li_e400, li_f400, li_l400, li_g400, li_m400, li_h400, li_e410, li_f410, li_l410, li_g410, li_m410, li_h410, li_e420, li_f420, li_l420, li_g420, li_m420, li_h420, li_e2000, li_f2000, li_l2000, li_g2000, li_m2000, li_h2000, li_e8200, li_f8200, li_l8200, li_g8200, li_m8200, li_h8200, li_e1000000, li_f1000000, li_l1000000, li_g1000000, li_m1000000, li_h1000000, li_50, li_50', li_200, li_200', nI_add, li_s1, li_t1, li_c1, li_c2, li_c3, li_c4, li_c5, li_c6, li_c7, li_c8, li_c9, li_c10, li_c11, li_c12, li_c13, li_c14, li_c15, sg_Kat, sg_Pat, pk_us, pk_uLs, true_implies, forall_const, not_true_eq_false, not_false_eq_true, false_implies, and_true, true_and, implies_true, and_self, if_true, if_false, ite_true, ite_false, reduceIte, eq_self, Nat.reduceEqDiff, Nat.reduceLeDiff, Nat.reduceLT, Int32.reduceLT, Int32.reduceLE]
      refine xt_suits hg hX hw hty ?_
      by_cases hd : sg_su g w (sg_t g (5 * r + i)) = true
      · rw [sd_ff_yes (p := fun k => sg_su g w (sg_t g (5 * r + k))) hd] at hpost
        rw [if_pos hd]
        simp (disch := omega) only [forall_eq, nI_leI, nI_ltI, nI_eq, vp_in_nI, nI_clamp, nI_1, li_e0, li_f0, li_l0, li_g0, li_m0, li_h0, li_e1, li_f1, li_l1, li_g1, li_m1, li_h1, li_e2, li_f2, li_l2, li_g2, li_m2, li_h2, li_e3, li_f3, li_l3, li_g3, li_m3, li_h3, li_e4, li_f4, li_l4, li_g4, li_m4, li_h4, li_e5, li_f5, li_l5, li_g5, li_m5, li_h5, li_e6, li_f6, li_l6, li_g6, li_m6, li_h6, li_e7, li_f7, li_l7, li_g7, li_m7, li_h7, li_e8, li_f8, li_l8, li_g8, li_m8, li_h8, li_e9, li_f9, li_l9, li_g9, li_m9, li_h9, li_e10, li_f10, li_l10, li_g10, li_m10, li_h10, li_e15, li_f15, li_l15, li_g15, li_m15, li_h15, li_e16, li_f16, li_l16, li_g16, li_m16, li_h16, li_e20, li_f20, li_l20, li_g20, li_m20, li_h20, li_e40, li_f40, li_l40, li_g40, li_m40, li_h40, li_e100, li_f100, li_l100, li_g100, li_m100, li_h100, li_e128, li_f128, li_l128, li_g128, li_m128, li_h128, li_e150, li_f150, li_l150, li_g150, li_m150, li_h150, li_e255, li_f255, li_l255, li_g255, li_m255, li_h255, li_e400, li_f400, li_l400, li_g400, li_m400, li_h400, li_e410, li_f410, li_l410, li_g410, li_m410, li_h410, li_e420, li_f420, li_l420, li_g420, li_m420, li_h420, li_e2000, li_f2000, li_l2000, li_g2000, li_m2000, li_h2000, li_e8200, li_f8200, li_l8200, li_g8200, li_m8200, li_h8200, li_e1000000, li_f1000000, li_l1000000, li_g1000000, li_m1000000, li_h1000000, li_50, li_50', li_200, li_200', nI_add, li_s1, li_t1, li_c1, li_c2, li_c3, li_c4, li_c5, li_c6, li_c7, li_c8, li_c9, li_c10, li_c11, li_c12, li_c13, li_c14, li_c15, sg_Kat, sg_Pat, pk_us, pk_uLs, true_implies, forall_const, not_true_eq_false, not_false_eq_true, false_implies, and_true, true_and, implies_true, and_self, if_true, if_false, ite_true, ite_false, reduceIte, eq_self, Nat.reduceEqDiff, Nat.reduceLeDiff, Nat.reduceLT, Int32.reduceLT, Int32.reduceLE]
        exact hpost
      · rw [sd_ff_no (p := fun k => sg_su g w (sg_t g (5 * r + k))) hd] at hpost
        rw [if_neg hd]
        simp (disch := omega) only [forall_eq, nI_leI, nI_ltI, nI_eq, vp_in_nI, nI_clamp, nI_1, li_e0, li_f0, li_l0, li_g0, li_m0, li_h0, li_e1, li_f1, li_l1, li_g1, li_m1, li_h1, li_e2, li_f2, li_l2, li_g2, li_m2, li_h2, li_e3, li_f3, li_l3, li_g3, li_m3, li_h3, li_e4, li_f4, li_l4, li_g4, li_m4, li_h4, li_e5, li_f5, li_l5, li_g5, li_m5, li_h5, li_e6, li_f6, li_l6, li_g6, li_m6, li_h6, li_e7, li_f7, li_l7, li_g7, li_m7, li_h7, li_e8, li_f8, li_l8, li_g8, li_m8, li_h8, li_e9, li_f9, li_l9, li_g9, li_m9, li_h9, li_e10, li_f10, li_l10, li_g10, li_m10, li_h10, li_e15, li_f15, li_l15, li_g15, li_m15, li_h15, li_e16, li_f16, li_l16, li_g16, li_m16, li_h16, li_e20, li_f20, li_l20, li_g20, li_m20, li_h20, li_e40, li_f40, li_l40, li_g40, li_m40, li_h40, li_e100, li_f100, li_l100, li_g100, li_m100, li_h100, li_e128, li_f128, li_l128, li_g128, li_m128, li_h128, li_e150, li_f150, li_l150, li_g150, li_m150, li_h150, li_e255, li_f255, li_l255, li_g255, li_m255, li_h255, li_e400, li_f400, li_l400, li_g400, li_m400, li_h400, li_e410, li_f410, li_l410, li_g410, li_m410, li_h410, li_e420, li_f420, li_l420, li_g420, li_m420, li_h420, li_e2000, li_f2000, li_l2000, li_g2000, li_m2000, li_h2000, li_e8200, li_f8200, li_l8200, li_g8200, li_m8200, li_h8200, li_e1000000, li_f1000000, li_l1000000, li_g1000000, li_m1000000, li_h1000000, li_50, li_50', li_200, li_200', nI_add, li_s1, li_t1, li_c1, li_c2, li_c3, li_c4, li_c5, li_c6, li_c7, li_c8, li_c9, li_c10, li_c11, li_c12, li_c13, li_c14, li_c15, sg_Kat, sg_Pat, pk_us, pk_uLs, true_implies, forall_const, not_true_eq_false, not_false_eq_true, false_implies, and_true, true_and, implies_true, and_self, if_true, if_false, ite_true, ite_false, reduceIte, eq_self, Nat.reduceEqDiff, Nat.reduceLeDiff, Nat.reduceLT, Int32.reduceLT, Int32.reduceLE]
        exact ih (i + 1) (by omega) hpost
  exact ⟨sg_p g r + 1, H (sg_p g r) 0 (by omega) h⟩
end
section
variable {y_types y_byteCount y_writtenCount y_numberCount y_listCount y_values y_depth y_records y_at y_wrong y_todo : Int32}
variable {y_kind y_of y_parts y_fallback y_name y_part y_alias y_given y_has y_bytes y_written y_valueType y_start y_child y_last y_next y_open y_come y_left y_todoValue y_todoType y_todoDefault y_pair y_whole : Nat → Int32}
variable {y_numbers y_list y_value : Nat → Int64}
variable {g : sg_T}
theorem yt_find {post : Int32 → Prop} (hg : sg_ok g) (hY : sg_Y g y_of y_name y_part y_alias y_has y_given) {t : Nat} (ht : t < sg_n g) (hk : ¬ sg_k g t = 8) (x : Int32)
    (h : post (sd_oi (sg_find g t x))) : wpY_find post (nI (sg_n g), y_byteCount, y_writtenCount, y_numberCount, y_listCount, y_values, y_depth, y_records, y_at, y_wrong, y_todo, sg_K g, y_of, sg_P g, sg_f g, y_name, y_part, y_alias, y_given, y_has, y_bytes, y_written, y_numbers, y_list, y_valueType, y_start, y_child, y_last, y_next, y_value, y_open, y_come, y_left, y_todoValue, y_todoType, y_todoDefault, y_pair, y_whole) (nI t) x := by
  have hn := hg.1
  have hp5 := hg.2.2.1 t
  have H : ∀ m i, i + m = sg_p g t → post (sd_oi (sd_ff (fun k => decide (nI (sg_m g (5 * t + k)) = x)) m i)) → wY_find_2 post (nI t) x (nI (sg_n g)) y_byteCount y_writtenCount y_numberCount y_listCount y_values y_depth y_records y_at y_wrong y_todo (sg_K g) y_of (sg_P g) (sg_f g) y_name y_part y_alias y_given y_has y_bytes y_written y_numbers y_list y_valueType y_start y_child y_last y_next y_value y_open y_come y_left y_todoValue y_todoType y_todoDefault y_pair y_whole (m + 1) (nI i) := by
    intro m
    induction m with
    | zero =>
      intro i hi hpost
      simp (disch := omega) only [wY_find_2, forall_eq, nI_leI, nI_ltI, nI_eq, vp_in_nI, nI_clamp, nI_1, li_e0, li_f0, li_l0, li_g0, li_m0, li_h0, li_e1, li_f1, li_l1, li_g1, li_m1, li_h1, li_e2, li_f2, li_l2, li_g2, li_m2, li_h2, li_e3, li_f3, li_l3, li_g3, li_m3, li_h3, li_e4, li_f4, li_l4, li_g4, li_m4, li_h4, li_e5, li_f5, li_l5, li_g5, li_m5, li_h5, li_e6, li_f6, li_l6, li_g6, li_m6, li_h6, li_e7, li_f7, li_l7, li_g7, li_m7, li_h7, li_e8, li_f8, li_l8, li_g8, li_m8, li_h8, li_e9, li_f9, li_l9, li_g9, li_m9, li_h9, li_e10, li_f10, li_l10, li_g10, li_m10, li_h10, li_e15, li_f15, li_l15, li_g15, li_m15, li_h15, li_e16, li_f16, li_l16, li_g16, li_m16, li_h16, li_e20, li_f20, li_l20, li_g20, li_m20, li_h20, li_e40, li_f40, li_l40, li_g40, li_m40, li_h40, li_e100, li_f100, li_l100, li_g100, li_m100, li_h100, li_e128, li_f128, li_l128, li_g128, li_m128, li_h128, li_e150, li_f150, li_l150, li_g150, li_m150, li_h150, li_e255, li_f255, li_l255, li_g255, li_m255, li_h255, li_e400, li_f400, li_l400, li_g400, li_m400, li_h400, li_e410, li_f410, li_l410, li_g410, li_m410, li_h410, li_e420, li_f420, li_l420, li_g420, li_m420, li_h420, li_e2000, li_f2000, li_l2000, li_g2000, li_m2000, li_h2000, li_e8200, li_f8200, li_l8200, li_g8200, li_m8200, li_h8200, li_e1000000, li_f1000000, li_l1000000, li_g1000000, li_m1000000, li_h1000000, li_50, li_50', li_200, li_200', nI_add, li_s1, li_t1, li_c1, li_c2, li_c3, li_c4, li_c5, li_c6, li_c7, li_c8, li_c9, li_c10, li_c11, li_c12, li_c13, li_c14, li_c15, sg_Kat, sg_Pat, pk_us, pk_uLs, true_implies, forall_const, not_true_eq_false, not_false_eq_true, false_implies, and_true, true_and, implies_true, and_self, if_true, if_false, ite_true, ite_false, reduceIte, eq_self, Nat.reduceEqDiff, Nat.reduceLeDiff, Nat.reduceLT, Int32.reduceLT, Int32.reduceLE]
      exact ⟨fun _ => hpost, fun z => absurd (by omega) z⟩
    | succ m ih =>
      intro i hi hpost
      have e := hY.2.1 t i ht (by omega) hk
      have hlt : ¬ sg_p g t ≤ i := by omega
      by_cases hd : nI (sg_m g (5 * t + i)) = x
      · rw [sd_ff_yes (by exact decide_eq_true hd)] at hpost
        rw [wY_find_2]
        simp (disch := omega) only [e, hlt, hd, forall_eq, nI_leI, nI_ltI, nI_eq, vp_in_nI, nI_clamp, nI_1, li_e0, li_f0, li_l0, li_g0, li_m0, li_h0, li_e1, li_f1, li_l1, li_g1, li_m1, li_h1, li_e2, li_f2, li_l2, li_g2, li_m2, li_h2, li_e3, li_f3, li_l3, li_g3, li_m3, li_h3, li_e4, li_f4, li_l4, li_g4, li_m4, li_h4, li_e5, li_f5, li_l5, li_g5, li_m5, li_h5, li_e6, li_f6, li_l6, li_g6, li_m6, li_h6, li_e7, li_f7, li_l7, li_g7, li_m7, li_h7, li_e8, li_f8, li_l8, li_g8, li_m8, li_h8, li_e9, li_f9, li_l9, li_g9, li_m9, li_h9, li_e10, li_f10, li_l10, li_g10, li_m10, li_h10, li_e15, li_f15, li_l15, li_g15, li_m15, li_h15, li_e16, li_f16, li_l16, li_g16, li_m16, li_h16, li_e20, li_f20, li_l20, li_g20, li_m20, li_h20, li_e40, li_f40, li_l40, li_g40, li_m40, li_h40, li_e100, li_f100, li_l100, li_g100, li_m100, li_h100, li_e128, li_f128, li_l128, li_g128, li_m128, li_h128, li_e150, li_f150, li_l150, li_g150, li_m150, li_h150, li_e255, li_f255, li_l255, li_g255, li_m255, li_h255, li_e400, li_f400, li_l400, li_g400, li_m400, li_h400, li_e410, li_f410, li_l410, li_g410, li_m410, li_h410, li_e420, li_f420, li_l420, li_g420, li_m420, li_h420, li_e2000, li_f2000, li_l2000, li_g2000, li_m2000, li_h2000, li_e8200, li_f8200, li_l8200, li_g8200, li_m8200, li_h8200, li_e1000000, li_f1000000, li_l1000000, li_g1000000, li_m1000000, li_h1000000, li_50, li_50', li_200, li_200', nI_add, li_s1, li_t1, li_c1, li_c2, li_c3, li_c4, li_c5, li_c6, li_c7, li_c8, li_c9, li_c10, li_c11, li_c12, li_c13, li_c14, li_c15, sg_Kat, sg_Pat, pk_us, pk_uLs, true_implies, forall_const, not_true_eq_false, not_false_eq_true, false_implies, and_true, true_and, implies_true, and_self, if_true, if_false, ite_true, ite_false, reduceIte, eq_self, Nat.reduceEqDiff, Nat.reduceLeDiff, Nat.reduceLT, Int32.reduceLT, Int32.reduceLE]
        exact hpost
      · rw [sd_ff_no (by simp only [hd, decide_false]; decide)] at hpost
        rw [wY_find_2]
        simp (disch := omega) only [e, hlt, hd, forall_eq, nI_leI, nI_ltI, nI_eq, vp_in_nI, nI_clamp, nI_1, li_e0, li_f0, li_l0, li_g0, li_m0, li_h0, li_e1, li_f1, li_l1, li_g1, li_m1, li_h1, li_e2, li_f2, li_l2, li_g2, li_m2, li_h2, li_e3, li_f3, li_l3, li_g3, li_m3, li_h3, li_e4, li_f4, li_l4, li_g4, li_m4, li_h4, li_e5, li_f5, li_l5, li_g5, li_m5, li_h5, li_e6, li_f6, li_l6, li_g6, li_m6, li_h6, li_e7, li_f7, li_l7, li_g7, li_m7, li_h7, li_e8, li_f8, li_l8, li_g8, li_m8, li_h8, li_e9, li_f9, li_l9, li_g9, li_m9, li_h9, li_e10, li_f10, li_l10, li_g10, li_m10, li_h10, li_e15, li_f15, li_l15, li_g15, li_m15, li_h15, li_e16, li_f16, li_l16, li_g16, li_m16, li_h16, li_e20, li_f20, li_l20, li_g20, li_m20, li_h20, li_e40, li_f40, li_l40, li_g40, li_m40, li_h40, li_e100, li_f100, li_l100, li_g100, li_m100, li_h100, li_e128, li_f128, li_l128, li_g128, li_m128, li_h128, li_e150, li_f150, li_l150, li_g150, li_m150, li_h150, li_e255, li_f255, li_l255, li_g255, li_m255, li_h255, li_e400, li_f400, li_l400, li_g400, li_m400, li_h400, li_e410, li_f410, li_l410, li_g410, li_m410, li_h410, li_e420, li_f420, li_l420, li_g420, li_m420, li_h420, li_e2000, li_f2000, li_l2000, li_g2000, li_m2000, li_h2000, li_e8200, li_f8200, li_l8200, li_g8200, li_m8200, li_h8200, li_e1000000, li_f1000000, li_l1000000, li_g1000000, li_m1000000, li_h1000000, li_50, li_50', li_200, li_200', nI_add, li_s1, li_t1, li_c1, li_c2, li_c3, li_c4, li_c5, li_c6, li_c7, li_c8, li_c9, li_c10, li_c11, li_c12, li_c13, li_c14, li_c15, sg_Kat, sg_Pat, pk_us, pk_uLs, true_implies, forall_const, not_true_eq_false, not_false_eq_true, false_implies, and_true, true_and, implies_true, and_self, if_true, if_false, ite_true, ite_false, reduceIte, eq_self, Nat.reduceEqDiff, Nat.reduceLeDiff, Nat.reduceLT, Int32.reduceLT, Int32.reduceLE]
        exact ih (i + 1) (by omega) hpost
  exact ⟨sg_p g t + 1, H (sg_p g t) 0 (by omega) h⟩
theorem yt_suits {post : Int32 → Prop} (hg : sg_ok g) (hY : sg_Y g y_of y_name y_part y_alias y_has y_given) {w r : Nat} (hw : w < sg_n g) (hr : r < sg_n g)
    (h : post (if sg_su g w r = true then 1 else 0)) : wpY_suits post (nI (sg_n g), y_byteCount, y_writtenCount, y_numberCount, y_listCount, y_values, y_depth, y_records, y_at, y_wrong, y_todo, sg_K g, y_of, sg_P g, sg_f g, y_name, y_part, y_alias, y_given, y_has, y_bytes, y_written, y_numbers, y_list, y_valueType, y_start, y_child, y_last, y_next, y_value, y_open, y_come, y_left, y_todoValue, y_todoType, y_todoDefault, y_pair, y_whole) (nI w) (nI r) := by
  have hn := hg.1
  have k1 := hg.2.1 w
  have k2 := hg.2.1 r
  unfold sg_su at h
  simp (disch := omega) only [wpY_suits, wY_suits_41, forall_eq, nI_leI, nI_ltI, nI_eq, vp_in_nI, nI_clamp, nI_1, li_e0, li_f0, li_l0, li_g0, li_m0, li_h0, li_e1, li_f1, li_l1, li_g1, li_m1, li_h1, li_e2, li_f2, li_l2, li_g2, li_m2, li_h2, li_e3, li_f3, li_l3, li_g3, li_m3, li_h3, li_e4, li_f4, li_l4, li_g4, li_m4, li_h4, li_e5, li_f5, li_l5, li_g5, li_m5, li_h5, li_e6, li_f6, li_l6, li_g6, li_m6, li_h6, li_e7, li_f7, li_l7, li_g7, li_m7, li_h7, li_e8, li_f8, li_l8, li_g8, li_m8, li_h8, li_e9, li_f9, li_l9, li_g9, li_m9, li_h9, li_e10, li_f10, li_l10, li_g10, li_m10, li_h10, li_e15, li_f15, li_l15, li_g15, li_m15, li_h15, li_e16, li_f16, li_l16, li_g16, li_m16, li_h16, li_e20, li_f20, li_l20, li_g20, li_m20, li_h20, li_e40, li_f40, li_l40, li_g40, li_m40, li_h40, li_e100, li_f100, li_l100, li_g100, li_m100, li_h100, li_e128, li_f128, li_l128, li_g128, li_m128, li_h128, li_e150, li_f150, li_l150, li_g150, li_m150, li_h150, li_e255, li_f255, li_l255, li_g255, li_m255, li_h255, li_e400, li_f400, li_l400, li_g400, li_m400, li_h400, li_e410, li_f410, li_l410, li_g410, li_m410, li_h410, li_e420, li_f420, li_l420, li_g420, li_m420, li_h420, li_e2000, li_f2000, li_l2000, li_g2000, li_m2000, li_h2000, li_e8200, li_f8200, li_l8200, li_g8200, li_m8200, li_h8200, li_e1000000, li_f1000000, li_l1000000, li_g1000000, li_m1000000, li_h1000000, li_50, li_50', li_200, li_200', nI_add, li_s1, li_t1, li_c1, li_c2, li_c3, li_c4, li_c5, li_c6, li_c7, li_c8, li_c9, li_c10, li_c11, li_c12, li_c13, li_c14, li_c15, sg_Kat, sg_Pat, pk_us, pk_uLs, true_implies, forall_const, not_true_eq_false, not_false_eq_true, false_implies, and_true, true_and, implies_true, and_self, if_true, if_false, ite_true, ite_false, reduceIte, eq_self, Nat.reduceEqDiff, Nat.reduceLeDiff, Nat.reduceLT, Int32.reduceLT, Int32.reduceLE]
  by_cases e1 : sg_k g w = 2 ∧ sg_k g r = 3
  · rw [if_pos (decide_eq_true (Or.inr e1))] at h
    simp (disch := omega) only [e1.1, e1.2, forall_eq, nI_leI, nI_ltI, nI_eq, vp_in_nI, nI_clamp, nI_1, li_e0, li_f0, li_l0, li_g0, li_m0, li_h0, li_e1, li_f1, li_l1, li_g1, li_m1, li_h1, li_e2, li_f2, li_l2, li_g2, li_m2, li_h2, li_e3, li_f3, li_l3, li_g3, li_m3, li_h3, li_e4, li_f4, li_l4, li_g4, li_m4, li_h4, li_e5, li_f5, li_l5, li_g5, li_m5, li_h5, li_e6, li_f6, li_l6, li_g6, li_m6, li_h6, li_e7, li_f7, li_l7, li_g7, li_m7, li_h7, li_e8, li_f8, li_l8, li_g8, li_m8, li_h8, li_e9, li_f9, li_l9, li_g9, li_m9, li_h9, li_e10, li_f10, li_l10, li_g10, li_m10, li_h10, li_e15, li_f15, li_l15, li_g15, li_m15, li_h15, li_e16, li_f16, li_l16, li_g16, li_m16, li_h16, li_e20, li_f20, li_l20, li_g20, li_m20, li_h20, li_e40, li_f40, li_l40, li_g40, li_m40, li_h40, li_e100, li_f100, li_l100, li_g100, li_m100, li_h100, li_e128, li_f128, li_l128, li_g128, li_m128, li_h128, li_e150, li_f150, li_l150, li_g150, li_m150, li_h150, li_e255, li_f255, li_l255, li_g255, li_m255, li_h255, li_e400, li_f400, li_l400, li_g400, li_m400, li_h400, li_e410, li_f410, li_l410, li_g410, li_m410, li_h410, li_e420, li_f420, li_l420, li_g420, li_m420, li_h420, li_e2000, li_f2000, li_l2000, li_g2000, li_m2000, li_h2000, li_e8200, li_f8200, li_l8200, li_g8200, li_m8200, li_h8200, li_e1000000, li_f1000000, li_l1000000, li_g1000000, li_m1000000, li_h1000000, li_50, li_50', li_200, li_200', nI_add, li_s1, li_t1, li_c1, li_c2, li_c3, li_c4, li_c5, li_c6, li_c7, li_c8, li_c9, li_c10, li_c11, li_c12, li_c13, li_c14, li_c15, sg_Kat, sg_Pat, pk_us, pk_uLs, true_implies, forall_const, not_true_eq_false, not_false_eq_true, false_implies, and_true, true_and, implies_true, and_self, if_true, if_false, ite_true, ite_false, reduceIte, eq_self, Nat.reduceEqDiff, Nat.reduceLeDiff, Nat.reduceLT, Int32.reduceLT, Int32.reduceLE]
    exact h
  · by_cases e2 : sg_k g w = sg_k g r
    · by_cases e6 : sg_k g r = 6
      · have d1 := hY.1 w hw (Or.inl (by omega))
        have d2 := hY.1 r hr (Or.inl e6)
        have b1 := hg.2.2.2.2.1 w hw (by omega)
        have b2 := hg.2.2.2.2.1 r hr e6
        by_cases e : sg_d g w = sg_d g r
        · rw [if_pos (decide_eq_true (Or.inl ⟨e2, fun _ => e⟩))] at h
          simp (disch := omega) only [e2, e6, d1, d2, e, forall_eq, nI_leI, nI_ltI, nI_eq, vp_in_nI, nI_clamp, nI_1, li_e0, li_f0, li_l0, li_g0, li_m0, li_h0, li_e1, li_f1, li_l1, li_g1, li_m1, li_h1, li_e2, li_f2, li_l2, li_g2, li_m2, li_h2, li_e3, li_f3, li_l3, li_g3, li_m3, li_h3, li_e4, li_f4, li_l4, li_g4, li_m4, li_h4, li_e5, li_f5, li_l5, li_g5, li_m5, li_h5, li_e6, li_f6, li_l6, li_g6, li_m6, li_h6, li_e7, li_f7, li_l7, li_g7, li_m7, li_h7, li_e8, li_f8, li_l8, li_g8, li_m8, li_h8, li_e9, li_f9, li_l9, li_g9, li_m9, li_h9, li_e10, li_f10, li_l10, li_g10, li_m10, li_h10, li_e15, li_f15, li_l15, li_g15, li_m15, li_h15, li_e16, li_f16, li_l16, li_g16, li_m16, li_h16, li_e20, li_f20, li_l20, li_g20, li_m20, li_h20, li_e40, li_f40, li_l40, li_g40, li_m40, li_h40, li_e100, li_f100, li_l100, li_g100, li_m100, li_h100, li_e128, li_f128, li_l128, li_g128, li_m128, li_h128, li_e150, li_f150, li_l150, li_g150, li_m150, li_h150, li_e255, li_f255, li_l255, li_g255, li_m255, li_h255, li_e400, li_f400, li_l400, li_g400, li_m400, li_h400, li_e410, li_f410, li_l410, li_g410, li_m410, li_h410, li_e420, li_f420, li_l420, li_g420, li_m420, li_h420, li_e2000, li_f2000, li_l2000, li_g2000, li_m2000, li_h2000, li_e8200, li_f8200, li_l8200, li_g8200, li_m8200, li_h8200, li_e1000000, li_f1000000, li_l1000000, li_g1000000, li_m1000000, li_h1000000, li_50, li_50', li_200, li_200', nI_add, li_s1, li_t1, li_c1, li_c2, li_c3, li_c4, li_c5, li_c6, li_c7, li_c8, li_c9, li_c10, li_c11, li_c12, li_c13, li_c14, li_c15, sg_Kat, sg_Pat, pk_us, pk_uLs, true_implies, forall_const, not_true_eq_false, not_false_eq_true, false_implies, and_true, true_and, implies_true, and_self, if_true, if_false, ite_true, ite_false, reduceIte, eq_self, Nat.reduceEqDiff, Nat.reduceLeDiff, Nat.reduceLT, Int32.reduceLT, Int32.reduceLE]
          exact h
        · rw [if_neg (by simp only [e2, e6, e]; decide)] at h
          simp (disch := omega) only [e2, e6, d1, d2, e, forall_eq, nI_leI, nI_ltI, nI_eq, vp_in_nI, nI_clamp, nI_1, li_e0, li_f0, li_l0, li_g0, li_m0, li_h0, li_e1, li_f1, li_l1, li_g1, li_m1, li_h1, li_e2, li_f2, li_l2, li_g2, li_m2, li_h2, li_e3, li_f3, li_l3, li_g3, li_m3, li_h3, li_e4, li_f4, li_l4, li_g4, li_m4, li_h4, li_e5, li_f5, li_l5, li_g5, li_m5, li_h5, li_e6, li_f6, li_l6, li_g6, li_m6, li_h6, li_e7, li_f7, li_l7, li_g7, li_m7, li_h7, li_e8, li_f8, li_l8, li_g8, li_m8, li_h8, li_e9, li_f9, li_l9, li_g9, li_m9, li_h9, li_e10, li_f10, li_l10, li_g10, li_m10, li_h10, li_e15, li_f15, li_l15, li_g15, li_m15, li_h15, li_e16, li_f16, li_l16, li_g16, li_m16, li_h16, li_e20, li_f20, li_l20, li_g20, li_m20, li_h20, li_e40, li_f40, li_l40, li_g40, li_m40, li_h40, li_e100, li_f100, li_l100, li_g100, li_m100, li_h100, li_e128, li_f128, li_l128, li_g128, li_m128, li_h128, li_e150, li_f150, li_l150, li_g150, li_m150, li_h150, li_e255, li_f255, li_l255, li_g255, li_m255, li_h255, li_e400, li_f400, li_l400, li_g400, li_m400, li_h400, li_e410, li_f410, li_l410, li_g410, li_m410, li_h410, li_e420, li_f420, li_l420, li_g420, li_m420, li_h420, li_e2000, li_f2000, li_l2000, li_g2000, li_m2000, li_h2000, li_e8200, li_f8200, li_l8200, li_g8200, li_m8200, li_h8200, li_e1000000, li_f1000000, li_l1000000, li_g1000000, li_m1000000, li_h1000000, li_50, li_50', li_200, li_200', nI_add, li_s1, li_t1, li_c1, li_c2, li_c3, li_c4, li_c5, li_c6, li_c7, li_c8, li_c9, li_c10, li_c11, li_c12, li_c13, li_c14, li_c15, sg_Kat, sg_Pat, pk_us, pk_uLs, true_implies, forall_const, not_true_eq_false, not_false_eq_true, false_implies, and_true, true_and, implies_true, and_self, if_true, if_false, ite_true, ite_false, reduceIte, eq_self, Nat.reduceEqDiff, Nat.reduceLeDiff, Nat.reduceLT, Int32.reduceLT, Int32.reduceLE]
          exact h
      · rw [if_pos (decide_eq_true (Or.inl ⟨e2, fun z => absurd z (by omega)⟩))] at h
        simp (disch := omega) only [e2, e6, forall_eq, nI_leI, nI_ltI, nI_eq, vp_in_nI, nI_clamp, nI_1, li_e0, li_f0, li_l0, li_g0, li_m0, li_h0, li_e1, li_f1, li_l1, li_g1, li_m1, li_h1, li_e2, li_f2, li_l2, li_g2, li_m2, li_h2, li_e3, li_f3, li_l3, li_g3, li_m3, li_h3, li_e4, li_f4, li_l4, li_g4, li_m4, li_h4, li_e5, li_f5, li_l5, li_g5, li_m5, li_h5, li_e6, li_f6, li_l6, li_g6, li_m6, li_h6, li_e7, li_f7, li_l7, li_g7, li_m7, li_h7, li_e8, li_f8, li_l8, li_g8, li_m8, li_h8, li_e9, li_f9, li_l9, li_g9, li_m9, li_h9, li_e10, li_f10, li_l10, li_g10, li_m10, li_h10, li_e15, li_f15, li_l15, li_g15, li_m15, li_h15, li_e16, li_f16, li_l16, li_g16, li_m16, li_h16, li_e20, li_f20, li_l20, li_g20, li_m20, li_h20, li_e40, li_f40, li_l40, li_g40, li_m40, li_h40, li_e100, li_f100, li_l100, li_g100, li_m100, li_h100, li_e128, li_f128, li_l128, li_g128, li_m128, li_h128, li_e150, li_f150, li_l150, li_g150, li_m150, li_h150, li_e255, li_f255, li_l255, li_g255, li_m255, li_h255, li_e400, li_f400, li_l400, li_g400, li_m400, li_h400, li_e410, li_f410, li_l410, li_g410, li_m410, li_h410, li_e420, li_f420, li_l420, li_g420, li_m420, li_h420, li_e2000, li_f2000, li_l2000, li_g2000, li_m2000, li_h2000, li_e8200, li_f8200, li_l8200, li_g8200, li_m8200, li_h8200, li_e1000000, li_f1000000, li_l1000000, li_g1000000, li_m1000000, li_h1000000, li_50, li_50', li_200, li_200', nI_add, li_s1, li_t1, li_c1, li_c2, li_c3, li_c4, li_c5, li_c6, li_c7, li_c8, li_c9, li_c10, li_c11, li_c12, li_c13, li_c14, li_c15, sg_Kat, sg_Pat, pk_us, pk_uLs, true_implies, forall_const, not_true_eq_false, not_false_eq_true, false_implies, and_true, true_and, implies_true, and_self, if_true, if_false, ite_true, ite_false, reduceIte, eq_self, Nat.reduceEqDiff, Nat.reduceLeDiff, Nat.reduceLT, Int32.reduceLT, Int32.reduceLE]
        exact h
    · rw [if_neg (fun z => by
        have z2 := of_decide_eq_true z
        rcases z2 with z2 | z2
        · exact e2 z2.1
        · exact e1 z2)] at h
      by_cases e22 : sg_k g w = 2
      · have e33 : ¬ sg_k g r = 3 := fun z => e1 ⟨e22, z⟩
        have e2' : ¬ 2 = sg_k g r := by omega
        simp (disch := omega) only [e22, e33, e2', forall_eq, nI_leI, nI_ltI, nI_eq, vp_in_nI, nI_clamp, nI_1, li_e0, li_f0, li_l0, li_g0, li_m0, li_h0, li_e1, li_f1, li_l1, li_g1, li_m1, li_h1, li_e2, li_f2, li_l2, li_g2, li_m2, li_h2, li_e3, li_f3, li_l3, li_g3, li_m3, li_h3, li_e4, li_f4, li_l4, li_g4, li_m4, li_h4, li_e5, li_f5, li_l5, li_g5, li_m5, li_h5, li_e6, li_f6, li_l6, li_g6, li_m6, li_h6, li_e7, li_f7, li_l7, li_g7, li_m7, li_h7, li_e8, li_f8, li_l8, li_g8, li_m8, li_h8, li_e9, li_f9, li_l9, li_g9, li_m9, li_h9, li_e10, li_f10, li_l10, li_g10, li_m10, li_h10, li_e15, li_f15, li_l15, li_g15, li_m15, li_h15, li_e16, li_f16, li_l16, li_g16, li_m16, li_h16, li_e20, li_f20, li_l20, li_g20, li_m20, li_h20, li_e40, li_f40, li_l40, li_g40, li_m40, li_h40, li_e100, li_f100, li_l100, li_g100, li_m100, li_h100, li_e128, li_f128, li_l128, li_g128, li_m128, li_h128, li_e150, li_f150, li_l150, li_g150, li_m150, li_h150, li_e255, li_f255, li_l255, li_g255, li_m255, li_h255, li_e400, li_f400, li_l400, li_g400, li_m400, li_h400, li_e410, li_f410, li_l410, li_g410, li_m410, li_h410, li_e420, li_f420, li_l420, li_g420, li_m420, li_h420, li_e2000, li_f2000, li_l2000, li_g2000, li_m2000, li_h2000, li_e8200, li_f8200, li_l8200, li_g8200, li_m8200, li_h8200, li_e1000000, li_f1000000, li_l1000000, li_g1000000, li_m1000000, li_h1000000, li_50, li_50', li_200, li_200', nI_add, li_s1, li_t1, li_c1, li_c2, li_c3, li_c4, li_c5, li_c6, li_c7, li_c8, li_c9, li_c10, li_c11, li_c12, li_c13, li_c14, li_c15, sg_Kat, sg_Pat, pk_us, pk_uLs, true_implies, forall_const, not_true_eq_false, not_false_eq_true, false_implies, and_true, true_and, implies_true, and_self, if_true, if_false, ite_true, ite_false, reduceIte, eq_self, Nat.reduceEqDiff, Nat.reduceLeDiff, Nat.reduceLT, Int32.reduceLT, Int32.reduceLE]
        exact h
      · simp (disch := omega) only [e22, e2, forall_eq, nI_leI, nI_ltI, nI_eq, vp_in_nI, nI_clamp, nI_1, li_e0, li_f0, li_l0, li_g0, li_m0, li_h0, li_e1, li_f1, li_l1, li_g1, li_m1, li_h1, li_e2, li_f2, li_l2, li_g2, li_m2, li_h2, li_e3, li_f3, li_l3, li_g3, li_m3, li_h3, li_e4, li_f4, li_l4, li_g4, li_m4, li_h4, li_e5, li_f5, li_l5, li_g5, li_m5, li_h5, li_e6, li_f6, li_l6, li_g6, li_m6, li_h6, li_e7, li_f7, li_l7, li_g7, li_m7, li_h7, li_e8, li_f8, li_l8, li_g8, li_m8, li_h8, li_e9, li_f9, li_l9, li_g9, li_m9, li_h9, li_e10, li_f10, li_l10, li_g10, li_m10, li_h10, li_e15, li_f15, li_l15, li_g15, li_m15, li_h15, li_e16, li_f16, li_l16, li_g16, li_m16, li_h16, li_e20, li_f20, li_l20, li_g20, li_m20, li_h20, li_e40, li_f40, li_l40, li_g40, li_m40, li_h40, li_e100, li_f100, li_l100, li_g100, li_m100, li_h100, li_e128, li_f128, li_l128, li_g128, li_m128, li_h128, li_e150, li_f150, li_l150, li_g150, li_m150, li_h150, li_e255, li_f255, li_l255, li_g255, li_m255, li_h255, li_e400, li_f400, li_l400, li_g400, li_m400, li_h400, li_e410, li_f410, li_l410, li_g410, li_m410, li_h410, li_e420, li_f420, li_l420, li_g420, li_m420, li_h420, li_e2000, li_f2000, li_l2000, li_g2000, li_m2000, li_h2000, li_e8200, li_f8200, li_l8200, li_g8200, li_m8200, li_h8200, li_e1000000, li_f1000000, li_l1000000, li_g1000000, li_m1000000, li_h1000000, li_50, li_50', li_200, li_200', nI_add, li_s1, li_t1, li_c1, li_c2, li_c3, li_c4, li_c5, li_c6, li_c7, li_c8, li_c9, li_c10, li_c11, li_c12, li_c13, li_c14, li_c15, sg_Kat, sg_Pat, pk_us, pk_uLs, true_implies, forall_const, not_true_eq_false, not_false_eq_true, false_implies, and_true, true_and, implies_true, and_self, if_true, if_false, ite_true, ite_false, reduceIte, eq_self, Nat.reduceEqDiff, Nat.reduceLeDiff, Nat.reduceLT, Int32.reduceLT, Int32.reduceLE]
        exact h
theorem yt_branchFor {post : Int32 → Prop} (hg : sg_ok g) (hY : sg_Y g y_of y_name y_part y_alias y_has y_given) {w r : Nat} (hw : w < sg_n g) (hr : r < sg_n g) (hk : sg_k g r = 8)
    (h : post (sd_oi (sg_br g w r))) : wpY_branchFor post (nI (sg_n g), y_byteCount, y_writtenCount, y_numberCount, y_listCount, y_values, y_depth, y_records, y_at, y_wrong, y_todo, sg_K g, y_of, sg_P g, sg_f g, y_name, y_part, y_alias, y_given, y_has, y_bytes, y_written, y_numbers, y_list, y_valueType, y_start, y_child, y_last, y_next, y_value, y_open, y_come, y_left, y_todoValue, y_todoType, y_todoDefault, y_pair, y_whole) (nI w) (nI r) := by
  have hn := hg.1
  have hp5 := hg.2.2.1 r
  have H : ∀ m i, i + m = sg_p g r → post (sd_oi (sd_ff (fun k => sg_su g w (sg_t g (5 * r + k))) m i)) → wY_branchFor_2 post (nI w) (nI r) (nI (sg_n g)) y_byteCount y_writtenCount y_numberCount y_listCount y_values y_depth y_records y_at y_wrong y_todo (sg_K g) y_of (sg_P g) (sg_f g) y_name y_part y_alias y_given y_has y_bytes y_written y_numbers y_list y_valueType y_start y_child y_last y_next y_value y_open y_come y_left y_todoValue y_todoType y_todoDefault y_pair y_whole (m + 1) (nI i) := by
    intro m
    induction m with
    | zero =>
      intro i hi hpost
      simp (disch := omega) only [wY_branchFor_2, forall_eq, nI_leI, nI_ltI, nI_eq, vp_in_nI, nI_clamp, nI_1, li_e0, li_f0, li_l0, li_g0, li_m0, li_h0, li_e1, li_f1, li_l1, li_g1, li_m1, li_h1, li_e2, li_f2, li_l2, li_g2, li_m2, li_h2, li_e3, li_f3, li_l3, li_g3, li_m3, li_h3, li_e4, li_f4, li_l4, li_g4, li_m4, li_h4, li_e5, li_f5, li_l5, li_g5, li_m5, li_h5, li_e6, li_f6, li_l6, li_g6, li_m6, li_h6, li_e7, li_f7, li_l7, li_g7, li_m7, li_h7, li_e8, li_f8, li_l8, li_g8, li_m8, li_h8, li_e9, li_f9, li_l9, li_g9, li_m9, li_h9, li_e10, li_f10, li_l10, li_g10, li_m10, li_h10, li_e15, li_f15, li_l15, li_g15, li_m15, li_h15, li_e16, li_f16, li_l16, li_g16, li_m16, li_h16, li_e20, li_f20, li_l20, li_g20, li_m20, li_h20, li_e40, li_f40, li_l40, li_g40, li_m40, li_h40, li_e100, li_f100, li_l100, li_g100, li_m100, li_h100, li_e128, li_f128, li_l128, li_g128, li_m128, li_h128, li_e150, li_f150, li_l150, li_g150, li_m150, li_h150, li_e255, li_f255, li_l255, li_g255, li_m255, li_h255, li_e400, li_f400, li_l400, li_g400, li_m400, li_h400, li_e410, li_f410, li_l410, li_g410, li_m410, li_h410, li_e420, li_f420, li_l420, li_g420, li_m420, li_h420, li_e2000, li_f2000, li_l2000, li_g2000, li_m2000, li_h2000, li_e8200, li_f8200, li_l8200, li_g8200, li_m8200, li_h8200, li_e1000000, li_f1000000, li_l1000000, li_g1000000, li_m1000000, li_h1000000, li_50, li_50', li_200, li_200', nI_add, li_s1, li_t1, li_c1, li_c2, li_c3, li_c4, li_c5, li_c6, li_c7, li_c8, li_c9, li_c10, li_c11, li_c12, li_c13, li_c14, li_c15, sg_Kat, sg_Pat, pk_us, pk_uLs, true_implies, forall_const, not_true_eq_false, not_false_eq_true, false_implies, and_true, true_and, implies_true, and_self, if_true, if_false, ite_true, ite_false, reduceIte, eq_self, Nat.reduceEqDiff, Nat.reduceLeDiff, Nat.reduceLT, Int32.reduceLT, Int32.reduceLE]
      exact ⟨fun _ => hpost, fun z => absurd (by omega) z⟩
    | succ m ih =>
      intro i hi hpost
      have e := hY.2.2.1 r i hr (by omega) (by omega)
      have hty := hg.2.2.2.2.2.2.2.1 r i hr (by omega) (by omega)
      have hlt : ¬ sg_p g r ≤ i := by omega
      rw [wY_branchFor_2]
      simp (disch := omega) only [e, hlt, forall_eq, nI_leI, nI_ltI, nI_eq, vp_in_nI, nI_clamp, nI_1, li_e0, li_f0, li_l0, li_g0, li_m0, li_h0, li_e1, li_f1, li_l1, li_g1, li_m1, li_h1, li_e2, li_f2, li_l2, li_g2, li_m2, li_h2, li_e3, li_f3, li_l3, li_g3, li_m3, li_h3, li_e4, li_f4, li_l4, li_g4, li_m4, li_h4, li_e5, li_f5, li_l5, li_g5, li_m5, li_h5, li_e6, li_f6, li_l6, li_g6, li_m6, li_h6, li_e7, li_f7, li_l7, li_g7, li_m7, li_h7, li_e8, li_f8, li_l8, li_g8, li_m8, li_h8, li_e9, li_f9, li_l9, li_g9, li_m9, li_h9, li_e10, li_f10, li_l10, li_g10, li_m10, li_h10, li_e15, li_f15, li_l15, li_g15, li_m15, li_h15, li_e16, li_f16, li_l16, li_g16, li_m16, li_h16, li_e20, li_f20, li_l20, li_g20, li_m20, li_h20, li_e40, li_f40, li_l40, li_g40, li_m40, li_h40, li_e100, li_f100, li_l100, li_g100, li_m100, li_h100, li_e128, li_f128, li_l128, li_g128, li_m128, li_h128, li_e150, li_f150, li_l150, li_g150, li_m150, li_h150, li_e255, li_f255, li_l255, li_g255, li_m255, li_h255, li_e400, li_f400, li_l400, li_g400, li_m400, li_h400, li_e410, li_f410, li_l410, li_g410, li_m410, li_h410, li_e420, li_f420, li_l420, li_g420, li_m420, li_h420, li_e2000, li_f2000, li_l2000, li_g2000, li_m2000, li_h2000, li_e8200, li_f8200, li_l8200, li_g8200, li_m8200, li_h8200, li_e1000000, li_f1000000, li_l1000000, li_g1000000, li_m1000000, li_h1000000, li_50, li_50', li_200, li_200', nI_add, li_s1, li_t1, li_c1, li_c2, li_c3, li_c4, li_c5, li_c6, li_c7, li_c8, li_c9, li_c10, li_c11, li_c12, li_c13, li_c14, li_c15, sg_Kat, sg_Pat, pk_us, pk_uLs, true_implies, forall_const, not_true_eq_false, not_false_eq_true, false_implies, and_true, true_and, implies_true, and_self, if_true, if_false, ite_true, ite_false, reduceIte, eq_self, Nat.reduceEqDiff, Nat.reduceLeDiff, Nat.reduceLT, Int32.reduceLT, Int32.reduceLE]
      refine yt_suits hg hY hw hty ?_
      by_cases hd : sg_su g w (sg_t g (5 * r + i)) = true
      · rw [sd_ff_yes (p := fun k => sg_su g w (sg_t g (5 * r + k))) hd] at hpost
        rw [if_pos hd]
        simp (disch := omega) only [forall_eq, nI_leI, nI_ltI, nI_eq, vp_in_nI, nI_clamp, nI_1, li_e0, li_f0, li_l0, li_g0, li_m0, li_h0, li_e1, li_f1, li_l1, li_g1, li_m1, li_h1, li_e2, li_f2, li_l2, li_g2, li_m2, li_h2, li_e3, li_f3, li_l3, li_g3, li_m3, li_h3, li_e4, li_f4, li_l4, li_g4, li_m4, li_h4, li_e5, li_f5, li_l5, li_g5, li_m5, li_h5, li_e6, li_f6, li_l6, li_g6, li_m6, li_h6, li_e7, li_f7, li_l7, li_g7, li_m7, li_h7, li_e8, li_f8, li_l8, li_g8, li_m8, li_h8, li_e9, li_f9, li_l9, li_g9, li_m9, li_h9, li_e10, li_f10, li_l10, li_g10, li_m10, li_h10, li_e15, li_f15, li_l15, li_g15, li_m15, li_h15, li_e16, li_f16, li_l16, li_g16, li_m16, li_h16, li_e20, li_f20, li_l20, li_g20, li_m20, li_h20, li_e40, li_f40, li_l40, li_g40, li_m40, li_h40, li_e100, li_f100, li_l100, li_g100, li_m100, li_h100, li_e128, li_f128, li_l128, li_g128, li_m128, li_h128, li_e150, li_f150, li_l150, li_g150, li_m150, li_h150, li_e255, li_f255, li_l255, li_g255, li_m255, li_h255, li_e400, li_f400, li_l400, li_g400, li_m400, li_h400, li_e410, li_f410, li_l410, li_g410, li_m410, li_h410, li_e420, li_f420, li_l420, li_g420, li_m420, li_h420, li_e2000, li_f2000, li_l2000, li_g2000, li_m2000, li_h2000, li_e8200, li_f8200, li_l8200, li_g8200, li_m8200, li_h8200, li_e1000000, li_f1000000, li_l1000000, li_g1000000, li_m1000000, li_h1000000, li_50, li_50', li_200, li_200', nI_add, li_s1, li_t1, li_c1, li_c2, li_c3, li_c4, li_c5, li_c6, li_c7, li_c8, li_c9, li_c10, li_c11, li_c12, li_c13, li_c14, li_c15, sg_Kat, sg_Pat, pk_us, pk_uLs, true_implies, forall_const, not_true_eq_false, not_false_eq_true, false_implies, and_true, true_and, implies_true, and_self, if_true, if_false, ite_true, ite_false, reduceIte, eq_self, Nat.reduceEqDiff, Nat.reduceLeDiff, Nat.reduceLT, Int32.reduceLT, Int32.reduceLE]
        exact hpost
      · rw [sd_ff_no (p := fun k => sg_su g w (sg_t g (5 * r + k))) hd] at hpost
        rw [if_neg hd]
        simp (disch := omega) only [forall_eq, nI_leI, nI_ltI, nI_eq, vp_in_nI, nI_clamp, nI_1, li_e0, li_f0, li_l0, li_g0, li_m0, li_h0, li_e1, li_f1, li_l1, li_g1, li_m1, li_h1, li_e2, li_f2, li_l2, li_g2, li_m2, li_h2, li_e3, li_f3, li_l3, li_g3, li_m3, li_h3, li_e4, li_f4, li_l4, li_g4, li_m4, li_h4, li_e5, li_f5, li_l5, li_g5, li_m5, li_h5, li_e6, li_f6, li_l6, li_g6, li_m6, li_h6, li_e7, li_f7, li_l7, li_g7, li_m7, li_h7, li_e8, li_f8, li_l8, li_g8, li_m8, li_h8, li_e9, li_f9, li_l9, li_g9, li_m9, li_h9, li_e10, li_f10, li_l10, li_g10, li_m10, li_h10, li_e15, li_f15, li_l15, li_g15, li_m15, li_h15, li_e16, li_f16, li_l16, li_g16, li_m16, li_h16, li_e20, li_f20, li_l20, li_g20, li_m20, li_h20, li_e40, li_f40, li_l40, li_g40, li_m40, li_h40, li_e100, li_f100, li_l100, li_g100, li_m100, li_h100, li_e128, li_f128, li_l128, li_g128, li_m128, li_h128, li_e150, li_f150, li_l150, li_g150, li_m150, li_h150, li_e255, li_f255, li_l255, li_g255, li_m255, li_h255, li_e400, li_f400, li_l400, li_g400, li_m400, li_h400, li_e410, li_f410, li_l410, li_g410, li_m410, li_h410, li_e420, li_f420, li_l420, li_g420, li_m420, li_h420, li_e2000, li_f2000, li_l2000, li_g2000, li_m2000, li_h2000, li_e8200, li_f8200, li_l8200, li_g8200, li_m8200, li_h8200, li_e1000000, li_f1000000, li_l1000000, li_g1000000, li_m1000000, li_h1000000, li_50, li_50', li_200, li_200', nI_add, li_s1, li_t1, li_c1, li_c2, li_c3, li_c4, li_c5, li_c6, li_c7, li_c8, li_c9, li_c10, li_c11, li_c12, li_c13, li_c14, li_c15, sg_Kat, sg_Pat, pk_us, pk_uLs, true_implies, forall_const, not_true_eq_false, not_false_eq_true, false_implies, and_true, true_and, implies_true, and_self, if_true, if_false, ite_true, ite_false, reduceIte, eq_self, Nat.reduceEqDiff, Nat.reduceLeDiff, Nat.reduceLT, Int32.reduceLT, Int32.reduceLE]
        exact ih (i + 1) (by omega) hpost
  exact ⟨sg_p g r + 1, H (sg_p g r) 0 (by omega) h⟩
end
end
section
/-! the calls that walk nothing -/
section
variable {x_typeCount x_byteCount x_numberCount x_listCount x_trouble x_place x_valueCount x_top x_records x_writtenCount x_pairCount : Int32}
variable {x_kindOf x_detailOf x_fallbackOf x_partCount x_partName x_partType x_partAlias x_partHas x_partDefault x_bytes x_valueType x_valueFrom x_valueAfter x_frameValue x_frameType x_frameStep x_frameLeft x_frameStart x_addsNothing x_written x_pairs x_pairSeen : Nat → Int32}
variable {x_numbers x_list x_valueNumber : Nat → Int64}
variable {y_types y_byteCount y_writtenCount y_numberCount y_listCount y_values y_depth y_records y_at y_wrong y_todo : Int32}
variable {y_kind y_of y_parts y_fallback y_name y_part y_alias y_given y_has y_bytes y_written y_valueType y_start y_child y_last y_next y_open y_come y_left y_todoValue y_todoType y_todoDefault y_pair y_whole : Nat → Int32}
variable {y_numbers y_list y_value : Nat → Int64}
theorem sr_mk {k : Nat} (g : sg_T) (bc nc lc : Nat) (hg : sg_ok g) (hX : sg_X g x_detailOf x_partName x_partType x_partAlias x_partHas x_partDefault) (hY : sg_Y g y_of y_name y_part y_alias y_has y_given)
    (hbc : bc ≤ 100) (hnc : nc ≤ 100) (hlc : lc ≤ 150) (hbb : ∀ i, i < bc → ∃ b : Nat, b < 256 ∧ x_bytes i = nI b) (hli : ∀ i, i < lc → y_list i = x_list i)
    (e1 : x_typeCount = nI (sg_n g)) (e2 : y_types = nI (sg_n g)) (e3 : x_kindOf = sg_K g) (e4 : y_kind = sg_K g) (e5 : x_partCount = sg_P g) (e6 : y_parts = sg_P g) (e7 : x_fallbackOf = sg_f g) (e8 : y_fallback = sg_f g)
    (e9 : x_byteCount = nI bc) (e10 : y_byteCount = nI bc) (e11 : x_numberCount = nI nc) (e12 : y_numberCount = nI nc) (e13 : x_listCount = nI lc) (e14 : y_listCount = nI lc) (e15 : y_numbers = x_numbers) (e16 : y_bytes = x_bytes) : i_Rel k (x_typeCount, x_byteCount, x_numberCount, x_listCount, x_trouble, x_place, x_valueCount, x_top, x_records, x_writtenCount, x_pairCount, x_kindOf, x_detailOf, x_fallbackOf, x_partCount, x_partName, x_partType, x_partAlias, x_partHas, x_partDefault, x_bytes, x_numbers, x_list, x_valueType, x_valueNumber, x_valueFrom, x_valueAfter, x_frameValue, x_frameType, x_frameStep, x_frameLeft, x_frameStart, x_addsNothing, x_written, x_pairs, x_pairSeen) (y_types, y_byteCount, y_writtenCount, y_numberCount, y_listCount, y_values, y_depth, y_records, y_at, y_wrong, y_todo, y_kind, y_of, y_parts, y_fallback, y_name, y_part, y_alias, y_given, y_has, y_bytes, y_written, y_numbers, y_list, y_valueType, y_start, y_child, y_last, y_next, y_value, y_open, y_come, y_left, y_todoValue, y_todoType, y_todoDefault, y_pair, y_whole) := by
  refine ⟨g, bc, nc, lc, ?_⟩
  dsimp only [sr_core]
  exact ⟨hg, hX, hY, hbc, hnc, hlc, hbb, hli, e1, e2, e3, e4, e5, e6, e7, e8, e9, e10, e11, e12, e13, e14, e15, e16⟩
end
theorem i_vc0 : wpX_init (fun u => wpY_init (fun v => i_Rel 0 u v)) := by
  unfold wpX_init wpY_init
  refine sr_mk (0, fun _ => 0, fun _ => 0, fun _ => 0, fun _ => 0, fun _ => 0, fun _ => 0, fun _ => 0, fun _ => 0, fun _ => 0) 0 0 0 ?_ ?_ ?_ (by omega) (by omega) (by omega) (fun i h => absurd h (by omega)) (fun i h => absurd h (by omega)) rfl rfl rfl rfl rfl rfl rfl rfl rfl rfl rfl rfl rfl rfl rfl rfl
  · exact ⟨Nat.zero_le _, fun t => Nat.zero_le _, fun t => Nat.zero_le _, fun t _ => rfl, fun t h => absurd h (Nat.not_lt_zero t), fun t h => absurd h (Nat.not_lt_zero t), fun t j h => absurd h (Nat.not_lt_zero t), fun t j h => absurd h (Nat.not_lt_zero t), fun t j h => absurd h (Nat.not_lt_zero t), fun t j h => absurd h (Nat.not_lt_zero t), fun t h => absurd h (Nat.not_lt_zero t), fun t h => absurd h (Nat.not_lt_zero t), fun t h => absurd h (Nat.not_lt_zero t), fun i => Or.inl rfl⟩
  · exact ⟨fun t h => absurd h (Nat.not_lt_zero t), fun t j h => absurd h (Nat.not_lt_zero t), fun t j h => absurd h (Nat.not_lt_zero t), fun t j h => absurd h (Nat.not_lt_zero t), fun t j h => absurd h (Nat.not_lt_zero t), fun t j h => absurd h (Nat.not_lt_zero t), fun i => Or.inl rfl⟩
  · exact ⟨fun t h => absurd h (Nat.not_lt_zero t), fun t j h => absurd h (Nat.not_lt_zero t), fun t j h => absurd h (Nat.not_lt_zero t), fun t j h => absurd h (Nat.not_lt_zero t), fun i => Or.inl rfl⟩
theorem sc_hi {x : Int32} {n : Nat} (hn : n < 2 ^ 30) (h : nI n ≤ x) : ¬ x < 0 ∧ ∀ m, m < n → nI m < x ∧ ¬ x ≤ nI m ∧ ¬ x = nI m := by
  have h1 : (n : Int) ≤ x.toInt := by
    have h2 := Int32.le_iff_toInt_le.mp h
    rw [nI_toInt (by omega)] at h2
    exact h2
  refine ⟨fun z => ?_, fun m hm => ⟨?_, ?_, ?_⟩⟩
  · have h2 := Int32.lt_iff_toInt_lt.mp z
    have e : (0 : Int32).toInt = 0 := by decide
    omega
  · rw [Int32.lt_iff_toInt_lt, nI_toInt (by omega)]; omega
  · intro z
    have h2 := Int32.le_iff_toInt_le.mp z
    rw [nI_toInt (by omega)] at h2
    omega
  · intro z
    rw [z, nI_toInt (by omega)] at h1
    omega
/-- an int is none of 0 .. n - 1, below or above, or one of them -/
theorem sc_no {x : Int32} {n : Nat} (hn : n < 2 ^ 30) : (x < 0 ∧ ¬ x = 0 ∧ ∀ m, m < 2 ^ 30 → ¬ x = nI m) ∨ (¬ x < 0 ∧ nI n ≤ x ∧ ∀ m, m < n → nI m < x ∧ ¬ x ≤ nI m ∧ ¬ x = nI m) ∨ ∃ j, j < n ∧ x = nI j := by
  rcases pk_ix x (n := n) (by omega) with h | h | h
  · refine Or.inl ⟨h, fun z => ?_, fun m hm z => ?_⟩
    · rw [z] at h; exact absurd h (by decide)
    · rw [z] at h; exact absurd h (nI_pos (by omega))
  · have h2 := sc_hi hn h
    exact Or.inr (Or.inl ⟨h2.1, h, h2.2⟩)
  · exact Or.inr (Or.inr h)
theorem i_vc_add {k : Nat} {u : SX} {v : SY} (I : i_Rel k u v) (hk : k + 7 ≤ 3584) (v1 : Int32) : wpX_add (fun r u' => wpY_add (fun r' v' => r' = r ∧ i_Rel (k + 7) u' v') v v1) u v1 := by
  obtain ⟨x_typeCount, x_byteCount, x_numberCount, x_listCount, x_trouble, x_place, x_valueCount, x_top, x_records, x_writtenCount, x_pairCount, x_kindOf, x_detailOf, x_fallbackOf, x_partCount, x_partName, x_partType, x_partAlias, x_partHas, x_partDefault, x_bytes, x_numbers, x_list, x_valueType, x_valueNumber, x_valueFrom, x_valueAfter, x_frameValue, x_frameType, x_frameStep, x_frameLeft, x_frameStart, x_addsNothing, x_written, x_pairs, x_pairSeen⟩ := u
  obtain ⟨y_types, y_byteCount, y_writtenCount, y_numberCount, y_listCount, y_values, y_depth, y_records, y_at, y_wrong, y_todo, y_kind, y_of, y_parts, y_fallback, y_name, y_part, y_alias, y_given, y_has, y_bytes, y_written, y_numbers, y_list, y_valueType, y_start, y_child, y_last, y_next, y_value, y_open, y_come, y_left, y_todoValue, y_todoType, y_todoDefault, y_pair, y_whole⟩ := v
  have I0 := I
  obtain ⟨g, bc, nc, lc, hg, hX, hY, hbc, hnc, hlc, hbb, hli, rfl, rfl, rfl, rfl, rfl, rfl, rfl, rfl, rfl, rfl, rfl, rfl, rfl, rfl, rfl, rfl⟩ := I
  have hn := hg.1
  rcases sc_no (x := v1) (n := 256) (by omega) with ⟨h, -⟩ | ⟨h, -, h2⟩ | ⟨j, hj, rfl⟩
  · simp (disch := omega) only [wpX_add, wpY_add, wpY_in, h, forall_eq, nI_leI, nI_ltI, nI_eq, vp_in_nI, nI_clamp, nI_1, li_e0, li_f0, li_l0, li_g0, li_m0, li_h0, li_e1, li_f1, li_l1, li_g1, li_m1, li_h1, li_e2, li_f2, li_l2, li_g2, li_m2, li_h2, li_e3, li_f3, li_l3, li_g3, li_m3, li_h3, li_e4, li_f4, li_l4, li_g4, li_m4, li_h4, li_e5, li_f5, li_l5, li_g5, li_m5, li_h5, li_e6, li_f6, li_l6, li_g6, li_m6, li_h6, li_e7, li_f7, li_l7, li_g7, li_m7, li_h7, li_e8, li_f8, li_l8, li_g8, li_m8, li_h8, li_e9, li_f9, li_l9, li_g9, li_m9, li_h9, li_e10, li_f10, li_l10, li_g10, li_m10, li_h10, li_e15, li_f15, li_l15, li_g15, li_m15, li_h15, li_e16, li_f16, li_l16, li_g16, li_m16, li_h16, li_e20, li_f20, li_l20, li_g20, li_m20, li_h20, li_e40, li_f40, li_l40, li_g40, li_m40, li_h40, li_e100, li_f100, li_l100, li_g100, li_m100, li_h100, li_e128, li_f128, li_l128, li_g128, li_m128, li_h128, li_e150, li_f150, li_l150, li_g150, li_m150, li_h150, li_e255, li_f255, li_l255, li_g255, li_m255, li_h255, li_e400, li_f400, li_l400, li_g400, li_m400, li_h400, li_e410, li_f410, li_l410, li_g410, li_m410, li_h410, li_e420, li_f420, li_l420, li_g420, li_m420, li_h420, li_e2000, li_f2000, li_l2000, li_g2000, li_m2000, li_h2000, li_e8200, li_f8200, li_l8200, li_g8200, li_m8200, li_h8200, li_e1000000, li_f1000000, li_l1000000, li_g1000000, li_m1000000, li_h1000000, li_50, li_50', li_200, li_200', nI_add, li_s1, li_t1, li_c1, li_c2, li_c3, li_c4, li_c5, li_c6, li_c7, li_c8, li_c9, li_c10, li_c11, li_c12, li_c13, li_c14, li_c15, sg_Kat, sg_Pat, pk_us, pk_uLs, true_implies, forall_const, not_true_eq_false, not_false_eq_true, false_implies, and_true, true_and, implies_true, and_self, if_true, if_false, ite_true, ite_false, reduceIte, eq_self, Nat.reduceEqDiff, Nat.reduceLeDiff, Nat.reduceLT, Int32.reduceLT, Int32.reduceLE]
    exact i_up I0
  · have h3 : (255 : Int32) < v1 := (h2 255 (by omega)).1
    simp (disch := omega) only [wpX_add, wpY_add, wpY_in, h, h3, forall_eq, nI_leI, nI_ltI, nI_eq, vp_in_nI, nI_clamp, nI_1, li_e0, li_f0, li_l0, li_g0, li_m0, li_h0, li_e1, li_f1, li_l1, li_g1, li_m1, li_h1, li_e2, li_f2, li_l2, li_g2, li_m2, li_h2, li_e3, li_f3, li_l3, li_g3, li_m3, li_h3, li_e4, li_f4, li_l4, li_g4, li_m4, li_h4, li_e5, li_f5, li_l5, li_g5, li_m5, li_h5, li_e6, li_f6, li_l6, li_g6, li_m6, li_h6, li_e7, li_f7, li_l7, li_g7, li_m7, li_h7, li_e8, li_f8, li_l8, li_g8, li_m8, li_h8, li_e9, li_f9, li_l9, li_g9, li_m9, li_h9, li_e10, li_f10, li_l10, li_g10, li_m10, li_h10, li_e15, li_f15, li_l15, li_g15, li_m15, li_h15, li_e16, li_f16, li_l16, li_g16, li_m16, li_h16, li_e20, li_f20, li_l20, li_g20, li_m20, li_h20, li_e40, li_f40, li_l40, li_g40, li_m40, li_h40, li_e100, li_f100, li_l100, li_g100, li_m100, li_h100, li_e128, li_f128, li_l128, li_g128, li_m128, li_h128, li_e150, li_f150, li_l150, li_g150, li_m150, li_h150, li_e255, li_f255, li_l255, li_g255, li_m255, li_h255, li_e400, li_f400, li_l400, li_g400, li_m400, li_h400, li_e410, li_f410, li_l410, li_g410, li_m410, li_h410, li_e420, li_f420, li_l420, li_g420, li_m420, li_h420, li_e2000, li_f2000, li_l2000, li_g2000, li_m2000, li_h2000, li_e8200, li_f8200, li_l8200, li_g8200, li_m8200, li_h8200, li_e1000000, li_f1000000, li_l1000000, li_g1000000, li_m1000000, li_h1000000, li_50, li_50', li_200, li_200', nI_add, li_s1, li_t1, li_c1, li_c2, li_c3, li_c4, li_c5, li_c6, li_c7, li_c8, li_c9, li_c10, li_c11, li_c12, li_c13, li_c14, li_c15, sg_Kat, sg_Pat, pk_us, pk_uLs, true_implies, forall_const, not_true_eq_false, not_false_eq_true, false_implies, and_true, true_and, implies_true, and_self, if_true, if_false, ite_true, ite_false, reduceIte, eq_self, Nat.reduceEqDiff, Nat.reduceLeDiff, Nat.reduceLT, Int32.reduceLT, Int32.reduceLE]
    exact i_up I0
  · have h3 : ¬ 255 < j := by omega
    by_cases h100 : bc = 100
    · subst h100
      simp (disch := omega) only [wpX_add, wpY_add, wpY_in, h3, Nat.not_lt_zero, forall_eq, nI_leI, nI_ltI, nI_eq, vp_in_nI, nI_clamp, nI_1, li_e0, li_f0, li_l0, li_g0, li_m0, li_h0, li_e1, li_f1, li_l1, li_g1, li_m1, li_h1, li_e2, li_f2, li_l2, li_g2, li_m2, li_h2, li_e3, li_f3, li_l3, li_g3, li_m3, li_h3, li_e4, li_f4, li_l4, li_g4, li_m4, li_h4, li_e5, li_f5, li_l5, li_g5, li_m5, li_h5, li_e6, li_f6, li_l6, li_g6, li_m6, li_h6, li_e7, li_f7, li_l7, li_g7, li_m7, li_h7, li_e8, li_f8, li_l8, li_g8, li_m8, li_h8, li_e9, li_f9, li_l9, li_g9, li_m9, li_h9, li_e10, li_f10, li_l10, li_g10, li_m10, li_h10, li_e15, li_f15, li_l15, li_g15, li_m15, li_h15, li_e16, li_f16, li_l16, li_g16, li_m16, li_h16, li_e20, li_f20, li_l20, li_g20, li_m20, li_h20, li_e40, li_f40, li_l40, li_g40, li_m40, li_h40, li_e100, li_f100, li_l100, li_g100, li_m100, li_h100, li_e128, li_f128, li_l128, li_g128, li_m128, li_h128, li_e150, li_f150, li_l150, li_g150, li_m150, li_h150, li_e255, li_f255, li_l255, li_g255, li_m255, li_h255, li_e400, li_f400, li_l400, li_g400, li_m400, li_h400, li_e410, li_f410, li_l410, li_g410, li_m410, li_h410, li_e420, li_f420, li_l420, li_g420, li_m420, li_h420, li_e2000, li_f2000, li_l2000, li_g2000, li_m2000, li_h2000, li_e8200, li_f8200, li_l8200, li_g8200, li_m8200, li_h8200, li_e1000000, li_f1000000, li_l1000000, li_g1000000, li_m1000000, li_h1000000, li_50, li_50', li_200, li_200', nI_add, li_s1, li_t1, li_c1, li_c2, li_c3, li_c4, li_c5, li_c6, li_c7, li_c8, li_c9, li_c10, li_c11, li_c12, li_c13, li_c14, li_c15, sg_Kat, sg_Pat, pk_us, pk_uLs, true_implies, forall_const, not_true_eq_false, not_false_eq_true, false_implies, and_true, true_and, implies_true, and_self, if_true, if_false, ite_true, ite_false, reduceIte, eq_self, Nat.reduceEqDiff, Nat.reduceLeDiff, Nat.reduceLT, Int32.reduceLT, Int32.reduceLE]
      exact i_up I0
    · simp (disch := omega) only [wpX_add, wpY_add, wpY_in, h3, h100, Nat.not_lt_zero, forall_eq, nI_leI, nI_ltI, nI_eq, vp_in_nI, nI_clamp, nI_1, li_e0, li_f0, li_l0, li_g0, li_m0, li_h0, li_e1, li_f1, li_l1, li_g1, li_m1, li_h1, li_e2, li_f2, li_l2, li_g2, li_m2, li_h2, li_e3, li_f3, li_l3, li_g3, li_m3, li_h3, li_e4, li_f4, li_l4, li_g4, li_m4, li_h4, li_e5, li_f5, li_l5, li_g5, li_m5, li_h5, li_e6, li_f6, li_l6, li_g6, li_m6, li_h6, li_e7, li_f7, li_l7, li_g7, li_m7, li_h7, li_e8, li_f8, li_l8, li_g8, li_m8, li_h8, li_e9, li_f9, li_l9, li_g9, li_m9, li_h9, li_e10, li_f10, li_l10, li_g10, li_m10, li_h10, li_e15, li_f15, li_l15, li_g15, li_m15, li_h15, li_e16, li_f16, li_l16, li_g16, li_m16, li_h16, li_e20, li_f20, li_l20, li_g20, li_m20, li_h20, li_e40, li_f40, li_l40, li_g40, li_m40, li_h40, li_e100, li_f100, li_l100, li_g100, li_m100, li_h100, li_e128, li_f128, li_l128, li_g128, li_m128, li_h128, li_e150, li_f150, li_l150, li_g150, li_m150, li_h150, li_e255, li_f255, li_l255, li_g255, li_m255, li_h255, li_e400, li_f400, li_l400, li_g400, li_m400, li_h400, li_e410, li_f410, li_l410, li_g410, li_m410, li_h410, li_e420, li_f420, li_l420, li_g420, li_m420, li_h420, li_e2000, li_f2000, li_l2000, li_g2000, li_m2000, li_h2000, li_e8200, li_f8200, li_l8200, li_g8200, li_m8200, li_h8200, li_e1000000, li_f1000000, li_l1000000, li_g1000000, li_m1000000, li_h1000000, li_50, li_50', li_200, li_200', nI_add, li_s1, li_t1, li_c1, li_c2, li_c3, li_c4, li_c5, li_c6, li_c7, li_c8, li_c9, li_c10, li_c11, li_c12, li_c13, li_c14, li_c15, sg_Kat, sg_Pat, pk_us, pk_uLs, true_implies, forall_const, not_true_eq_false, not_false_eq_true, false_implies, and_true, true_and, implies_true, and_self, if_true, if_false, ite_true, ite_false, reduceIte, eq_self, Nat.reduceEqDiff, Nat.reduceLeDiff, Nat.reduceLT, Int32.reduceLT, Int32.reduceLE]
      refine sr_mk g (bc + 1) nc lc hg hX hY (by omega) hnc hlc (fun i hi => ?_) hli rfl rfl rfl rfl rfl rfl rfl rfl rfl rfl rfl rfl rfl rfl rfl rfl
      · by_cases e : i = bc
        · subst e; rw [pk_us]; exact ⟨j, by omega, rfl⟩
        · rw [pk_un e]; exact hbb i (by omega)
theorem i_vc_at {k : Nat} {u : SX} {v : SY} (I : i_Rel k u v) (hk : k + 7 ≤ 3584) (v1 : Int32) : wpX_at (fun r => wpY_at (fun r' => r' = r ∧ i_Rel (k + 7) u v) v v1) u v1 := by
  obtain ⟨x_typeCount, x_byteCount, x_numberCount, x_listCount, x_trouble, x_place, x_valueCount, x_top, x_records, x_writtenCount, x_pairCount, x_kindOf, x_detailOf, x_fallbackOf, x_partCount, x_partName, x_partType, x_partAlias, x_partHas, x_partDefault, x_bytes, x_numbers, x_list, x_valueType, x_valueNumber, x_valueFrom, x_valueAfter, x_frameValue, x_frameType, x_frameStep, x_frameLeft, x_frameStart, x_addsNothing, x_written, x_pairs, x_pairSeen⟩ := u
  obtain ⟨y_types, y_byteCount, y_writtenCount, y_numberCount, y_listCount, y_values, y_depth, y_records, y_at, y_wrong, y_todo, y_kind, y_of, y_parts, y_fallback, y_name, y_part, y_alias, y_given, y_has, y_bytes, y_written, y_numbers, y_list, y_valueType, y_start, y_child, y_last, y_next, y_value, y_open, y_come, y_left, y_todoValue, y_todoType, y_todoDefault, y_pair, y_whole⟩ := v
  have I0 := I
  obtain ⟨g, bc, nc, lc, hg, hX, hY, hbc, hnc, hlc, hbb, hli, rfl, rfl, rfl, rfl, rfl, rfl, rfl, rfl, rfl, rfl, rfl, rfl, rfl, rfl, rfl, rfl⟩ := I
  have hn := hg.1
  rcases sc_no (x := v1) (n := bc) (by omega) with ⟨h, -⟩ | ⟨h, h1, h2⟩ | ⟨j, hj, rfl⟩
  · simp (disch := omega) only [wpX_at, wpY_at, wpY_in, h, forall_eq, nI_leI, nI_ltI, nI_eq, vp_in_nI, nI_clamp, nI_1, li_e0, li_f0, li_l0, li_g0, li_m0, li_h0, li_e1, li_f1, li_l1, li_g1, li_m1, li_h1, li_e2, li_f2, li_l2, li_g2, li_m2, li_h2, li_e3, li_f3, li_l3, li_g3, li_m3, li_h3, li_e4, li_f4, li_l4, li_g4, li_m4, li_h4, li_e5, li_f5, li_l5, li_g5, li_m5, li_h5, li_e6, li_f6, li_l6, li_g6, li_m6, li_h6, li_e7, li_f7, li_l7, li_g7, li_m7, li_h7, li_e8, li_f8, li_l8, li_g8, li_m8, li_h8, li_e9, li_f9, li_l9, li_g9, li_m9, li_h9, li_e10, li_f10, li_l10, li_g10, li_m10, li_h10, li_e15, li_f15, li_l15, li_g15, li_m15, li_h15, li_e16, li_f16, li_l16, li_g16, li_m16, li_h16, li_e20, li_f20, li_l20, li_g20, li_m20, li_h20, li_e40, li_f40, li_l40, li_g40, li_m40, li_h40, li_e100, li_f100, li_l100, li_g100, li_m100, li_h100, li_e128, li_f128, li_l128, li_g128, li_m128, li_h128, li_e150, li_f150, li_l150, li_g150, li_m150, li_h150, li_e255, li_f255, li_l255, li_g255, li_m255, li_h255, li_e400, li_f400, li_l400, li_g400, li_m400, li_h400, li_e410, li_f410, li_l410, li_g410, li_m410, li_h410, li_e420, li_f420, li_l420, li_g420, li_m420, li_h420, li_e2000, li_f2000, li_l2000, li_g2000, li_m2000, li_h2000, li_e8200, li_f8200, li_l8200, li_g8200, li_m8200, li_h8200, li_e1000000, li_f1000000, li_l1000000, li_g1000000, li_m1000000, li_h1000000, li_50, li_50', li_200, li_200', nI_add, li_s1, li_t1, li_c1, li_c2, li_c3, li_c4, li_c5, li_c6, li_c7, li_c8, li_c9, li_c10, li_c11, li_c12, li_c13, li_c14, li_c15, sg_Kat, sg_Pat, pk_us, pk_uLs, true_implies, forall_const, not_true_eq_false, not_false_eq_true, false_implies, and_true, true_and, implies_true, and_self, if_true, if_false, ite_true, ite_false, reduceIte, eq_self, Nat.reduceEqDiff, Nat.reduceLeDiff, Nat.reduceLT, Int32.reduceLT, Int32.reduceLE]
    exact i_up I0
  · have h3 : nI bc - 1 < v1 := by
      by_cases e : bc = 0
      · subst e
        rcases sc_no (x := v1) (n := 1) (by omega) with ⟨a, -⟩ | ⟨-, -, a⟩ | ⟨j, hj, rfl⟩
        · exact absurd a h
        · exact Int32.lt_trans (show nI 0 - 1 < nI 0 by decide) (a 0 (by omega)).1
        · exact Int32.lt_of_lt_of_le (show nI 0 - 1 < nI 0 by decide) (nI_le (by omega) (by omega))
      · rw [li_s1 (by omega)]; exact (h2 (bc - 1) (by omega)).1
    simp (disch := omega) only [wpX_at, wpY_at, wpY_in, h, h1, h3, forall_eq, nI_leI, nI_ltI, nI_eq, vp_in_nI, nI_clamp, nI_1, li_e0, li_f0, li_l0, li_g0, li_m0, li_h0, li_e1, li_f1, li_l1, li_g1, li_m1, li_h1, li_e2, li_f2, li_l2, li_g2, li_m2, li_h2, li_e3, li_f3, li_l3, li_g3, li_m3, li_h3, li_e4, li_f4, li_l4, li_g4, li_m4, li_h4, li_e5, li_f5, li_l5, li_g5, li_m5, li_h5, li_e6, li_f6, li_l6, li_g6, li_m6, li_h6, li_e7, li_f7, li_l7, li_g7, li_m7, li_h7, li_e8, li_f8, li_l8, li_g8, li_m8, li_h8, li_e9, li_f9, li_l9, li_g9, li_m9, li_h9, li_e10, li_f10, li_l10, li_g10, li_m10, li_h10, li_e15, li_f15, li_l15, li_g15, li_m15, li_h15, li_e16, li_f16, li_l16, li_g16, li_m16, li_h16, li_e20, li_f20, li_l20, li_g20, li_m20, li_h20, li_e40, li_f40, li_l40, li_g40, li_m40, li_h40, li_e100, li_f100, li_l100, li_g100, li_m100, li_h100, li_e128, li_f128, li_l128, li_g128, li_m128, li_h128, li_e150, li_f150, li_l150, li_g150, li_m150, li_h150, li_e255, li_f255, li_l255, li_g255, li_m255, li_h255, li_e400, li_f400, li_l400, li_g400, li_m400, li_h400, li_e410, li_f410, li_l410, li_g410, li_m410, li_h410, li_e420, li_f420, li_l420, li_g420, li_m420, li_h420, li_e2000, li_f2000, li_l2000, li_g2000, li_m2000, li_h2000, li_e8200, li_f8200, li_l8200, li_g8200, li_m8200, li_h8200, li_e1000000, li_f1000000, li_l1000000, li_g1000000, li_m1000000, li_h1000000, li_50, li_50', li_200, li_200', nI_add, li_s1, li_t1, li_c1, li_c2, li_c3, li_c4, li_c5, li_c6, li_c7, li_c8, li_c9, li_c10, li_c11, li_c12, li_c13, li_c14, li_c15, sg_Kat, sg_Pat, pk_us, pk_uLs, true_implies, forall_const, not_true_eq_false, not_false_eq_true, false_implies, and_true, true_and, implies_true, and_self, if_true, if_false, ite_true, ite_false, reduceIte, eq_self, Nat.reduceEqDiff, Nat.reduceLeDiff, Nat.reduceLT, Int32.reduceLT, Int32.reduceLE]
    exact i_up I0
  · have h3 : ¬ bc ≤ j := by omega
    have h4 : ¬ bc - 1 < j := by omega
    simp (disch := omega) only [wpX_at, wpY_at, wpY_in, h3, h4, Nat.not_lt_zero, forall_eq, nI_leI, nI_ltI, nI_eq, vp_in_nI, nI_clamp, nI_1, li_e0, li_f0, li_l0, li_g0, li_m0, li_h0, li_e1, li_f1, li_l1, li_g1, li_m1, li_h1, li_e2, li_f2, li_l2, li_g2, li_m2, li_h2, li_e3, li_f3, li_l3, li_g3, li_m3, li_h3, li_e4, li_f4, li_l4, li_g4, li_m4, li_h4, li_e5, li_f5, li_l5, li_g5, li_m5, li_h5, li_e6, li_f6, li_l6, li_g6, li_m6, li_h6, li_e7, li_f7, li_l7, li_g7, li_m7, li_h7, li_e8, li_f8, li_l8, li_g8, li_m8, li_h8, li_e9, li_f9, li_l9, li_g9, li_m9, li_h9, li_e10, li_f10, li_l10, li_g10, li_m10, li_h10, li_e15, li_f15, li_l15, li_g15, li_m15, li_h15, li_e16, li_f16, li_l16, li_g16, li_m16, li_h16, li_e20, li_f20, li_l20, li_g20, li_m20, li_h20, li_e40, li_f40, li_l40, li_g40, li_m40, li_h40, li_e100, li_f100, li_l100, li_g100, li_m100, li_h100, li_e128, li_f128, li_l128, li_g128, li_m128, li_h128, li_e150, li_f150, li_l150, li_g150, li_m150, li_h150, li_e255, li_f255, li_l255, li_g255, li_m255, li_h255, li_e400, li_f400, li_l400, li_g400, li_m400, li_h400, li_e410, li_f410, li_l410, li_g410, li_m410, li_h410, li_e420, li_f420, li_l420, li_g420, li_m420, li_h420, li_e2000, li_f2000, li_l2000, li_g2000, li_m2000, li_h2000, li_e8200, li_f8200, li_l8200, li_g8200, li_m8200, li_h8200, li_e1000000, li_f1000000, li_l1000000, li_g1000000, li_m1000000, li_h1000000, li_50, li_50', li_200, li_200', nI_add, li_s1, li_t1, li_c1, li_c2, li_c3, li_c4, li_c5, li_c6, li_c7, li_c8, li_c9, li_c10, li_c11, li_c12, li_c13, li_c14, li_c15, sg_Kat, sg_Pat, pk_us, pk_uLs, true_implies, forall_const, not_true_eq_false, not_false_eq_true, false_implies, and_true, true_and, implies_true, and_self, if_true, if_false, ite_true, ite_false, reduceIte, eq_self, Nat.reduceEqDiff, Nat.reduceLeDiff, Nat.reduceLT, Int32.reduceLT, Int32.reduceLE]
    exact i_up I0
theorem i_vc_wipe {k : Nat} {u : SX} {v : SY} (I : i_Rel k u v) (hk : k + 7 ≤ 3584) (v1 : Int32) : wpX_wipe (fun r u' => wpY_wipe (fun r' v' => r' = r ∧ i_Rel (k + 7) u' v') v (lw_bz v1)) u (lw_bz v1) := by
  obtain ⟨x_typeCount, x_byteCount, x_numberCount, x_listCount, x_trouble, x_place, x_valueCount, x_top, x_records, x_writtenCount, x_pairCount, x_kindOf, x_detailOf, x_fallbackOf, x_partCount, x_partName, x_partType, x_partAlias, x_partHas, x_partDefault, x_bytes, x_numbers, x_list, x_valueType, x_valueNumber, x_valueFrom, x_valueAfter, x_frameValue, x_frameType, x_frameStep, x_frameLeft, x_frameStart, x_addsNothing, x_written, x_pairs, x_pairSeen⟩ := u
  obtain ⟨y_types, y_byteCount, y_writtenCount, y_numberCount, y_listCount, y_values, y_depth, y_records, y_at, y_wrong, y_todo, y_kind, y_of, y_parts, y_fallback, y_name, y_part, y_alias, y_given, y_has, y_bytes, y_written, y_numbers, y_list, y_valueType, y_start, y_child, y_last, y_next, y_value, y_open, y_come, y_left, y_todoValue, y_todoType, y_todoDefault, y_pair, y_whole⟩ := v
  have I0 := I
  obtain ⟨g, bc, nc, lc, hg, hX, hY, hbc, hnc, hlc, hbb, hli, rfl, rfl, rfl, rfl, rfl, rfl, rfl, rfl, rfl, rfl, rfl, rfl, rfl, rfl, rfl, rfl⟩ := I
  have hn := hg.1
  by_cases h : lw_bz v1 = 0
  · simp (disch := omega) only [wpX_wipe, wX_wipe_15, wpY_wipe, wY_wipe_15, h, forall_eq, nI_leI, nI_ltI, nI_eq, vp_in_nI, nI_clamp, nI_1, li_e0, li_f0, li_l0, li_g0, li_m0, li_h0, li_e1, li_f1, li_l1, li_g1, li_m1, li_h1, li_e2, li_f2, li_l2, li_g2, li_m2, li_h2, li_e3, li_f3, li_l3, li_g3, li_m3, li_h3, li_e4, li_f4, li_l4, li_g4, li_m4, li_h4, li_e5, li_f5, li_l5, li_g5, li_m5, li_h5, li_e6, li_f6, li_l6, li_g6, li_m6, li_h6, li_e7, li_f7, li_l7, li_g7, li_m7, li_h7, li_e8, li_f8, li_l8, li_g8, li_m8, li_h8, li_e9, li_f9, li_l9, li_g9, li_m9, li_h9, li_e10, li_f10, li_l10, li_g10, li_m10, li_h10, li_e15, li_f15, li_l15, li_g15, li_m15, li_h15, li_e16, li_f16, li_l16, li_g16, li_m16, li_h16, li_e20, li_f20, li_l20, li_g20, li_m20, li_h20, li_e40, li_f40, li_l40, li_g40, li_m40, li_h40, li_e100, li_f100, li_l100, li_g100, li_m100, li_h100, li_e128, li_f128, li_l128, li_g128, li_m128, li_h128, li_e150, li_f150, li_l150, li_g150, li_m150, li_h150, li_e255, li_f255, li_l255, li_g255, li_m255, li_h255, li_e400, li_f400, li_l400, li_g400, li_m400, li_h400, li_e410, li_f410, li_l410, li_g410, li_m410, li_h410, li_e420, li_f420, li_l420, li_g420, li_m420, li_h420, li_e2000, li_f2000, li_l2000, li_g2000, li_m2000, li_h2000, li_e8200, li_f8200, li_l8200, li_g8200, li_m8200, li_h8200, li_e1000000, li_f1000000, li_l1000000, li_g1000000, li_m1000000, li_h1000000, li_50, li_50', li_200, li_200', nI_add, li_s1, li_t1, li_c1, li_c2, li_c3, li_c4, li_c5, li_c6, li_c7, li_c8, li_c9, li_c10, li_c11, li_c12, li_c13, li_c14, li_c15, sg_Kat, sg_Pat, pk_us, pk_uLs, true_implies, forall_const, not_true_eq_false, not_false_eq_true, false_implies, and_true, true_and, implies_true, and_self, if_true, if_false, ite_true, ite_false, reduceIte, eq_self, Nat.reduceEqDiff, Nat.reduceLeDiff, Nat.reduceLT, Int32.reduceLT, Int32.reduceLE]
    exact sr_mk g 0 nc lc hg hX hY (by omega) hnc hlc (fun i h => absurd h (by omega)) hli rfl rfl rfl rfl rfl rfl rfl rfl rfl rfl rfl rfl rfl rfl rfl rfl
  · simp (disch := omega) only [wpX_wipe, wX_wipe_15, wpY_wipe, wY_wipe_15, h, forall_eq, nI_leI, nI_ltI, nI_eq, vp_in_nI, nI_clamp, nI_1, li_e0, li_f0, li_l0, li_g0, li_m0, li_h0, li_e1, li_f1, li_l1, li_g1, li_m1, li_h1, li_e2, li_f2, li_l2, li_g2, li_m2, li_h2, li_e3, li_f3, li_l3, li_g3, li_m3, li_h3, li_e4, li_f4, li_l4, li_g4, li_m4, li_h4, li_e5, li_f5, li_l5, li_g5, li_m5, li_h5, li_e6, li_f6, li_l6, li_g6, li_m6, li_h6, li_e7, li_f7, li_l7, li_g7, li_m7, li_h7, li_e8, li_f8, li_l8, li_g8, li_m8, li_h8, li_e9, li_f9, li_l9, li_g9, li_m9, li_h9, li_e10, li_f10, li_l10, li_g10, li_m10, li_h10, li_e15, li_f15, li_l15, li_g15, li_m15, li_h15, li_e16, li_f16, li_l16, li_g16, li_m16, li_h16, li_e20, li_f20, li_l20, li_g20, li_m20, li_h20, li_e40, li_f40, li_l40, li_g40, li_m40, li_h40, li_e100, li_f100, li_l100, li_g100, li_m100, li_h100, li_e128, li_f128, li_l128, li_g128, li_m128, li_h128, li_e150, li_f150, li_l150, li_g150, li_m150, li_h150, li_e255, li_f255, li_l255, li_g255, li_m255, li_h255, li_e400, li_f400, li_l400, li_g400, li_m400, li_h400, li_e410, li_f410, li_l410, li_g410, li_m410, li_h410, li_e420, li_f420, li_l420, li_g420, li_m420, li_h420, li_e2000, li_f2000, li_l2000, li_g2000, li_m2000, li_h2000, li_e8200, li_f8200, li_l8200, li_g8200, li_m8200, li_h8200, li_e1000000, li_f1000000, li_l1000000, li_g1000000, li_m1000000, li_h1000000, li_50, li_50', li_200, li_200', nI_add, li_s1, li_t1, li_c1, li_c2, li_c3, li_c4, li_c5, li_c6, li_c7, li_c8, li_c9, li_c10, li_c11, li_c12, li_c13, li_c14, li_c15, sg_Kat, sg_Pat, pk_us, pk_uLs, true_implies, forall_const, not_true_eq_false, not_false_eq_true, false_implies, and_true, true_and, implies_true, and_self, if_true, if_false, ite_true, ite_false, reduceIte, eq_self, Nat.reduceEqDiff, Nat.reduceLeDiff, Nat.reduceLT, Int32.reduceLT, Int32.reduceLE]
    exact sr_mk g bc 0 lc hg hX hY hbc (by omega) hlc hbb hli rfl rfl rfl rfl rfl rfl rfl rfl rfl rfl rfl rfl rfl rfl rfl rfl
theorem i_vc_number {k : Nat} {u : SX} {v : SY} (I : i_Rel k u v) (hk : k + 7 ≤ 3584) (a0 : Int64) : wpX_number (fun r u' => wpY_number (fun r' v' => r' = r ∧ i_Rel (k + 7) u' v') v a0) u a0 := by
  obtain ⟨x_typeCount, x_byteCount, x_numberCount, x_listCount, x_trouble, x_place, x_valueCount, x_top, x_records, x_writtenCount, x_pairCount, x_kindOf, x_detailOf, x_fallbackOf, x_partCount, x_partName, x_partType, x_partAlias, x_partHas, x_partDefault, x_bytes, x_numbers, x_list, x_valueType, x_valueNumber, x_valueFrom, x_valueAfter, x_frameValue, x_frameType, x_frameStep, x_frameLeft, x_frameStart, x_addsNothing, x_written, x_pairs, x_pairSeen⟩ := u
  obtain ⟨y_types, y_byteCount, y_writtenCount, y_numberCount, y_listCount, y_values, y_depth, y_records, y_at, y_wrong, y_todo, y_kind, y_of, y_parts, y_fallback, y_name, y_part, y_alias, y_given, y_has, y_bytes, y_written, y_numbers, y_list, y_valueType, y_start, y_child, y_last, y_next, y_value, y_open, y_come, y_left, y_todoValue, y_todoType, y_todoDefault, y_pair, y_whole⟩ := v
  have I0 := I
  obtain ⟨g, bc, nc, lc, hg, hX, hY, hbc, hnc, hlc, hbb, hli, rfl, rfl, rfl, rfl, rfl, rfl, rfl, rfl, rfl, rfl, rfl, rfl, rfl, rfl, rfl, rfl⟩ := I
  have hn := hg.1
  by_cases h : nc = 100
  · subst h
    simp (disch := omega) only [wpX_number, wpY_number, forall_eq, nI_leI, nI_ltI, nI_eq, vp_in_nI, nI_clamp, nI_1, li_e0, li_f0, li_l0, li_g0, li_m0, li_h0, li_e1, li_f1, li_l1, li_g1, li_m1, li_h1, li_e2, li_f2, li_l2, li_g2, li_m2, li_h2, li_e3, li_f3, li_l3, li_g3, li_m3, li_h3, li_e4, li_f4, li_l4, li_g4, li_m4, li_h4, li_e5, li_f5, li_l5, li_g5, li_m5, li_h5, li_e6, li_f6, li_l6, li_g6, li_m6, li_h6, li_e7, li_f7, li_l7, li_g7, li_m7, li_h7, li_e8, li_f8, li_l8, li_g8, li_m8, li_h8, li_e9, li_f9, li_l9, li_g9, li_m9, li_h9, li_e10, li_f10, li_l10, li_g10, li_m10, li_h10, li_e15, li_f15, li_l15, li_g15, li_m15, li_h15, li_e16, li_f16, li_l16, li_g16, li_m16, li_h16, li_e20, li_f20, li_l20, li_g20, li_m20, li_h20, li_e40, li_f40, li_l40, li_g40, li_m40, li_h40, li_e100, li_f100, li_l100, li_g100, li_m100, li_h100, li_e128, li_f128, li_l128, li_g128, li_m128, li_h128, li_e150, li_f150, li_l150, li_g150, li_m150, li_h150, li_e255, li_f255, li_l255, li_g255, li_m255, li_h255, li_e400, li_f400, li_l400, li_g400, li_m400, li_h400, li_e410, li_f410, li_l410, li_g410, li_m410, li_h410, li_e420, li_f420, li_l420, li_g420, li_m420, li_h420, li_e2000, li_f2000, li_l2000, li_g2000, li_m2000, li_h2000, li_e8200, li_f8200, li_l8200, li_g8200, li_m8200, li_h8200, li_e1000000, li_f1000000, li_l1000000, li_g1000000, li_m1000000, li_h1000000, li_50, li_50', li_200, li_200', nI_add, li_s1, li_t1, li_c1, li_c2, li_c3, li_c4, li_c5, li_c6, li_c7, li_c8, li_c9, li_c10, li_c11, li_c12, li_c13, li_c14, li_c15, sg_Kat, sg_Pat, pk_us, pk_uLs, true_implies, forall_const, not_true_eq_false, not_false_eq_true, false_implies, and_true, true_and, implies_true, and_self, if_true, if_false, ite_true, ite_false, reduceIte, eq_self, Nat.reduceEqDiff, Nat.reduceLeDiff, Nat.reduceLT, Int32.reduceLT, Int32.reduceLE]
    exact i_up I0
  · simp (disch := omega) only [wpX_number, wpY_number, h, forall_eq, nI_leI, nI_ltI, nI_eq, vp_in_nI, nI_clamp, nI_1, li_e0, li_f0, li_l0, li_g0, li_m0, li_h0, li_e1, li_f1, li_l1, li_g1, li_m1, li_h1, li_e2, li_f2, li_l2, li_g2, li_m2, li_h2, li_e3, li_f3, li_l3, li_g3, li_m3, li_h3, li_e4, li_f4, li_l4, li_g4, li_m4, li_h4, li_e5, li_f5, li_l5, li_g5, li_m5, li_h5, li_e6, li_f6, li_l6, li_g6, li_m6, li_h6, li_e7, li_f7, li_l7, li_g7, li_m7, li_h7, li_e8, li_f8, li_l8, li_g8, li_m8, li_h8, li_e9, li_f9, li_l9, li_g9, li_m9, li_h9, li_e10, li_f10, li_l10, li_g10, li_m10, li_h10, li_e15, li_f15, li_l15, li_g15, li_m15, li_h15, li_e16, li_f16, li_l16, li_g16, li_m16, li_h16, li_e20, li_f20, li_l20, li_g20, li_m20, li_h20, li_e40, li_f40, li_l40, li_g40, li_m40, li_h40, li_e100, li_f100, li_l100, li_g100, li_m100, li_h100, li_e128, li_f128, li_l128, li_g128, li_m128, li_h128, li_e150, li_f150, li_l150, li_g150, li_m150, li_h150, li_e255, li_f255, li_l255, li_g255, li_m255, li_h255, li_e400, li_f400, li_l400, li_g400, li_m400, li_h400, li_e410, li_f410, li_l410, li_g410, li_m410, li_h410, li_e420, li_f420, li_l420, li_g420, li_m420, li_h420, li_e2000, li_f2000, li_l2000, li_g2000, li_m2000, li_h2000, li_e8200, li_f8200, li_l8200, li_g8200, li_m8200, li_h8200, li_e1000000, li_f1000000, li_l1000000, li_g1000000, li_m1000000, li_h1000000, li_50, li_50', li_200, li_200', nI_add, li_s1, li_t1, li_c1, li_c2, li_c3, li_c4, li_c5, li_c6, li_c7, li_c8, li_c9, li_c10, li_c11, li_c12, li_c13, li_c14, li_c15, sg_Kat, sg_Pat, pk_us, pk_uLs, true_implies, forall_const, not_true_eq_false, not_false_eq_true, false_implies, and_true, true_and, implies_true, and_self, if_true, if_false, ite_true, ite_false, reduceIte, eq_self, Nat.reduceEqDiff, Nat.reduceLeDiff, Nat.reduceLT, Int32.reduceLT, Int32.reduceLE]
    exact sr_mk g bc (nc + 1) lc hg hX hY hbc (by omega) hlc hbb hli rfl rfl rfl rfl rfl rfl rfl rfl rfl rfl rfl rfl rfl rfl rfl rfl
theorem i_vc_result {k : Nat} {u : SX} {v : SY} (I : i_Rel k u v) (hk : k + 7 ≤ 3584) (v1 : Int32) : wpX_result (fun r => wpY_result (fun r' => r' = r ∧ i_Rel (k + 7) u v) v v1) u v1 := by
  obtain ⟨x_typeCount, x_byteCount, x_numberCount, x_listCount, x_trouble, x_place, x_valueCount, x_top, x_records, x_writtenCount, x_pairCount, x_kindOf, x_detailOf, x_fallbackOf, x_partCount, x_partName, x_partType, x_partAlias, x_partHas, x_partDefault, x_bytes, x_numbers, x_list, x_valueType, x_valueNumber, x_valueFrom, x_valueAfter, x_frameValue, x_frameType, x_frameStep, x_frameLeft, x_frameStart, x_addsNothing, x_written, x_pairs, x_pairSeen⟩ := u
  obtain ⟨y_types, y_byteCount, y_writtenCount, y_numberCount, y_listCount, y_values, y_depth, y_records, y_at, y_wrong, y_todo, y_kind, y_of, y_parts, y_fallback, y_name, y_part, y_alias, y_given, y_has, y_bytes, y_written, y_numbers, y_list, y_valueType, y_start, y_child, y_last, y_next, y_value, y_open, y_come, y_left, y_todoValue, y_todoType, y_todoDefault, y_pair, y_whole⟩ := v
  have I0 := I
  obtain ⟨g, bc, nc, lc, hg, hX, hY, hbc, hnc, hlc, hbb, hli, rfl, rfl, rfl, rfl, rfl, rfl, rfl, rfl, rfl, rfl, rfl, rfl, rfl, rfl, rfl, rfl⟩ := I
  have hn := hg.1
  by_cases hm : v1 = -1
  · subst hm
    simp (disch := omega) only [wpX_result, wpY_result, forall_eq, nI_leI, nI_ltI, nI_eq, vp_in_nI, nI_clamp, nI_1, li_e0, li_f0, li_l0, li_g0, li_m0, li_h0, li_e1, li_f1, li_l1, li_g1, li_m1, li_h1, li_e2, li_f2, li_l2, li_g2, li_m2, li_h2, li_e3, li_f3, li_l3, li_g3, li_m3, li_h3, li_e4, li_f4, li_l4, li_g4, li_m4, li_h4, li_e5, li_f5, li_l5, li_g5, li_m5, li_h5, li_e6, li_f6, li_l6, li_g6, li_m6, li_h6, li_e7, li_f7, li_l7, li_g7, li_m7, li_h7, li_e8, li_f8, li_l8, li_g8, li_m8, li_h8, li_e9, li_f9, li_l9, li_g9, li_m9, li_h9, li_e10, li_f10, li_l10, li_g10, li_m10, li_h10, li_e15, li_f15, li_l15, li_g15, li_m15, li_h15, li_e16, li_f16, li_l16, li_g16, li_m16, li_h16, li_e20, li_f20, li_l20, li_g20, li_m20, li_h20, li_e40, li_f40, li_l40, li_g40, li_m40, li_h40, li_e100, li_f100, li_l100, li_g100, li_m100, li_h100, li_e128, li_f128, li_l128, li_g128, li_m128, li_h128, li_e150, li_f150, li_l150, li_g150, li_m150, li_h150, li_e255, li_f255, li_l255, li_g255, li_m255, li_h255, li_e400, li_f400, li_l400, li_g400, li_m400, li_h400, li_e410, li_f410, li_l410, li_g410, li_m410, li_h410, li_e420, li_f420, li_l420, li_g420, li_m420, li_h420, li_e2000, li_f2000, li_l2000, li_g2000, li_m2000, li_h2000, li_e8200, li_f8200, li_l8200, li_g8200, li_m8200, li_h8200, li_e1000000, li_f1000000, li_l1000000, li_g1000000, li_m1000000, li_h1000000, li_50, li_50', li_200, li_200', nI_add, li_s1, li_t1, li_c1, li_c2, li_c3, li_c4, li_c5, li_c6, li_c7, li_c8, li_c9, li_c10, li_c11, li_c12, li_c13, li_c14, li_c15, sg_Kat, sg_Pat, pk_us, pk_uLs, true_implies, forall_const, not_true_eq_false, not_false_eq_true, false_implies, and_true, true_and, implies_true, and_self, if_true, if_false, ite_true, ite_false, reduceIte, eq_self, Nat.reduceEqDiff, Nat.reduceLeDiff, Nat.reduceLT, Int32.reduceLT, Int32.reduceLE]
    exact i_up I0
  rcases sc_no (x := v1) (n := lc) (by omega) with ⟨h, -⟩ | ⟨h, h1, h2⟩ | ⟨j, hj, rfl⟩
  · simp (disch := omega) only [wpX_result, wpY_result, wpY_in, h, hm, forall_eq, nI_leI, nI_ltI, nI_eq, vp_in_nI, nI_clamp, nI_1, li_e0, li_f0, li_l0, li_g0, li_m0, li_h0, li_e1, li_f1, li_l1, li_g1, li_m1, li_h1, li_e2, li_f2, li_l2, li_g2, li_m2, li_h2, li_e3, li_f3, li_l3, li_g3, li_m3, li_h3, li_e4, li_f4, li_l4, li_g4, li_m4, li_h4, li_e5, li_f5, li_l5, li_g5, li_m5, li_h5, li_e6, li_f6, li_l6, li_g6, li_m6, li_h6, li_e7, li_f7, li_l7, li_g7, li_m7, li_h7, li_e8, li_f8, li_l8, li_g8, li_m8, li_h8, li_e9, li_f9, li_l9, li_g9, li_m9, li_h9, li_e10, li_f10, li_l10, li_g10, li_m10, li_h10, li_e15, li_f15, li_l15, li_g15, li_m15, li_h15, li_e16, li_f16, li_l16, li_g16, li_m16, li_h16, li_e20, li_f20, li_l20, li_g20, li_m20, li_h20, li_e40, li_f40, li_l40, li_g40, li_m40, li_h40, li_e100, li_f100, li_l100, li_g100, li_m100, li_h100, li_e128, li_f128, li_l128, li_g128, li_m128, li_h128, li_e150, li_f150, li_l150, li_g150, li_m150, li_h150, li_e255, li_f255, li_l255, li_g255, li_m255, li_h255, li_e400, li_f400, li_l400, li_g400, li_m400, li_h400, li_e410, li_f410, li_l410, li_g410, li_m410, li_h410, li_e420, li_f420, li_l420, li_g420, li_m420, li_h420, li_e2000, li_f2000, li_l2000, li_g2000, li_m2000, li_h2000, li_e8200, li_f8200, li_l8200, li_g8200, li_m8200, li_h8200, li_e1000000, li_f1000000, li_l1000000, li_g1000000, li_m1000000, li_h1000000, li_50, li_50', li_200, li_200', nI_add, li_s1, li_t1, li_c1, li_c2, li_c3, li_c4, li_c5, li_c6, li_c7, li_c8, li_c9, li_c10, li_c11, li_c12, li_c13, li_c14, li_c15, sg_Kat, sg_Pat, pk_us, pk_uLs, true_implies, forall_const, not_true_eq_false, not_false_eq_true, false_implies, and_true, true_and, implies_true, and_self, if_true, if_false, ite_true, ite_false, reduceIte, eq_self, Nat.reduceEqDiff, Nat.reduceLeDiff, Nat.reduceLT, Int32.reduceLT, Int32.reduceLE]
    exact i_up I0
  · have h3 : nI lc - 1 < v1 := by
      by_cases e : lc = 0
      · subst e
        rcases sc_no (x := v1) (n := 1) (by omega) with ⟨a, -⟩ | ⟨-, -, a⟩ | ⟨j, hj, rfl⟩
        · exact absurd a h
        · exact Int32.lt_trans (show nI 0 - 1 < nI 0 by decide) (a 0 (by omega)).1
        · exact Int32.lt_of_lt_of_le (show nI 0 - 1 < nI 0 by decide) (nI_le (by omega) (by omega))
      · rw [li_s1 (by omega)]; exact (h2 (lc - 1) (by omega)).1
    simp (disch := omega) only [wpX_result, wpY_result, wpY_in, h, hm, h1, h3, forall_eq, nI_leI, nI_ltI, nI_eq, vp_in_nI, nI_clamp, nI_1, li_e0, li_f0, li_l0, li_g0, li_m0, li_h0, li_e1, li_f1, li_l1, li_g1, li_m1, li_h1, li_e2, li_f2, li_l2, li_g2, li_m2, li_h2, li_e3, li_f3, li_l3, li_g3, li_m3, li_h3, li_e4, li_f4, li_l4, li_g4, li_m4, li_h4, li_e5, li_f5, li_l5, li_g5, li_m5, li_h5, li_e6, li_f6, li_l6, li_g6, li_m6, li_h6, li_e7, li_f7, li_l7, li_g7, li_m7, li_h7, li_e8, li_f8, li_l8, li_g8, li_m8, li_h8, li_e9, li_f9, li_l9, li_g9, li_m9, li_h9, li_e10, li_f10, li_l10, li_g10, li_m10, li_h10, li_e15, li_f15, li_l15, li_g15, li_m15, li_h15, li_e16, li_f16, li_l16, li_g16, li_m16, li_h16, li_e20, li_f20, li_l20, li_g20, li_m20, li_h20, li_e40, li_f40, li_l40, li_g40, li_m40, li_h40, li_e100, li_f100, li_l100, li_g100, li_m100, li_h100, li_e128, li_f128, li_l128, li_g128, li_m128, li_h128, li_e150, li_f150, li_l150, li_g150, li_m150, li_h150, li_e255, li_f255, li_l255, li_g255, li_m255, li_h255, li_e400, li_f400, li_l400, li_g400, li_m400, li_h400, li_e410, li_f410, li_l410, li_g410, li_m410, li_h410, li_e420, li_f420, li_l420, li_g420, li_m420, li_h420, li_e2000, li_f2000, li_l2000, li_g2000, li_m2000, li_h2000, li_e8200, li_f8200, li_l8200, li_g8200, li_m8200, li_h8200, li_e1000000, li_f1000000, li_l1000000, li_g1000000, li_m1000000, li_h1000000, li_50, li_50', li_200, li_200', nI_add, li_s1, li_t1, li_c1, li_c2, li_c3, li_c4, li_c5, li_c6, li_c7, li_c8, li_c9, li_c10, li_c11, li_c12, li_c13, li_c14, li_c15, sg_Kat, sg_Pat, pk_us, pk_uLs, true_implies, forall_const, not_true_eq_false, not_false_eq_true, false_implies, and_true, true_and, implies_true, and_self, if_true, if_false, ite_true, ite_false, reduceIte, eq_self, Nat.reduceEqDiff, Nat.reduceLeDiff, Nat.reduceLT, Int32.reduceLT, Int32.reduceLE]
    exact i_up I0
  · have h3 : ¬ lc ≤ j := by omega
    have h4 : ¬ lc - 1 < j := by omega
    simp (disch := omega) only [wpX_result, wpY_result, wpY_in, h3, h4, hm, Nat.not_lt_zero, forall_eq, nI_leI, nI_ltI, nI_eq, vp_in_nI, nI_clamp, nI_1, li_e0, li_f0, li_l0, li_g0, li_m0, li_h0, li_e1, li_f1, li_l1, li_g1, li_m1, li_h1, li_e2, li_f2, li_l2, li_g2, li_m2, li_h2, li_e3, li_f3, li_l3, li_g3, li_m3, li_h3, li_e4, li_f4, li_l4, li_g4, li_m4, li_h4, li_e5, li_f5, li_l5, li_g5, li_m5, li_h5, li_e6, li_f6, li_l6, li_g6, li_m6, li_h6, li_e7, li_f7, li_l7, li_g7, li_m7, li_h7, li_e8, li_f8, li_l8, li_g8, li_m8, li_h8, li_e9, li_f9, li_l9, li_g9, li_m9, li_h9, li_e10, li_f10, li_l10, li_g10, li_m10, li_h10, li_e15, li_f15, li_l15, li_g15, li_m15, li_h15, li_e16, li_f16, li_l16, li_g16, li_m16, li_h16, li_e20, li_f20, li_l20, li_g20, li_m20, li_h20, li_e40, li_f40, li_l40, li_g40, li_m40, li_h40, li_e100, li_f100, li_l100, li_g100, li_m100, li_h100, li_e128, li_f128, li_l128, li_g128, li_m128, li_h128, li_e150, li_f150, li_l150, li_g150, li_m150, li_h150, li_e255, li_f255, li_l255, li_g255, li_m255, li_h255, li_e400, li_f400, li_l400, li_g400, li_m400, li_h400, li_e410, li_f410, li_l410, li_g410, li_m410, li_h410, li_e420, li_f420, li_l420, li_g420, li_m420, li_h420, li_e2000, li_f2000, li_l2000, li_g2000, li_m2000, li_h2000, li_e8200, li_f8200, li_l8200, li_g8200, li_m8200, li_h8200, li_e1000000, li_f1000000, li_l1000000, li_g1000000, li_m1000000, li_h1000000, li_50, li_50', li_200, li_200', nI_add, li_s1, li_t1, li_c1, li_c2, li_c3, li_c4, li_c5, li_c6, li_c7, li_c8, li_c9, li_c10, li_c11, li_c12, li_c13, li_c14, li_c15, sg_Kat, sg_Pat, pk_us, pk_uLs, true_implies, forall_const, not_true_eq_false, not_false_eq_true, false_implies, and_true, true_and, implies_true, and_self, if_true, if_false, ite_true, ite_false, reduceIte, eq_self, Nat.reduceEqDiff, Nat.reduceLeDiff, Nat.reduceLT, Int32.reduceLT, Int32.reduceLE]
    exact ⟨hli j hj, i_up I0⟩

theorem sc_top {x : Int32} {n : Nat} (hn : n < 2 ^ 30) (h : ¬ x < 0) (h1 : nI n ≤ x) (h2 : ∀ m, m < n → nI m < x ∧ ¬ x ≤ nI m ∧ ¬ x = nI m) : nI n - 1 < x := by
  by_cases e : n = 0
  · subst e
    rcases sc_no (x := x) (n := 1) (by omega) with ⟨a, -⟩ | ⟨-, -, a⟩ | ⟨j, hj, rfl⟩
    · exact absurd a h
    · exact Int32.lt_trans (show nI 0 - 1 < nI 0 by decide) (a 0 (by omega)).1
    · exact Int32.lt_of_lt_of_le (show nI 0 - 1 < nI 0 by decide) (nI_le (by omega) (by omega))
  · rw [li_s1 (by omega)]; exact (h2 (n - 1) (by omega)).1
theorem i_vc_type {k : Nat} {u : SX} {v : SY} (I : i_Rel k u v) (hk : k + 7 ≤ 3584) (v1 : Int32) (v2 : Int32) : wpX_type (fun r u' => wpY_type (fun r' v' => r' = r ∧ i_Rel (k + 7) u' v') v v1 v2) u v1 v2 := by
  obtain ⟨x_typeCount, x_byteCount, x_numberCount, x_listCount, x_trouble, x_place, x_valueCount, x_top, x_records, x_writtenCount, x_pairCount, x_kindOf, x_detailOf, x_fallbackOf, x_partCount, x_partName, x_partType, x_partAlias, x_partHas, x_partDefault, x_bytes, x_numbers, x_list, x_valueType, x_valueNumber, x_valueFrom, x_valueAfter, x_frameValue, x_frameType, x_frameStep, x_frameLeft, x_frameStart, x_addsNothing, x_written, x_pairs, x_pairSeen⟩ := u
  obtain ⟨y_types, y_byteCount, y_writtenCount, y_numberCount, y_listCount, y_values, y_depth, y_records, y_at, y_wrong, y_todo, y_kind, y_of, y_parts, y_fallback, y_name, y_part, y_alias, y_given, y_has, y_bytes, y_written, y_numbers, y_list, y_valueType, y_start, y_child, y_last, y_next, y_value, y_open, y_come, y_left, y_todoValue, y_todoType, y_todoDefault, y_pair, y_whole⟩ := v
  have I0 := I
  obtain ⟨g, bc, nc, lc, hg, hX, hY, hbc, hnc, hlc, hbb, hli, rfl, rfl, rfl, rfl, rfl, rfl, rfl, rfl, rfl, rfl, rfl, rfl, rfl, rfl, rfl, rfl⟩ := I
  have hn := hg.1
  by_cases h20 : sg_n g = 20
  · simp (disch := omega) only [wpX_type, wpY_type, h20, forall_eq, nI_leI, nI_ltI, nI_eq, vp_in_nI, nI_clamp, nI_1, li_e0, li_f0, li_l0, li_g0, li_m0, li_h0, li_e1, li_f1, li_l1, li_g1, li_m1, li_h1, li_e2, li_f2, li_l2, li_g2, li_m2, li_h2, li_e3, li_f3, li_l3, li_g3, li_m3, li_h3, li_e4, li_f4, li_l4, li_g4, li_m4, li_h4, li_e5, li_f5, li_l5, li_g5, li_m5, li_h5, li_e6, li_f6, li_l6, li_g6, li_m6, li_h6, li_e7, li_f7, li_l7, li_g7, li_m7, li_h7, li_e8, li_f8, li_l8, li_g8, li_m8, li_h8, li_e9, li_f9, li_l9, li_g9, li_m9, li_h9, li_e10, li_f10, li_l10, li_g10, li_m10, li_h10, li_e15, li_f15, li_l15, li_g15, li_m15, li_h15, li_e16, li_f16, li_l16, li_g16, li_m16, li_h16, li_e20, li_f20, li_l20, li_g20, li_m20, li_h20, li_e40, li_f40, li_l40, li_g40, li_m40, li_h40, li_e100, li_f100, li_l100, li_g100, li_m100, li_h100, li_e128, li_f128, li_l128, li_g128, li_m128, li_h128, li_e150, li_f150, li_l150, li_g150, li_m150, li_h150, li_e255, li_f255, li_l255, li_g255, li_m255, li_h255, li_e400, li_f400, li_l400, li_g400, li_m400, li_h400, li_e410, li_f410, li_l410, li_g410, li_m410, li_h410, li_e420, li_f420, li_l420, li_g420, li_m420, li_h420, li_e2000, li_f2000, li_l2000, li_g2000, li_m2000, li_h2000, li_e8200, li_f8200, li_l8200, li_g8200, li_m8200, li_h8200, li_e1000000, li_f1000000, li_l1000000, li_g1000000, li_m1000000, li_h1000000, li_50, li_50', li_200, li_200', nI_add, li_s1, li_t1, li_c1, li_c2, li_c3, li_c4, li_c5, li_c6, li_c7, li_c8, li_c9, li_c10, li_c11, li_c12, li_c13, li_c14, li_c15, sg_Kat, sg_Pat, pk_us, pk_uLs, true_implies, forall_const, not_true_eq_false, not_false_eq_true, false_implies, and_true, true_and, implies_true, and_self, if_true, if_false, ite_true, ite_false, reduceIte, eq_self, Nat.reduceEqDiff, Nat.reduceLeDiff, Nat.reduceLT, Int32.reduceLT, Int32.reduceLE]
    rw [← h20]
    exact i_up I0
  have hn2 : sg_n g < 20 := by omega
  rcases sc_no (x := v1) (n := 10) (by omega) with ⟨h, -⟩ | ⟨h, -, h2⟩ | ⟨j, hj, rfl⟩
  · simp (disch := omega) only [wpX_type, wpY_type, wpY_in, h20, h, forall_eq, nI_leI, nI_ltI, nI_eq, vp_in_nI, nI_clamp, nI_1, li_e0, li_f0, li_l0, li_g0, li_m0, li_h0, li_e1, li_f1, li_l1, li_g1, li_m1, li_h1, li_e2, li_f2, li_l2, li_g2, li_m2, li_h2, li_e3, li_f3, li_l3, li_g3, li_m3, li_h3, li_e4, li_f4, li_l4, li_g4, li_m4, li_h4, li_e5, li_f5, li_l5, li_g5, li_m5, li_h5, li_e6, li_f6, li_l6, li_g6, li_m6, li_h6, li_e7, li_f7, li_l7, li_g7, li_m7, li_h7, li_e8, li_f8, li_l8, li_g8, li_m8, li_h8, li_e9, li_f9, li_l9, li_g9, li_m9, li_h9, li_e10, li_f10, li_l10, li_g10, li_m10, li_h10, li_e15, li_f15, li_l15, li_g15, li_m15, li_h15, li_e16, li_f16, li_l16, li_g16, li_m16, li_h16, li_e20, li_f20, li_l20, li_g20, li_m20, li_h20, li_e40, li_f40, li_l40, li_g40, li_m40, li_h40, li_e100, li_f100, li_l100, li_g100, li_m100, li_h100, li_e128, li_f128, li_l128, li_g128, li_m128, li_h128, li_e150, li_f150, li_l150, li_g150, li_m150, li_h150, li_e255, li_f255, li_l255, li_g255, li_m255, li_h255, li_e400, li_f400, li_l400, li_g400, li_m400, li_h400, li_e410, li_f410, li_l410, li_g410, li_m410, li_h410, li_e420, li_f420, li_l420, li_g420, li_m420, li_h420, li_e2000, li_f2000, li_l2000, li_g2000, li_m2000, li_h2000, li_e8200, li_f8200, li_l8200, li_g8200, li_m8200, li_h8200, li_e1000000, li_f1000000, li_l1000000, li_g1000000, li_m1000000, li_h1000000, li_50, li_50', li_200, li_200', nI_add, li_s1, li_t1, li_c1, li_c2, li_c3, li_c4, li_c5, li_c6, li_c7, li_c8, li_c9, li_c10, li_c11, li_c12, li_c13, li_c14, li_c15, sg_Kat, sg_Pat, pk_us, pk_uLs, true_implies, forall_const, not_true_eq_false, not_false_eq_true, false_implies, and_true, true_and, implies_true, and_self, if_true, if_false, ite_true, ite_false, reduceIte, eq_self, Nat.reduceEqDiff, Nat.reduceLeDiff, Nat.reduceLT, Int32.reduceLT, Int32.reduceLE]
    exact i_up I0
  · have h3 : (9 : Int32) < v1 := (h2 9 (by omega)).1
    have h4 : ¬ v1 ≤ 9 := (h2 9 (by omega)).2.1
    simp (disch := omega) only [wpX_type, wpY_type, wpY_in, h20, h, h3, h4, forall_eq, nI_leI, nI_ltI, nI_eq, vp_in_nI, nI_clamp, nI_1, li_e0, li_f0, li_l0, li_g0, li_m0, li_h0, li_e1, li_f1, li_l1, li_g1, li_m1, li_h1, li_e2, li_f2, li_l2, li_g2, li_m2, li_h2, li_e3, li_f3, li_l3, li_g3, li_m3, li_h3, li_e4, li_f4, li_l4, li_g4, li_m4, li_h4, li_e5, li_f5, li_l5, li_g5, li_m5, li_h5, li_e6, li_f6, li_l6, li_g6, li_m6, li_h6, li_e7, li_f7, li_l7, li_g7, li_m7, li_h7, li_e8, li_f8, li_l8, li_g8, li_m8, li_h8, li_e9, li_f9, li_l9, li_g9, li_m9, li_h9, li_e10, li_f10, li_l10, li_g10, li_m10, li_h10, li_e15, li_f15, li_l15, li_g15, li_m15, li_h15, li_e16, li_f16, li_l16, li_g16, li_m16, li_h16, li_e20, li_f20, li_l20, li_g20, li_m20, li_h20, li_e40, li_f40, li_l40, li_g40, li_m40, li_h40, li_e100, li_f100, li_l100, li_g100, li_m100, li_h100, li_e128, li_f128, li_l128, li_g128, li_m128, li_h128, li_e150, li_f150, li_l150, li_g150, li_m150, li_h150, li_e255, li_f255, li_l255, li_g255, li_m255, li_h255, li_e400, li_f400, li_l400, li_g400, li_m400, li_h400, li_e410, li_f410, li_l410, li_g410, li_m410, li_h410, li_e420, li_f420, li_l420, li_g420, li_m420, li_h420, li_e2000, li_f2000, li_l2000, li_g2000, li_m2000, li_h2000, li_e8200, li_f8200, li_l8200, li_g8200, li_m8200, li_h8200, li_e1000000, li_f1000000, li_l1000000, li_g1000000, li_m1000000, li_h1000000, li_50, li_50', li_200, li_200', nI_add, li_s1, li_t1, li_c1, li_c2, li_c3, li_c4, li_c5, li_c6, li_c7, li_c8, li_c9, li_c10, li_c11, li_c12, li_c13, li_c14, li_c15, sg_Kat, sg_Pat, pk_us, pk_uLs, true_implies, forall_const, not_true_eq_false, not_false_eq_true, false_implies, and_true, true_and, implies_true, and_self, if_true, if_false, ite_true, ite_false, reduceIte, eq_self, Nat.reduceEqDiff, Nat.reduceLeDiff, Nat.reduceLT, Int32.reduceLT, Int32.reduceLE]
    exact i_up I0
  have hj9 : j ≤ 9 := by omega
  have hj9' : ¬ 9 < j := by omega
  have e3 : ∀ i, ¬ i = sg_n g → upd x_detailOf (sg_n g) v2 i = x_detailOf i := fun i h => pk_un h
  have hfin : ∀ d y, (j = 6 → d ≤ 8) → (j = 7 → d < sg_n g) → (j = 6 ∨ j = 7 → v2 = nI d ∧ y = nI d) → i_Rel (k + 7) (nI (sg_n g + 1), nI bc, nI nc, nI lc, x_trouble, x_place, x_valueCount, x_top, x_records, x_writtenCount, x_pairCount, upd (sg_K g) (sg_n g) (nI j), upd x_detailOf (sg_n g) v2, upd (sg_f g) (sg_n g) (-1), sg_P g, x_partName, x_partType, x_partAlias, x_partHas, x_partDefault, y_bytes, y_numbers, x_list, x_valueType, x_valueNumber, x_valueFrom, x_valueAfter, x_frameValue, x_frameType, x_frameStep, x_frameLeft, x_frameStart, x_addsNothing, x_written, x_pairs, x_pairSeen) (nI (sg_n g + 1), nI bc, y_writtenCount, nI nc, nI lc, y_values, y_depth, y_records, y_at, y_wrong, y_todo, upd (sg_K g) (sg_n g) (nI j), upd y_of (sg_n g) y, sg_P g, upd (sg_f g) (sg_n g) (-1), y_name, y_part, y_alias, y_given, y_has, y_bytes, y_written, y_numbers, y_list, y_valueType, y_start, y_child, y_last, y_next, y_value, y_open, y_come, y_left, y_todoValue, y_todoType, y_todoDefault, y_pair, y_whole) := by
    intro d y h6 h7 hd
    exact sr_mk (sg_type g j d) bc nc lc (sg_type_ok hg hn2 hj9 h6 h7) (sg_type_X hg hX e3 (fun z => by rw [pk_us]; exact (hd z).1)) (sg_type_Y hg hY (fun i h => pk_un h) (fun z => by rw [pk_us]; exact (hd z).2)) hbc hnc hlc hbb hli rfl rfl (sg_K_type g j d).symm (sg_K_type g j d).symm rfl rfl rfl rfl rfl rfl rfl rfl rfl rfl rfl rfl
  by_cases h6 : j = 6
  · subst h6
    rcases sc_no (x := v2) (n := 9) (by omega) with ⟨h, -⟩ | ⟨h, -, h2⟩ | ⟨d, hd, rfl⟩
    · simp (disch := omega) only [wpX_type, wpY_type, wpY_in, h20, h, forall_eq, nI_leI, nI_ltI, nI_eq, vp_in_nI, nI_clamp, nI_1, li_e0, li_f0, li_l0, li_g0, li_m0, li_h0, li_e1, li_f1, li_l1, li_g1, li_m1, li_h1, li_e2, li_f2, li_l2, li_g2, li_m2, li_h2, li_e3, li_f3, li_l3, li_g3, li_m3, li_h3, li_e4, li_f4, li_l4, li_g4, li_m4, li_h4, li_e5, li_f5, li_l5, li_g5, li_m5, li_h5, li_e6, li_f6, li_l6, li_g6, li_m6, li_h6, li_e7, li_f7, li_l7, li_g7, li_m7, li_h7, li_e8, li_f8, li_l8, li_g8, li_m8, li_h8, li_e9, li_f9, li_l9, li_g9, li_m9, li_h9, li_e10, li_f10, li_l10, li_g10, li_m10, li_h10, li_e15, li_f15, li_l15, li_g15, li_m15, li_h15, li_e16, li_f16, li_l16, li_g16, li_m16, li_h16, li_e20, li_f20, li_l20, li_g20, li_m20, li_h20, li_e40, li_f40, li_l40, li_g40, li_m40, li_h40, li_e100, li_f100, li_l100, li_g100, li_m100, li_h100, li_e128, li_f128, li_l128, li_g128, li_m128, li_h128, li_e150, li_f150, li_l150, li_g150, li_m150, li_h150, li_e255, li_f255, li_l255, li_g255, li_m255, li_h255, li_e400, li_f400, li_l400, li_g400, li_m400, li_h400, li_e410, li_f410, li_l410, li_g410, li_m410, li_h410, li_e420, li_f420, li_l420, li_g420, li_m420, li_h420, li_e2000, li_f2000, li_l2000, li_g2000, li_m2000, li_h2000, li_e8200, li_f8200, li_l8200, li_g8200, li_m8200, li_h8200, li_e1000000, li_f1000000, li_l1000000, li_g1000000, li_m1000000, li_h1000000, li_50, li_50', li_200, li_200', nI_add, li_s1, li_t1, li_c1, li_c2, li_c3, li_c4, li_c5, li_c6, li_c7, li_c8, li_c9, li_c10, li_c11, li_c12, li_c13, li_c14, li_c15, sg_Kat, sg_Pat, pk_us, pk_uLs, true_implies, forall_const, not_true_eq_false, not_false_eq_true, false_implies, and_true, true_and, implies_true, and_self, if_true, if_false, ite_true, ite_false, reduceIte, eq_self, Nat.reduceEqDiff, Nat.reduceLeDiff, Nat.reduceLT, Int32.reduceLT, Int32.reduceLE]
      exact i_up I0
    · have h3 : (8 : Int32) < v2 := (h2 8 (by omega)).1
      have h4 : ¬ v2 ≤ 8 := (h2 8 (by omega)).2.1
      simp (disch := omega) only [wpX_type, wpY_type, wpY_in, h20, h, h3, h4, forall_eq, nI_leI, nI_ltI, nI_eq, vp_in_nI, nI_clamp, nI_1, li_e0, li_f0, li_l0, li_g0, li_m0, li_h0, li_e1, li_f1, li_l1, li_g1, li_m1, li_h1, li_e2, li_f2, li_l2, li_g2, li_m2, li_h2, li_e3, li_f3, li_l3, li_g3, li_m3, li_h3, li_e4, li_f4, li_l4, li_g4, li_m4, li_h4, li_e5, li_f5, li_l5, li_g5, li_m5, li_h5, li_e6, li_f6, li_l6, li_g6, li_m6, li_h6, li_e7, li_f7, li_l7, li_g7, li_m7, li_h7, li_e8, li_f8, li_l8, li_g8, li_m8, li_h8, li_e9, li_f9, li_l9, li_g9, li_m9, li_h9, li_e10, li_f10, li_l10, li_g10, li_m10, li_h10, li_e15, li_f15, li_l15, li_g15, li_m15, li_h15, li_e16, li_f16, li_l16, li_g16, li_m16, li_h16, li_e20, li_f20, li_l20, li_g20, li_m20, li_h20, li_e40, li_f40, li_l40, li_g40, li_m40, li_h40, li_e100, li_f100, li_l100, li_g100, li_m100, li_h100, li_e128, li_f128, li_l128, li_g128, li_m128, li_h128, li_e150, li_f150, li_l150, li_g150, li_m150, li_h150, li_e255, li_f255, li_l255, li_g255, li_m255, li_h255, li_e400, li_f400, li_l400, li_g400, li_m400, li_h400, li_e410, li_f410, li_l410, li_g410, li_m410, li_h410, li_e420, li_f420, li_l420, li_g420, li_m420, li_h420, li_e2000, li_f2000, li_l2000, li_g2000, li_m2000, li_h2000, li_e8200, li_f8200, li_l8200, li_g8200, li_m8200, li_h8200, li_e1000000, li_f1000000, li_l1000000, li_g1000000, li_m1000000, li_h1000000, li_50, li_50', li_200, li_200', nI_add, li_s1, li_t1, li_c1, li_c2, li_c3, li_c4, li_c5, li_c6, li_c7, li_c8, li_c9, li_c10, li_c11, li_c12, li_c13, li_c14, li_c15, sg_Kat, sg_Pat, pk_us, pk_uLs, true_implies, forall_const, not_true_eq_false, not_false_eq_true, false_implies, and_true, true_and, implies_true, and_self, if_true, if_false, ite_true, ite_false, reduceIte, eq_self, Nat.reduceEqDiff, Nat.reduceLeDiff, Nat.reduceLT, Int32.reduceLT, Int32.reduceLE]
      exact i_up I0
    · have h3 : ¬ 8 < d := by omega
      have h4 : d ≤ 8 := by omega
      simp (disch := omega) only [wpX_type, wX_type_39, wX_type_55, wpY_type, wY_type_35, wY_type_57, wY_type_87, wY_type_92, wpY_in, h20, h3, h4, Nat.not_lt_zero, forall_eq, nI_leI, nI_ltI, nI_eq, vp_in_nI, nI_clamp, nI_1, li_e0, li_f0, li_l0, li_g0, li_m0, li_h0, li_e1, li_f1, li_l1, li_g1, li_m1, li_h1, li_e2, li_f2, li_l2, li_g2, li_m2, li_h2, li_e3, li_f3, li_l3, li_g3, li_m3, li_h3, li_e4, li_f4, li_l4, li_g4, li_m4, li_h4, li_e5, li_f5, li_l5, li_g5, li_m5, li_h5, li_e6, li_f6, li_l6, li_g6, li_m6, li_h6, li_e7, li_f7, li_l7, li_g7, li_m7, li_h7, li_e8, li_f8, li_l8, li_g8, li_m8, li_h8, li_e9, li_f9, li_l9, li_g9, li_m9, li_h9, li_e10, li_f10, li_l10, li_g10, li_m10, li_h10, li_e15, li_f15, li_l15, li_g15, li_m15, li_h15, li_e16, li_f16, li_l16, li_g16, li_m16, li_h16, li_e20, li_f20, li_l20, li_g20, li_m20, li_h20, li_e40, li_f40, li_l40, li_g40, li_m40, li_h40, li_e100, li_f100, li_l100, li_g100, li_m100, li_h100, li_e128, li_f128, li_l128, li_g128, li_m128, li_h128, li_e150, li_f150, li_l150, li_g150, li_m150, li_h150, li_e255, li_f255, li_l255, li_g255, li_m255, li_h255, li_e400, li_f400, li_l400, li_g400, li_m400, li_h400, li_e410, li_f410, li_l410, li_g410, li_m410, li_h410, li_e420, li_f420, li_l420, li_g420, li_m420, li_h420, li_e2000, li_f2000, li_l2000, li_g2000, li_m2000, li_h2000, li_e8200, li_f8200, li_l8200, li_g8200, li_m8200, li_h8200, li_e1000000, li_f1000000, li_l1000000, li_g1000000, li_m1000000, li_h1000000, li_50, li_50', li_200, li_200', nI_add, li_s1, li_t1, li_c1, li_c2, li_c3, li_c4, li_c5, li_c6, li_c7, li_c8, li_c9, li_c10, li_c11, li_c12, li_c13, li_c14, li_c15, sg_Kat, sg_Pat, pk_us, pk_uLs, true_implies, forall_const, not_true_eq_false, not_false_eq_true, false_implies, and_true, true_and, implies_true, and_self, if_true, if_false, ite_true, ite_false, reduceIte, eq_self, Nat.reduceEqDiff, Nat.reduceLeDiff, Nat.reduceLT, Int32.reduceLT, Int32.reduceLE]
      exact hfin d (nI d) (fun _ => h4) (fun z => by omega) (fun _ => ⟨rfl, rfl⟩)
  by_cases h7 : j = 7
  · subst h7
    rcases sc_no (x := v2) (n := sg_n g) (by omega) with ⟨h, -⟩ | ⟨h, h1, h2⟩ | ⟨d, hd, rfl⟩
    · simp (disch := omega) only [wpX_type, wX_type_39, wpX_isType, wpY_type, wY_type_35, wpY_in, h20, h, Nat.not_lt_zero, forall_eq, nI_leI, nI_ltI, nI_eq, vp_in_nI, nI_clamp, nI_1, li_e0, li_f0, li_l0, li_g0, li_m0, li_h0, li_e1, li_f1, li_l1, li_g1, li_m1, li_h1, li_e2, li_f2, li_l2, li_g2, li_m2, li_h2, li_e3, li_f3, li_l3, li_g3, li_m3, li_h3, li_e4, li_f4, li_l4, li_g4, li_m4, li_h4, li_e5, li_f5, li_l5, li_g5, li_m5, li_h5, li_e6, li_f6, li_l6, li_g6, li_m6, li_h6, li_e7, li_f7, li_l7, li_g7, li_m7, li_h7, li_e8, li_f8, li_l8, li_g8, li_m8, li_h8, li_e9, li_f9, li_l9, li_g9, li_m9, li_h9, li_e10, li_f10, li_l10, li_g10, li_m10, li_h10, li_e15, li_f15, li_l15, li_g15, li_m15, li_h15, li_e16, li_f16, li_l16, li_g16, li_m16, li_h16, li_e20, li_f20, li_l20, li_g20, li_m20, li_h20, li_e40, li_f40, li_l40, li_g40, li_m40, li_h40, li_e100, li_f100, li_l100, li_g100, li_m100, li_h100, li_e128, li_f128, li_l128, li_g128, li_m128, li_h128, li_e150, li_f150, li_l150, li_g150, li_m150, li_h150, li_e255, li_f255, li_l255, li_g255, li_m255, li_h255, li_e400, li_f400, li_l400, li_g400, li_m400, li_h400, li_e410, li_f410, li_l410, li_g410, li_m410, li_h410, li_e420, li_f420, li_l420, li_g420, li_m420, li_h420, li_e2000, li_f2000, li_l2000, li_g2000, li_m2000, li_h2000, li_e8200, li_f8200, li_l8200, li_g8200, li_m8200, li_h8200, li_e1000000, li_f1000000, li_l1000000, li_g1000000, li_m1000000, li_h1000000, li_50, li_50', li_200, li_200', nI_add, li_s1, li_t1, li_c1, li_c2, li_c3, li_c4, li_c5, li_c6, li_c7, li_c8, li_c9, li_c10, li_c11, li_c12, li_c13, li_c14, li_c15, sg_Kat, sg_Pat, pk_us, pk_uLs, true_implies, forall_const, not_true_eq_false, not_false_eq_true, false_implies, and_true, true_and, implies_true, and_self, if_true, if_false, ite_true, ite_false, reduceIte, eq_self, Nat.reduceEqDiff, Nat.reduceLeDiff, Nat.reduceLT, Int32.reduceLT, Int32.reduceLE]
      exact i_up I0
    · have h3 := sc_top (by omega) h h1 h2
      simp (disch := omega) only [wpX_type, wX_type_39, wpX_isType, wpY_type, wY_type_35, wpY_in, h20, h, h1, h3, Nat.not_lt_zero, forall_eq, nI_leI, nI_ltI, nI_eq, vp_in_nI, nI_clamp, nI_1, li_e0, li_f0, li_l0, li_g0, li_m0, li_h0, li_e1, li_f1, li_l1, li_g1, li_m1, li_h1, li_e2, li_f2, li_l2, li_g2, li_m2, li_h2, li_e3, li_f3, li_l3, li_g3, li_m3, li_h3, li_e4, li_f4, li_l4, li_g4, li_m4, li_h4, li_e5, li_f5, li_l5, li_g5, li_m5, li_h5, li_e6, li_f6, li_l6, li_g6, li_m6, li_h6, li_e7, li_f7, li_l7, li_g7, li_m7, li_h7, li_e8, li_f8, li_l8, li_g8, li_m8, li_h8, li_e9, li_f9, li_l9, li_g9, li_m9, li_h9, li_e10, li_f10, li_l10, li_g10, li_m10, li_h10, li_e15, li_f15, li_l15, li_g15, li_m15, li_h15, li_e16, li_f16, li_l16, li_g16, li_m16, li_h16, li_e20, li_f20, li_l20, li_g20, li_m20, li_h20, li_e40, li_f40, li_l40, li_g40, li_m40, li_h40, li_e100, li_f100, li_l100, li_g100, li_m100, li_h100, li_e128, li_f128, li_l128, li_g128, li_m128, li_h128, li_e150, li_f150, li_l150, li_g150, li_m150, li_h150, li_e255, li_f255, li_l255, li_g255, li_m255, li_h255, li_e400, li_f400, li_l400, li_g400, li_m400, li_h400, li_e410, li_f410, li_l410, li_g410, li_m410, li_h410, li_e420, li_f420, li_l420, li_g420, li_m420, li_h420, li_e2000, li_f2000, li_l2000, li_g2000, li_m2000, li_h2000, li_e8200, li_f8200, li_l8200, li_g8200, li_m8200, li_h8200, li_e1000000, li_f1000000, li_l1000000, li_g1000000, li_m1000000, li_h1000000, li_50, li_50', li_200, li_200', nI_add, li_s1, li_t1, li_c1, li_c2, li_c3, li_c4, li_c5, li_c6, li_c7, li_c8, li_c9, li_c10, li_c11, li_c12, li_c13, li_c14, li_c15, sg_Kat, sg_Pat, pk_us, pk_uLs, true_implies, forall_const, not_true_eq_false, not_false_eq_true, false_implies, and_true, true_and, implies_true, and_self, if_true, if_false, ite_true, ite_false, reduceIte, eq_self, Nat.reduceEqDiff, Nat.reduceLeDiff, Nat.reduceLT, Int32.reduceLT, Int32.reduceLE]
      exact i_up I0
    · have h3 : ¬ sg_n g ≤ d := by omega
      have h4 : ¬ sg_n g - 1 < d := by omega
      simp (disch := omega) only [wpX_type, wX_type_39, wX_type_55, wpX_isType, wpY_type, wY_type_35, wY_type_57, wY_type_87, wY_type_92, wpY_in, h20, h3, h4, Nat.not_lt_zero, forall_eq, nI_leI, nI_ltI, nI_eq, vp_in_nI, nI_clamp, nI_1, li_e0, li_f0, li_l0, li_g0, li_m0, li_h0, li_e1, li_f1, li_l1, li_g1, li_m1, li_h1, li_e2, li_f2, li_l2, li_g2, li_m2, li_h2, li_e3, li_f3, li_l3, li_g3, li_m3, li_h3, li_e4, li_f4, li_l4, li_g4, li_m4, li_h4, li_e5, li_f5, li_l5, li_g5, li_m5, li_h5, li_e6, li_f6, li_l6, li_g6, li_m6, li_h6, li_e7, li_f7, li_l7, li_g7, li_m7, li_h7, li_e8, li_f8, li_l8, li_g8, li_m8, li_h8, li_e9, li_f9, li_l9, li_g9, li_m9, li_h9, li_e10, li_f10, li_l10, li_g10, li_m10, li_h10, li_e15, li_f15, li_l15, li_g15, li_m15, li_h15, li_e16, li_f16, li_l16, li_g16, li_m16, li_h16, li_e20, li_f20, li_l20, li_g20, li_m20, li_h20, li_e40, li_f40, li_l40, li_g40, li_m40, li_h40, li_e100, li_f100, li_l100, li_g100, li_m100, li_h100, li_e128, li_f128, li_l128, li_g128, li_m128, li_h128, li_e150, li_f150, li_l150, li_g150, li_m150, li_h150, li_e255, li_f255, li_l255, li_g255, li_m255, li_h255, li_e400, li_f400, li_l400, li_g400, li_m400, li_h400, li_e410, li_f410, li_l410, li_g410, li_m410, li_h410, li_e420, li_f420, li_l420, li_g420, li_m420, li_h420, li_e2000, li_f2000, li_l2000, li_g2000, li_m2000, li_h2000, li_e8200, li_f8200, li_l8200, li_g8200, li_m8200, li_h8200, li_e1000000, li_f1000000, li_l1000000, li_g1000000, li_m1000000, li_h1000000, li_50, li_50', li_200, li_200', nI_add, li_s1, li_t1, li_c1, li_c2, li_c3, li_c4, li_c5, li_c6, li_c7, li_c8, li_c9, li_c10, li_c11, li_c12, li_c13, li_c14, li_c15, sg_Kat, sg_Pat, pk_us, pk_uLs, true_implies, forall_const, not_true_eq_false, not_false_eq_true, false_implies, and_true, true_and, implies_true, and_self, if_true, if_false, ite_true, ite_false, reduceIte, eq_self, Nat.reduceEqDiff, Nat.reduceLeDiff, Nat.reduceLT, Int32.reduceLT, Int32.reduceLE]
      exact hfin d (nI d) (fun z => by omega) (fun _ => hd) (fun _ => ⟨rfl, rfl⟩)
  · simp (disch := omega) only [wpX_type, wX_type_39, wX_type_55, wpY_type, wY_type_35, wY_type_57, wY_type_87, wY_type_92, wpY_in, h20, h6, h7, hj9, hj9', Nat.not_lt_zero, forall_eq, nI_leI, nI_ltI, nI_eq, vp_in_nI, nI_clamp, nI_1, li_e0, li_f0, li_l0, li_g0, li_m0, li_h0, li_e1, li_f1, li_l1, li_g1, li_m1, li_h1, li_e2, li_f2, li_l2, li_g2, li_m2, li_h2, li_e3, li_f3, li_l3, li_g3, li_m3, li_h3, li_e4, li_f4, li_l4, li_g4, li_m4, li_h4, li_e5, li_f5, li_l5, li_g5, li_m5, li_h5, li_e6, li_f6, li_l6, li_g6, li_m6, li_h6, li_e7, li_f7, li_l7, li_g7, li_m7, li_h7, li_e8, li_f8, li_l8, li_g8, li_m8, li_h8, li_e9, li_f9, li_l9, li_g9, li_m9, li_h9, li_e10, li_f10, li_l10, li_g10, li_m10, li_h10, li_e15, li_f15, li_l15, li_g15, li_m15, li_h15, li_e16, li_f16, li_l16, li_g16, li_m16, li_h16, li_e20, li_f20, li_l20, li_g20, li_m20, li_h20, li_e40, li_f40, li_l40, li_g40, li_m40, li_h40, li_e100, li_f100, li_l100, li_g100, li_m100, li_h100, li_e128, li_f128, li_l128, li_g128, li_m128, li_h128, li_e150, li_f150, li_l150, li_g150, li_m150, li_h150, li_e255, li_f255, li_l255, li_g255, li_m255, li_h255, li_e400, li_f400, li_l400, li_g400, li_m400, li_h400, li_e410, li_f410, li_l410, li_g410, li_m410, li_h410, li_e420, li_f420, li_l420, li_g420, li_m420, li_h420, li_e2000, li_f2000, li_l2000, li_g2000, li_m2000, li_h2000, li_e8200, li_f8200, li_l8200, li_g8200, li_m8200, li_h8200, li_e1000000, li_f1000000, li_l1000000, li_g1000000, li_m1000000, li_h1000000, li_50, li_50', li_200, li_200', nI_add, li_s1, li_t1, li_c1, li_c2, li_c3, li_c4, li_c5, li_c6, li_c7, li_c8, li_c9, li_c10, li_c11, li_c12, li_c13, li_c14, li_c15, sg_Kat, sg_Pat, pk_us, pk_uLs, true_implies, forall_const, not_true_eq_false, not_false_eq_true, false_implies, and_true, true_and, implies_true, and_self, if_true, if_false, ite_true, ite_false, reduceIte, eq_self, Nat.reduceEqDiff, Nat.reduceLeDiff, Nat.reduceLT, Int32.reduceLT, Int32.reduceLE]
    exact hfin 0 0 (fun z => absurd z h6) (fun z => absurd z h7) (fun z => absurd z (by omega))
end
section
/-! symbols, fallbacks, branches, fields -/
theorem sc_neg {x : Int32} (h : x < 0) (h1 : ¬ x = -1) : x < -1 := by
  have h2 := Int32.lt_iff_toInt_lt.mp h
  have e0 : (0 : Int32).toInt = 0 := by decide
  have e1 : (-1 : Int32).toInt = -1 := by decide
  rw [Int32.lt_iff_toInt_lt, e1]
  have h3 : ¬ x.toInt = -1 := fun z => h1 (Int32.toInt_inj.mp (by rw [z, e1]))
  omega
theorem sc_nlt1 {a : Nat} (h : a < 2 ^ 31) : ¬ nI a < -1 := by
  intro z
  have h2 := Int32.lt_iff_toInt_lt.mp z
  have e1 : (-1 : Int32).toInt = -1 := by decide
  rw [nI_toInt h, e1] at h2
  omega
theorem sc_find0 {g : sg_T} {t : Nat} {x : Int32} (hg : sg_ok g) (ht : t < sg_n g) (h8 : ¬ sg_k g t = 8) {q : Nat} (h : sg_find g t x = some q) : ∃ a : Nat, a < 16 ∧ x = nI a := by
  have h2 := sd_ff_some h
  have h3 := of_decide_eq_true h2.2.2
  exact ⟨_, hg.2.2.2.2.2.2.1 t q ht (by omega) h8, h3.symm⟩
section
variable {x_typeCount x_byteCount x_numberCount x_listCount x_trouble x_place x_valueCount x_top x_records x_writtenCount x_pairCount : Int32}
variable {x_kindOf x_detailOf x_fallbackOf x_partCount x_partName x_partType x_partAlias x_partHas x_partDefault x_bytes x_valueType x_valueFrom x_valueAfter x_frameValue x_frameType x_frameStep x_frameLeft x_frameStart x_addsNothing x_written x_pairs x_pairSeen : Nat → Int32}
variable {x_numbers x_list x_valueNumber : Nat → Int64}
variable {y_types y_byteCount y_writtenCount y_numberCount y_listCount y_values y_depth y_records y_at y_wrong y_todo : Int32}
variable {y_kind y_of y_parts y_fallback y_name y_part y_alias y_given y_has y_bytes y_written y_valueType y_start y_child y_last y_next y_open y_come y_left y_todoValue y_todoType y_todoDefault y_pair y_whole : Nat → Int32}
variable {y_numbers y_list y_value : Nat → Int64}
/-- one more part on both sides -/
theorem sr_add {k bc nc lc : Nat} {g : sg_T} (hg : sg_ok g) (hX : sg_X g x_detailOf x_partName x_partType x_partAlias x_partHas x_partDefault) (hY : sg_Y g y_of y_name y_part y_alias y_has y_given)
    (hbc : bc ≤ 100) (hnc : nc ≤ 100) (hlc : lc ≤ 150) (hbb : ∀ i, i < bc → ∃ b : Nat, b < 256 ∧ y_bytes i = nI b) (hli : ∀ i, i < lc → y_list i = x_list i)
    {t nm u : Nat} {al ha v : Int32} (ht : t < sg_n g) (hp : sg_p g t < 5) (hk : sg_k g t = 5 ∨ sg_k g t = 8 ∨ sg_k g t = 9)
    (h1 : ¬ sg_k g t = 8 → nm < 16) (h2 : ¬ sg_k g t = 5 → u < sg_n g) (h3 : sg_k g t = 8 → ¬ sg_k g u = 8) (h4 : sg_k g t = 9 → sg_nam al) (h5 : ha = 0 ∨ ha = 1)
    {xn xu xa xv : Int32} (n1 : ¬ sg_k g t = 8 → xn = nI nm) (n2 : sg_k g t = 8 → xn = -1) (t1 : ¬ sg_k g t = 5 → xu = nI u) (r1 : sg_k g t = 9 → xa = al ∧ xv = v) (r2 : ¬ sg_k g t = 9 → xa = -1 ∧ ha = 0)
    {bN bT bA bH bV : Nat → Int32} (oN : ∀ j, ¬ j = 5 * t + sg_p g t → bN j = y_name j) (oT : ∀ j, ¬ j = 5 * t + sg_p g t → bT j = y_part j)
    (oA : ∀ j, ¬ j = 5 * t + sg_p g t → bA j = y_alias j) (oH : ∀ j, ¬ j = 5 * t + sg_p g t → bH j = y_has j) (oV : ∀ j, ¬ j = 5 * t + sg_p g t → bV j = y_given j)
    (m1 : ¬ sg_k g t = 8 → bN (5 * t + sg_p g t) = nI nm) (u1 : ¬ sg_k g t = 5 → bT (5 * t + sg_p g t) = nI u)
    (q1 : sg_k g t = 9 → bA (5 * t + sg_p g t) = al ∧ bH (5 * t + sg_p g t) = ha ∧ bV (5 * t + sg_p g t) = v) (hh : ∀ i, bH i = 0 ∨ bH i = 1) :
    i_Rel k (nI (sg_n g), nI bc, nI nc, nI lc, x_trouble, x_place, x_valueCount, x_top, x_records, x_writtenCount, x_pairCount, sg_K g, x_detailOf, sg_f g, upd (sg_P g) t (nI (sg_p g t + 1)), upd x_partName (5 * t + sg_p g t) xn, upd x_partType (5 * t + sg_p g t) xu, upd x_partAlias (5 * t + sg_p g t) xa, upd x_partHas (5 * t + sg_p g t) ha, upd x_partDefault (5 * t + sg_p g t) xv, y_bytes, y_numbers, x_list, x_valueType, x_valueNumber, x_valueFrom, x_valueAfter, x_frameValue, x_frameType, x_frameStep, x_frameLeft, x_frameStart, x_addsNothing, x_written, x_pairs, x_pairSeen)
      (nI (sg_n g), nI bc, y_writtenCount, nI nc, nI lc, y_values, y_depth, y_records, y_at, y_wrong, y_todo, sg_K g, y_of, upd (sg_P g) t (nI (sg_p g t + 1)), sg_f g, bN, bT, bA, bV, bH, y_bytes, y_written, y_numbers, y_list, y_valueType, y_start, y_child, y_last, y_next, y_value, y_open, y_come, y_left, y_todoValue, y_todoType, y_todoDefault, y_pair, y_whole) := by
  refine sr_mk (sg_part g t nm u al ha v) bc nc lc (sg_part_ok hg ht hp hk h1 h2 h3 h4 h5) (sg_part_X hg hp hX (fun j h => pk_un h) (fun j h => pk_un h) (fun j h => pk_un h) (fun j h => pk_un h) (fun j h => pk_un h) ?_ ?_ ?_ ?_ ?_ ?_) (sg_part_Y hg hp hY oN oT oA oH oV m1 u1 q1 hh) hbc hnc hlc hbb hli rfl rfl rfl rfl (sg_P_part g t nm u al ha v).symm (sg_P_part g t nm u al ha v).symm rfl rfl rfl rfl rfl rfl rfl rfl rfl rfl
  · intro z; rw [pk_us]; exact n1 z
  · intro z; rw [pk_us]; exact n2 z
  · intro z; rw [pk_us]; exact t1 z
  · intro z; rw [pk_us, pk_us, pk_us]; exact ⟨(r1 z).1, rfl, (r1 z).2⟩
  · intro z; rw [pk_us, pk_us]; exact r2 z
  · intro i
    by_cases e : i = 5 * t + sg_p g t
    · subst e; rw [pk_us]; exact h5
    · rw [pk_un e]; exact hX.2.2.2.2.2.2 i
end
theorem sc_b0 : vp_nar .boolean 0 = 0 := rfl
theorem sc_b1 : vp_nar .boolean 1 = 1 := rfl
theorem i_vc_symbol {k : Nat} {u : SX} {v : SY} (I : i_Rel k u v) (hk : k + 7 ≤ 3584) (v1 : Int32) (v2 : Int32) : wpX_symbol (fun r u' => wpY_symbol (fun r' v' => r' = r ∧ i_Rel (k + 7) u' v') v v1 v2) u v1 v2 := by
  obtain ⟨x_typeCount, x_byteCount, x_numberCount, x_listCount, x_trouble, x_place, x_valueCount, x_top, x_records, x_writtenCount, x_pairCount, x_kindOf, x_detailOf, x_fallbackOf, x_partCount, x_partName, x_partType, x_partAlias, x_partHas, x_partDefault, x_bytes, x_numbers, x_list, x_valueType, x_valueNumber, x_valueFrom, x_valueAfter, x_frameValue, x_frameType, x_frameStep, x_frameLeft, x_frameStart, x_addsNothing, x_written, x_pairs, x_pairSeen⟩ := u
  obtain ⟨y_types, y_byteCount, y_writtenCount, y_numberCount, y_listCount, y_values, y_depth, y_records, y_at, y_wrong, y_todo, y_kind, y_of, y_parts, y_fallback, y_name, y_part, y_alias, y_given, y_has, y_bytes, y_written, y_numbers, y_list, y_valueType, y_start, y_child, y_last, y_next, y_value, y_open, y_come, y_left, y_todoValue, y_todoType, y_todoDefault, y_pair, y_whole⟩ := v
  have I0 := I
  obtain ⟨g, bc, nc, lc, hg, hX, hY, hbc, hnc, hlc, hbb, hli, rfl, rfl, rfl, rfl, rfl, rfl, rfl, rfl, rfl, rfl, rfl, rfl, rfl, rfl, rfl, rfl⟩ := I
  have hn := hg.1
  rcases sc_no (x := v1) (n := sg_n g) (by omega) with ⟨h, -⟩ | ⟨h, h1, h2⟩ | ⟨t, ht, rfl⟩
  · simp (disch := omega) only [wpX_symbol, wpX_takesPart, wpX_isType, wpY_symbol, wpY_is, wpY_in, h, forall_eq, nI_leI, nI_ltI, nI_eq, vp_in_nI, nI_clamp, nI_1, li_e0, li_f0, li_l0, li_g0, li_m0, li_h0, li_e1, li_f1, li_l1, li_g1, li_m1, li_h1, li_e2, li_f2, li_l2, li_g2, li_m2, li_h2, li_e3, li_f3, li_l3, li_g3, li_m3, li_h3, li_e4, li_f4, li_l4, li_g4, li_m4, li_h4, li_e5, li_f5, li_l5, li_g5, li_m5, li_h5, li_e6, li_f6, li_l6, li_g6, li_m6, li_h6, li_e7, li_f7, li_l7, li_g7, li_m7, li_h7, li_e8, li_f8, li_l8, li_g8, li_m8, li_h8, li_e9, li_f9, li_l9, li_g9, li_m9, li_h9, li_e10, li_f10, li_l10, li_g10, li_m10, li_h10, li_e15, li_f15, li_l15, li_g15, li_m15, li_h15, li_e16, li_f16, li_l16, li_g16, li_m16, li_h16, li_e20, li_f20, li_l20, li_g20, li_m20, li_h20, li_e40, li_f40, li_l40, li_g40, li_m40, li_h40, li_e100, li_f100, li_l100, li_g100, li_m100, li_h100, li_e128, li_f128, li_l128, li_g128, li_m128, li_h128, li_e150, li_f150, li_l150, li_g150, li_m150, li_h150, li_e255, li_f255, li_l255, li_g255, li_m255, li_h255, li_e400, li_f400, li_l400, li_g400, li_m400, li_h400, li_e410, li_f410, li_l410, li_g410, li_m410, li_h410, li_e420, li_f420, li_l420, li_g420, li_m420, li_h420, li_e2000, li_f2000, li_l2000, li_g2000, li_m2000, li_h2000, li_e8200, li_f8200, li_l8200, li_g8200, li_m8200, li_h8200, li_e1000000, li_f1000000, li_l1000000, li_g1000000, li_m1000000, li_h1000000, li_50, li_50', li_200, li_200', nI_add, li_s1, li_t1, li_c1, li_c2, li_c3, li_c4, li_c5, li_c6, li_c7, li_c8, li_c9, li_c10, li_c11, li_c12, li_c13, li_c14, li_c15, sg_Kat, sg_Pat, pk_us, pk_uLs, true_implies, forall_const, not_true_eq_false, not_false_eq_true, false_implies, and_true, true_and, implies_true, and_self, if_true, if_false, ite_true, ite_false, reduceIte, eq_self, Nat.reduceEqDiff, Nat.reduceLeDiff, Nat.reduceLT, Int32.reduceLT, Int32.reduceLE]
    exact i_up I0
  · have h3 := sc_top (by omega) h h1 h2
    simp (disch := omega) only [wpX_symbol, wpX_takesPart, wpX_isType, wpY_symbol, wpY_is, wpY_in, h, h1, h3, forall_eq, nI_leI, nI_ltI, nI_eq, vp_in_nI, nI_clamp, nI_1, li_e0, li_f0, li_l0, li_g0, li_m0, li_h0, li_e1, li_f1, li_l1, li_g1, li_m1, li_h1, li_e2, li_f2, li_l2, li_g2, li_m2, li_h2, li_e3, li_f3, li_l3, li_g3, li_m3, li_h3, li_e4, li_f4, li_l4, li_g4, li_m4, li_h4, li_e5, li_f5, li_l5, li_g5, li_m5, li_h5, li_e6, li_f6, li_l6, li_g6, li_m6, li_h6, li_e7, li_f7, li_l7, li_g7, li_m7, li_h7, li_e8, li_f8, li_l8, li_g8, li_m8, li_h8, li_e9, li_f9, li_l9, li_g9, li_m9, li_h9, li_e10, li_f10, li_l10, li_g10, li_m10, li_h10, li_e15, li_f15, li_l15, li_g15, li_m15, li_h15, li_e16, li_f16, li_l16, li_g16, li_m16, li_h16, li_e20, li_f20, li_l20, li_g20, li_m20, li_h20, li_e40, li_f40, li_l40, li_g40, li_m40, li_h40, li_e100, li_f100, li_l100, li_g100, li_m100, li_h100, li_e128, li_f128, li_l128, li_g128, li_m128, li_h128, li_e150, li_f150, li_l150, li_g150, li_m150, li_h150, li_e255, li_f255, li_l255, li_g255, li_m255, li_h255, li_e400, li_f400, li_l400, li_g400, li_m400, li_h400, li_e410, li_f410, li_l410, li_g410, li_m410, li_h410, li_e420, li_f420, li_l420, li_g420, li_m420, li_h420, li_e2000, li_f2000, li_l2000, li_g2000, li_m2000, li_h2000, li_e8200, li_f8200, li_l8200, li_g8200, li_m8200, li_h8200, li_e1000000, li_f1000000, li_l1000000, li_g1000000, li_m1000000, li_h1000000, li_50, li_50', li_200, li_200', nI_add, li_s1, li_t1, li_c1, li_c2, li_c3, li_c4, li_c5, li_c6, li_c7, li_c8, li_c9, li_c10, li_c11, li_c12, li_c13, li_c14, li_c15, sg_Kat, sg_Pat, pk_us, pk_uLs, true_implies, forall_const, not_true_eq_false, not_false_eq_true, false_implies, and_true, true_and, implies_true, and_self, if_true, if_false, ite_true, ite_false, reduceIte, eq_self, Nat.reduceEqDiff, Nat.reduceLeDiff, Nat.reduceLT, Int32.reduceLT, Int32.reduceLE]
    exact i_up I0
  have q1 : ¬ sg_n g ≤ t := by omega
  have q2 : ¬ sg_n g - 1 < t := by omega
  have k9 := hg.2.1 t
  have p5 := hg.2.2.1 t
  by_cases h5 : ¬ sg_k g t = 5
  · simp (disch := omega) only [wpX_symbol, wpX_takesPart, wpX_isType, wpY_symbol, wpY_is, wpY_in, q1, q2, h5, Nat.not_lt_zero, forall_eq, nI_leI, nI_ltI, nI_eq, vp_in_nI, nI_clamp, nI_1, li_e0, li_f0, li_l0, li_g0, li_m0, li_h0, li_e1, li_f1, li_l1, li_g1, li_m1, li_h1, li_e2, li_f2, li_l2, li_g2, li_m2, li_h2, li_e3, li_f3, li_l3, li_g3, li_m3, li_h3, li_e4, li_f4, li_l4, li_g4, li_m4, li_h4, li_e5, li_f5, li_l5, li_g5, li_m5, li_h5, li_e6, li_f6, li_l6, li_g6, li_m6, li_h6, li_e7, li_f7, li_l7, li_g7, li_m7, li_h7, li_e8, li_f8, li_l8, li_g8, li_m8, li_h8, li_e9, li_f9, li_l9, li_g9, li_m9, li_h9, li_e10, li_f10, li_l10, li_g10, li_m10, li_h10, li_e15, li_f15, li_l15, li_g15, li_m15, li_h15, li_e16, li_f16, li_l16, li_g16, li_m16, li_h16, li_e20, li_f20, li_l20, li_g20, li_m20, li_h20, li_e40, li_f40, li_l40, li_g40, li_m40, li_h40, li_e100, li_f100, li_l100, li_g100, li_m100, li_h100, li_e128, li_f128, li_l128, li_g128, li_m128, li_h128, li_e150, li_f150, li_l150, li_g150, li_m150, li_h150, li_e255, li_f255, li_l255, li_g255, li_m255, li_h255, li_e400, li_f400, li_l400, li_g400, li_m400, li_h400, li_e410, li_f410, li_l410, li_g410, li_m410, li_h410, li_e420, li_f420, li_l420, li_g420, li_m420, li_h420, li_e2000, li_f2000, li_l2000, li_g2000, li_m2000, li_h2000, li_e8200, li_f8200, li_l8200, li_g8200, li_m8200, li_h8200, li_e1000000, li_f1000000, li_l1000000, li_g1000000, li_m1000000, li_h1000000, li_50, li_50', li_200, li_200', nI_add, li_s1, li_t1, li_c1, li_c2, li_c3, li_c4, li_c5, li_c6, li_c7, li_c8, li_c9, li_c10, li_c11, li_c12, li_c13, li_c14, li_c15, sg_Kat, sg_Pat, pk_us, pk_uLs, true_implies, forall_const, not_true_eq_false, not_false_eq_true, false_implies, and_true, true_and, implies_true, and_self, if_true, if_false, ite_true, ite_false, reduceIte, eq_self, Nat.reduceEqDiff, Nat.reduceLeDiff, Nat.reduceLT, Int32.reduceLT, Int32.reduceLE]
    exact i_up I0
  have h5 : sg_k g t = 5 := by omega
  by_cases hp : sg_p g t = 5
  · simp (disch := omega) only [wpX_symbol, wpX_takesPart, wpX_isType, wpY_symbol, wpY_is, wpY_in, q1, q2, h5, hp, Nat.not_lt_zero, forall_eq, nI_leI, nI_ltI, nI_eq, vp_in_nI, nI_clamp, nI_1, li_e0, li_f0, li_l0, li_g0, li_m0, li_h0, li_e1, li_f1, li_l1, li_g1, li_m1, li_h1, li_e2, li_f2, li_l2, li_g2, li_m2, li_h2, li_e3, li_f3, li_l3, li_g3, li_m3, li_h3, li_e4, li_f4, li_l4, li_g4, li_m4, li_h4, li_e5, li_f5, li_l5, li_g5, li_m5, li_h5, li_e6, li_f6, li_l6, li_g6, li_m6, li_h6, li_e7, li_f7, li_l7, li_g7, li_m7, li_h7, li_e8, li_f8, li_l8, li_g8, li_m8, li_h8, li_e9, li_f9, li_l9, li_g9, li_m9, li_h9, li_e10, li_f10, li_l10, li_g10, li_m10, li_h10, li_e15, li_f15, li_l15, li_g15, li_m15, li_h15, li_e16, li_f16, li_l16, li_g16, li_m16, li_h16, li_e20, li_f20, li_l20, li_g20, li_m20, li_h20, li_e40, li_f40, li_l40, li_g40, li_m40, li_h40, li_e100, li_f100, li_l100, li_g100, li_m100, li_h100, li_e128, li_f128, li_l128, li_g128, li_m128, li_h128, li_e150, li_f150, li_l150, li_g150, li_m150, li_h150, li_e255, li_f255, li_l255, li_g255, li_m255, li_h255, li_e400, li_f400, li_l400, li_g400, li_m400, li_h400, li_e410, li_f410, li_l410, li_g410, li_m410, li_h410, li_e420, li_f420, li_l420, li_g420, li_m420, li_h420, li_e2000, li_f2000, li_l2000, li_g2000, li_m2000, li_h2000, li_e8200, li_f8200, li_l8200, li_g8200, li_m8200, li_h8200, li_e1000000, li_f1000000, li_l1000000, li_g1000000, li_m1000000, li_h1000000, li_50, li_50', li_200, li_200', nI_add, li_s1, li_t1, li_c1, li_c2, li_c3, li_c4, li_c5, li_c6, li_c7, li_c8, li_c9, li_c10, li_c11, li_c12, li_c13, li_c14, li_c15, sg_Kat, sg_Pat, pk_us, pk_uLs, true_implies, forall_const, not_true_eq_false, not_false_eq_true, false_implies, and_true, true_and, implies_true, and_self, if_true, if_false, ite_true, ite_false, reduceIte, eq_self, Nat.reduceEqDiff, Nat.reduceLeDiff, Nat.reduceLT, Int32.reduceLT, Int32.reduceLE]
    exact i_up I0
  have hp1 : ¬ 5 ≤ sg_p g t := by omega
  rcases sc_no (x := v2) (n := 16) (by omega) with ⟨h, -⟩ | ⟨h, h1, h2⟩ | ⟨nm, hnm, rfl⟩
  · simp (disch := omega) only [wpX_symbol, wpX_takesPart, wpX_isType, wpX_isName, wpY_symbol, wpY_is, wpY_in, q1, q2, h5, hp, hp1, h, Nat.not_lt_zero, forall_eq, nI_leI, nI_ltI, nI_eq, vp_in_nI, nI_clamp, nI_1, li_e0, li_f0, li_l0, li_g0, li_m0, li_h0, li_e1, li_f1, li_l1, li_g1, li_m1, li_h1, li_e2, li_f2, li_l2, li_g2, li_m2, li_h2, li_e3, li_f3, li_l3, li_g3, li_m3, li_h3, li_e4, li_f4, li_l4, li_g4, li_m4, li_h4, li_e5, li_f5, li_l5, li_g5, li_m5, li_h5, li_e6, li_f6, li_l6, li_g6, li_m6, li_h6, li_e7, li_f7, li_l7, li_g7, li_m7, li_h7, li_e8, li_f8, li_l8, li_g8, li_m8, li_h8, li_e9, li_f9, li_l9, li_g9, li_m9, li_h9, li_e10, li_f10, li_l10, li_g10, li_m10, li_h10, li_e15, li_f15, li_l15, li_g15, li_m15, li_h15, li_e16, li_f16, li_l16, li_g16, li_m16, li_h16, li_e20, li_f20, li_l20, li_g20, li_m20, li_h20, li_e40, li_f40, li_l40, li_g40, li_m40, li_h40, li_e100, li_f100, li_l100, li_g100, li_m100, li_h100, li_e128, li_f128, li_l128, li_g128, li_m128, li_h128, li_e150, li_f150, li_l150, li_g150, li_m150, li_h150, li_e255, li_f255, li_l255, li_g255, li_m255, li_h255, li_e400, li_f400, li_l400, li_g400, li_m400, li_h400, li_e410, li_f410, li_l410, li_g410, li_m410, li_h410, li_e420, li_f420, li_l420, li_g420, li_m420, li_h420, li_e2000, li_f2000, li_l2000, li_g2000, li_m2000, li_h2000, li_e8200, li_f8200, li_l8200, li_g8200, li_m8200, li_h8200, li_e1000000, li_f1000000, li_l1000000, li_g1000000, li_m1000000, li_h1000000, li_50, li_50', li_200, li_200', nI_add, li_s1, li_t1, li_c1, li_c2, li_c3, li_c4, li_c5, li_c6, li_c7, li_c8, li_c9, li_c10, li_c11, li_c12, li_c13, li_c14, li_c15, sg_Kat, sg_Pat, pk_us, pk_uLs, true_implies, forall_const, not_true_eq_false, not_false_eq_true, false_implies, and_true, true_and, implies_true, and_self, if_true, if_false, ite_true, ite_false, reduceIte, eq_self, Nat.reduceEqDiff, Nat.reduceLeDiff, Nat.reduceLT, Int32.reduceLT, Int32.reduceLE]
    exact i_up I0
  · have h3 : (15 : Int32) < v2 := (h2 15 (by omega)).1
    have h4 : (16 : Int32) ≤ v2 := h1
    simp (disch := omega) only [wpX_symbol, wpX_takesPart, wpX_isType, wpX_isName, wpY_symbol, wpY_is, wpY_in, q1, q2, h5, hp, hp1, h, h3, h4, Nat.not_lt_zero, forall_eq, nI_leI, nI_ltI, nI_eq, vp_in_nI, nI_clamp, nI_1, li_e0, li_f0, li_l0, li_g0, li_m0, li_h0, li_e1, li_f1, li_l1, li_g1, li_m1, li_h1, li_e2, li_f2, li_l2, li_g2, li_m2, li_h2, li_e3, li_f3, li_l3, li_g3, li_m3, li_h3, li_e4, li_f4, li_l4, li_g4, li_m4, li_h4, li_e5, li_f5, li_l5, li_g5, li_m5, li_h5, li_e6, li_f6, li_l6, li_g6, li_m6, li_h6, li_e7, li_f7, li_l7, li_g7, li_m7, li_h7, li_e8, li_f8, li_l8, li_g8, li_m8, li_h8, li_e9, li_f9, li_l9, li_g9, li_m9, li_h9, li_e10, li_f10, li_l10, li_g10, li_m10, li_h10, li_e15, li_f15, li_l15, li_g15, li_m15, li_h15, li_e16, li_f16, li_l16, li_g16, li_m16, li_h16, li_e20, li_f20, li_l20, li_g20, li_m20, li_h20, li_e40, li_f40, li_l40, li_g40, li_m40, li_h40, li_e100, li_f100, li_l100, li_g100, li_m100, li_h100, li_e128, li_f128, li_l128, li_g128, li_m128, li_h128, li_e150, li_f150, li_l150, li_g150, li_m150, li_h150, li_e255, li_f255, li_l255, li_g255, li_m255, li_h255, li_e400, li_f400, li_l400, li_g400, li_m400, li_h400, li_e410, li_f410, li_l410, li_g410, li_m410, li_h410, li_e420, li_f420, li_l420, li_g420, li_m420, li_h420, li_e2000, li_f2000, li_l2000, li_g2000, li_m2000, li_h2000, li_e8200, li_f8200, li_l8200, li_g8200, li_m8200, li_h8200, li_e1000000, li_f1000000, li_l1000000, li_g1000000, li_m1000000, li_h1000000, li_50, li_50', li_200, li_200', nI_add, li_s1, li_t1, li_c1, li_c2, li_c3, li_c4, li_c5, li_c6, li_c7, li_c8, li_c9, li_c10, li_c11, li_c12, li_c13, li_c14, li_c15, sg_Kat, sg_Pat, pk_us, pk_uLs, true_implies, forall_const, not_true_eq_false, not_false_eq_true, false_implies, and_true, true_and, implies_true, and_self, if_true, if_false, ite_true, ite_false, reduceIte, eq_self, Nat.reduceEqDiff, Nat.reduceLeDiff, Nat.reduceLT, Int32.reduceLT, Int32.reduceLE]
    exact i_up I0
  have h3 : ¬ 15 < nm := by omega
  have h4 : ¬ 16 ≤ nm := by omega
  simp (disch := omega) only [wpX_symbol, wpX_takesPart, wpX_isType, wpX_isName, q1, h5, hp1, h4, Nat.not_lt_zero, forall_eq, nI_leI, nI_ltI, nI_eq, vp_in_nI, nI_clamp, nI_1, li_e0, li_f0, li_l0, li_g0, li_m0, li_h0, li_e1, li_f1, li_l1, li_g1, li_m1, li_h1, li_e2, li_f2, li_l2, li_g2, li_m2, li_h2, li_e3, li_f3, li_l3, li_g3, li_m3, li_h3, li_e4, li_f4, li_l4, li_g4, li_m4, li_h4, li_e5, li_f5, li_l5, li_g5, li_m5, li_h5, li_e6, li_f6, li_l6, li_g6, li_m6, li_h6, li_e7, li_f7, li_l7, li_g7, li_m7, li_h7, li_e8, li_f8, li_l8, li_g8, li_m8, li_h8, li_e9, li_f9, li_l9, li_g9, li_m9, li_h9, li_e10, li_f10, li_l10, li_g10, li_m10, li_h10, li_e15, li_f15, li_l15, li_g15, li_m15, li_h15, li_e16, li_f16, li_l16, li_g16, li_m16, li_h16, li_e20, li_f20, li_l20, li_g20, li_m20, li_h20, li_e40, li_f40, li_l40, li_g40, li_m40, li_h40, li_e100, li_f100, li_l100, li_g100, li_m100, li_h100, li_e128, li_f128, li_l128, li_g128, li_m128, li_h128, li_e150, li_f150, li_l150, li_g150, li_m150, li_h150, li_e255, li_f255, li_l255, li_g255, li_m255, li_h255, li_e400, li_f400, li_l400, li_g400, li_m400, li_h400, li_e410, li_f410, li_l410, li_g410, li_m410, li_h410, li_e420, li_f420, li_l420, li_g420, li_m420, li_h420, li_e2000, li_f2000, li_l2000, li_g2000, li_m2000, li_h2000, li_e8200, li_f8200, li_l8200, li_g8200, li_m8200, li_h8200, li_e1000000, li_f1000000, li_l1000000, li_g1000000, li_m1000000, li_h1000000, li_50, li_50', li_200, li_200', nI_add, li_s1, li_t1, li_c1, li_c2, li_c3, li_c4, li_c5, li_c6, li_c7, li_c8, li_c9, li_c10, li_c11, li_c12, li_c13, li_c14, li_c15, sg_Kat, sg_Pat, pk_us, pk_uLs, true_implies, forall_const, not_true_eq_false, not_false_eq_true, false_implies, and_true, true_and, implies_true, and_self, if_true, if_false, ite_true, ite_false, reduceIte, eq_self, Nat.reduceEqDiff, Nat.reduceLeDiff, Nat.reduceLT, Int32.reduceLT, Int32.reduceLE]
  refine xt_partNamed hg hX ht (by omega) _ ?_
  cases e : sg_find g t (nI nm) with
  | some q =>
    have hq := sg_find_lt e
    have hq1 : ¬ nI q = -1 := li_neg (by omega)
    simp (disch := omega) only [sd_oi, hq1, wpY_symbol, wpY_is, wpY_in, q2, h5, hp, h3, Nat.not_lt_zero, forall_eq, nI_leI, nI_ltI, nI_eq, vp_in_nI, nI_clamp, nI_1, li_e0, li_f0, li_l0, li_g0, li_m0, li_h0, li_e1, li_f1, li_l1, li_g1, li_m1, li_h1, li_e2, li_f2, li_l2, li_g2, li_m2, li_h2, li_e3, li_f3, li_l3, li_g3, li_m3, li_h3, li_e4, li_f4, li_l4, li_g4, li_m4, li_h4, li_e5, li_f5, li_l5, li_g5, li_m5, li_h5, li_e6, li_f6, li_l6, li_g6, li_m6, li_h6, li_e7, li_f7, li_l7, li_g7, li_m7, li_h7, li_e8, li_f8, li_l8, li_g8, li_m8, li_h8, li_e9, li_f9, li_l9, li_g9, li_m9, li_h9, li_e10, li_f10, li_l10, li_g10, li_m10, li_h10, li_e15, li_f15, li_l15, li_g15, li_m15, li_h15, li_e16, li_f16, li_l16, li_g16, li_m16, li_h16, li_e20, li_f20, li_l20, li_g20, li_m20, li_h20, li_e40, li_f40, li_l40, li_g40, li_m40, li_h40, li_e100, li_f100, li_l100, li_g100, li_m100, li_h100, li_e128, li_f128, li_l128, li_g128, li_m128, li_h128, li_e150, li_f150, li_l150, li_g150, li_m150, li_h150, li_e255, li_f255, li_l255, li_g255, li_m255, li_h255, li_e400, li_f400, li_l400, li_g400, li_m400, li_h400, li_e410, li_f410, li_l410, li_g410, li_m410, li_h410, li_e420, li_f420, li_l420, li_g420, li_m420, li_h420, li_e2000, li_f2000, li_l2000, li_g2000, li_m2000, li_h2000, li_e8200, li_f8200, li_l8200, li_g8200, li_m8200, li_h8200, li_e1000000, li_f1000000, li_l1000000, li_g1000000, li_m1000000, li_h1000000, li_50, li_50', li_200, li_200', nI_add, li_s1, li_t1, li_c1, li_c2, li_c3, li_c4, li_c5, li_c6, li_c7, li_c8, li_c9, li_c10, li_c11, li_c12, li_c13, li_c14, li_c15, sg_Kat, sg_Pat, pk_us, pk_uLs, true_implies, forall_const, not_true_eq_false, not_false_eq_true, false_implies, and_true, true_and, implies_true, and_self, if_true, if_false, ite_true, ite_false, reduceIte, eq_self, Nat.reduceEqDiff, Nat.reduceLeDiff, Nat.reduceLT, Int32.reduceLT, Int32.reduceLE]
    refine yt_find hg hY ht (by omega) _ ?_
    rw [e]
    simp (disch := omega) only [sd_oi, Nat.not_lt_zero, forall_eq, nI_leI, nI_ltI, nI_eq, vp_in_nI, nI_clamp, nI_1, li_e0, li_f0, li_l0, li_g0, li_m0, li_h0, li_e1, li_f1, li_l1, li_g1, li_m1, li_h1, li_e2, li_f2, li_l2, li_g2, li_m2, li_h2, li_e3, li_f3, li_l3, li_g3, li_m3, li_h3, li_e4, li_f4, li_l4, li_g4, li_m4, li_h4, li_e5, li_f5, li_l5, li_g5, li_m5, li_h5, li_e6, li_f6, li_l6, li_g6, li_m6, li_h6, li_e7, li_f7, li_l7, li_g7, li_m7, li_h7, li_e8, li_f8, li_l8, li_g8, li_m8, li_h8, li_e9, li_f9, li_l9, li_g9, li_m9, li_h9, li_e10, li_f10, li_l10, li_g10, li_m10, li_h10, li_e15, li_f15, li_l15, li_g15, li_m15, li_h15, li_e16, li_f16, li_l16, li_g16, li_m16, li_h16, li_e20, li_f20, li_l20, li_g20, li_m20, li_h20, li_e40, li_f40, li_l40, li_g40, li_m40, li_h40, li_e100, li_f100, li_l100, li_g100, li_m100, li_h100, li_e128, li_f128, li_l128, li_g128, li_m128, li_h128, li_e150, li_f150, li_l150, li_g150, li_m150, li_h150, li_e255, li_f255, li_l255, li_g255, li_m255, li_h255, li_e400, li_f400, li_l400, li_g400, li_m400, li_h400, li_e410, li_f410, li_l410, li_g410, li_m410, li_h410, li_e420, li_f420, li_l420, li_g420, li_m420, li_h420, li_e2000, li_f2000, li_l2000, li_g2000, li_m2000, li_h2000, li_e8200, li_f8200, li_l8200, li_g8200, li_m8200, li_h8200, li_e1000000, li_f1000000, li_l1000000, li_g1000000, li_m1000000, li_h1000000, li_50, li_50', li_200, li_200', nI_add, li_s1, li_t1, li_c1, li_c2, li_c3, li_c4, li_c5, li_c6, li_c7, li_c8, li_c9, li_c10, li_c11, li_c12, li_c13, li_c14, li_c15, sg_Kat, sg_Pat, pk_us, pk_uLs, true_implies, forall_const, not_true_eq_false, not_false_eq_true, false_implies, and_true, true_and, implies_true, and_self, if_true, if_false, ite_true, ite_false, reduceIte, eq_self, Nat.reduceEqDiff, Nat.reduceLeDiff, Nat.reduceLT, Int32.reduceLT, Int32.reduceLE]
    exact i_up I0
  | none =>
    simp (disch := omega) only [sd_oi, wpX_addPart, wpY_symbol, wpY_is, wpY_in, q2, h5, hp, h3, Nat.not_lt_zero, sc_b0, forall_eq, nI_leI, nI_ltI, nI_eq, vp_in_nI, nI_clamp, nI_1, li_e0, li_f0, li_l0, li_g0, li_m0, li_h0, li_e1, li_f1, li_l1, li_g1, li_m1, li_h1, li_e2, li_f2, li_l2, li_g2, li_m2, li_h2, li_e3, li_f3, li_l3, li_g3, li_m3, li_h3, li_e4, li_f4, li_l4, li_g4, li_m4, li_h4, li_e5, li_f5, li_l5, li_g5, li_m5, li_h5, li_e6, li_f6, li_l6, li_g6, li_m6, li_h6, li_e7, li_f7, li_l7, li_g7, li_m7, li_h7, li_e8, li_f8, li_l8, li_g8, li_m8, li_h8, li_e9, li_f9, li_l9, li_g9, li_m9, li_h9, li_e10, li_f10, li_l10, li_g10, li_m10, li_h10, li_e15, li_f15, li_l15, li_g15, li_m15, li_h15, li_e16, li_f16, li_l16, li_g16, li_m16, li_h16, li_e20, li_f20, li_l20, li_g20, li_m20, li_h20, li_e40, li_f40, li_l40, li_g40, li_m40, li_h40, li_e100, li_f100, li_l100, li_g100, li_m100, li_h100, li_e128, li_f128, li_l128, li_g128, li_m128, li_h128, li_e150, li_f150, li_l150, li_g150, li_m150, li_h150, li_e255, li_f255, li_l255, li_g255, li_m255, li_h255, li_e400, li_f400, li_l400, li_g400, li_m400, li_h400, li_e410, li_f410, li_l410, li_g410, li_m410, li_h410, li_e420, li_f420, li_l420, li_g420, li_m420, li_h420, li_e2000, li_f2000, li_l2000, li_g2000, li_m2000, li_h2000, li_e8200, li_f8200, li_l8200, li_g8200, li_m8200, li_h8200, li_e1000000, li_f1000000, li_l1000000, li_g1000000, li_m1000000, li_h1000000, li_50, li_50', li_200, li_200', nI_add, li_s1, li_t1, li_c1, li_c2, li_c3, li_c4, li_c5, li_c6, li_c7, li_c8, li_c9, li_c10, li_c11, li_c12, li_c13, li_c14, li_c15, sg_Kat, sg_Pat, pk_us, pk_uLs, true_implies, forall_const, not_true_eq_false, not_false_eq_true, false_implies, and_true, true_and, implies_true, and_self, if_true, if_false, ite_true, ite_false, reduceIte, eq_self, Nat.reduceEqDiff, Nat.reduceLeDiff, Nat.reduceLT, Int32.reduceLT, Int32.reduceLE]
    refine yt_find hg hY ht (by omega) _ ?_
    rw [e]
    simp (disch := omega) only [sd_oi, forall_eq, nI_leI, nI_ltI, nI_eq, vp_in_nI, nI_clamp, nI_1, li_e0, li_f0, li_l0, li_g0, li_m0, li_h0, li_e1, li_f1, li_l1, li_g1, li_m1, li_h1, li_e2, li_f2, li_l2, li_g2, li_m2, li_h2, li_e3, li_f3, li_l3, li_g3, li_m3, li_h3, li_e4, li_f4, li_l4, li_g4, li_m4, li_h4, li_e5, li_f5, li_l5, li_g5, li_m5, li_h5, li_e6, li_f6, li_l6, li_g6, li_m6, li_h6, li_e7, li_f7, li_l7, li_g7, li_m7, li_h7, li_e8, li_f8, li_l8, li_g8, li_m8, li_h8, li_e9, li_f9, li_l9, li_g9, li_m9, li_h9, li_e10, li_f10, li_l10, li_g10, li_m10, li_h10, li_e15, li_f15, li_l15, li_g15, li_m15, li_h15, li_e16, li_f16, li_l16, li_g16, li_m16, li_h16, li_e20, li_f20, li_l20, li_g20, li_m20, li_h20, li_e40, li_f40, li_l40, li_g40, li_m40, li_h40, li_e100, li_f100, li_l100, li_g100, li_m100, li_h100, li_e128, li_f128, li_l128, li_g128, li_m128, li_h128, li_e150, li_f150, li_l150, li_g150, li_m150, li_h150, li_e255, li_f255, li_l255, li_g255, li_m255, li_h255, li_e400, li_f400, li_l400, li_g400, li_m400, li_h400, li_e410, li_f410, li_l410, li_g410, li_m410, li_h410, li_e420, li_f420, li_l420, li_g420, li_m420, li_h420, li_e2000, li_f2000, li_l2000, li_g2000, li_m2000, li_h2000, li_e8200, li_f8200, li_l8200, li_g8200, li_m8200, li_h8200, li_e1000000, li_f1000000, li_l1000000, li_g1000000, li_m1000000, li_h1000000, li_50, li_50', li_200, li_200', nI_add, li_s1, li_t1, li_c1, li_c2, li_c3, li_c4, li_c5, li_c6, li_c7, li_c8, li_c9, li_c10, li_c11, li_c12, li_c13, li_c14, li_c15, sg_Kat, sg_Pat, pk_us, pk_uLs, true_implies, forall_const, not_true_eq_false, not_false_eq_true, false_implies, and_true, true_and, implies_true, and_self, if_true, if_false, ite_true, ite_false, reduceIte, eq_self, Nat.reduceEqDiff, Nat.reduceLeDiff, Nat.reduceLT, Int32.reduceLT, Int32.reduceLE]
    exact sr_add (nm := nm) (u := 0) (al := -1) (ha := 0) (v := 0) hg hX hY hbc hnc hlc hbb hli ht (by omega) (Or.inl h5) (fun _ => hnm) (fun z => absurd h5 z) (fun z => by omega) (fun z => by omega) (Or.inl rfl)
      (fun _ => rfl) (fun z => by omega) (fun z => absurd h5 z) (fun z => by omega) (fun _ => ⟨rfl, rfl⟩)
      (fun j h => pk_un h) (fun j h => rfl) (fun j h => rfl) (fun j h => rfl) (fun j h => rfl) (fun _ => pk_us) (fun z => absurd h5 z) (fun z => by omega) hY.2.2.2.2
theorem i_vc_fallback {k : Nat} {u : SX} {v : SY} (I : i_Rel k u v) (hk : k + 7 ≤ 3584) (v1 : Int32) (v2 : Int32) : wpX_fallback (fun r u' => wpY_fallback (fun r' v' => r' = r ∧ i_Rel (k + 7) u' v') v v1 v2) u v1 v2 := by
  obtain ⟨x_typeCount, x_byteCount, x_numberCount, x_listCount, x_trouble, x_place, x_valueCount, x_top, x_records, x_writtenCount, x_pairCount, x_kindOf, x_detailOf, x_fallbackOf, x_partCount, x_partName, x_partType, x_partAlias, x_partHas, x_partDefault, x_bytes, x_numbers, x_list, x_valueType, x_valueNumber, x_valueFrom, x_valueAfter, x_frameValue, x_frameType, x_frameStep, x_frameLeft, x_frameStart, x_addsNothing, x_written, x_pairs, x_pairSeen⟩ := u
  obtain ⟨y_types, y_byteCount, y_writtenCount, y_numberCount, y_listCount, y_values, y_depth, y_records, y_at, y_wrong, y_todo, y_kind, y_of, y_parts, y_fallback, y_name, y_part, y_alias, y_given, y_has, y_bytes, y_written, y_numbers, y_list, y_valueType, y_start, y_child, y_last, y_next, y_value, y_open, y_come, y_left, y_todoValue, y_todoType, y_todoDefault, y_pair, y_whole⟩ := v
  have I0 := I
  obtain ⟨g, bc, nc, lc, hg, hX, hY, hbc, hnc, hlc, hbb, hli, rfl, rfl, rfl, rfl, rfl, rfl, rfl, rfl, rfl, rfl, rfl, rfl, rfl, rfl, rfl, rfl⟩ := I
  have hn := hg.1
  rcases sc_no (x := v1) (n := sg_n g) (by omega) with ⟨h, -⟩ | ⟨h, h1, h2⟩ | ⟨t, ht, rfl⟩
  · simp (disch := omega) only [wpX_fallback, wpX_isType, wpY_fallback, wpY_is, wpY_in, h, forall_eq, nI_leI, nI_ltI, nI_eq, vp_in_nI, nI_clamp, nI_1, li_e0, li_f0, li_l0, li_g0, li_m0, li_h0, li_e1, li_f1, li_l1, li_g1, li_m1, li_h1, li_e2, li_f2, li_l2, li_g2, li_m2, li_h2, li_e3, li_f3, li_l3, li_g3, li_m3, li_h3, li_e4, li_f4, li_l4, li_g4, li_m4, li_h4, li_e5, li_f5, li_l5, li_g5, li_m5, li_h5, li_e6, li_f6, li_l6, li_g6, li_m6, li_h6, li_e7, li_f7, li_l7, li_g7, li_m7, li_h7, li_e8, li_f8, li_l8, li_g8, li_m8, li_h8, li_e9, li_f9, li_l9, li_g9, li_m9, li_h9, li_e10, li_f10, li_l10, li_g10, li_m10, li_h10, li_e15, li_f15, li_l15, li_g15, li_m15, li_h15, li_e16, li_f16, li_l16, li_g16, li_m16, li_h16, li_e20, li_f20, li_l20, li_g20, li_m20, li_h20, li_e40, li_f40, li_l40, li_g40, li_m40, li_h40, li_e100, li_f100, li_l100, li_g100, li_m100, li_h100, li_e128, li_f128, li_l128, li_g128, li_m128, li_h128, li_e150, li_f150, li_l150, li_g150, li_m150, li_h150, li_e255, li_f255, li_l255, li_g255, li_m255, li_h255, li_e400, li_f400, li_l400, li_g400, li_m400, li_h400, li_e410, li_f410, li_l410, li_g410, li_m410, li_h410, li_e420, li_f420, li_l420, li_g420, li_m420, li_h420, li_e2000, li_f2000, li_l2000, li_g2000, li_m2000, li_h2000, li_e8200, li_f8200, li_l8200, li_g8200, li_m8200, li_h8200, li_e1000000, li_f1000000, li_l1000000, li_g1000000, li_m1000000, li_h1000000, li_50, li_50', li_200, li_200', nI_add, li_s1, li_t1, li_c1, li_c2, li_c3, li_c4, li_c5, li_c6, li_c7, li_c8, li_c9, li_c10, li_c11, li_c12, li_c13, li_c14, li_c15, sg_Kat, sg_Pat, pk_us, pk_uLs, true_implies, forall_const, not_true_eq_false, not_false_eq_true, false_implies, and_true, true_and, implies_true, and_self, if_true, if_false, ite_true, ite_false, reduceIte, eq_self, Nat.reduceEqDiff, Nat.reduceLeDiff, Nat.reduceLT, Int32.reduceLT, Int32.reduceLE]
    exact i_up I0
  · have h3 := sc_top (by omega) h h1 h2
    simp (disch := omega) only [wpX_fallback, wpX_isType, wpY_fallback, wpY_is, wpY_in, h, h1, h3, forall_eq, nI_leI, nI_ltI, nI_eq, vp_in_nI, nI_clamp, nI_1, li_e0, li_f0, li_l0, li_g0, li_m0, li_h0, li_e1, li_f1, li_l1, li_g1, li_m1, li_h1, li_e2, li_f2, li_l2, li_g2, li_m2, li_h2, li_e3, li_f3, li_l3, li_g3, li_m3, li_h3, li_e4, li_f4, li_l4, li_g4, li_m4, li_h4, li_e5, li_f5, li_l5, li_g5, li_m5, li_h5, li_e6, li_f6, li_l6, li_g6, li_m6, li_h6, li_e7, li_f7, li_l7, li_g7, li_m7, li_h7, li_e8, li_f8, li_l8, li_g8, li_m8, li_h8, li_e9, li_f9, li_l9, li_g9, li_m9, li_h9, li_e10, li_f10, li_l10, li_g10, li_m10, li_h10, li_e15, li_f15, li_l15, li_g15, li_m15, li_h15, li_e16, li_f16, li_l16, li_g16, li_m16, li_h16, li_e20, li_f20, li_l20, li_g20, li_m20, li_h20, li_e40, li_f40, li_l40, li_g40, li_m40, li_h40, li_e100, li_f100, li_l100, li_g100, li_m100, li_h100, li_e128, li_f128, li_l128, li_g128, li_m128, li_h128, li_e150, li_f150, li_l150, li_g150, li_m150, li_h150, li_e255, li_f255, li_l255, li_g255, li_m255, li_h255, li_e400, li_f400, li_l400, li_g400, li_m400, li_h400, li_e410, li_f410, li_l410, li_g410, li_m410, li_h410, li_e420, li_f420, li_l420, li_g420, li_m420, li_h420, li_e2000, li_f2000, li_l2000, li_g2000, li_m2000, li_h2000, li_e8200, li_f8200, li_l8200, li_g8200, li_m8200, li_h8200, li_e1000000, li_f1000000, li_l1000000, li_g1000000, li_m1000000, li_h1000000, li_50, li_50', li_200, li_200', nI_add, li_s1, li_t1, li_c1, li_c2, li_c3, li_c4, li_c5, li_c6, li_c7, li_c8, li_c9, li_c10, li_c11, li_c12, li_c13, li_c14, li_c15, sg_Kat, sg_Pat, pk_us, pk_uLs, true_implies, forall_const, not_true_eq_false, not_false_eq_true, false_implies, and_true, true_and, implies_true, and_self, if_true, if_false, ite_true, ite_false, reduceIte, eq_self, Nat.reduceEqDiff, Nat.reduceLeDiff, Nat.reduceLT, Int32.reduceLT, Int32.reduceLE]
    exact i_up I0
  have q1 : ¬ sg_n g ≤ t := by omega
  have q2 : ¬ sg_n g - 1 < t := by omega
  have k9 := hg.2.1 t
  have p5 := hg.2.2.1 t
  by_cases h5 : ¬ sg_k g t = 5
  · simp (disch := omega) only [wpX_fallback, wpX_isType, wpY_fallback, wpY_is, wpY_in, q1, q2, h5, Nat.not_lt_zero, forall_eq, nI_leI, nI_ltI, nI_eq, vp_in_nI, nI_clamp, nI_1, li_e0, li_f0, li_l0, li_g0, li_m0, li_h0, li_e1, li_f1, li_l1, li_g1, li_m1, li_h1, li_e2, li_f2, li_l2, li_g2, li_m2, li_h2, li_e3, li_f3, li_l3, li_g3, li_m3, li_h3, li_e4, li_f4, li_l4, li_g4, li_m4, li_h4, li_e5, li_f5, li_l5, li_g5, li_m5, li_h5, li_e6, li_f6, li_l6, li_g6, li_m6, li_h6, li_e7, li_f7, li_l7, li_g7, li_m7, li_h7, li_e8, li_f8, li_l8, li_g8, li_m8, li_h8, li_e9, li_f9, li_l9, li_g9, li_m9, li_h9, li_e10, li_f10, li_l10, li_g10, li_m10, li_h10, li_e15, li_f15, li_l15, li_g15, li_m15, li_h15, li_e16, li_f16, li_l16, li_g16, li_m16, li_h16, li_e20, li_f20, li_l20, li_g20, li_m20, li_h20, li_e40, li_f40, li_l40, li_g40, li_m40, li_h40, li_e100, li_f100, li_l100, li_g100, li_m100, li_h100, li_e128, li_f128, li_l128, li_g128, li_m128, li_h128, li_e150, li_f150, li_l150, li_g150, li_m150, li_h150, li_e255, li_f255, li_l255, li_g255, li_m255, li_h255, li_e400, li_f400, li_l400, li_g400, li_m400, li_h400, li_e410, li_f410, li_l410, li_g410, li_m410, li_h410, li_e420, li_f420, li_l420, li_g420, li_m420, li_h420, li_e2000, li_f2000, li_l2000, li_g2000, li_m2000, li_h2000, li_e8200, li_f8200, li_l8200, li_g8200, li_m8200, li_h8200, li_e1000000, li_f1000000, li_l1000000, li_g1000000, li_m1000000, li_h1000000, li_50, li_50', li_200, li_200', nI_add, li_s1, li_t1, li_c1, li_c2, li_c3, li_c4, li_c5, li_c6, li_c7, li_c8, li_c9, li_c10, li_c11, li_c12, li_c13, li_c14, li_c15, sg_Kat, sg_Pat, pk_us, pk_uLs, true_implies, forall_const, not_true_eq_false, not_false_eq_true, false_implies, and_true, true_and, implies_true, and_self, if_true, if_false, ite_true, ite_false, reduceIte, eq_self, Nat.reduceEqDiff, Nat.reduceLeDiff, Nat.reduceLT, Int32.reduceLT, Int32.reduceLE]
    exact i_up I0
  have h5 : sg_k g t = 5 := by omega
  have fin : ∀ x, sg_nam x → i_Rel (k + 7) (nI (sg_n g), nI bc, nI nc, nI lc, x_trouble, x_place, x_valueCount, x_top, x_records, x_writtenCount, x_pairCount, sg_K g, x_detailOf, upd (sg_f g) t x, sg_P g, x_partName, x_partType, x_partAlias, x_partHas, x_partDefault, y_bytes, y_numbers, x_list, x_valueType, x_valueNumber, x_valueFrom, x_valueAfter, x_frameValue, x_frameType, x_frameStep, x_frameLeft, x_frameStart, x_addsNothing, x_written, x_pairs, x_pairSeen) (nI (sg_n g), nI bc, y_writtenCount, nI nc, nI lc, y_values, y_depth, y_records, y_at, y_wrong, y_todo, sg_K g, y_of, sg_P g, upd (sg_f g) t x, y_name, y_part, y_alias, y_given, y_has, y_bytes, y_written, y_numbers, y_list, y_valueType, y_start, y_child, y_last, y_next, y_value, y_open, y_come, y_left, y_todoValue, y_todoType, y_todoDefault, y_pair, y_whole) := by
    intro x hx
    exact sr_mk (sg_fall g t x) bc nc lc (sg_fall_ok hg h5 hx) hX hY hbc hnc hlc hbb hli rfl rfl rfl rfl rfl rfl rfl rfl rfl rfl rfl rfl rfl rfl rfl rfl
  by_cases hm : v2 = -1
  · subst hm
    simp (disch := omega) only [wpX_fallback, wpX_isType, wpY_fallback, wpY_is, wpY_in, q1, q2, h5, Nat.not_lt_zero, forall_eq, nI_leI, nI_ltI, nI_eq, vp_in_nI, nI_clamp, nI_1, li_e0, li_f0, li_l0, li_g0, li_m0, li_h0, li_e1, li_f1, li_l1, li_g1, li_m1, li_h1, li_e2, li_f2, li_l2, li_g2, li_m2, li_h2, li_e3, li_f3, li_l3, li_g3, li_m3, li_h3, li_e4, li_f4, li_l4, li_g4, li_m4, li_h4, li_e5, li_f5, li_l5, li_g5, li_m5, li_h5, li_e6, li_f6, li_l6, li_g6, li_m6, li_h6, li_e7, li_f7, li_l7, li_g7, li_m7, li_h7, li_e8, li_f8, li_l8, li_g8, li_m8, li_h8, li_e9, li_f9, li_l9, li_g9, li_m9, li_h9, li_e10, li_f10, li_l10, li_g10, li_m10, li_h10, li_e15, li_f15, li_l15, li_g15, li_m15, li_h15, li_e16, li_f16, li_l16, li_g16, li_m16, li_h16, li_e20, li_f20, li_l20, li_g20, li_m20, li_h20, li_e40, li_f40, li_l40, li_g40, li_m40, li_h40, li_e100, li_f100, li_l100, li_g100, li_m100, li_h100, li_e128, li_f128, li_l128, li_g128, li_m128, li_h128, li_e150, li_f150, li_l150, li_g150, li_m150, li_h150, li_e255, li_f255, li_l255, li_g255, li_m255, li_h255, li_e400, li_f400, li_l400, li_g400, li_m400, li_h400, li_e410, li_f410, li_l410, li_g410, li_m410, li_h410, li_e420, li_f420, li_l420, li_g420, li_m420, li_h420, li_e2000, li_f2000, li_l2000, li_g2000, li_m2000, li_h2000, li_e8200, li_f8200, li_l8200, li_g8200, li_m8200, li_h8200, li_e1000000, li_f1000000, li_l1000000, li_g1000000, li_m1000000, li_h1000000, li_50, li_50', li_200, li_200', nI_add, li_s1, li_t1, li_c1, li_c2, li_c3, li_c4, li_c5, li_c6, li_c7, li_c8, li_c9, li_c10, li_c11, li_c12, li_c13, li_c14, li_c15, sg_Kat, sg_Pat, pk_us, pk_uLs, true_implies, forall_const, not_true_eq_false, not_false_eq_true, false_implies, and_true, true_and, implies_true, and_self, if_true, if_false, ite_true, ite_false, reduceIte, eq_self, Nat.reduceEqDiff, Nat.reduceLeDiff, Nat.reduceLT, Int32.reduceLT, Int32.reduceLE]
    exact fin _ (Or.inl rfl)
  simp (disch := omega) only [wpX_fallback, wpX_isType, q1, h5, hm, Nat.not_lt_zero, forall_eq, nI_leI, nI_ltI, nI_eq, vp_in_nI, nI_clamp, nI_1, li_e0, li_f0, li_l0, li_g0, li_m0, li_h0, li_e1, li_f1, li_l1, li_g1, li_m1, li_h1, li_e2, li_f2, li_l2, li_g2, li_m2, li_h2, li_e3, li_f3, li_l3, li_g3, li_m3, li_h3, li_e4, li_f4, li_l4, li_g4, li_m4, li_h4, li_e5, li_f5, li_l5, li_g5, li_m5, li_h5, li_e6, li_f6, li_l6, li_g6, li_m6, li_h6, li_e7, li_f7, li_l7, li_g7, li_m7, li_h7, li_e8, li_f8, li_l8, li_g8, li_m8, li_h8, li_e9, li_f9, li_l9, li_g9, li_m9, li_h9, li_e10, li_f10, li_l10, li_g10, li_m10, li_h10, li_e15, li_f15, li_l15, li_g15, li_m15, li_h15, li_e16, li_f16, li_l16, li_g16, li_m16, li_h16, li_e20, li_f20, li_l20, li_g20, li_m20, li_h20, li_e40, li_f40, li_l40, li_g40, li_m40, li_h40, li_e100, li_f100, li_l100, li_g100, li_m100, li_h100, li_e128, li_f128, li_l128, li_g128, li_m128, li_h128, li_e150, li_f150, li_l150, li_g150, li_m150, li_h150, li_e255, li_f255, li_l255, li_g255, li_m255, li_h255, li_e400, li_f400, li_l400, li_g400, li_m400, li_h400, li_e410, li_f410, li_l410, li_g410, li_m410, li_h410, li_e420, li_f420, li_l420, li_g420, li_m420, li_h420, li_e2000, li_f2000, li_l2000, li_g2000, li_m2000, li_h2000, li_e8200, li_f8200, li_l8200, li_g8200, li_m8200, li_h8200, li_e1000000, li_f1000000, li_l1000000, li_g1000000, li_m1000000, li_h1000000, li_50, li_50', li_200, li_200', nI_add, li_s1, li_t1, li_c1, li_c2, li_c3, li_c4, li_c5, li_c6, li_c7, li_c8, li_c9, li_c10, li_c11, li_c12, li_c13, li_c14, li_c15, sg_Kat, sg_Pat, pk_us, pk_uLs, true_implies, forall_const, not_true_eq_false, not_false_eq_true, false_implies, and_true, true_and, implies_true, and_self, if_true, if_false, ite_true, ite_false, reduceIte, eq_self, Nat.reduceEqDiff, Nat.reduceLeDiff, Nat.reduceLT, Int32.reduceLT, Int32.reduceLE]
  refine xt_partNamed hg hX ht (by omega) _ ?_
  cases e : sg_find g t v2 with
  | none =>
    simp (disch := omega) only [sd_oi, wpY_fallback, wpY_is, wpY_in, q2, h5, hm, Nat.not_lt_zero, forall_eq, nI_leI, nI_ltI, nI_eq, vp_in_nI, nI_clamp, nI_1, li_e0, li_f0, li_l0, li_g0, li_m0, li_h0, li_e1, li_f1, li_l1, li_g1, li_m1, li_h1, li_e2, li_f2, li_l2, li_g2, li_m2, li_h2, li_e3, li_f3, li_l3, li_g3, li_m3, li_h3, li_e4, li_f4, li_l4, li_g4, li_m4, li_h4, li_e5, li_f5, li_l5, li_g5, li_m5, li_h5, li_e6, li_f6, li_l6, li_g6, li_m6, li_h6, li_e7, li_f7, li_l7, li_g7, li_m7, li_h7, li_e8, li_f8, li_l8, li_g8, li_m8, li_h8, li_e9, li_f9, li_l9, li_g9, li_m9, li_h9, li_e10, li_f10, li_l10, li_g10, li_m10, li_h10, li_e15, li_f15, li_l15, li_g15, li_m15, li_h15, li_e16, li_f16, li_l16, li_g16, li_m16, li_h16, li_e20, li_f20, li_l20, li_g20, li_m20, li_h20, li_e40, li_f40, li_l40, li_g40, li_m40, li_h40, li_e100, li_f100, li_l100, li_g100, li_m100, li_h100, li_e128, li_f128, li_l128, li_g128, li_m128, li_h128, li_e150, li_f150, li_l150, li_g150, li_m150, li_h150, li_e255, li_f255, li_l255, li_g255, li_m255, li_h255, li_e400, li_f400, li_l400, li_g400, li_m400, li_h400, li_e410, li_f410, li_l410, li_g410, li_m410, li_h410, li_e420, li_f420, li_l420, li_g420, li_m420, li_h420, li_e2000, li_f2000, li_l2000, li_g2000, li_m2000, li_h2000, li_e8200, li_f8200, li_l8200, li_g8200, li_m8200, li_h8200, li_e1000000, li_f1000000, li_l1000000, li_g1000000, li_m1000000, li_h1000000, li_50, li_50', li_200, li_200', nI_add, li_s1, li_t1, li_c1, li_c2, li_c3, li_c4, li_c5, li_c6, li_c7, li_c8, li_c9, li_c10, li_c11, li_c12, li_c13, li_c14, li_c15, sg_Kat, sg_Pat, pk_us, pk_uLs, true_implies, forall_const, not_true_eq_false, not_false_eq_true, false_implies, and_true, true_and, implies_true, and_self, if_true, if_false, ite_true, ite_false, reduceIte, eq_self, Nat.reduceEqDiff, Nat.reduceLeDiff, Nat.reduceLT, Int32.reduceLT, Int32.reduceLE]
    refine yt_find hg hY ht (by omega) _ ?_
    rw [e]
    simp (disch := omega) only [sd_oi, forall_eq, nI_leI, nI_ltI, nI_eq, vp_in_nI, nI_clamp, nI_1, li_e0, li_f0, li_l0, li_g0, li_m0, li_h0, li_e1, li_f1, li_l1, li_g1, li_m1, li_h1, li_e2, li_f2, li_l2, li_g2, li_m2, li_h2, li_e3, li_f3, li_l3, li_g3, li_m3, li_h3, li_e4, li_f4, li_l4, li_g4, li_m4, li_h4, li_e5, li_f5, li_l5, li_g5, li_m5, li_h5, li_e6, li_f6, li_l6, li_g6, li_m6, li_h6, li_e7, li_f7, li_l7, li_g7, li_m7, li_h7, li_e8, li_f8, li_l8, li_g8, li_m8, li_h8, li_e9, li_f9, li_l9, li_g9, li_m9, li_h9, li_e10, li_f10, li_l10, li_g10, li_m10, li_h10, li_e15, li_f15, li_l15, li_g15, li_m15, li_h15, li_e16, li_f16, li_l16, li_g16, li_m16, li_h16, li_e20, li_f20, li_l20, li_g20, li_m20, li_h20, li_e40, li_f40, li_l40, li_g40, li_m40, li_h40, li_e100, li_f100, li_l100, li_g100, li_m100, li_h100, li_e128, li_f128, li_l128, li_g128, li_m128, li_h128, li_e150, li_f150, li_l150, li_g150, li_m150, li_h150, li_e255, li_f255, li_l255, li_g255, li_m255, li_h255, li_e400, li_f400, li_l400, li_g400, li_m400, li_h400, li_e410, li_f410, li_l410, li_g410, li_m410, li_h410, li_e420, li_f420, li_l420, li_g420, li_m420, li_h420, li_e2000, li_f2000, li_l2000, li_g2000, li_m2000, li_h2000, li_e8200, li_f8200, li_l8200, li_g8200, li_m8200, li_h8200, li_e1000000, li_f1000000, li_l1000000, li_g1000000, li_m1000000, li_h1000000, li_50, li_50', li_200, li_200', nI_add, li_s1, li_t1, li_c1, li_c2, li_c3, li_c4, li_c5, li_c6, li_c7, li_c8, li_c9, li_c10, li_c11, li_c12, li_c13, li_c14, li_c15, sg_Kat, sg_Pat, pk_us, pk_uLs, true_implies, forall_const, not_true_eq_false, not_false_eq_true, false_implies, and_true, true_and, implies_true, and_self, if_true, if_false, ite_true, ite_false, reduceIte, eq_self, Nat.reduceEqDiff, Nat.reduceLeDiff, Nat.reduceLT, Int32.reduceLT, Int32.reduceLE]
    exact i_up I0
  | some q =>
    have hq := sg_find_lt e
    have hq1 : ¬ nI q = -1 := li_neg (by omega)
    obtain ⟨a, ha, rfl⟩ := sc_find0 hg ht (by omega) e
    simp (disch := omega) only [sd_oi, hq1, wpY_fallback, wpY_is, wpY_in, q2, h5, hm, Nat.not_lt_zero, forall_eq, nI_leI, nI_ltI, nI_eq, vp_in_nI, nI_clamp, nI_1, li_e0, li_f0, li_l0, li_g0, li_m0, li_h0, li_e1, li_f1, li_l1, li_g1, li_m1, li_h1, li_e2, li_f2, li_l2, li_g2, li_m2, li_h2, li_e3, li_f3, li_l3, li_g3, li_m3, li_h3, li_e4, li_f4, li_l4, li_g4, li_m4, li_h4, li_e5, li_f5, li_l5, li_g5, li_m5, li_h5, li_e6, li_f6, li_l6, li_g6, li_m6, li_h6, li_e7, li_f7, li_l7, li_g7, li_m7, li_h7, li_e8, li_f8, li_l8, li_g8, li_m8, li_h8, li_e9, li_f9, li_l9, li_g9, li_m9, li_h9, li_e10, li_f10, li_l10, li_g10, li_m10, li_h10, li_e15, li_f15, li_l15, li_g15, li_m15, li_h15, li_e16, li_f16, li_l16, li_g16, li_m16, li_h16, li_e20, li_f20, li_l20, li_g20, li_m20, li_h20, li_e40, li_f40, li_l40, li_g40, li_m40, li_h40, li_e100, li_f100, li_l100, li_g100, li_m100, li_h100, li_e128, li_f128, li_l128, li_g128, li_m128, li_h128, li_e150, li_f150, li_l150, li_g150, li_m150, li_h150, li_e255, li_f255, li_l255, li_g255, li_m255, li_h255, li_e400, li_f400, li_l400, li_g400, li_m400, li_h400, li_e410, li_f410, li_l410, li_g410, li_m410, li_h410, li_e420, li_f420, li_l420, li_g420, li_m420, li_h420, li_e2000, li_f2000, li_l2000, li_g2000, li_m2000, li_h2000, li_e8200, li_f8200, li_l8200, li_g8200, li_m8200, li_h8200, li_e1000000, li_f1000000, li_l1000000, li_g1000000, li_m1000000, li_h1000000, li_50, li_50', li_200, li_200', nI_add, li_s1, li_t1, li_c1, li_c2, li_c3, li_c4, li_c5, li_c6, li_c7, li_c8, li_c9, li_c10, li_c11, li_c12, li_c13, li_c14, li_c15, sg_Kat, sg_Pat, pk_us, pk_uLs, true_implies, forall_const, not_true_eq_false, not_false_eq_true, false_implies, and_true, true_and, implies_true, and_self, if_true, if_false, ite_true, ite_false, reduceIte, eq_self, Nat.reduceEqDiff, Nat.reduceLeDiff, Nat.reduceLT, Int32.reduceLT, Int32.reduceLE]
    refine yt_find hg hY ht (by omega) _ ?_
    rw [e]
    simp (disch := omega) only [sd_oi, Nat.zero_le, forall_eq, nI_leI, nI_ltI, nI_eq, vp_in_nI, nI_clamp, nI_1, li_e0, li_f0, li_l0, li_g0, li_m0, li_h0, li_e1, li_f1, li_l1, li_g1, li_m1, li_h1, li_e2, li_f2, li_l2, li_g2, li_m2, li_h2, li_e3, li_f3, li_l3, li_g3, li_m3, li_h3, li_e4, li_f4, li_l4, li_g4, li_m4, li_h4, li_e5, li_f5, li_l5, li_g5, li_m5, li_h5, li_e6, li_f6, li_l6, li_g6, li_m6, li_h6, li_e7, li_f7, li_l7, li_g7, li_m7, li_h7, li_e8, li_f8, li_l8, li_g8, li_m8, li_h8, li_e9, li_f9, li_l9, li_g9, li_m9, li_h9, li_e10, li_f10, li_l10, li_g10, li_m10, li_h10, li_e15, li_f15, li_l15, li_g15, li_m15, li_h15, li_e16, li_f16, li_l16, li_g16, li_m16, li_h16, li_e20, li_f20, li_l20, li_g20, li_m20, li_h20, li_e40, li_f40, li_l40, li_g40, li_m40, li_h40, li_e100, li_f100, li_l100, li_g100, li_m100, li_h100, li_e128, li_f128, li_l128, li_g128, li_m128, li_h128, li_e150, li_f150, li_l150, li_g150, li_m150, li_h150, li_e255, li_f255, li_l255, li_g255, li_m255, li_h255, li_e400, li_f400, li_l400, li_g400, li_m400, li_h400, li_e410, li_f410, li_l410, li_g410, li_m410, li_h410, li_e420, li_f420, li_l420, li_g420, li_m420, li_h420, li_e2000, li_f2000, li_l2000, li_g2000, li_m2000, li_h2000, li_e8200, li_f8200, li_l8200, li_g8200, li_m8200, li_h8200, li_e1000000, li_f1000000, li_l1000000, li_g1000000, li_m1000000, li_h1000000, li_50, li_50', li_200, li_200', nI_add, li_s1, li_t1, li_c1, li_c2, li_c3, li_c4, li_c5, li_c6, li_c7, li_c8, li_c9, li_c10, li_c11, li_c12, li_c13, li_c14, li_c15, sg_Kat, sg_Pat, pk_us, pk_uLs, true_implies, forall_const, not_true_eq_false, not_false_eq_true, false_implies, and_true, true_and, implies_true, and_self, if_true, if_false, ite_true, ite_false, reduceIte, eq_self, Nat.reduceEqDiff, Nat.reduceLeDiff, Nat.reduceLT, Int32.reduceLT, Int32.reduceLE]
    exact fin _ (Or.inr ⟨a, ha, rfl⟩)
theorem i_vc_branch {k : Nat} {u : SX} {v : SY} (I : i_Rel k u v) (hk : k + 7 ≤ 3584) (v1 : Int32) (v2 : Int32) : wpX_branch (fun r u' => wpY_branch (fun r' v' => r' = r ∧ i_Rel (k + 7) u' v') v v1 v2) u v1 v2 := by
  obtain ⟨x_typeCount, x_byteCount, x_numberCount, x_listCount, x_trouble, x_place, x_valueCount, x_top, x_records, x_writtenCount, x_pairCount, x_kindOf, x_detailOf, x_fallbackOf, x_partCount, x_partName, x_partType, x_partAlias, x_partHas, x_partDefault, x_bytes, x_numbers, x_list, x_valueType, x_valueNumber, x_valueFrom, x_valueAfter, x_frameValue, x_frameType, x_frameStep, x_frameLeft, x_frameStart, x_addsNothing, x_written, x_pairs, x_pairSeen⟩ := u
  obtain ⟨y_types, y_byteCount, y_writtenCount, y_numberCount, y_listCount, y_values, y_depth, y_records, y_at, y_wrong, y_todo, y_kind, y_of, y_parts, y_fallback, y_name, y_part, y_alias, y_given, y_has, y_bytes, y_written, y_numbers, y_list, y_valueType, y_start, y_child, y_last, y_next, y_value, y_open, y_come, y_left, y_todoValue, y_todoType, y_todoDefault, y_pair, y_whole⟩ := v
  have I0 := I
  obtain ⟨g, bc, nc, lc, hg, hX, hY, hbc, hnc, hlc, hbb, hli, rfl, rfl, rfl, rfl, rfl, rfl, rfl, rfl, rfl, rfl, rfl, rfl, rfl, rfl, rfl, rfl⟩ := I
  have hn := hg.1
  rcases sc_no (x := v1) (n := sg_n g) (by omega) with ⟨h, -⟩ | ⟨h, h1, h2⟩ | ⟨t, ht, rfl⟩
  · simp (disch := omega) only [wpX_branch, wpX_takesPart, wpX_isType, wpY_branch, wpY_is, wpY_in, h, forall_eq, nI_leI, nI_ltI, nI_eq, vp_in_nI, nI_clamp, nI_1, li_e0, li_f0, li_l0, li_g0, li_m0, li_h0, li_e1, li_f1, li_l1, li_g1, li_m1, li_h1, li_e2, li_f2, li_l2, li_g2, li_m2, li_h2, li_e3, li_f3, li_l3, li_g3, li_m3, li_h3, li_e4, li_f4, li_l4, li_g4, li_m4, li_h4, li_e5, li_f5, li_l5, li_g5, li_m5, li_h5, li_e6, li_f6, li_l6, li_g6, li_m6, li_h6, li_e7, li_f7, li_l7, li_g7, li_m7, li_h7, li_e8, li_f8, li_l8, li_g8, li_m8, li_h8, li_e9, li_f9, li_l9, li_g9, li_m9, li_h9, li_e10, li_f10, li_l10, li_g10, li_m10, li_h10, li_e15, li_f15, li_l15, li_g15, li_m15, li_h15, li_e16, li_f16, li_l16, li_g16, li_m16, li_h16, li_e20, li_f20, li_l20, li_g20, li_m20, li_h20, li_e40, li_f40, li_l40, li_g40, li_m40, li_h40, li_e100, li_f100, li_l100, li_g100, li_m100, li_h100, li_e128, li_f128, li_l128, li_g128, li_m128, li_h128, li_e150, li_f150, li_l150, li_g150, li_m150, li_h150, li_e255, li_f255, li_l255, li_g255, li_m255, li_h255, li_e400, li_f400, li_l400, li_g400, li_m400, li_h400, li_e410, li_f410, li_l410, li_g410, li_m410, li_h410, li_e420, li_f420, li_l420, li_g420, li_m420, li_h420, li_e2000, li_f2000, li_l2000, li_g2000, li_m2000, li_h2000, li_e8200, li_f8200, li_l8200, li_g8200, li_m8200, li_h8200, li_e1000000, li_f1000000, li_l1000000, li_g1000000, li_m1000000, li_h1000000, li_50, li_50', li_200, li_200', nI_add, li_s1, li_t1, li_c1, li_c2, li_c3, li_c4, li_c5, li_c6, li_c7, li_c8, li_c9, li_c10, li_c11, li_c12, li_c13, li_c14, li_c15, sg_Kat, sg_Pat, pk_us, pk_uLs, true_implies, forall_const, not_true_eq_false, not_false_eq_true, false_implies, and_true, true_and, implies_true, and_self, if_true, if_false, ite_true, ite_false, reduceIte, eq_self, Nat.reduceEqDiff, Nat.reduceLeDiff, Nat.reduceLT, Int32.reduceLT, Int32.reduceLE]
    exact i_up I0
  · have h3 := sc_top (by omega) h h1 h2
    simp (disch := omega) only [wpX_branch, wpX_takesPart, wpX_isType, wpY_branch, wpY_is, wpY_in, h, h1, h3, forall_eq, nI_leI, nI_ltI, nI_eq, vp_in_nI, nI_clamp, nI_1, li_e0, li_f0, li_l0, li_g0, li_m0, li_h0, li_e1, li_f1, li_l1, li_g1, li_m1, li_h1, li_e2, li_f2, li_l2, li_g2, li_m2, li_h2, li_e3, li_f3, li_l3, li_g3, li_m3, li_h3, li_e4, li_f4, li_l4, li_g4, li_m4, li_h4, li_e5, li_f5, li_l5, li_g5, li_m5, li_h5, li_e6, li_f6, li_l6, li_g6, li_m6, li_h6, li_e7, li_f7, li_l7, li_g7, li_m7, li_h7, li_e8, li_f8, li_l8, li_g8, li_m8, li_h8, li_e9, li_f9, li_l9, li_g9, li_m9, li_h9, li_e10, li_f10, li_l10, li_g10, li_m10, li_h10, li_e15, li_f15, li_l15, li_g15, li_m15, li_h15, li_e16, li_f16, li_l16, li_g16, li_m16, li_h16, li_e20, li_f20, li_l20, li_g20, li_m20, li_h20, li_e40, li_f40, li_l40, li_g40, li_m40, li_h40, li_e100, li_f100, li_l100, li_g100, li_m100, li_h100, li_e128, li_f128, li_l128, li_g128, li_m128, li_h128, li_e150, li_f150, li_l150, li_g150, li_m150, li_h150, li_e255, li_f255, li_l255, li_g255, li_m255, li_h255, li_e400, li_f400, li_l400, li_g400, li_m400, li_h400, li_e410, li_f410, li_l410, li_g410, li_m410, li_h410, li_e420, li_f420, li_l420, li_g420, li_m420, li_h420, li_e2000, li_f2000, li_l2000, li_g2000, li_m2000, li_h2000, li_e8200, li_f8200, li_l8200, li_g8200, li_m8200, li_h8200, li_e1000000, li_f1000000, li_l1000000, li_g1000000, li_m1000000, li_h1000000, li_50, li_50', li_200, li_200', nI_add, li_s1, li_t1, li_c1, li_c2, li_c3, li_c4, li_c5, li_c6, li_c7, li_c8, li_c9, li_c10, li_c11, li_c12, li_c13, li_c14, li_c15, sg_Kat, sg_Pat, pk_us, pk_uLs, true_implies, forall_const, not_true_eq_false, not_false_eq_true, false_implies, and_true, true_and, implies_true, and_self, if_true, if_false, ite_true, ite_false, reduceIte, eq_self, Nat.reduceEqDiff, Nat.reduceLeDiff, Nat.reduceLT, Int32.reduceLT, Int32.reduceLE]
    exact i_up I0
  have q1 : ¬ sg_n g ≤ t := by omega
  have q2 : ¬ sg_n g - 1 < t := by omega
  have k9 := hg.2.1 t
  have p5 := hg.2.2.1 t
  by_cases h8 : ¬ sg_k g t = 8
  · simp (disch := omega) only [wpX_branch, wpX_takesPart, wpX_isType, wpY_branch, wpY_is, wpY_in, q1, q2, h8, Nat.not_lt_zero, forall_eq, nI_leI, nI_ltI, nI_eq, vp_in_nI, nI_clamp, nI_1, li_e0, li_f0, li_l0, li_g0, li_m0, li_h0, li_e1, li_f1, li_l1, li_g1, li_m1, li_h1, li_e2, li_f2, li_l2, li_g2, li_m2, li_h2, li_e3, li_f3, li_l3, li_g3, li_m3, li_h3, li_e4, li_f4, li_l4, li_g4, li_m4, li_h4, li_e5, li_f5, li_l5, li_g5, li_m5, li_h5, li_e6, li_f6, li_l6, li_g6, li_m6, li_h6, li_e7, li_f7, li_l7, li_g7, li_m7, li_h7, li_e8, li_f8, li_l8, li_g8, li_m8, li_h8, li_e9, li_f9, li_l9, li_g9, li_m9, li_h9, li_e10, li_f10, li_l10, li_g10, li_m10, li_h10, li_e15, li_f15, li_l15, li_g15, li_m15, li_h15, li_e16, li_f16, li_l16, li_g16, li_m16, li_h16, li_e20, li_f20, li_l20, li_g20, li_m20, li_h20, li_e40, li_f40, li_l40, li_g40, li_m40, li_h40, li_e100, li_f100, li_l100, li_g100, li_m100, li_h100, li_e128, li_f128, li_l128, li_g128, li_m128, li_h128, li_e150, li_f150, li_l150, li_g150, li_m150, li_h150, li_e255, li_f255, li_l255, li_g255, li_m255, li_h255, li_e400, li_f400, li_l400, li_g400, li_m400, li_h400, li_e410, li_f410, li_l410, li_g410, li_m410, li_h410, li_e420, li_f420, li_l420, li_g420, li_m420, li_h420, li_e2000, li_f2000, li_l2000, li_g2000, li_m2000, li_h2000, li_e8200, li_f8200, li_l8200, li_g8200, li_m8200, li_h8200, li_e1000000, li_f1000000, li_l1000000, li_g1000000, li_m1000000, li_h1000000, li_50, li_50', li_200, li_200', nI_add, li_s1, li_t1, li_c1, li_c2, li_c3, li_c4, li_c5, li_c6, li_c7, li_c8, li_c9, li_c10, li_c11, li_c12, li_c13, li_c14, li_c15, sg_Kat, sg_Pat, pk_us, pk_uLs, true_implies, forall_const, not_true_eq_false, not_false_eq_true, false_implies, and_true, true_and, implies_true, and_self, if_true, if_false, ite_true, ite_false, reduceIte, eq_self, Nat.reduceEqDiff, Nat.reduceLeDiff, Nat.reduceLT, Int32.reduceLT, Int32.reduceLE]
    exact i_up I0
  have h8 : sg_k g t = 8 := by omega
  by_cases hp : sg_p g t = 5
  · simp (disch := omega) only [wpX_branch, wpX_takesPart, wpX_isType, wpY_branch, wpY_is, wpY_in, q1, q2, h8, hp, Nat.not_lt_zero, forall_eq, nI_leI, nI_ltI, nI_eq, vp_in_nI, nI_clamp, nI_1, li_e0, li_f0, li_l0, li_g0, li_m0, li_h0, li_e1, li_f1, li_l1, li_g1, li_m1, li_h1, li_e2, li_f2, li_l2, li_g2, li_m2, li_h2, li_e3, li_f3, li_l3, li_g3, li_m3, li_h3, li_e4, li_f4, li_l4, li_g4, li_m4, li_h4, li_e5, li_f5, li_l5, li_g5, li_m5, li_h5, li_e6, li_f6, li_l6, li_g6, li_m6, li_h6, li_e7, li_f7, li_l7, li_g7, li_m7, li_h7, li_e8, li_f8, li_l8, li_g8, li_m8, li_h8, li_e9, li_f9, li_l9, li_g9, li_m9, li_h9, li_e10, li_f10, li_l10, li_g10, li_m10, li_h10, li_e15, li_f15, li_l15, li_g15, li_m15, li_h15, li_e16, li_f16, li_l16, li_g16, li_m16, li_h16, li_e20, li_f20, li_l20, li_g20, li_m20, li_h20, li_e40, li_f40, li_l40, li_g40, li_m40, li_h40, li_e100, li_f100, li_l100, li_g100, li_m100, li_h100, li_e128, li_f128, li_l128, li_g128, li_m128, li_h128, li_e150, li_f150, li_l150, li_g150, li_m150, li_h150, li_e255, li_f255, li_l255, li_g255, li_m255, li_h255, li_e400, li_f400, li_l400, li_g400, li_m400, li_h400, li_e410, li_f410, li_l410, li_g410, li_m410, li_h410, li_e420, li_f420, li_l420, li_g420, li_m420, li_h420, li_e2000, li_f2000, li_l2000, li_g2000, li_m2000, li_h2000, li_e8200, li_f8200, li_l8200, li_g8200, li_m8200, li_h8200, li_e1000000, li_f1000000, li_l1000000, li_g1000000, li_m1000000, li_h1000000, li_50, li_50', li_200, li_200', nI_add, li_s1, li_t1, li_c1, li_c2, li_c3, li_c4, li_c5, li_c6, li_c7, li_c8, li_c9, li_c10, li_c11, li_c12, li_c13, li_c14, li_c15, sg_Kat, sg_Pat, pk_us, pk_uLs, true_implies, forall_const, not_true_eq_false, not_false_eq_true, false_implies, and_true, true_and, implies_true, and_self, if_true, if_false, ite_true, ite_false, reduceIte, eq_self, Nat.reduceEqDiff, Nat.reduceLeDiff, Nat.reduceLT, Int32.reduceLT, Int32.reduceLE]
    exact i_up I0
  have hp1 : ¬ 5 ≤ sg_p g t := by omega
  rcases sc_no (x := v2) (n := sg_n g) (by omega) with ⟨h, -⟩ | ⟨h, h1, h2⟩ | ⟨w, hw, rfl⟩
  · simp (disch := omega) only [wpX_branch, wpX_takesPart, wpX_isType, wpY_branch, wpY_is, wpY_in, q1, q2, h8, hp, hp1, h, Nat.not_lt_zero, forall_eq, nI_leI, nI_ltI, nI_eq, vp_in_nI, nI_clamp, nI_1, li_e0, li_f0, li_l0, li_g0, li_m0, li_h0, li_e1, li_f1, li_l1, li_g1, li_m1, li_h1, li_e2, li_f2, li_l2, li_g2, li_m2, li_h2, li_e3, li_f3, li_l3, li_g3, li_m3, li_h3, li_e4, li_f4, li_l4, li_g4, li_m4, li_h4, li_e5, li_f5, li_l5, li_g5, li_m5, li_h5, li_e6, li_f6, li_l6, li_g6, li_m6, li_h6, li_e7, li_f7, li_l7, li_g7, li_m7, li_h7, li_e8, li_f8, li_l8, li_g8, li_m8, li_h8, li_e9, li_f9, li_l9, li_g9, li_m9, li_h9, li_e10, li_f10, li_l10, li_g10, li_m10, li_h10, li_e15, li_f15, li_l15, li_g15, li_m15, li_h15, li_e16, li_f16, li_l16, li_g16, li_m16, li_h16, li_e20, li_f20, li_l20, li_g20, li_m20, li_h20, li_e40, li_f40, li_l40, li_g40, li_m40, li_h40, li_e100, li_f100, li_l100, li_g100, li_m100, li_h100, li_e128, li_f128, li_l128, li_g128, li_m128, li_h128, li_e150, li_f150, li_l150, li_g150, li_m150, li_h150, li_e255, li_f255, li_l255, li_g255, li_m255, li_h255, li_e400, li_f400, li_l400, li_g400, li_m400, li_h400, li_e410, li_f410, li_l410, li_g410, li_m410, li_h410, li_e420, li_f420, li_l420, li_g420, li_m420, li_h420, li_e2000, li_f2000, li_l2000, li_g2000, li_m2000, li_h2000, li_e8200, li_f8200, li_l8200, li_g8200, li_m8200, li_h8200, li_e1000000, li_f1000000, li_l1000000, li_g1000000, li_m1000000, li_h1000000, li_50, li_50', li_200, li_200', nI_add, li_s1, li_t1, li_c1, li_c2, li_c3, li_c4, li_c5, li_c6, li_c7, li_c8, li_c9, li_c10, li_c11, li_c12, li_c13, li_c14, li_c15, sg_Kat, sg_Pat, pk_us, pk_uLs, true_implies, forall_const, not_true_eq_false, not_false_eq_true, false_implies, and_true, true_and, implies_true, and_self, if_true, if_false, ite_true, ite_false, reduceIte, eq_self, Nat.reduceEqDiff, Nat.reduceLeDiff, Nat.reduceLT, Int32.reduceLT, Int32.reduceLE]
    exact i_up I0
  · have h3 := sc_top (by omega) h h1 h2
    have h3' := h3
    rw [li_s1 (by omega)] at h3'
    simp (disch := omega) only [wpX_branch, wpX_takesPart, wpX_isType, wpY_branch, wpY_is, wpY_in, q1, q2, h8, hp, hp1, h, h1, h3, h3', Nat.not_lt_zero, forall_eq, nI_leI, nI_ltI, nI_eq, vp_in_nI, nI_clamp, nI_1, li_e0, li_f0, li_l0, li_g0, li_m0, li_h0, li_e1, li_f1, li_l1, li_g1, li_m1, li_h1, li_e2, li_f2, li_l2, li_g2, li_m2, li_h2, li_e3, li_f3, li_l3, li_g3, li_m3, li_h3, li_e4, li_f4, li_l4, li_g4, li_m4, li_h4, li_e5, li_f5, li_l5, li_g5, li_m5, li_h5, li_e6, li_f6, li_l6, li_g6, li_m6, li_h6, li_e7, li_f7, li_l7, li_g7, li_m7, li_h7, li_e8, li_f8, li_l8, li_g8, li_m8, li_h8, li_e9, li_f9, li_l9, li_g9, li_m9, li_h9, li_e10, li_f10, li_l10, li_g10, li_m10, li_h10, li_e15, li_f15, li_l15, li_g15, li_m15, li_h15, li_e16, li_f16, li_l16, li_g16, li_m16, li_h16, li_e20, li_f20, li_l20, li_g20, li_m20, li_h20, li_e40, li_f40, li_l40, li_g40, li_m40, li_h40, li_e100, li_f100, li_l100, li_g100, li_m100, li_h100, li_e128, li_f128, li_l128, li_g128, li_m128, li_h128, li_e150, li_f150, li_l150, li_g150, li_m150, li_h150, li_e255, li_f255, li_l255, li_g255, li_m255, li_h255, li_e400, li_f400, li_l400, li_g400, li_m400, li_h400, li_e410, li_f410, li_l410, li_g410, li_m410, li_h410, li_e420, li_f420, li_l420, li_g420, li_m420, li_h420, li_e2000, li_f2000, li_l2000, li_g2000, li_m2000, li_h2000, li_e8200, li_f8200, li_l8200, li_g8200, li_m8200, li_h8200, li_e1000000, li_f1000000, li_l1000000, li_g1000000, li_m1000000, li_h1000000, li_50, li_50', li_200, li_200', nI_add, li_s1, li_t1, li_c1, li_c2, li_c3, li_c4, li_c5, li_c6, li_c7, li_c8, li_c9, li_c10, li_c11, li_c12, li_c13, li_c14, li_c15, sg_Kat, sg_Pat, pk_us, pk_uLs, true_implies, forall_const, not_true_eq_false, not_false_eq_true, false_implies, and_true, true_and, implies_true, and_self, if_true, if_false, ite_true, ite_false, reduceIte, eq_self, Nat.reduceEqDiff, Nat.reduceLeDiff, Nat.reduceLT, Int32.reduceLT, Int32.reduceLE]
    exact i_up I0
  have w1 : ¬ sg_n g ≤ w := by omega
  have w2 : ¬ sg_n g - 1 < w := by omega
  have kw := hg.2.1 w
  by_cases hw8 : sg_k g w = 8
  · simp (disch := omega) only [wpX_branch, wpX_takesPart, wpX_isType, wpY_branch, wpY_is, wpY_in, q1, q2, h8, hp, hp1, w1, w2, hw8, Nat.not_lt_zero, forall_eq, nI_leI, nI_ltI, nI_eq, vp_in_nI, nI_clamp, nI_1, li_e0, li_f0, li_l0, li_g0, li_m0, li_h0, li_e1, li_f1, li_l1, li_g1, li_m1, li_h1, li_e2, li_f2, li_l2, li_g2, li_m2, li_h2, li_e3, li_f3, li_l3, li_g3, li_m3, li_h3, li_e4, li_f4, li_l4, li_g4, li_m4, li_h4, li_e5, li_f5, li_l5, li_g5, li_m5, li_h5, li_e6, li_f6, li_l6, li_g6, li_m6, li_h6, li_e7, li_f7, li_l7, li_g7, li_m7, li_h7, li_e8, li_f8, li_l8, li_g8, li_m8, li_h8, li_e9, li_f9, li_l9, li_g9, li_m9, li_h9, li_e10, li_f10, li_l10, li_g10, li_m10, li_h10, li_e15, li_f15, li_l15, li_g15, li_m15, li_h15, li_e16, li_f16, li_l16, li_g16, li_m16, li_h16, li_e20, li_f20, li_l20, li_g20, li_m20, li_h20, li_e40, li_f40, li_l40, li_g40, li_m40, li_h40, li_e100, li_f100, li_l100, li_g100, li_m100, li_h100, li_e128, li_f128, li_l128, li_g128, li_m128, li_h128, li_e150, li_f150, li_l150, li_g150, li_m150, li_h150, li_e255, li_f255, li_l255, li_g255, li_m255, li_h255, li_e400, li_f400, li_l400, li_g400, li_m400, li_h400, li_e410, li_f410, li_l410, li_g410, li_m410, li_h410, li_e420, li_f420, li_l420, li_g420, li_m420, li_h420, li_e2000, li_f2000, li_l2000, li_g2000, li_m2000, li_h2000, li_e8200, li_f8200, li_l8200, li_g8200, li_m8200, li_h8200, li_e1000000, li_f1000000, li_l1000000, li_g1000000, li_m1000000, li_h1000000, li_50, li_50', li_200, li_200', nI_add, li_s1, li_t1, li_c1, li_c2, li_c3, li_c4, li_c5, li_c6, li_c7, li_c8, li_c9, li_c10, li_c11, li_c12, li_c13, li_c14, li_c15, sg_Kat, sg_Pat, pk_us, pk_uLs, true_implies, forall_const, not_true_eq_false, not_false_eq_true, false_implies, and_true, true_and, implies_true, and_self, if_true, if_false, ite_true, ite_false, reduceIte, eq_self, Nat.reduceEqDiff, Nat.reduceLeDiff, Nat.reduceLT, Int32.reduceLT, Int32.reduceLE]
    exact i_up I0
  simp (disch := omega) only [wpX_branch, wpX_takesPart, wpX_isType, wpX_addPart, wpY_branch, wpY_is, wpY_in, q1, q2, h8, hp, hp1, w1, w2, hw8, Nat.not_lt_zero, sc_b0, forall_eq, nI_leI, nI_ltI, nI_eq, vp_in_nI, nI_clamp, nI_1, li_e0, li_f0, li_l0, li_g0, li_m0, li_h0, li_e1, li_f1, li_l1, li_g1, li_m1, li_h1, li_e2, li_f2, li_l2, li_g2, li_m2, li_h2, li_e3, li_f3, li_l3, li_g3, li_m3, li_h3, li_e4, li_f4, li_l4, li_g4, li_m4, li_h4, li_e5, li_f5, li_l5, li_g5, li_m5, li_h5, li_e6, li_f6, li_l6, li_g6, li_m6, li_h6, li_e7, li_f7, li_l7, li_g7, li_m7, li_h7, li_e8, li_f8, li_l8, li_g8, li_m8, li_h8, li_e9, li_f9, li_l9, li_g9, li_m9, li_h9, li_e10, li_f10, li_l10, li_g10, li_m10, li_h10, li_e15, li_f15, li_l15, li_g15, li_m15, li_h15, li_e16, li_f16, li_l16, li_g16, li_m16, li_h16, li_e20, li_f20, li_l20, li_g20, li_m20, li_h20, li_e40, li_f40, li_l40, li_g40, li_m40, li_h40, li_e100, li_f100, li_l100, li_g100, li_m100, li_h100, li_e128, li_f128, li_l128, li_g128, li_m128, li_h128, li_e150, li_f150, li_l150, li_g150, li_m150, li_h150, li_e255, li_f255, li_l255, li_g255, li_m255, li_h255, li_e400, li_f400, li_l400, li_g400, li_m400, li_h400, li_e410, li_f410, li_l410, li_g410, li_m410, li_h410, li_e420, li_f420, li_l420, li_g420, li_m420, li_h420, li_e2000, li_f2000, li_l2000, li_g2000, li_m2000, li_h2000, li_e8200, li_f8200, li_l8200, li_g8200, li_m8200, li_h8200, li_e1000000, li_f1000000, li_l1000000, li_g1000000, li_m1000000, li_h1000000, li_50, li_50', li_200, li_200', nI_add, li_s1, li_t1, li_c1, li_c2, li_c3, li_c4, li_c5, li_c6, li_c7, li_c8, li_c9, li_c10, li_c11, li_c12, li_c13, li_c14, li_c15, sg_Kat, sg_Pat, pk_us, pk_uLs, true_implies, forall_const, not_true_eq_false, not_false_eq_true, false_implies, and_true, true_and, implies_true, and_self, if_true, if_false, ite_true, ite_false, reduceIte, eq_self, Nat.reduceEqDiff, Nat.reduceLeDiff, Nat.reduceLT, Int32.reduceLT, Int32.reduceLE]
  exact sr_add (nm := 0) (u := w) (al := -1) (ha := 0) (v := 0) hg hX hY hbc hnc hlc hbb hli ht (by omega) (Or.inr (Or.inl h8)) (fun z => absurd h8 z) (fun _ => hw) (fun _ => hw8) (fun z => by omega) (Or.inl rfl)
    (fun z => absurd h8 z) (fun _ => rfl) (fun _ => rfl) (fun z => by omega) (fun _ => ⟨rfl, rfl⟩)
    (fun j h => rfl) (fun j h => pk_un h) (fun j h => rfl) (fun j h => rfl) (fun j h => rfl) (fun z => absurd h8 z) (fun _ => pk_us) (fun z => by omega) hY.2.2.2.2
theorem i_vc_field {k : Nat} {u : SX} {v : SY} (I : i_Rel k u v) (hk : k + 7 ≤ 3584) (v1 : Int32) (v2 : Int32) (v3 : Int32) (v4 : Int32) (v5 : Int32) (v6 : Int32) : wpX_field (fun r u' => wpY_field (fun r' v' => r' = r ∧ i_Rel (k + 7) u' v') v v1 v2 v3 v4 (lw_bz v5) v6) u v1 v2 v3 v4 (lw_bz v5) v6 := by
  obtain ⟨x_typeCount, x_byteCount, x_numberCount, x_listCount, x_trouble, x_place, x_valueCount, x_top, x_records, x_writtenCount, x_pairCount, x_kindOf, x_detailOf, x_fallbackOf, x_partCount, x_partName, x_partType, x_partAlias, x_partHas, x_partDefault, x_bytes, x_numbers, x_list, x_valueType, x_valueNumber, x_valueFrom, x_valueAfter, x_frameValue, x_frameType, x_frameStep, x_frameLeft, x_frameStart, x_addsNothing, x_written, x_pairs, x_pairSeen⟩ := u
  obtain ⟨y_types, y_byteCount, y_writtenCount, y_numberCount, y_listCount, y_values, y_depth, y_records, y_at, y_wrong, y_todo, y_kind, y_of, y_parts, y_fallback, y_name, y_part, y_alias, y_given, y_has, y_bytes, y_written, y_numbers, y_list, y_valueType, y_start, y_child, y_last, y_next, y_value, y_open, y_come, y_left, y_todoValue, y_todoType, y_todoDefault, y_pair, y_whole⟩ := v
  have I0 := I
  obtain ⟨g, bc, nc, lc, hg, hX, hY, hbc, hnc, hlc, hbb, hli, rfl, rfl, rfl, rfl, rfl, rfl, rfl, rfl, rfl, rfl, rfl, rfl, rfl, rfl, rfl, rfl⟩ := I
  have hn := hg.1
  have hbz := lw_bz_01 v5
  generalize lw_bz v5 = b at *
  rcases sc_no (x := v1) (n := sg_n g) (by omega) with ⟨h, -⟩ | ⟨h, h1, h2⟩ | ⟨t, ht, rfl⟩
  · simp (disch := omega) only [wpX_field, wpX_takesPart, wpX_isType, wpY_field, wpY_is, wpY_in, h, forall_eq, nI_leI, nI_ltI, nI_eq, vp_in_nI, nI_clamp, nI_1, li_e0, li_f0, li_l0, li_g0, li_m0, li_h0, li_e1, li_f1, li_l1, li_g1, li_m1, li_h1, li_e2, li_f2, li_l2, li_g2, li_m2, li_h2, li_e3, li_f3, li_l3, li_g3, li_m3, li_h3, li_e4, li_f4, li_l4, li_g4, li_m4, li_h4, li_e5, li_f5, li_l5, li_g5, li_m5, li_h5, li_e6, li_f6, li_l6, li_g6, li_m6, li_h6, li_e7, li_f7, li_l7, li_g7, li_m7, li_h7, li_e8, li_f8, li_l8, li_g8, li_m8, li_h8, li_e9, li_f9, li_l9, li_g9, li_m9, li_h9, li_e10, li_f10, li_l10, li_g10, li_m10, li_h10, li_e15, li_f15, li_l15, li_g15, li_m15, li_h15, li_e16, li_f16, li_l16, li_g16, li_m16, li_h16, li_e20, li_f20, li_l20, li_g20, li_m20, li_h20, li_e40, li_f40, li_l40, li_g40, li_m40, li_h40, li_e100, li_f100, li_l100, li_g100, li_m100, li_h100, li_e128, li_f128, li_l128, li_g128, li_m128, li_h128, li_e150, li_f150, li_l150, li_g150, li_m150, li_h150, li_e255, li_f255, li_l255, li_g255, li_m255, li_h255, li_e400, li_f400, li_l400, li_g400, li_m400, li_h400, li_e410, li_f410, li_l410, li_g410, li_m410, li_h410, li_e420, li_f420, li_l420, li_g420, li_m420, li_h420, li_e2000, li_f2000, li_l2000, li_g2000, li_m2000, li_h2000, li_e8200, li_f8200, li_l8200, li_g8200, li_m8200, li_h8200, li_e1000000, li_f1000000, li_l1000000, li_g1000000, li_m1000000, li_h1000000, li_50, li_50', li_200, li_200', nI_add, li_s1, li_t1, li_c1, li_c2, li_c3, li_c4, li_c5, li_c6, li_c7, li_c8, li_c9, li_c10, li_c11, li_c12, li_c13, li_c14, li_c15, sg_Kat, sg_Pat, pk_us, pk_uLs, true_implies, forall_const, not_true_eq_false, not_false_eq_true, false_implies, and_true, true_and, implies_true, and_self, if_true, if_false, ite_true, ite_false, reduceIte, eq_self, Nat.reduceEqDiff, Nat.reduceLeDiff, Nat.reduceLT, Int32.reduceLT, Int32.reduceLE]
    exact i_up I0
  · have h3 := sc_top (by omega) h h1 h2
    simp (disch := omega) only [wpX_field, wpX_takesPart, wpX_isType, wpY_field, wpY_is, wpY_in, h, h1, h3, forall_eq, nI_leI, nI_ltI, nI_eq, vp_in_nI, nI_clamp, nI_1, li_e0, li_f0, li_l0, li_g0, li_m0, li_h0, li_e1, li_f1, li_l1, li_g1, li_m1, li_h1, li_e2, li_f2, li_l2, li_g2, li_m2, li_h2, li_e3, li_f3, li_l3, li_g3, li_m3, li_h3, li_e4, li_f4, li_l4, li_g4, li_m4, li_h4, li_e5, li_f5, li_l5, li_g5, li_m5, li_h5, li_e6, li_f6, li_l6, li_g6, li_m6, li_h6, li_e7, li_f7, li_l7, li_g7, li_m7, li_h7, li_e8, li_f8, li_l8, li_g8, li_m8, li_h8, li_e9, li_f9, li_l9, li_g9, li_m9, li_h9, li_e10, li_f10, li_l10, li_g10, li_m10, li_h10, li_e15, li_f15, li_l15, li_g15, li_m15, li_h15, li_e16, li_f16, li_l16, li_g16, li_m16, li_h16, li_e20, li_f20, li_l20, li_g20, li_m20, li_h20, li_e40, li_f40, li_l40, li_g40, li_m40, li_h40, li_e100, li_f100, li_l100, li_g100, li_m100, li_h100, li_e128, li_f128, li_l128, li_g128, li_m128, li_h128, li_e150, li_f150, li_l150, li_g150, li_m150, li_h150, li_e255, li_f255, li_l255, li_g255, li_m255, li_h255, li_e400, li_f400, li_l400, li_g400, li_m400, li_h400, li_e410, li_f410, li_l410, li_g410, li_m410, li_h410, li_e420, li_f420, li_l420, li_g420, li_m420, li_h420, li_e2000, li_f2000, li_l2000, li_g2000, li_m2000, li_h2000, li_e8200, li_f8200, li_l8200, li_g8200, li_m8200, li_h8200, li_e1000000, li_f1000000, li_l1000000, li_g1000000, li_m1000000, li_h1000000, li_50, li_50', li_200, li_200', nI_add, li_s1, li_t1, li_c1, li_c2, li_c3, li_c4, li_c5, li_c6, li_c7, li_c8, li_c9, li_c10, li_c11, li_c12, li_c13, li_c14, li_c15, sg_Kat, sg_Pat, pk_us, pk_uLs, true_implies, forall_const, not_true_eq_false, not_false_eq_true, false_implies, and_true, true_and, implies_true, and_self, if_true, if_false, ite_true, ite_false, reduceIte, eq_self, Nat.reduceEqDiff, Nat.reduceLeDiff, Nat.reduceLT, Int32.reduceLT, Int32.reduceLE]
    exact i_up I0
  have q1 : ¬ sg_n g ≤ t := by omega
  have q2 : ¬ sg_n g - 1 < t := by omega
  have k9 := hg.2.1 t
  have p5 := hg.2.2.1 t
  by_cases h9 : ¬ sg_k g t = 9
  · simp (disch := omega) only [wpX_field, wpX_takesPart, wpX_isType, wpY_field, wpY_is, wpY_in, q1, q2, h9, Nat.not_lt_zero, forall_eq, nI_leI, nI_ltI, nI_eq, vp_in_nI, nI_clamp, nI_1, li_e0, li_f0, li_l0, li_g0, li_m0, li_h0, li_e1, li_f1, li_l1, li_g1, li_m1, li_h1, li_e2, li_f2, li_l2, li_g2, li_m2, li_h2, li_e3, li_f3, li_l3, li_g3, li_m3, li_h3, li_e4, li_f4, li_l4, li_g4, li_m4, li_h4, li_e5, li_f5, li_l5, li_g5, li_m5, li_h5, li_e6, li_f6, li_l6, li_g6, li_m6, li_h6, li_e7, li_f7, li_l7, li_g7, li_m7, li_h7, li_e8, li_f8, li_l8, li_g8, li_m8, li_h8, li_e9, li_f9, li_l9, li_g9, li_m9, li_h9, li_e10, li_f10, li_l10, li_g10, li_m10, li_h10, li_e15, li_f15, li_l15, li_g15, li_m15, li_h15, li_e16, li_f16, li_l16, li_g16, li_m16, li_h16, li_e20, li_f20, li_l20, li_g20, li_m20, li_h20, li_e40, li_f40, li_l40, li_g40, li_m40, li_h40, li_e100, li_f100, li_l100, li_g100, li_m100, li_h100, li_e128, li_f128, li_l128, li_g128, li_m128, li_h128, li_e150, li_f150, li_l150, li_g150, li_m150, li_h150, li_e255, li_f255, li_l255, li_g255, li_m255, li_h255, li_e400, li_f400, li_l400, li_g400, li_m400, li_h400, li_e410, li_f410, li_l410, li_g410, li_m410, li_h410, li_e420, li_f420, li_l420, li_g420, li_m420, li_h420, li_e2000, li_f2000, li_l2000, li_g2000, li_m2000, li_h2000, li_e8200, li_f8200, li_l8200, li_g8200, li_m8200, li_h8200, li_e1000000, li_f1000000, li_l1000000, li_g1000000, li_m1000000, li_h1000000, li_50, li_50', li_200, li_200', nI_add, li_s1, li_t1, li_c1, li_c2, li_c3, li_c4, li_c5, li_c6, li_c7, li_c8, li_c9, li_c10, li_c11, li_c12, li_c13, li_c14, li_c15, sg_Kat, sg_Pat, pk_us, pk_uLs, true_implies, forall_const, not_true_eq_false, not_false_eq_true, false_implies, and_true, true_and, implies_true, and_self, if_true, if_false, ite_true, ite_false, reduceIte, eq_self, Nat.reduceEqDiff, Nat.reduceLeDiff, Nat.reduceLT, Int32.reduceLT, Int32.reduceLE]
    exact i_up I0
  have h9 : sg_k g t = 9 := by omega
  by_cases hp : sg_p g t = 5
  · simp (disch := omega) only [wpX_field, wpX_takesPart, wpX_isType, wpY_field, wpY_is, wpY_in, q1, q2, h9, hp, Nat.not_lt_zero, forall_eq, nI_leI, nI_ltI, nI_eq, vp_in_nI, nI_clamp, nI_1, li_e0, li_f0, li_l0, li_g0, li_m0, li_h0, li_e1, li_f1, li_l1, li_g1, li_m1, li_h1, li_e2, li_f2, li_l2, li_g2, li_m2, li_h2, li_e3, li_f3, li_l3, li_g3, li_m3, li_h3, li_e4, li_f4, li_l4, li_g4, li_m4, li_h4, li_e5, li_f5, li_l5, li_g5, li_m5, li_h5, li_e6, li_f6, li_l6, li_g6, li_m6, li_h6, li_e7, li_f7, li_l7, li_g7, li_m7, li_h7, li_e8, li_f8, li_l8, li_g8, li_m8, li_h8, li_e9, li_f9, li_l9, li_g9, li_m9, li_h9, li_e10, li_f10, li_l10, li_g10, li_m10, li_h10, li_e15, li_f15, li_l15, li_g15, li_m15, li_h15, li_e16, li_f16, li_l16, li_g16, li_m16, li_h16, li_e20, li_f20, li_l20, li_g20, li_m20, li_h20, li_e40, li_f40, li_l40, li_g40, li_m40, li_h40, li_e100, li_f100, li_l100, li_g100, li_m100, li_h100, li_e128, li_f128, li_l128, li_g128, li_m128, li_h128, li_e150, li_f150, li_l150, li_g150, li_m150, li_h150, li_e255, li_f255, li_l255, li_g255, li_m255, li_h255, li_e400, li_f400, li_l400, li_g400, li_m400, li_h400, li_e410, li_f410, li_l410, li_g410, li_m410, li_h410, li_e420, li_f420, li_l420, li_g420, li_m420, li_h420, li_e2000, li_f2000, li_l2000, li_g2000, li_m2000, li_h2000, li_e8200, li_f8200, li_l8200, li_g8200, li_m8200, li_h8200, li_e1000000, li_f1000000, li_l1000000, li_g1000000, li_m1000000, li_h1000000, li_50, li_50', li_200, li_200', nI_add, li_s1, li_t1, li_c1, li_c2, li_c3, li_c4, li_c5, li_c6, li_c7, li_c8, li_c9, li_c10, li_c11, li_c12, li_c13, li_c14, li_c15, sg_Kat, sg_Pat, pk_us, pk_uLs, true_implies, forall_const, not_true_eq_false, not_false_eq_true, false_implies, and_true, true_and, implies_true, and_self, if_true, if_false, ite_true, ite_false, reduceIte, eq_self, Nat.reduceEqDiff, Nat.reduceLeDiff, Nat.reduceLT, Int32.reduceLT, Int32.reduceLE]
    exact i_up I0
  have hp1 : ¬ 5 ≤ sg_p g t := by omega
  rcases sc_no (x := v3) (n := sg_n g) (by omega) with ⟨h, -⟩ | ⟨h, h1, h2⟩ | ⟨w, hw, rfl⟩
  · simp (disch := omega) only [wpX_field, wpX_takesPart, wpX_isType, wpX_isName, wX_field_45, wpY_field, wpY_is, wpY_in, q1, q2, h9, hp, hp1, Nat.not_lt_zero, h, forall_eq, nI_leI, nI_ltI, nI_eq, vp_in_nI, nI_clamp, nI_1, li_e0, li_f0, li_l0, li_g0, li_m0, li_h0, li_e1, li_f1, li_l1, li_g1, li_m1, li_h1, li_e2, li_f2, li_l2, li_g2, li_m2, li_h2, li_e3, li_f3, li_l3, li_g3, li_m3, li_h3, li_e4, li_f4, li_l4, li_g4, li_m4, li_h4, li_e5, li_f5, li_l5, li_g5, li_m5, li_h5, li_e6, li_f6, li_l6, li_g6, li_m6, li_h6, li_e7, li_f7, li_l7, li_g7, li_m7, li_h7, li_e8, li_f8, li_l8, li_g8, li_m8, li_h8, li_e9, li_f9, li_l9, li_g9, li_m9, li_h9, li_e10, li_f10, li_l10, li_g10, li_m10, li_h10, li_e15, li_f15, li_l15, li_g15, li_m15, li_h15, li_e16, li_f16, li_l16, li_g16, li_m16, li_h16, li_e20, li_f20, li_l20, li_g20, li_m20, li_h20, li_e40, li_f40, li_l40, li_g40, li_m40, li_h40, li_e100, li_f100, li_l100, li_g100, li_m100, li_h100, li_e128, li_f128, li_l128, li_g128, li_m128, li_h128, li_e150, li_f150, li_l150, li_g150, li_m150, li_h150, li_e255, li_f255, li_l255, li_g255, li_m255, li_h255, li_e400, li_f400, li_l400, li_g400, li_m400, li_h400, li_e410, li_f410, li_l410, li_g410, li_m410, li_h410, li_e420, li_f420, li_l420, li_g420, li_m420, li_h420, li_e2000, li_f2000, li_l2000, li_g2000, li_m2000, li_h2000, li_e8200, li_f8200, li_l8200, li_g8200, li_m8200, li_h8200, li_e1000000, li_f1000000, li_l1000000, li_g1000000, li_m1000000, li_h1000000, li_50, li_50', li_200, li_200', nI_add, li_s1, li_t1, li_c1, li_c2, li_c3, li_c4, li_c5, li_c6, li_c7, li_c8, li_c9, li_c10, li_c11, li_c12, li_c13, li_c14, li_c15, sg_Kat, sg_Pat, pk_us, pk_uLs, true_implies, forall_const, not_true_eq_false, not_false_eq_true, false_implies, and_true, true_and, implies_true, and_self, if_true, if_false, ite_true, ite_false, reduceIte, eq_self, Nat.reduceEqDiff, Nat.reduceLeDiff, Nat.reduceLT, Int32.reduceLT, Int32.reduceLE]
    exact i_up I0
  · have h3 := sc_top (by omega) h h1 h2
    have h3' := h3
    rw [li_s1 (by omega)] at h3'
    simp (disch := omega) only [wpX_field, wpX_takesPart, wpX_isType, wpX_isName, wX_field_45, wpY_field, wpY_is, wpY_in, q1, q2, h9, hp, hp1, Nat.not_lt_zero, h, h1, h3, h3', forall_eq, nI_leI, nI_ltI, nI_eq, vp_in_nI, nI_clamp, nI_1, li_e0, li_f0, li_l0, li_g0, li_m0, li_h0, li_e1, li_f1, li_l1, li_g1, li_m1, li_h1, li_e2, li_f2, li_l2, li_g2, li_m2, li_h2, li_e3, li_f3, li_l3, li_g3, li_m3, li_h3, li_e4, li_f4, li_l4, li_g4, li_m4, li_h4, li_e5, li_f5, li_l5, li_g5, li_m5, li_h5, li_e6, li_f6, li_l6, li_g6, li_m6, li_h6, li_e7, li_f7, li_l7, li_g7, li_m7, li_h7, li_e8, li_f8, li_l8, li_g8, li_m8, li_h8, li_e9, li_f9, li_l9, li_g9, li_m9, li_h9, li_e10, li_f10, li_l10, li_g10, li_m10, li_h10, li_e15, li_f15, li_l15, li_g15, li_m15, li_h15, li_e16, li_f16, li_l16, li_g16, li_m16, li_h16, li_e20, li_f20, li_l20, li_g20, li_m20, li_h20, li_e40, li_f40, li_l40, li_g40, li_m40, li_h40, li_e100, li_f100, li_l100, li_g100, li_m100, li_h100, li_e128, li_f128, li_l128, li_g128, li_m128, li_h128, li_e150, li_f150, li_l150, li_g150, li_m150, li_h150, li_e255, li_f255, li_l255, li_g255, li_m255, li_h255, li_e400, li_f400, li_l400, li_g400, li_m400, li_h400, li_e410, li_f410, li_l410, li_g410, li_m410, li_h410, li_e420, li_f420, li_l420, li_g420, li_m420, li_h420, li_e2000, li_f2000, li_l2000, li_g2000, li_m2000, li_h2000, li_e8200, li_f8200, li_l8200, li_g8200, li_m8200, li_h8200, li_e1000000, li_f1000000, li_l1000000, li_g1000000, li_m1000000, li_h1000000, li_50, li_50', li_200, li_200', nI_add, li_s1, li_t1, li_c1, li_c2, li_c3, li_c4, li_c5, li_c6, li_c7, li_c8, li_c9, li_c10, li_c11, li_c12, li_c13, li_c14, li_c15, sg_Kat, sg_Pat, pk_us, pk_uLs, true_implies, forall_const, not_true_eq_false, not_false_eq_true, false_implies, and_true, true_and, implies_true, and_self, if_true, if_false, ite_true, ite_false, reduceIte, eq_self, Nat.reduceEqDiff, Nat.reduceLeDiff, Nat.reduceLT, Int32.reduceLT, Int32.reduceLE]
    exact i_up I0
  have w1 : ¬ sg_n g ≤ w := by omega
  have w2 : ¬ sg_n g - 1 < w := by omega
  rcases sc_no (x := v2) (n := 16) (by omega) with ⟨h, -⟩ | ⟨h, h1, h2⟩ | ⟨nm, hnm, rfl⟩
  · simp (disch := omega) only [wpX_field, wpX_takesPart, wpX_isType, wpX_isName, wX_field_45, wpY_field, wpY_is, wpY_in, q1, q2, h9, hp, hp1, Nat.not_lt_zero, w1, w2, h, forall_eq, nI_leI, nI_ltI, nI_eq, vp_in_nI, nI_clamp, nI_1, li_e0, li_f0, li_l0, li_g0, li_m0, li_h0, li_e1, li_f1, li_l1, li_g1, li_m1, li_h1, li_e2, li_f2, li_l2, li_g2, li_m2, li_h2, li_e3, li_f3, li_l3, li_g3, li_m3, li_h3, li_e4, li_f4, li_l4, li_g4, li_m4, li_h4, li_e5, li_f5, li_l5, li_g5, li_m5, li_h5, li_e6, li_f6, li_l6, li_g6, li_m6, li_h6, li_e7, li_f7, li_l7, li_g7, li_m7, li_h7, li_e8, li_f8, li_l8, li_g8, li_m8, li_h8, li_e9, li_f9, li_l9, li_g9, li_m9, li_h9, li_e10, li_f10, li_l10, li_g10, li_m10, li_h10, li_e15, li_f15, li_l15, li_g15, li_m15, li_h15, li_e16, li_f16, li_l16, li_g16, li_m16, li_h16, li_e20, li_f20, li_l20, li_g20, li_m20, li_h20, li_e40, li_f40, li_l40, li_g40, li_m40, li_h40, li_e100, li_f100, li_l100, li_g100, li_m100, li_h100, li_e128, li_f128, li_l128, li_g128, li_m128, li_h128, li_e150, li_f150, li_l150, li_g150, li_m150, li_h150, li_e255, li_f255, li_l255, li_g255, li_m255, li_h255, li_e400, li_f400, li_l400, li_g400, li_m400, li_h400, li_e410, li_f410, li_l410, li_g410, li_m410, li_h410, li_e420, li_f420, li_l420, li_g420, li_m420, li_h420, li_e2000, li_f2000, li_l2000, li_g2000, li_m2000, li_h2000, li_e8200, li_f8200, li_l8200, li_g8200, li_m8200, li_h8200, li_e1000000, li_f1000000, li_l1000000, li_g1000000, li_m1000000, li_h1000000, li_50, li_50', li_200, li_200', nI_add, li_s1, li_t1, li_c1, li_c2, li_c3, li_c4, li_c5, li_c6, li_c7, li_c8, li_c9, li_c10, li_c11, li_c12, li_c13, li_c14, li_c15, sg_Kat, sg_Pat, pk_us, pk_uLs, true_implies, forall_const, not_true_eq_false, not_false_eq_true, false_implies, and_true, true_and, implies_true, and_self, if_true, if_false, ite_true, ite_false, reduceIte, eq_self, Nat.reduceEqDiff, Nat.reduceLeDiff, Nat.reduceLT, Int32.reduceLT, Int32.reduceLE]
    exact i_up I0
  · have h3 : (15 : Int32) < v2 := (h2 15 (by omega)).1
    have h4 : (16 : Int32) ≤ v2 := h1
    simp (disch := omega) only [wpX_field, wpX_takesPart, wpX_isType, wpX_isName, wX_field_45, wpY_field, wpY_is, wpY_in, q1, q2, h9, hp, hp1, Nat.not_lt_zero, w1, w2, h, h3, h4, forall_eq, nI_leI, nI_ltI, nI_eq, vp_in_nI, nI_clamp, nI_1, li_e0, li_f0, li_l0, li_g0, li_m0, li_h0, li_e1, li_f1, li_l1, li_g1, li_m1, li_h1, li_e2, li_f2, li_l2, li_g2, li_m2, li_h2, li_e3, li_f3, li_l3, li_g3, li_m3, li_h3, li_e4, li_f4, li_l4, li_g4, li_m4, li_h4, li_e5, li_f5, li_l5, li_g5, li_m5, li_h5, li_e6, li_f6, li_l6, li_g6, li_m6, li_h6, li_e7, li_f7, li_l7, li_g7, li_m7, li_h7, li_e8, li_f8, li_l8, li_g8, li_m8, li_h8, li_e9, li_f9, li_l9, li_g9, li_m9, li_h9, li_e10, li_f10, li_l10, li_g10, li_m10, li_h10, li_e15, li_f15, li_l15, li_g15, li_m15, li_h15, li_e16, li_f16, li_l16, li_g16, li_m16, li_h16, li_e20, li_f20, li_l20, li_g20, li_m20, li_h20, li_e40, li_f40, li_l40, li_g40, li_m40, li_h40, li_e100, li_f100, li_l100, li_g100, li_m100, li_h100, li_e128, li_f128, li_l128, li_g128, li_m128, li_h128, li_e150, li_f150, li_l150, li_g150, li_m150, li_h150, li_e255, li_f255, li_l255, li_g255, li_m255, li_h255, li_e400, li_f400, li_l400, li_g400, li_m400, li_h400, li_e410, li_f410, li_l410, li_g410, li_m410, li_h410, li_e420, li_f420, li_l420, li_g420, li_m420, li_h420, li_e2000, li_f2000, li_l2000, li_g2000, li_m2000, li_h2000, li_e8200, li_f8200, li_l8200, li_g8200, li_m8200, li_h8200, li_e1000000, li_f1000000, li_l1000000, li_g1000000, li_m1000000, li_h1000000, li_50, li_50', li_200, li_200', nI_add, li_s1, li_t1, li_c1, li_c2, li_c3, li_c4, li_c5, li_c6, li_c7, li_c8, li_c9, li_c10, li_c11, li_c12, li_c13, li_c14, li_c15, sg_Kat, sg_Pat, pk_us, pk_uLs, true_implies, forall_const, not_true_eq_false, not_false_eq_true, false_implies, and_true, true_and, implies_true, and_self, if_true, if_false, ite_true, ite_false, reduceIte, eq_self, Nat.reduceEqDiff, Nat.reduceLeDiff, Nat.reduceLT, Int32.reduceLT, Int32.reduceLE]
    exact i_up I0
  have n1 : ¬ 15 < nm := by omega
  have n2 : ¬ 16 ≤ nm := by omega
  have main : ∀ al, sg_nam al → ¬ al < -1 → ¬ 15 < al → wX_field_45 (fun r u' => wpY_field (fun r' v' => r' = r ∧ i_Rel (k + 7) u' v') (nI (sg_n g), nI bc, y_writtenCount, nI nc, nI lc, y_values, y_depth, y_records, y_at, y_wrong, y_todo, sg_K g, y_of, sg_P g, sg_f g, y_name, y_part, y_alias, y_given, y_has, y_bytes, y_written, y_numbers, y_list, y_valueType, y_start, y_child, y_last, y_next, y_value, y_open, y_come, y_left, y_todoValue, y_todoType, y_todoDefault, y_pair, y_whole) (nI t) (nI nm) (nI w) al b v6) (nI t) (nI nm) (nI w) al b v6 (nI (sg_n g)) (nI bc) (nI nc) (nI lc) x_trouble x_place x_valueCount x_top x_records x_writtenCount x_pairCount (sg_K g) x_detailOf (sg_f g) (sg_P g) x_partName x_partType x_partAlias x_partHas x_partDefault y_bytes y_numbers x_list x_valueType x_valueNumber x_valueFrom x_valueAfter x_frameValue x_frameType x_frameStep x_frameLeft x_frameStart x_addsNothing x_written x_pairs x_pairSeen := by
    intro al hal a1 a2
    unfold wX_field_45
    refine xt_partNamed hg hX ht (by omega) _ ?_
    cases e : sg_find g t (nI nm) with
    | some q =>
      have hq := sg_find_lt e
      have hq1 : ¬ nI q = -1 := li_neg (by omega)
      simp (disch := omega) only [sd_oi, hq1, wpY_field, wpY_is, wpY_in, q2, h9, hp, w2, n1, a1, a2, Nat.not_lt_zero, forall_eq, nI_leI, nI_ltI, nI_eq, vp_in_nI, nI_clamp, nI_1, li_e0, li_f0, li_l0, li_g0, li_m0, li_h0, li_e1, li_f1, li_l1, li_g1, li_m1, li_h1, li_e2, li_f2, li_l2, li_g2, li_m2, li_h2, li_e3, li_f3, li_l3, li_g3, li_m3, li_h3, li_e4, li_f4, li_l4, li_g4, li_m4, li_h4, li_e5, li_f5, li_l5, li_g5, li_m5, li_h5, li_e6, li_f6, li_l6, li_g6, li_m6, li_h6, li_e7, li_f7, li_l7, li_g7, li_m7, li_h7, li_e8, li_f8, li_l8, li_g8, li_m8, li_h8, li_e9, li_f9, li_l9, li_g9, li_m9, li_h9, li_e10, li_f10, li_l10, li_g10, li_m10, li_h10, li_e15, li_f15, li_l15, li_g15, li_m15, li_h15, li_e16, li_f16, li_l16, li_g16, li_m16, li_h16, li_e20, li_f20, li_l20, li_g20, li_m20, li_h20, li_e40, li_f40, li_l40, li_g40, li_m40, li_h40, li_e100, li_f100, li_l100, li_g100, li_m100, li_h100, li_e128, li_f128, li_l128, li_g128, li_m128, li_h128, li_e150, li_f150, li_l150, li_g150, li_m150, li_h150, li_e255, li_f255, li_l255, li_g255, li_m255, li_h255, li_e400, li_f400, li_l400, li_g400, li_m400, li_h400, li_e410, li_f410, li_l410, li_g410, li_m410, li_h410, li_e420, li_f420, li_l420, li_g420, li_m420, li_h420, li_e2000, li_f2000, li_l2000, li_g2000, li_m2000, li_h2000, li_e8200, li_f8200, li_l8200, li_g8200, li_m8200, li_h8200, li_e1000000, li_f1000000, li_l1000000, li_g1000000, li_m1000000, li_h1000000, li_50, li_50', li_200, li_200', nI_add, li_s1, li_t1, li_c1, li_c2, li_c3, li_c4, li_c5, li_c6, li_c7, li_c8, li_c9, li_c10, li_c11, li_c12, li_c13, li_c14, li_c15, sg_Kat, sg_Pat, pk_us, pk_uLs, true_implies, forall_const, not_true_eq_false, not_false_eq_true, false_implies, and_true, true_and, implies_true, and_self, if_true, if_false, ite_true, ite_false, reduceIte, eq_self, Nat.reduceEqDiff, Nat.reduceLeDiff, Nat.reduceLT, Int32.reduceLT, Int32.reduceLE]
      refine yt_find hg hY ht (by omega) _ ?_
      rw [e]
      simp (disch := omega) only [sd_oi, Nat.not_lt_zero, forall_eq, nI_leI, nI_ltI, nI_eq, vp_in_nI, nI_clamp, nI_1, li_e0, li_f0, li_l0, li_g0, li_m0, li_h0, li_e1, li_f1, li_l1, li_g1, li_m1, li_h1, li_e2, li_f2, li_l2, li_g2, li_m2, li_h2, li_e3, li_f3, li_l3, li_g3, li_m3, li_h3, li_e4, li_f4, li_l4, li_g4, li_m4, li_h4, li_e5, li_f5, li_l5, li_g5, li_m5, li_h5, li_e6, li_f6, li_l6, li_g6, li_m6, li_h6, li_e7, li_f7, li_l7, li_g7, li_m7, li_h7, li_e8, li_f8, li_l8, li_g8, li_m8, li_h8, li_e9, li_f9, li_l9, li_g9, li_m9, li_h9, li_e10, li_f10, li_l10, li_g10, li_m10, li_h10, li_e15, li_f15, li_l15, li_g15, li_m15, li_h15, li_e16, li_f16, li_l16, li_g16, li_m16, li_h16, li_e20, li_f20, li_l20, li_g20, li_m20, li_h20, li_e40, li_f40, li_l40, li_g40, li_m40, li_h40, li_e100, li_f100, li_l100, li_g100, li_m100, li_h100, li_e128, li_f128, li_l128, li_g128, li_m128, li_h128, li_e150, li_f150, li_l150, li_g150, li_m150, li_h150, li_e255, li_f255, li_l255, li_g255, li_m255, li_h255, li_e400, li_f400, li_l400, li_g400, li_m400, li_h400, li_e410, li_f410, li_l410, li_g410, li_m410, li_h410, li_e420, li_f420, li_l420, li_g420, li_m420, li_h420, li_e2000, li_f2000, li_l2000, li_g2000, li_m2000, li_h2000, li_e8200, li_f8200, li_l8200, li_g8200, li_m8200, li_h8200, li_e1000000, li_f1000000, li_l1000000, li_g1000000, li_m1000000, li_h1000000, li_50, li_50', li_200, li_200', nI_add, li_s1, li_t1, li_c1, li_c2, li_c3, li_c4, li_c5, li_c6, li_c7, li_c8, li_c9, li_c10, li_c11, li_c12, li_c13, li_c14, li_c15, sg_Kat, sg_Pat, pk_us, pk_uLs, true_implies, forall_const, not_true_eq_false, not_false_eq_true, false_implies, and_true, true_and, implies_true, and_self, if_true, if_false, ite_true, ite_false, reduceIte, eq_self, Nat.reduceEqDiff, Nat.reduceLeDiff, Nat.reduceLT, Int32.reduceLT, Int32.reduceLE]
      exact i_up I0
    | none =>
      have hb2 : vp_nar .boolean b = b := by rcases hbz with rfl | rfl <;> rfl
      simp (disch := omega) only [sd_oi, wpX_addPart, wpY_field, wpY_is, wpY_in, q2, h9, hp, w2, n1, a1, a2, Nat.not_lt_zero, hb2, forall_eq, nI_leI, nI_ltI, nI_eq, vp_in_nI, nI_clamp, nI_1, li_e0, li_f0, li_l0, li_g0, li_m0, li_h0, li_e1, li_f1, li_l1, li_g1, li_m1, li_h1, li_e2, li_f2, li_l2, li_g2, li_m2, li_h2, li_e3, li_f3, li_l3, li_g3, li_m3, li_h3, li_e4, li_f4, li_l4, li_g4, li_m4, li_h4, li_e5, li_f5, li_l5, li_g5, li_m5, li_h5, li_e6, li_f6, li_l6, li_g6, li_m6, li_h6, li_e7, li_f7, li_l7, li_g7, li_m7, li_h7, li_e8, li_f8, li_l8, li_g8, li_m8, li_h8, li_e9, li_f9, li_l9, li_g9, li_m9, li_h9, li_e10, li_f10, li_l10, li_g10, li_m10, li_h10, li_e15, li_f15, li_l15, li_g15, li_m15, li_h15, li_e16, li_f16, li_l16, li_g16, li_m16, li_h16, li_e20, li_f20, li_l20, li_g20, li_m20, li_h20, li_e40, li_f40, li_l40, li_g40, li_m40, li_h40, li_e100, li_f100, li_l100, li_g100, li_m100, li_h100, li_e128, li_f128, li_l128, li_g128, li_m128, li_h128, li_e150, li_f150, li_l150, li_g150, li_m150, li_h150, li_e255, li_f255, li_l255, li_g255, li_m255, li_h255, li_e400, li_f400, li_l400, li_g400, li_m400, li_h400, li_e410, li_f410, li_l410, li_g410, li_m410, li_h410, li_e420, li_f420, li_l420, li_g420, li_m420, li_h420, li_e2000, li_f2000, li_l2000, li_g2000, li_m2000, li_h2000, li_e8200, li_f8200, li_l8200, li_g8200, li_m8200, li_h8200, li_e1000000, li_f1000000, li_l1000000, li_g1000000, li_m1000000, li_h1000000, li_50, li_50', li_200, li_200', nI_add, li_s1, li_t1, li_c1, li_c2, li_c3, li_c4, li_c5, li_c6, li_c7, li_c8, li_c9, li_c10, li_c11, li_c12, li_c13, li_c14, li_c15, sg_Kat, sg_Pat, pk_us, pk_uLs, true_implies, forall_const, not_true_eq_false, not_false_eq_true, false_implies, and_true, true_and, implies_true, and_self, if_true, if_false, ite_true, ite_false, reduceIte, eq_self, Nat.reduceEqDiff, Nat.reduceLeDiff, Nat.reduceLT, Int32.reduceLT, Int32.reduceLE]
      refine yt_find hg hY ht (by omega) _ ?_
      rw [e]
      simp (disch := omega) only [sd_oi, forall_eq, nI_leI, nI_ltI, nI_eq, vp_in_nI, nI_clamp, nI_1, li_e0, li_f0, li_l0, li_g0, li_m0, li_h0, li_e1, li_f1, li_l1, li_g1, li_m1, li_h1, li_e2, li_f2, li_l2, li_g2, li_m2, li_h2, li_e3, li_f3, li_l3, li_g3, li_m3, li_h3, li_e4, li_f4, li_l4, li_g4, li_m4, li_h4, li_e5, li_f5, li_l5, li_g5, li_m5, li_h5, li_e6, li_f6, li_l6, li_g6, li_m6, li_h6, li_e7, li_f7, li_l7, li_g7, li_m7, li_h7, li_e8, li_f8, li_l8, li_g8, li_m8, li_h8, li_e9, li_f9, li_l9, li_g9, li_m9, li_h9, li_e10, li_f10, li_l10, li_g10, li_m10, li_h10, li_e15, li_f15, li_l15, li_g15, li_m15, li_h15, li_e16, li_f16, li_l16, li_g16, li_m16, li_h16, li_e20, li_f20, li_l20, li_g20, li_m20, li_h20, li_e40, li_f40, li_l40, li_g40, li_m40, li_h40, li_e100, li_f100, li_l100, li_g100, li_m100, li_h100, li_e128, li_f128, li_l128, li_g128, li_m128, li_h128, li_e150, li_f150, li_l150, li_g150, li_m150, li_h150, li_e255, li_f255, li_l255, li_g255, li_m255, li_h255, li_e400, li_f400, li_l400, li_g400, li_m400, li_h400, li_e410, li_f410, li_l410, li_g410, li_m410, li_h410, li_e420, li_f420, li_l420, li_g420, li_m420, li_h420, li_e2000, li_f2000, li_l2000, li_g2000, li_m2000, li_h2000, li_e8200, li_f8200, li_l8200, li_g8200, li_m8200, li_h8200, li_e1000000, li_f1000000, li_l1000000, li_g1000000, li_m1000000, li_h1000000, li_50, li_50', li_200, li_200', nI_add, li_s1, li_t1, li_c1, li_c2, li_c3, li_c4, li_c5, li_c6, li_c7, li_c8, li_c9, li_c10, li_c11, li_c12, li_c13, li_c14, li_c15, sg_Kat, sg_Pat, pk_us, pk_uLs, true_implies, forall_const, not_true_eq_false, not_false_eq_true, false_implies, and_true, true_and, implies_true, and_self, if_true, if_false, ite_true, ite_false, reduceIte, eq_self, Nat.reduceEqDiff, Nat.reduceLeDiff, Nat.reduceLT, Int32.reduceLT, Int32.reduceLE]
      exact sr_add (nm := nm) (u := w) (al := al) (ha := b) (v := v6) hg hX hY hbc hnc hlc hbb hli ht (by omega) (Or.inr (Or.inr h9)) (fun _ => hnm) (fun _ => hw) (fun z => by omega) (fun _ => hal) hbz
        (fun _ => rfl) (fun z => by omega) (fun _ => rfl) (fun _ => ⟨rfl, rfl⟩) (fun z => absurd h9 z)
        (fun j h => pk_un h) (fun j h => pk_un h) (fun j h => pk_un h) (fun j h => pk_un h) (fun j h => pk_un h) (fun _ => pk_us) (fun _ => pk_us) (fun _ => ⟨pk_us, pk_us, pk_us⟩)
        (fun i => by
          by_cases e : i = 5 * t + sg_p g t
          · subst e; rw [pk_us]; exact hbz
          · rw [pk_un e]; exact hY.2.2.2.2 i)
  by_cases hm : v4 = -1
  · subst hm
    simp (disch := omega) only [wpX_field, wpX_takesPart, wpX_isType, wpX_isName, q1, h9, hp1, w1, n2, Nat.not_lt_zero, forall_eq, nI_leI, nI_ltI, nI_eq, vp_in_nI, nI_clamp, nI_1, li_e0, li_f0, li_l0, li_g0, li_m0, li_h0, li_e1, li_f1, li_l1, li_g1, li_m1, li_h1, li_e2, li_f2, li_l2, li_g2, li_m2, li_h2, li_e3, li_f3, li_l3, li_g3, li_m3, li_h3, li_e4, li_f4, li_l4, li_g4, li_m4, li_h4, li_e5, li_f5, li_l5, li_g5, li_m5, li_h5, li_e6, li_f6, li_l6, li_g6, li_m6, li_h6, li_e7, li_f7, li_l7, li_g7, li_m7, li_h7, li_e8, li_f8, li_l8, li_g8, li_m8, li_h8, li_e9, li_f9, li_l9, li_g9, li_m9, li_h9, li_e10, li_f10, li_l10, li_g10, li_m10, li_h10, li_e15, li_f15, li_l15, li_g15, li_m15, li_h15, li_e16, li_f16, li_l16, li_g16, li_m16, li_h16, li_e20, li_f20, li_l20, li_g20, li_m20, li_h20, li_e40, li_f40, li_l40, li_g40, li_m40, li_h40, li_e100, li_f100, li_l100, li_g100, li_m100, li_h100, li_e128, li_f128, li_l128, li_g128, li_m128, li_h128, li_e150, li_f150, li_l150, li_g150, li_m150, li_h150, li_e255, li_f255, li_l255, li_g255, li_m255, li_h255, li_e400, li_f400, li_l400, li_g400, li_m400, li_h400, li_e410, li_f410, li_l410, li_g410, li_m410, li_h410, li_e420, li_f420, li_l420, li_g420, li_m420, li_h420, li_e2000, li_f2000, li_l2000, li_g2000, li_m2000, li_h2000, li_e8200, li_f8200, li_l8200, li_g8200, li_m8200, li_h8200, li_e1000000, li_f1000000, li_l1000000, li_g1000000, li_m1000000, li_h1000000, li_50, li_50', li_200, li_200', nI_add, li_s1, li_t1, li_c1, li_c2, li_c3, li_c4, li_c5, li_c6, li_c7, li_c8, li_c9, li_c10, li_c11, li_c12, li_c13, li_c14, li_c15, sg_Kat, sg_Pat, pk_us, pk_uLs, true_implies, forall_const, not_true_eq_false, not_false_eq_true, false_implies, and_true, true_and, implies_true, and_self, if_true, if_false, ite_true, ite_false, reduceIte, eq_self, Nat.reduceEqDiff, Nat.reduceLeDiff, Nat.reduceLT, Int32.reduceLT, Int32.reduceLE]
    exact main _ (Or.inl rfl) (by decide) (by decide)
  rcases sc_no (x := v4) (n := 16) (by omega) with ⟨h, -⟩ | ⟨h, h1, h2⟩ | ⟨al, hal, rfl⟩
  · have h3 := sc_neg h hm
    simp (disch := omega) only [wpX_field, wpX_takesPart, wpX_isType, wpX_isName, wX_field_45, wpY_field, wpY_is, wpY_in, q1, q2, h9, hp, hp1, Nat.not_lt_zero, w1, w2, n1, n2, hm, h, h3, forall_eq, nI_leI, nI_ltI, nI_eq, vp_in_nI, nI_clamp, nI_1, li_e0, li_f0, li_l0, li_g0, li_m0, li_h0, li_e1, li_f1, li_l1, li_g1, li_m1, li_h1, li_e2, li_f2, li_l2, li_g2, li_m2, li_h2, li_e3, li_f3, li_l3, li_g3, li_m3, li_h3, li_e4, li_f4, li_l4, li_g4, li_m4, li_h4, li_e5, li_f5, li_l5, li_g5, li_m5, li_h5, li_e6, li_f6, li_l6, li_g6, li_m6, li_h6, li_e7, li_f7, li_l7, li_g7, li_m7, li_h7, li_e8, li_f8, li_l8, li_g8, li_m8, li_h8, li_e9, li_f9, li_l9, li_g9, li_m9, li_h9, li_e10, li_f10, li_l10, li_g10, li_m10, li_h10, li_e15, li_f15, li_l15, li_g15, li_m15, li_h15, li_e16, li_f16, li_l16, li_g16, li_m16, li_h16, li_e20, li_f20, li_l20, li_g20, li_m20, li_h20, li_e40, li_f40, li_l40, li_g40, li_m40, li_h40, li_e100, li_f100, li_l100, li_g100, li_m100, li_h100, li_e128, li_f128, li_l128, li_g128, li_m128, li_h128, li_e150, li_f150, li_l150, li_g150, li_m150, li_h150, li_e255, li_f255, li_l255, li_g255, li_m255, li_h255, li_e400, li_f400, li_l400, li_g400, li_m400, li_h400, li_e410, li_f410, li_l410, li_g410, li_m410, li_h410, li_e420, li_f420, li_l420, li_g420, li_m420, li_h420, li_e2000, li_f2000, li_l2000, li_g2000, li_m2000, li_h2000, li_e8200, li_f8200, li_l8200, li_g8200, li_m8200, li_h8200, li_e1000000, li_f1000000, li_l1000000, li_g1000000, li_m1000000, li_h1000000, li_50, li_50', li_200, li_200', nI_add, li_s1, li_t1, li_c1, li_c2, li_c3, li_c4, li_c5, li_c6, li_c7, li_c8, li_c9, li_c10, li_c11, li_c12, li_c13, li_c14, li_c15, sg_Kat, sg_Pat, pk_us, pk_uLs, true_implies, forall_const, not_true_eq_false, not_false_eq_true, false_implies, and_true, true_and, implies_true, and_self, if_true, if_false, ite_true, ite_false, reduceIte, eq_self, Nat.reduceEqDiff, Nat.reduceLeDiff, Nat.reduceLT, Int32.reduceLT, Int32.reduceLE]
    exact i_up I0
  · have h3 : (15 : Int32) < v4 := (h2 15 (by omega)).1
    have h4 : (16 : Int32) ≤ v4 := h1
    have h5 : ¬ v4 < -1 := fun z => h (Int32.lt_trans z (by decide))
    simp (disch := omega) only [wpX_field, wpX_takesPart, wpX_isType, wpX_isName, wX_field_45, wpY_field, wpY_is, wpY_in, q1, q2, h9, hp, hp1, Nat.not_lt_zero, w1, w2, n1, n2, hm, h, h3, h4, h5, forall_eq, nI_leI, nI_ltI, nI_eq, vp_in_nI, nI_clamp, nI_1, li_e0, li_f0, li_l0, li_g0, li_m0, li_h0, li_e1, li_f1, li_l1, li_g1, li_m1, li_h1, li_e2, li_f2, li_l2, li_g2, li_m2, li_h2, li_e3, li_f3, li_l3, li_g3, li_m3, li_h3, li_e4, li_f4, li_l4, li_g4, li_m4, li_h4, li_e5, li_f5, li_l5, li_g5, li_m5, li_h5, li_e6, li_f6, li_l6, li_g6, li_m6, li_h6, li_e7, li_f7, li_l7, li_g7, li_m7, li_h7, li_e8, li_f8, li_l8, li_g8, li_m8, li_h8, li_e9, li_f9, li_l9, li_g9, li_m9, li_h9, li_e10, li_f10, li_l10, li_g10, li_m10, li_h10, li_e15, li_f15, li_l15, li_g15, li_m15, li_h15, li_e16, li_f16, li_l16, li_g16, li_m16, li_h16, li_e20, li_f20, li_l20, li_g20, li_m20, li_h20, li_e40, li_f40, li_l40, li_g40, li_m40, li_h40, li_e100, li_f100, li_l100, li_g100, li_m100, li_h100, li_e128, li_f128, li_l128, li_g128, li_m128, li_h128, li_e150, li_f150, li_l150, li_g150, li_m150, li_h150, li_e255, li_f255, li_l255, li_g255, li_m255, li_h255, li_e400, li_f400, li_l400, li_g400, li_m400, li_h400, li_e410, li_f410, li_l410, li_g410, li_m410, li_h410, li_e420, li_f420, li_l420, li_g420, li_m420, li_h420, li_e2000, li_f2000, li_l2000, li_g2000, li_m2000, li_h2000, li_e8200, li_f8200, li_l8200, li_g8200, li_m8200, li_h8200, li_e1000000, li_f1000000, li_l1000000, li_g1000000, li_m1000000, li_h1000000, li_50, li_50', li_200, li_200', nI_add, li_s1, li_t1, li_c1, li_c2, li_c3, li_c4, li_c5, li_c6, li_c7, li_c8, li_c9, li_c10, li_c11, li_c12, li_c13, li_c14, li_c15, sg_Kat, sg_Pat, pk_us, pk_uLs, true_implies, forall_const, not_true_eq_false, not_false_eq_true, false_implies, and_true, true_and, implies_true, and_self, if_true, if_false, ite_true, ite_false, reduceIte, eq_self, Nat.reduceEqDiff, Nat.reduceLeDiff, Nat.reduceLT, Int32.reduceLT, Int32.reduceLE]
    exact i_up I0
  · have a4 : ¬ 16 ≤ al := by omega
    have hl1 : ¬ nI al < -1 := sc_nlt1 (by omega)
    have hl2 : ¬ (15 : Int32) < nI al := by rw [li_g15 (by omega)]; omega
    simp (disch := omega) only [wpX_field, wpX_takesPart, wpX_isType, wpX_isName, q1, h9, hp1, w1, n2, hm, a4, Nat.not_lt_zero, forall_eq, nI_leI, nI_ltI, nI_eq, vp_in_nI, nI_clamp, nI_1, li_e0, li_f0, li_l0, li_g0, li_m0, li_h0, li_e1, li_f1, li_l1, li_g1, li_m1, li_h1, li_e2, li_f2, li_l2, li_g2, li_m2, li_h2, li_e3, li_f3, li_l3, li_g3, li_m3, li_h3, li_e4, li_f4, li_l4, li_g4, li_m4, li_h4, li_e5, li_f5, li_l5, li_g5, li_m5, li_h5, li_e6, li_f6, li_l6, li_g6, li_m6, li_h6, li_e7, li_f7, li_l7, li_g7, li_m7, li_h7, li_e8, li_f8, li_l8, li_g8, li_m8, li_h8, li_e9, li_f9, li_l9, li_g9, li_m9, li_h9, li_e10, li_f10, li_l10, li_g10, li_m10, li_h10, li_e15, li_f15, li_l15, li_g15, li_m15, li_h15, li_e16, li_f16, li_l16, li_g16, li_m16, li_h16, li_e20, li_f20, li_l20, li_g20, li_m20, li_h20, li_e40, li_f40, li_l40, li_g40, li_m40, li_h40, li_e100, li_f100, li_l100, li_g100, li_m100, li_h100, li_e128, li_f128, li_l128, li_g128, li_m128, li_h128, li_e150, li_f150, li_l150, li_g150, li_m150, li_h150, li_e255, li_f255, li_l255, li_g255, li_m255, li_h255, li_e400, li_f400, li_l400, li_g400, li_m400, li_h400, li_e410, li_f410, li_l410, li_g410, li_m410, li_h410, li_e420, li_f420, li_l420, li_g420, li_m420, li_h420, li_e2000, li_f2000, li_l2000, li_g2000, li_m2000, li_h2000, li_e8200, li_f8200, li_l8200, li_g8200, li_m8200, li_h8200, li_e1000000, li_f1000000, li_l1000000, li_g1000000, li_m1000000, li_h1000000, li_50, li_50', li_200, li_200', nI_add, li_s1, li_t1, li_c1, li_c2, li_c3, li_c4, li_c5, li_c6, li_c7, li_c8, li_c9, li_c10, li_c11, li_c12, li_c13, li_c14, li_c15, sg_Kat, sg_Pat, pk_us, pk_uLs, true_implies, forall_const, not_true_eq_false, not_false_eq_true, false_implies, and_true, true_and, implies_true, and_self, if_true, if_false, ite_true, ite_false, reduceIte, eq_self, Nat.reduceEqDiff, Nat.reduceLeDiff, Nat.reduceLT, Int32.reduceLT, Int32.reduceLE]
    exact main _ (Or.inr ⟨al, hal, rfl⟩) hl1 hl2
end
section
/-! the class's resolving against the machine: one item -/
def sx_bad (g : sg_T) (w : sr_V) (r : Nat) (e : Int32) : Prop := ∃ c d L, sr_cert g w [(0, 0, r, 0)] 0 [] c d L ∧ sr_fin g w c d L e ∧ ¬ e = 0
section
variable {x_typeCount x_byteCount x_numberCount x_listCount x_trouble x_place x_valueCount x_top x_records x_writtenCount x_pairCount : Int32}
variable {x_kindOf x_detailOf x_fallbackOf x_partCount x_partName x_partType x_partAlias x_partHas x_partDefault x_bytes x_valueType x_valueFrom x_valueAfter x_frameValue x_frameType x_frameStep x_frameLeft x_frameStart x_addsNothing x_written x_pairs x_pairSeen : Nat → Int32}
variable {x_numbers x_list x_valueNumber : Nat → Int64}
variable {g : sg_T} {w : sr_V} {r : Nat} {it : sr_I} {F : List sx_F} {L O : List Int64} {lc tr : Int32} {a : Nat → Int64} {fV fT fS fL fB : Nat → Int32} {post : SX → Prop}
theorem xl_put {o : List Int64} (x : Int64) (h : sl_out L o x_listCount x_list x_trouble)
    (hp : ∀ lc a tr, sl_out L (o ++ [x]) lc a tr → post (x_typeCount, x_byteCount, x_numberCount, lc, tr, x_place, x_valueCount, x_top, x_records, x_writtenCount, x_pairCount, x_kindOf, x_detailOf, x_fallbackOf, x_partCount, x_partName, x_partType, x_partAlias, x_partHas, x_partDefault, x_bytes, x_numbers, a, x_valueType, x_valueNumber, x_valueFrom, x_valueAfter, x_frameValue, x_frameType, x_frameStep, x_frameLeft, x_frameStart, x_addsNothing, x_written, x_pairs, x_pairSeen)) : wpX_put post (x_typeCount, x_byteCount, x_numberCount, x_listCount, x_trouble, x_place, x_valueCount, x_top, x_records, x_writtenCount, x_pairCount, x_kindOf, x_detailOf, x_fallbackOf, x_partCount, x_partName, x_partType, x_partAlias, x_partHas, x_partDefault, x_bytes, x_numbers, x_list, x_valueType, x_valueNumber, x_valueFrom, x_valueAfter, x_frameValue, x_frameType, x_frameStep, x_frameLeft, x_frameStart, x_addsNothing, x_written, x_pairs, x_pairSeen) x := by
  by_cases hl : L.length + o.length < 150
  · obtain ⟨rfl, rfl, h3⟩ := sl_outL h x hl
    have hn : ¬ 150 ≤ L.length + o.length := by omega
    simp (disch := omega) only [wpX_put, hn, forall_eq, nI_leI, nI_ltI, nI_eq, vp_in_nI, nI_clamp, nI_1, li_e0, li_f0, li_l0, li_g0, li_m0, li_h0, li_e1, li_f1, li_l1, li_g1, li_m1, li_h1, li_e2, li_f2, li_l2, li_g2, li_m2, li_h2, li_e3, li_f3, li_l3, li_g3, li_m3, li_h3, li_e4, li_f4, li_l4, li_g4, li_m4, li_h4, li_e5, li_f5, li_l5, li_g5, li_m5, li_h5, li_e6, li_f6, li_l6, li_g6, li_m6, li_h6, li_e7, li_f7, li_l7, li_g7, li_m7, li_h7, li_e8, li_f8, li_l8, li_g8, li_m8, li_h8, li_e9, li_f9, li_l9, li_g9, li_m9, li_h9, li_e10, li_f10, li_l10, li_g10, li_m10, li_h10, li_e15, li_f15, li_l15, li_g15, li_m15, li_h15, li_e16, li_f16, li_l16, li_g16, li_m16, li_h16, li_e20, li_f20, li_l20, li_g20, li_m20, li_h20, li_e40, li_f40, li_l40, li_g40, li_m40, li_h40, li_e100, li_f100, li_l100, li_g100, li_m100, li_h100, li_e128, li_f128, li_l128, li_g128, li_m128, li_h128, li_e150, li_f150, li_l150, li_g150, li_m150, li_h150, li_e255, li_f255, li_l255, li_g255, li_m255, li_h255, li_e400, li_f400, li_l400, li_g400, li_m400, li_h400, li_e410, li_f410, li_l410, li_g410, li_m410, li_h410, li_e420, li_f420, li_l420, li_g420, li_m420, li_h420, li_e2000, li_f2000, li_l2000, li_g2000, li_m2000, li_h2000, li_e8200, li_f8200, li_l8200, li_g8200, li_m8200, li_h8200, li_e1000000, li_f1000000, li_l1000000, li_g1000000, li_m1000000, li_h1000000, li_50, li_50', li_200, li_200', nI_add, li_s1, li_t1, li_c1, li_c2, li_c3, li_c4, li_c5, li_c6, li_c7, li_c8, li_c9, li_c10, li_c11, li_c12, li_c13, li_c14, li_c15, sg_Kat, sg_Pat, pk_us, pk_uLs, true_implies, forall_const, not_true_eq_false, not_false_eq_true, false_implies, and_true, true_and, implies_true, and_self, if_true, if_false, ite_true, ite_false, reduceIte, eq_self, Nat.reduceEqDiff, Nat.reduceLeDiff, Nat.reduceLT, Int32.reduceLT, Int32.reduceLE]
    exact hp _ _ _ h3
  · obtain ⟨rfl, h2, h3⟩ := sl_outF h x (by omega)
    rcases h2 with rfl | rfl
    · simp (disch := omega) only [wpX_put, Nat.le_refl, forall_eq, nI_leI, nI_ltI, nI_eq, vp_in_nI, nI_clamp, nI_1, li_e0, li_f0, li_l0, li_g0, li_m0, li_h0, li_e1, li_f1, li_l1, li_g1, li_m1, li_h1, li_e2, li_f2, li_l2, li_g2, li_m2, li_h2, li_e3, li_f3, li_l3, li_g3, li_m3, li_h3, li_e4, li_f4, li_l4, li_g4, li_m4, li_h4, li_e5, li_f5, li_l5, li_g5, li_m5, li_h5, li_e6, li_f6, li_l6, li_g6, li_m6, li_h6, li_e7, li_f7, li_l7, li_g7, li_m7, li_h7, li_e8, li_f8, li_l8, li_g8, li_m8, li_h8, li_e9, li_f9, li_l9, li_g9, li_m9, li_h9, li_e10, li_f10, li_l10, li_g10, li_m10, li_h10, li_e15, li_f15, li_l15, li_g15, li_m15, li_h15, li_e16, li_f16, li_l16, li_g16, li_m16, li_h16, li_e20, li_f20, li_l20, li_g20, li_m20, li_h20, li_e40, li_f40, li_l40, li_g40, li_m40, li_h40, li_e100, li_f100, li_l100, li_g100, li_m100, li_h100, li_e128, li_f128, li_l128, li_g128, li_m128, li_h128, li_e150, li_f150, li_l150, li_g150, li_m150, li_h150, li_e255, li_f255, li_l255, li_g255, li_m255, li_h255, li_e400, li_f400, li_l400, li_g400, li_m400, li_h400, li_e410, li_f410, li_l410, li_g410, li_m410, li_h410, li_e420, li_f420, li_l420, li_g420, li_m420, li_h420, li_e2000, li_f2000, li_l2000, li_g2000, li_m2000, li_h2000, li_e8200, li_f8200, li_l8200, li_g8200, li_m8200, li_h8200, li_e1000000, li_f1000000, li_l1000000, li_g1000000, li_m1000000, li_h1000000, li_50, li_50', li_200, li_200', nI_add, li_s1, li_t1, li_c1, li_c2, li_c3, li_c4, li_c5, li_c6, li_c7, li_c8, li_c9, li_c10, li_c11, li_c12, li_c13, li_c14, li_c15, sg_Kat, sg_Pat, pk_us, pk_uLs, true_implies, forall_const, not_true_eq_false, not_false_eq_true, false_implies, and_true, true_and, implies_true, and_self, if_true, if_false, ite_true, ite_false, reduceIte, eq_self, Nat.reduceEqDiff, Nat.reduceLeDiff, Nat.reduceLT, Int32.reduceLT, Int32.reduceLE]
      exact hp _ _ _ (h3 _)
    · simp (disch := omega) only [wpX_put, Nat.le_refl, forall_eq, nI_leI, nI_ltI, nI_eq, vp_in_nI, nI_clamp, nI_1, li_e0, li_f0, li_l0, li_g0, li_m0, li_h0, li_e1, li_f1, li_l1, li_g1, li_m1, li_h1, li_e2, li_f2, li_l2, li_g2, li_m2, li_h2, li_e3, li_f3, li_l3, li_g3, li_m3, li_h3, li_e4, li_f4, li_l4, li_g4, li_m4, li_h4, li_e5, li_f5, li_l5, li_g5, li_m5, li_h5, li_e6, li_f6, li_l6, li_g6, li_m6, li_h6, li_e7, li_f7, li_l7, li_g7, li_m7, li_h7, li_e8, li_f8, li_l8, li_g8, li_m8, li_h8, li_e9, li_f9, li_l9, li_g9, li_m9, li_h9, li_e10, li_f10, li_l10, li_g10, li_m10, li_h10, li_e15, li_f15, li_l15, li_g15, li_m15, li_h15, li_e16, li_f16, li_l16, li_g16, li_m16, li_h16, li_e20, li_f20, li_l20, li_g20, li_m20, li_h20, li_e40, li_f40, li_l40, li_g40, li_m40, li_h40, li_e100, li_f100, li_l100, li_g100, li_m100, li_h100, li_e128, li_f128, li_l128, li_g128, li_m128, li_h128, li_e150, li_f150, li_l150, li_g150, li_m150, li_h150, li_e255, li_f255, li_l255, li_g255, li_m255, li_h255, li_e400, li_f400, li_l400, li_g400, li_m400, li_h400, li_e410, li_f410, li_l410, li_g410, li_m410, li_h410, li_e420, li_f420, li_l420, li_g420, li_m420, li_h420, li_e2000, li_f2000, li_l2000, li_g2000, li_m2000, li_h2000, li_e8200, li_f8200, li_l8200, li_g8200, li_m8200, li_h8200, li_e1000000, li_f1000000, li_l1000000, li_g1000000, li_m1000000, li_h1000000, li_50, li_50', li_200, li_200', nI_add, li_s1, li_t1, li_c1, li_c2, li_c3, li_c4, li_c5, li_c6, li_c7, li_c8, li_c9, li_c10, li_c11, li_c12, li_c13, li_c14, li_c15, sg_Kat, sg_Pat, pk_us, pk_uLs, true_implies, forall_const, not_true_eq_false, not_false_eq_true, false_implies, and_true, true_and, implies_true, and_self, if_true, if_false, ite_true, ite_false, reduceIte, eq_self, Nat.reduceEqDiff, Nat.reduceLeDiff, Nat.reduceLT, Int32.reduceLT, Int32.reduceLE]
      exact hp _ _ _ (h3 _)
theorem xl_putBytes {o : List Int64} {v n f : Nat} (hv : v < 400) (hf : x_valueFrom v = nI f) (hn : f + n ≤ 100) (h : sl_out L o x_listCount x_list x_trouble)
    (hp : ∀ lc a tr, sl_out L (o ++ sr_by x_bytes n f) lc a tr → post (x_typeCount, x_byteCount, x_numberCount, lc, tr, x_place, x_valueCount, x_top, x_records, x_writtenCount, x_pairCount, x_kindOf, x_detailOf, x_fallbackOf, x_partCount, x_partName, x_partType, x_partAlias, x_partHas, x_partDefault, x_bytes, x_numbers, a, x_valueType, x_valueNumber, x_valueFrom, x_valueAfter, x_frameValue, x_frameType, x_frameStep, x_frameLeft, x_frameStart, x_addsNothing, x_written, x_pairs, x_pairSeen)) : wpX_putBytes post (x_typeCount, x_byteCount, x_numberCount, x_listCount, x_trouble, x_place, x_valueCount, x_top, x_records, x_writtenCount, x_pairCount, x_kindOf, x_detailOf, x_fallbackOf, x_partCount, x_partName, x_partType, x_partAlias, x_partHas, x_partDefault, x_bytes, x_numbers, x_list, x_valueType, x_valueNumber, x_valueFrom, x_valueAfter, x_frameValue, x_frameType, x_frameStep, x_frameLeft, x_frameStart, x_addsNothing, x_written, x_pairs, x_pairSeen) (nI v) (nI n) := by
  have H : ∀ m i (o : List Int64) lc a tr, i + m = n → sl_out L o lc a tr → (∀ lc a tr, sl_out L (o ++ sr_by x_bytes m (f + i)) lc a tr → post (x_typeCount, x_byteCount, x_numberCount, lc, tr, x_place, x_valueCount, x_top, x_records, x_writtenCount, x_pairCount, x_kindOf, x_detailOf, x_fallbackOf, x_partCount, x_partName, x_partType, x_partAlias, x_partHas, x_partDefault, x_bytes, x_numbers, a, x_valueType, x_valueNumber, x_valueFrom, x_valueAfter, x_frameValue, x_frameType, x_frameStep, x_frameLeft, x_frameStart, x_addsNothing, x_written, x_pairs, x_pairSeen)) →
      wX_putBytes_2 post (nI v) (nI n) (m + 1) (nI i) x_typeCount x_byteCount x_numberCount lc tr x_place x_valueCount x_top x_records x_writtenCount x_pairCount x_kindOf x_detailOf x_fallbackOf x_partCount x_partName x_partType x_partAlias x_partHas x_partDefault x_bytes x_numbers a x_valueType x_valueNumber x_valueFrom x_valueAfter x_frameValue x_frameType x_frameStep x_frameLeft x_frameStart x_addsNothing x_written x_pairs x_pairSeen := by
    intro m
    induction m with
    | zero =>
      intro i o lc a tr hi h hp
      have hle : n ≤ i := by omega
      simp (disch := omega) only [wX_putBytes_2, hle, forall_eq, nI_leI, nI_ltI, nI_eq, vp_in_nI, nI_clamp, nI_1, li_e0, li_f0, li_l0, li_g0, li_m0, li_h0, li_e1, li_f1, li_l1, li_g1, li_m1, li_h1, li_e2, li_f2, li_l2, li_g2, li_m2, li_h2, li_e3, li_f3, li_l3, li_g3, li_m3, li_h3, li_e4, li_f4, li_l4, li_g4, li_m4, li_h4, li_e5, li_f5, li_l5, li_g5, li_m5, li_h5, li_e6, li_f6, li_l6, li_g6, li_m6, li_h6, li_e7, li_f7, li_l7, li_g7, li_m7, li_h7, li_e8, li_f8, li_l8, li_g8, li_m8, li_h8, li_e9, li_f9, li_l9, li_g9, li_m9, li_h9, li_e10, li_f10, li_l10, li_g10, li_m10, li_h10, li_e15, li_f15, li_l15, li_g15, li_m15, li_h15, li_e16, li_f16, li_l16, li_g16, li_m16, li_h16, li_e20, li_f20, li_l20, li_g20, li_m20, li_h20, li_e40, li_f40, li_l40, li_g40, li_m40, li_h40, li_e100, li_f100, li_l100, li_g100, li_m100, li_h100, li_e128, li_f128, li_l128, li_g128, li_m128, li_h128, li_e150, li_f150, li_l150, li_g150, li_m150, li_h150, li_e255, li_f255, li_l255, li_g255, li_m255, li_h255, li_e400, li_f400, li_l400, li_g400, li_m400, li_h400, li_e410, li_f410, li_l410, li_g410, li_m410, li_h410, li_e420, li_f420, li_l420, li_g420, li_m420, li_h420, li_e2000, li_f2000, li_l2000, li_g2000, li_m2000, li_h2000, li_e8200, li_f8200, li_l8200, li_g8200, li_m8200, li_h8200, li_e1000000, li_f1000000, li_l1000000, li_g1000000, li_m1000000, li_h1000000, li_50, li_50', li_200, li_200', nI_add, li_s1, li_t1, li_c1, li_c2, li_c3, li_c4, li_c5, li_c6, li_c7, li_c8, li_c9, li_c10, li_c11, li_c12, li_c13, li_c14, li_c15, sg_Kat, sg_Pat, pk_us, pk_uLs, true_implies, forall_const, not_true_eq_false, not_false_eq_true, false_implies, and_true, true_and, implies_true, and_self, if_true, if_false, ite_true, ite_false, reduceIte, eq_self, Nat.reduceEqDiff, Nat.reduceLeDiff, Nat.reduceLT, Int32.reduceLT, Int32.reduceLE]
      exact hp lc a tr (by rw [sr_by, List.append_nil]; exact h)
    | succ m ih =>
      intro i o lc a tr hi h hp
      have hlt : ¬ n ≤ i := by omega
      rw [wX_putBytes_2]
      simp (disch := omega) only [hlt, hf, nI_add, forall_eq, nI_leI, nI_ltI, nI_eq, vp_in_nI, nI_clamp, nI_1, li_e0, li_f0, li_l0, li_g0, li_m0, li_h0, li_e1, li_f1, li_l1, li_g1, li_m1, li_h1, li_e2, li_f2, li_l2, li_g2, li_m2, li_h2, li_e3, li_f3, li_l3, li_g3, li_m3, li_h3, li_e4, li_f4, li_l4, li_g4, li_m4, li_h4, li_e5, li_f5, li_l5, li_g5, li_m5, li_h5, li_e6, li_f6, li_l6, li_g6, li_m6, li_h6, li_e7, li_f7, li_l7, li_g7, li_m7, li_h7, li_e8, li_f8, li_l8, li_g8, li_m8, li_h8, li_e9, li_f9, li_l9, li_g9, li_m9, li_h9, li_e10, li_f10, li_l10, li_g10, li_m10, li_h10, li_e15, li_f15, li_l15, li_g15, li_m15, li_h15, li_e16, li_f16, li_l16, li_g16, li_m16, li_h16, li_e20, li_f20, li_l20, li_g20, li_m20, li_h20, li_e40, li_f40, li_l40, li_g40, li_m40, li_h40, li_e100, li_f100, li_l100, li_g100, li_m100, li_h100, li_e128, li_f128, li_l128, li_g128, li_m128, li_h128, li_e150, li_f150, li_l150, li_g150, li_m150, li_h150, li_e255, li_f255, li_l255, li_g255, li_m255, li_h255, li_e400, li_f400, li_l400, li_g400, li_m400, li_h400, li_e410, li_f410, li_l410, li_g410, li_m410, li_h410, li_e420, li_f420, li_l420, li_g420, li_m420, li_h420, li_e2000, li_f2000, li_l2000, li_g2000, li_m2000, li_h2000, li_e8200, li_f8200, li_l8200, li_g8200, li_m8200, li_h8200, li_e1000000, li_f1000000, li_l1000000, li_g1000000, li_m1000000, li_h1000000, li_50, li_50', li_200, li_200', nI_add, li_s1, li_t1, li_c1, li_c2, li_c3, li_c4, li_c5, li_c6, li_c7, li_c8, li_c9, li_c10, li_c11, li_c12, li_c13, li_c14, li_c15, sg_Kat, sg_Pat, pk_us, pk_uLs, true_implies, forall_const, not_true_eq_false, not_false_eq_true, false_implies, and_true, true_and, implies_true, and_self, if_true, if_false, ite_true, ite_false, reduceIte, eq_self, Nat.reduceEqDiff, Nat.reduceLeDiff, Nat.reduceLT, Int32.reduceLT, Int32.reduceLE]
      refine xl_put _ h (fun lc' a' tr' h' => ?_)
      simp (disch := omega) only [forall_eq, nI_leI, nI_ltI, nI_eq, vp_in_nI, nI_clamp, nI_1, li_e0, li_f0, li_l0, li_g0, li_m0, li_h0, li_e1, li_f1, li_l1, li_g1, li_m1, li_h1, li_e2, li_f2, li_l2, li_g2, li_m2, li_h2, li_e3, li_f3, li_l3, li_g3, li_m3, li_h3, li_e4, li_f4, li_l4, li_g4, li_m4, li_h4, li_e5, li_f5, li_l5, li_g5, li_m5, li_h5, li_e6, li_f6, li_l6, li_g6, li_m6, li_h6, li_e7, li_f7, li_l7, li_g7, li_m7, li_h7, li_e8, li_f8, li_l8, li_g8, li_m8, li_h8, li_e9, li_f9, li_l9, li_g9, li_m9, li_h9, li_e10, li_f10, li_l10, li_g10, li_m10, li_h10, li_e15, li_f15, li_l15, li_g15, li_m15, li_h15, li_e16, li_f16, li_l16, li_g16, li_m16, li_h16, li_e20, li_f20, li_l20, li_g20, li_m20, li_h20, li_e40, li_f40, li_l40, li_g40, li_m40, li_h40, li_e100, li_f100, li_l100, li_g100, li_m100, li_h100, li_e128, li_f128, li_l128, li_g128, li_m128, li_h128, li_e150, li_f150, li_l150, li_g150, li_m150, li_h150, li_e255, li_f255, li_l255, li_g255, li_m255, li_h255, li_e400, li_f400, li_l400, li_g400, li_m400, li_h400, li_e410, li_f410, li_l410, li_g410, li_m410, li_h410, li_e420, li_f420, li_l420, li_g420, li_m420, li_h420, li_e2000, li_f2000, li_l2000, li_g2000, li_m2000, li_h2000, li_e8200, li_f8200, li_l8200, li_g8200, li_m8200, li_h8200, li_e1000000, li_f1000000, li_l1000000, li_g1000000, li_m1000000, li_h1000000, li_50, li_50', li_200, li_200', nI_add, li_s1, li_t1, li_c1, li_c2, li_c3, li_c4, li_c5, li_c6, li_c7, li_c8, li_c9, li_c10, li_c11, li_c12, li_c13, li_c14, li_c15, sg_Kat, sg_Pat, pk_us, pk_uLs, true_implies, forall_const, not_true_eq_false, not_false_eq_true, false_implies, and_true, true_and, implies_true, and_self, if_true, if_false, ite_true, ite_false, reduceIte, eq_self, Nat.reduceEqDiff, Nat.reduceLeDiff, Nat.reduceLT, Int32.reduceLT, Int32.reduceLE]
      refine ih (i + 1) _ lc' a' tr' (by omega) h' (fun lc a tr h'' => hp lc a tr ?_)
      rw [sr_by]
      rw [List.append_assoc] at h''
      exact h''
  exact ⟨n + 1, H n 0 o _ _ _ (by omega) h hp⟩
theorem xl_push {T t : Nat} {a1 a3 a4 : Int32} (hg : sg_ok g) (hT : T < 400) (ht : t < 20)
    (hp : post (nI (sg_n g), x_byteCount, x_numberCount, x_listCount, x_trouble, x_place, x_valueCount, nI (T + 1), if sg_k g t = 9 then x_records + 1 else x_records, x_writtenCount, x_pairCount, sg_K g, x_detailOf, sg_f g, sg_P g, x_partName, x_partType, x_partAlias, x_partHas, x_partDefault, x_bytes, x_numbers, x_list, x_valueType, x_valueNumber, x_valueFrom, x_valueAfter, upd x_frameValue T a1, upd x_frameType T (nI t), upd x_frameStep T a3, upd x_frameLeft T a4, upd x_frameStart T x_listCount, x_addsNothing, x_written, x_pairs, x_pairSeen)) :
    wpX_push post (nI (sg_n g), x_byteCount, x_numberCount, x_listCount, x_trouble, x_place, x_valueCount, nI T, x_records, x_writtenCount, x_pairCount, sg_K g, x_detailOf, sg_f g, sg_P g, x_partName, x_partType, x_partAlias, x_partHas, x_partDefault, x_bytes, x_numbers, x_list, x_valueType, x_valueNumber, x_valueFrom, x_valueAfter, x_frameValue, x_frameType, x_frameStep, x_frameLeft, x_frameStart, x_addsNothing, x_written, x_pairs, x_pairSeen) a1 (nI t) a3 a4 := by
  have k1 := hg.2.1 t
  by_cases h9 : sg_k g t = 9
  · rw [if_pos h9] at hp
    simp (disch := omega) only [wpX_push, h9, forall_eq, nI_leI, nI_ltI, nI_eq, vp_in_nI, nI_clamp, nI_1, li_e0, li_f0, li_l0, li_g0, li_m0, li_h0, li_e1, li_f1, li_l1, li_g1, li_m1, li_h1, li_e2, li_f2, li_l2, li_g2, li_m2, li_h2, li_e3, li_f3, li_l3, li_g3, li_m3, li_h3, li_e4, li_f4, li_l4, li_g4, li_m4, li_h4, li_e5, li_f5, li_l5, li_g5, li_m5, li_h5, li_e6, li_f6, li_l6, li_g6, li_m6, li_h6, li_e7, li_f7, li_l7, li_g7, li_m7, li_h7, li_e8, li_f8, li_l8, li_g8, li_m8, li_h8, li_e9, li_f9, li_l9, li_g9, li_m9, li_h9, li_e10, li_f10, li_l10, li_g10, li_m10, li_h10, li_e15, li_f15, li_l15, li_g15, li_m15, li_h15, li_e16, li_f16, li_l16, li_g16, li_m16, li_h16, li_e20, li_f20, li_l20, li_g20, li_m20, li_h20, li_e40, li_f40, li_l40, li_g40, li_m40, li_h40, li_e100, li_f100, li_l100, li_g100, li_m100, li_h100, li_e128, li_f128, li_l128, li_g128, li_m128, li_h128, li_e150, li_f150, li_l150, li_g150, li_m150, li_h150, li_e255, li_f255, li_l255, li_g255, li_m255, li_h255, li_e400, li_f400, li_l400, li_g400, li_m400, li_h400, li_e410, li_f410, li_l410, li_g410, li_m410, li_h410, li_e420, li_f420, li_l420, li_g420, li_m420, li_h420, li_e2000, li_f2000, li_l2000, li_g2000, li_m2000, li_h2000, li_e8200, li_f8200, li_l8200, li_g8200, li_m8200, li_h8200, li_e1000000, li_f1000000, li_l1000000, li_g1000000, li_m1000000, li_h1000000, li_50, li_50', li_200, li_200', nI_add, li_s1, li_t1, li_c1, li_c2, li_c3, li_c4, li_c5, li_c6, li_c7, li_c8, li_c9, li_c10, li_c11, li_c12, li_c13, li_c14, li_c15, sg_Kat, sg_Pat, pk_us, pk_uLs, true_implies, forall_const, not_true_eq_false, not_false_eq_true, false_implies, and_true, true_and, implies_true, and_self, if_true, if_false, ite_true, ite_false, reduceIte, eq_self, Nat.reduceEqDiff, Nat.reduceLeDiff, Nat.reduceLT, Int32.reduceLT, Int32.reduceLE]
    exact hp
  · rw [if_neg h9] at hp
    simp (disch := omega) only [wpX_push, h9, forall_eq, nI_leI, nI_ltI, nI_eq, vp_in_nI, nI_clamp, nI_1, li_e0, li_f0, li_l0, li_g0, li_m0, li_h0, li_e1, li_f1, li_l1, li_g1, li_m1, li_h1, li_e2, li_f2, li_l2, li_g2, li_m2, li_h2, li_e3, li_f3, li_l3, li_g3, li_m3, li_h3, li_e4, li_f4, li_l4, li_g4, li_m4, li_h4, li_e5, li_f5, li_l5, li_g5, li_m5, li_h5, li_e6, li_f6, li_l6, li_g6, li_m6, li_h6, li_e7, li_f7, li_l7, li_g7, li_m7, li_h7, li_e8, li_f8, li_l8, li_g8, li_m8, li_h8, li_e9, li_f9, li_l9, li_g9, li_m9, li_h9, li_e10, li_f10, li_l10, li_g10, li_m10, li_h10, li_e15, li_f15, li_l15, li_g15, li_m15, li_h15, li_e16, li_f16, li_l16, li_g16, li_m16, li_h16, li_e20, li_f20, li_l20, li_g20, li_m20, li_h20, li_e40, li_f40, li_l40, li_g40, li_m40, li_h40, li_e100, li_f100, li_l100, li_g100, li_m100, li_h100, li_e128, li_f128, li_l128, li_g128, li_m128, li_h128, li_e150, li_f150, li_l150, li_g150, li_m150, li_h150, li_e255, li_f255, li_l255, li_g255, li_m255, li_h255, li_e400, li_f400, li_l400, li_g400, li_m400, li_h400, li_e410, li_f410, li_l410, li_g410, li_m410, li_h410, li_e420, li_f420, li_l420, li_g420, li_m420, li_h420, li_e2000, li_f2000, li_l2000, li_g2000, li_m2000, li_h2000, li_e8200, li_f8200, li_l8200, li_g8200, li_m8200, li_h8200, li_e1000000, li_f1000000, li_l1000000, li_g1000000, li_m1000000, li_h1000000, li_50, li_50', li_200, li_200', nI_add, li_s1, li_t1, li_c1, li_c2, li_c3, li_c4, li_c5, li_c6, li_c7, li_c8, li_c9, li_c10, li_c11, li_c12, li_c13, li_c14, li_c15, sg_Kat, sg_Pat, pk_us, pk_uLs, true_implies, forall_const, not_true_eq_false, not_false_eq_true, false_implies, and_true, true_and, implies_true, and_self, if_true, if_false, ite_true, ite_false, reduceIte, eq_self, Nat.reduceEqDiff, Nat.reduceLeDiff, Nat.reduceLT, Int32.reduceLT, Int32.reduceLE]
    exact hp
theorem xl_full (hm : sx_mid g w r it F L x_addsNothing) {e : Int32} {new : List sr_I} {d : Nat} (hs : sr_stp g w it (sx_rc g F) = (O, e, new, d)) (h1 : 150 < L.length + O.length) : sx_bad g w r (-7) :=
  ⟨_, _, _, hm.2.2.2.2.2.2, Or.inr ⟨it, _, rfl, Or.inl ⟨by rw [hs]; exact h1, rfl⟩⟩, by decide⟩
/-- all that the item gives has been put -/
theorem xl_end (hm : sx_mid g w r it F L x_addsNothing) (hf : sx_fr fV fT fS fL fB F) (hs : sr_stp g w it (sx_rc g F) = (O, 0, [], sx_rc g F)) (h : sl_out L O lc a tr) (HOK : ∀ (F' : List sx_F) (L' : List Int64) (a : Nat → Int64) (fV fT fS fL fB : Nat → Int32), sx_inv g w r F' L' x_addsNothing → sx_mu g F' L' x_addsNothing ≤ sx_mu g F L x_addsNothing → sl_is L' a → sx_fr fV fT fS fL fB F' → post (nI (sg_n g), x_byteCount, x_numberCount, nI L'.length, 0, x_place, x_valueCount, nI F'.length, nI (sx_rc g F'), x_writtenCount, x_pairCount, sg_K g, x_detailOf, sg_f g, sg_P g, x_partName, x_partType, x_partAlias, x_partHas, x_partDefault, sv_b w, x_numbers, a, x_valueType, x_valueNumber, x_valueFrom, x_valueAfter, fV, fT, fS, fL, fB, x_addsNothing, x_written, x_pairs, x_pairSeen)) (HTR : ∀ (e : Int32) (lc : Int32) (a : Nat → Int64) (top rc : Int32) (fV fT fS fL fB : Nat → Int32), sx_bad g w r e → post (nI (sg_n g), x_byteCount, x_numberCount, lc, e, x_place, x_valueCount, top, rc, x_writtenCount, x_pairCount, sg_K g, x_detailOf, sg_f g, sg_P g, x_partName, x_partType, x_partAlias, x_partHas, x_partDefault, sv_b w, x_numbers, a, x_valueType, x_valueNumber, x_valueFrom, x_valueAfter, fV, fT, fS, fL, fB, x_addsNothing, x_written, x_pairs, x_pairSeen)) : post (nI (sg_n g), x_byteCount, x_numberCount, lc, tr, x_place, x_valueCount, nI F.length, nI (sx_rc g F), x_writtenCount, x_pairCount, sg_K g, x_detailOf, sg_f g, sg_P g, x_partName, x_partType, x_partAlias, x_partHas, x_partDefault, sv_b w, x_numbers, a, x_valueType, x_valueNumber, x_valueFrom, x_valueAfter, fV, fT, fS, fL, fB, x_addsNothing, x_written, x_pairs, x_pairSeen) := by
  rcases h with ⟨h1, rfl, h3, rfl⟩ | ⟨h1, rfl, rfl⟩
  · obtain ⟨i1, i2⟩ := sx_done hm hs h1
    have h4 := HOK F (L ++ O) a _ _ _ _ _ i1 i2 h3 hf
    rw [List.length_append] at h4
    exact h4
  · exact HTR (-7) _ _ _ _ _ _ _ _ _ (xl_full hm hs h1)
/-- there is trouble -/
theorem xl_bad (hm : sx_mid g w r it F L x_addsNothing) {e : Int32} {new : List sr_I} {d : Nat} (he : ¬ e = 0) (hs : sr_stp g w it (sx_rc g F) = (O, e, new, d)) (h : sl_out L O lc a tr) (HTR : ∀ (e : Int32) (lc : Int32) (a : Nat → Int64) (top rc : Int32) (fV fT fS fL fB : Nat → Int32), sx_bad g w r e → post (nI (sg_n g), x_byteCount, x_numberCount, lc, e, x_place, x_valueCount, top, rc, x_writtenCount, x_pairCount, sg_K g, x_detailOf, sg_f g, sg_P g, x_partName, x_partType, x_partAlias, x_partHas, x_partDefault, sv_b w, x_numbers, a, x_valueType, x_valueNumber, x_valueFrom, x_valueAfter, fV, fT, fS, fL, fB, x_addsNothing, x_written, x_pairs, x_pairSeen)) : wpX_fail post (nI (sg_n g), x_byteCount, x_numberCount, lc, tr, x_place, x_valueCount, nI F.length, nI (sx_rc g F), x_writtenCount, x_pairCount, sg_K g, x_detailOf, sg_f g, sg_P g, x_partName, x_partType, x_partAlias, x_partHas, x_partDefault, sv_b w, x_numbers, a, x_valueType, x_valueNumber, x_valueFrom, x_valueAfter, fV, fT, fS, fL, fB, x_addsNothing, x_written, x_pairs, x_pairSeen) e := by
  rcases h with ⟨h1, rfl, h3, rfl⟩ | ⟨h1, rfl, rfl⟩
  · simp (disch := omega) only [wpX_fail, forall_eq, nI_leI, nI_ltI, nI_eq, vp_in_nI, nI_clamp, nI_1, li_e0, li_f0, li_l0, li_g0, li_m0, li_h0, li_e1, li_f1, li_l1, li_g1, li_m1, li_h1, li_e2, li_f2, li_l2, li_g2, li_m2, li_h2, li_e3, li_f3, li_l3, li_g3, li_m3, li_h3, li_e4, li_f4, li_l4, li_g4, li_m4, li_h4, li_e5, li_f5, li_l5, li_g5, li_m5, li_h5, li_e6, li_f6, li_l6, li_g6, li_m6, li_h6, li_e7, li_f7, li_l7, li_g7, li_m7, li_h7, li_e8, li_f8, li_l8, li_g8, li_m8, li_h8, li_e9, li_f9, li_l9, li_g9, li_m9, li_h9, li_e10, li_f10, li_l10, li_g10, li_m10, li_h10, li_e15, li_f15, li_l15, li_g15, li_m15, li_h15, li_e16, li_f16, li_l16, li_g16, li_m16, li_h16, li_e20, li_f20, li_l20, li_g20, li_m20, li_h20, li_e40, li_f40, li_l40, li_g40, li_m40, li_h40, li_e100, li_f100, li_l100, li_g100, li_m100, li_h100, li_e128, li_f128, li_l128, li_g128, li_m128, li_h128, li_e150, li_f150, li_l150, li_g150, li_m150, li_h150, li_e255, li_f255, li_l255, li_g255, li_m255, li_h255, li_e400, li_f400, li_l400, li_g400, li_m400, li_h400, li_e410, li_f410, li_l410, li_g410, li_m410, li_h410, li_e420, li_f420, li_l420, li_g420, li_m420, li_h420, li_e2000, li_f2000, li_l2000, li_g2000, li_m2000, li_h2000, li_e8200, li_f8200, li_l8200, li_g8200, li_m8200, li_h8200, li_e1000000, li_f1000000, li_l1000000, li_g1000000, li_m1000000, li_h1000000, li_50, li_50', li_200, li_200', nI_add, li_s1, li_t1, li_c1, li_c2, li_c3, li_c4, li_c5, li_c6, li_c7, li_c8, li_c9, li_c10, li_c11, li_c12, li_c13, li_c14, li_c15, sg_Kat, sg_Pat, pk_us, pk_uLs, true_implies, forall_const, not_true_eq_false, not_false_eq_true, false_implies, and_true, true_and, implies_true, and_self, if_true, if_false, ite_true, ite_false, reduceIte, eq_self, Nat.reduceEqDiff, Nat.reduceLeDiff, Nat.reduceLT, Int32.reduceLT, Int32.reduceLE]
    exact HTR e _ _ _ _ _ _ _ _ _ ⟨_, _, _, hm.2.2.2.2.2.2, Or.inr ⟨it, _, rfl, Or.inr ⟨by rw [hs]; exact h1, by rw [hs], he⟩⟩, he⟩
  · simp (disch := omega) only [wpX_fail, forall_eq, nI_leI, nI_ltI, nI_eq, vp_in_nI, nI_clamp, nI_1, li_e0, li_f0, li_l0, li_g0, li_m0, li_h0, li_e1, li_f1, li_l1, li_g1, li_m1, li_h1, li_e2, li_f2, li_l2, li_g2, li_m2, li_h2, li_e3, li_f3, li_l3, li_g3, li_m3, li_h3, li_e4, li_f4, li_l4, li_g4, li_m4, li_h4, li_e5, li_f5, li_l5, li_g5, li_m5, li_h5, li_e6, li_f6, li_l6, li_g6, li_m6, li_h6, li_e7, li_f7, li_l7, li_g7, li_m7, li_h7, li_e8, li_f8, li_l8, li_g8, li_m8, li_h8, li_e9, li_f9, li_l9, li_g9, li_m9, li_h9, li_e10, li_f10, li_l10, li_g10, li_m10, li_h10, li_e15, li_f15, li_l15, li_g15, li_m15, li_h15, li_e16, li_f16, li_l16, li_g16, li_m16, li_h16, li_e20, li_f20, li_l20, li_g20, li_m20, li_h20, li_e40, li_f40, li_l40, li_g40, li_m40, li_h40, li_e100, li_f100, li_l100, li_g100, li_m100, li_h100, li_e128, li_f128, li_l128, li_g128, li_m128, li_h128, li_e150, li_f150, li_l150, li_g150, li_m150, li_h150, li_e255, li_f255, li_l255, li_g255, li_m255, li_h255, li_e400, li_f400, li_l400, li_g400, li_m400, li_h400, li_e410, li_f410, li_l410, li_g410, li_m410, li_h410, li_e420, li_f420, li_l420, li_g420, li_m420, li_h420, li_e2000, li_f2000, li_l2000, li_g2000, li_m2000, li_h2000, li_e8200, li_f8200, li_l8200, li_g8200, li_m8200, li_h8200, li_e1000000, li_f1000000, li_l1000000, li_g1000000, li_m1000000, li_h1000000, li_50, li_50', li_200, li_200', nI_add, li_s1, li_t1, li_c1, li_c2, li_c3, li_c4, li_c5, li_c6, li_c7, li_c8, li_c9, li_c10, li_c11, li_c12, li_c13, li_c14, li_c15, sg_Kat, sg_Pat, pk_us, pk_uLs, true_implies, forall_const, not_true_eq_false, not_false_eq_true, false_implies, and_true, true_and, implies_true, and_self, if_true, if_false, ite_true, ite_false, reduceIte, eq_self, Nat.reduceEqDiff, Nat.reduceLeDiff, Nat.reduceLT, Int32.reduceLT, Int32.reduceLE]
    exact HTR (-7) _ _ _ _ _ _ _ _ _ (xl_full hm hs h1)
theorem xl_fr {f : sx_F} {k : Int32} (hf : sx_fr fV fT fS fL fB F) (hk : k = nI f.2.2.2.2) : sx_fr (upd fV F.length (nI f.1)) (upd fT F.length (nI f.2.1)) (upd fS F.length (nI f.2.2.1)) (upd fL F.length (nI f.2.2.2.1)) (upd fB F.length k) (f :: F) := by
  refine ⟨?_, sx_fr_same (fun i hi => ⟨pk_un (by omega), pk_un (by omega), pk_un (by omega), pk_un (by omega), pk_un (by omega)⟩) hf⟩
  rw [pk_us, pk_us, pk_us, pk_us, pk_us]
  exact ⟨rfl, rfl, rfl, rfl, hk⟩
theorem xl_beginRecord (hg : sg_ok g) (hX : sg_X g x_detailOf x_partName x_partType x_partAlias x_partHas x_partDefault) (hm : sx_mid g w r it F L x_addsNothing) (hf : sx_fr fV fT fS fL fB F) {v t : Nat} (htn : t < sg_n g) (hk : sg_k g t = 9)
    (hv : v < 400 → v < sv_m w ∧ sg_k g (sv_t w v) = 9 ∧ sv_d w v = sx_rc g F) (hv2 : ¬ v < 400 → v = 400 + sx_rc g F) (hlt : ∀ e, e ∈ F → e.1 < v)
    (hs : sr_stp g w it (sx_rc g F) = (O, (sr_rec g w v t (sx_rc g F)).2)) (h : sl_out L O lc a tr) (HOK : ∀ (F' : List sx_F) (L' : List Int64) (a : Nat → Int64) (fV fT fS fL fB : Nat → Int32), sx_inv g w r F' L' x_addsNothing → sx_mu g F' L' x_addsNothing ≤ sx_mu g F L x_addsNothing → sl_is L' a → sx_fr fV fT fS fL fB F' → post (nI (sg_n g), x_byteCount, x_numberCount, nI L'.length, 0, x_place, x_valueCount, nI F'.length, nI (sx_rc g F'), x_writtenCount, x_pairCount, sg_K g, x_detailOf, sg_f g, sg_P g, x_partName, x_partType, x_partAlias, x_partHas, x_partDefault, sv_b w, x_numbers, a, x_valueType, x_valueNumber, x_valueFrom, x_valueAfter, fV, fT, fS, fL, fB, x_addsNothing, x_written, x_pairs, x_pairSeen)) (HTR : ∀ (e : Int32) (lc : Int32) (a : Nat → Int64) (top rc : Int32) (fV fT fS fL fB : Nat → Int32), sx_bad g w r e → post (nI (sg_n g), x_byteCount, x_numberCount, lc, e, x_place, x_valueCount, top, rc, x_writtenCount, x_pairCount, sg_K g, x_detailOf, sg_f g, sg_P g, x_partName, x_partType, x_partAlias, x_partHas, x_partDefault, sv_b w, x_numbers, a, x_valueType, x_valueNumber, x_valueFrom, x_valueAfter, fV, fT, fS, fL, fB, x_addsNothing, x_written, x_pairs, x_pairSeen)) : wpX_beginRecord post (nI (sg_n g), x_byteCount, x_numberCount, lc, tr, x_place, x_valueCount, nI F.length, nI (sx_rc g F), x_writtenCount, x_pairCount, sg_K g, x_detailOf, sg_f g, sg_P g, x_partName, x_partType, x_partAlias, x_partHas, x_partDefault, sv_b w, x_numbers, a, x_valueType, x_valueNumber, x_valueFrom, x_valueAfter, fV, fT, fS, fL, fB, x_addsNothing, x_written, x_pairs, x_pairSeen) (nI v) (nI t) := by
  have hn := hg.1
  have h10 := hm.2.1
  have hlen := hm.2.2.1
  have hL := hm.2.2.2.1
  have hp5 := hg.2.2.1 t
  unfold sr_rec at hs
  by_cases hd : sx_rc g F = 10
  · rw [if_pos hd] at hs
    have H := xl_bad (fV := fV) (fT := fT) (fS := fS) (fL := fL) (fB := fB) hm (e := -5) (by decide) hs h HTR
    simp (disch := omega) only [wpX_beginRecord, hd, forall_eq, nI_leI, nI_ltI, nI_eq, vp_in_nI, nI_clamp, nI_1, li_e0, li_f0, li_l0, li_g0, li_m0, li_h0, li_e1, li_f1, li_l1, li_g1, li_m1, li_h1, li_e2, li_f2, li_l2, li_g2, li_m2, li_h2, li_e3, li_f3, li_l3, li_g3, li_m3, li_h3, li_e4, li_f4, li_l4, li_g4, li_m4, li_h4, li_e5, li_f5, li_l5, li_g5, li_m5, li_h5, li_e6, li_f6, li_l6, li_g6, li_m6, li_h6, li_e7, li_f7, li_l7, li_g7, li_m7, li_h7, li_e8, li_f8, li_l8, li_g8, li_m8, li_h8, li_e9, li_f9, li_l9, li_g9, li_m9, li_h9, li_e10, li_f10, li_l10, li_g10, li_m10, li_h10, li_e15, li_f15, li_l15, li_g15, li_m15, li_h15, li_e16, li_f16, li_l16, li_g16, li_m16, li_h16, li_e20, li_f20, li_l20, li_g20, li_m20, li_h20, li_e40, li_f40, li_l40, li_g40, li_m40, li_h40, li_e100, li_f100, li_l100, li_g100, li_m100, li_h100, li_e128, li_f128, li_l128, li_g128, li_m128, li_h128, li_e150, li_f150, li_l150, li_g150, li_m150, li_h150, li_e255, li_f255, li_l255, li_g255, li_m255, li_h255, li_e400, li_f400, li_l400, li_g400, li_m400, li_h400, li_e410, li_f410, li_l410, li_g410, li_m410, li_h410, li_e420, li_f420, li_l420, li_g420, li_m420, li_h420, li_e2000, li_f2000, li_l2000, li_g2000, li_m2000, li_h2000, li_e8200, li_f8200, li_l8200, li_g8200, li_m8200, li_h8200, li_e1000000, li_f1000000, li_l1000000, li_g1000000, li_m1000000, li_h1000000, li_50, li_50', li_200, li_200', nI_add, li_s1, li_t1, li_c1, li_c2, li_c3, li_c4, li_c5, li_c6, li_c7, li_c8, li_c9, li_c10, li_c11, li_c12, li_c13, li_c14, li_c15, sg_Kat, sg_Pat, pk_us, pk_uLs, true_implies, forall_const, not_true_eq_false, not_false_eq_true, false_implies, and_true, true_and, implies_true, and_self, if_true, if_false, ite_true, ite_false, reduceIte, eq_self, Nat.reduceEqDiff, Nat.reduceLeDiff, Nat.reduceLT, Int32.reduceLT, Int32.reduceLE]
    rw [hd] at H
    exact H
  · rw [if_neg hd] at hs
    have hv410 : v < 410 := by
      by_cases h4 : v < 400
      · omega
      · have := hv2 h4; omega
    have hi : 20 * v + t < 8200 := by omega
    have e6 : (if v < 400 then sv_d w v else v - 400) = sx_rc g F := by
      by_cases h400 : v < 400
      · rw [if_pos h400]; exact (hv h400).2.2
      · rw [if_neg h400]; have := hv2 h400; omega
    by_cases hmk : x_addsNothing (20 * v + t) = 0
    · simp (disch := omega) only [wpX_beginRecord, hd, hmk, forall_eq, nI_leI, nI_ltI, nI_eq, vp_in_nI, nI_clamp, nI_1, li_e0, li_f0, li_l0, li_g0, li_m0, li_h0, li_e1, li_f1, li_l1, li_g1, li_m1, li_h1, li_e2, li_f2, li_l2, li_g2, li_m2, li_h2, li_e3, li_f3, li_l3, li_g3, li_m3, li_h3, li_e4, li_f4, li_l4, li_g4, li_m4, li_h4, li_e5, li_f5, li_l5, li_g5, li_m5, li_h5, li_e6, li_f6, li_l6, li_g6, li_m6, li_h6, li_e7, li_f7, li_l7, li_g7, li_m7, li_h7, li_e8, li_f8, li_l8, li_g8, li_m8, li_h8, li_e9, li_f9, li_l9, li_g9, li_m9, li_h9, li_e10, li_f10, li_l10, li_g10, li_m10, li_h10, li_e15, li_f15, li_l15, li_g15, li_m15, li_h15, li_e16, li_f16, li_l16, li_g16, li_m16, li_h16, li_e20, li_f20, li_l20, li_g20, li_m20, li_h20, li_e40, li_f40, li_l40, li_g40, li_m40, li_h40, li_e100, li_f100, li_l100, li_g100, li_m100, li_h100, li_e128, li_f128, li_l128, li_g128, li_m128, li_h128, li_e150, li_f150, li_l150, li_g150, li_m150, li_h150, li_e255, li_f255, li_l255, li_g255, li_m255, li_h255, li_e400, li_f400, li_l400, li_g400, li_m400, li_h400, li_e410, li_f410, li_l410, li_g410, li_m410, li_h410, li_e420, li_f420, li_l420, li_g420, li_m420, li_h420, li_e2000, li_f2000, li_l2000, li_g2000, li_m2000, li_h2000, li_e8200, li_f8200, li_l8200, li_g8200, li_m8200, li_h8200, li_e1000000, li_f1000000, li_l1000000, li_g1000000, li_m1000000, li_h1000000, li_50, li_50', li_200, li_200', nI_add, li_s1, li_t1, li_c1, li_c2, li_c3, li_c4, li_c5, li_c6, li_c7, li_c8, li_c9, li_c10, li_c11, li_c12, li_c13, li_c14, li_c15, sg_Kat, sg_Pat, pk_us, pk_uLs, true_implies, forall_const, not_true_eq_false, not_false_eq_true, false_implies, and_true, true_and, implies_true, and_self, if_true, if_false, ite_true, ite_false, reduceIte, eq_self, Nat.reduceEqDiff, Nat.reduceLeDiff, Nat.reduceLT, Int32.reduceLT, Int32.reduceLE]
      refine xl_push hg (by omega) (by omega) ?_
      rw [if_pos hk]
      simp (disch := omega) only [forall_eq, nI_leI, nI_ltI, nI_eq, vp_in_nI, nI_clamp, nI_1, li_e0, li_f0, li_l0, li_g0, li_m0, li_h0, li_e1, li_f1, li_l1, li_g1, li_m1, li_h1, li_e2, li_f2, li_l2, li_g2, li_m2, li_h2, li_e3, li_f3, li_l3, li_g3, li_m3, li_h3, li_e4, li_f4, li_l4, li_g4, li_m4, li_h4, li_e5, li_f5, li_l5, li_g5, li_m5, li_h5, li_e6, li_f6, li_l6, li_g6, li_m6, li_h6, li_e7, li_f7, li_l7, li_g7, li_m7, li_h7, li_e8, li_f8, li_l8, li_g8, li_m8, li_h8, li_e9, li_f9, li_l9, li_g9, li_m9, li_h9, li_e10, li_f10, li_l10, li_g10, li_m10, li_h10, li_e15, li_f15, li_l15, li_g15, li_m15, li_h15, li_e16, li_f16, li_l16, li_g16, li_m16, li_h16, li_e20, li_f20, li_l20, li_g20, li_m20, li_h20, li_e40, li_f40, li_l40, li_g40, li_m40, li_h40, li_e100, li_f100, li_l100, li_g100, li_m100, li_h100, li_e128, li_f128, li_l128, li_g128, li_m128, li_h128, li_e150, li_f150, li_l150, li_g150, li_m150, li_h150, li_e255, li_f255, li_l255, li_g255, li_m255, li_h255, li_e400, li_f400, li_l400, li_g400, li_m400, li_h400, li_e410, li_f410, li_l410, li_g410, li_m410, li_h410, li_e420, li_f420, li_l420, li_g420, li_m420, li_h420, li_e2000, li_f2000, li_l2000, li_g2000, li_m2000, li_h2000, li_e8200, li_f8200, li_l8200, li_g8200, li_m8200, li_h8200, li_e1000000, li_f1000000, li_l1000000, li_g1000000, li_m1000000, li_h1000000, li_50, li_50', li_200, li_200', nI_add, li_s1, li_t1, li_c1, li_c2, li_c3, li_c4, li_c5, li_c6, li_c7, li_c8, li_c9, li_c10, li_c11, li_c12, li_c13, li_c14, li_c15, sg_Kat, sg_Pat, pk_us, pk_uLs, true_implies, forall_const, not_true_eq_false, not_false_eq_true, false_implies, and_true, true_and, implies_true, and_self, if_true, if_false, ite_true, ite_false, reduceIte, eq_self, Nat.reduceEqDiff, Nat.reduceLeDiff, Nat.reduceLT, Int32.reduceLT, Int32.reduceLE]
      rcases h with ⟨h1, rfl, h3, rfl⟩ | ⟨h1, rfl, rfl⟩
      · have hll : (L ++ O).length = L.length + O.length := List.length_append
        have e7 : sx_rc g ((v, t, 0, sg_p g t, L.length + O.length) :: F) = sx_rc g F + 1 := by
          rw [sx_rc, if_pos (show sg_k g (v, t, 0, sg_p g t, L.length + O.length).2.1 = 9 from hk)]
        obtain ⟨i1, i2⟩ := sx_push hm (f := (v, t, 0, sg_p g t, L.length + O.length)) hs h1
          (by rw [sx_seg, if_neg (show ¬ sg_k g (v, t, 0, sg_p g t, L.length + O.length).2.1 = 7 from (by dsimp only; omega))]) (by rw [hll])
          ⟨htn, by rw [hll]; exact Nat.le_refl _, hlt, Or.inr ⟨hk, by dsimp only; omega, hmk, hv, hv2⟩⟩ e7.symm (by omega) (Or.inl ⟨hk, rfl, rfl, hp5⟩)
        have h4 := HOK _ (L ++ O) a _ _ _ _ _ i1 i2 h3 (xl_fr hf (f := (v, t, 0, sg_p g t, L.length + O.length)) rfl)
        rw [hll, e7] at h4
        exact h4
      · exact HTR (-7) _ _ _ _ _ _ _ _ _ (xl_full hm hs h1)
    · simp (disch := omega) only [wpX_beginRecord, hd, hmk, forall_eq, nI_leI, nI_ltI, nI_eq, vp_in_nI, nI_clamp, nI_1, li_e0, li_f0, li_l0, li_g0, li_m0, li_h0, li_e1, li_f1, li_l1, li_g1, li_m1, li_h1, li_e2, li_f2, li_l2, li_g2, li_m2, li_h2, li_e3, li_f3, li_l3, li_g3, li_m3, li_h3, li_e4, li_f4, li_l4, li_g4, li_m4, li_h4, li_e5, li_f5, li_l5, li_g5, li_m5, li_h5, li_e6, li_f6, li_l6, li_g6, li_m6, li_h6, li_e7, li_f7, li_l7, li_g7, li_m7, li_h7, li_e8, li_f8, li_l8, li_g8, li_m8, li_h8, li_e9, li_f9, li_l9, li_g9, li_m9, li_h9, li_e10, li_f10, li_l10, li_g10, li_m10, li_h10, li_e15, li_f15, li_l15, li_g15, li_m15, li_h15, li_e16, li_f16, li_l16, li_g16, li_m16, li_h16, li_e20, li_f20, li_l20, li_g20, li_m20, li_h20, li_e40, li_f40, li_l40, li_g40, li_m40, li_h40, li_e100, li_f100, li_l100, li_g100, li_m100, li_h100, li_e128, li_f128, li_l128, li_g128, li_m128, li_h128, li_e150, li_f150, li_l150, li_g150, li_m150, li_h150, li_e255, li_f255, li_l255, li_g255, li_m255, li_h255, li_e400, li_f400, li_l400, li_g400, li_m400, li_h400, li_e410, li_f410, li_l410, li_g410, li_m410, li_h410, li_e420, li_f420, li_l420, li_g420, li_m420, li_h420, li_e2000, li_f2000, li_l2000, li_g2000, li_m2000, li_h2000, li_e8200, li_f8200, li_l8200, li_g8200, li_m8200, li_h8200, li_e1000000, li_f1000000, li_l1000000, li_g1000000, li_m1000000, li_h1000000, li_50, li_50', li_200, li_200', nI_add, li_s1, li_t1, li_c1, li_c2, li_c3, li_c4, li_c5, li_c6, li_c7, li_c8, li_c9, li_c10, li_c11, li_c12, li_c13, li_c14, li_c15, sg_Kat, sg_Pat, pk_us, pk_uLs, true_implies, forall_const, not_true_eq_false, not_false_eq_true, false_implies, and_true, true_and, implies_true, and_self, if_true, if_false, ite_true, ite_false, reduceIte, eq_self, Nat.reduceEqDiff, Nat.reduceLeDiff, Nat.reduceLT, Int32.reduceLT, Int32.reduceLE]
      rcases h with ⟨h1, rfl, h3, rfl⟩ | ⟨h1, rfl, rfl⟩
      · have hq := hm.2.2.2.2.2.1.1 v t hv410 htn hmk
        rw [e6] at hq
        obtain ⟨i1, i2⟩ := sx_skip hm hs h1 hq
        have h4 := HOK F (L ++ O) a _ _ _ _ _ i1 i2 h3 hf
        rw [List.length_append] at h4
        exact h4
      · exact HTR (-7) _ _ _ _ _ _ _ _ _ (xl_full hm hs h1)
theorem xl_putValue (hg : sg_ok g) (hX : sg_X g x_detailOf x_partName x_partType x_partAlias x_partHas x_partDefault) (hw : sv_ok g w) (ht : sx_tree g w x_valueType x_valueFrom x_valueAfter x_valueNumber) (hm : sx_mid g w r it F L x_addsNothing) (hf : sx_fr fV fT fS fL fB F) {v t : Nat} {o : List Int64} (htn : t < sg_n g) (h8 : ¬ sg_k g t = 8) (hvm : v < sv_m w) (hsu : sg_su g (sv_t w v) t = true) (hdv : sv_d w v = sx_rc g F) (hlt : ∀ e, e ∈ F → e.1 < v)
    (hs : sr_stp g w it (sx_rc g F) = (o ++ (sr_val g w v t (sx_rc g F)).1, (sr_val g w v t (sx_rc g F)).2)) (h : sl_out L o lc a tr) (HOK : ∀ (F' : List sx_F) (L' : List Int64) (a : Nat → Int64) (fV fT fS fL fB : Nat → Int32), sx_inv g w r F' L' x_addsNothing → sx_mu g F' L' x_addsNothing ≤ sx_mu g F L x_addsNothing → sl_is L' a → sx_fr fV fT fS fL fB F' → post (nI (sg_n g), x_byteCount, x_numberCount, nI L'.length, 0, x_place, x_valueCount, nI F'.length, nI (sx_rc g F'), x_writtenCount, x_pairCount, sg_K g, x_detailOf, sg_f g, sg_P g, x_partName, x_partType, x_partAlias, x_partHas, x_partDefault, sv_b w, x_numbers, a, x_valueType, x_valueNumber, x_valueFrom, x_valueAfter, fV, fT, fS, fL, fB, x_addsNothing, x_written, x_pairs, x_pairSeen)) (HTR : ∀ (e : Int32) (lc : Int32) (a : Nat → Int64) (top rc : Int32) (fV fT fS fL fB : Nat → Int32), sx_bad g w r e → post (nI (sg_n g), x_byteCount, x_numberCount, lc, e, x_place, x_valueCount, top, rc, x_writtenCount, x_pairCount, sg_K g, x_detailOf, sg_f g, sg_P g, x_partName, x_partType, x_partAlias, x_partHas, x_partDefault, sv_b w, x_numbers, a, x_valueType, x_valueNumber, x_valueFrom, x_valueAfter, fV, fT, fS, fL, fB, x_addsNothing, x_written, x_pairs, x_pairSeen)) : wpX_putValue post (nI (sg_n g), x_byteCount, x_numberCount, lc, tr, x_place, x_valueCount, nI F.length, nI (sx_rc g F), x_writtenCount, x_pairCount, sg_K g, x_detailOf, sg_f g, sg_P g, x_partName, x_partType, x_partAlias, x_partHas, x_partDefault, sv_b w, x_numbers, a, x_valueType, x_valueNumber, x_valueFrom, x_valueAfter, fV, fT, fS, fL, fB, x_addsNothing, x_written, x_pairs, x_pairSeen) (nI v) (nI t) := by
  have hn := hg.1
  have k9 := hg.2.1 t
  have hm4 := hw.1
  obtain ⟨t1, t2, t3, t4⟩ := ht v hvm
  obtain ⟨w1, w2, w3, w4, w5, w6, w7, w8, w9, w10⟩ := hw.2 v hvm
  have hsk := sr_su_k hsu
  unfold sr_val at hs
  by_cases h4 : sg_k g t = 4
  · rw [if_pos h4] at hs
    have e4 : sg_k g (sv_t w v) = 4 := by omega
    obtain ⟨c, c1, c2, c3⟩ := w6 e4
    have cf := t4 (Or.inl e4)
    have ec : (sv_n w v).toInt32.toNatClampNeg = c := by rw [c2, lN_i, nI_clamp (by omega)]
    rw [ec] at hs
    simp (disch := omega) only [wpX_putValue, h4, t2, forall_eq, nI_leI, nI_ltI, nI_eq, vp_in_nI, nI_clamp, nI_1, li_e0, li_f0, li_l0, li_g0, li_m0, li_h0, li_e1, li_f1, li_l1, li_g1, li_m1, li_h1, li_e2, li_f2, li_l2, li_g2, li_m2, li_h2, li_e3, li_f3, li_l3, li_g3, li_m3, li_h3, li_e4, li_f4, li_l4, li_g4, li_m4, li_h4, li_e5, li_f5, li_l5, li_g5, li_m5, li_h5, li_e6, li_f6, li_l6, li_g6, li_m6, li_h6, li_e7, li_f7, li_l7, li_g7, li_m7, li_h7, li_e8, li_f8, li_l8, li_g8, li_m8, li_h8, li_e9, li_f9, li_l9, li_g9, li_m9, li_h9, li_e10, li_f10, li_l10, li_g10, li_m10, li_h10, li_e15, li_f15, li_l15, li_g15, li_m15, li_h15, li_e16, li_f16, li_l16, li_g16, li_m16, li_h16, li_e20, li_f20, li_l20, li_g20, li_m20, li_h20, li_e40, li_f40, li_l40, li_g40, li_m40, li_h40, li_e100, li_f100, li_l100, li_g100, li_m100, li_h100, li_e128, li_f128, li_l128, li_g128, li_m128, li_h128, li_e150, li_f150, li_l150, li_g150, li_m150, li_h150, li_e255, li_f255, li_l255, li_g255, li_m255, li_h255, li_e400, li_f400, li_l400, li_g400, li_m400, li_h400, li_e410, li_f410, li_l410, li_g410, li_m410, li_h410, li_e420, li_f420, li_l420, li_g420, li_m420, li_h420, li_e2000, li_f2000, li_l2000, li_g2000, li_m2000, li_h2000, li_e8200, li_f8200, li_l8200, li_g8200, li_m8200, li_h8200, li_e1000000, li_f1000000, li_l1000000, li_g1000000, li_m1000000, li_h1000000, li_50, li_50', li_200, li_200', nI_add, li_s1, li_t1, li_c1, li_c2, li_c3, li_c4, li_c5, li_c6, li_c7, li_c8, li_c9, li_c10, li_c11, li_c12, li_c13, li_c14, li_c15, sg_Kat, sg_Pat, pk_us, pk_uLs, true_implies, forall_const, not_true_eq_false, not_false_eq_true, false_implies, and_true, true_and, implies_true, and_self, if_true, if_false, ite_true, ite_false, reduceIte, eq_self, Nat.reduceEqDiff, Nat.reduceLeDiff, Nat.reduceLT, Int32.reduceLT, Int32.reduceLE]
    refine xl_put _ h (fun lc a tr h' => ?_)
    simp (disch := omega) only [t2, c2, lN_i, forall_eq, nI_leI, nI_ltI, nI_eq, vp_in_nI, nI_clamp, nI_1, li_e0, li_f0, li_l0, li_g0, li_m0, li_h0, li_e1, li_f1, li_l1, li_g1, li_m1, li_h1, li_e2, li_f2, li_l2, li_g2, li_m2, li_h2, li_e3, li_f3, li_l3, li_g3, li_m3, li_h3, li_e4, li_f4, li_l4, li_g4, li_m4, li_h4, li_e5, li_f5, li_l5, li_g5, li_m5, li_h5, li_e6, li_f6, li_l6, li_g6, li_m6, li_h6, li_e7, li_f7, li_l7, li_g7, li_m7, li_h7, li_e8, li_f8, li_l8, li_g8, li_m8, li_h8, li_e9, li_f9, li_l9, li_g9, li_m9, li_h9, li_e10, li_f10, li_l10, li_g10, li_m10, li_h10, li_e15, li_f15, li_l15, li_g15, li_m15, li_h15, li_e16, li_f16, li_l16, li_g16, li_m16, li_h16, li_e20, li_f20, li_l20, li_g20, li_m20, li_h20, li_e40, li_f40, li_l40, li_g40, li_m40, li_h40, li_e100, li_f100, li_l100, li_g100, li_m100, li_h100, li_e128, li_f128, li_l128, li_g128, li_m128, li_h128, li_e150, li_f150, li_l150, li_g150, li_m150, li_h150, li_e255, li_f255, li_l255, li_g255, li_m255, li_h255, li_e400, li_f400, li_l400, li_g400, li_m400, li_h400, li_e410, li_f410, li_l410, li_g410, li_m410, li_h410, li_e420, li_f420, li_l420, li_g420, li_m420, li_h420, li_e2000, li_f2000, li_l2000, li_g2000, li_m2000, li_h2000, li_e8200, li_f8200, li_l8200, li_g8200, li_m8200, li_h8200, li_e1000000, li_f1000000, li_l1000000, li_g1000000, li_m1000000, li_h1000000, li_50, li_50', li_200, li_200', nI_add, li_s1, li_t1, li_c1, li_c2, li_c3, li_c4, li_c5, li_c6, li_c7, li_c8, li_c9, li_c10, li_c11, li_c12, li_c13, li_c14, li_c15, sg_Kat, sg_Pat, pk_us, pk_uLs, true_implies, forall_const, not_true_eq_false, not_false_eq_true, false_implies, and_true, true_and, implies_true, and_self, if_true, if_false, ite_true, ite_false, reduceIte, eq_self, Nat.reduceEqDiff, Nat.reduceLeDiff, Nat.reduceLT, Int32.reduceLT, Int32.reduceLE]
    refine xl_putBytes (f := sv_f w v) (by omega) cf (by omega) h' (fun lc a tr h'' => ?_)
    rw [List.append_assoc] at h''
    exact xl_end hm hf hs h'' HOK HTR
  rw [if_neg h4] at hs
  by_cases h5 : sg_k g t = 5
  · rw [if_pos h5] at hs
    simp (disch := omega) only [wpX_putValue, wpX_putSymbol, wX_putSymbol_20, h5, t2, forall_eq, nI_leI, nI_ltI, nI_eq, vp_in_nI, nI_clamp, nI_1, li_e0, li_f0, li_l0, li_g0, li_m0, li_h0, li_e1, li_f1, li_l1, li_g1, li_m1, li_h1, li_e2, li_f2, li_l2, li_g2, li_m2, li_h2, li_e3, li_f3, li_l3, li_g3, li_m3, li_h3, li_e4, li_f4, li_l4, li_g4, li_m4, li_h4, li_e5, li_f5, li_l5, li_g5, li_m5, li_h5, li_e6, li_f6, li_l6, li_g6, li_m6, li_h6, li_e7, li_f7, li_l7, li_g7, li_m7, li_h7, li_e8, li_f8, li_l8, li_g8, li_m8, li_h8, li_e9, li_f9, li_l9, li_g9, li_m9, li_h9, li_e10, li_f10, li_l10, li_g10, li_m10, li_h10, li_e15, li_f15, li_l15, li_g15, li_m15, li_h15, li_e16, li_f16, li_l16, li_g16, li_m16, li_h16, li_e20, li_f20, li_l20, li_g20, li_m20, li_h20, li_e40, li_f40, li_l40, li_g40, li_m40, li_h40, li_e100, li_f100, li_l100, li_g100, li_m100, li_h100, li_e128, li_f128, li_l128, li_g128, li_m128, li_h128, li_e150, li_f150, li_l150, li_g150, li_m150, li_h150, li_e255, li_f255, li_l255, li_g255, li_m255, li_h255, li_e400, li_f400, li_l400, li_g400, li_m400, li_h400, li_e410, li_f410, li_l410, li_g410, li_m410, li_h410, li_e420, li_f420, li_l420, li_g420, li_m420, li_h420, li_e2000, li_f2000, li_l2000, li_g2000, li_m2000, li_h2000, li_e8200, li_f8200, li_l8200, li_g8200, li_m8200, li_h8200, li_e1000000, li_f1000000, li_l1000000, li_g1000000, li_m1000000, li_h1000000, li_50, li_50', li_200, li_200', nI_add, li_s1, li_t1, li_c1, li_c2, li_c3, li_c4, li_c5, li_c6, li_c7, li_c8, li_c9, li_c10, li_c11, li_c12, li_c13, li_c14, li_c15, sg_Kat, sg_Pat, pk_us, pk_uLs, true_implies, forall_const, not_true_eq_false, not_false_eq_true, false_implies, and_true, true_and, implies_true, and_self, if_true, if_false, ite_true, ite_false, reduceIte, eq_self, Nat.reduceEqDiff, Nat.reduceLeDiff, Nat.reduceLT, Int32.reduceLT, Int32.reduceLE]
    refine xt_partNamed hg hX htn (by omega) _ ?_
    by_cases e : sg_find g t (sv_n w v).toInt32 = none
    · rw [if_pos e] at hs
      rw [e]
      by_cases e2 : sg_f g t = -1
      · rw [if_pos e2, List.append_nil] at hs
        simp (disch := omega) only [sd_oi, e2, forall_eq, nI_leI, nI_ltI, nI_eq, vp_in_nI, nI_clamp, nI_1, li_e0, li_f0, li_l0, li_g0, li_m0, li_h0, li_e1, li_f1, li_l1, li_g1, li_m1, li_h1, li_e2, li_f2, li_l2, li_g2, li_m2, li_h2, li_e3, li_f3, li_l3, li_g3, li_m3, li_h3, li_e4, li_f4, li_l4, li_g4, li_m4, li_h4, li_e5, li_f5, li_l5, li_g5, li_m5, li_h5, li_e6, li_f6, li_l6, li_g6, li_m6, li_h6, li_e7, li_f7, li_l7, li_g7, li_m7, li_h7, li_e8, li_f8, li_l8, li_g8, li_m8, li_h8, li_e9, li_f9, li_l9, li_g9, li_m9, li_h9, li_e10, li_f10, li_l10, li_g10, li_m10, li_h10, li_e15, li_f15, li_l15, li_g15, li_m15, li_h15, li_e16, li_f16, li_l16, li_g16, li_m16, li_h16, li_e20, li_f20, li_l20, li_g20, li_m20, li_h20, li_e40, li_f40, li_l40, li_g40, li_m40, li_h40, li_e100, li_f100, li_l100, li_g100, li_m100, li_h100, li_e128, li_f128, li_l128, li_g128, li_m128, li_h128, li_e150, li_f150, li_l150, li_g150, li_m150, li_h150, li_e255, li_f255, li_l255, li_g255, li_m255, li_h255, li_e400, li_f400, li_l400, li_g400, li_m400, li_h400, li_e410, li_f410, li_l410, li_g410, li_m410, li_h410, li_e420, li_f420, li_l420, li_g420, li_m420, li_h420, li_e2000, li_f2000, li_l2000, li_g2000, li_m2000, li_h2000, li_e8200, li_f8200, li_l8200, li_g8200, li_m8200, li_h8200, li_e1000000, li_f1000000, li_l1000000, li_g1000000, li_m1000000, li_h1000000, li_50, li_50', li_200, li_200', nI_add, li_s1, li_t1, li_c1, li_c2, li_c3, li_c4, li_c5, li_c6, li_c7, li_c8, li_c9, li_c10, li_c11, li_c12, li_c13, li_c14, li_c15, sg_Kat, sg_Pat, pk_us, pk_uLs, true_implies, forall_const, not_true_eq_false, not_false_eq_true, false_implies, and_true, true_and, implies_true, and_self, if_true, if_false, ite_true, ite_false, reduceIte, eq_self, Nat.reduceEqDiff, Nat.reduceLeDiff, Nat.reduceLT, Int32.reduceLT, Int32.reduceLE]
        exact xl_bad hm (by decide) hs h HTR
      · rw [if_neg e2] at hs
        simp (disch := omega) only [sd_oi, e2, forall_eq, nI_leI, nI_ltI, nI_eq, vp_in_nI, nI_clamp, nI_1, li_e0, li_f0, li_l0, li_g0, li_m0, li_h0, li_e1, li_f1, li_l1, li_g1, li_m1, li_h1, li_e2, li_f2, li_l2, li_g2, li_m2, li_h2, li_e3, li_f3, li_l3, li_g3, li_m3, li_h3, li_e4, li_f4, li_l4, li_g4, li_m4, li_h4, li_e5, li_f5, li_l5, li_g5, li_m5, li_h5, li_e6, li_f6, li_l6, li_g6, li_m6, li_h6, li_e7, li_f7, li_l7, li_g7, li_m7, li_h7, li_e8, li_f8, li_l8, li_g8, li_m8, li_h8, li_e9, li_f9, li_l9, li_g9, li_m9, li_h9, li_e10, li_f10, li_l10, li_g10, li_m10, li_h10, li_e15, li_f15, li_l15, li_g15, li_m15, li_h15, li_e16, li_f16, li_l16, li_g16, li_m16, li_h16, li_e20, li_f20, li_l20, li_g20, li_m20, li_h20, li_e40, li_f40, li_l40, li_g40, li_m40, li_h40, li_e100, li_f100, li_l100, li_g100, li_m100, li_h100, li_e128, li_f128, li_l128, li_g128, li_m128, li_h128, li_e150, li_f150, li_l150, li_g150, li_m150, li_h150, li_e255, li_f255, li_l255, li_g255, li_m255, li_h255, li_e400, li_f400, li_l400, li_g400, li_m400, li_h400, li_e410, li_f410, li_l410, li_g410, li_m410, li_h410, li_e420, li_f420, li_l420, li_g420, li_m420, li_h420, li_e2000, li_f2000, li_l2000, li_g2000, li_m2000, li_h2000, li_e8200, li_f8200, li_l8200, li_g8200, li_m8200, li_h8200, li_e1000000, li_f1000000, li_l1000000, li_g1000000, li_m1000000, li_h1000000, li_50, li_50', li_200, li_200', nI_add, li_s1, li_t1, li_c1, li_c2, li_c3, li_c4, li_c5, li_c6, li_c7, li_c8, li_c9, li_c10, li_c11, li_c12, li_c13, li_c14, li_c15, sg_Kat, sg_Pat, pk_us, pk_uLs, true_implies, forall_const, not_true_eq_false, not_false_eq_true, false_implies, and_true, true_and, implies_true, and_self, if_true, if_false, ite_true, ite_false, reduceIte, eq_self, Nat.reduceEqDiff, Nat.reduceLeDiff, Nat.reduceLT, Int32.reduceLT, Int32.reduceLE]
        refine xl_put _ h (fun lc a tr h' => ?_)
        exact xl_end hm hf hs h' HOK HTR
    · rw [if_neg e] at hs
      obtain ⟨c, c1, c2⟩ := w7 (by omega)
      have en : ¬ sd_oi (sg_find g t (sv_n w v).toInt32) = -1 := by
        intro z
        have hp5 := hg.2.2.1 t
        exact e ((sd_oi_none (fun k hk => by have := sg_find_lt hk; omega)).mp z)
      have en2 : ¬ (sv_n w v).toInt32 = -1 := by
        rw [c2, lN_i]; exact li_neg (by omega)
      simp (disch := omega) only [en, en2, forall_eq, nI_leI, nI_ltI, nI_eq, vp_in_nI, nI_clamp, nI_1, li_e0, li_f0, li_l0, li_g0, li_m0, li_h0, li_e1, li_f1, li_l1, li_g1, li_m1, li_h1, li_e2, li_f2, li_l2, li_g2, li_m2, li_h2, li_e3, li_f3, li_l3, li_g3, li_m3, li_h3, li_e4, li_f4, li_l4, li_g4, li_m4, li_h4, li_e5, li_f5, li_l5, li_g5, li_m5, li_h5, li_e6, li_f6, li_l6, li_g6, li_m6, li_h6, li_e7, li_f7, li_l7, li_g7, li_m7, li_h7, li_e8, li_f8, li_l8, li_g8, li_m8, li_h8, li_e9, li_f9, li_l9, li_g9, li_m9, li_h9, li_e10, li_f10, li_l10, li_g10, li_m10, li_h10, li_e15, li_f15, li_l15, li_g15, li_m15, li_h15, li_e16, li_f16, li_l16, li_g16, li_m16, li_h16, li_e20, li_f20, li_l20, li_g20, li_m20, li_h20, li_e40, li_f40, li_l40, li_g40, li_m40, li_h40, li_e100, li_f100, li_l100, li_g100, li_m100, li_h100, li_e128, li_f128, li_l128, li_g128, li_m128, li_h128, li_e150, li_f150, li_l150, li_g150, li_m150, li_h150, li_e255, li_f255, li_l255, li_g255, li_m255, li_h255, li_e400, li_f400, li_l400, li_g400, li_m400, li_h400, li_e410, li_f410, li_l410, li_g410, li_m410, li_h410, li_e420, li_f420, li_l420, li_g420, li_m420, li_h420, li_e2000, li_f2000, li_l2000, li_g2000, li_m2000, li_h2000, li_e8200, li_f8200, li_l8200, li_g8200, li_m8200, li_h8200, li_e1000000, li_f1000000, li_l1000000, li_g1000000, li_m1000000, li_h1000000, li_50, li_50', li_200, li_200', nI_add, li_s1, li_t1, li_c1, li_c2, li_c3, li_c4, li_c5, li_c6, li_c7, li_c8, li_c9, li_c10, li_c11, li_c12, li_c13, li_c14, li_c15, sg_Kat, sg_Pat, pk_us, pk_uLs, true_implies, forall_const, not_true_eq_false, not_false_eq_true, false_implies, and_true, true_and, implies_true, and_self, if_true, if_false, ite_true, ite_false, reduceIte, eq_self, Nat.reduceEqDiff, Nat.reduceLeDiff, Nat.reduceLT, Int32.reduceLT, Int32.reduceLE]
      refine xl_put _ h (fun lc a tr h' => ?_)
      exact xl_end hm hf hs h' HOK HTR
  rw [if_neg h5] at hs
  by_cases h6 : sg_k g t = 6
  · rw [if_pos h6] at hs
    have e6 : sg_k g (sv_t w v) = 6 := by omega
    have ed := hX.1 t htn (Or.inl h6)
    have e7 : sg_d g (sv_t w v) = sg_d g t := by
      have h7 := of_decide_eq_true hsu
      rcases h7 with h7 | h7
      · exact h7.2 e6
      · omega
    have cf := t4 (Or.inr e6)
    have c3 := w8 e6
    simp (disch := omega) only [wpX_putValue, h6, ed, forall_eq, nI_leI, nI_ltI, nI_eq, vp_in_nI, nI_clamp, nI_1, li_e0, li_f0, li_l0, li_g0, li_m0, li_h0, li_e1, li_f1, li_l1, li_g1, li_m1, li_h1, li_e2, li_f2, li_l2, li_g2, li_m2, li_h2, li_e3, li_f3, li_l3, li_g3, li_m3, li_h3, li_e4, li_f4, li_l4, li_g4, li_m4, li_h4, li_e5, li_f5, li_l5, li_g5, li_m5, li_h5, li_e6, li_f6, li_l6, li_g6, li_m6, li_h6, li_e7, li_f7, li_l7, li_g7, li_m7, li_h7, li_e8, li_f8, li_l8, li_g8, li_m8, li_h8, li_e9, li_f9, li_l9, li_g9, li_m9, li_h9, li_e10, li_f10, li_l10, li_g10, li_m10, li_h10, li_e15, li_f15, li_l15, li_g15, li_m15, li_h15, li_e16, li_f16, li_l16, li_g16, li_m16, li_h16, li_e20, li_f20, li_l20, li_g20, li_m20, li_h20, li_e40, li_f40, li_l40, li_g40, li_m40, li_h40, li_e100, li_f100, li_l100, li_g100, li_m100, li_h100, li_e128, li_f128, li_l128, li_g128, li_m128, li_h128, li_e150, li_f150, li_l150, li_g150, li_m150, li_h150, li_e255, li_f255, li_l255, li_g255, li_m255, li_h255, li_e400, li_f400, li_l400, li_g400, li_m400, li_h400, li_e410, li_f410, li_l410, li_g410, li_m410, li_h410, li_e420, li_f420, li_l420, li_g420, li_m420, li_h420, li_e2000, li_f2000, li_l2000, li_g2000, li_m2000, li_h2000, li_e8200, li_f8200, li_l8200, li_g8200, li_m8200, li_h8200, li_e1000000, li_f1000000, li_l1000000, li_g1000000, li_m1000000, li_h1000000, li_50, li_50', li_200, li_200', nI_add, li_s1, li_t1, li_c1, li_c2, li_c3, li_c4, li_c5, li_c6, li_c7, li_c8, li_c9, li_c10, li_c11, li_c12, li_c13, li_c14, li_c15, sg_Kat, sg_Pat, pk_us, pk_uLs, true_implies, forall_const, not_true_eq_false, not_false_eq_true, false_implies, and_true, true_and, implies_true, and_self, if_true, if_false, ite_true, ite_false, reduceIte, eq_self, Nat.reduceEqDiff, Nat.reduceLeDiff, Nat.reduceLT, Int32.reduceLT, Int32.reduceLE]
    refine xl_putBytes (f := sv_f w v) (by omega) cf (by omega) h (fun lc a tr h'' => ?_)
    exact xl_end hm hf hs h'' HOK HTR
  rw [if_neg h6] at hs
  by_cases h7 : sg_k g t = 7
  · rw [if_pos h7] at hs
    have e7 : sg_k g (sv_t w v) = 7 := by omega
    obtain ⟨c, c1, c2⟩ := w9 e7
    have ec : (sv_n w v).toInt32.toNatClampNeg = c := by rw [c2, lN_i, nI_clamp (by omega)]
    have ecn : sv_cnt g w v = c := by rw [sv_cnt7 e7, ec]
    rw [ec] at hs
    have hlen := hm.2.2.1
    have h10 := hm.2.1
    have hL := hm.2.2.2.1
    simp (disch := omega) only [wpX_putValue, h7, t2, forall_eq, nI_leI, nI_ltI, nI_eq, vp_in_nI, nI_clamp, nI_1, li_e0, li_f0, li_l0, li_g0, li_m0, li_h0, li_e1, li_f1, li_l1, li_g1, li_m1, li_h1, li_e2, li_f2, li_l2, li_g2, li_m2, li_h2, li_e3, li_f3, li_l3, li_g3, li_m3, li_h3, li_e4, li_f4, li_l4, li_g4, li_m4, li_h4, li_e5, li_f5, li_l5, li_g5, li_m5, li_h5, li_e6, li_f6, li_l6, li_g6, li_m6, li_h6, li_e7, li_f7, li_l7, li_g7, li_m7, li_h7, li_e8, li_f8, li_l8, li_g8, li_m8, li_h8, li_e9, li_f9, li_l9, li_g9, li_m9, li_h9, li_e10, li_f10, li_l10, li_g10, li_m10, li_h10, li_e15, li_f15, li_l15, li_g15, li_m15, li_h15, li_e16, li_f16, li_l16, li_g16, li_m16, li_h16, li_e20, li_f20, li_l20, li_g20, li_m20, li_h20, li_e40, li_f40, li_l40, li_g40, li_m40, li_h40, li_e100, li_f100, li_l100, li_g100, li_m100, li_h100, li_e128, li_f128, li_l128, li_g128, li_m128, li_h128, li_e150, li_f150, li_l150, li_g150, li_m150, li_h150, li_e255, li_f255, li_l255, li_g255, li_m255, li_h255, li_e400, li_f400, li_l400, li_g400, li_m400, li_h400, li_e410, li_f410, li_l410, li_g410, li_m410, li_h410, li_e420, li_f420, li_l420, li_g420, li_m420, li_h420, li_e2000, li_f2000, li_l2000, li_g2000, li_m2000, li_h2000, li_e8200, li_f8200, li_l8200, li_g8200, li_m8200, li_h8200, li_e1000000, li_f1000000, li_l1000000, li_g1000000, li_m1000000, li_h1000000, li_50, li_50', li_200, li_200', nI_add, li_s1, li_t1, li_c1, li_c2, li_c3, li_c4, li_c5, li_c6, li_c7, li_c8, li_c9, li_c10, li_c11, li_c12, li_c13, li_c14, li_c15, sg_Kat, sg_Pat, pk_us, pk_uLs, true_implies, forall_const, not_true_eq_false, not_false_eq_true, false_implies, and_true, true_and, implies_true, and_self, if_true, if_false, ite_true, ite_false, reduceIte, eq_self, Nat.reduceEqDiff, Nat.reduceLeDiff, Nat.reduceLT, Int32.reduceLT, Int32.reduceLE]
    refine xl_put _ h (fun lc a tr h' => ?_)
    simp (disch := omega) only [t2, c2, lN_i, forall_eq, nI_leI, nI_ltI, nI_eq, vp_in_nI, nI_clamp, nI_1, li_e0, li_f0, li_l0, li_g0, li_m0, li_h0, li_e1, li_f1, li_l1, li_g1, li_m1, li_h1, li_e2, li_f2, li_l2, li_g2, li_m2, li_h2, li_e3, li_f3, li_l3, li_g3, li_m3, li_h3, li_e4, li_f4, li_l4, li_g4, li_m4, li_h4, li_e5, li_f5, li_l5, li_g5, li_m5, li_h5, li_e6, li_f6, li_l6, li_g6, li_m6, li_h6, li_e7, li_f7, li_l7, li_g7, li_m7, li_h7, li_e8, li_f8, li_l8, li_g8, li_m8, li_h8, li_e9, li_f9, li_l9, li_g9, li_m9, li_h9, li_e10, li_f10, li_l10, li_g10, li_m10, li_h10, li_e15, li_f15, li_l15, li_g15, li_m15, li_h15, li_e16, li_f16, li_l16, li_g16, li_m16, li_h16, li_e20, li_f20, li_l20, li_g20, li_m20, li_h20, li_e40, li_f40, li_l40, li_g40, li_m40, li_h40, li_e100, li_f100, li_l100, li_g100, li_m100, li_h100, li_e128, li_f128, li_l128, li_g128, li_m128, li_h128, li_e150, li_f150, li_l150, li_g150, li_m150, li_h150, li_e255, li_f255, li_l255, li_g255, li_m255, li_h255, li_e400, li_f400, li_l400, li_g400, li_m400, li_h400, li_e410, li_f410, li_l410, li_g410, li_m410, li_h410, li_e420, li_f420, li_l420, li_g420, li_m420, li_h420, li_e2000, li_f2000, li_l2000, li_g2000, li_m2000, li_h2000, li_e8200, li_f8200, li_l8200, li_g8200, li_m8200, li_h8200, li_e1000000, li_f1000000, li_l1000000, li_g1000000, li_m1000000, li_h1000000, li_50, li_50', li_200, li_200', nI_add, li_s1, li_t1, li_c1, li_c2, li_c3, li_c4, li_c5, li_c6, li_c7, li_c8, li_c9, li_c10, li_c11, li_c12, li_c13, li_c14, li_c15, sg_Kat, sg_Pat, pk_us, pk_uLs, true_implies, forall_const, not_true_eq_false, not_false_eq_true, false_implies, and_true, true_and, implies_true, and_self, if_true, if_false, ite_true, ite_false, reduceIte, eq_self, Nat.reduceEqDiff, Nat.reduceLeDiff, Nat.reduceLT, Int32.reduceLT, Int32.reduceLE]
    refine xl_push hg (by omega) (by omega) ?_
    rw [if_neg (by omega)]
    simp (disch := omega) only [forall_eq, nI_leI, nI_ltI, nI_eq, vp_in_nI, nI_clamp, nI_1, li_e0, li_f0, li_l0, li_g0, li_m0, li_h0, li_e1, li_f1, li_l1, li_g1, li_m1, li_h1, li_e2, li_f2, li_l2, li_g2, li_m2, li_h2, li_e3, li_f3, li_l3, li_g3, li_m3, li_h3, li_e4, li_f4, li_l4, li_g4, li_m4, li_h4, li_e5, li_f5, li_l5, li_g5, li_m5, li_h5, li_e6, li_f6, li_l6, li_g6, li_m6, li_h6, li_e7, li_f7, li_l7, li_g7, li_m7, li_h7, li_e8, li_f8, li_l8, li_g8, li_m8, li_h8, li_e9, li_f9, li_l9, li_g9, li_m9, li_h9, li_e10, li_f10, li_l10, li_g10, li_m10, li_h10, li_e15, li_f15, li_l15, li_g15, li_m15, li_h15, li_e16, li_f16, li_l16, li_g16, li_m16, li_h16, li_e20, li_f20, li_l20, li_g20, li_m20, li_h20, li_e40, li_f40, li_l40, li_g40, li_m40, li_h40, li_e100, li_f100, li_l100, li_g100, li_m100, li_h100, li_e128, li_f128, li_l128, li_g128, li_m128, li_h128, li_e150, li_f150, li_l150, li_g150, li_m150, li_h150, li_e255, li_f255, li_l255, li_g255, li_m255, li_h255, li_e400, li_f400, li_l400, li_g400, li_m400, li_h400, li_e410, li_f410, li_l410, li_g410, li_m410, li_h410, li_e420, li_f420, li_l420, li_g420, li_m420, li_h420, li_e2000, li_f2000, li_l2000, li_g2000, li_m2000, li_h2000, li_e8200, li_f8200, li_l8200, li_g8200, li_m8200, li_h8200, li_e1000000, li_f1000000, li_l1000000, li_g1000000, li_m1000000, li_h1000000, li_50, li_50', li_200, li_200', nI_add, li_s1, li_t1, li_c1, li_c2, li_c3, li_c4, li_c5, li_c6, li_c7, li_c8, li_c9, li_c10, li_c11, li_c12, li_c13, li_c14, li_c15, sg_Kat, sg_Pat, pk_us, pk_uLs, true_implies, forall_const, not_true_eq_false, not_false_eq_true, false_implies, and_true, true_and, implies_true, and_self, if_true, if_false, ite_true, ite_false, reduceIte, eq_self, Nat.reduceEqDiff, Nat.reduceLeDiff, Nat.reduceLT, Int32.reduceLT, Int32.reduceLE]
    have hll : (L ++ (o ++ [sv_n w v])).length = L.length + (o ++ [sv_n w v]).length := List.length_append
    rcases h' with ⟨h1, rfl, h3, rfl⟩ | ⟨h1, rfl, rfl⟩
    · have e8 : sx_rc g ((v, t, v + 1, c, L.length + (o ++ [sv_n w v]).length) :: F) = sx_rc g F := by
        rw [sx_rc, if_neg (show ¬ sg_k g (v, t, v + 1, c, L.length + (o ++ [sv_n w v]).length).2.1 = 9 from (by dsimp only; omega))]; rfl
      obtain ⟨i1, i2⟩ := sx_push hm (f := (v, t, v + 1, c, L.length + (o ++ [sv_n w v]).length)) hs h1
        (by rw [sx_seg, if_pos (show sg_k g (v, t, v + 1, c, L.length + (o ++ [sv_n w v]).length).2.1 = 7 from h7)]) (by rw [hll])
        ⟨htn, by rw [hll]; exact Nat.le_refl _, hlt, Or.inl ⟨h7, hvm, e7, hdv, 0, rfl, by dsimp only; omega⟩⟩ e8.symm (by omega) (Or.inr ⟨h7, c1, by simp⟩)
      have h4 := HOK _ (L ++ (o ++ [sv_n w v])) a _ _ _ _ _ i1 i2 h3 (xl_fr hf (f := (v, t, v + 1, c, L.length + (o ++ [sv_n w v]).length)) rfl)
      rw [hll, e8] at h4
      exact h4
    · exact HTR (-7) _ _ _ _ _ _ _ _ _ (xl_full hm hs h1)
  rw [if_neg h7] at hs
  by_cases h9 : sg_k g t = 9
  · rw [if_pos h9] at hs
    have e9 : sg_k g (sv_t w v) = 9 := by omega
    have er : (sr_rec g w v t (sx_rc g F)).1 = [] := by
      unfold sr_rec
      split <;> rfl
    rw [er, List.append_nil] at hs
    simp (disch := omega) only [wpX_putValue, h9, forall_eq, nI_leI, nI_ltI, nI_eq, vp_in_nI, nI_clamp, nI_1, li_e0, li_f0, li_l0, li_g0, li_m0, li_h0, li_e1, li_f1, li_l1, li_g1, li_m1, li_h1, li_e2, li_f2, li_l2, li_g2, li_m2, li_h2, li_e3, li_f3, li_l3, li_g3, li_m3, li_h3, li_e4, li_f4, li_l4, li_g4, li_m4, li_h4, li_e5, li_f5, li_l5, li_g5, li_m5, li_h5, li_e6, li_f6, li_l6, li_g6, li_m6, li_h6, li_e7, li_f7, li_l7, li_g7, li_m7, li_h7, li_e8, li_f8, li_l8, li_g8, li_m8, li_h8, li_e9, li_f9, li_l9, li_g9, li_m9, li_h9, li_e10, li_f10, li_l10, li_g10, li_m10, li_h10, li_e15, li_f15, li_l15, li_g15, li_m15, li_h15, li_e16, li_f16, li_l16, li_g16, li_m16, li_h16, li_e20, li_f20, li_l20, li_g20, li_m20, li_h20, li_e40, li_f40, li_l40, li_g40, li_m40, li_h40, li_e100, li_f100, li_l100, li_g100, li_m100, li_h100, li_e128, li_f128, li_l128, li_g128, li_m128, li_h128, li_e150, li_f150, li_l150, li_g150, li_m150, li_h150, li_e255, li_f255, li_l255, li_g255, li_m255, li_h255, li_e400, li_f400, li_l400, li_g400, li_m400, li_h400, li_e410, li_f410, li_l410, li_g410, li_m410, li_h410, li_e420, li_f420, li_l420, li_g420, li_m420, li_h420, li_e2000, li_f2000, li_l2000, li_g2000, li_m2000, li_h2000, li_e8200, li_f8200, li_l8200, li_g8200, li_m8200, li_h8200, li_e1000000, li_f1000000, li_l1000000, li_g1000000, li_m1000000, li_h1000000, li_50, li_50', li_200, li_200', nI_add, li_s1, li_t1, li_c1, li_c2, li_c3, li_c4, li_c5, li_c6, li_c7, li_c8, li_c9, li_c10, li_c11, li_c12, li_c13, li_c14, li_c15, sg_Kat, sg_Pat, pk_us, pk_uLs, true_implies, forall_const, not_true_eq_false, not_false_eq_true, false_implies, and_true, true_and, implies_true, and_self, if_true, if_false, ite_true, ite_false, reduceIte, eq_self, Nat.reduceEqDiff, Nat.reduceLeDiff, Nat.reduceLT, Int32.reduceLT, Int32.reduceLE]
    exact xl_beginRecord hg hX hm hf htn h9 (fun _ => ⟨hvm, e9, hdv⟩) (fun z => absurd (by omega) z) hlt hs h HOK HTR
  · rw [if_neg h9] at hs
    have h3 : sg_k g t < 4 := by
      clear w4 w5 w6 w7 w8 w9 w10 hs
      omega
    simp (disch := omega) only [wpX_putValue, wX_putValue_136, h3, t2, forall_eq, nI_leI, nI_ltI, nI_eq, vp_in_nI, nI_clamp, nI_1, li_e0, li_f0, li_l0, li_g0, li_m0, li_h0, li_e1, li_f1, li_l1, li_g1, li_m1, li_h1, li_e2, li_f2, li_l2, li_g2, li_m2, li_h2, li_e3, li_f3, li_l3, li_g3, li_m3, li_h3, li_e4, li_f4, li_l4, li_g4, li_m4, li_h4, li_e5, li_f5, li_l5, li_g5, li_m5, li_h5, li_e6, li_f6, li_l6, li_g6, li_m6, li_h6, li_e7, li_f7, li_l7, li_g7, li_m7, li_h7, li_e8, li_f8, li_l8, li_g8, li_m8, li_h8, li_e9, li_f9, li_l9, li_g9, li_m9, li_h9, li_e10, li_f10, li_l10, li_g10, li_m10, li_h10, li_e15, li_f15, li_l15, li_g15, li_m15, li_h15, li_e16, li_f16, li_l16, li_g16, li_m16, li_h16, li_e20, li_f20, li_l20, li_g20, li_m20, li_h20, li_e40, li_f40, li_l40, li_g40, li_m40, li_h40, li_e100, li_f100, li_l100, li_g100, li_m100, li_h100, li_e128, li_f128, li_l128, li_g128, li_m128, li_h128, li_e150, li_f150, li_l150, li_g150, li_m150, li_h150, li_e255, li_f255, li_l255, li_g255, li_m255, li_h255, li_e400, li_f400, li_l400, li_g400, li_m400, li_h400, li_e410, li_f410, li_l410, li_g410, li_m410, li_h410, li_e420, li_f420, li_l420, li_g420, li_m420, li_h420, li_e2000, li_f2000, li_l2000, li_g2000, li_m2000, li_h2000, li_e8200, li_f8200, li_l8200, li_g8200, li_m8200, li_h8200, li_e1000000, li_f1000000, li_l1000000, li_g1000000, li_m1000000, li_h1000000, li_50, li_50', li_200, li_200', nI_add, li_s1, li_t1, li_c1, li_c2, li_c3, li_c4, li_c5, li_c6, li_c7, li_c8, li_c9, li_c10, li_c11, li_c12, li_c13, li_c14, li_c15, sg_Kat, sg_Pat, pk_us, pk_uLs, true_implies, forall_const, not_true_eq_false, not_false_eq_true, false_implies, and_true, true_and, implies_true, and_self, if_true, if_false, ite_true, ite_false, reduceIte, eq_self, Nat.reduceEqDiff, Nat.reduceLeDiff, Nat.reduceLT, Int32.reduceLT, Int32.reduceLE]
    refine xl_put _ h (fun lc a tr h' => ?_)
    exact xl_end hm hf hs h' HOK HTR
theorem xl_resolveValue (hg : sg_ok g) (hX : sg_X g x_detailOf x_partName x_partType x_partAlias x_partHas x_partDefault) (hw : sv_ok g w) (ht : sx_tree g w x_valueType x_valueFrom x_valueAfter x_valueNumber) {f t : Nat} (hm : sx_mid g w r (0, f, t, 0) F L x_addsNothing) (hf : sx_fr fV fT fS fL fB F) (htn : t < sg_n g) (hfm : f < sv_m w) (hdv : sv_d w f = sx_rc g F) (hlt : ∀ e, e ∈ F → e.1 < f)
    (h : sl_is L a) (HOK : ∀ (F' : List sx_F) (L' : List Int64) (a : Nat → Int64) (fV fT fS fL fB : Nat → Int32), sx_inv g w r F' L' x_addsNothing → sx_mu g F' L' x_addsNothing ≤ sx_mu g F L x_addsNothing → sl_is L' a → sx_fr fV fT fS fL fB F' → post (nI (sg_n g), x_byteCount, x_numberCount, nI L'.length, 0, x_place, x_valueCount, nI F'.length, nI (sx_rc g F'), x_writtenCount, x_pairCount, sg_K g, x_detailOf, sg_f g, sg_P g, x_partName, x_partType, x_partAlias, x_partHas, x_partDefault, sv_b w, x_numbers, a, x_valueType, x_valueNumber, x_valueFrom, x_valueAfter, fV, fT, fS, fL, fB, x_addsNothing, x_written, x_pairs, x_pairSeen)) (HTR : ∀ (e : Int32) (lc : Int32) (a : Nat → Int64) (top rc : Int32) (fV fT fS fL fB : Nat → Int32), sx_bad g w r e → post (nI (sg_n g), x_byteCount, x_numberCount, lc, e, x_place, x_valueCount, top, rc, x_writtenCount, x_pairCount, sg_K g, x_detailOf, sg_f g, sg_P g, x_partName, x_partType, x_partAlias, x_partHas, x_partDefault, sv_b w, x_numbers, a, x_valueType, x_valueNumber, x_valueFrom, x_valueAfter, fV, fT, fS, fL, fB, x_addsNothing, x_written, x_pairs, x_pairSeen)) : wpX_resolveValue post (nI (sg_n g), x_byteCount, x_numberCount, nI L.length, 0, x_place, x_valueCount, nI F.length, nI (sx_rc g F), x_writtenCount, x_pairCount, sg_K g, x_detailOf, sg_f g, sg_P g, x_partName, x_partType, x_partAlias, x_partHas, x_partDefault, sv_b w, x_numbers, a, x_valueType, x_valueNumber, x_valueFrom, x_valueAfter, fV, fT, fS, fL, fB, x_addsNothing, x_written, x_pairs, x_pairSeen) (nI f) (nI t) := by
  have hn := hg.1
  have hm4 := hw.1
  have k9 := hg.2.1 t
  have k9' := hg.2.1 (sv_t w f)
  have hL := hm.2.2.2.1
  have w1 := (hw.2 f hfm).1
  have t1 := (ht f hfm).1
  obtain ⟨in1, in2, in3⟩ := sr_in_ok hw hfm
  have in4 : f ≤ sr_in g w f := by
    unfold sr_in
    split <;> omega
  have hst : sr_stp g w (0, f, t, 0) (sx_rc g F) = sr_turn g w f t (sx_rc g F) := if_pos rfl
  have h0 := sl_out0 h hL
  have main : wX_resolveValue_23 post (nI t) (nI (sr_in g w f)) (nI (sg_n g)) x_byteCount x_numberCount (nI L.length) 0 x_place x_valueCount (nI F.length) (nI (sx_rc g F)) x_writtenCount x_pairCount (sg_K g) x_detailOf (sg_f g) (sg_P g) x_partName x_partType x_partAlias x_partHas x_partDefault (sv_b w) x_numbers a x_valueType x_valueNumber x_valueFrom x_valueAfter fV fT fS fL fB x_addsNothing x_written x_pairs x_pairSeen := by
    have w2 := (hw.2 _ in1).1
    have t2 := (ht _ in1).1
    have hlt2 : ∀ e, e ∈ F → e.1 < sr_in g w f := fun e he => Nat.lt_of_lt_of_le (hlt e he) in4
    unfold sr_turn at hst
    by_cases h8 : sg_k g t = 8
    · rw [if_pos h8] at hst
      simp (disch := omega) only [wX_resolveValue_23, t2, h8, forall_eq, nI_leI, nI_ltI, nI_eq, vp_in_nI, nI_clamp, nI_1, li_e0, li_f0, li_l0, li_g0, li_m0, li_h0, li_e1, li_f1, li_l1, li_g1, li_m1, li_h1, li_e2, li_f2, li_l2, li_g2, li_m2, li_h2, li_e3, li_f3, li_l3, li_g3, li_m3, li_h3, li_e4, li_f4, li_l4, li_g4, li_m4, li_h4, li_e5, li_f5, li_l5, li_g5, li_m5, li_h5, li_e6, li_f6, li_l6, li_g6, li_m6, li_h6, li_e7, li_f7, li_l7, li_g7, li_m7, li_h7, li_e8, li_f8, li_l8, li_g8, li_m8, li_h8, li_e9, li_f9, li_l9, li_g9, li_m9, li_h9, li_e10, li_f10, li_l10, li_g10, li_m10, li_h10, li_e15, li_f15, li_l15, li_g15, li_m15, li_h15, li_e16, li_f16, li_l16, li_g16, li_m16, li_h16, li_e20, li_f20, li_l20, li_g20, li_m20, li_h20, li_e40, li_f40, li_l40, li_g40, li_m40, li_h40, li_e100, li_f100, li_l100, li_g100, li_m100, li_h100, li_e128, li_f128, li_l128, li_g128, li_m128, li_h128, li_e150, li_f150, li_l150, li_g150, li_m150, li_h150, li_e255, li_f255, li_l255, li_g255, li_m255, li_h255, li_e400, li_f400, li_l400, li_g400, li_m400, li_h400, li_e410, li_f410, li_l410, li_g410, li_m410, li_h410, li_e420, li_f420, li_l420, li_g420, li_m420, li_h420, li_e2000, li_f2000, li_l2000, li_g2000, li_m2000, li_h2000, li_e8200, li_f8200, li_l8200, li_g8200, li_m8200, li_h8200, li_e1000000, li_f1000000, li_l1000000, li_g1000000, li_m1000000, li_h1000000, li_50, li_50', li_200, li_200', nI_add, li_s1, li_t1, li_c1, li_c2, li_c3, li_c4, li_c5, li_c6, li_c7, li_c8, li_c9, li_c10, li_c11, li_c12, li_c13, li_c14, li_c15, sg_Kat, sg_Pat, pk_us, pk_uLs, true_implies, forall_const, not_true_eq_false, not_false_eq_true, false_implies, and_true, true_and, implies_true, and_self, if_true, if_false, ite_true, ite_false, reduceIte, eq_self, Nat.reduceEqDiff, Nat.reduceLeDiff, Nat.reduceLT, Int32.reduceLT, Int32.reduceLE]
      refine xt_branchFor hg hX w2 htn h8 ?_
      cases e : sg_br g (sv_t w (sr_in g w f)) t with
      | none =>
        rw [e] at hst
        simp (disch := omega) only [sd_oi, forall_eq, nI_leI, nI_ltI, nI_eq, vp_in_nI, nI_clamp, nI_1, li_e0, li_f0, li_l0, li_g0, li_m0, li_h0, li_e1, li_f1, li_l1, li_g1, li_m1, li_h1, li_e2, li_f2, li_l2, li_g2, li_m2, li_h2, li_e3, li_f3, li_l3, li_g3, li_m3, li_h3, li_e4, li_f4, li_l4, li_g4, li_m4, li_h4, li_e5, li_f5, li_l5, li_g5, li_m5, li_h5, li_e6, li_f6, li_l6, li_g6, li_m6, li_h6, li_e7, li_f7, li_l7, li_g7, li_m7, li_h7, li_e8, li_f8, li_l8, li_g8, li_m8, li_h8, li_e9, li_f9, li_l9, li_g9, li_m9, li_h9, li_e10, li_f10, li_l10, li_g10, li_m10, li_h10, li_e15, li_f15, li_l15, li_g15, li_m15, li_h15, li_e16, li_f16, li_l16, li_g16, li_m16, li_h16, li_e20, li_f20, li_l20, li_g20, li_m20, li_h20, li_e40, li_f40, li_l40, li_g40, li_m40, li_h40, li_e100, li_f100, li_l100, li_g100, li_m100, li_h100, li_e128, li_f128, li_l128, li_g128, li_m128, li_h128, li_e150, li_f150, li_l150, li_g150, li_m150, li_h150, li_e255, li_f255, li_l255, li_g255, li_m255, li_h255, li_e400, li_f400, li_l400, li_g400, li_m400, li_h400, li_e410, li_f410, li_l410, li_g410, li_m410, li_h410, li_e420, li_f420, li_l420, li_g420, li_m420, li_h420, li_e2000, li_f2000, li_l2000, li_g2000, li_m2000, li_h2000, li_e8200, li_f8200, li_l8200, li_g8200, li_m8200, li_h8200, li_e1000000, li_f1000000, li_l1000000, li_g1000000, li_m1000000, li_h1000000, li_50, li_50', li_200, li_200', nI_add, li_s1, li_t1, li_c1, li_c2, li_c3, li_c4, li_c5, li_c6, li_c7, li_c8, li_c9, li_c10, li_c11, li_c12, li_c13, li_c14, li_c15, sg_Kat, sg_Pat, pk_us, pk_uLs, true_implies, forall_const, not_true_eq_false, not_false_eq_true, false_implies, and_true, true_and, implies_true, and_self, if_true, if_false, ite_true, ite_false, reduceIte, eq_self, Nat.reduceEqDiff, Nat.reduceLeDiff, Nat.reduceLT, Int32.reduceLT, Int32.reduceLE]
        exact xl_bad hm (by decide) hst h0 HTR
      | some k =>
        rw [e] at hst
        obtain ⟨b1, b2⟩ := sg_br_lt e
        have hp5 := hg.2.2.1 t
        have b3 := hg.2.2.2.2.2.2.2.1 t k htn b1 (by omega)
        have b4 := hg.2.2.2.2.2.2.2.2.1 t k htn b1 h8
        have b5 := hX.2.2.1 t k htn b1 (by omega)
        have hk1 : ¬ nI k = -1 := li_neg (by omega)
        simp (disch := omega) only [sd_oi, hk1, forall_eq, nI_leI, nI_ltI, nI_eq, vp_in_nI, nI_clamp, nI_1, li_e0, li_f0, li_l0, li_g0, li_m0, li_h0, li_e1, li_f1, li_l1, li_g1, li_m1, li_h1, li_e2, li_f2, li_l2, li_g2, li_m2, li_h2, li_e3, li_f3, li_l3, li_g3, li_m3, li_h3, li_e4, li_f4, li_l4, li_g4, li_m4, li_h4, li_e5, li_f5, li_l5, li_g5, li_m5, li_h5, li_e6, li_f6, li_l6, li_g6, li_m6, li_h6, li_e7, li_f7, li_l7, li_g7, li_m7, li_h7, li_e8, li_f8, li_l8, li_g8, li_m8, li_h8, li_e9, li_f9, li_l9, li_g9, li_m9, li_h9, li_e10, li_f10, li_l10, li_g10, li_m10, li_h10, li_e15, li_f15, li_l15, li_g15, li_m15, li_h15, li_e16, li_f16, li_l16, li_g16, li_m16, li_h16, li_e20, li_f20, li_l20, li_g20, li_m20, li_h20, li_e40, li_f40, li_l40, li_g40, li_m40, li_h40, li_e100, li_f100, li_l100, li_g100, li_m100, li_h100, li_e128, li_f128, li_l128, li_g128, li_m128, li_h128, li_e150, li_f150, li_l150, li_g150, li_m150, li_h150, li_e255, li_f255, li_l255, li_g255, li_m255, li_h255, li_e400, li_f400, li_l400, li_g400, li_m400, li_h400, li_e410, li_f410, li_l410, li_g410, li_m410, li_h410, li_e420, li_f420, li_l420, li_g420, li_m420, li_h420, li_e2000, li_f2000, li_l2000, li_g2000, li_m2000, li_h2000, li_e8200, li_f8200, li_l8200, li_g8200, li_m8200, li_h8200, li_e1000000, li_f1000000, li_l1000000, li_g1000000, li_m1000000, li_h1000000, li_50, li_50', li_200, li_200', nI_add, li_s1, li_t1, li_c1, li_c2, li_c3, li_c4, li_c5, li_c6, li_c7, li_c8, li_c9, li_c10, li_c11, li_c12, li_c13, li_c14, li_c15, sg_Kat, sg_Pat, pk_us, pk_uLs, true_implies, forall_const, not_true_eq_false, not_false_eq_true, false_implies, and_true, true_and, implies_true, and_self, if_true, if_false, ite_true, ite_false, reduceIte, eq_self, Nat.reduceEqDiff, Nat.reduceLeDiff, Nat.reduceLT, Int32.reduceLT, Int32.reduceLE]
        refine xl_put _ h0 (fun lc a tr h' => ?_)
        simp (disch := omega) only [b5, forall_eq, nI_leI, nI_ltI, nI_eq, vp_in_nI, nI_clamp, nI_1, li_e0, li_f0, li_l0, li_g0, li_m0, li_h0, li_e1, li_f1, li_l1, li_g1, li_m1, li_h1, li_e2, li_f2, li_l2, li_g2, li_m2, li_h2, li_e3, li_f3, li_l3, li_g3, li_m3, li_h3, li_e4, li_f4, li_l4, li_g4, li_m4, li_h4, li_e5, li_f5, li_l5, li_g5, li_m5, li_h5, li_e6, li_f6, li_l6, li_g6, li_m6, li_h6, li_e7, li_f7, li_l7, li_g7, li_m7, li_h7, li_e8, li_f8, li_l8, li_g8, li_m8, li_h8, li_e9, li_f9, li_l9, li_g9, li_m9, li_h9, li_e10, li_f10, li_l10, li_g10, li_m10, li_h10, li_e15, li_f15, li_l15, li_g15, li_m15, li_h15, li_e16, li_f16, li_l16, li_g16, li_m16, li_h16, li_e20, li_f20, li_l20, li_g20, li_m20, li_h20, li_e40, li_f40, li_l40, li_g40, li_m40, li_h40, li_e100, li_f100, li_l100, li_g100, li_m100, li_h100, li_e128, li_f128, li_l128, li_g128, li_m128, li_h128, li_e150, li_f150, li_l150, li_g150, li_m150, li_h150, li_e255, li_f255, li_l255, li_g255, li_m255, li_h255, li_e400, li_f400, li_l400, li_g400, li_m400, li_h400, li_e410, li_f410, li_l410, li_g410, li_m410, li_h410, li_e420, li_f420, li_l420, li_g420, li_m420, li_h420, li_e2000, li_f2000, li_l2000, li_g2000, li_m2000, li_h2000, li_e8200, li_f8200, li_l8200, li_g8200, li_m8200, li_h8200, li_e1000000, li_f1000000, li_l1000000, li_g1000000, li_m1000000, li_h1000000, li_50, li_50', li_200, li_200', nI_add, li_s1, li_t1, li_c1, li_c2, li_c3, li_c4, li_c5, li_c6, li_c7, li_c8, li_c9, li_c10, li_c11, li_c12, li_c13, li_c14, li_c15, sg_Kat, sg_Pat, pk_us, pk_uLs, true_implies, forall_const, not_true_eq_false, not_false_eq_true, false_implies, and_true, true_and, implies_true, and_self, if_true, if_false, ite_true, ite_false, reduceIte, eq_self, Nat.reduceEqDiff, Nat.reduceLeDiff, Nat.reduceLT, Int32.reduceLT, Int32.reduceLE]
        exact xl_putValue hg hX hw ht hm hf b3 b4 in1 b2 (by omega) hlt2 hst h' HOK HTR
    · rw [if_neg h8] at hst
      simp (disch := omega) only [wX_resolveValue_23, t2, h8, forall_eq, nI_leI, nI_ltI, nI_eq, vp_in_nI, nI_clamp, nI_1, li_e0, li_f0, li_l0, li_g0, li_m0, li_h0, li_e1, li_f1, li_l1, li_g1, li_m1, li_h1, li_e2, li_f2, li_l2, li_g2, li_m2, li_h2, li_e3, li_f3, li_l3, li_g3, li_m3, li_h3, li_e4, li_f4, li_l4, li_g4, li_m4, li_h4, li_e5, li_f5, li_l5, li_g5, li_m5, li_h5, li_e6, li_f6, li_l6, li_g6, li_m6, li_h6, li_e7, li_f7, li_l7, li_g7, li_m7, li_h7, li_e8, li_f8, li_l8, li_g8, li_m8, li_h8, li_e9, li_f9, li_l9, li_g9, li_m9, li_h9, li_e10, li_f10, li_l10, li_g10, li_m10, li_h10, li_e15, li_f15, li_l15, li_g15, li_m15, li_h15, li_e16, li_f16, li_l16, li_g16, li_m16, li_h16, li_e20, li_f20, li_l20, li_g20, li_m20, li_h20, li_e40, li_f40, li_l40, li_g40, li_m40, li_h40, li_e100, li_f100, li_l100, li_g100, li_m100, li_h100, li_e128, li_f128, li_l128, li_g128, li_m128, li_h128, li_e150, li_f150, li_l150, li_g150, li_m150, li_h150, li_e255, li_f255, li_l255, li_g255, li_m255, li_h255, li_e400, li_f400, li_l400, li_g400, li_m400, li_h400, li_e410, li_f410, li_l410, li_g410, li_m410, li_h410, li_e420, li_f420, li_l420, li_g420, li_m420, li_h420, li_e2000, li_f2000, li_l2000, li_g2000, li_m2000, li_h2000, li_e8200, li_f8200, li_l8200, li_g8200, li_m8200, li_h8200, li_e1000000, li_f1000000, li_l1000000, li_g1000000, li_m1000000, li_h1000000, li_50, li_50', li_200, li_200', nI_add, li_s1, li_t1, li_c1, li_c2, li_c3, li_c4, li_c5, li_c6, li_c7, li_c8, li_c9, li_c10, li_c11, li_c12, li_c13, li_c14, li_c15, sg_Kat, sg_Pat, pk_us, pk_uLs, true_implies, forall_const, not_true_eq_false, not_false_eq_true, false_implies, and_true, true_and, implies_true, and_self, if_true, if_false, ite_true, ite_false, reduceIte, eq_self, Nat.reduceEqDiff, Nat.reduceLeDiff, Nat.reduceLT, Int32.reduceLT, Int32.reduceLE]
      refine xt_suits hg hX w2 htn ?_
      by_cases hsu : sg_su g (sv_t w (sr_in g w f)) t = true
      · rw [if_pos hsu] at hst ⊢
        simp (disch := omega) only [forall_eq, nI_leI, nI_ltI, nI_eq, vp_in_nI, nI_clamp, nI_1, li_e0, li_f0, li_l0, li_g0, li_m0, li_h0, li_e1, li_f1, li_l1, li_g1, li_m1, li_h1, li_e2, li_f2, li_l2, li_g2, li_m2, li_h2, li_e3, li_f3, li_l3, li_g3, li_m3, li_h3, li_e4, li_f4, li_l4, li_g4, li_m4, li_h4, li_e5, li_f5, li_l5, li_g5, li_m5, li_h5, li_e6, li_f6, li_l6, li_g6, li_m6, li_h6, li_e7, li_f7, li_l7, li_g7, li_m7, li_h7, li_e8, li_f8, li_l8, li_g8, li_m8, li_h8, li_e9, li_f9, li_l9, li_g9, li_m9, li_h9, li_e10, li_f10, li_l10, li_g10, li_m10, li_h10, li_e15, li_f15, li_l15, li_g15, li_m15, li_h15, li_e16, li_f16, li_l16, li_g16, li_m16, li_h16, li_e20, li_f20, li_l20, li_g20, li_m20, li_h20, li_e40, li_f40, li_l40, li_g40, li_m40, li_h40, li_e100, li_f100, li_l100, li_g100, li_m100, li_h100, li_e128, li_f128, li_l128, li_g128, li_m128, li_h128, li_e150, li_f150, li_l150, li_g150, li_m150, li_h150, li_e255, li_f255, li_l255, li_g255, li_m255, li_h255, li_e400, li_f400, li_l400, li_g400, li_m400, li_h400, li_e410, li_f410, li_l410, li_g410, li_m410, li_h410, li_e420, li_f420, li_l420, li_g420, li_m420, li_h420, li_e2000, li_f2000, li_l2000, li_g2000, li_m2000, li_h2000, li_e8200, li_f8200, li_l8200, li_g8200, li_m8200, li_h8200, li_e1000000, li_f1000000, li_l1000000, li_g1000000, li_m1000000, li_h1000000, li_50, li_50', li_200, li_200', nI_add, li_s1, li_t1, li_c1, li_c2, li_c3, li_c4, li_c5, li_c6, li_c7, li_c8, li_c9, li_c10, li_c11, li_c12, li_c13, li_c14, li_c15, sg_Kat, sg_Pat, pk_us, pk_uLs, true_implies, forall_const, not_true_eq_false, not_false_eq_true, false_implies, and_true, true_and, implies_true, and_self, if_true, if_false, ite_true, ite_false, reduceIte, eq_self, Nat.reduceEqDiff, Nat.reduceLeDiff, Nat.reduceLT, Int32.reduceLT, Int32.reduceLE]
        exact xl_putValue (o := []) hg hX hw ht hm hf htn h8 in1 hsu (by omega) hlt2 (by rw [hst]; rfl) h0 HOK HTR
      · rw [if_neg hsu] at hst ⊢
        simp (disch := omega) only [forall_eq, nI_leI, nI_ltI, nI_eq, vp_in_nI, nI_clamp, nI_1, li_e0, li_f0, li_l0, li_g0, li_m0, li_h0, li_e1, li_f1, li_l1, li_g1, li_m1, li_h1, li_e2, li_f2, li_l2, li_g2, li_m2, li_h2, li_e3, li_f3, li_l3, li_g3, li_m3, li_h3, li_e4, li_f4, li_l4, li_g4, li_m4, li_h4, li_e5, li_f5, li_l5, li_g5, li_m5, li_h5, li_e6, li_f6, li_l6, li_g6, li_m6, li_h6, li_e7, li_f7, li_l7, li_g7, li_m7, li_h7, li_e8, li_f8, li_l8, li_g8, li_m8, li_h8, li_e9, li_f9, li_l9, li_g9, li_m9, li_h9, li_e10, li_f10, li_l10, li_g10, li_m10, li_h10, li_e15, li_f15, li_l15, li_g15, li_m15, li_h15, li_e16, li_f16, li_l16, li_g16, li_m16, li_h16, li_e20, li_f20, li_l20, li_g20, li_m20, li_h20, li_e40, li_f40, li_l40, li_g40, li_m40, li_h40, li_e100, li_f100, li_l100, li_g100, li_m100, li_h100, li_e128, li_f128, li_l128, li_g128, li_m128, li_h128, li_e150, li_f150, li_l150, li_g150, li_m150, li_h150, li_e255, li_f255, li_l255, li_g255, li_m255, li_h255, li_e400, li_f400, li_l400, li_g400, li_m400, li_h400, li_e410, li_f410, li_l410, li_g410, li_m410, li_h410, li_e420, li_f420, li_l420, li_g420, li_m420, li_h420, li_e2000, li_f2000, li_l2000, li_g2000, li_m2000, li_h2000, li_e8200, li_f8200, li_l8200, li_g8200, li_m8200, li_h8200, li_e1000000, li_f1000000, li_l1000000, li_g1000000, li_m1000000, li_h1000000, li_50, li_50', li_200, li_200', nI_add, li_s1, li_t1, li_c1, li_c2, li_c3, li_c4, li_c5, li_c6, li_c7, li_c8, li_c9, li_c10, li_c11, li_c12, li_c13, li_c14, li_c15, sg_Kat, sg_Pat, pk_us, pk_uLs, true_implies, forall_const, not_true_eq_false, not_false_eq_true, false_implies, and_true, true_and, implies_true, and_self, if_true, if_false, ite_true, ite_false, reduceIte, eq_self, Nat.reduceEqDiff, Nat.reduceLeDiff, Nat.reduceLT, Int32.reduceLT, Int32.reduceLE]
        exact xl_bad hm (by decide) hst h0 HTR
  unfold sr_in at main
  by_cases h8 : sg_k g (sv_t w f) = 8
  · rw [if_pos h8] at main
    simp (disch := omega) only [wpX_resolveValue, t1, h8, forall_eq, nI_leI, nI_ltI, nI_eq, vp_in_nI, nI_clamp, nI_1, li_e0, li_f0, li_l0, li_g0, li_m0, li_h0, li_e1, li_f1, li_l1, li_g1, li_m1, li_h1, li_e2, li_f2, li_l2, li_g2, li_m2, li_h2, li_e3, li_f3, li_l3, li_g3, li_m3, li_h3, li_e4, li_f4, li_l4, li_g4, li_m4, li_h4, li_e5, li_f5, li_l5, li_g5, li_m5, li_h5, li_e6, li_f6, li_l6, li_g6, li_m6, li_h6, li_e7, li_f7, li_l7, li_g7, li_m7, li_h7, li_e8, li_f8, li_l8, li_g8, li_m8, li_h8, li_e9, li_f9, li_l9, li_g9, li_m9, li_h9, li_e10, li_f10, li_l10, li_g10, li_m10, li_h10, li_e15, li_f15, li_l15, li_g15, li_m15, li_h15, li_e16, li_f16, li_l16, li_g16, li_m16, li_h16, li_e20, li_f20, li_l20, li_g20, li_m20, li_h20, li_e40, li_f40, li_l40, li_g40, li_m40, li_h40, li_e100, li_f100, li_l100, li_g100, li_m100, li_h100, li_e128, li_f128, li_l128, li_g128, li_m128, li_h128, li_e150, li_f150, li_l150, li_g150, li_m150, li_h150, li_e255, li_f255, li_l255, li_g255, li_m255, li_h255, li_e400, li_f400, li_l400, li_g400, li_m400, li_h400, li_e410, li_f410, li_l410, li_g410, li_m410, li_h410, li_e420, li_f420, li_l420, li_g420, li_m420, li_h420, li_e2000, li_f2000, li_l2000, li_g2000, li_m2000, li_h2000, li_e8200, li_f8200, li_l8200, li_g8200, li_m8200, li_h8200, li_e1000000, li_f1000000, li_l1000000, li_g1000000, li_m1000000, li_h1000000, li_50, li_50', li_200, li_200', nI_add, li_s1, li_t1, li_c1, li_c2, li_c3, li_c4, li_c5, li_c6, li_c7, li_c8, li_c9, li_c10, li_c11, li_c12, li_c13, li_c14, li_c15, sg_Kat, sg_Pat, pk_us, pk_uLs, true_implies, forall_const, not_true_eq_false, not_false_eq_true, false_implies, and_true, true_and, implies_true, and_self, if_true, if_false, ite_true, ite_false, reduceIte, eq_self, Nat.reduceEqDiff, Nat.reduceLeDiff, Nat.reduceLT, Int32.reduceLT, Int32.reduceLE]
    exact main
  · rw [if_neg h8] at main
    simp (disch := omega) only [wpX_resolveValue, t1, h8, forall_eq, nI_leI, nI_ltI, nI_eq, vp_in_nI, nI_clamp, nI_1, li_e0, li_f0, li_l0, li_g0, li_m0, li_h0, li_e1, li_f1, li_l1, li_g1, li_m1, li_h1, li_e2, li_f2, li_l2, li_g2, li_m2, li_h2, li_e3, li_f3, li_l3, li_g3, li_m3, li_h3, li_e4, li_f4, li_l4, li_g4, li_m4, li_h4, li_e5, li_f5, li_l5, li_g5, li_m5, li_h5, li_e6, li_f6, li_l6, li_g6, li_m6, li_h6, li_e7, li_f7, li_l7, li_g7, li_m7, li_h7, li_e8, li_f8, li_l8, li_g8, li_m8, li_h8, li_e9, li_f9, li_l9, li_g9, li_m9, li_h9, li_e10, li_f10, li_l10, li_g10, li_m10, li_h10, li_e15, li_f15, li_l15, li_g15, li_m15, li_h15, li_e16, li_f16, li_l16, li_g16, li_m16, li_h16, li_e20, li_f20, li_l20, li_g20, li_m20, li_h20, li_e40, li_f40, li_l40, li_g40, li_m40, li_h40, li_e100, li_f100, li_l100, li_g100, li_m100, li_h100, li_e128, li_f128, li_l128, li_g128, li_m128, li_h128, li_e150, li_f150, li_l150, li_g150, li_m150, li_h150, li_e255, li_f255, li_l255, li_g255, li_m255, li_h255, li_e400, li_f400, li_l400, li_g400, li_m400, li_h400, li_e410, li_f410, li_l410, li_g410, li_m410, li_h410, li_e420, li_f420, li_l420, li_g420, li_m420, li_h420, li_e2000, li_f2000, li_l2000, li_g2000, li_m2000, li_h2000, li_e8200, li_f8200, li_l8200, li_g8200, li_m8200, li_h8200, li_e1000000, li_f1000000, li_l1000000, li_g1000000, li_m1000000, li_h1000000, li_50, li_50', li_200, li_200', nI_add, li_s1, li_t1, li_c1, li_c2, li_c3, li_c4, li_c5, li_c6, li_c7, li_c8, li_c9, li_c10, li_c11, li_c12, li_c13, li_c14, li_c15, sg_Kat, sg_Pat, pk_us, pk_uLs, true_implies, forall_const, not_true_eq_false, not_false_eq_true, false_implies, and_true, true_and, implies_true, and_self, if_true, if_false, ite_true, ite_false, reduceIte, eq_self, Nat.reduceEqDiff, Nat.reduceLeDiff, Nat.reduceLT, Int32.reduceLT, Int32.reduceLE]
    exact main
end
end
section
/-! the class's resolving: defaults, and the loop -/
section
variable {x_typeCount x_byteCount x_numberCount x_listCount x_trouble x_place x_valueCount x_top x_records x_writtenCount x_pairCount : Int32}
variable {x_kindOf x_detailOf x_fallbackOf x_partCount x_partName x_partType x_partAlias x_partHas x_partDefault x_bytes x_valueType x_valueFrom x_valueAfter x_frameValue x_frameType x_frameStep x_frameLeft x_frameStart x_addsNothing x_written x_pairs x_pairSeen : Nat → Int32}
variable {x_numbers x_list x_valueNumber : Nat → Int64}
variable {g : sg_T} {w : sr_V} {r : Nat} {it : sr_I} {F : List sx_F} {L O : List Int64} {lc tr : Int32} {a : Nat → Int64} {fV fT fS fL fB : Nat → Int32} {post : SX → Prop}
theorem xl_fixed {o : List Int64} {t n : Nat} {x : Int32} (ht : t < 20) (hd : x_detailOf t = nI n) (hn : n ≤ 8) (h : sl_out L o x_listCount x_list x_trouble)
    (hp : ∀ lc a tr, sl_out L (o ++ sr_rep (x &&& 255).toInt64 n) lc a tr → post (x_typeCount, x_byteCount, x_numberCount, lc, tr, x_place, x_valueCount, x_top, x_records, x_writtenCount, x_pairCount, x_kindOf, x_detailOf, x_fallbackOf, x_partCount, x_partName, x_partType, x_partAlias, x_partHas, x_partDefault, x_bytes, x_numbers, a, x_valueType, x_valueNumber, x_valueFrom, x_valueAfter, x_frameValue, x_frameType, x_frameStep, x_frameLeft, x_frameStart, x_addsNothing, x_written, x_pairs, x_pairSeen)) : ∃ n105, wX_putDefault_105 post (nI t) x n105 0 x_typeCount x_byteCount x_numberCount x_listCount x_trouble x_place x_valueCount x_top x_records x_writtenCount x_pairCount x_kindOf x_detailOf x_fallbackOf x_partCount x_partName x_partType x_partAlias x_partHas x_partDefault x_bytes x_numbers x_list x_valueType x_valueNumber x_valueFrom x_valueAfter x_frameValue x_frameType x_frameStep x_frameLeft x_frameStart x_addsNothing x_written x_pairs x_pairSeen := by
  have H : ∀ m i (o : List Int64) lc a tr, i + m = n → sl_out L o lc a tr → (∀ lc a tr, sl_out L (o ++ sr_rep (x &&& 255).toInt64 m) lc a tr → post (x_typeCount, x_byteCount, x_numberCount, lc, tr, x_place, x_valueCount, x_top, x_records, x_writtenCount, x_pairCount, x_kindOf, x_detailOf, x_fallbackOf, x_partCount, x_partName, x_partType, x_partAlias, x_partHas, x_partDefault, x_bytes, x_numbers, a, x_valueType, x_valueNumber, x_valueFrom, x_valueAfter, x_frameValue, x_frameType, x_frameStep, x_frameLeft, x_frameStart, x_addsNothing, x_written, x_pairs, x_pairSeen)) →
      wX_putDefault_105 post (nI t) x (m + 1) (nI i) x_typeCount x_byteCount x_numberCount lc tr x_place x_valueCount x_top x_records x_writtenCount x_pairCount x_kindOf x_detailOf x_fallbackOf x_partCount x_partName x_partType x_partAlias x_partHas x_partDefault x_bytes x_numbers a x_valueType x_valueNumber x_valueFrom x_valueAfter x_frameValue x_frameType x_frameStep x_frameLeft x_frameStart x_addsNothing x_written x_pairs x_pairSeen := by
    intro m
    induction m with
    | zero =>
      intro i o lc a tr hi h hp
      have hle : n ≤ i := by omega
      simp (disch := omega) only [wX_putDefault_105, hd, hle, forall_eq, nI_leI, nI_ltI, nI_eq, vp_in_nI, nI_clamp, nI_1, li_e0, li_f0, li_l0, li_g0, li_m0, li_h0, li_e1, li_f1, li_l1, li_g1, li_m1, li_h1, li_e2, li_f2, li_l2, li_g2, li_m2, li_h2, li_e3, li_f3, li_l3, li_g3, li_m3, li_h3, li_e4, li_f4, li_l4, li_g4, li_m4, li_h4, li_e5, li_f5, li_l5, li_g5, li_m5, li_h5, li_e6, li_f6, li_l6, li_g6, li_m6, li_h6, li_e7, li_f7, li_l7, li_g7, li_m7, li_h7, li_e8, li_f8, li_l8, li_g8, li_m8, li_h8, li_e9, li_f9, li_l9, li_g9, li_m9, li_h9, li_e10, li_f10, li_l10, li_g10, li_m10, li_h10, li_e15, li_f15, li_l15, li_g15, li_m15, li_h15, li_e16, li_f16, li_l16, li_g16, li_m16, li_h16, li_e20, li_f20, li_l20, li_g20, li_m20, li_h20, li_e40, li_f40, li_l40, li_g40, li_m40, li_h40, li_e100, li_f100, li_l100, li_g100, li_m100, li_h100, li_e128, li_f128, li_l128, li_g128, li_m128, li_h128, li_e150, li_f150, li_l150, li_g150, li_m150, li_h150, li_e255, li_f255, li_l255, li_g255, li_m255, li_h255, li_e400, li_f400, li_l400, li_g400, li_m400, li_h400, li_e410, li_f410, li_l410, li_g410, li_m410, li_h410, li_e420, li_f420, li_l420, li_g420, li_m420, li_h420, li_e2000, li_f2000, li_l2000, li_g2000, li_m2000, li_h2000, li_e8200, li_f8200, li_l8200, li_g8200, li_m8200, li_h8200, li_e1000000, li_f1000000, li_l1000000, li_g1000000, li_m1000000, li_h1000000, li_50, li_50', li_200, li_200', nI_add, li_s1, li_t1, li_c1, li_c2, li_c3, li_c4, li_c5, li_c6, li_c7, li_c8, li_c9, li_c10, li_c11, li_c12, li_c13, li_c14, li_c15, sg_Kat, sg_Pat, pk_us, pk_uLs, true_implies, forall_const, not_true_eq_false, not_false_eq_true, false_implies, and_true, true_and, implies_true, and_self, if_true, if_false, ite_true, ite_false, reduceIte, eq_self, Nat.reduceEqDiff, Nat.reduceLeDiff, Nat.reduceLT, Int32.reduceLT, Int32.reduceLE]
      exact hp lc a tr (by rw [sr_rep, List.append_nil]; exact h)
    | succ m ih =>
      intro i o lc a tr hi h hp
      have hlt : ¬ n ≤ i := by omega
      rw [wX_putDefault_105]
      simp (disch := omega) only [hlt, hd, forall_eq, nI_leI, nI_ltI, nI_eq, vp_in_nI, nI_clamp, nI_1, li_e0, li_f0, li_l0, li_g0, li_m0, li_h0, li_e1, li_f1, li_l1, li_g1, li_m1, li_h1, li_e2, li_f2, li_l2, li_g2, li_m2, li_h2, li_e3, li_f3, li_l3, li_g3, li_m3, li_h3, li_e4, li_f4, li_l4, li_g4, li_m4, li_h4, li_e5, li_f5, li_l5, li_g5, li_m5, li_h5, li_e6, li_f6, li_l6, li_g6, li_m6, li_h6, li_e7, li_f7, li_l7, li_g7, li_m7, li_h7, li_e8, li_f8, li_l8, li_g8, li_m8, li_h8, li_e9, li_f9, li_l9, li_g9, li_m9, li_h9, li_e10, li_f10, li_l10, li_g10, li_m10, li_h10, li_e15, li_f15, li_l15, li_g15, li_m15, li_h15, li_e16, li_f16, li_l16, li_g16, li_m16, li_h16, li_e20, li_f20, li_l20, li_g20, li_m20, li_h20, li_e40, li_f40, li_l40, li_g40, li_m40, li_h40, li_e100, li_f100, li_l100, li_g100, li_m100, li_h100, li_e128, li_f128, li_l128, li_g128, li_m128, li_h128, li_e150, li_f150, li_l150, li_g150, li_m150, li_h150, li_e255, li_f255, li_l255, li_g255, li_m255, li_h255, li_e400, li_f400, li_l400, li_g400, li_m400, li_h400, li_e410, li_f410, li_l410, li_g410, li_m410, li_h410, li_e420, li_f420, li_l420, li_g420, li_m420, li_h420, li_e2000, li_f2000, li_l2000, li_g2000, li_m2000, li_h2000, li_e8200, li_f8200, li_l8200, li_g8200, li_m8200, li_h8200, li_e1000000, li_f1000000, li_l1000000, li_g1000000, li_m1000000, li_h1000000, li_50, li_50', li_200, li_200', nI_add, li_s1, li_t1, li_c1, li_c2, li_c3, li_c4, li_c5, li_c6, li_c7, li_c8, li_c9, li_c10, li_c11, li_c12, li_c13, li_c14, li_c15, sg_Kat, sg_Pat, pk_us, pk_uLs, true_implies, forall_const, not_true_eq_false, not_false_eq_true, false_implies, and_true, true_and, implies_true, and_self, if_true, if_false, ite_true, ite_false, reduceIte, eq_self, Nat.reduceEqDiff, Nat.reduceLeDiff, Nat.reduceLT, Int32.reduceLT, Int32.reduceLE]
      refine xl_put _ h (fun lc' a' tr' h' => ?_)
      simp (disch := omega) only [forall_eq, nI_leI, nI_ltI, nI_eq, vp_in_nI, nI_clamp, nI_1, li_e0, li_f0, li_l0, li_g0, li_m0, li_h0, li_e1, li_f1, li_l1, li_g1, li_m1, li_h1, li_e2, li_f2, li_l2, li_g2, li_m2, li_h2, li_e3, li_f3, li_l3, li_g3, li_m3, li_h3, li_e4, li_f4, li_l4, li_g4, li_m4, li_h4, li_e5, li_f5, li_l5, li_g5, li_m5, li_h5, li_e6, li_f6, li_l6, li_g6, li_m6, li_h6, li_e7, li_f7, li_l7, li_g7, li_m7, li_h7, li_e8, li_f8, li_l8, li_g8, li_m8, li_h8, li_e9, li_f9, li_l9, li_g9, li_m9, li_h9, li_e10, li_f10, li_l10, li_g10, li_m10, li_h10, li_e15, li_f15, li_l15, li_g15, li_m15, li_h15, li_e16, li_f16, li_l16, li_g16, li_m16, li_h16, li_e20, li_f20, li_l20, li_g20, li_m20, li_h20, li_e40, li_f40, li_l40, li_g40, li_m40, li_h40, li_e100, li_f100, li_l100, li_g100, li_m100, li_h100, li_e128, li_f128, li_l128, li_g128, li_m128, li_h128, li_e150, li_f150, li_l150, li_g150, li_m150, li_h150, li_e255, li_f255, li_l255, li_g255, li_m255, li_h255, li_e400, li_f400, li_l400, li_g400, li_m400, li_h400, li_e410, li_f410, li_l410, li_g410, li_m410, li_h410, li_e420, li_f420, li_l420, li_g420, li_m420, li_h420, li_e2000, li_f2000, li_l2000, li_g2000, li_m2000, li_h2000, li_e8200, li_f8200, li_l8200, li_g8200, li_m8200, li_h8200, li_e1000000, li_f1000000, li_l1000000, li_g1000000, li_m1000000, li_h1000000, li_50, li_50', li_200, li_200', nI_add, li_s1, li_t1, li_c1, li_c2, li_c3, li_c4, li_c5, li_c6, li_c7, li_c8, li_c9, li_c10, li_c11, li_c12, li_c13, li_c14, li_c15, sg_Kat, sg_Pat, pk_us, pk_uLs, true_implies, forall_const, not_true_eq_false, not_false_eq_true, false_implies, and_true, true_and, implies_true, and_self, if_true, if_false, ite_true, ite_false, reduceIte, eq_self, Nat.reduceEqDiff, Nat.reduceLeDiff, Nat.reduceLT, Int32.reduceLT, Int32.reduceLE]
      refine ih (i + 1) _ lc' a' tr' (by omega) h' (fun lc a tr h'' => hp lc a tr ?_)
      rw [sr_rep]
      rw [List.append_assoc] at h''
      exact h''
  exact ⟨n + 1, H n 0 o _ _ _ (by omega) h hp⟩
theorem xl_putDefault0 (hg : sg_ok g) (hX : sg_X g x_detailOf x_partName x_partType x_partAlias x_partHas x_partDefault) {t : Nat} {x : Int32} {o : List Int64} {R : Nat} (hR : R < 1000) (htn : t < sg_n g) (h8 : ¬ sg_k g t = 8) (h : sl_out L o x_listCount x_list x_trouble)
    (hA : ¬ sg_k g t = 9 → ¬ (sg_k g t = 5 ∧ sg_p g t = 0) → ∀ lc a tr, sl_out L (o ++ (sr_dfl g w t x R).1) lc a tr → post (nI (sg_n g), x_byteCount, x_numberCount, lc, tr, x_place, x_valueCount, x_top, nI R, x_writtenCount, x_pairCount, sg_K g, x_detailOf, sg_f g, sg_P g, x_partName, x_partType, x_partAlias, x_partHas, x_partDefault, x_bytes, x_numbers, a, x_valueType, x_valueNumber, x_valueFrom, x_valueAfter, x_frameValue, x_frameType, x_frameStep, x_frameLeft, x_frameStart, x_addsNothing, x_written, x_pairs, x_pairSeen))
    (hB : sg_k g t = 5 → sg_p g t = 0 → wpX_fail post (nI (sg_n g), x_byteCount, x_numberCount, x_listCount, x_trouble, x_place, x_valueCount, x_top, nI R, x_writtenCount, x_pairCount, sg_K g, x_detailOf, sg_f g, sg_P g, x_partName, x_partType, x_partAlias, x_partHas, x_partDefault, x_bytes, x_numbers, x_list, x_valueType, x_valueNumber, x_valueFrom, x_valueAfter, x_frameValue, x_frameType, x_frameStep, x_frameLeft, x_frameStart, x_addsNothing, x_written, x_pairs, x_pairSeen) (-6))
    (hC : sg_k g t = 9 → wpX_beginRecord post (nI (sg_n g), x_byteCount, x_numberCount, x_listCount, x_trouble, x_place, x_valueCount, x_top, nI R, x_writtenCount, x_pairCount, sg_K g, x_detailOf, sg_f g, sg_P g, x_partName, x_partType, x_partAlias, x_partHas, x_partDefault, x_bytes, x_numbers, x_list, x_valueType, x_valueNumber, x_valueFrom, x_valueAfter, x_frameValue, x_frameType, x_frameStep, x_frameLeft, x_frameStart, x_addsNothing, x_written, x_pairs, x_pairSeen) (nI (400 + R)) (nI t)) : wpX_putDefault post (nI (sg_n g), x_byteCount, x_numberCount, x_listCount, x_trouble, x_place, x_valueCount, x_top, nI R, x_writtenCount, x_pairCount, sg_K g, x_detailOf, sg_f g, sg_P g, x_partName, x_partType, x_partAlias, x_partHas, x_partDefault, x_bytes, x_numbers, x_list, x_valueType, x_valueNumber, x_valueFrom, x_valueAfter, x_frameValue, x_frameType, x_frameStep, x_frameLeft, x_frameStart, x_addsNothing, x_written, x_pairs, x_pairSeen) (nI t) x := by
  have hn := hg.1
  have k9 := hg.2.1 t
  unfold sr_dfl at hA
  by_cases h1 : sg_k g t = 1
  · have hA' := hA (by omega) (by omega)
    rw [if_pos h1] at hA'
    simp (disch := omega) only [wpX_putDefault, h1, forall_eq, nI_leI, nI_ltI, nI_eq, vp_in_nI, nI_clamp, nI_1, li_e0, li_f0, li_l0, li_g0, li_m0, li_h0, li_e1, li_f1, li_l1, li_g1, li_m1, li_h1, li_e2, li_f2, li_l2, li_g2, li_m2, li_h2, li_e3, li_f3, li_l3, li_g3, li_m3, li_h3, li_e4, li_f4, li_l4, li_g4, li_m4, li_h4, li_e5, li_f5, li_l5, li_g5, li_m5, li_h5, li_e6, li_f6, li_l6, li_g6, li_m6, li_h6, li_e7, li_f7, li_l7, li_g7, li_m7, li_h7, li_e8, li_f8, li_l8, li_g8, li_m8, li_h8, li_e9, li_f9, li_l9, li_g9, li_m9, li_h9, li_e10, li_f10, li_l10, li_g10, li_m10, li_h10, li_e15, li_f15, li_l15, li_g15, li_m15, li_h15, li_e16, li_f16, li_l16, li_g16, li_m16, li_h16, li_e20, li_f20, li_l20, li_g20, li_m20, li_h20, li_e40, li_f40, li_l40, li_g40, li_m40, li_h40, li_e100, li_f100, li_l100, li_g100, li_m100, li_h100, li_e128, li_f128, li_l128, li_g128, li_m128, li_h128, li_e150, li_f150, li_l150, li_g150, li_m150, li_h150, li_e255, li_f255, li_l255, li_g255, li_m255, li_h255, li_e400, li_f400, li_l400, li_g400, li_m400, li_h400, li_e410, li_f410, li_l410, li_g410, li_m410, li_h410, li_e420, li_f420, li_l420, li_g420, li_m420, li_h420, li_e2000, li_f2000, li_l2000, li_g2000, li_m2000, li_h2000, li_e8200, li_f8200, li_l8200, li_g8200, li_m8200, li_h8200, li_e1000000, li_f1000000, li_l1000000, li_g1000000, li_m1000000, li_h1000000, li_50, li_50', li_200, li_200', nI_add, li_s1, li_t1, li_c1, li_c2, li_c3, li_c4, li_c5, li_c6, li_c7, li_c8, li_c9, li_c10, li_c11, li_c12, li_c13, li_c14, li_c15, sg_Kat, sg_Pat, pk_us, pk_uLs, true_implies, forall_const, not_true_eq_false, not_false_eq_true, false_implies, and_true, true_and, implies_true, and_self, if_true, if_false, ite_true, ite_false, reduceIte, eq_self, Nat.reduceEqDiff, Nat.reduceLeDiff, Nat.reduceLT, Int32.reduceLT, Int32.reduceLE]
    exact xl_put _ h (fun lc a tr h' => hA' lc a tr h')
  rw [if_neg h1] at hA
  by_cases h2 : sg_k g t = 2
  · have hA' := hA (by omega) (by omega)
    rw [if_pos (Or.inl h2)] at hA'
    simp (disch := omega) only [wpX_putDefault, wX_putDefault_67, h2, forall_eq, nI_leI, nI_ltI, nI_eq, vp_in_nI, nI_clamp, nI_1, li_e0, li_f0, li_l0, li_g0, li_m0, li_h0, li_e1, li_f1, li_l1, li_g1, li_m1, li_h1, li_e2, li_f2, li_l2, li_g2, li_m2, li_h2, li_e3, li_f3, li_l3, li_g3, li_m3, li_h3, li_e4, li_f4, li_l4, li_g4, li_m4, li_h4, li_e5, li_f5, li_l5, li_g5, li_m5, li_h5, li_e6, li_f6, li_l6, li_g6, li_m6, li_h6, li_e7, li_f7, li_l7, li_g7, li_m7, li_h7, li_e8, li_f8, li_l8, li_g8, li_m8, li_h8, li_e9, li_f9, li_l9, li_g9, li_m9, li_h9, li_e10, li_f10, li_l10, li_g10, li_m10, li_h10, li_e15, li_f15, li_l15, li_g15, li_m15, li_h15, li_e16, li_f16, li_l16, li_g16, li_m16, li_h16, li_e20, li_f20, li_l20, li_g20, li_m20, li_h20, li_e40, li_f40, li_l40, li_g40, li_m40, li_h40, li_e100, li_f100, li_l100, li_g100, li_m100, li_h100, li_e128, li_f128, li_l128, li_g128, li_m128, li_h128, li_e150, li_f150, li_l150, li_g150, li_m150, li_h150, li_e255, li_f255, li_l255, li_g255, li_m255, li_h255, li_e400, li_f400, li_l400, li_g400, li_m400, li_h400, li_e410, li_f410, li_l410, li_g410, li_m410, li_h410, li_e420, li_f420, li_l420, li_g420, li_m420, li_h420, li_e2000, li_f2000, li_l2000, li_g2000, li_m2000, li_h2000, li_e8200, li_f8200, li_l8200, li_g8200, li_m8200, li_h8200, li_e1000000, li_f1000000, li_l1000000, li_g1000000, li_m1000000, li_h1000000, li_50, li_50', li_200, li_200', nI_add, li_s1, li_t1, li_c1, li_c2, li_c3, li_c4, li_c5, li_c6, li_c7, li_c8, li_c9, li_c10, li_c11, li_c12, li_c13, li_c14, li_c15, sg_Kat, sg_Pat, pk_us, pk_uLs, true_implies, forall_const, not_true_eq_false, not_false_eq_true, false_implies, and_true, true_and, implies_true, and_self, if_true, if_false, ite_true, ite_false, reduceIte, eq_self, Nat.reduceEqDiff, Nat.reduceLeDiff, Nat.reduceLT, Int32.reduceLT, Int32.reduceLE]
    exact xl_put _ h (fun lc a tr h' => hA' lc a tr h')
  by_cases h3 : sg_k g t = 3
  · have hA' := hA (by omega) (by omega)
    rw [if_pos (Or.inr h3)] at hA'
    simp (disch := omega) only [wpX_putDefault, wX_putDefault_67, h3, forall_eq, nI_leI, nI_ltI, nI_eq, vp_in_nI, nI_clamp, nI_1, li_e0, li_f0, li_l0, li_g0, li_m0, li_h0, li_e1, li_f1, li_l1, li_g1, li_m1, li_h1, li_e2, li_f2, li_l2, li_g2, li_m2, li_h2, li_e3, li_f3, li_l3, li_g3, li_m3, li_h3, li_e4, li_f4, li_l4, li_g4, li_m4, li_h4, li_e5, li_f5, li_l5, li_g5, li_m5, li_h5, li_e6, li_f6, li_l6, li_g6, li_m6, li_h6, li_e7, li_f7, li_l7, li_g7, li_m7, li_h7, li_e8, li_f8, li_l8, li_g8, li_m8, li_h8, li_e9, li_f9, li_l9, li_g9, li_m9, li_h9, li_e10, li_f10, li_l10, li_g10, li_m10, li_h10, li_e15, li_f15, li_l15, li_g15, li_m15, li_h15, li_e16, li_f16, li_l16, li_g16, li_m16, li_h16, li_e20, li_f20, li_l20, li_g20, li_m20, li_h20, li_e40, li_f40, li_l40, li_g40, li_m40, li_h40, li_e100, li_f100, li_l100, li_g100, li_m100, li_h100, li_e128, li_f128, li_l128, li_g128, li_m128, li_h128, li_e150, li_f150, li_l150, li_g150, li_m150, li_h150, li_e255, li_f255, li_l255, li_g255, li_m255, li_h255, li_e400, li_f400, li_l400, li_g400, li_m400, li_h400, li_e410, li_f410, li_l410, li_g410, li_m410, li_h410, li_e420, li_f420, li_l420, li_g420, li_m420, li_h420, li_e2000, li_f2000, li_l2000, li_g2000, li_m2000, li_h2000, li_e8200, li_f8200, li_l8200, li_g8200, li_m8200, li_h8200, li_e1000000, li_f1000000, li_l1000000, li_g1000000, li_m1000000, li_h1000000, li_50, li_50', li_200, li_200', nI_add, li_s1, li_t1, li_c1, li_c2, li_c3, li_c4, li_c5, li_c6, li_c7, li_c8, li_c9, li_c10, li_c11, li_c12, li_c13, li_c14, li_c15, sg_Kat, sg_Pat, pk_us, pk_uLs, true_implies, forall_const, not_true_eq_false, not_false_eq_true, false_implies, and_true, true_and, implies_true, and_self, if_true, if_false, ite_true, ite_false, reduceIte, eq_self, Nat.reduceEqDiff, Nat.reduceLeDiff, Nat.reduceLT, Int32.reduceLT, Int32.reduceLE]
    exact xl_put _ h (fun lc a tr h' => hA' lc a tr h')
  rw [if_neg (by omega)] at hA
  by_cases h4 : sg_k g t = 4
  · have hA' := hA (by omega) (by omega)
    rw [if_pos h4] at hA'
    simp (disch := omega) only [wpX_putDefault, h4, forall_eq, nI_leI, nI_ltI, nI_eq, vp_in_nI, nI_clamp, nI_1, li_e0, li_f0, li_l0, li_g0, li_m0, li_h0, li_e1, li_f1, li_l1, li_g1, li_m1, li_h1, li_e2, li_f2, li_l2, li_g2, li_m2, li_h2, li_e3, li_f3, li_l3, li_g3, li_m3, li_h3, li_e4, li_f4, li_l4, li_g4, li_m4, li_h4, li_e5, li_f5, li_l5, li_g5, li_m5, li_h5, li_e6, li_f6, li_l6, li_g6, li_m6, li_h6, li_e7, li_f7, li_l7, li_g7, li_m7, li_h7, li_e8, li_f8, li_l8, li_g8, li_m8, li_h8, li_e9, li_f9, li_l9, li_g9, li_m9, li_h9, li_e10, li_f10, li_l10, li_g10, li_m10, li_h10, li_e15, li_f15, li_l15, li_g15, li_m15, li_h15, li_e16, li_f16, li_l16, li_g16, li_m16, li_h16, li_e20, li_f20, li_l20, li_g20, li_m20, li_h20, li_e40, li_f40, li_l40, li_g40, li_m40, li_h40, li_e100, li_f100, li_l100, li_g100, li_m100, li_h100, li_e128, li_f128, li_l128, li_g128, li_m128, li_h128, li_e150, li_f150, li_l150, li_g150, li_m150, li_h150, li_e255, li_f255, li_l255, li_g255, li_m255, li_h255, li_e400, li_f400, li_l400, li_g400, li_m400, li_h400, li_e410, li_f410, li_l410, li_g410, li_m410, li_h410, li_e420, li_f420, li_l420, li_g420, li_m420, li_h420, li_e2000, li_f2000, li_l2000, li_g2000, li_m2000, li_h2000, li_e8200, li_f8200, li_l8200, li_g8200, li_m8200, li_h8200, li_e1000000, li_f1000000, li_l1000000, li_g1000000, li_m1000000, li_h1000000, li_50, li_50', li_200, li_200', nI_add, li_s1, li_t1, li_c1, li_c2, li_c3, li_c4, li_c5, li_c6, li_c7, li_c8, li_c9, li_c10, li_c11, li_c12, li_c13, li_c14, li_c15, sg_Kat, sg_Pat, pk_us, pk_uLs, true_implies, forall_const, not_true_eq_false, not_false_eq_true, false_implies, and_true, true_and, implies_true, and_self, if_true, if_false, ite_true, ite_false, reduceIte, eq_self, Nat.reduceEqDiff, Nat.reduceLeDiff, Nat.reduceLT, Int32.reduceLT, Int32.reduceLE]
    refine xl_put _ h (fun lc a tr h' => ?_)
    simp (disch := omega) only [forall_eq, nI_leI, nI_ltI, nI_eq, vp_in_nI, nI_clamp, nI_1, li_e0, li_f0, li_l0, li_g0, li_m0, li_h0, li_e1, li_f1, li_l1, li_g1, li_m1, li_h1, li_e2, li_f2, li_l2, li_g2, li_m2, li_h2, li_e3, li_f3, li_l3, li_g3, li_m3, li_h3, li_e4, li_f4, li_l4, li_g4, li_m4, li_h4, li_e5, li_f5, li_l5, li_g5, li_m5, li_h5, li_e6, li_f6, li_l6, li_g6, li_m6, li_h6, li_e7, li_f7, li_l7, li_g7, li_m7, li_h7, li_e8, li_f8, li_l8, li_g8, li_m8, li_h8, li_e9, li_f9, li_l9, li_g9, li_m9, li_h9, li_e10, li_f10, li_l10, li_g10, li_m10, li_h10, li_e15, li_f15, li_l15, li_g15, li_m15, li_h15, li_e16, li_f16, li_l16, li_g16, li_m16, li_h16, li_e20, li_f20, li_l20, li_g20, li_m20, li_h20, li_e40, li_f40, li_l40, li_g40, li_m40, li_h40, li_e100, li_f100, li_l100, li_g100, li_m100, li_h100, li_e128, li_f128, li_l128, li_g128, li_m128, li_h128, li_e150, li_f150, li_l150, li_g150, li_m150, li_h150, li_e255, li_f255, li_l255, li_g255, li_m255, li_h255, li_e400, li_f400, li_l400, li_g400, li_m400, li_h400, li_e410, li_f410, li_l410, li_g410, li_m410, li_h410, li_e420, li_f420, li_l420, li_g420, li_m420, li_h420, li_e2000, li_f2000, li_l2000, li_g2000, li_m2000, li_h2000, li_e8200, li_f8200, li_l8200, li_g8200, li_m8200, li_h8200, li_e1000000, li_f1000000, li_l1000000, li_g1000000, li_m1000000, li_h1000000, li_50, li_50', li_200, li_200', nI_add, li_s1, li_t1, li_c1, li_c2, li_c3, li_c4, li_c5, li_c6, li_c7, li_c8, li_c9, li_c10, li_c11, li_c12, li_c13, li_c14, li_c15, sg_Kat, sg_Pat, pk_us, pk_uLs, true_implies, forall_const, not_true_eq_false, not_false_eq_true, false_implies, and_true, true_and, implies_true, and_self, if_true, if_false, ite_true, ite_false, reduceIte, eq_self, Nat.reduceEqDiff, Nat.reduceLeDiff, Nat.reduceLT, Int32.reduceLT, Int32.reduceLE]
    refine xl_put _ h' (fun lc a tr h'' => hA' lc a tr ?_)
    rw [List.append_assoc] at h''
    exact h''
  rw [if_neg h4] at hA
  by_cases h5 : sg_k g t = 5
  · by_cases h0 : sg_p g t = 0
    · simp (disch := omega) only [wpX_putDefault, wpX_putDefaultSymbol, h5, h0, forall_eq, nI_leI, nI_ltI, nI_eq, vp_in_nI, nI_clamp, nI_1, li_e0, li_f0, li_l0, li_g0, li_m0, li_h0, li_e1, li_f1, li_l1, li_g1, li_m1, li_h1, li_e2, li_f2, li_l2, li_g2, li_m2, li_h2, li_e3, li_f3, li_l3, li_g3, li_m3, li_h3, li_e4, li_f4, li_l4, li_g4, li_m4, li_h4, li_e5, li_f5, li_l5, li_g5, li_m5, li_h5, li_e6, li_f6, li_l6, li_g6, li_m6, li_h6, li_e7, li_f7, li_l7, li_g7, li_m7, li_h7, li_e8, li_f8, li_l8, li_g8, li_m8, li_h8, li_e9, li_f9, li_l9, li_g9, li_m9, li_h9, li_e10, li_f10, li_l10, li_g10, li_m10, li_h10, li_e15, li_f15, li_l15, li_g15, li_m15, li_h15, li_e16, li_f16, li_l16, li_g16, li_m16, li_h16, li_e20, li_f20, li_l20, li_g20, li_m20, li_h20, li_e40, li_f40, li_l40, li_g40, li_m40, li_h40, li_e100, li_f100, li_l100, li_g100, li_m100, li_h100, li_e128, li_f128, li_l128, li_g128, li_m128, li_h128, li_e150, li_f150, li_l150, li_g150, li_m150, li_h150, li_e255, li_f255, li_l255, li_g255, li_m255, li_h255, li_e400, li_f400, li_l400, li_g400, li_m400, li_h400, li_e410, li_f410, li_l410, li_g410, li_m410, li_h410, li_e420, li_f420, li_l420, li_g420, li_m420, li_h420, li_e2000, li_f2000, li_l2000, li_g2000, li_m2000, li_h2000, li_e8200, li_f8200, li_l8200, li_g8200, li_m8200, li_h8200, li_e1000000, li_f1000000, li_l1000000, li_g1000000, li_m1000000, li_h1000000, li_50, li_50', li_200, li_200', nI_add, li_s1, li_t1, li_c1, li_c2, li_c3, li_c4, li_c5, li_c6, li_c7, li_c8, li_c9, li_c10, li_c11, li_c12, li_c13, li_c14, li_c15, sg_Kat, sg_Pat, pk_us, pk_uLs, true_implies, forall_const, not_true_eq_false, not_false_eq_true, false_implies, and_true, true_and, implies_true, and_self, if_true, if_false, ite_true, ite_false, reduceIte, eq_self, Nat.reduceEqDiff, Nat.reduceLeDiff, Nat.reduceLT, Int32.reduceLT, Int32.reduceLE]
      exact hB h5 h0
    · have hA' := hA (by omega) (by omega)
      rw [if_pos h5, if_neg h0] at hA'
      have p5 := hg.2.2.1 t
      have hmod := sm_x x (p := sg_p g t) (by omega) p5
      have hml := (sm_lt x (p := sg_p g t) (by omega)).1
      have en := hX.2.1 t (sr_mod x (sg_p g t)) htn hml (by omega)
      simp (disch := omega) only [wpX_putDefault, wpX_putDefaultSymbol, wX_putDefaultSymbol_34, h5, h0, forall_eq, nI_leI, nI_ltI, nI_eq, vp_in_nI, nI_clamp, nI_1, li_e0, li_f0, li_l0, li_g0, li_m0, li_h0, li_e1, li_f1, li_l1, li_g1, li_m1, li_h1, li_e2, li_f2, li_l2, li_g2, li_m2, li_h2, li_e3, li_f3, li_l3, li_g3, li_m3, li_h3, li_e4, li_f4, li_l4, li_g4, li_m4, li_h4, li_e5, li_f5, li_l5, li_g5, li_m5, li_h5, li_e6, li_f6, li_l6, li_g6, li_m6, li_h6, li_e7, li_f7, li_l7, li_g7, li_m7, li_h7, li_e8, li_f8, li_l8, li_g8, li_m8, li_h8, li_e9, li_f9, li_l9, li_g9, li_m9, li_h9, li_e10, li_f10, li_l10, li_g10, li_m10, li_h10, li_e15, li_f15, li_l15, li_g15, li_m15, li_h15, li_e16, li_f16, li_l16, li_g16, li_m16, li_h16, li_e20, li_f20, li_l20, li_g20, li_m20, li_h20, li_e40, li_f40, li_l40, li_g40, li_m40, li_h40, li_e100, li_f100, li_l100, li_g100, li_m100, li_h100, li_e128, li_f128, li_l128, li_g128, li_m128, li_h128, li_e150, li_f150, li_l150, li_g150, li_m150, li_h150, li_e255, li_f255, li_l255, li_g255, li_m255, li_h255, li_e400, li_f400, li_l400, li_g400, li_m400, li_h400, li_e410, li_f410, li_l410, li_g410, li_m410, li_h410, li_e420, li_f420, li_l420, li_g420, li_m420, li_h420, li_e2000, li_f2000, li_l2000, li_g2000, li_m2000, li_h2000, li_e8200, li_f8200, li_l8200, li_g8200, li_m8200, li_h8200, li_e1000000, li_f1000000, li_l1000000, li_g1000000, li_m1000000, li_h1000000, li_50, li_50', li_200, li_200', nI_add, li_s1, li_t1, li_c1, li_c2, li_c3, li_c4, li_c5, li_c6, li_c7, li_c8, li_c9, li_c10, li_c11, li_c12, li_c13, li_c14, li_c15, sg_Kat, sg_Pat, pk_us, pk_uLs, true_implies, forall_const, not_true_eq_false, not_false_eq_true, false_implies, and_true, true_and, implies_true, and_self, if_true, if_false, ite_true, ite_false, reduceIte, eq_self, Nat.reduceEqDiff, Nat.reduceLeDiff, Nat.reduceLT, Int32.reduceLT, Int32.reduceLE]
      refine br_c (fun hc => ?_) (fun hc => ?_)
      · rw [hmod.1 hc]
        simp (disch := omega) only [en, forall_eq, nI_leI, nI_ltI, nI_eq, vp_in_nI, nI_clamp, nI_1, li_e0, li_f0, li_l0, li_g0, li_m0, li_h0, li_e1, li_f1, li_l1, li_g1, li_m1, li_h1, li_e2, li_f2, li_l2, li_g2, li_m2, li_h2, li_e3, li_f3, li_l3, li_g3, li_m3, li_h3, li_e4, li_f4, li_l4, li_g4, li_m4, li_h4, li_e5, li_f5, li_l5, li_g5, li_m5, li_h5, li_e6, li_f6, li_l6, li_g6, li_m6, li_h6, li_e7, li_f7, li_l7, li_g7, li_m7, li_h7, li_e8, li_f8, li_l8, li_g8, li_m8, li_h8, li_e9, li_f9, li_l9, li_g9, li_m9, li_h9, li_e10, li_f10, li_l10, li_g10, li_m10, li_h10, li_e15, li_f15, li_l15, li_g15, li_m15, li_h15, li_e16, li_f16, li_l16, li_g16, li_m16, li_h16, li_e20, li_f20, li_l20, li_g20, li_m20, li_h20, li_e40, li_f40, li_l40, li_g40, li_m40, li_h40, li_e100, li_f100, li_l100, li_g100, li_m100, li_h100, li_e128, li_f128, li_l128, li_g128, li_m128, li_h128, li_e150, li_f150, li_l150, li_g150, li_m150, li_h150, li_e255, li_f255, li_l255, li_g255, li_m255, li_h255, li_e400, li_f400, li_l400, li_g400, li_m400, li_h400, li_e410, li_f410, li_l410, li_g410, li_m410, li_h410, li_e420, li_f420, li_l420, li_g420, li_m420, li_h420, li_e2000, li_f2000, li_l2000, li_g2000, li_m2000, li_h2000, li_e8200, li_f8200, li_l8200, li_g8200, li_m8200, li_h8200, li_e1000000, li_f1000000, li_l1000000, li_g1000000, li_m1000000, li_h1000000, li_50, li_50', li_200, li_200', nI_add, li_s1, li_t1, li_c1, li_c2, li_c3, li_c4, li_c5, li_c6, li_c7, li_c8, li_c9, li_c10, li_c11, li_c12, li_c13, li_c14, li_c15, sg_Kat, sg_Pat, pk_us, pk_uLs, true_implies, forall_const, not_true_eq_false, not_false_eq_true, false_implies, and_true, true_and, implies_true, and_self, if_true, if_false, ite_true, ite_false, reduceIte, eq_self, Nat.reduceEqDiff, Nat.reduceLeDiff, Nat.reduceLT, Int32.reduceLT, Int32.reduceLE]
        exact xl_put _ h (fun lc a tr h' => hA' lc a tr h')
      · rw [hmod.2 hc]
        simp (disch := omega) only [en, forall_eq, nI_leI, nI_ltI, nI_eq, vp_in_nI, nI_clamp, nI_1, li_e0, li_f0, li_l0, li_g0, li_m0, li_h0, li_e1, li_f1, li_l1, li_g1, li_m1, li_h1, li_e2, li_f2, li_l2, li_g2, li_m2, li_h2, li_e3, li_f3, li_l3, li_g3, li_m3, li_h3, li_e4, li_f4, li_l4, li_g4, li_m4, li_h4, li_e5, li_f5, li_l5, li_g5, li_m5, li_h5, li_e6, li_f6, li_l6, li_g6, li_m6, li_h6, li_e7, li_f7, li_l7, li_g7, li_m7, li_h7, li_e8, li_f8, li_l8, li_g8, li_m8, li_h8, li_e9, li_f9, li_l9, li_g9, li_m9, li_h9, li_e10, li_f10, li_l10, li_g10, li_m10, li_h10, li_e15, li_f15, li_l15, li_g15, li_m15, li_h15, li_e16, li_f16, li_l16, li_g16, li_m16, li_h16, li_e20, li_f20, li_l20, li_g20, li_m20, li_h20, li_e40, li_f40, li_l40, li_g40, li_m40, li_h40, li_e100, li_f100, li_l100, li_g100, li_m100, li_h100, li_e128, li_f128, li_l128, li_g128, li_m128, li_h128, li_e150, li_f150, li_l150, li_g150, li_m150, li_h150, li_e255, li_f255, li_l255, li_g255, li_m255, li_h255, li_e400, li_f400, li_l400, li_g400, li_m400, li_h400, li_e410, li_f410, li_l410, li_g410, li_m410, li_h410, li_e420, li_f420, li_l420, li_g420, li_m420, li_h420, li_e2000, li_f2000, li_l2000, li_g2000, li_m2000, li_h2000, li_e8200, li_f8200, li_l8200, li_g8200, li_m8200, li_h8200, li_e1000000, li_f1000000, li_l1000000, li_g1000000, li_m1000000, li_h1000000, li_50, li_50', li_200, li_200', nI_add, li_s1, li_t1, li_c1, li_c2, li_c3, li_c4, li_c5, li_c6, li_c7, li_c8, li_c9, li_c10, li_c11, li_c12, li_c13, li_c14, li_c15, sg_Kat, sg_Pat, pk_us, pk_uLs, true_implies, forall_const, not_true_eq_false, not_false_eq_true, false_implies, and_true, true_and, implies_true, and_self, if_true, if_false, ite_true, ite_false, reduceIte, eq_self, Nat.reduceEqDiff, Nat.reduceLeDiff, Nat.reduceLT, Int32.reduceLT, Int32.reduceLE]
        exact xl_put _ h (fun lc a tr h' => hA' lc a tr h')
  rw [if_neg h5] at hA
  by_cases h6 : sg_k g t = 6
  · have hA' := hA (by omega) (by omega)
    rw [if_pos h6] at hA'
    simp (disch := omega) only [wpX_putDefault, h6, forall_eq, nI_leI, nI_ltI, nI_eq, vp_in_nI, nI_clamp, nI_1, li_e0, li_f0, li_l0, li_g0, li_m0, li_h0, li_e1, li_f1, li_l1, li_g1, li_m1, li_h1, li_e2, li_f2, li_l2, li_g2, li_m2, li_h2, li_e3, li_f3, li_l3, li_g3, li_m3, li_h3, li_e4, li_f4, li_l4, li_g4, li_m4, li_h4, li_e5, li_f5, li_l5, li_g5, li_m5, li_h5, li_e6, li_f6, li_l6, li_g6, li_m6, li_h6, li_e7, li_f7, li_l7, li_g7, li_m7, li_h7, li_e8, li_f8, li_l8, li_g8, li_m8, li_h8, li_e9, li_f9, li_l9, li_g9, li_m9, li_h9, li_e10, li_f10, li_l10, li_g10, li_m10, li_h10, li_e15, li_f15, li_l15, li_g15, li_m15, li_h15, li_e16, li_f16, li_l16, li_g16, li_m16, li_h16, li_e20, li_f20, li_l20, li_g20, li_m20, li_h20, li_e40, li_f40, li_l40, li_g40, li_m40, li_h40, li_e100, li_f100, li_l100, li_g100, li_m100, li_h100, li_e128, li_f128, li_l128, li_g128, li_m128, li_h128, li_e150, li_f150, li_l150, li_g150, li_m150, li_h150, li_e255, li_f255, li_l255, li_g255, li_m255, li_h255, li_e400, li_f400, li_l400, li_g400, li_m400, li_h400, li_e410, li_f410, li_l410, li_g410, li_m410, li_h410, li_e420, li_f420, li_l420, li_g420, li_m420, li_h420, li_e2000, li_f2000, li_l2000, li_g2000, li_m2000, li_h2000, li_e8200, li_f8200, li_l8200, li_g8200, li_m8200, li_h8200, li_e1000000, li_f1000000, li_l1000000, li_g1000000, li_m1000000, li_h1000000, li_50, li_50', li_200, li_200', nI_add, li_s1, li_t1, li_c1, li_c2, li_c3, li_c4, li_c5, li_c6, li_c7, li_c8, li_c9, li_c10, li_c11, li_c12, li_c13, li_c14, li_c15, sg_Kat, sg_Pat, pk_us, pk_uLs, true_implies, forall_const, not_true_eq_false, not_false_eq_true, false_implies, and_true, true_and, implies_true, and_self, if_true, if_false, ite_true, ite_false, reduceIte, eq_self, Nat.reduceEqDiff, Nat.reduceLeDiff, Nat.reduceLT, Int32.reduceLT, Int32.reduceLE]
    exact xl_fixed (by omega) (hX.1 t htn (Or.inl h6)) (hg.2.2.2.2.1 t htn h6) h (fun lc a tr h' => hA' lc a tr h')
  rw [if_neg h6] at hA
  by_cases h9 : sg_k g t = 9
  · have hC' := hC h9
    simp (disch := omega) only [wpX_putDefault, h9, forall_eq, nI_leI, nI_ltI, nI_eq, vp_in_nI, nI_clamp, nI_1, li_e0, li_f0, li_l0, li_g0, li_m0, li_h0, li_e1, li_f1, li_l1, li_g1, li_m1, li_h1, li_e2, li_f2, li_l2, li_g2, li_m2, li_h2, li_e3, li_f3, li_l3, li_g3, li_m3, li_h3, li_e4, li_f4, li_l4, li_g4, li_m4, li_h4, li_e5, li_f5, li_l5, li_g5, li_m5, li_h5, li_e6, li_f6, li_l6, li_g6, li_m6, li_h6, li_e7, li_f7, li_l7, li_g7, li_m7, li_h7, li_e8, li_f8, li_l8, li_g8, li_m8, li_h8, li_e9, li_f9, li_l9, li_g9, li_m9, li_h9, li_e10, li_f10, li_l10, li_g10, li_m10, li_h10, li_e15, li_f15, li_l15, li_g15, li_m15, li_h15, li_e16, li_f16, li_l16, li_g16, li_m16, li_h16, li_e20, li_f20, li_l20, li_g20, li_m20, li_h20, li_e40, li_f40, li_l40, li_g40, li_m40, li_h40, li_e100, li_f100, li_l100, li_g100, li_m100, li_h100, li_e128, li_f128, li_l128, li_g128, li_m128, li_h128, li_e150, li_f150, li_l150, li_g150, li_m150, li_h150, li_e255, li_f255, li_l255, li_g255, li_m255, li_h255, li_e400, li_f400, li_l400, li_g400, li_m400, li_h400, li_e410, li_f410, li_l410, li_g410, li_m410, li_h410, li_e420, li_f420, li_l420, li_g420, li_m420, li_h420, li_e2000, li_f2000, li_l2000, li_g2000, li_m2000, li_h2000, li_e8200, li_f8200, li_l8200, li_g8200, li_m8200, li_h8200, li_e1000000, li_f1000000, li_l1000000, li_g1000000, li_m1000000, li_h1000000, li_50, li_50', li_200, li_200', nI_add, li_s1, li_t1, li_c1, li_c2, li_c3, li_c4, li_c5, li_c6, li_c7, li_c8, li_c9, li_c10, li_c11, li_c12, li_c13, li_c14, li_c15, sg_Kat, sg_Pat, pk_us, pk_uLs, true_implies, forall_const, not_true_eq_false, not_false_eq_true, false_implies, and_true, true_and, implies_true, and_self, if_true, if_false, ite_true, ite_false, reduceIte, eq_self, Nat.reduceEqDiff, Nat.reduceLeDiff, Nat.reduceLT, Int32.reduceLT, Int32.reduceLE]
    rw [show (400 : Int32) + nI R = nI (400 + R) from nI_add 400 R]
    exact hC'
  · have hA' := hA h9 (by omega)
    rw [if_neg h9] at hA'
    have h07 : sg_k g t = 0 ∨ sg_k g t = 7 := by omega
    rcases h07 with h07 | h07
    · simp (disch := omega) only [wpX_putDefault, wX_putDefault_150, h07, forall_eq, nI_leI, nI_ltI, nI_eq, vp_in_nI, nI_clamp, nI_1, li_e0, li_f0, li_l0, li_g0, li_m0, li_h0, li_e1, li_f1, li_l1, li_g1, li_m1, li_h1, li_e2, li_f2, li_l2, li_g2, li_m2, li_h2, li_e3, li_f3, li_l3, li_g3, li_m3, li_h3, li_e4, li_f4, li_l4, li_g4, li_m4, li_h4, li_e5, li_f5, li_l5, li_g5, li_m5, li_h5, li_e6, li_f6, li_l6, li_g6, li_m6, li_h6, li_e7, li_f7, li_l7, li_g7, li_m7, li_h7, li_e8, li_f8, li_l8, li_g8, li_m8, li_h8, li_e9, li_f9, li_l9, li_g9, li_m9, li_h9, li_e10, li_f10, li_l10, li_g10, li_m10, li_h10, li_e15, li_f15, li_l15, li_g15, li_m15, li_h15, li_e16, li_f16, li_l16, li_g16, li_m16, li_h16, li_e20, li_f20, li_l20, li_g20, li_m20, li_h20, li_e40, li_f40, li_l40, li_g40, li_m40, li_h40, li_e100, li_f100, li_l100, li_g100, li_m100, li_h100, li_e128, li_f128, li_l128, li_g128, li_m128, li_h128, li_e150, li_f150, li_l150, li_g150, li_m150, li_h150, li_e255, li_f255, li_l255, li_g255, li_m255, li_h255, li_e400, li_f400, li_l400, li_g400, li_m400, li_h400, li_e410, li_f410, li_l410, li_g410, li_m410, li_h410, li_e420, li_f420, li_l420, li_g420, li_m420, li_h420, li_e2000, li_f2000, li_l2000, li_g2000, li_m2000, li_h2000, li_e8200, li_f8200, li_l8200, li_g8200, li_m8200, li_h8200, li_e1000000, li_f1000000, li_l1000000, li_g1000000, li_m1000000, li_h1000000, li_50, li_50', li_200, li_200', nI_add, li_s1, li_t1, li_c1, li_c2, li_c3, li_c4, li_c5, li_c6, li_c7, li_c8, li_c9, li_c10, li_c11, li_c12, li_c13, li_c14, li_c15, sg_Kat, sg_Pat, pk_us, pk_uLs, true_implies, forall_const, not_true_eq_false, not_false_eq_true, false_implies, and_true, true_and, implies_true, and_self, if_true, if_false, ite_true, ite_false, reduceIte, eq_self, Nat.reduceEqDiff, Nat.reduceLeDiff, Nat.reduceLT, Int32.reduceLT, Int32.reduceLE]
      exact xl_put _ h (fun lc a tr h' => hA' lc a tr h')
    · simp (disch := omega) only [wpX_putDefault, wX_putDefault_150, h07, forall_eq, nI_leI, nI_ltI, nI_eq, vp_in_nI, nI_clamp, nI_1, li_e0, li_f0, li_l0, li_g0, li_m0, li_h0, li_e1, li_f1, li_l1, li_g1, li_m1, li_h1, li_e2, li_f2, li_l2, li_g2, li_m2, li_h2, li_e3, li_f3, li_l3, li_g3, li_m3, li_h3, li_e4, li_f4, li_l4, li_g4, li_m4, li_h4, li_e5, li_f5, li_l5, li_g5, li_m5, li_h5, li_e6, li_f6, li_l6, li_g6, li_m6, li_h6, li_e7, li_f7, li_l7, li_g7, li_m7, li_h7, li_e8, li_f8, li_l8, li_g8, li_m8, li_h8, li_e9, li_f9, li_l9, li_g9, li_m9, li_h9, li_e10, li_f10, li_l10, li_g10, li_m10, li_h10, li_e15, li_f15, li_l15, li_g15, li_m15, li_h15, li_e16, li_f16, li_l16, li_g16, li_m16, li_h16, li_e20, li_f20, li_l20, li_g20, li_m20, li_h20, li_e40, li_f40, li_l40, li_g40, li_m40, li_h40, li_e100, li_f100, li_l100, li_g100, li_m100, li_h100, li_e128, li_f128, li_l128, li_g128, li_m128, li_h128, li_e150, li_f150, li_l150, li_g150, li_m150, li_h150, li_e255, li_f255, li_l255, li_g255, li_m255, li_h255, li_e400, li_f400, li_l400, li_g400, li_m400, li_h400, li_e410, li_f410, li_l410, li_g410, li_m410, li_h410, li_e420, li_f420, li_l420, li_g420, li_m420, li_h420, li_e2000, li_f2000, li_l2000, li_g2000, li_m2000, li_h2000, li_e8200, li_f8200, li_l8200, li_g8200, li_m8200, li_h8200, li_e1000000, li_f1000000, li_l1000000, li_g1000000, li_m1000000, li_h1000000, li_50, li_50', li_200, li_200', nI_add, li_s1, li_t1, li_c1, li_c2, li_c3, li_c4, li_c5, li_c6, li_c7, li_c8, li_c9, li_c10, li_c11, li_c12, li_c13, li_c14, li_c15, sg_Kat, sg_Pat, pk_us, pk_uLs, true_implies, forall_const, not_true_eq_false, not_false_eq_true, false_implies, and_true, true_and, implies_true, and_self, if_true, if_false, ite_true, ite_false, reduceIte, eq_self, Nat.reduceEqDiff, Nat.reduceLeDiff, Nat.reduceLT, Int32.reduceLT, Int32.reduceLE]
      exact xl_put _ h (fun lc a tr h' => hA' lc a tr h')
/-- a RECORD begins in trouble -/
theorem xl_recFull (hg : sg_ok g) {v t T : Nat} (R : Nat) (hv : ¬ R = 10 → v < 410) (htn : t < sg_n g) (hT : T < 400) (hR : R < 1000)
    (HTR : ∀ (top rc : Int32) (fV fT fS fL fB : Nat → Int32), post (nI (sg_n g), x_byteCount, x_numberCount, x_listCount, -7, x_place, x_valueCount, top, rc, x_writtenCount, x_pairCount, sg_K g, x_detailOf, sg_f g, sg_P g, x_partName, x_partType, x_partAlias, x_partHas, x_partDefault, x_bytes, x_numbers, x_list, x_valueType, x_valueNumber, x_valueFrom, x_valueAfter, fV, fT, fS, fL, fB, x_addsNothing, x_written, x_pairs, x_pairSeen)) : wpX_beginRecord post (nI (sg_n g), x_byteCount, x_numberCount, x_listCount, -7, x_place, x_valueCount, nI T, nI R, x_writtenCount, x_pairCount, sg_K g, x_detailOf, sg_f g, sg_P g, x_partName, x_partType, x_partAlias, x_partHas, x_partDefault, x_bytes, x_numbers, x_list, x_valueType, x_valueNumber, x_valueFrom, x_valueAfter, x_frameValue, x_frameType, x_frameStep, x_frameLeft, x_frameStart, x_addsNothing, x_written, x_pairs, x_pairSeen) (nI v) (nI t) := by
  have hn := hg.1
  by_cases hd : R = 10
  · simp (disch := omega) only [wpX_beginRecord, wpX_fail, hd, forall_eq, nI_leI, nI_ltI, nI_eq, vp_in_nI, nI_clamp, nI_1, li_e0, li_f0, li_l0, li_g0, li_m0, li_h0, li_e1, li_f1, li_l1, li_g1, li_m1, li_h1, li_e2, li_f2, li_l2, li_g2, li_m2, li_h2, li_e3, li_f3, li_l3, li_g3, li_m3, li_h3, li_e4, li_f4, li_l4, li_g4, li_m4, li_h4, li_e5, li_f5, li_l5, li_g5, li_m5, li_h5, li_e6, li_f6, li_l6, li_g6, li_m6, li_h6, li_e7, li_f7, li_l7, li_g7, li_m7, li_h7, li_e8, li_f8, li_l8, li_g8, li_m8, li_h8, li_e9, li_f9, li_l9, li_g9, li_m9, li_h9, li_e10, li_f10, li_l10, li_g10, li_m10, li_h10, li_e15, li_f15, li_l15, li_g15, li_m15, li_h15, li_e16, li_f16, li_l16, li_g16, li_m16, li_h16, li_e20, li_f20, li_l20, li_g20, li_m20, li_h20, li_e40, li_f40, li_l40, li_g40, li_m40, li_h40, li_e100, li_f100, li_l100, li_g100, li_m100, li_h100, li_e128, li_f128, li_l128, li_g128, li_m128, li_h128, li_e150, li_f150, li_l150, li_g150, li_m150, li_h150, li_e255, li_f255, li_l255, li_g255, li_m255, li_h255, li_e400, li_f400, li_l400, li_g400, li_m400, li_h400, li_e410, li_f410, li_l410, li_g410, li_m410, li_h410, li_e420, li_f420, li_l420, li_g420, li_m420, li_h420, li_e2000, li_f2000, li_l2000, li_g2000, li_m2000, li_h2000, li_e8200, li_f8200, li_l8200, li_g8200, li_m8200, li_h8200, li_e1000000, li_f1000000, li_l1000000, li_g1000000, li_m1000000, li_h1000000, li_50, li_50', li_200, li_200', nI_add, li_s1, li_t1, li_c1, li_c2, li_c3, li_c4, li_c5, li_c6, li_c7, li_c8, li_c9, li_c10, li_c11, li_c12, li_c13, li_c14, li_c15, sg_Kat, sg_Pat, pk_us, pk_uLs, true_implies, forall_const, not_true_eq_false, not_false_eq_true, false_implies, and_true, true_and, implies_true, and_self, if_true, if_false, ite_true, ite_false, reduceIte, eq_self, Nat.reduceEqDiff, Nat.reduceLeDiff, Nat.reduceLT, Int32.reduceLT, Int32.reduceLE]
    exact HTR _ _ _ _ _ _ _
  · have hv2 := hv hd
    have hi : 20 * v + t < 8200 := by omega
    by_cases hmk : x_addsNothing (20 * v + t) = 0
    · simp (disch := omega) only [wpX_beginRecord, hd, hmk, forall_eq, nI_leI, nI_ltI, nI_eq, vp_in_nI, nI_clamp, nI_1, li_e0, li_f0, li_l0, li_g0, li_m0, li_h0, li_e1, li_f1, li_l1, li_g1, li_m1, li_h1, li_e2, li_f2, li_l2, li_g2, li_m2, li_h2, li_e3, li_f3, li_l3, li_g3, li_m3, li_h3, li_e4, li_f4, li_l4, li_g4, li_m4, li_h4, li_e5, li_f5, li_l5, li_g5, li_m5, li_h5, li_e6, li_f6, li_l6, li_g6, li_m6, li_h6, li_e7, li_f7, li_l7, li_g7, li_m7, li_h7, li_e8, li_f8, li_l8, li_g8, li_m8, li_h8, li_e9, li_f9, li_l9, li_g9, li_m9, li_h9, li_e10, li_f10, li_l10, li_g10, li_m10, li_h10, li_e15, li_f15, li_l15, li_g15, li_m15, li_h15, li_e16, li_f16, li_l16, li_g16, li_m16, li_h16, li_e20, li_f20, li_l20, li_g20, li_m20, li_h20, li_e40, li_f40, li_l40, li_g40, li_m40, li_h40, li_e100, li_f100, li_l100, li_g100, li_m100, li_h100, li_e128, li_f128, li_l128, li_g128, li_m128, li_h128, li_e150, li_f150, li_l150, li_g150, li_m150, li_h150, li_e255, li_f255, li_l255, li_g255, li_m255, li_h255, li_e400, li_f400, li_l400, li_g400, li_m400, li_h400, li_e410, li_f410, li_l410, li_g410, li_m410, li_h410, li_e420, li_f420, li_l420, li_g420, li_m420, li_h420, li_e2000, li_f2000, li_l2000, li_g2000, li_m2000, li_h2000, li_e8200, li_f8200, li_l8200, li_g8200, li_m8200, li_h8200, li_e1000000, li_f1000000, li_l1000000, li_g1000000, li_m1000000, li_h1000000, li_50, li_50', li_200, li_200', nI_add, li_s1, li_t1, li_c1, li_c2, li_c3, li_c4, li_c5, li_c6, li_c7, li_c8, li_c9, li_c10, li_c11, li_c12, li_c13, li_c14, li_c15, sg_Kat, sg_Pat, pk_us, pk_uLs, true_implies, forall_const, not_true_eq_false, not_false_eq_true, false_implies, and_true, true_and, implies_true, and_self, if_true, if_false, ite_true, ite_false, reduceIte, eq_self, Nat.reduceEqDiff, Nat.reduceLeDiff, Nat.reduceLT, Int32.reduceLT, Int32.reduceLE]
      refine xl_push hg hT (by omega) ?_
      simp (disch := omega) only [forall_eq, nI_leI, nI_ltI, nI_eq, vp_in_nI, nI_clamp, nI_1, li_e0, li_f0, li_l0, li_g0, li_m0, li_h0, li_e1, li_f1, li_l1, li_g1, li_m1, li_h1, li_e2, li_f2, li_l2, li_g2, li_m2, li_h2, li_e3, li_f3, li_l3, li_g3, li_m3, li_h3, li_e4, li_f4, li_l4, li_g4, li_m4, li_h4, li_e5, li_f5, li_l5, li_g5, li_m5, li_h5, li_e6, li_f6, li_l6, li_g6, li_m6, li_h6, li_e7, li_f7, li_l7, li_g7, li_m7, li_h7, li_e8, li_f8, li_l8, li_g8, li_m8, li_h8, li_e9, li_f9, li_l9, li_g9, li_m9, li_h9, li_e10, li_f10, li_l10, li_g10, li_m10, li_h10, li_e15, li_f15, li_l15, li_g15, li_m15, li_h15, li_e16, li_f16, li_l16, li_g16, li_m16, li_h16, li_e20, li_f20, li_l20, li_g20, li_m20, li_h20, li_e40, li_f40, li_l40, li_g40, li_m40, li_h40, li_e100, li_f100, li_l100, li_g100, li_m100, li_h100, li_e128, li_f128, li_l128, li_g128, li_m128, li_h128, li_e150, li_f150, li_l150, li_g150, li_m150, li_h150, li_e255, li_f255, li_l255, li_g255, li_m255, li_h255, li_e400, li_f400, li_l400, li_g400, li_m400, li_h400, li_e410, li_f410, li_l410, li_g410, li_m410, li_h410, li_e420, li_f420, li_l420, li_g420, li_m420, li_h420, li_e2000, li_f2000, li_l2000, li_g2000, li_m2000, li_h2000, li_e8200, li_f8200, li_l8200, li_g8200, li_m8200, li_h8200, li_e1000000, li_f1000000, li_l1000000, li_g1000000, li_m1000000, li_h1000000, li_50, li_50', li_200, li_200', nI_add, li_s1, li_t1, li_c1, li_c2, li_c3, li_c4, li_c5, li_c6, li_c7, li_c8, li_c9, li_c10, li_c11, li_c12, li_c13, li_c14, li_c15, sg_Kat, sg_Pat, pk_us, pk_uLs, true_implies, forall_const, not_true_eq_false, not_false_eq_true, false_implies, and_true, true_and, implies_true, and_self, if_true, if_false, ite_true, ite_false, reduceIte, eq_self, Nat.reduceEqDiff, Nat.reduceLeDiff, Nat.reduceLT, Int32.reduceLT, Int32.reduceLE]
      exact HTR _ _ _ _ _ _ _
    · simp (disch := omega) only [wpX_beginRecord, hd, hmk, forall_eq, nI_leI, nI_ltI, nI_eq, vp_in_nI, nI_clamp, nI_1, li_e0, li_f0, li_l0, li_g0, li_m0, li_h0, li_e1, li_f1, li_l1, li_g1, li_m1, li_h1, li_e2, li_f2, li_l2, li_g2, li_m2, li_h2, li_e3, li_f3, li_l3, li_g3, li_m3, li_h3, li_e4, li_f4, li_l4, li_g4, li_m4, li_h4, li_e5, li_f5, li_l5, li_g5, li_m5, li_h5, li_e6, li_f6, li_l6, li_g6, li_m6, li_h6, li_e7, li_f7, li_l7, li_g7, li_m7, li_h7, li_e8, li_f8, li_l8, li_g8, li_m8, li_h8, li_e9, li_f9, li_l9, li_g9, li_m9, li_h9, li_e10, li_f10, li_l10, li_g10, li_m10, li_h10, li_e15, li_f15, li_l15, li_g15, li_m15, li_h15, li_e16, li_f16, li_l16, li_g16, li_m16, li_h16, li_e20, li_f20, li_l20, li_g20, li_m20, li_h20, li_e40, li_f40, li_l40, li_g40, li_m40, li_h40, li_e100, li_f100, li_l100, li_g100, li_m100, li_h100, li_e128, li_f128, li_l128, li_g128, li_m128, li_h128, li_e150, li_f150, li_l150, li_g150, li_m150, li_h150, li_e255, li_f255, li_l255, li_g255, li_m255, li_h255, li_e400, li_f400, li_l400, li_g400, li_m400, li_h400, li_e410, li_f410, li_l410, li_g410, li_m410, li_h410, li_e420, li_f420, li_l420, li_g420, li_m420, li_h420, li_e2000, li_f2000, li_l2000, li_g2000, li_m2000, li_h2000, li_e8200, li_f8200, li_l8200, li_g8200, li_m8200, li_h8200, li_e1000000, li_f1000000, li_l1000000, li_g1000000, li_m1000000, li_h1000000, li_50, li_50', li_200, li_200', nI_add, li_s1, li_t1, li_c1, li_c2, li_c3, li_c4, li_c5, li_c6, li_c7, li_c8, li_c9, li_c10, li_c11, li_c12, li_c13, li_c14, li_c15, sg_Kat, sg_Pat, pk_us, pk_uLs, true_implies, forall_const, not_true_eq_false, not_false_eq_true, false_implies, and_true, true_and, implies_true, and_self, if_true, if_false, ite_true, ite_false, reduceIte, eq_self, Nat.reduceEqDiff, Nat.reduceLeDiff, Nat.reduceLT, Int32.reduceLT, Int32.reduceLE]
      exact HTR _ _ _ _ _ _ _
theorem sr_dfl_plain {t d : Nat} {x : Int32} (n9 : ¬ sg_k g t = 9) (n5 : ¬ (sg_k g t = 5 ∧ sg_p g t = 0)) : sr_dfl g w t x d = ((sr_dfl g w t x d).1, 0, [], d) := by
  unfold sr_dfl
  by_cases h1 : sg_k g t = 1
  · rw [if_pos h1]
  rw [if_neg h1]
  by_cases h2 : sg_k g t = 2 ∨ sg_k g t = 3
  · rw [if_pos h2]
  rw [if_neg h2]
  by_cases h4 : sg_k g t = 4
  · rw [if_pos h4]
  rw [if_neg h4]
  by_cases h5 : sg_k g t = 5
  · rw [if_pos h5, if_neg (fun z => n5 ⟨h5, z⟩)]
  rw [if_neg h5]
  by_cases h6 : sg_k g t = 6
  · rw [if_pos h6]
  rw [if_neg h6, if_neg n9]
/-- the default of a type that is no UNION, as an item -/
theorem xl_dflItem (hg : sg_ok g) (hX : sg_X g x_detailOf x_partName x_partType x_partAlias x_partHas x_partDefault) {t : Nat} {x : Int32} (hm : sx_mid g w r (1, 0, t, x) F L x_addsNothing) (hf : sx_fr fV fT fS fL fB F) (hw : sv_ok g w) (htn : t < sg_n g) (h8 : ¬ sg_k g t = 8) (hlt : ∀ e, e ∈ F → e.1 < 400 + sx_rc g F)
    (h : sl_is L a) (HOK : ∀ (F' : List sx_F) (L' : List Int64) (a : Nat → Int64) (fV fT fS fL fB : Nat → Int32), sx_inv g w r F' L' x_addsNothing → sx_mu g F' L' x_addsNothing ≤ sx_mu g F L x_addsNothing → sl_is L' a → sx_fr fV fT fS fL fB F' → post (nI (sg_n g), x_byteCount, x_numberCount, nI L'.length, 0, x_place, x_valueCount, nI F'.length, nI (sx_rc g F'), x_writtenCount, x_pairCount, sg_K g, x_detailOf, sg_f g, sg_P g, x_partName, x_partType, x_partAlias, x_partHas, x_partDefault, sv_b w, x_numbers, a, x_valueType, x_valueNumber, x_valueFrom, x_valueAfter, fV, fT, fS, fL, fB, x_addsNothing, x_written, x_pairs, x_pairSeen)) (HTR : ∀ (e : Int32) (lc : Int32) (a : Nat → Int64) (top rc : Int32) (fV fT fS fL fB : Nat → Int32), sx_bad g w r e → post (nI (sg_n g), x_byteCount, x_numberCount, lc, e, x_place, x_valueCount, top, rc, x_writtenCount, x_pairCount, sg_K g, x_detailOf, sg_f g, sg_P g, x_partName, x_partType, x_partAlias, x_partHas, x_partDefault, sv_b w, x_numbers, a, x_valueType, x_valueNumber, x_valueFrom, x_valueAfter, fV, fT, fS, fL, fB, x_addsNothing, x_written, x_pairs, x_pairSeen)) : wpX_putDefault post (nI (sg_n g), x_byteCount, x_numberCount, nI L.length, 0, x_place, x_valueCount, nI F.length, nI (sx_rc g F), x_writtenCount, x_pairCount, sg_K g, x_detailOf, sg_f g, sg_P g, x_partName, x_partType, x_partAlias, x_partHas, x_partDefault, sv_b w, x_numbers, a, x_valueType, x_valueNumber, x_valueFrom, x_valueAfter, fV, fT, fS, fL, fB, x_addsNothing, x_written, x_pairs, x_pairSeen) (nI t) x := by
  have h10 := hm.2.1
  have h0 := sl_out0 h hm.2.2.2.1
  have k9 := hg.2.1 t
  have hst : sr_stp g w (1, 0, t, x) (sx_rc g F) = sr_dfl g w t x (sx_rc g F) := by
    unfold sr_stp sr_dft
    rw [if_neg (show ¬ ((1, 0, t, x) : sr_I).1 = 0 from (by show ¬ (1 : Nat) = 0; decide)), if_pos (show ((1, 0, t, x) : sr_I).1 = 1 from rfl), if_neg h8]
  refine xl_putDefault0 (w := w) hg hX (by omega) htn h8 h0 (fun n9 n5 lc a tr h' => ?_) (fun h5 hp0 => ?_) (fun h9 => ?_)
  · refine xl_end hm hf (O := (sr_dfl g w t x (sx_rc g F)).1) ?_ h' HOK HTR
    rw [hst]
    exact sr_dfl_plain n9 n5
  · refine xl_bad hm (O := []) (new := []) (d := sx_rc g F) (by decide) ?_ h0 HTR
    rw [hst]
    unfold sr_dfl
    rw [if_neg (by omega), if_neg (by omega), if_neg (by omega), if_pos h5, if_pos hp0]
  · refine xl_beginRecord hg hX hm hf (O := []) htn h9 (fun z => absurd z (by omega)) (fun _ => rfl) hlt ?_ h0 HOK HTR
    rw [hst]
    unfold sr_dfl
    rw [if_neg (by omega), if_neg (by omega), if_neg (by omega), if_neg (by omega), if_neg (by omega), if_pos h9]
    have er : (sr_rec g w (400 + sx_rc g F) t (sx_rc g F)).1 = [] := by
      unfold sr_rec
      split <;> rfl
    rw [← er]
theorem sx_mid2 {mk : Nat → Int32} (hm : sx_mid g w r it F L mk) {o : List Int64} {it2 : sr_I} (hs : sr_stp g w it (sx_rc g F) = (o, 0, [it2], sx_rc g F)) (hl : L.length + o.length ≤ 150) :
    sx_mid g w r it2 F (L ++ o) mk ∧ sx_mu g F (L ++ o) mk ≤ sx_mu g F L mk := by
  obtain ⟨a1, a2, a3, a4, a5⟩ := sx_after hm hs hl
  obtain ⟨h1, h2, h3, h4, h5, h6, h7⟩ := hm
  refine ⟨⟨a1, h2, a2, a3, a4, h6, a5⟩, ?_⟩
  unfold sx_mu
  have hlen : (L ++ o).length = L.length + o.length := List.length_append
  by_cases ho : o = []
  · subst ho; rw [List.append_nil]; exact Nat.le_refl _
  · have hp : 0 < o.length := List.length_pos_iff.mpr ho
    have h8 := sx_op_le g L.length F
    have h9 := sx_op_le g (L ++ o).length F
    omega
theorem xl_putDefaultOf (hg : sg_ok g) (hX : sg_X g x_detailOf x_partName x_partType x_partAlias x_partHas x_partDefault) {t k : Nat} (hw : sv_ok g w) (htn : t < sg_n g) (h9 : sg_k g t = 9) (hk : k < sg_p g t) (hm : sx_mid g w r (sr_dfi g (5 * t + k)) F L x_addsNothing) (hf : sx_fr fV fT fS fL fB F) (hlt : ∀ e, e ∈ F → e.1 < 400 + sx_rc g F)
    (h : sl_is L a) (HOK : ∀ (F' : List sx_F) (L' : List Int64) (a : Nat → Int64) (fV fT fS fL fB : Nat → Int32), sx_inv g w r F' L' x_addsNothing → sx_mu g F' L' x_addsNothing ≤ sx_mu g F L x_addsNothing → sl_is L' a → sx_fr fV fT fS fL fB F' → post (nI (sg_n g), x_byteCount, x_numberCount, nI L'.length, 0, x_place, x_valueCount, nI F'.length, nI (sx_rc g F'), x_writtenCount, x_pairCount, sg_K g, x_detailOf, sg_f g, sg_P g, x_partName, x_partType, x_partAlias, x_partHas, x_partDefault, sv_b w, x_numbers, a, x_valueType, x_valueNumber, x_valueFrom, x_valueAfter, fV, fT, fS, fL, fB, x_addsNothing, x_written, x_pairs, x_pairSeen)) (HTR : ∀ (e : Int32) (lc : Int32) (a : Nat → Int64) (top rc : Int32) (fV fT fS fL fB : Nat → Int32), sx_bad g w r e → post (nI (sg_n g), x_byteCount, x_numberCount, lc, e, x_place, x_valueCount, top, rc, x_writtenCount, x_pairCount, sg_K g, x_detailOf, sg_f g, sg_P g, x_partName, x_partType, x_partAlias, x_partHas, x_partDefault, sv_b w, x_numbers, a, x_valueType, x_valueNumber, x_valueFrom, x_valueAfter, fV, fT, fS, fL, fB, x_addsNothing, x_written, x_pairs, x_pairSeen)) : wpX_putDefaultOf post (nI (sg_n g), x_byteCount, x_numberCount, nI L.length, 0, x_place, x_valueCount, nI F.length, nI (sx_rc g F), x_writtenCount, x_pairCount, sg_K g, x_detailOf, sg_f g, sg_P g, x_partName, x_partType, x_partAlias, x_partHas, x_partDefault, sv_b w, x_numbers, a, x_valueType, x_valueNumber, x_valueFrom, x_valueAfter, fV, fT, fS, fL, fB, x_addsNothing, x_written, x_pairs, x_pairSeen) (nI (5 * t + k)) := by
  have hn := hg.1
  have h10 := hm.2.1
  have h0 := sl_out0 h hm.2.2.2.1
  have p5 := hg.2.2.1 t
  have hu := hg.2.2.2.2.2.2.2.1 t k htn hk (by omega)
  have eT := hX.2.2.1 t k htn hk (by omega)
  obtain ⟨eA, eH, eV⟩ := hX.2.2.2.1 t k htn hk h9
  have k9 := hg.2.1 (sg_t g (5 * t + k))
  unfold sr_dfi at hm
  by_cases hh : sg_h g (5 * t + k) = 0
  · rw [if_pos hh] at hm
    simp (disch := omega) only [wpX_putDefaultOf, eT, eH, hh, forall_eq, nI_leI, nI_ltI, nI_eq, vp_in_nI, nI_clamp, nI_1, li_e0, li_f0, li_l0, li_g0, li_m0, li_h0, li_e1, li_f1, li_l1, li_g1, li_m1, li_h1, li_e2, li_f2, li_l2, li_g2, li_m2, li_h2, li_e3, li_f3, li_l3, li_g3, li_m3, li_h3, li_e4, li_f4, li_l4, li_g4, li_m4, li_h4, li_e5, li_f5, li_l5, li_g5, li_m5, li_h5, li_e6, li_f6, li_l6, li_g6, li_m6, li_h6, li_e7, li_f7, li_l7, li_g7, li_m7, li_h7, li_e8, li_f8, li_l8, li_g8, li_m8, li_h8, li_e9, li_f9, li_l9, li_g9, li_m9, li_h9, li_e10, li_f10, li_l10, li_g10, li_m10, li_h10, li_e15, li_f15, li_l15, li_g15, li_m15, li_h15, li_e16, li_f16, li_l16, li_g16, li_m16, li_h16, li_e20, li_f20, li_l20, li_g20, li_m20, li_h20, li_e40, li_f40, li_l40, li_g40, li_m40, li_h40, li_e100, li_f100, li_l100, li_g100, li_m100, li_h100, li_e128, li_f128, li_l128, li_g128, li_m128, li_h128, li_e150, li_f150, li_l150, li_g150, li_m150, li_h150, li_e255, li_f255, li_l255, li_g255, li_m255, li_h255, li_e400, li_f400, li_l400, li_g400, li_m400, li_h400, li_e410, li_f410, li_l410, li_g410, li_m410, li_h410, li_e420, li_f420, li_l420, li_g420, li_m420, li_h420, li_e2000, li_f2000, li_l2000, li_g2000, li_m2000, li_h2000, li_e8200, li_f8200, li_l8200, li_g8200, li_m8200, li_h8200, li_e1000000, li_f1000000, li_l1000000, li_g1000000, li_m1000000, li_h1000000, li_50, li_50', li_200, li_200', nI_add, li_s1, li_t1, li_c1, li_c2, li_c3, li_c4, li_c5, li_c6, li_c7, li_c8, li_c9, li_c10, li_c11, li_c12, li_c13, li_c14, li_c15, sg_Kat, sg_Pat, pk_us, pk_uLs, true_implies, forall_const, not_true_eq_false, not_false_eq_true, false_implies, and_true, true_and, implies_true, and_self, if_true, if_false, ite_true, ite_false, reduceIte, eq_self, Nat.reduceEqDiff, Nat.reduceLeDiff, Nat.reduceLT, Int32.reduceLT, Int32.reduceLE]
    exact xl_bad hm (O := []) (new := []) (d := sx_rc g F) (by decide) rfl h0 HTR
  · rw [if_neg hh] at hm
    by_cases h8 : sg_k g (sg_t g (5 * t + k)) = 8
    · by_cases hp0 : sg_p g (sg_t g (5 * t + k)) = 0
      · simp (disch := omega) only [wpX_putDefaultOf, eT, eH, hh, h8, hp0, forall_eq, nI_leI, nI_ltI, nI_eq, vp_in_nI, nI_clamp, nI_1, li_e0, li_f0, li_l0, li_g0, li_m0, li_h0, li_e1, li_f1, li_l1, li_g1, li_m1, li_h1, li_e2, li_f2, li_l2, li_g2, li_m2, li_h2, li_e3, li_f3, li_l3, li_g3, li_m3, li_h3, li_e4, li_f4, li_l4, li_g4, li_m4, li_h4, li_e5, li_f5, li_l5, li_g5, li_m5, li_h5, li_e6, li_f6, li_l6, li_g6, li_m6, li_h6, li_e7, li_f7, li_l7, li_g7, li_m7, li_h7, li_e8, li_f8, li_l8, li_g8, li_m8, li_h8, li_e9, li_f9, li_l9, li_g9, li_m9, li_h9, li_e10, li_f10, li_l10, li_g10, li_m10, li_h10, li_e15, li_f15, li_l15, li_g15, li_m15, li_h15, li_e16, li_f16, li_l16, li_g16, li_m16, li_h16, li_e20, li_f20, li_l20, li_g20, li_m20, li_h20, li_e40, li_f40, li_l40, li_g40, li_m40, li_h40, li_e100, li_f100, li_l100, li_g100, li_m100, li_h100, li_e128, li_f128, li_l128, li_g128, li_m128, li_h128, li_e150, li_f150, li_l150, li_g150, li_m150, li_h150, li_e255, li_f255, li_l255, li_g255, li_m255, li_h255, li_e400, li_f400, li_l400, li_g400, li_m400, li_h400, li_e410, li_f410, li_l410, li_g410, li_m410, li_h410, li_e420, li_f420, li_l420, li_g420, li_m420, li_h420, li_e2000, li_f2000, li_l2000, li_g2000, li_m2000, li_h2000, li_e8200, li_f8200, li_l8200, li_g8200, li_m8200, li_h8200, li_e1000000, li_f1000000, li_l1000000, li_g1000000, li_m1000000, li_h1000000, li_50, li_50', li_200, li_200', nI_add, li_s1, li_t1, li_c1, li_c2, li_c3, li_c4, li_c5, li_c6, li_c7, li_c8, li_c9, li_c10, li_c11, li_c12, li_c13, li_c14, li_c15, sg_Kat, sg_Pat, pk_us, pk_uLs, true_implies, forall_const, not_true_eq_false, not_false_eq_true, false_implies, and_true, true_and, implies_true, and_self, if_true, if_false, ite_true, ite_false, reduceIte, eq_self, Nat.reduceEqDiff, Nat.reduceLeDiff, Nat.reduceLT, Int32.reduceLT, Int32.reduceLE]
        refine xl_bad hm (O := []) (new := []) (d := sx_rc g F) (by decide) ?_ h0 HTR
        unfold sr_stp sr_dft
        rw [if_neg (show ¬ ((1, 0, sg_t g (5 * t + k), sg_v g (5 * t + k)) : sr_I).1 = 0 from (by show ¬ (1 : Nat) = 0; decide)), if_pos (show ((1, 0, sg_t g (5 * t + k), sg_v g (5 * t + k)) : sr_I).1 = 1 from rfl), if_pos h8, if_pos hp0]
      · have pu := hg.2.2.1 (sg_t g (5 * t + k))
        have eU := hX.2.2.1 _ 0 hu (by omega) (by omega)
        have hu2 := hg.2.2.2.2.2.2.2.1 _ 0 hu (by omega) (by omega)
        have hu8 := hg.2.2.2.2.2.2.2.2.1 _ 0 hu (by omega) h8
        rw [Nat.add_zero] at eU hu2 hu8
        have hst : sr_stp g w (1, 0, sg_t g (5 * t + k), sg_v g (5 * t + k)) (sx_rc g F) = ([0], 0, [(1, 0, sg_t g (5 * sg_t g (5 * t + k)), sg_v g (5 * t + k))], sx_rc g F) := by
          unfold sr_stp sr_dft
          rw [if_neg (show ¬ ((1, 0, sg_t g (5 * t + k), sg_v g (5 * t + k)) : sr_I).1 = 0 from (by show ¬ (1 : Nat) = 0; decide)), if_pos (show ((1, 0, sg_t g (5 * t + k), sg_v g (5 * t + k)) : sr_I).1 = 1 from rfl), if_pos h8, if_neg hp0]
        simp (disch := omega) only [wpX_putDefaultOf, eT, eH, hh, h8, hp0, forall_eq, nI_leI, nI_ltI, nI_eq, vp_in_nI, nI_clamp, nI_1, li_e0, li_f0, li_l0, li_g0, li_m0, li_h0, li_e1, li_f1, li_l1, li_g1, li_m1, li_h1, li_e2, li_f2, li_l2, li_g2, li_m2, li_h2, li_e3, li_f3, li_l3, li_g3, li_m3, li_h3, li_e4, li_f4, li_l4, li_g4, li_m4, li_h4, li_e5, li_f5, li_l5, li_g5, li_m5, li_h5, li_e6, li_f6, li_l6, li_g6, li_m6, li_h6, li_e7, li_f7, li_l7, li_g7, li_m7, li_h7, li_e8, li_f8, li_l8, li_g8, li_m8, li_h8, li_e9, li_f9, li_l9, li_g9, li_m9, li_h9, li_e10, li_f10, li_l10, li_g10, li_m10, li_h10, li_e15, li_f15, li_l15, li_g15, li_m15, li_h15, li_e16, li_f16, li_l16, li_g16, li_m16, li_h16, li_e20, li_f20, li_l20, li_g20, li_m20, li_h20, li_e40, li_f40, li_l40, li_g40, li_m40, li_h40, li_e100, li_f100, li_l100, li_g100, li_m100, li_h100, li_e128, li_f128, li_l128, li_g128, li_m128, li_h128, li_e150, li_f150, li_l150, li_g150, li_m150, li_h150, li_e255, li_f255, li_l255, li_g255, li_m255, li_h255, li_e400, li_f400, li_l400, li_g400, li_m400, li_h400, li_e410, li_f410, li_l410, li_g410, li_m410, li_h410, li_e420, li_f420, li_l420, li_g420, li_m420, li_h420, li_e2000, li_f2000, li_l2000, li_g2000, li_m2000, li_h2000, li_e8200, li_f8200, li_l8200, li_g8200, li_m8200, li_h8200, li_e1000000, li_f1000000, li_l1000000, li_g1000000, li_m1000000, li_h1000000, li_50, li_50', li_200, li_200', nI_add, li_s1, li_t1, li_c1, li_c2, li_c3, li_c4, li_c5, li_c6, li_c7, li_c8, li_c9, li_c10, li_c11, li_c12, li_c13, li_c14, li_c15, sg_Kat, sg_Pat, pk_us, pk_uLs, true_implies, forall_const, not_true_eq_false, not_false_eq_true, false_implies, and_true, true_and, implies_true, and_self, if_true, if_false, ite_true, ite_false, reduceIte, eq_self, Nat.reduceEqDiff, Nat.reduceLeDiff, Nat.reduceLT, Int32.reduceLT, Int32.reduceLE]
        refine xl_put _ h0 (fun lc a tr h' => ?_)
        simp (disch := omega) only [eU, eV, forall_eq, nI_leI, nI_ltI, nI_eq, vp_in_nI, nI_clamp, nI_1, li_e0, li_f0, li_l0, li_g0, li_m0, li_h0, li_e1, li_f1, li_l1, li_g1, li_m1, li_h1, li_e2, li_f2, li_l2, li_g2, li_m2, li_h2, li_e3, li_f3, li_l3, li_g3, li_m3, li_h3, li_e4, li_f4, li_l4, li_g4, li_m4, li_h4, li_e5, li_f5, li_l5, li_g5, li_m5, li_h5, li_e6, li_f6, li_l6, li_g6, li_m6, li_h6, li_e7, li_f7, li_l7, li_g7, li_m7, li_h7, li_e8, li_f8, li_l8, li_g8, li_m8, li_h8, li_e9, li_f9, li_l9, li_g9, li_m9, li_h9, li_e10, li_f10, li_l10, li_g10, li_m10, li_h10, li_e15, li_f15, li_l15, li_g15, li_m15, li_h15, li_e16, li_f16, li_l16, li_g16, li_m16, li_h16, li_e20, li_f20, li_l20, li_g20, li_m20, li_h20, li_e40, li_f40, li_l40, li_g40, li_m40, li_h40, li_e100, li_f100, li_l100, li_g100, li_m100, li_h100, li_e128, li_f128, li_l128, li_g128, li_m128, li_h128, li_e150, li_f150, li_l150, li_g150, li_m150, li_h150, li_e255, li_f255, li_l255, li_g255, li_m255, li_h255, li_e400, li_f400, li_l400, li_g400, li_m400, li_h400, li_e410, li_f410, li_l410, li_g410, li_m410, li_h410, li_e420, li_f420, li_l420, li_g420, li_m420, li_h420, li_e2000, li_f2000, li_l2000, li_g2000, li_m2000, li_h2000, li_e8200, li_f8200, li_l8200, li_g8200, li_m8200, li_h8200, li_e1000000, li_f1000000, li_l1000000, li_g1000000, li_m1000000, li_h1000000, li_50, li_50', li_200, li_200', nI_add, li_s1, li_t1, li_c1, li_c2, li_c3, li_c4, li_c5, li_c6, li_c7, li_c8, li_c9, li_c10, li_c11, li_c12, li_c13, li_c14, li_c15, sg_Kat, sg_Pat, pk_us, pk_uLs, true_implies, forall_const, not_true_eq_false, not_false_eq_true, false_implies, and_true, true_and, implies_true, and_self, if_true, if_false, ite_true, ite_false, reduceIte, eq_self, Nat.reduceEqDiff, Nat.reduceLeDiff, Nat.reduceLT, Int32.reduceLT, Int32.reduceLE]
        rcases h' with ⟨h1, rfl, h3, rfl⟩ | ⟨h1, rfl, rfl⟩
        · obtain ⟨m1, m2⟩ := sx_mid2 hm hst h1
          have H := xl_dflItem hg hX m1 hf hw hu2 hu8 hlt h3 (fun F' L' a fV fT fS fL fB i1 i2 i3 i4 => HOK F' L' a fV fT fS fL fB i1 (Nat.le_trans i2 m2) i3 i4) HTR
          rw [List.length_append] at H
          exact H
        · have hb := xl_full hm hst h1
          refine xl_putDefault0 (w := w) (L := L) (o := [0]) hg hX (by omega) hu2 hu8 (Or.inr ⟨h1, rfl, rfl⟩) (fun n9 n5 lc a tr h' => ?_) (fun h5 hp0 => ?_) (fun h9 => ?_)
          · rcases h' with ⟨h2, rfl, h3, rfl⟩ | ⟨h2, rfl, rfl⟩
            · simp only [List.length_append, List.length_cons, List.length_nil, List.nil_append] at h1 h2
              omega
            · exact HTR _ _ _ _ _ _ _ _ _ _ hb
          · simp (disch := omega) only [wpX_fail, forall_eq, nI_leI, nI_ltI, nI_eq, vp_in_nI, nI_clamp, nI_1, li_e0, li_f0, li_l0, li_g0, li_m0, li_h0, li_e1, li_f1, li_l1, li_g1, li_m1, li_h1, li_e2, li_f2, li_l2, li_g2, li_m2, li_h2, li_e3, li_f3, li_l3, li_g3, li_m3, li_h3, li_e4, li_f4, li_l4, li_g4, li_m4, li_h4, li_e5, li_f5, li_l5, li_g5, li_m5, li_h5, li_e6, li_f6, li_l6, li_g6, li_m6, li_h6, li_e7, li_f7, li_l7, li_g7, li_m7, li_h7, li_e8, li_f8, li_l8, li_g8, li_m8, li_h8, li_e9, li_f9, li_l9, li_g9, li_m9, li_h9, li_e10, li_f10, li_l10, li_g10, li_m10, li_h10, li_e15, li_f15, li_l15, li_g15, li_m15, li_h15, li_e16, li_f16, li_l16, li_g16, li_m16, li_h16, li_e20, li_f20, li_l20, li_g20, li_m20, li_h20, li_e40, li_f40, li_l40, li_g40, li_m40, li_h40, li_e100, li_f100, li_l100, li_g100, li_m100, li_h100, li_e128, li_f128, li_l128, li_g128, li_m128, li_h128, li_e150, li_f150, li_l150, li_g150, li_m150, li_h150, li_e255, li_f255, li_l255, li_g255, li_m255, li_h255, li_e400, li_f400, li_l400, li_g400, li_m400, li_h400, li_e410, li_f410, li_l410, li_g410, li_m410, li_h410, li_e420, li_f420, li_l420, li_g420, li_m420, li_h420, li_e2000, li_f2000, li_l2000, li_g2000, li_m2000, li_h2000, li_e8200, li_f8200, li_l8200, li_g8200, li_m8200, li_h8200, li_e1000000, li_f1000000, li_l1000000, li_g1000000, li_m1000000, li_h1000000, li_50, li_50', li_200, li_200', nI_add, li_s1, li_t1, li_c1, li_c2, li_c3, li_c4, li_c5, li_c6, li_c7, li_c8, li_c9, li_c10, li_c11, li_c12, li_c13, li_c14, li_c15, sg_Kat, sg_Pat, pk_us, pk_uLs, true_implies, forall_const, not_true_eq_false, not_false_eq_true, false_implies, and_true, true_and, implies_true, and_self, if_true, if_false, ite_true, ite_false, reduceIte, eq_self, Nat.reduceEqDiff, Nat.reduceLeDiff, Nat.reduceLT, Int32.reduceLT, Int32.reduceLE]
            exact HTR _ _ _ _ _ _ _ _ _ _ hb
          · have hlen := hm.2.2.1
            have hL := hm.2.2.2.1
            exact xl_recFull hg _ (fun z => by omega) hu2 (by omega) (by omega) (fun top rc fV fT fS fL fB => HTR _ _ _ _ _ _ _ _ _ _ hb)
    · simp (disch := omega) only [wpX_putDefaultOf, eT, eH, eV, hh, h8, forall_eq, nI_leI, nI_ltI, nI_eq, vp_in_nI, nI_clamp, nI_1, li_e0, li_f0, li_l0, li_g0, li_m0, li_h0, li_e1, li_f1, li_l1, li_g1, li_m1, li_h1, li_e2, li_f2, li_l2, li_g2, li_m2, li_h2, li_e3, li_f3, li_l3, li_g3, li_m3, li_h3, li_e4, li_f4, li_l4, li_g4, li_m4, li_h4, li_e5, li_f5, li_l5, li_g5, li_m5, li_h5, li_e6, li_f6, li_l6, li_g6, li_m6, li_h6, li_e7, li_f7, li_l7, li_g7, li_m7, li_h7, li_e8, li_f8, li_l8, li_g8, li_m8, li_h8, li_e9, li_f9, li_l9, li_g9, li_m9, li_h9, li_e10, li_f10, li_l10, li_g10, li_m10, li_h10, li_e15, li_f15, li_l15, li_g15, li_m15, li_h15, li_e16, li_f16, li_l16, li_g16, li_m16, li_h16, li_e20, li_f20, li_l20, li_g20, li_m20, li_h20, li_e40, li_f40, li_l40, li_g40, li_m40, li_h40, li_e100, li_f100, li_l100, li_g100, li_m100, li_h100, li_e128, li_f128, li_l128, li_g128, li_m128, li_h128, li_e150, li_f150, li_l150, li_g150, li_m150, li_h150, li_e255, li_f255, li_l255, li_g255, li_m255, li_h255, li_e400, li_f400, li_l400, li_g400, li_m400, li_h400, li_e410, li_f410, li_l410, li_g410, li_m410, li_h410, li_e420, li_f420, li_l420, li_g420, li_m420, li_h420, li_e2000, li_f2000, li_l2000, li_g2000, li_m2000, li_h2000, li_e8200, li_f8200, li_l8200, li_g8200, li_m8200, li_h8200, li_e1000000, li_f1000000, li_l1000000, li_g1000000, li_m1000000, li_h1000000, li_50, li_50', li_200, li_200', nI_add, li_s1, li_t1, li_c1, li_c2, li_c3, li_c4, li_c5, li_c6, li_c7, li_c8, li_c9, li_c10, li_c11, li_c12, li_c13, li_c14, li_c15, sg_Kat, sg_Pat, pk_us, pk_uLs, true_implies, forall_const, not_true_eq_false, not_false_eq_true, false_implies, and_true, true_and, implies_true, and_self, if_true, if_false, ite_true, ite_false, reduceIte, eq_self, Nat.reduceEqDiff, Nat.reduceLeDiff, Nat.reduceLT, Int32.reduceLT, Int32.reduceLE]
      exact xl_dflItem hg hX hm hf hw hu h8 hlt h HOK HTR
end
end
section
/-! the class's resolving: the loop -/
section
variable {x_typeCount x_byteCount x_numberCount x_listCount x_trouble x_place x_valueCount x_top x_records x_writtenCount x_pairCount : Int32}
variable {x_kindOf x_detailOf x_fallbackOf x_partCount x_partName x_partType x_partAlias x_partHas x_partDefault x_bytes x_valueType x_valueFrom x_valueAfter x_frameValue x_frameType x_frameStep x_frameLeft x_frameStart x_addsNothing x_written x_pairs x_pairSeen : Nat → Int32}
variable {x_numbers x_list x_valueNumber : Nat → Int64}
variable {g : sg_T} {w : sr_V} {r : Nat} {post : SX → Prop}
theorem xl_fieldFor {post : Int32 → Prop} (hg : sg_ok g) (hX : sg_X g x_detailOf x_partName x_partType x_partAlias x_partHas x_partDefault) {u t k : Nat} (hu : u < sg_n g) (hu8 : ¬ sg_k g u = 8) (ht : t < sg_n g) (h9 : sg_k g t = 9) (hk : k < sg_p g t) (h : post (sd_oi (sg_ff g u (5 * t + k)))) : wpX_fieldFor post (nI (sg_n g), x_byteCount, x_numberCount, x_listCount, x_trouble, x_place, x_valueCount, x_top, x_records, x_writtenCount, x_pairCount, sg_K g, x_detailOf, sg_f g, sg_P g, x_partName, x_partType, x_partAlias, x_partHas, x_partDefault, x_bytes, x_numbers, x_list, x_valueType, x_valueNumber, x_valueFrom, x_valueAfter, x_frameValue, x_frameType, x_frameStep, x_frameLeft, x_frameStart, x_addsNothing, x_written, x_pairs, x_pairSeen) (nI u) (nI (5 * t + k)) := by
  have hn := hg.1
  have p5 := hg.2.2.1 t
  have eN := hX.2.1 t k ht hk (by omega)
  have eA := (hX.2.2.2.1 t k ht hk h9).1
  unfold sg_ff at h
  simp (disch := omega) only [wpX_fieldFor, eN, forall_eq, nI_leI, nI_ltI, nI_eq, vp_in_nI, nI_clamp, nI_1, li_e0, li_f0, li_l0, li_g0, li_m0, li_h0, li_e1, li_f1, li_l1, li_g1, li_m1, li_h1, li_e2, li_f2, li_l2, li_g2, li_m2, li_h2, li_e3, li_f3, li_l3, li_g3, li_m3, li_h3, li_e4, li_f4, li_l4, li_g4, li_m4, li_h4, li_e5, li_f5, li_l5, li_g5, li_m5, li_h5, li_e6, li_f6, li_l6, li_g6, li_m6, li_h6, li_e7, li_f7, li_l7, li_g7, li_m7, li_h7, li_e8, li_f8, li_l8, li_g8, li_m8, li_h8, li_e9, li_f9, li_l9, li_g9, li_m9, li_h9, li_e10, li_f10, li_l10, li_g10, li_m10, li_h10, li_e15, li_f15, li_l15, li_g15, li_m15, li_h15, li_e16, li_f16, li_l16, li_g16, li_m16, li_h16, li_e20, li_f20, li_l20, li_g20, li_m20, li_h20, li_e40, li_f40, li_l40, li_g40, li_m40, li_h40, li_e100, li_f100, li_l100, li_g100, li_m100, li_h100, li_e128, li_f128, li_l128, li_g128, li_m128, li_h128, li_e150, li_f150, li_l150, li_g150, li_m150, li_h150, li_e255, li_f255, li_l255, li_g255, li_m255, li_h255, li_e400, li_f400, li_l400, li_g400, li_m400, li_h400, li_e410, li_f410, li_l410, li_g410, li_m410, li_h410, li_e420, li_f420, li_l420, li_g420, li_m420, li_h420, li_e2000, li_f2000, li_l2000, li_g2000, li_m2000, li_h2000, li_e8200, li_f8200, li_l8200, li_g8200, li_m8200, li_h8200, li_e1000000, li_f1000000, li_l1000000, li_g1000000, li_m1000000, li_h1000000, li_50, li_50', li_200, li_200', nI_add, li_s1, li_t1, li_c1, li_c2, li_c3, li_c4, li_c5, li_c6, li_c7, li_c8, li_c9, li_c10, li_c11, li_c12, li_c13, li_c14, li_c15, sg_Kat, sg_Pat, pk_us, pk_uLs, true_implies, forall_const, not_true_eq_false, not_false_eq_true, false_implies, and_true, true_and, implies_true, and_self, if_true, if_false, ite_true, ite_false, reduceIte, eq_self, Nat.reduceEqDiff, Nat.reduceLeDiff, Nat.reduceLT, Int32.reduceLT, Int32.reduceLE]
  refine xt_partNamed hg hX hu hu8 _ ?_
  by_cases e : sg_find g u (nI (sg_m g (5 * t + k))) = none
  · rw [if_pos e] at h
    rw [e]
    by_cases e2 : sg_a g (5 * t + k) = -1
    · rw [if_pos e2] at h
      simp (disch := omega) only [sd_oi, eA, e2, forall_eq, nI_leI, nI_ltI, nI_eq, vp_in_nI, nI_clamp, nI_1, li_e0, li_f0, li_l0, li_g0, li_m0, li_h0, li_e1, li_f1, li_l1, li_g1, li_m1, li_h1, li_e2, li_f2, li_l2, li_g2, li_m2, li_h2, li_e3, li_f3, li_l3, li_g3, li_m3, li_h3, li_e4, li_f4, li_l4, li_g4, li_m4, li_h4, li_e5, li_f5, li_l5, li_g5, li_m5, li_h5, li_e6, li_f6, li_l6, li_g6, li_m6, li_h6, li_e7, li_f7, li_l7, li_g7, li_m7, li_h7, li_e8, li_f8, li_l8, li_g8, li_m8, li_h8, li_e9, li_f9, li_l9, li_g9, li_m9, li_h9, li_e10, li_f10, li_l10, li_g10, li_m10, li_h10, li_e15, li_f15, li_l15, li_g15, li_m15, li_h15, li_e16, li_f16, li_l16, li_g16, li_m16, li_h16, li_e20, li_f20, li_l20, li_g20, li_m20, li_h20, li_e40, li_f40, li_l40, li_g40, li_m40, li_h40, li_e100, li_f100, li_l100, li_g100, li_m100, li_h100, li_e128, li_f128, li_l128, li_g128, li_m128, li_h128, li_e150, li_f150, li_l150, li_g150, li_m150, li_h150, li_e255, li_f255, li_l255, li_g255, li_m255, li_h255, li_e400, li_f400, li_l400, li_g400, li_m400, li_h400, li_e410, li_f410, li_l410, li_g410, li_m410, li_h410, li_e420, li_f420, li_l420, li_g420, li_m420, li_h420, li_e2000, li_f2000, li_l2000, li_g2000, li_m2000, li_h2000, li_e8200, li_f8200, li_l8200, li_g8200, li_m8200, li_h8200, li_e1000000, li_f1000000, li_l1000000, li_g1000000, li_m1000000, li_h1000000, li_50, li_50', li_200, li_200', nI_add, li_s1, li_t1, li_c1, li_c2, li_c3, li_c4, li_c5, li_c6, li_c7, li_c8, li_c9, li_c10, li_c11, li_c12, li_c13, li_c14, li_c15, sg_Kat, sg_Pat, pk_us, pk_uLs, true_implies, forall_const, not_true_eq_false, not_false_eq_true, false_implies, and_true, true_and, implies_true, and_self, if_true, if_false, ite_true, ite_false, reduceIte, eq_self, Nat.reduceEqDiff, Nat.reduceLeDiff, Nat.reduceLT, Int32.reduceLT, Int32.reduceLE]
      exact h
    · rw [if_neg e2] at h
      simp (disch := omega) only [sd_oi, eA, e2, forall_eq, nI_leI, nI_ltI, nI_eq, vp_in_nI, nI_clamp, nI_1, li_e0, li_f0, li_l0, li_g0, li_m0, li_h0, li_e1, li_f1, li_l1, li_g1, li_m1, li_h1, li_e2, li_f2, li_l2, li_g2, li_m2, li_h2, li_e3, li_f3, li_l3, li_g3, li_m3, li_h3, li_e4, li_f4, li_l4, li_g4, li_m4, li_h4, li_e5, li_f5, li_l5, li_g5, li_m5, li_h5, li_e6, li_f6, li_l6, li_g6, li_m6, li_h6, li_e7, li_f7, li_l7, li_g7, li_m7, li_h7, li_e8, li_f8, li_l8, li_g8, li_m8, li_h8, li_e9, li_f9, li_l9, li_g9, li_m9, li_h9, li_e10, li_f10, li_l10, li_g10, li_m10, li_h10, li_e15, li_f15, li_l15, li_g15, li_m15, li_h15, li_e16, li_f16, li_l16, li_g16, li_m16, li_h16, li_e20, li_f20, li_l20, li_g20, li_m20, li_h20, li_e40, li_f40, li_l40, li_g40, li_m40, li_h40, li_e100, li_f100, li_l100, li_g100, li_m100, li_h100, li_e128, li_f128, li_l128, li_g128, li_m128, li_h128, li_e150, li_f150, li_l150, li_g150, li_m150, li_h150, li_e255, li_f255, li_l255, li_g255, li_m255, li_h255, li_e400, li_f400, li_l400, li_g400, li_m400, li_h400, li_e410, li_f410, li_l410, li_g410, li_m410, li_h410, li_e420, li_f420, li_l420, li_g420, li_m420, li_h420, li_e2000, li_f2000, li_l2000, li_g2000, li_m2000, li_h2000, li_e8200, li_f8200, li_l8200, li_g8200, li_m8200, li_h8200, li_e1000000, li_f1000000, li_l1000000, li_g1000000, li_m1000000, li_h1000000, li_50, li_50', li_200, li_200', nI_add, li_s1, li_t1, li_c1, li_c2, li_c3, li_c4, li_c5, li_c6, li_c7, li_c8, li_c9, li_c10, li_c11, li_c12, li_c13, li_c14, li_c15, sg_Kat, sg_Pat, pk_us, pk_uLs, true_implies, forall_const, not_true_eq_false, not_false_eq_true, false_implies, and_true, true_and, implies_true, and_self, if_true, if_false, ite_true, ite_false, reduceIte, eq_self, Nat.reduceEqDiff, Nat.reduceLeDiff, Nat.reduceLT, Int32.reduceLT, Int32.reduceLE]
      exact xt_partNamed hg hX hu hu8 _ h
  · rw [if_neg e] at h
    have en : ¬ sd_oi (sg_find g u (nI (sg_m g (5 * t + k)))) = -1 := by
      intro z
      have hp5 := hg.2.2.1 u
      exact e ((sd_oi_none (fun k hk => by have := sg_find_lt hk; omega)).mp z)
    simp (disch := omega) only [en, forall_eq, nI_leI, nI_ltI, nI_eq, vp_in_nI, nI_clamp, nI_1, li_e0, li_f0, li_l0, li_g0, li_m0, li_h0, li_e1, li_f1, li_l1, li_g1, li_m1, li_h1, li_e2, li_f2, li_l2, li_g2, li_m2, li_h2, li_e3, li_f3, li_l3, li_g3, li_m3, li_h3, li_e4, li_f4, li_l4, li_g4, li_m4, li_h4, li_e5, li_f5, li_l5, li_g5, li_m5, li_h5, li_e6, li_f6, li_l6, li_g6, li_m6, li_h6, li_e7, li_f7, li_l7, li_g7, li_m7, li_h7, li_e8, li_f8, li_l8, li_g8, li_m8, li_h8, li_e9, li_f9, li_l9, li_g9, li_m9, li_h9, li_e10, li_f10, li_l10, li_g10, li_m10, li_h10, li_e15, li_f15, li_l15, li_g15, li_m15, li_h15, li_e16, li_f16, li_l16, li_g16, li_m16, li_h16, li_e20, li_f20, li_l20, li_g20, li_m20, li_h20, li_e40, li_f40, li_l40, li_g40, li_m40, li_h40, li_e100, li_f100, li_l100, li_g100, li_m100, li_h100, li_e128, li_f128, li_l128, li_g128, li_m128, li_h128, li_e150, li_f150, li_l150, li_g150, li_m150, li_h150, li_e255, li_f255, li_l255, li_g255, li_m255, li_h255, li_e400, li_f400, li_l400, li_g400, li_m400, li_h400, li_e410, li_f410, li_l410, li_g410, li_m410, li_h410, li_e420, li_f420, li_l420, li_g420, li_m420, li_h420, li_e2000, li_f2000, li_l2000, li_g2000, li_m2000, li_h2000, li_e8200, li_f8200, li_l8200, li_g8200, li_m8200, li_h8200, li_e1000000, li_f1000000, li_l1000000, li_g1000000, li_m1000000, li_h1000000, li_50, li_50', li_200, li_200', nI_add, li_s1, li_t1, li_c1, li_c2, li_c3, li_c4, li_c5, li_c6, li_c7, li_c8, li_c9, li_c10, li_c11, li_c12, li_c13, li_c14, li_c15, sg_Kat, sg_Pat, pk_us, pk_uLs, true_implies, forall_const, not_true_eq_false, not_false_eq_true, false_implies, and_true, true_and, implies_true, and_self, if_true, if_false, ite_true, ite_false, reduceIte, eq_self, Nat.reduceEqDiff, Nat.reduceLeDiff, Nat.reduceLT, Int32.reduceLT, Int32.reduceLE]
    exact h
theorem xl_sourceOf {post : Int32 → Prop} (hg : sg_ok g) (hX : sg_X g x_detailOf x_partName x_partType x_partAlias x_partHas x_partDefault) (hw : sv_ok g w) (ht : sx_tree g w x_valueType x_valueFrom x_valueAfter x_valueNumber) {v t k : Nat} (hv : v < 400 → v < sv_m w ∧ sg_k g (sv_t w v) = 9) (hv4 : v < 1000) (htn : t < sg_n g) (h9 : sg_k g t = 9) (hk : k < sg_p g t)
    (h1 : sr_fi g w v t k = sr_dfi g (5 * t + k) → post (-1)) (h2 : ∀ c, v < c → c < sv_m w → sv_d w c = sv_d w v + 1 → v < 400 → sr_fi g w v t k = (0, c, sg_t g (5 * t + k), 0) → post (nI c)) : wpX_sourceOf post (nI (sg_n g), x_byteCount, x_numberCount, x_listCount, x_trouble, x_place, x_valueCount, x_top, x_records, x_writtenCount, x_pairCount, sg_K g, x_detailOf, sg_f g, sg_P g, x_partName, x_partType, x_partAlias, x_partHas, x_partDefault, x_bytes, x_numbers, x_list, x_valueType, x_valueNumber, x_valueFrom, x_valueAfter, x_frameValue, x_frameType, x_frameStep, x_frameLeft, x_frameStart, x_addsNothing, x_written, x_pairs, x_pairSeen) (nI v) (nI (5 * t + k)) := by
  have hn := hg.1
  have p5 := hg.2.2.1 t
  have hm4 := hw.1
  by_cases h4 : v < 400
  · obtain ⟨hvm, hv9⟩ := hv h4
    have w1 := (hw.2 v hvm).1
    have w5 := (hw.2 v hvm).2.2.2.2.1
    have t1 := (ht v hvm).1
    rw [sv_cnt9 hv9] at w5
    rw [if_pos hv9] at w5
    unfold sr_fi at h1 h2
    rw [if_pos h4] at h1 h2
    simp (disch := omega) only [wpX_sourceOf, h4, t1, forall_eq, nI_leI, nI_ltI, nI_eq, vp_in_nI, nI_clamp, nI_1, li_e0, li_f0, li_l0, li_g0, li_m0, li_h0, li_e1, li_f1, li_l1, li_g1, li_m1, li_h1, li_e2, li_f2, li_l2, li_g2, li_m2, li_h2, li_e3, li_f3, li_l3, li_g3, li_m3, li_h3, li_e4, li_f4, li_l4, li_g4, li_m4, li_h4, li_e5, li_f5, li_l5, li_g5, li_m5, li_h5, li_e6, li_f6, li_l6, li_g6, li_m6, li_h6, li_e7, li_f7, li_l7, li_g7, li_m7, li_h7, li_e8, li_f8, li_l8, li_g8, li_m8, li_h8, li_e9, li_f9, li_l9, li_g9, li_m9, li_h9, li_e10, li_f10, li_l10, li_g10, li_m10, li_h10, li_e15, li_f15, li_l15, li_g15, li_m15, li_h15, li_e16, li_f16, li_l16, li_g16, li_m16, li_h16, li_e20, li_f20, li_l20, li_g20, li_m20, li_h20, li_e40, li_f40, li_l40, li_g40, li_m40, li_h40, li_e100, li_f100, li_l100, li_g100, li_m100, li_h100, li_e128, li_f128, li_l128, li_g128, li_m128, li_h128, li_e150, li_f150, li_l150, li_g150, li_m150, li_h150, li_e255, li_f255, li_l255, li_g255, li_m255, li_h255, li_e400, li_f400, li_l400, li_g400, li_m400, li_h400, li_e410, li_f410, li_l410, li_g410, li_m410, li_h410, li_e420, li_f420, li_l420, li_g420, li_m420, li_h420, li_e2000, li_f2000, li_l2000, li_g2000, li_m2000, li_h2000, li_e8200, li_f8200, li_l8200, li_g8200, li_m8200, li_h8200, li_e1000000, li_f1000000, li_l1000000, li_g1000000, li_m1000000, li_h1000000, li_50, li_50', li_200, li_200', nI_add, li_s1, li_t1, li_c1, li_c2, li_c3, li_c4, li_c5, li_c6, li_c7, li_c8, li_c9, li_c10, li_c11, li_c12, li_c13, li_c14, li_c15, sg_Kat, sg_Pat, pk_us, pk_uLs, true_implies, forall_const, not_true_eq_false, not_false_eq_true, false_implies, and_true, true_and, implies_true, and_self, if_true, if_false, ite_true, ite_false, reduceIte, eq_self, Nat.reduceEqDiff, Nat.reduceLeDiff, Nat.reduceLT, Int32.reduceLT, Int32.reduceLE]
    refine xl_fieldFor hg hX w1 (by omega) htn h9 hk ?_
    cases e : sg_ff g (sv_t w v) (5 * t + k) with
    | none =>
      rw [e] at h1
      simp (disch := omega) only [sd_oi, forall_eq, nI_leI, nI_ltI, nI_eq, vp_in_nI, nI_clamp, nI_1, li_e0, li_f0, li_l0, li_g0, li_m0, li_h0, li_e1, li_f1, li_l1, li_g1, li_m1, li_h1, li_e2, li_f2, li_l2, li_g2, li_m2, li_h2, li_e3, li_f3, li_l3, li_g3, li_m3, li_h3, li_e4, li_f4, li_l4, li_g4, li_m4, li_h4, li_e5, li_f5, li_l5, li_g5, li_m5, li_h5, li_e6, li_f6, li_l6, li_g6, li_m6, li_h6, li_e7, li_f7, li_l7, li_g7, li_m7, li_h7, li_e8, li_f8, li_l8, li_g8, li_m8, li_h8, li_e9, li_f9, li_l9, li_g9, li_m9, li_h9, li_e10, li_f10, li_l10, li_g10, li_m10, li_h10, li_e15, li_f15, li_l15, li_g15, li_m15, li_h15, li_e16, li_f16, li_l16, li_g16, li_m16, li_h16, li_e20, li_f20, li_l20, li_g20, li_m20, li_h20, li_e40, li_f40, li_l40, li_g40, li_m40, li_h40, li_e100, li_f100, li_l100, li_g100, li_m100, li_h100, li_e128, li_f128, li_l128, li_g128, li_m128, li_h128, li_e150, li_f150, li_l150, li_g150, li_m150, li_h150, li_e255, li_f255, li_l255, li_g255, li_m255, li_h255, li_e400, li_f400, li_l400, li_g400, li_m400, li_h400, li_e410, li_f410, li_l410, li_g410, li_m410, li_h410, li_e420, li_f420, li_l420, li_g420, li_m420, li_h420, li_e2000, li_f2000, li_l2000, li_g2000, li_m2000, li_h2000, li_e8200, li_f8200, li_l8200, li_g8200, li_m8200, li_h8200, li_e1000000, li_f1000000, li_l1000000, li_g1000000, li_m1000000, li_h1000000, li_50, li_50', li_200, li_200', nI_add, li_s1, li_t1, li_c1, li_c2, li_c3, li_c4, li_c5, li_c6, li_c7, li_c8, li_c9, li_c10, li_c11, li_c12, li_c13, li_c14, li_c15, sg_Kat, sg_Pat, pk_us, pk_uLs, true_implies, forall_const, not_true_eq_false, not_false_eq_true, false_implies, and_true, true_and, implies_true, and_self, if_true, if_false, ite_true, ite_false, reduceIte, eq_self, Nat.reduceEqDiff, Nat.reduceLeDiff, Nat.reduceLT, Int32.reduceLT, Int32.reduceLE]
      exact h1 rfl
    | some q =>
      rw [e] at h2
      have hq := sg_ff_lt e
      have pq := hg.2.2.1 (sv_t w v)
      have hq1 : ¬ nI q = -1 := li_neg (by omega)
      simp (disch := omega) only [sd_oi, hq1, forall_eq, nI_leI, nI_ltI, nI_eq, vp_in_nI, nI_clamp, nI_1, li_e0, li_f0, li_l0, li_g0, li_m0, li_h0, li_e1, li_f1, li_l1, li_g1, li_m1, li_h1, li_e2, li_f2, li_l2, li_g2, li_m2, li_h2, li_e3, li_f3, li_l3, li_g3, li_m3, li_h3, li_e4, li_f4, li_l4, li_g4, li_m4, li_h4, li_e5, li_f5, li_l5, li_g5, li_m5, li_h5, li_e6, li_f6, li_l6, li_g6, li_m6, li_h6, li_e7, li_f7, li_l7, li_g7, li_m7, li_h7, li_e8, li_f8, li_l8, li_g8, li_m8, li_h8, li_e9, li_f9, li_l9, li_g9, li_m9, li_h9, li_e10, li_f10, li_l10, li_g10, li_m10, li_h10, li_e15, li_f15, li_l15, li_g15, li_m15, li_h15, li_e16, li_f16, li_l16, li_g16, li_m16, li_h16, li_e20, li_f20, li_l20, li_g20, li_m20, li_h20, li_e40, li_f40, li_l40, li_g40, li_m40, li_h40, li_e100, li_f100, li_l100, li_g100, li_m100, li_h100, li_e128, li_f128, li_l128, li_g128, li_m128, li_h128, li_e150, li_f150, li_l150, li_g150, li_m150, li_h150, li_e255, li_f255, li_l255, li_g255, li_m255, li_h255, li_e400, li_f400, li_l400, li_g400, li_m400, li_h400, li_e410, li_f410, li_l410, li_g410, li_m410, li_h410, li_e420, li_f420, li_l420, li_g420, li_m420, li_h420, li_e2000, li_f2000, li_l2000, li_g2000, li_m2000, li_h2000, li_e8200, li_f8200, li_l8200, li_g8200, li_m8200, li_h8200, li_e1000000, li_f1000000, li_l1000000, li_g1000000, li_m1000000, li_h1000000, li_50, li_50', li_200, li_200', nI_add, li_s1, li_t1, li_c1, li_c2, li_c3, li_c4, li_c5, li_c6, li_c7, li_c8, li_c9, li_c10, li_c11, li_c12, li_c13, li_c14, li_c15, sg_Kat, sg_Pat, pk_us, pk_uLs, true_implies, forall_const, not_true_eq_false, not_false_eq_true, false_implies, and_true, true_and, implies_true, and_self, if_true, if_false, ite_true, ite_false, reduceIte, eq_self, Nat.reduceEqDiff, Nat.reduceLeDiff, Nat.reduceLT, Int32.reduceLT, Int32.reduceLE]
      have H : ∀ m i, i + m = q → wX_sourceOf_36 post (nI q) (nI (sg_n g)) x_byteCount x_numberCount x_listCount x_trouble x_place x_valueCount x_top x_records x_writtenCount x_pairCount (sg_K g) x_detailOf (sg_f g) (sg_P g) x_partName x_partType x_partAlias x_partHas x_partDefault x_bytes x_numbers x_list x_valueType x_valueNumber x_valueFrom x_valueAfter x_frameValue x_frameType x_frameStep x_frameLeft x_frameStart x_addsNothing x_written x_pairs x_pairSeen (m + 1) (nI (sv_ch (sv_a w) v i)) (nI i) := by
        intro m
        induction m with
        | zero =>
          intro i hi
          have hle : q ≤ i := by omega
          obtain ⟨a1, a2, a3⟩ := w5 i (by omega)
          have e2 : i = q := by omega
          subst e2
          simp (disch := omega) only [wX_sourceOf_36, Nat.le_refl, forall_eq, nI_leI, nI_ltI, nI_eq, vp_in_nI, nI_clamp, nI_1, li_e0, li_f0, li_l0, li_g0, li_m0, li_h0, li_e1, li_f1, li_l1, li_g1, li_m1, li_h1, li_e2, li_f2, li_l2, li_g2, li_m2, li_h2, li_e3, li_f3, li_l3, li_g3, li_m3, li_h3, li_e4, li_f4, li_l4, li_g4, li_m4, li_h4, li_e5, li_f5, li_l5, li_g5, li_m5, li_h5, li_e6, li_f6, li_l6, li_g6, li_m6, li_h6, li_e7, li_f7, li_l7, li_g7, li_m7, li_h7, li_e8, li_f8, li_l8, li_g8, li_m8, li_h8, li_e9, li_f9, li_l9, li_g9, li_m9, li_h9, li_e10, li_f10, li_l10, li_g10, li_m10, li_h10, li_e15, li_f15, li_l15, li_g15, li_m15, li_h15, li_e16, li_f16, li_l16, li_g16, li_m16, li_h16, li_e20, li_f20, li_l20, li_g20, li_m20, li_h20, li_e40, li_f40, li_l40, li_g40, li_m40, li_h40, li_e100, li_f100, li_l100, li_g100, li_m100, li_h100, li_e128, li_f128, li_l128, li_g128, li_m128, li_h128, li_e150, li_f150, li_l150, li_g150, li_m150, li_h150, li_e255, li_f255, li_l255, li_g255, li_m255, li_h255, li_e400, li_f400, li_l400, li_g400, li_m400, li_h400, li_e410, li_f410, li_l410, li_g410, li_m410, li_h410, li_e420, li_f420, li_l420, li_g420, li_m420, li_h420, li_e2000, li_f2000, li_l2000, li_g2000, li_m2000, li_h2000, li_e8200, li_f8200, li_l8200, li_g8200, li_m8200, li_h8200, li_e1000000, li_f1000000, li_l1000000, li_g1000000, li_m1000000, li_h1000000, li_50, li_50', li_200, li_200', nI_add, li_s1, li_t1, li_c1, li_c2, li_c3, li_c4, li_c5, li_c6, li_c7, li_c8, li_c9, li_c10, li_c11, li_c12, li_c13, li_c14, li_c15, sg_Kat, sg_Pat, pk_us, pk_uLs, true_implies, forall_const, not_true_eq_false, not_false_eq_true, false_implies, and_true, true_and, implies_true, and_self, if_true, if_false, ite_true, ite_false, reduceIte, eq_self, Nat.reduceEqDiff, Nat.reduceLeDiff, Nat.reduceLT, Int32.reduceLT, Int32.reduceLE]
          exact h2 _ a1 a2 a3 h4 rfl
        | succ m ih =>
          intro i hi
          have hlt : ¬ q ≤ i := by omega
          obtain ⟨a1, a2, a3⟩ := w5 i (by omega)
          have t3 := (ht _ a2).2.2.1
          rw [wX_sourceOf_36]
          simp (disch := omega) only [hlt, t3, forall_eq, nI_leI, nI_ltI, nI_eq, vp_in_nI, nI_clamp, nI_1, li_e0, li_f0, li_l0, li_g0, li_m0, li_h0, li_e1, li_f1, li_l1, li_g1, li_m1, li_h1, li_e2, li_f2, li_l2, li_g2, li_m2, li_h2, li_e3, li_f3, li_l3, li_g3, li_m3, li_h3, li_e4, li_f4, li_l4, li_g4, li_m4, li_h4, li_e5, li_f5, li_l5, li_g5, li_m5, li_h5, li_e6, li_f6, li_l6, li_g6, li_m6, li_h6, li_e7, li_f7, li_l7, li_g7, li_m7, li_h7, li_e8, li_f8, li_l8, li_g8, li_m8, li_h8, li_e9, li_f9, li_l9, li_g9, li_m9, li_h9, li_e10, li_f10, li_l10, li_g10, li_m10, li_h10, li_e15, li_f15, li_l15, li_g15, li_m15, li_h15, li_e16, li_f16, li_l16, li_g16, li_m16, li_h16, li_e20, li_f20, li_l20, li_g20, li_m20, li_h20, li_e40, li_f40, li_l40, li_g40, li_m40, li_h40, li_e100, li_f100, li_l100, li_g100, li_m100, li_h100, li_e128, li_f128, li_l128, li_g128, li_m128, li_h128, li_e150, li_f150, li_l150, li_g150, li_m150, li_h150, li_e255, li_f255, li_l255, li_g255, li_m255, li_h255, li_e400, li_f400, li_l400, li_g400, li_m400, li_h400, li_e410, li_f410, li_l410, li_g410, li_m410, li_h410, li_e420, li_f420, li_l420, li_g420, li_m420, li_h420, li_e2000, li_f2000, li_l2000, li_g2000, li_m2000, li_h2000, li_e8200, li_f8200, li_l8200, li_g8200, li_m8200, li_h8200, li_e1000000, li_f1000000, li_l1000000, li_g1000000, li_m1000000, li_h1000000, li_50, li_50', li_200, li_200', nI_add, li_s1, li_t1, li_c1, li_c2, li_c3, li_c4, li_c5, li_c6, li_c7, li_c8, li_c9, li_c10, li_c11, li_c12, li_c13, li_c14, li_c15, sg_Kat, sg_Pat, pk_us, pk_uLs, true_implies, forall_const, not_true_eq_false, not_false_eq_true, false_implies, and_true, true_and, implies_true, and_self, if_true, if_false, ite_true, ite_false, reduceIte, eq_self, Nat.reduceEqDiff, Nat.reduceLeDiff, Nat.reduceLT, Int32.reduceLT, Int32.reduceLE]
          exact ih (i + 1) (by omega)
      exact ⟨q + 1, H q 0 (by omega)⟩
  · unfold sr_fi at h1
    rw [if_neg h4] at h1
    simp (disch := omega) only [wpX_sourceOf, h4, forall_eq, nI_leI, nI_ltI, nI_eq, vp_in_nI, nI_clamp, nI_1, li_e0, li_f0, li_l0, li_g0, li_m0, li_h0, li_e1, li_f1, li_l1, li_g1, li_m1, li_h1, li_e2, li_f2, li_l2, li_g2, li_m2, li_h2, li_e3, li_f3, li_l3, li_g3, li_m3, li_h3, li_e4, li_f4, li_l4, li_g4, li_m4, li_h4, li_e5, li_f5, li_l5, li_g5, li_m5, li_h5, li_e6, li_f6, li_l6, li_g6, li_m6, li_h6, li_e7, li_f7, li_l7, li_g7, li_m7, li_h7, li_e8, li_f8, li_l8, li_g8, li_m8, li_h8, li_e9, li_f9, li_l9, li_g9, li_m9, li_h9, li_e10, li_f10, li_l10, li_g10, li_m10, li_h10, li_e15, li_f15, li_l15, li_g15, li_m15, li_h15, li_e16, li_f16, li_l16, li_g16, li_m16, li_h16, li_e20, li_f20, li_l20, li_g20, li_m20, li_h20, li_e40, li_f40, li_l40, li_g40, li_m40, li_h40, li_e100, li_f100, li_l100, li_g100, li_m100, li_h100, li_e128, li_f128, li_l128, li_g128, li_m128, li_h128, li_e150, li_f150, li_l150, li_g150, li_m150, li_h150, li_e255, li_f255, li_l255, li_g255, li_m255, li_h255, li_e400, li_f400, li_l400, li_g400, li_m400, li_h400, li_e410, li_f410, li_l410, li_g410, li_m410, li_h410, li_e420, li_f420, li_l420, li_g420, li_m420, li_h420, li_e2000, li_f2000, li_l2000, li_g2000, li_m2000, li_h2000, li_e8200, li_f8200, li_l8200, li_g8200, li_m8200, li_h8200, li_e1000000, li_f1000000, li_l1000000, li_g1000000, li_m1000000, li_h1000000, li_50, li_50', li_200, li_200', nI_add, li_s1, li_t1, li_c1, li_c2, li_c3, li_c4, li_c5, li_c6, li_c7, li_c8, li_c9, li_c10, li_c11, li_c12, li_c13, li_c14, li_c15, sg_Kat, sg_Pat, pk_us, pk_uLs, true_implies, forall_const, not_true_eq_false, not_false_eq_true, false_implies, and_true, true_and, implies_true, and_self, if_true, if_false, ite_true, ite_false, reduceIte, eq_self, Nat.reduceEqDiff, Nat.reduceLeDiff, Nat.reduceLT, Int32.reduceLT, Int32.reduceLE]
    exact h1 rfl
theorem xl_exit {n : Nat} {x2 : Int32} (htr : ¬ x_trouble = 0) (h : post (x_typeCount, x_byteCount, x_numberCount, x_listCount, x_trouble, x_place, x_valueCount, x_top, x_records, x_writtenCount, x_pairCount, x_kindOf, x_detailOf, x_fallbackOf, x_partCount, x_partName, x_partType, x_partAlias, x_partHas, x_partDefault, x_bytes, x_numbers, x_list, x_valueType, x_valueNumber, x_valueFrom, x_valueAfter, x_frameValue, x_frameType, x_frameStep, x_frameLeft, x_frameStart, x_addsNothing, x_written, x_pairs, x_pairSeen)) : wX_resolveAll_30 post (n + 1) x2 x_typeCount x_byteCount x_numberCount x_listCount x_trouble x_place x_valueCount x_top x_records x_writtenCount x_pairCount x_kindOf x_detailOf x_fallbackOf x_partCount x_partName x_partType x_partAlias x_partHas x_partDefault x_bytes x_numbers x_list x_valueType x_valueNumber x_valueFrom x_valueAfter x_frameValue x_frameType x_frameStep x_frameLeft x_frameStart x_addsNothing x_written x_pairs x_pairSeen := by
  rw [wX_resolveAll_30]
  refine br_c (fun _ => h) (fun _ => br_c (fun _ => h) (fun _ => br_f htr h))
theorem xl_pop {T t : Nat} (hg : sg_ok g) (ht : t < 20) (hT : T < 400) (eT : x_frameType T = nI t)
    (h : post (nI (sg_n g), x_byteCount, x_numberCount, x_listCount, x_trouble, x_place, x_valueCount, nI T, if sg_k g t = 9 then x_records - 1 else x_records, x_writtenCount, x_pairCount, sg_K g, x_detailOf, sg_f g, sg_P g, x_partName, x_partType, x_partAlias, x_partHas, x_partDefault, x_bytes, x_numbers, x_list, x_valueType, x_valueNumber, x_valueFrom, x_valueAfter, x_frameValue, x_frameType, x_frameStep, x_frameLeft, x_frameStart, x_addsNothing, x_written, x_pairs, x_pairSeen)) : wpX_pop post (nI (sg_n g), x_byteCount, x_numberCount, x_listCount, x_trouble, x_place, x_valueCount, nI (T + 1), x_records, x_writtenCount, x_pairCount, sg_K g, x_detailOf, sg_f g, sg_P g, x_partName, x_partType, x_partAlias, x_partHas, x_partDefault, x_bytes, x_numbers, x_list, x_valueType, x_valueNumber, x_valueFrom, x_valueAfter, x_frameValue, x_frameType, x_frameStep, x_frameLeft, x_frameStart, x_addsNothing, x_written, x_pairs, x_pairSeen) := by
  have k1 := hg.2.1 t
  have e1 : nI (T + 1) - 1 = nI T := nI_pred T
  by_cases h9 : sg_k g t = 9
  · rw [if_pos h9] at h
    simp (disch := omega) only [wpX_pop, e1, eT, h9, forall_eq, nI_leI, nI_ltI, nI_eq, vp_in_nI, nI_clamp, nI_1, li_e0, li_f0, li_l0, li_g0, li_m0, li_h0, li_e1, li_f1, li_l1, li_g1, li_m1, li_h1, li_e2, li_f2, li_l2, li_g2, li_m2, li_h2, li_e3, li_f3, li_l3, li_g3, li_m3, li_h3, li_e4, li_f4, li_l4, li_g4, li_m4, li_h4, li_e5, li_f5, li_l5, li_g5, li_m5, li_h5, li_e6, li_f6, li_l6, li_g6, li_m6, li_h6, li_e7, li_f7, li_l7, li_g7, li_m7, li_h7, li_e8, li_f8, li_l8, li_g8, li_m8, li_h8, li_e9, li_f9, li_l9, li_g9, li_m9, li_h9, li_e10, li_f10, li_l10, li_g10, li_m10, li_h10, li_e15, li_f15, li_l15, li_g15, li_m15, li_h15, li_e16, li_f16, li_l16, li_g16, li_m16, li_h16, li_e20, li_f20, li_l20, li_g20, li_m20, li_h20, li_e40, li_f40, li_l40, li_g40, li_m40, li_h40, li_e100, li_f100, li_l100, li_g100, li_m100, li_h100, li_e128, li_f128, li_l128, li_g128, li_m128, li_h128, li_e150, li_f150, li_l150, li_g150, li_m150, li_h150, li_e255, li_f255, li_l255, li_g255, li_m255, li_h255, li_e400, li_f400, li_l400, li_g400, li_m400, li_h400, li_e410, li_f410, li_l410, li_g410, li_m410, li_h410, li_e420, li_f420, li_l420, li_g420, li_m420, li_h420, li_e2000, li_f2000, li_l2000, li_g2000, li_m2000, li_h2000, li_e8200, li_f8200, li_l8200, li_g8200, li_m8200, li_h8200, li_e1000000, li_f1000000, li_l1000000, li_g1000000, li_m1000000, li_h1000000, li_50, li_50', li_200, li_200', nI_add, li_s1, li_t1, li_c1, li_c2, li_c3, li_c4, li_c5, li_c6, li_c7, li_c8, li_c9, li_c10, li_c11, li_c12, li_c13, li_c14, li_c15, sg_Kat, sg_Pat, pk_us, pk_uLs, true_implies, forall_const, not_true_eq_false, not_false_eq_true, false_implies, and_true, true_and, implies_true, and_self, if_true, if_false, ite_true, ite_false, reduceIte, eq_self, Nat.reduceEqDiff, Nat.reduceLeDiff, Nat.reduceLT, Int32.reduceLT, Int32.reduceLE]
    exact h
  · rw [if_neg h9] at h
    simp (disch := omega) only [wpX_pop, e1, eT, h9, forall_eq, nI_leI, nI_ltI, nI_eq, vp_in_nI, nI_clamp, nI_1, li_e0, li_f0, li_l0, li_g0, li_m0, li_h0, li_e1, li_f1, li_l1, li_g1, li_m1, li_h1, li_e2, li_f2, li_l2, li_g2, li_m2, li_h2, li_e3, li_f3, li_l3, li_g3, li_m3, li_h3, li_e4, li_f4, li_l4, li_g4, li_m4, li_h4, li_e5, li_f5, li_l5, li_g5, li_m5, li_h5, li_e6, li_f6, li_l6, li_g6, li_m6, li_h6, li_e7, li_f7, li_l7, li_g7, li_m7, li_h7, li_e8, li_f8, li_l8, li_g8, li_m8, li_h8, li_e9, li_f9, li_l9, li_g9, li_m9, li_h9, li_e10, li_f10, li_l10, li_g10, li_m10, li_h10, li_e15, li_f15, li_l15, li_g15, li_m15, li_h15, li_e16, li_f16, li_l16, li_g16, li_m16, li_h16, li_e20, li_f20, li_l20, li_g20, li_m20, li_h20, li_e40, li_f40, li_l40, li_g40, li_m40, li_h40, li_e100, li_f100, li_l100, li_g100, li_m100, li_h100, li_e128, li_f128, li_l128, li_g128, li_m128, li_h128, li_e150, li_f150, li_l150, li_g150, li_m150, li_h150, li_e255, li_f255, li_l255, li_g255, li_m255, li_h255, li_e400, li_f400, li_l400, li_g400, li_m400, li_h400, li_e410, li_f410, li_l410, li_g410, li_m410, li_h410, li_e420, li_f420, li_l420, li_g420, li_m420, li_h420, li_e2000, li_f2000, li_l2000, li_g2000, li_m2000, li_h2000, li_e8200, li_f8200, li_l8200, li_g8200, li_m8200, li_h8200, li_e1000000, li_f1000000, li_l1000000, li_g1000000, li_m1000000, li_h1000000, li_50, li_50', li_200, li_200', nI_add, li_s1, li_t1, li_c1, li_c2, li_c3, li_c4, li_c5, li_c6, li_c7, li_c8, li_c9, li_c10, li_c11, li_c12, li_c13, li_c14, li_c15, sg_Kat, sg_Pat, pk_us, pk_uLs, true_implies, forall_const, not_true_eq_false, not_false_eq_true, false_implies, and_true, true_and, implies_true, and_self, if_true, if_false, ite_true, ite_false, reduceIte, eq_self, Nat.reduceEqDiff, Nat.reduceLeDiff, Nat.reduceLT, Int32.reduceLT, Int32.reduceLE]
    exact h
theorem xl_loop (hg : sg_ok g) (hX : sg_X g x_detailOf x_partName x_partType x_partAlias x_partHas x_partDefault) (hw : sv_ok g w) (ht : sx_tree g w x_valueType x_valueFrom x_valueAfter x_valueNumber) (HF : ∀ (L : List Int64) (a : Nat → Int64) (mk fV fT fS fL fB : Nat → Int32), sr_cert g w [(0, 0, r, 0)] 0 [] [] 0 L → L.length ≤ 150 → sl_is L a → post (nI (sg_n g), x_byteCount, x_numberCount, nI L.length, 0, x_place, x_valueCount, 0, 0, x_writtenCount, x_pairCount, sg_K g, x_detailOf, sg_f g, sg_P g, x_partName, x_partType, x_partAlias, x_partHas, x_partDefault, sv_b w, x_numbers, a, x_valueType, x_valueNumber, x_valueFrom, x_valueAfter, fV, fT, fS, fL, fB, mk, x_written, x_pairs, x_pairSeen)) (HT : ∀ (e : Int32) (lc : Int32) (a : Nat → Int64) (top rc : Int32) (mk fV fT fS fL fB : Nat → Int32), sx_bad g w r e → post (nI (sg_n g), x_byteCount, x_numberCount, lc, e, x_place, x_valueCount, top, rc, x_writtenCount, x_pairCount, sg_K g, x_detailOf, sg_f g, sg_P g, x_partName, x_partType, x_partAlias, x_partHas, x_partDefault, sv_b w, x_numbers, a, x_valueType, x_valueNumber, x_valueFrom, x_valueAfter, fV, fT, fS, fL, fB, mk, x_written, x_pairs, x_pairSeen)) : ∀ (N i : Nat) (F : List sx_F) (L : List Int64) (a : Nat → Int64) (mk fV fT fS fL fB : Nat → Int32), sx_inv g w r F L mk → sx_mu g F L mk ≤ N → i + N < 1000000 → sl_is L a → sx_fr fV fT fS fL fB F →
    wX_resolveAll_30 post (N + 1) (nI i) (nI (sg_n g)) x_byteCount x_numberCount (nI L.length) 0 x_place x_valueCount (nI F.length) (nI (sx_rc g F)) x_writtenCount x_pairCount (sg_K g) x_detailOf (sg_f g) (sg_P g) x_partName x_partType x_partAlias x_partHas x_partDefault (sv_b w) x_numbers a x_valueType x_valueNumber x_valueFrom x_valueAfter fV fT fS fL fB mk x_written x_pairs x_pairSeen := by
  have hn := hg.1
  have hm4 := hw.1
  have hno : nI 0 = 0 := rfl
  intro N
  induction N with
  | zero =>
    intro i F L a mk fV fT fS fL fB hi hmu hN hl hfr
    cases F with
    | nil =>
      have hN1 : ¬ 1000000 ≤ i := by omega
      have hc := hi.2.2.2.2.2.2
      have h0 := HF L a mk fV fT fS fL fB hc hi.2.2.2.1 hl
      rw [wX_resolveAll_30]
      simp (disch := omega) only [hN1, List.length_nil, hno, forall_eq, nI_leI, nI_ltI, nI_eq, vp_in_nI, nI_clamp, nI_1, li_e0, li_f0, li_l0, li_g0, li_m0, li_h0, li_e1, li_f1, li_l1, li_g1, li_m1, li_h1, li_e2, li_f2, li_l2, li_g2, li_m2, li_h2, li_e3, li_f3, li_l3, li_g3, li_m3, li_h3, li_e4, li_f4, li_l4, li_g4, li_m4, li_h4, li_e5, li_f5, li_l5, li_g5, li_m5, li_h5, li_e6, li_f6, li_l6, li_g6, li_m6, li_h6, li_e7, li_f7, li_l7, li_g7, li_m7, li_h7, li_e8, li_f8, li_l8, li_g8, li_m8, li_h8, li_e9, li_f9, li_l9, li_g9, li_m9, li_h9, li_e10, li_f10, li_l10, li_g10, li_m10, li_h10, li_e15, li_f15, li_l15, li_g15, li_m15, li_h15, li_e16, li_f16, li_l16, li_g16, li_m16, li_h16, li_e20, li_f20, li_l20, li_g20, li_m20, li_h20, li_e40, li_f40, li_l40, li_g40, li_m40, li_h40, li_e100, li_f100, li_l100, li_g100, li_m100, li_h100, li_e128, li_f128, li_l128, li_g128, li_m128, li_h128, li_e150, li_f150, li_l150, li_g150, li_m150, li_h150, li_e255, li_f255, li_l255, li_g255, li_m255, li_h255, li_e400, li_f400, li_l400, li_g400, li_m400, li_h400, li_e410, li_f410, li_l410, li_g410, li_m410, li_h410, li_e420, li_f420, li_l420, li_g420, li_m420, li_h420, li_e2000, li_f2000, li_l2000, li_g2000, li_m2000, li_h2000, li_e8200, li_f8200, li_l8200, li_g8200, li_m8200, li_h8200, li_e1000000, li_f1000000, li_l1000000, li_g1000000, li_m1000000, li_h1000000, li_50, li_50', li_200, li_200', nI_add, li_s1, li_t1, li_c1, li_c2, li_c3, li_c4, li_c5, li_c6, li_c7, li_c8, li_c9, li_c10, li_c11, li_c12, li_c13, li_c14, li_c15, sg_Kat, sg_Pat, pk_us, pk_uLs, true_implies, forall_const, not_true_eq_false, not_false_eq_true, false_implies, and_true, true_and, implies_true, and_self, if_true, if_false, ite_true, ite_false, reduceIte, eq_self, Nat.reduceEqDiff, Nat.reduceLeDiff, Nat.reduceLT, Int32.reduceLT, Int32.reduceLE]
      exact h0
    | cons f F =>
      unfold sx_mu at hmu
      have e : sx_sm (f :: F) = sx_sm F + f.2.2.2.1 + 1 := rfl
      omega
  | succ N ih =>
    intro i F L a mk fV fT fS fL fB hi hmu hN hl hfr
    have hN1 : ¬ 1000000 ≤ i := by omega
    cases F with
    | nil =>
      have hc := hi.2.2.2.2.2.2
      have h0 := HF L a mk fV fT fS fL fB hc hi.2.2.2.1 hl
      rw [wX_resolveAll_30]
      simp (disch := omega) only [hN1, List.length_nil, hno, forall_eq, nI_leI, nI_ltI, nI_eq, vp_in_nI, nI_clamp, nI_1, li_e0, li_f0, li_l0, li_g0, li_m0, li_h0, li_e1, li_f1, li_l1, li_g1, li_m1, li_h1, li_e2, li_f2, li_l2, li_g2, li_m2, li_h2, li_e3, li_f3, li_l3, li_g3, li_m3, li_h3, li_e4, li_f4, li_l4, li_g4, li_m4, li_h4, li_e5, li_f5, li_l5, li_g5, li_m5, li_h5, li_e6, li_f6, li_l6, li_g6, li_m6, li_h6, li_e7, li_f7, li_l7, li_g7, li_m7, li_h7, li_e8, li_f8, li_l8, li_g8, li_m8, li_h8, li_e9, li_f9, li_l9, li_g9, li_m9, li_h9, li_e10, li_f10, li_l10, li_g10, li_m10, li_h10, li_e15, li_f15, li_l15, li_g15, li_m15, li_h15, li_e16, li_f16, li_l16, li_g16, li_m16, li_h16, li_e20, li_f20, li_l20, li_g20, li_m20, li_h20, li_e40, li_f40, li_l40, li_g40, li_m40, li_h40, li_e100, li_f100, li_l100, li_g100, li_m100, li_h100, li_e128, li_f128, li_l128, li_g128, li_m128, li_h128, li_e150, li_f150, li_l150, li_g150, li_m150, li_h150, li_e255, li_f255, li_l255, li_g255, li_m255, li_h255, li_e400, li_f400, li_l400, li_g400, li_m400, li_h400, li_e410, li_f410, li_l410, li_g410, li_m410, li_h410, li_e420, li_f420, li_l420, li_g420, li_m420, li_h420, li_e2000, li_f2000, li_l2000, li_g2000, li_m2000, li_h2000, li_e8200, li_f8200, li_l8200, li_g8200, li_m8200, li_h8200, li_e1000000, li_f1000000, li_l1000000, li_g1000000, li_m1000000, li_h1000000, li_50, li_50', li_200, li_200', nI_add, li_s1, li_t1, li_c1, li_c2, li_c3, li_c4, li_c5, li_c6, li_c7, li_c8, li_c9, li_c10, li_c11, li_c12, li_c13, li_c14, li_c15, sg_Kat, sg_Pat, pk_us, pk_uLs, true_implies, forall_const, not_true_eq_false, not_false_eq_true, false_implies, and_true, true_and, implies_true, and_self, if_true, if_false, ite_true, ite_false, reduceIte, eq_self, Nat.reduceEqDiff, Nat.reduceLeDiff, Nat.reduceLT, Int32.reduceLT, Int32.reduceLE]
      exact h0
    | cons f F =>
      obtain ⟨v, t, s, l, st⟩ := f
      obtain ⟨⟨r1, r2, r3, r4, r5⟩, hfr2⟩ := hfr
      dsimp only at r1 r2 r3 r4 r5
      have hlen := hi.2.2.1
      rw [List.length_cons] at hlen
      have h10 := hi.2.1
      have hL := hi.2.2.2.1
      have htn : t < sg_n g := hi.1.1.1
      have k9 := hg.2.1 t
      have e0 : ¬ F.length + 1 ≤ 0 := by omega
      have e1 : nI (F.length + 1) - 1 = nI F.length := nI_pred _
      have hTR : ∀ (e : Int32) (lc : Int32) (a : Nat → Int64) (top rc : Int32) (fV fT fS fL fB : Nat → Int32), sx_bad g w r e → wX_resolveAll_30 post (N + 1) (nI (i + 1)) (nI (sg_n g)) x_byteCount x_numberCount lc e x_place x_valueCount top rc x_writtenCount x_pairCount (sg_K g) x_detailOf (sg_f g) (sg_P g) x_partName x_partType x_partAlias x_partHas x_partDefault (sv_b w) x_numbers a x_valueType x_valueNumber x_valueFrom x_valueAfter fV fT fS fL fB mk x_written x_pairs x_pairSeen := by
        intro e lc a top rc fV fT fS fL fB hb
        refine xl_exit ?_ (HT e lc a top rc mk fV fT fS fL fB hb)
        obtain ⟨c, d, L, _, _, he⟩ := hb
        exact he
      have hk : sg_k g t = 7 ∨ sg_k g t = 9 := by
        rcases hi.1.1.2.2.2 with h | h
        · exact Or.inl h.1
        · exact Or.inr h.1
      cases l with
      | zero =>
        rw [hno] at r4
        rw [wX_resolveAll_30]
        rcases hk with h7 | h9
        · obtain ⟨i1, i2, i3⟩ := sx_end7 h7 hi
          simp (disch := omega) only [hN1, List.length_cons, e0, e1, r2, r4, wpX_endResolved, wX_endResolved_48, h7, forall_eq, nI_leI, nI_ltI, nI_eq, vp_in_nI, nI_clamp, nI_1, li_e0, li_f0, li_l0, li_g0, li_m0, li_h0, li_e1, li_f1, li_l1, li_g1, li_m1, li_h1, li_e2, li_f2, li_l2, li_g2, li_m2, li_h2, li_e3, li_f3, li_l3, li_g3, li_m3, li_h3, li_e4, li_f4, li_l4, li_g4, li_m4, li_h4, li_e5, li_f5, li_l5, li_g5, li_m5, li_h5, li_e6, li_f6, li_l6, li_g6, li_m6, li_h6, li_e7, li_f7, li_l7, li_g7, li_m7, li_h7, li_e8, li_f8, li_l8, li_g8, li_m8, li_h8, li_e9, li_f9, li_l9, li_g9, li_m9, li_h9, li_e10, li_f10, li_l10, li_g10, li_m10, li_h10, li_e15, li_f15, li_l15, li_g15, li_m15, li_h15, li_e16, li_f16, li_l16, li_g16, li_m16, li_h16, li_e20, li_f20, li_l20, li_g20, li_m20, li_h20, li_e40, li_f40, li_l40, li_g40, li_m40, li_h40, li_e100, li_f100, li_l100, li_g100, li_m100, li_h100, li_e128, li_f128, li_l128, li_g128, li_m128, li_h128, li_e150, li_f150, li_l150, li_g150, li_m150, li_h150, li_e255, li_f255, li_l255, li_g255, li_m255, li_h255, li_e400, li_f400, li_l400, li_g400, li_m400, li_h400, li_e410, li_f410, li_l410, li_g410, li_m410, li_h410, li_e420, li_f420, li_l420, li_g420, li_m420, li_h420, li_e2000, li_f2000, li_l2000, li_g2000, li_m2000, li_h2000, li_e8200, li_f8200, li_l8200, li_g8200, li_m8200, li_h8200, li_e1000000, li_f1000000, li_l1000000, li_g1000000, li_m1000000, li_h1000000, li_50, li_50', li_200, li_200', nI_add, li_s1, li_t1, li_c1, li_c2, li_c3, li_c4, li_c5, li_c6, li_c7, li_c8, li_c9, li_c10, li_c11, li_c12, li_c13, li_c14, li_c15, sg_Kat, sg_Pat, pk_us, pk_uLs, true_implies, forall_const, not_true_eq_false, not_false_eq_true, false_implies, and_true, true_and, implies_true, and_self, if_true, if_false, ite_true, ite_false, reduceIte, eq_self, Nat.reduceEqDiff, Nat.reduceLeDiff, Nat.reduceLT, Int32.reduceLT, Int32.reduceLE]
          refine xl_pop hg (by omega) (by omega) r2 ?_
          rw [if_neg (by omega), i3]
          simp (disch := omega) only [forall_eq, nI_leI, nI_ltI, nI_eq, vp_in_nI, nI_clamp, nI_1, li_e0, li_f0, li_l0, li_g0, li_m0, li_h0, li_e1, li_f1, li_l1, li_g1, li_m1, li_h1, li_e2, li_f2, li_l2, li_g2, li_m2, li_h2, li_e3, li_f3, li_l3, li_g3, li_m3, li_h3, li_e4, li_f4, li_l4, li_g4, li_m4, li_h4, li_e5, li_f5, li_l5, li_g5, li_m5, li_h5, li_e6, li_f6, li_l6, li_g6, li_m6, li_h6, li_e7, li_f7, li_l7, li_g7, li_m7, li_h7, li_e8, li_f8, li_l8, li_g8, li_m8, li_h8, li_e9, li_f9, li_l9, li_g9, li_m9, li_h9, li_e10, li_f10, li_l10, li_g10, li_m10, li_h10, li_e15, li_f15, li_l15, li_g15, li_m15, li_h15, li_e16, li_f16, li_l16, li_g16, li_m16, li_h16, li_e20, li_f20, li_l20, li_g20, li_m20, li_h20, li_e40, li_f40, li_l40, li_g40, li_m40, li_h40, li_e100, li_f100, li_l100, li_g100, li_m100, li_h100, li_e128, li_f128, li_l128, li_g128, li_m128, li_h128, li_e150, li_f150, li_l150, li_g150, li_m150, li_h150, li_e255, li_f255, li_l255, li_g255, li_m255, li_h255, li_e400, li_f400, li_l400, li_g400, li_m400, li_h400, li_e410, li_f410, li_l410, li_g410, li_m410, li_h410, li_e420, li_f420, li_l420, li_g420, li_m420, li_h420, li_e2000, li_f2000, li_l2000, li_g2000, li_m2000, li_h2000, li_e8200, li_f8200, li_l8200, li_g8200, li_m8200, li_h8200, li_e1000000, li_f1000000, li_l1000000, li_g1000000, li_m1000000, li_h1000000, li_50, li_50', li_200, li_200', nI_add, li_s1, li_t1, li_c1, li_c2, li_c3, li_c4, li_c5, li_c6, li_c7, li_c8, li_c9, li_c10, li_c11, li_c12, li_c13, li_c14, li_c15, sg_Kat, sg_Pat, pk_us, pk_uLs, true_implies, forall_const, not_true_eq_false, not_false_eq_true, false_implies, and_true, true_and, implies_true, and_self, if_true, if_false, ite_true, ite_false, reduceIte, eq_self, Nat.reduceEqDiff, Nat.reduceLeDiff, Nat.reduceLT, Int32.reduceLT, Int32.reduceLE]
          exact ih (i + 1) F L a mk fV fT fS fL fB i1 (by omega) (by omega) hl hfr2
        · obtain ⟨d1, d2, d3, d4, d5⟩ := sx_end9 hg h9 hi
          have hi8 : 20 * v + t < 8200 := by omega
          by_cases hst : st = L.length
          · obtain ⟨i1, i2⟩ := d4 hst
            subst hst
            simp (disch := omega) only [hN1, List.length_cons, e0, e1, r1, r2, r4, r5, wpX_endResolved, wX_endResolved_48, h9, d3, forall_eq, nI_leI, nI_ltI, nI_eq, vp_in_nI, nI_clamp, nI_1, li_e0, li_f0, li_l0, li_g0, li_m0, li_h0, li_e1, li_f1, li_l1, li_g1, li_m1, li_h1, li_e2, li_f2, li_l2, li_g2, li_m2, li_h2, li_e3, li_f3, li_l3, li_g3, li_m3, li_h3, li_e4, li_f4, li_l4, li_g4, li_m4, li_h4, li_e5, li_f5, li_l5, li_g5, li_m5, li_h5, li_e6, li_f6, li_l6, li_g6, li_m6, li_h6, li_e7, li_f7, li_l7, li_g7, li_m7, li_h7, li_e8, li_f8, li_l8, li_g8, li_m8, li_h8, li_e9, li_f9, li_l9, li_g9, li_m9, li_h9, li_e10, li_f10, li_l10, li_g10, li_m10, li_h10, li_e15, li_f15, li_l15, li_g15, li_m15, li_h15, li_e16, li_f16, li_l16, li_g16, li_m16, li_h16, li_e20, li_f20, li_l20, li_g20, li_m20, li_h20, li_e40, li_f40, li_l40, li_g40, li_m40, li_h40, li_e100, li_f100, li_l100, li_g100, li_m100, li_h100, li_e128, li_f128, li_l128, li_g128, li_m128, li_h128, li_e150, li_f150, li_l150, li_g150, li_m150, li_h150, li_e255, li_f255, li_l255, li_g255, li_m255, li_h255, li_e400, li_f400, li_l400, li_g400, li_m400, li_h400, li_e410, li_f410, li_l410, li_g410, li_m410, li_h410, li_e420, li_f420, li_l420, li_g420, li_m420, li_h420, li_e2000, li_f2000, li_l2000, li_g2000, li_m2000, li_h2000, li_e8200, li_f8200, li_l8200, li_g8200, li_m8200, li_h8200, li_e1000000, li_f1000000, li_l1000000, li_g1000000, li_m1000000, li_h1000000, li_50, li_50', li_200, li_200', nI_add, li_s1, li_t1, li_c1, li_c2, li_c3, li_c4, li_c5, li_c6, li_c7, li_c8, li_c9, li_c10, li_c11, li_c12, li_c13, li_c14, li_c15, sg_Kat, sg_Pat, pk_us, pk_uLs, true_implies, forall_const, not_true_eq_false, not_false_eq_true, false_implies, and_true, true_and, implies_true, and_self, if_true, if_false, ite_true, ite_false, reduceIte, eq_self, Nat.reduceEqDiff, Nat.reduceLeDiff, Nat.reduceLT, Int32.reduceLT, Int32.reduceLE]
            refine xl_pop hg (by omega) (by omega) r2 ?_
            rw [if_pos h9, nI_pred]
            simp (disch := omega) only [forall_eq, nI_leI, nI_ltI, nI_eq, vp_in_nI, nI_clamp, nI_1, li_e0, li_f0, li_l0, li_g0, li_m0, li_h0, li_e1, li_f1, li_l1, li_g1, li_m1, li_h1, li_e2, li_f2, li_l2, li_g2, li_m2, li_h2, li_e3, li_f3, li_l3, li_g3, li_m3, li_h3, li_e4, li_f4, li_l4, li_g4, li_m4, li_h4, li_e5, li_f5, li_l5, li_g5, li_m5, li_h5, li_e6, li_f6, li_l6, li_g6, li_m6, li_h6, li_e7, li_f7, li_l7, li_g7, li_m7, li_h7, li_e8, li_f8, li_l8, li_g8, li_m8, li_h8, li_e9, li_f9, li_l9, li_g9, li_m9, li_h9, li_e10, li_f10, li_l10, li_g10, li_m10, li_h10, li_e15, li_f15, li_l15, li_g15, li_m15, li_h15, li_e16, li_f16, li_l16, li_g16, li_m16, li_h16, li_e20, li_f20, li_l20, li_g20, li_m20, li_h20, li_e40, li_f40, li_l40, li_g40, li_m40, li_h40, li_e100, li_f100, li_l100, li_g100, li_m100, li_h100, li_e128, li_f128, li_l128, li_g128, li_m128, li_h128, li_e150, li_f150, li_l150, li_g150, li_m150, li_h150, li_e255, li_f255, li_l255, li_g255, li_m255, li_h255, li_e400, li_f400, li_l400, li_g400, li_m400, li_h400, li_e410, li_f410, li_l410, li_g410, li_m410, li_h410, li_e420, li_f420, li_l420, li_g420, li_m420, li_h420, li_e2000, li_f2000, li_l2000, li_g2000, li_m2000, li_h2000, li_e8200, li_f8200, li_l8200, li_g8200, li_m8200, li_h8200, li_e1000000, li_f1000000, li_l1000000, li_g1000000, li_m1000000, li_h1000000, li_50, li_50', li_200, li_200', nI_add, li_s1, li_t1, li_c1, li_c2, li_c3, li_c4, li_c5, li_c6, li_c7, li_c8, li_c9, li_c10, li_c11, li_c12, li_c13, li_c14, li_c15, sg_Kat, sg_Pat, pk_us, pk_uLs, true_implies, forall_const, not_true_eq_false, not_false_eq_true, false_implies, and_true, true_and, implies_true, and_self, if_true, if_false, ite_true, ite_false, reduceIte, eq_self, Nat.reduceEqDiff, Nat.reduceLeDiff, Nat.reduceLT, Int32.reduceLT, Int32.reduceLE]
            rw [show vp_nar .boolean 1 = 1 from rfl]
            exact ih (i + 1) F L a _ fV fT fS fL fB i1 (by omega) (by omega) hl hfr2
          · obtain ⟨i1, i2⟩ := d5 hst
            have hstb : st < 2 ^ 31 := by have := hi.1.1.2.1; dsimp only at this; omega
            simp (disch := omega) only [hN1, List.length_cons, e0, e1, r1, r2, r4, r5, wpX_endResolved, wX_endResolved_48, h9, hst, d3, forall_eq, nI_leI, nI_ltI, nI_eq, vp_in_nI, nI_clamp, nI_1, li_e0, li_f0, li_l0, li_g0, li_m0, li_h0, li_e1, li_f1, li_l1, li_g1, li_m1, li_h1, li_e2, li_f2, li_l2, li_g2, li_m2, li_h2, li_e3, li_f3, li_l3, li_g3, li_m3, li_h3, li_e4, li_f4, li_l4, li_g4, li_m4, li_h4, li_e5, li_f5, li_l5, li_g5, li_m5, li_h5, li_e6, li_f6, li_l6, li_g6, li_m6, li_h6, li_e7, li_f7, li_l7, li_g7, li_m7, li_h7, li_e8, li_f8, li_l8, li_g8, li_m8, li_h8, li_e9, li_f9, li_l9, li_g9, li_m9, li_h9, li_e10, li_f10, li_l10, li_g10, li_m10, li_h10, li_e15, li_f15, li_l15, li_g15, li_m15, li_h15, li_e16, li_f16, li_l16, li_g16, li_m16, li_h16, li_e20, li_f20, li_l20, li_g20, li_m20, li_h20, li_e40, li_f40, li_l40, li_g40, li_m40, li_h40, li_e100, li_f100, li_l100, li_g100, li_m100, li_h100, li_e128, li_f128, li_l128, li_g128, li_m128, li_h128, li_e150, li_f150, li_l150, li_g150, li_m150, li_h150, li_e255, li_f255, li_l255, li_g255, li_m255, li_h255, li_e400, li_f400, li_l400, li_g400, li_m400, li_h400, li_e410, li_f410, li_l410, li_g410, li_m410, li_h410, li_e420, li_f420, li_l420, li_g420, li_m420, li_h420, li_e2000, li_f2000, li_l2000, li_g2000, li_m2000, li_h2000, li_e8200, li_f8200, li_l8200, li_g8200, li_m8200, li_h8200, li_e1000000, li_f1000000, li_l1000000, li_g1000000, li_m1000000, li_h1000000, li_50, li_50', li_200, li_200', nI_add, li_s1, li_t1, li_c1, li_c2, li_c3, li_c4, li_c5, li_c6, li_c7, li_c8, li_c9, li_c10, li_c11, li_c12, li_c13, li_c14, li_c15, sg_Kat, sg_Pat, pk_us, pk_uLs, true_implies, forall_const, not_true_eq_false, not_false_eq_true, false_implies, and_true, true_and, implies_true, and_self, if_true, if_false, ite_true, ite_false, reduceIte, eq_self, Nat.reduceEqDiff, Nat.reduceLeDiff, Nat.reduceLT, Int32.reduceLT, Int32.reduceLE]
            refine xl_pop hg (by omega) (by omega) r2 ?_
            rw [if_pos h9, nI_pred]
            simp (disch := omega) only [forall_eq, nI_leI, nI_ltI, nI_eq, vp_in_nI, nI_clamp, nI_1, li_e0, li_f0, li_l0, li_g0, li_m0, li_h0, li_e1, li_f1, li_l1, li_g1, li_m1, li_h1, li_e2, li_f2, li_l2, li_g2, li_m2, li_h2, li_e3, li_f3, li_l3, li_g3, li_m3, li_h3, li_e4, li_f4, li_l4, li_g4, li_m4, li_h4, li_e5, li_f5, li_l5, li_g5, li_m5, li_h5, li_e6, li_f6, li_l6, li_g6, li_m6, li_h6, li_e7, li_f7, li_l7, li_g7, li_m7, li_h7, li_e8, li_f8, li_l8, li_g8, li_m8, li_h8, li_e9, li_f9, li_l9, li_g9, li_m9, li_h9, li_e10, li_f10, li_l10, li_g10, li_m10, li_h10, li_e15, li_f15, li_l15, li_g15, li_m15, li_h15, li_e16, li_f16, li_l16, li_g16, li_m16, li_h16, li_e20, li_f20, li_l20, li_g20, li_m20, li_h20, li_e40, li_f40, li_l40, li_g40, li_m40, li_h40, li_e100, li_f100, li_l100, li_g100, li_m100, li_h100, li_e128, li_f128, li_l128, li_g128, li_m128, li_h128, li_e150, li_f150, li_l150, li_g150, li_m150, li_h150, li_e255, li_f255, li_l255, li_g255, li_m255, li_h255, li_e400, li_f400, li_l400, li_g400, li_m400, li_h400, li_e410, li_f410, li_l410, li_g410, li_m410, li_h410, li_e420, li_f420, li_l420, li_g420, li_m420, li_h420, li_e2000, li_f2000, li_l2000, li_g2000, li_m2000, li_h2000, li_e8200, li_f8200, li_l8200, li_g8200, li_m8200, li_h8200, li_e1000000, li_f1000000, li_l1000000, li_g1000000, li_m1000000, li_h1000000, li_50, li_50', li_200, li_200', nI_add, li_s1, li_t1, li_c1, li_c2, li_c3, li_c4, li_c5, li_c6, li_c7, li_c8, li_c9, li_c10, li_c11, li_c12, li_c13, li_c14, li_c15, sg_Kat, sg_Pat, pk_us, pk_uLs, true_implies, forall_const, not_true_eq_false, not_false_eq_true, false_implies, and_true, true_and, implies_true, and_self, if_true, if_false, ite_true, ite_false, reduceIte, eq_self, Nat.reduceEqDiff, Nat.reduceLeDiff, Nat.reduceLT, Int32.reduceLT, Int32.reduceLE]
            exact ih (i + 1) F L a mk fV fT fS fL fB i1 (by omega) (by omega) hl hfr2
      | succ l =>
        have hl5 : l + 1 < 2 ^ 31 := by
          rcases hi.1.1.2.2.2 with h | h
          · obtain ⟨q1, q2, q3, q4, j, q5, q6⟩ := h
            dsimp only at q2 q3 q6
            obtain ⟨c, c1, c2⟩ := (hw.2 v q2).2.2.2.2.2.2.2.2.1 q3
            have ec : sv_cnt g w v = c := by rw [sv_cnt7 q3, c2, lN_i, nI_clamp (by omega)]
            omega
          · obtain ⟨q1, q2, _⟩ := h
            have := hg.2.2.1 t
            dsimp only at q2
            omega
        have e2 : ¬ nI (l + 1) = 0 := nI_ne0 (by omega) hl5
        have e3 : nI (l + 1) - 1 = nI l := nI_pred l
        have hOK : ∀ (F1 : List sx_F) (L1 : List Int64), sx_mu g F1 L1 mk + 1 = sx_mu g ((v, t, s, l + 1, st) :: F) L mk → ∀ (F' : List sx_F) (L' : List Int64) (a : Nat → Int64) (fV fT fS fL fB : Nat → Int32), sx_inv g w r F' L' mk → sx_mu g F' L' mk ≤ sx_mu g F1 L1 mk → sl_is L' a → sx_fr fV fT fS fL fB F' →
            wX_resolveAll_30 post (N + 1) (nI (i + 1)) (nI (sg_n g)) x_byteCount x_numberCount (nI L'.length) 0 x_place x_valueCount (nI F'.length) (nI (sx_rc g F')) x_writtenCount x_pairCount (sg_K g) x_detailOf (sg_f g) (sg_P g) x_partName x_partType x_partAlias x_partHas x_partDefault (sv_b w) x_numbers a x_valueType x_valueNumber x_valueFrom x_valueAfter fV fT fS fL fB mk x_written x_pairs x_pairSeen := by
          intro F1 L1 hmu1 F' L' a fV fT fS fL fB i1 i2 i3 i4
          exact ih (i + 1) F' L' a mk fV fT fS fL fB i1 (by omega) (by omega) i3 i4
        rw [wX_resolveAll_30]
        rcases hk with h7 | h9
        · obtain ⟨m1, m2, m3, m4, m5⟩ := sx_take7 hw h7 hi
          have hdt := hg.2.2.2.2.2.1 t htn h7
          have eD := hX.1 t htn (Or.inr h7)
          have t3 := (ht s m3).2.2.1
          have erc : sx_rc g ((v, t, s, l + 1, st) :: F) = sx_rc g ((v, t, sv_a w s, l, st) :: F) := rfl
          have erc2 : sx_rc g ((v, t, sv_a w s, l, st) :: F) = sx_rc g F := by
            rw [sx_rc, if_neg (show ¬ sg_k g (v, t, sv_a w s, l, st).2.1 = 9 from (by dsimp only; omega))]; rfl
          simp (disch := omega) only [hN1, List.length_cons, e0, e1, r2, r3, r4, e2, e3, h7, wpX_nextItem, t3, eD, forall_eq, nI_leI, nI_ltI, nI_eq, vp_in_nI, nI_clamp, nI_1, li_e0, li_f0, li_l0, li_g0, li_m0, li_h0, li_e1, li_f1, li_l1, li_g1, li_m1, li_h1, li_e2, li_f2, li_l2, li_g2, li_m2, li_h2, li_e3, li_f3, li_l3, li_g3, li_m3, li_h3, li_e4, li_f4, li_l4, li_g4, li_m4, li_h4, li_e5, li_f5, li_l5, li_g5, li_m5, li_h5, li_e6, li_f6, li_l6, li_g6, li_m6, li_h6, li_e7, li_f7, li_l7, li_g7, li_m7, li_h7, li_e8, li_f8, li_l8, li_g8, li_m8, li_h8, li_e9, li_f9, li_l9, li_g9, li_m9, li_h9, li_e10, li_f10, li_l10, li_g10, li_m10, li_h10, li_e15, li_f15, li_l15, li_g15, li_m15, li_h15, li_e16, li_f16, li_l16, li_g16, li_m16, li_h16, li_e20, li_f20, li_l20, li_g20, li_m20, li_h20, li_e40, li_f40, li_l40, li_g40, li_m40, li_h40, li_e100, li_f100, li_l100, li_g100, li_m100, li_h100, li_e128, li_f128, li_l128, li_g128, li_m128, li_h128, li_e150, li_f150, li_l150, li_g150, li_m150, li_h150, li_e255, li_f255, li_l255, li_g255, li_m255, li_h255, li_e400, li_f400, li_l400, li_g400, li_m400, li_h400, li_e410, li_f410, li_l410, li_g410, li_m410, li_h410, li_e420, li_f420, li_l420, li_g420, li_m420, li_h420, li_e2000, li_f2000, li_l2000, li_g2000, li_m2000, li_h2000, li_e8200, li_f8200, li_l8200, li_g8200, li_m8200, li_h8200, li_e1000000, li_f1000000, li_l1000000, li_g1000000, li_m1000000, li_h1000000, li_50, li_50', li_200, li_200', nI_add, li_s1, li_t1, li_c1, li_c2, li_c3, li_c4, li_c5, li_c6, li_c7, li_c8, li_c9, li_c10, li_c11, li_c12, li_c13, li_c14, li_c15, sg_Kat, sg_Pat, pk_us, pk_uLs, true_implies, forall_const, not_true_eq_false, not_false_eq_true, false_implies, and_true, true_and, implies_true, and_self, if_true, if_false, ite_true, ite_false, reduceIte, eq_self, Nat.reduceEqDiff, Nat.reduceLeDiff, Nat.reduceLT, Int32.reduceLT, Int32.reduceLE]
          have hfr3 : sx_fr fV fT (upd fS F.length (nI (sv_a w s))) (upd fL F.length (nI l)) fB ((v, t, sv_a w s, l, st) :: F) := by
            refine ⟨⟨r1, r2, pk_us, pk_us, r5⟩, sx_fr_same (fun j hj => ⟨rfl, rfl, pk_un (by omega), pk_un (by omega), rfl⟩) hfr2⟩
          have hlt : ∀ e, e ∈ ((v, t, sv_a w s, l, st) :: F : List sx_F) → e.1 < s := by
            intro e he
            rcases List.mem_cons.mp he with rfl | he
            · exact m4
            · have := hi.1.1.2.2.1 e he
              dsimp only at this
              omega
          refine xl_resolveValue hg hX hw ht m1 hfr3 hdt m3 (by rw [erc2]; exact m5) hlt hl (fun F' L' a fV fT fS fL fB i1 i2 i3 i4 => ?_) (fun e lc a top rc fV fT fS fL fB hb => ?_)
          · simp (disch := omega) only [forall_eq, nI_leI, nI_ltI, nI_eq, vp_in_nI, nI_clamp, nI_1, li_e0, li_f0, li_l0, li_g0, li_m0, li_h0, li_e1, li_f1, li_l1, li_g1, li_m1, li_h1, li_e2, li_f2, li_l2, li_g2, li_m2, li_h2, li_e3, li_f3, li_l3, li_g3, li_m3, li_h3, li_e4, li_f4, li_l4, li_g4, li_m4, li_h4, li_e5, li_f5, li_l5, li_g5, li_m5, li_h5, li_e6, li_f6, li_l6, li_g6, li_m6, li_h6, li_e7, li_f7, li_l7, li_g7, li_m7, li_h7, li_e8, li_f8, li_l8, li_g8, li_m8, li_h8, li_e9, li_f9, li_l9, li_g9, li_m9, li_h9, li_e10, li_f10, li_l10, li_g10, li_m10, li_h10, li_e15, li_f15, li_l15, li_g15, li_m15, li_h15, li_e16, li_f16, li_l16, li_g16, li_m16, li_h16, li_e20, li_f20, li_l20, li_g20, li_m20, li_h20, li_e40, li_f40, li_l40, li_g40, li_m40, li_h40, li_e100, li_f100, li_l100, li_g100, li_m100, li_h100, li_e128, li_f128, li_l128, li_g128, li_m128, li_h128, li_e150, li_f150, li_l150, li_g150, li_m150, li_h150, li_e255, li_f255, li_l255, li_g255, li_m255, li_h255, li_e400, li_f400, li_l400, li_g400, li_m400, li_h400, li_e410, li_f410, li_l410, li_g410, li_m410, li_h410, li_e420, li_f420, li_l420, li_g420, li_m420, li_h420, li_e2000, li_f2000, li_l2000, li_g2000, li_m2000, li_h2000, li_e8200, li_f8200, li_l8200, li_g8200, li_m8200, li_h8200, li_e1000000, li_f1000000, li_l1000000, li_g1000000, li_m1000000, li_h1000000, li_50, li_50', li_200, li_200', nI_add, li_s1, li_t1, li_c1, li_c2, li_c3, li_c4, li_c5, li_c6, li_c7, li_c8, li_c9, li_c10, li_c11, li_c12, li_c13, li_c14, li_c15, sg_Kat, sg_Pat, pk_us, pk_uLs, true_implies, forall_const, not_true_eq_false, not_false_eq_true, false_implies, and_true, true_and, implies_true, and_self, if_true, if_false, ite_true, ite_false, reduceIte, eq_self, Nat.reduceEqDiff, Nat.reduceLeDiff, Nat.reduceLT, Int32.reduceLT, Int32.reduceLE]
            exact hOK _ L m2 F' L' a fV fT fS fL fB i1 i2 i3 i4
          · simp (disch := omega) only [forall_eq, nI_leI, nI_ltI, nI_eq, vp_in_nI, nI_clamp, nI_1, li_e0, li_f0, li_l0, li_g0, li_m0, li_h0, li_e1, li_f1, li_l1, li_g1, li_m1, li_h1, li_e2, li_f2, li_l2, li_g2, li_m2, li_h2, li_e3, li_f3, li_l3, li_g3, li_m3, li_h3, li_e4, li_f4, li_l4, li_g4, li_m4, li_h4, li_e5, li_f5, li_l5, li_g5, li_m5, li_h5, li_e6, li_f6, li_l6, li_g6, li_m6, li_h6, li_e7, li_f7, li_l7, li_g7, li_m7, li_h7, li_e8, li_f8, li_l8, li_g8, li_m8, li_h8, li_e9, li_f9, li_l9, li_g9, li_m9, li_h9, li_e10, li_f10, li_l10, li_g10, li_m10, li_h10, li_e15, li_f15, li_l15, li_g15, li_m15, li_h15, li_e16, li_f16, li_l16, li_g16, li_m16, li_h16, li_e20, li_f20, li_l20, li_g20, li_m20, li_h20, li_e40, li_f40, li_l40, li_g40, li_m40, li_h40, li_e100, li_f100, li_l100, li_g100, li_m100, li_h100, li_e128, li_f128, li_l128, li_g128, li_m128, li_h128, li_e150, li_f150, li_l150, li_g150, li_m150, li_h150, li_e255, li_f255, li_l255, li_g255, li_m255, li_h255, li_e400, li_f400, li_l400, li_g400, li_m400, li_h400, li_e410, li_f410, li_l410, li_g410, li_m410, li_h410, li_e420, li_f420, li_l420, li_g420, li_m420, li_h420, li_e2000, li_f2000, li_l2000, li_g2000, li_m2000, li_h2000, li_e8200, li_f8200, li_l8200, li_g8200, li_m8200, li_h8200, li_e1000000, li_f1000000, li_l1000000, li_g1000000, li_m1000000, li_h1000000, li_50, li_50', li_200, li_200', nI_add, li_s1, li_t1, li_c1, li_c2, li_c3, li_c4, li_c5, li_c6, li_c7, li_c8, li_c9, li_c10, li_c11, li_c12, li_c13, li_c14, li_c15, sg_Kat, sg_Pat, pk_us, pk_uLs, true_implies, forall_const, not_true_eq_false, not_false_eq_true, false_implies, and_true, true_and, implies_true, and_self, if_true, if_false, ite_true, ite_false, reduceIte, eq_self, Nat.reduceEqDiff, Nat.reduceLeDiff, Nat.reduceLT, Int32.reduceLT, Int32.reduceLE]
            exact hTR e lc a top rc fV fT fS fL fB hb
        · obtain ⟨m1, m2, m3, m4, m5, m6⟩ := sx_take9 h9 hi
          have p5 := hg.2.2.1 t
          have eT := hX.2.2.1 t s htn (by omega) (by omega)
          have hty := hg.2.2.2.2.2.2.2.1 t s htn (by omega) (by omega)
          have e20 : nI t * 5 + nI s = nI (5 * t + s) := li_5 t s
          have h7 : ¬ sg_k g t = 7 := by omega
          have erc2 : sx_rc g ((v, t, s + 1, l, st) :: F) = sx_rc g F + 1 := by
            rw [sx_rc, if_pos (show sg_k g (v, t, s + 1, l, st).2.1 = 9 from h9)]
          have erc1 : sx_rc g ((v, t, s, l + 1, st) :: F) = sx_rc g F + 1 := erc2
          have hv410 : v < 410 := by
            by_cases h4 : v < 400
            · omega
            · have := m6 h4; omega
          have hfr3 : sx_fr fV fT (upd fS F.length (nI (s + 1))) (upd fL F.length (nI l)) fB ((v, t, s + 1, l, st) :: F) := by
            refine ⟨⟨r1, r2, pk_us, pk_us, r5⟩, sx_fr_same (fun j hj => ⟨rfl, rfl, pk_un (by omega), pk_un (by omega), rfl⟩) hfr2⟩
          simp (disch := omega) only [hN1, List.length_cons, e0, e1, r1, r2, r3, r4, e2, e3, e20, h7, wpX_nextPart, forall_eq, nI_leI, nI_ltI, nI_eq, vp_in_nI, nI_clamp, nI_1, li_e0, li_f0, li_l0, li_g0, li_m0, li_h0, li_e1, li_f1, li_l1, li_g1, li_m1, li_h1, li_e2, li_f2, li_l2, li_g2, li_m2, li_h2, li_e3, li_f3, li_l3, li_g3, li_m3, li_h3, li_e4, li_f4, li_l4, li_g4, li_m4, li_h4, li_e5, li_f5, li_l5, li_g5, li_m5, li_h5, li_e6, li_f6, li_l6, li_g6, li_m6, li_h6, li_e7, li_f7, li_l7, li_g7, li_m7, li_h7, li_e8, li_f8, li_l8, li_g8, li_m8, li_h8, li_e9, li_f9, li_l9, li_g9, li_m9, li_h9, li_e10, li_f10, li_l10, li_g10, li_m10, li_h10, li_e15, li_f15, li_l15, li_g15, li_m15, li_h15, li_e16, li_f16, li_l16, li_g16, li_m16, li_h16, li_e20, li_f20, li_l20, li_g20, li_m20, li_h20, li_e40, li_f40, li_l40, li_g40, li_m40, li_h40, li_e100, li_f100, li_l100, li_g100, li_m100, li_h100, li_e128, li_f128, li_l128, li_g128, li_m128, li_h128, li_e150, li_f150, li_l150, li_g150, li_m150, li_h150, li_e255, li_f255, li_l255, li_g255, li_m255, li_h255, li_e400, li_f400, li_l400, li_g400, li_m400, li_h400, li_e410, li_f410, li_l410, li_g410, li_m410, li_h410, li_e420, li_f420, li_l420, li_g420, li_m420, li_h420, li_e2000, li_f2000, li_l2000, li_g2000, li_m2000, li_h2000, li_e8200, li_f8200, li_l8200, li_g8200, li_m8200, li_h8200, li_e1000000, li_f1000000, li_l1000000, li_g1000000, li_m1000000, li_h1000000, li_50, li_50', li_200, li_200', nI_add, li_s1, li_t1, li_c1, li_c2, li_c3, li_c4, li_c5, li_c6, li_c7, li_c8, li_c9, li_c10, li_c11, li_c12, li_c13, li_c14, li_c15, sg_Kat, sg_Pat, pk_us, pk_uLs, true_implies, forall_const, not_true_eq_false, not_false_eq_true, false_implies, and_true, true_and, implies_true, and_self, if_true, if_false, ite_true, ite_false, reduceIte, eq_self, Nat.reduceEqDiff, Nat.reduceLeDiff, Nat.reduceLT, Int32.reduceLT, Int32.reduceLE]
          refine xl_sourceOf hg hX hw ht (fun z => ⟨(m5 z).1, (m5 z).2.1⟩) (by omega) htn h9 (by omega) (fun he => ?_) (fun c hc1 hc2 hc3 hc4 he => ?_)
          · simp (disch := omega) only [forall_eq, nI_leI, nI_ltI, nI_eq, vp_in_nI, nI_clamp, nI_1, li_e0, li_f0, li_l0, li_g0, li_m0, li_h0, li_e1, li_f1, li_l1, li_g1, li_m1, li_h1, li_e2, li_f2, li_l2, li_g2, li_m2, li_h2, li_e3, li_f3, li_l3, li_g3, li_m3, li_h3, li_e4, li_f4, li_l4, li_g4, li_m4, li_h4, li_e5, li_f5, li_l5, li_g5, li_m5, li_h5, li_e6, li_f6, li_l6, li_g6, li_m6, li_h6, li_e7, li_f7, li_l7, li_g7, li_m7, li_h7, li_e8, li_f8, li_l8, li_g8, li_m8, li_h8, li_e9, li_f9, li_l9, li_g9, li_m9, li_h9, li_e10, li_f10, li_l10, li_g10, li_m10, li_h10, li_e15, li_f15, li_l15, li_g15, li_m15, li_h15, li_e16, li_f16, li_l16, li_g16, li_m16, li_h16, li_e20, li_f20, li_l20, li_g20, li_m20, li_h20, li_e40, li_f40, li_l40, li_g40, li_m40, li_h40, li_e100, li_f100, li_l100, li_g100, li_m100, li_h100, li_e128, li_f128, li_l128, li_g128, li_m128, li_h128, li_e150, li_f150, li_l150, li_g150, li_m150, li_h150, li_e255, li_f255, li_l255, li_g255, li_m255, li_h255, li_e400, li_f400, li_l400, li_g400, li_m400, li_h400, li_e410, li_f410, li_l410, li_g410, li_m410, li_h410, li_e420, li_f420, li_l420, li_g420, li_m420, li_h420, li_e2000, li_f2000, li_l2000, li_g2000, li_m2000, li_h2000, li_e8200, li_f8200, li_l8200, li_g8200, li_m8200, li_h8200, li_e1000000, li_f1000000, li_l1000000, li_g1000000, li_m1000000, li_h1000000, li_50, li_50', li_200, li_200', nI_add, li_s1, li_t1, li_c1, li_c2, li_c3, li_c4, li_c5, li_c6, li_c7, li_c8, li_c9, li_c10, li_c11, li_c12, li_c13, li_c14, li_c15, sg_Kat, sg_Pat, pk_us, pk_uLs, true_implies, forall_const, not_true_eq_false, not_false_eq_true, false_implies, and_true, true_and, implies_true, and_self, if_true, if_false, ite_true, ite_false, reduceIte, eq_self, Nat.reduceEqDiff, Nat.reduceLeDiff, Nat.reduceLT, Int32.reduceLT, Int32.reduceLE]
            rw [he] at m1
            have hlt : ∀ e, e ∈ ((v, t, s + 1, l, st) :: F : List sx_F) → e.1 < 400 + sx_rc g ((v, t, s + 1, l, st) :: F) := by
              intro e he
              have hvb : v < 400 + (sx_rc g F + 1) := by
                by_cases h4 : v < 400
                · omega
                · have := m6 h4; omega
              rcases List.mem_cons.mp he with rfl | he
              · rw [erc2]; exact hvb
              · have := hi.1.1.2.2.1 e he
                dsimp only at this
                omega
            refine xl_putDefaultOf hg hX hw htn h9 (by omega) m1 hfr3 hlt hl (fun F' L' a fV fT fS fL fB i1 i2 i3 i4 => ?_) (fun e lc a top rc fV fT fS fL fB hb => ?_)
            · simp (disch := omega) only [forall_eq, nI_leI, nI_ltI, nI_eq, vp_in_nI, nI_clamp, nI_1, li_e0, li_f0, li_l0, li_g0, li_m0, li_h0, li_e1, li_f1, li_l1, li_g1, li_m1, li_h1, li_e2, li_f2, li_l2, li_g2, li_m2, li_h2, li_e3, li_f3, li_l3, li_g3, li_m3, li_h3, li_e4, li_f4, li_l4, li_g4, li_m4, li_h4, li_e5, li_f5, li_l5, li_g5, li_m5, li_h5, li_e6, li_f6, li_l6, li_g6, li_m6, li_h6, li_e7, li_f7, li_l7, li_g7, li_m7, li_h7, li_e8, li_f8, li_l8, li_g8, li_m8, li_h8, li_e9, li_f9, li_l9, li_g9, li_m9, li_h9, li_e10, li_f10, li_l10, li_g10, li_m10, li_h10, li_e15, li_f15, li_l15, li_g15, li_m15, li_h15, li_e16, li_f16, li_l16, li_g16, li_m16, li_h16, li_e20, li_f20, li_l20, li_g20, li_m20, li_h20, li_e40, li_f40, li_l40, li_g40, li_m40, li_h40, li_e100, li_f100, li_l100, li_g100, li_m100, li_h100, li_e128, li_f128, li_l128, li_g128, li_m128, li_h128, li_e150, li_f150, li_l150, li_g150, li_m150, li_h150, li_e255, li_f255, li_l255, li_g255, li_m255, li_h255, li_e400, li_f400, li_l400, li_g400, li_m400, li_h400, li_e410, li_f410, li_l410, li_g410, li_m410, li_h410, li_e420, li_f420, li_l420, li_g420, li_m420, li_h420, li_e2000, li_f2000, li_l2000, li_g2000, li_m2000, li_h2000, li_e8200, li_f8200, li_l8200, li_g8200, li_m8200, li_h8200, li_e1000000, li_f1000000, li_l1000000, li_g1000000, li_m1000000, li_h1000000, li_50, li_50', li_200, li_200', nI_add, li_s1, li_t1, li_c1, li_c2, li_c3, li_c4, li_c5, li_c6, li_c7, li_c8, li_c9, li_c10, li_c11, li_c12, li_c13, li_c14, li_c15, sg_Kat, sg_Pat, pk_us, pk_uLs, true_implies, forall_const, not_true_eq_false, not_false_eq_true, false_implies, and_true, true_and, implies_true, and_self, if_true, if_false, ite_true, ite_false, reduceIte, eq_self, Nat.reduceEqDiff, Nat.reduceLeDiff, Nat.reduceLT, Int32.reduceLT, Int32.reduceLE]
              exact hOK _ L m2 F' L' a fV fT fS fL fB i1 i2 i3 i4
            · simp (disch := omega) only [forall_eq, nI_leI, nI_ltI, nI_eq, vp_in_nI, nI_clamp, nI_1, li_e0, li_f0, li_l0, li_g0, li_m0, li_h0, li_e1, li_f1, li_l1, li_g1, li_m1, li_h1, li_e2, li_f2, li_l2, li_g2, li_m2, li_h2, li_e3, li_f3, li_l3, li_g3, li_m3, li_h3, li_e4, li_f4, li_l4, li_g4, li_m4, li_h4, li_e5, li_f5, li_l5, li_g5, li_m5, li_h5, li_e6, li_f6, li_l6, li_g6, li_m6, li_h6, li_e7, li_f7, li_l7, li_g7, li_m7, li_h7, li_e8, li_f8, li_l8, li_g8, li_m8, li_h8, li_e9, li_f9, li_l9, li_g9, li_m9, li_h9, li_e10, li_f10, li_l10, li_g10, li_m10, li_h10, li_e15, li_f15, li_l15, li_g15, li_m15, li_h15, li_e16, li_f16, li_l16, li_g16, li_m16, li_h16, li_e20, li_f20, li_l20, li_g20, li_m20, li_h20, li_e40, li_f40, li_l40, li_g40, li_m40, li_h40, li_e100, li_f100, li_l100, li_g100, li_m100, li_h100, li_e128, li_f128, li_l128, li_g128, li_m128, li_h128, li_e150, li_f150, li_l150, li_g150, li_m150, li_h150, li_e255, li_f255, li_l255, li_g255, li_m255, li_h255, li_e400, li_f400, li_l400, li_g400, li_m400, li_h400, li_e410, li_f410, li_l410, li_g410, li_m410, li_h410, li_e420, li_f420, li_l420, li_g420, li_m420, li_h420, li_e2000, li_f2000, li_l2000, li_g2000, li_m2000, li_h2000, li_e8200, li_f8200, li_l8200, li_g8200, li_m8200, li_h8200, li_e1000000, li_f1000000, li_l1000000, li_g1000000, li_m1000000, li_h1000000, li_50, li_50', li_200, li_200', nI_add, li_s1, li_t1, li_c1, li_c2, li_c3, li_c4, li_c5, li_c6, li_c7, li_c8, li_c9, li_c10, li_c11, li_c12, li_c13, li_c14, li_c15, sg_Kat, sg_Pat, pk_us, pk_uLs, true_implies, forall_const, not_true_eq_false, not_false_eq_true, false_implies, and_true, true_and, implies_true, and_self, if_true, if_false, ite_true, ite_false, reduceIte, eq_self, Nat.reduceEqDiff, Nat.reduceLeDiff, Nat.reduceLT, Int32.reduceLT, Int32.reduceLE]
              exact hTR e lc a top rc fV fT fS fL fB hb
          · have hc5 : ¬ nI c = -1 := li_neg (by omega)
            simp (disch := omega) only [hc5, eT, forall_eq, nI_leI, nI_ltI, nI_eq, vp_in_nI, nI_clamp, nI_1, li_e0, li_f0, li_l0, li_g0, li_m0, li_h0, li_e1, li_f1, li_l1, li_g1, li_m1, li_h1, li_e2, li_f2, li_l2, li_g2, li_m2, li_h2, li_e3, li_f3, li_l3, li_g3, li_m3, li_h3, li_e4, li_f4, li_l4, li_g4, li_m4, li_h4, li_e5, li_f5, li_l5, li_g5, li_m5, li_h5, li_e6, li_f6, li_l6, li_g6, li_m6, li_h6, li_e7, li_f7, li_l7, li_g7, li_m7, li_h7, li_e8, li_f8, li_l8, li_g8, li_m8, li_h8, li_e9, li_f9, li_l9, li_g9, li_m9, li_h9, li_e10, li_f10, li_l10, li_g10, li_m10, li_h10, li_e15, li_f15, li_l15, li_g15, li_m15, li_h15, li_e16, li_f16, li_l16, li_g16, li_m16, li_h16, li_e20, li_f20, li_l20, li_g20, li_m20, li_h20, li_e40, li_f40, li_l40, li_g40, li_m40, li_h40, li_e100, li_f100, li_l100, li_g100, li_m100, li_h100, li_e128, li_f128, li_l128, li_g128, li_m128, li_h128, li_e150, li_f150, li_l150, li_g150, li_m150, li_h150, li_e255, li_f255, li_l255, li_g255, li_m255, li_h255, li_e400, li_f400, li_l400, li_g400, li_m400, li_h400, li_e410, li_f410, li_l410, li_g410, li_m410, li_h410, li_e420, li_f420, li_l420, li_g420, li_m420, li_h420, li_e2000, li_f2000, li_l2000, li_g2000, li_m2000, li_h2000, li_e8200, li_f8200, li_l8200, li_g8200, li_m8200, li_h8200, li_e1000000, li_f1000000, li_l1000000, li_g1000000, li_m1000000, li_h1000000, li_50, li_50', li_200, li_200', nI_add, li_s1, li_t1, li_c1, li_c2, li_c3, li_c4, li_c5, li_c6, li_c7, li_c8, li_c9, li_c10, li_c11, li_c12, li_c13, li_c14, li_c15, sg_Kat, sg_Pat, pk_us, pk_uLs, true_implies, forall_const, not_true_eq_false, not_false_eq_true, false_implies, and_true, true_and, implies_true, and_self, if_true, if_false, ite_true, ite_false, reduceIte, eq_self, Nat.reduceEqDiff, Nat.reduceLeDiff, Nat.reduceLT, Int32.reduceLT, Int32.reduceLE]
            rw [he] at m1
            have hlt : ∀ e, e ∈ ((v, t, s + 1, l, st) :: F : List sx_F) → e.1 < c := by
              intro e he
              rcases List.mem_cons.mp he with rfl | he
              · exact hc1
              · have := hi.1.1.2.2.1 e he
                dsimp only at this
                omega
            refine xl_resolveValue hg hX hw ht m1 hfr3 hty hc2 (by rw [erc2, hc3, (m5 hc4).2.2]) hlt hl (fun F' L' a fV fT fS fL fB i1 i2 i3 i4 => ?_) (fun e lc a top rc fV fT fS fL fB hb => ?_)
            · simp (disch := omega) only [forall_eq, nI_leI, nI_ltI, nI_eq, vp_in_nI, nI_clamp, nI_1, li_e0, li_f0, li_l0, li_g0, li_m0, li_h0, li_e1, li_f1, li_l1, li_g1, li_m1, li_h1, li_e2, li_f2, li_l2, li_g2, li_m2, li_h2, li_e3, li_f3, li_l3, li_g3, li_m3, li_h3, li_e4, li_f4, li_l4, li_g4, li_m4, li_h4, li_e5, li_f5, li_l5, li_g5, li_m5, li_h5, li_e6, li_f6, li_l6, li_g6, li_m6, li_h6, li_e7, li_f7, li_l7, li_g7, li_m7, li_h7, li_e8, li_f8, li_l8, li_g8, li_m8, li_h8, li_e9, li_f9, li_l9, li_g9, li_m9, li_h9, li_e10, li_f10, li_l10, li_g10, li_m10, li_h10, li_e15, li_f15, li_l15, li_g15, li_m15, li_h15, li_e16, li_f16, li_l16, li_g16, li_m16, li_h16, li_e20, li_f20, li_l20, li_g20, li_m20, li_h20, li_e40, li_f40, li_l40, li_g40, li_m40, li_h40, li_e100, li_f100, li_l100, li_g100, li_m100, li_h100, li_e128, li_f128, li_l128, li_g128, li_m128, li_h128, li_e150, li_f150, li_l150, li_g150, li_m150, li_h150, li_e255, li_f255, li_l255, li_g255, li_m255, li_h255, li_e400, li_f400, li_l400, li_g400, li_m400, li_h400, li_e410, li_f410, li_l410, li_g410, li_m410, li_h410, li_e420, li_f420, li_l420, li_g420, li_m420, li_h420, li_e2000, li_f2000, li_l2000, li_g2000, li_m2000, li_h2000, li_e8200, li_f8200, li_l8200, li_g8200, li_m8200, li_h8200, li_e1000000, li_f1000000, li_l1000000, li_g1000000, li_m1000000, li_h1000000, li_50, li_50', li_200, li_200', nI_add, li_s1, li_t1, li_c1, li_c2, li_c3, li_c4, li_c5, li_c6, li_c7, li_c8, li_c9, li_c10, li_c11, li_c12, li_c13, li_c14, li_c15, sg_Kat, sg_Pat, pk_us, pk_uLs, true_implies, forall_const, not_true_eq_false, not_false_eq_true, false_implies, and_true, true_and, implies_true, and_self, if_true, if_false, ite_true, ite_false, reduceIte, eq_self, Nat.reduceEqDiff, Nat.reduceLeDiff, Nat.reduceLT, Int32.reduceLT, Int32.reduceLE]
              exact hOK _ L m2 F' L' a fV fT fS fL fB i1 i2 i3 i4
            · simp (disch := omega) only [forall_eq, nI_leI, nI_ltI, nI_eq, vp_in_nI, nI_clamp, nI_1, li_e0, li_f0, li_l0, li_g0, li_m0, li_h0, li_e1, li_f1, li_l1, li_g1, li_m1, li_h1, li_e2, li_f2, li_l2, li_g2, li_m2, li_h2, li_e3, li_f3, li_l3, li_g3, li_m3, li_h3, li_e4, li_f4, li_l4, li_g4, li_m4, li_h4, li_e5, li_f5, li_l5, li_g5, li_m5, li_h5, li_e6, li_f6, li_l6, li_g6, li_m6, li_h6, li_e7, li_f7, li_l7, li_g7, li_m7, li_h7, li_e8, li_f8, li_l8, li_g8, li_m8, li_h8, li_e9, li_f9, li_l9, li_g9, li_m9, li_h9, li_e10, li_f10, li_l10, li_g10, li_m10, li_h10, li_e15, li_f15, li_l15, li_g15, li_m15, li_h15, li_e16, li_f16, li_l16, li_g16, li_m16, li_h16, li_e20, li_f20, li_l20, li_g20, li_m20, li_h20, li_e40, li_f40, li_l40, li_g40, li_m40, li_h40, li_e100, li_f100, li_l100, li_g100, li_m100, li_h100, li_e128, li_f128, li_l128, li_g128, li_m128, li_h128, li_e150, li_f150, li_l150, li_g150, li_m150, li_h150, li_e255, li_f255, li_l255, li_g255, li_m255, li_h255, li_e400, li_f400, li_l400, li_g400, li_m400, li_h400, li_e410, li_f410, li_l410, li_g410, li_m410, li_h410, li_e420, li_f420, li_l420, li_g420, li_m420, li_h420, li_e2000, li_f2000, li_l2000, li_g2000, li_m2000, li_h2000, li_e8200, li_f8200, li_l8200, li_g8200, li_m8200, li_h8200, li_e1000000, li_f1000000, li_l1000000, li_g1000000, li_m1000000, li_h1000000, li_50, li_50', li_200, li_200', nI_add, li_s1, li_t1, li_c1, li_c2, li_c3, li_c4, li_c5, li_c6, li_c7, li_c8, li_c9, li_c10, li_c11, li_c12, li_c13, li_c14, li_c15, sg_Kat, sg_Pat, pk_us, pk_uLs, true_implies, forall_const, not_true_eq_false, not_false_eq_true, false_implies, and_true, true_and, implies_true, and_self, if_true, if_false, ite_true, ite_false, reduceIte, eq_self, Nat.reduceEqDiff, Nat.reduceLeDiff, Nat.reduceLT, Int32.reduceLT, Int32.reduceLE]
              exact hTR e lc a top rc fV fT fS fL fB hb
end
end
section
/-! the class's resolving as a whole -/
section
variable {x_typeCount x_byteCount x_numberCount x_listCount x_trouble x_place x_valueCount x_top x_records x_writtenCount x_pairCount : Int32}
variable {x_kindOf x_detailOf x_fallbackOf x_partCount x_partName x_partType x_partAlias x_partHas x_partDefault x_bytes x_valueType x_valueFrom x_valueAfter x_frameValue x_frameType x_frameStep x_frameLeft x_frameStart x_addsNothing x_written x_pairs x_pairSeen : Nat → Int32}
variable {x_numbers x_list x_valueNumber : Nat → Int64}
variable {g : sg_T} {w : sr_V} {r : Nat} {post : SX → Prop}
theorem xl_resolveAll (hg : sg_ok g) (hX : sg_X g x_detailOf x_partName x_partType x_partAlias x_partHas x_partDefault) (hw : sv_ok g w) (ht : sx_tree g w x_valueType x_valueFrom x_valueAfter x_valueNumber) (hr : r < sg_n g) (h0 : 0 < sv_m w) (hd0 : sv_d w 0 = 0) (HF : ∀ (L : List Int64) (a : Nat → Int64) (mk fV fT fS fL fB : Nat → Int32), sr_cert g w [(0, 0, r, 0)] 0 [] [] 0 L → L.length ≤ 150 → sl_is L a → post (nI (sg_n g), x_byteCount, x_numberCount, nI L.length, 0, x_place, x_valueCount, 0, 0, x_writtenCount, x_pairCount, sg_K g, x_detailOf, sg_f g, sg_P g, x_partName, x_partType, x_partAlias, x_partHas, x_partDefault, sv_b w, x_numbers, a, x_valueType, x_valueNumber, x_valueFrom, x_valueAfter, fV, fT, fS, fL, fB, mk, x_written, x_pairs, x_pairSeen)) (HT : ∀ (e : Int32) (lc : Int32) (a : Nat → Int64) (top rc : Int32) (mk fV fT fS fL fB : Nat → Int32), sx_bad g w r e → post (nI (sg_n g), x_byteCount, x_numberCount, lc, e, x_place, x_valueCount, top, rc, x_writtenCount, x_pairCount, sg_K g, x_detailOf, sg_f g, sg_P g, x_partName, x_partType, x_partAlias, x_partHas, x_partDefault, sv_b w, x_numbers, a, x_valueType, x_valueNumber, x_valueFrom, x_valueAfter, fV, fT, fS, fL, fB, mk, x_written, x_pairs, x_pairSeen)) :
    wpX_resolveAll post (nI (sg_n g), x_byteCount, x_numberCount, 0, 0, x_place, x_valueCount, 0, 0, x_writtenCount, x_pairCount, sg_K g, x_detailOf, sg_f g, sg_P g, x_partName, x_partType, x_partAlias, x_partHas, x_partDefault, sv_b w, x_numbers, x_list, x_valueType, x_valueNumber, x_valueFrom, x_valueAfter, x_frameValue, x_frameType, x_frameStep, x_frameLeft, x_frameStart, x_addsNothing, x_written, x_pairs, x_pairSeen) (nI r) := by
  have fin : ∀ (mk : Nat → Int32), (∀ i, i < 8200 → mk i = 0) → wpX_resolveValue (fun u => match u with | (x_typeCount, x_byteCount, x_numberCount, x_listCount, x_trouble, x_place, x_valueCount, x_top, x_records, x_writtenCount, x_pairCount, x_kindOf, x_detailOf, x_fallbackOf, x_partCount, x_partName, x_partType, x_partAlias, x_partHas, x_partDefault, x_bytes, x_numbers, x_list, x_valueType, x_valueNumber, x_valueFrom, x_valueAfter, x_frameValue, x_frameType, x_frameStep, x_frameLeft, x_frameStart, x_addsNothing, x_written, x_pairs, x_pairSeen) => ∃ n30, wX_resolveAll_30 post n30 0 x_typeCount x_byteCount x_numberCount x_listCount x_trouble x_place x_valueCount x_top x_records x_writtenCount x_pairCount x_kindOf x_detailOf x_fallbackOf x_partCount x_partName x_partType x_partAlias x_partHas x_partDefault x_bytes x_numbers x_list x_valueType x_valueNumber x_valueFrom x_valueAfter x_frameValue x_frameType x_frameStep x_frameLeft x_frameStart x_addsNothing x_written x_pairs x_pairSeen) (nI (sg_n g), x_byteCount, x_numberCount, 0, 0, x_place, x_valueCount, 0, 0, x_writtenCount, x_pairCount, sg_K g, x_detailOf, sg_f g, sg_P g, x_partName, x_partType, x_partAlias, x_partHas, x_partDefault, sv_b w, x_numbers, x_list, x_valueType, x_valueNumber, x_valueFrom, x_valueAfter, x_frameValue, x_frameType, x_frameStep, x_frameLeft, x_frameStart, mk, x_written, x_pairs, x_pairSeen) 0 (nI r) := by
    intro mk hmk
    have hmid : sx_mid g w r (0, 0, r, 0) [] [] mk := by
      refine ⟨trivial, Nat.zero_le _, Nat.zero_le _, Nat.zero_le _, trivial, ⟨fun v t hv ht hz => ?_, fun i hi => Or.inl (hmk i hi)⟩, sr_cert_refl⟩
      have := hg.1
      exact absurd (hmk (20 * v + t) (by omega)) hz
    have hmu0 : sx_mu g [] [] mk ≤ 90000 := by
      unfold sx_mu
      have e1 : sx_sm [] = 0 := rfl
      have e2 : ([] : List Int64).length = 0 := rfl
      omega
    refine xl_resolveValue (a := x_list) (F := []) (L := []) (f := 0) hg hX hw ht hmid trivial hr h0 hd0 (fun e he => by cases he) (sl_nil _) (fun F' L' a fV fT fS fL fB i1 i2 i3 i4 => ?_) (fun e lc a top rc fV fT fS fL fB hb => ?_)
    · exact ⟨90001, xl_loop hg hX hw ht HF HT 90000 0 F' L' a mk fV fT fS fL fB i1 (by omega) (by omega) i3 i4⟩
    · refine ⟨1, xl_exit ?_ (HT e lc a top rc mk fV fT fS fL fB hb)⟩
      obtain ⟨c, d, L, _, _, he⟩ := hb
      exact he
  have H : ∀ m i (mk : Nat → Int32), i + m = 8200 → (∀ j, j < i → mk j = 0) → wX_resolveAll_2 post (nI r) (nI (sg_n g)) x_byteCount x_numberCount 0 0 x_place x_valueCount 0 0 x_writtenCount x_pairCount (m + 1) (nI i) (sg_K g) x_detailOf (sg_f g) (sg_P g) x_partName x_partType x_partAlias x_partHas x_partDefault (sv_b w) x_numbers x_list x_valueType x_valueNumber x_valueFrom x_valueAfter x_frameValue x_frameType x_frameStep x_frameLeft x_frameStart mk x_written x_pairs x_pairSeen := by
    intro m
    induction m with
    | zero =>
      intro i mk hi hmk
      have hle : 8200 ≤ i := by omega
      rw [wX_resolveAll_2]
      simp (disch := omega) only [hle, forall_eq, nI_leI, nI_ltI, nI_eq, vp_in_nI, nI_clamp, nI_1, li_e0, li_f0, li_l0, li_g0, li_m0, li_h0, li_e1, li_f1, li_l1, li_g1, li_m1, li_h1, li_e2, li_f2, li_l2, li_g2, li_m2, li_h2, li_e3, li_f3, li_l3, li_g3, li_m3, li_h3, li_e4, li_f4, li_l4, li_g4, li_m4, li_h4, li_e5, li_f5, li_l5, li_g5, li_m5, li_h5, li_e6, li_f6, li_l6, li_g6, li_m6, li_h6, li_e7, li_f7, li_l7, li_g7, li_m7, li_h7, li_e8, li_f8, li_l8, li_g8, li_m8, li_h8, li_e9, li_f9, li_l9, li_g9, li_m9, li_h9, li_e10, li_f10, li_l10, li_g10, li_m10, li_h10, li_e15, li_f15, li_l15, li_g15, li_m15, li_h15, li_e16, li_f16, li_l16, li_g16, li_m16, li_h16, li_e20, li_f20, li_l20, li_g20, li_m20, li_h20, li_e40, li_f40, li_l40, li_g40, li_m40, li_h40, li_e100, li_f100, li_l100, li_g100, li_m100, li_h100, li_e128, li_f128, li_l128, li_g128, li_m128, li_h128, li_e150, li_f150, li_l150, li_g150, li_m150, li_h150, li_e255, li_f255, li_l255, li_g255, li_m255, li_h255, li_e400, li_f400, li_l400, li_g400, li_m400, li_h400, li_e410, li_f410, li_l410, li_g410, li_m410, li_h410, li_e420, li_f420, li_l420, li_g420, li_m420, li_h420, li_e2000, li_f2000, li_l2000, li_g2000, li_m2000, li_h2000, li_e8200, li_f8200, li_l8200, li_g8200, li_m8200, li_h8200, li_e1000000, li_f1000000, li_l1000000, li_g1000000, li_m1000000, li_h1000000, li_50, li_50', li_200, li_200', nI_add, li_s1, li_t1, li_c1, li_c2, li_c3, li_c4, li_c5, li_c6, li_c7, li_c8, li_c9, li_c10, li_c11, li_c12, li_c13, li_c14, li_c15, sg_Kat, sg_Pat, pk_us, pk_uLs, true_implies, forall_const, not_true_eq_false, not_false_eq_true, false_implies, and_true, true_and, implies_true, and_self, if_true, if_false, ite_true, ite_false, reduceIte, eq_self, Nat.reduceEqDiff, Nat.reduceLeDiff, Nat.reduceLT, Int32.reduceLT, Int32.reduceLE]
      exact fin mk (fun j hj => hmk j (by omega))
    | succ m ih =>
      intro i mk hi hmk
      have hlt : ¬ 8200 ≤ i := by omega
      rw [wX_resolveAll_2]
      simp (disch := omega) only [hlt, forall_eq, nI_leI, nI_ltI, nI_eq, vp_in_nI, nI_clamp, nI_1, li_e0, li_f0, li_l0, li_g0, li_m0, li_h0, li_e1, li_f1, li_l1, li_g1, li_m1, li_h1, li_e2, li_f2, li_l2, li_g2, li_m2, li_h2, li_e3, li_f3, li_l3, li_g3, li_m3, li_h3, li_e4, li_f4, li_l4, li_g4, li_m4, li_h4, li_e5, li_f5, li_l5, li_g5, li_m5, li_h5, li_e6, li_f6, li_l6, li_g6, li_m6, li_h6, li_e7, li_f7, li_l7, li_g7, li_m7, li_h7, li_e8, li_f8, li_l8, li_g8, li_m8, li_h8, li_e9, li_f9, li_l9, li_g9, li_m9, li_h9, li_e10, li_f10, li_l10, li_g10, li_m10, li_h10, li_e15, li_f15, li_l15, li_g15, li_m15, li_h15, li_e16, li_f16, li_l16, li_g16, li_m16, li_h16, li_e20, li_f20, li_l20, li_g20, li_m20, li_h20, li_e40, li_f40, li_l40, li_g40, li_m40, li_h40, li_e100, li_f100, li_l100, li_g100, li_m100, li_h100, li_e128, li_f128, li_l128, li_g128, li_m128, li_h128, li_e150, li_f150, li_l150, li_g150, li_m150, li_h150, li_e255, li_f255, li_l255, li_g255, li_m255, li_h255, li_e400, li_f400, li_l400, li_g400, li_m400, li_h400, li_e410, li_f410, li_l410, li_g410, li_m410, li_h410, li_e420, li_f420, li_l420, li_g420, li_m420, li_h420, li_e2000, li_f2000, li_l2000, li_g2000, li_m2000, li_h2000, li_e8200, li_f8200, li_l8200, li_g8200, li_m8200, li_h8200, li_e1000000, li_f1000000, li_l1000000, li_g1000000, li_m1000000, li_h1000000, li_50, li_50', li_200, li_200', nI_add, li_s1, li_t1, li_c1, li_c2, li_c3, li_c4, li_c5, li_c6, li_c7, li_c8, li_c9, li_c10, li_c11, li_c12, li_c13, li_c14, li_c15, sg_Kat, sg_Pat, pk_us, pk_uLs, true_implies, forall_const, not_true_eq_false, not_false_eq_true, false_implies, and_true, true_and, implies_true, and_self, if_true, if_false, ite_true, ite_false, reduceIte, eq_self, Nat.reduceEqDiff, Nat.reduceLeDiff, Nat.reduceLT, Int32.reduceLT, Int32.reduceLE]
      refine ih (i + 1) _ (by omega) (fun j hj => ?_)
      by_cases e : j = i
      · subst e; rw [pk_us]; rfl
      · rw [pk_un e]; exact hmk j (by omega)
  exact ⟨8201, H 8200 0 _ (by omega) (fun j hj => absurd hj (by omega))⟩
end
end
section
/-! the reference's resolving against the machine: one item -/
section
variable {y_types y_byteCount y_writtenCount y_numberCount y_listCount y_values y_depth y_records y_at y_wrong y_todo : Int32}
variable {y_kind y_of y_parts y_fallback y_name y_part y_alias y_given y_has y_bytes y_written y_valueType y_start y_child y_last y_next y_open y_come y_left y_todoValue y_todoType y_todoDefault y_pair y_whole : Nat → Int32}
variable {y_numbers y_list y_value : Nat → Int64}
variable {g : sg_T} {w : sr_V} {L O : List Int64} {post : SY → Prop}
theorem yl_out {o : List Int64} (x : Int64) (h : sl_out L o y_listCount y_list y_wrong)
    (hp : ∀ lc a tr, sl_out L (o ++ [x]) lc a tr → post (y_types, y_byteCount, y_writtenCount, y_numberCount, lc, y_values, y_depth, y_records, y_at, tr, y_todo, y_kind, y_of, y_parts, y_fallback, y_name, y_part, y_alias, y_given, y_has, y_bytes, y_written, y_numbers, a, y_valueType, y_start, y_child, y_last, y_next, y_value, y_open, y_come, y_left, y_todoValue, y_todoType, y_todoDefault, y_pair, y_whole)) : wpY_out post (y_types, y_byteCount, y_writtenCount, y_numberCount, y_listCount, y_values, y_depth, y_records, y_at, y_wrong, y_todo, y_kind, y_of, y_parts, y_fallback, y_name, y_part, y_alias, y_given, y_has, y_bytes, y_written, y_numbers, y_list, y_valueType, y_start, y_child, y_last, y_next, y_value, y_open, y_come, y_left, y_todoValue, y_todoType, y_todoDefault, y_pair, y_whole) x := by
  by_cases hl : L.length + o.length < 150
  · obtain ⟨rfl, rfl, h3⟩ := sl_outL h x hl
    have hn : ¬ L.length + o.length = 150 := by omega
    simp (disch := omega) only [wpY_out, wY_out_23, hn, forall_eq, nI_leI, nI_ltI, nI_eq, vp_in_nI, nI_clamp, nI_1, li_e0, li_f0, li_l0, li_g0, li_m0, li_h0, li_e1, li_f1, li_l1, li_g1, li_m1, li_h1, li_e2, li_f2, li_l2, li_g2, li_m2, li_h2, li_e3, li_f3, li_l3, li_g3, li_m3, li_h3, li_e4, li_f4, li_l4, li_g4, li_m4, li_h4, li_e5, li_f5, li_l5, li_g5, li_m5, li_h5, li_e6, li_f6, li_l6, li_g6, li_m6, li_h6, li_e7, li_f7, li_l7, li_g7, li_m7, li_h7, li_e8, li_f8, li_l8, li_g8, li_m8, li_h8, li_e9, li_f9, li_l9, li_g9, li_m9, li_h9, li_e10, li_f10, li_l10, li_g10, li_m10, li_h10, li_e15, li_f15, li_l15, li_g15, li_m15, li_h15, li_e16, li_f16, li_l16, li_g16, li_m16, li_h16, li_e20, li_f20, li_l20, li_g20, li_m20, li_h20, li_e40, li_f40, li_l40, li_g40, li_m40, li_h40, li_e100, li_f100, li_l100, li_g100, li_m100, li_h100, li_e128, li_f128, li_l128, li_g128, li_m128, li_h128, li_e150, li_f150, li_l150, li_g150, li_m150, li_h150, li_e255, li_f255, li_l255, li_g255, li_m255, li_h255, li_e400, li_f400, li_l400, li_g400, li_m400, li_h400, li_e410, li_f410, li_l410, li_g410, li_m410, li_h410, li_e420, li_f420, li_l420, li_g420, li_m420, li_h420, li_e2000, li_f2000, li_l2000, li_g2000, li_m2000, li_h2000, li_e8200, li_f8200, li_l8200, li_g8200, li_m8200, li_h8200, li_e1000000, li_f1000000, li_l1000000, li_g1000000, li_m1000000, li_h1000000, li_50, li_50', li_200, li_200', nI_add, li_s1, li_t1, li_c1, li_c2, li_c3, li_c4, li_c5, li_c6, li_c7, li_c8, li_c9, li_c10, li_c11, li_c12, li_c13, li_c14, li_c15, sg_Kat, sg_Pat, pk_us, pk_uLs, true_implies, forall_const, not_true_eq_false, not_false_eq_true, false_implies, and_true, true_and, implies_true, and_self, if_true, if_false, ite_true, ite_false, reduceIte, eq_self, Nat.reduceEqDiff, Nat.reduceLeDiff, Nat.reduceLT, Int32.reduceLT, Int32.reduceLE]
    exact hp _ _ _ h3
  · obtain ⟨rfl, h2, h3⟩ := sl_outF h x (by omega)
    rcases h2 with rfl | rfl
    · simp (disch := omega) only [wpY_out, wY_out_23, Nat.le_refl, forall_eq, nI_leI, nI_ltI, nI_eq, vp_in_nI, nI_clamp, nI_1, li_e0, li_f0, li_l0, li_g0, li_m0, li_h0, li_e1, li_f1, li_l1, li_g1, li_m1, li_h1, li_e2, li_f2, li_l2, li_g2, li_m2, li_h2, li_e3, li_f3, li_l3, li_g3, li_m3, li_h3, li_e4, li_f4, li_l4, li_g4, li_m4, li_h4, li_e5, li_f5, li_l5, li_g5, li_m5, li_h5, li_e6, li_f6, li_l6, li_g6, li_m6, li_h6, li_e7, li_f7, li_l7, li_g7, li_m7, li_h7, li_e8, li_f8, li_l8, li_g8, li_m8, li_h8, li_e9, li_f9, li_l9, li_g9, li_m9, li_h9, li_e10, li_f10, li_l10, li_g10, li_m10, li_h10, li_e15, li_f15, li_l15, li_g15, li_m15, li_h15, li_e16, li_f16, li_l16, li_g16, li_m16, li_h16, li_e20, li_f20, li_l20, li_g20, li_m20, li_h20, li_e40, li_f40, li_l40, li_g40, li_m40, li_h40, li_e100, li_f100, li_l100, li_g100, li_m100, li_h100, li_e128, li_f128, li_l128, li_g128, li_m128, li_h128, li_e150, li_f150, li_l150, li_g150, li_m150, li_h150, li_e255, li_f255, li_l255, li_g255, li_m255, li_h255, li_e400, li_f400, li_l400, li_g400, li_m400, li_h400, li_e410, li_f410, li_l410, li_g410, li_m410, li_h410, li_e420, li_f420, li_l420, li_g420, li_m420, li_h420, li_e2000, li_f2000, li_l2000, li_g2000, li_m2000, li_h2000, li_e8200, li_f8200, li_l8200, li_g8200, li_m8200, li_h8200, li_e1000000, li_f1000000, li_l1000000, li_g1000000, li_m1000000, li_h1000000, li_50, li_50', li_200, li_200', nI_add, li_s1, li_t1, li_c1, li_c2, li_c3, li_c4, li_c5, li_c6, li_c7, li_c8, li_c9, li_c10, li_c11, li_c12, li_c13, li_c14, li_c15, sg_Kat, sg_Pat, pk_us, pk_uLs, true_implies, forall_const, not_true_eq_false, not_false_eq_true, false_implies, and_true, true_and, implies_true, and_self, if_true, if_false, ite_true, ite_false, reduceIte, eq_self, Nat.reduceEqDiff, Nat.reduceLeDiff, Nat.reduceLT, Int32.reduceLT, Int32.reduceLE]
      exact hp _ _ _ (h3 _)
    · simp (disch := omega) only [wpY_out, wY_out_23, Nat.le_refl, forall_eq, nI_leI, nI_ltI, nI_eq, vp_in_nI, nI_clamp, nI_1, li_e0, li_f0, li_l0, li_g0, li_m0, li_h0, li_e1, li_f1, li_l1, li_g1, li_m1, li_h1, li_e2, li_f2, li_l2, li_g2, li_m2, li_h2, li_e3, li_f3, li_l3, li_g3, li_m3, li_h3, li_e4, li_f4, li_l4, li_g4, li_m4, li_h4, li_e5, li_f5, li_l5, li_g5, li_m5, li_h5, li_e6, li_f6, li_l6, li_g6, li_m6, li_h6, li_e7, li_f7, li_l7, li_g7, li_m7, li_h7, li_e8, li_f8, li_l8, li_g8, li_m8, li_h8, li_e9, li_f9, li_l9, li_g9, li_m9, li_h9, li_e10, li_f10, li_l10, li_g10, li_m10, li_h10, li_e15, li_f15, li_l15, li_g15, li_m15, li_h15, li_e16, li_f16, li_l16, li_g16, li_m16, li_h16, li_e20, li_f20, li_l20, li_g20, li_m20, li_h20, li_e40, li_f40, li_l40, li_g40, li_m40, li_h40, li_e100, li_f100, li_l100, li_g100, li_m100, li_h100, li_e128, li_f128, li_l128, li_g128, li_m128, li_h128, li_e150, li_f150, li_l150, li_g150, li_m150, li_h150, li_e255, li_f255, li_l255, li_g255, li_m255, li_h255, li_e400, li_f400, li_l400, li_g400, li_m400, li_h400, li_e410, li_f410, li_l410, li_g410, li_m410, li_h410, li_e420, li_f420, li_l420, li_g420, li_m420, li_h420, li_e2000, li_f2000, li_l2000, li_g2000, li_m2000, li_h2000, li_e8200, li_f8200, li_l8200, li_g8200, li_m8200, li_h8200, li_e1000000, li_f1000000, li_l1000000, li_g1000000, li_m1000000, li_h1000000, li_50, li_50', li_200, li_200', nI_add, li_s1, li_t1, li_c1, li_c2, li_c3, li_c4, li_c5, li_c6, li_c7, li_c8, li_c9, li_c10, li_c11, li_c12, li_c13, li_c14, li_c15, sg_Kat, sg_Pat, pk_us, pk_uLs, true_implies, forall_const, not_true_eq_false, not_false_eq_true, false_implies, and_true, true_and, implies_true, and_self, if_true, if_false, ite_true, ite_false, reduceIte, eq_self, Nat.reduceEqDiff, Nat.reduceLeDiff, Nat.reduceLT, Int32.reduceLT, Int32.reduceLE]
      exact hp _ _ _ (h3 _)
theorem yl_outTr {x : Int64} (h : ¬ y_wrong = 0) (hp : post (y_types, y_byteCount, y_writtenCount, y_numberCount, y_listCount, y_values, y_depth, y_records, y_at, y_wrong, y_todo, y_kind, y_of, y_parts, y_fallback, y_name, y_part, y_alias, y_given, y_has, y_bytes, y_written, y_numbers, y_list, y_valueType, y_start, y_child, y_last, y_next, y_value, y_open, y_come, y_left, y_todoValue, y_todoType, y_todoDefault, y_pair, y_whole)) : wpY_out post (y_types, y_byteCount, y_writtenCount, y_numberCount, y_listCount, y_values, y_depth, y_records, y_at, y_wrong, y_todo, y_kind, y_of, y_parts, y_fallback, y_name, y_part, y_alias, y_given, y_has, y_bytes, y_written, y_numbers, y_list, y_valueType, y_start, y_child, y_last, y_next, y_value, y_open, y_come, y_left, y_todoValue, y_todoType, y_todoDefault, y_pair, y_whole) x := by
  simp (disch := omega) only [wpY_out, wY_out_23, h, forall_eq, nI_leI, nI_ltI, nI_eq, vp_in_nI, nI_clamp, nI_1, li_e0, li_f0, li_l0, li_g0, li_m0, li_h0, li_e1, li_f1, li_l1, li_g1, li_m1, li_h1, li_e2, li_f2, li_l2, li_g2, li_m2, li_h2, li_e3, li_f3, li_l3, li_g3, li_m3, li_h3, li_e4, li_f4, li_l4, li_g4, li_m4, li_h4, li_e5, li_f5, li_l5, li_g5, li_m5, li_h5, li_e6, li_f6, li_l6, li_g6, li_m6, li_h6, li_e7, li_f7, li_l7, li_g7, li_m7, li_h7, li_e8, li_f8, li_l8, li_g8, li_m8, li_h8, li_e9, li_f9, li_l9, li_g9, li_m9, li_h9, li_e10, li_f10, li_l10, li_g10, li_m10, li_h10, li_e15, li_f15, li_l15, li_g15, li_m15, li_h15, li_e16, li_f16, li_l16, li_g16, li_m16, li_h16, li_e20, li_f20, li_l20, li_g20, li_m20, li_h20, li_e40, li_f40, li_l40, li_g40, li_m40, li_h40, li_e100, li_f100, li_l100, li_g100, li_m100, li_h100, li_e128, li_f128, li_l128, li_g128, li_m128, li_h128, li_e150, li_f150, li_l150, li_g150, li_m150, li_h150, li_e255, li_f255, li_l255, li_g255, li_m255, li_h255, li_e400, li_f400, li_l400, li_g400, li_m400, li_h400, li_e410, li_f410, li_l410, li_g410, li_m410, li_h410, li_e420, li_f420, li_l420, li_g420, li_m420, li_h420, li_e2000, li_f2000, li_l2000, li_g2000, li_m2000, li_h2000, li_e8200, li_f8200, li_l8200, li_g8200, li_m8200, li_h8200, li_e1000000, li_f1000000, li_l1000000, li_g1000000, li_m1000000, li_h1000000, li_50, li_50', li_200, li_200', nI_add, li_s1, li_t1, li_c1, li_c2, li_c3, li_c4, li_c5, li_c6, li_c7, li_c8, li_c9, li_c10, li_c11, li_c12, li_c13, li_c14, li_c15, sg_Kat, sg_Pat, pk_us, pk_uLs, true_implies, forall_const, not_true_eq_false, not_false_eq_true, false_implies, and_true, true_and, implies_true, and_self, if_true, if_false, ite_true, ite_false, reduceIte, eq_self, Nat.reduceEqDiff, Nat.reduceLeDiff, Nat.reduceLT, Int32.reduceLT, Int32.reduceLE]
  exact hp
theorem yl_later {T : Nat} {a1 a2 a3 : Int32} (hT : T < 2000) (hp : post (y_types, y_byteCount, y_writtenCount, y_numberCount, y_listCount, y_values, y_depth, y_records, y_at, y_wrong, nI (T + 1), y_kind, y_of, y_parts, y_fallback, y_name, y_part, y_alias, y_given, y_has, y_bytes, y_written, y_numbers, y_list, y_valueType, y_start, y_child, y_last, y_next, y_value, y_open, y_come, y_left, upd y_todoValue T a1, upd y_todoType T a2, upd y_todoDefault T a3, y_pair, y_whole)) : wpY_later post (y_types, y_byteCount, y_writtenCount, y_numberCount, y_listCount, y_values, y_depth, y_records, y_at, y_wrong, nI T, y_kind, y_of, y_parts, y_fallback, y_name, y_part, y_alias, y_given, y_has, y_bytes, y_written, y_numbers, y_list, y_valueType, y_start, y_child, y_last, y_next, y_value, y_open, y_come, y_left, y_todoValue, y_todoType, y_todoDefault, y_pair, y_whole) a1 a2 a3 := by
  simp (disch := omega) only [wpY_later, forall_eq, nI_leI, nI_ltI, nI_eq, vp_in_nI, nI_clamp, nI_1, li_e0, li_f0, li_l0, li_g0, li_m0, li_h0, li_e1, li_f1, li_l1, li_g1, li_m1, li_h1, li_e2, li_f2, li_l2, li_g2, li_m2, li_h2, li_e3, li_f3, li_l3, li_g3, li_m3, li_h3, li_e4, li_f4, li_l4, li_g4, li_m4, li_h4, li_e5, li_f5, li_l5, li_g5, li_m5, li_h5, li_e6, li_f6, li_l6, li_g6, li_m6, li_h6, li_e7, li_f7, li_l7, li_g7, li_m7, li_h7, li_e8, li_f8, li_l8, li_g8, li_m8, li_h8, li_e9, li_f9, li_l9, li_g9, li_m9, li_h9, li_e10, li_f10, li_l10, li_g10, li_m10, li_h10, li_e15, li_f15, li_l15, li_g15, li_m15, li_h15, li_e16, li_f16, li_l16, li_g16, li_m16, li_h16, li_e20, li_f20, li_l20, li_g20, li_m20, li_h20, li_e40, li_f40, li_l40, li_g40, li_m40, li_h40, li_e100, li_f100, li_l100, li_g100, li_m100, li_h100, li_e128, li_f128, li_l128, li_g128, li_m128, li_h128, li_e150, li_f150, li_l150, li_g150, li_m150, li_h150, li_e255, li_f255, li_l255, li_g255, li_m255, li_h255, li_e400, li_f400, li_l400, li_g400, li_m400, li_h400, li_e410, li_f410, li_l410, li_g410, li_m410, li_h410, li_e420, li_f420, li_l420, li_g420, li_m420, li_h420, li_e2000, li_f2000, li_l2000, li_g2000, li_m2000, li_h2000, li_e8200, li_f8200, li_l8200, li_g8200, li_m8200, li_h8200, li_e1000000, li_f1000000, li_l1000000, li_g1000000, li_m1000000, li_h1000000, li_50, li_50', li_200, li_200', nI_add, li_s1, li_t1, li_c1, li_c2, li_c3, li_c4, li_c5, li_c6, li_c7, li_c8, li_c9, li_c10, li_c11, li_c12, li_c13, li_c14, li_c15, sg_Kat, sg_Pat, pk_us, pk_uLs, true_implies, forall_const, not_true_eq_false, not_false_eq_true, false_implies, and_true, true_and, implies_true, and_self, if_true, if_false, ite_true, ite_false, reduceIte, eq_self, Nat.reduceEqDiff, Nat.reduceLeDiff, Nat.reduceLT, Int32.reduceLT, Int32.reduceLE]
  exact hp
/-- a RECORD begins: the mark is laid -/
theorem yl_enter {T R : Nat} {rest : List sr_I} (hT : T < 2000) (hR : R < 1000) (eT : T = rest.length) (hd : sy_do y_todoValue y_todoType y_todoDefault rest)
    (hp : ∀ tv tt td, sy_do tv tt td ((2, 0, 0, 0) :: rest) → post (y_types, y_byteCount, y_writtenCount, y_numberCount, y_listCount, y_values, y_depth, nI (R + 1), y_at, if y_wrong = 0 then (if R = 10 then -5 else 0) else y_wrong, nI (T + 1), y_kind, y_of, y_parts, y_fallback, y_name, y_part, y_alias, y_given, y_has, y_bytes, y_written, y_numbers, y_list, y_valueType, y_start, y_child, y_last, y_next, y_value, y_open, y_come, y_left, tv, tt, td, y_pair, y_whole)) : wpY_enter post (y_types, y_byteCount, y_writtenCount, y_numberCount, y_listCount, y_values, y_depth, nI R, y_at, y_wrong, nI T, y_kind, y_of, y_parts, y_fallback, y_name, y_part, y_alias, y_given, y_has, y_bytes, y_written, y_numbers, y_list, y_valueType, y_start, y_child, y_last, y_next, y_value, y_open, y_come, y_left, y_todoValue, y_todoType, y_todoDefault, y_pair, y_whole) := by
  have hd2 : sy_do (upd y_todoValue T (-2)) (upd y_todoType T 0) (upd y_todoDefault T 0) ((2, 0, 0, 0) :: rest) := by
    subst eT
    exact sy_do_push hd (2, 0, 0, 0) ⟨fun z => absurd z (by decide), fun z => absurd z (by decide), fun _ => rfl, fun _ _ z => absurd rfl z⟩
  have h2 := hp _ _ _ hd2
  by_cases hw : y_wrong = 0
  · subst hw
    rw [if_pos rfl] at h2
    by_cases h10 : R = 10
    · subst h10
      rw [if_pos rfl] at h2
      simp (disch := omega) only [wpY_enter, wY_enter_22, forall_eq, nI_leI, nI_ltI, nI_eq, vp_in_nI, nI_clamp, nI_1, li_e0, li_f0, li_l0, li_g0, li_m0, li_h0, li_e1, li_f1, li_l1, li_g1, li_m1, li_h1, li_e2, li_f2, li_l2, li_g2, li_m2, li_h2, li_e3, li_f3, li_l3, li_g3, li_m3, li_h3, li_e4, li_f4, li_l4, li_g4, li_m4, li_h4, li_e5, li_f5, li_l5, li_g5, li_m5, li_h5, li_e6, li_f6, li_l6, li_g6, li_m6, li_h6, li_e7, li_f7, li_l7, li_g7, li_m7, li_h7, li_e8, li_f8, li_l8, li_g8, li_m8, li_h8, li_e9, li_f9, li_l9, li_g9, li_m9, li_h9, li_e10, li_f10, li_l10, li_g10, li_m10, li_h10, li_e15, li_f15, li_l15, li_g15, li_m15, li_h15, li_e16, li_f16, li_l16, li_g16, li_m16, li_h16, li_e20, li_f20, li_l20, li_g20, li_m20, li_h20, li_e40, li_f40, li_l40, li_g40, li_m40, li_h40, li_e100, li_f100, li_l100, li_g100, li_m100, li_h100, li_e128, li_f128, li_l128, li_g128, li_m128, li_h128, li_e150, li_f150, li_l150, li_g150, li_m150, li_h150, li_e255, li_f255, li_l255, li_g255, li_m255, li_h255, li_e400, li_f400, li_l400, li_g400, li_m400, li_h400, li_e410, li_f410, li_l410, li_g410, li_m410, li_h410, li_e420, li_f420, li_l420, li_g420, li_m420, li_h420, li_e2000, li_f2000, li_l2000, li_g2000, li_m2000, li_h2000, li_e8200, li_f8200, li_l8200, li_g8200, li_m8200, li_h8200, li_e1000000, li_f1000000, li_l1000000, li_g1000000, li_m1000000, li_h1000000, li_50, li_50', li_200, li_200', nI_add, li_s1, li_t1, li_c1, li_c2, li_c3, li_c4, li_c5, li_c6, li_c7, li_c8, li_c9, li_c10, li_c11, li_c12, li_c13, li_c14, li_c15, sg_Kat, sg_Pat, pk_us, pk_uLs, true_implies, forall_const, not_true_eq_false, not_false_eq_true, false_implies, and_true, true_and, implies_true, and_self, if_true, if_false, ite_true, ite_false, reduceIte, eq_self, Nat.reduceEqDiff, Nat.reduceLeDiff, Nat.reduceLT, Int32.reduceLT, Int32.reduceLE]
      exact yl_later hT h2
    · rw [if_neg h10] at h2
      simp (disch := omega) only [wpY_enter, wY_enter_22, h10, forall_eq, nI_leI, nI_ltI, nI_eq, vp_in_nI, nI_clamp, nI_1, li_e0, li_f0, li_l0, li_g0, li_m0, li_h0, li_e1, li_f1, li_l1, li_g1, li_m1, li_h1, li_e2, li_f2, li_l2, li_g2, li_m2, li_h2, li_e3, li_f3, li_l3, li_g3, li_m3, li_h3, li_e4, li_f4, li_l4, li_g4, li_m4, li_h4, li_e5, li_f5, li_l5, li_g5, li_m5, li_h5, li_e6, li_f6, li_l6, li_g6, li_m6, li_h6, li_e7, li_f7, li_l7, li_g7, li_m7, li_h7, li_e8, li_f8, li_l8, li_g8, li_m8, li_h8, li_e9, li_f9, li_l9, li_g9, li_m9, li_h9, li_e10, li_f10, li_l10, li_g10, li_m10, li_h10, li_e15, li_f15, li_l15, li_g15, li_m15, li_h15, li_e16, li_f16, li_l16, li_g16, li_m16, li_h16, li_e20, li_f20, li_l20, li_g20, li_m20, li_h20, li_e40, li_f40, li_l40, li_g40, li_m40, li_h40, li_e100, li_f100, li_l100, li_g100, li_m100, li_h100, li_e128, li_f128, li_l128, li_g128, li_m128, li_h128, li_e150, li_f150, li_l150, li_g150, li_m150, li_h150, li_e255, li_f255, li_l255, li_g255, li_m255, li_h255, li_e400, li_f400, li_l400, li_g400, li_m400, li_h400, li_e410, li_f410, li_l410, li_g410, li_m410, li_h410, li_e420, li_f420, li_l420, li_g420, li_m420, li_h420, li_e2000, li_f2000, li_l2000, li_g2000, li_m2000, li_h2000, li_e8200, li_f8200, li_l8200, li_g8200, li_m8200, li_h8200, li_e1000000, li_f1000000, li_l1000000, li_g1000000, li_m1000000, li_h1000000, li_50, li_50', li_200, li_200', nI_add, li_s1, li_t1, li_c1, li_c2, li_c3, li_c4, li_c5, li_c6, li_c7, li_c8, li_c9, li_c10, li_c11, li_c12, li_c13, li_c14, li_c15, sg_Kat, sg_Pat, pk_us, pk_uLs, true_implies, forall_const, not_true_eq_false, not_false_eq_true, false_implies, and_true, true_and, implies_true, and_self, if_true, if_false, ite_true, ite_false, reduceIte, eq_self, Nat.reduceEqDiff, Nat.reduceLeDiff, Nat.reduceLT, Int32.reduceLT, Int32.reduceLE]
      exact yl_later hT h2
  · rw [if_neg hw] at h2
    simp (disch := omega) only [wpY_enter, wY_enter_22, hw, forall_eq, nI_leI, nI_ltI, nI_eq, vp_in_nI, nI_clamp, nI_1, li_e0, li_f0, li_l0, li_g0, li_m0, li_h0, li_e1, li_f1, li_l1, li_g1, li_m1, li_h1, li_e2, li_f2, li_l2, li_g2, li_m2, li_h2, li_e3, li_f3, li_l3, li_g3, li_m3, li_h3, li_e4, li_f4, li_l4, li_g4, li_m4, li_h4, li_e5, li_f5, li_l5, li_g5, li_m5, li_h5, li_e6, li_f6, li_l6, li_g6, li_m6, li_h6, li_e7, li_f7, li_l7, li_g7, li_m7, li_h7, li_e8, li_f8, li_l8, li_g8, li_m8, li_h8, li_e9, li_f9, li_l9, li_g9, li_m9, li_h9, li_e10, li_f10, li_l10, li_g10, li_m10, li_h10, li_e15, li_f15, li_l15, li_g15, li_m15, li_h15, li_e16, li_f16, li_l16, li_g16, li_m16, li_h16, li_e20, li_f20, li_l20, li_g20, li_m20, li_h20, li_e40, li_f40, li_l40, li_g40, li_m40, li_h40, li_e100, li_f100, li_l100, li_g100, li_m100, li_h100, li_e128, li_f128, li_l128, li_g128, li_m128, li_h128, li_e150, li_f150, li_l150, li_g150, li_m150, li_h150, li_e255, li_f255, li_l255, li_g255, li_m255, li_h255, li_e400, li_f400, li_l400, li_g400, li_m400, li_h400, li_e410, li_f410, li_l410, li_g410, li_m410, li_h410, li_e420, li_f420, li_l420, li_g420, li_m420, li_h420, li_e2000, li_f2000, li_l2000, li_g2000, li_m2000, li_h2000, li_e8200, li_f8200, li_l8200, li_g8200, li_m8200, li_h8200, li_e1000000, li_f1000000, li_l1000000, li_g1000000, li_m1000000, li_h1000000, li_50, li_50', li_200, li_200', nI_add, li_s1, li_t1, li_c1, li_c2, li_c3, li_c4, li_c5, li_c6, li_c7, li_c8, li_c9, li_c10, li_c11, li_c12, li_c13, li_c14, li_c15, sg_Kat, sg_Pat, pk_us, pk_uLs, true_implies, forall_const, not_true_eq_false, not_false_eq_true, false_implies, and_true, true_and, implies_true, and_self, if_true, if_false, ite_true, ite_false, reduceIte, eq_self, Nat.reduceEqDiff, Nat.reduceLeDiff, Nat.reduceLT, Int32.reduceLT, Int32.reduceLE]
    exact yl_later hT h2
theorem yl_cell1 {t : Nat} {x : Int32} : sy_cell (1, 0, t, x) (-1) (nI t) x := ⟨fun z => absurd (show (1 : Nat) = 0 from z) (by decide), fun _ => ⟨rfl, rfl, rfl⟩, fun z => absurd (show (1 : Nat) = 2 from z) (by decide), fun _ z => absurd rfl z⟩
theorem yl_cell3 {t x : Int32} : sy_cell (3, 0, 0, 0) (-3) t x := ⟨fun z => absurd z (by decide), fun z => absurd z (by decide), fun z => absurd z (by decide), fun _ _ _ => rfl⟩
theorem yl_cell0 {v t : Nat} {x : Int32} : sy_cell (0, v, t, 0) (nI v) (nI t) x := ⟨fun _ => ⟨rfl, rfl⟩, fun z => absurd (show (0 : Nat) = 1 from z) (by decide), fun z => absurd (show (0 : Nat) = 2 from z) (by decide), fun z => absurd rfl z⟩
/-- the fields of a default -/
theorem yl_fieldsD (hg : sg_ok g) (hY : sg_Y g y_of y_name y_part y_alias y_has y_given) {t v : Nat} {rest : List sr_I} (htn : t < sg_n g) (h9 : sg_k g t = 9) (hv : ¬ v < 400) (hb : rest.length + 7 ≤ 2000)
    (hp : ∀ tv tt td, sy_do tv tt td (sr_fs g w v t (sg_p g t) 0 ++ rest) → post (nI (sg_n g), y_byteCount, y_writtenCount, y_numberCount, y_listCount, y_values, y_depth, y_records, y_at, y_wrong, nI (rest.length + 1 + sg_p g t), sg_K g, y_of, sg_P g, sg_f g, y_name, y_part, y_alias, y_given, y_has, y_bytes, y_written, y_numbers, y_list, y_valueType, y_start, y_child, y_last, y_next, y_value, y_open, y_come, y_left, tv, tt, td, y_pair, y_whole)) :
    ∀ (k l : Nat) (tv tt td : Nat → Int32), k + l = sg_p g t → sy_do tv tt td (sr_fs g w v t l k ++ rest) → wY_byDefault_243 post (nI t) (k + 1) (nI k - 1) (nI (sg_n g)) y_byteCount y_writtenCount y_numberCount y_listCount y_values y_depth y_records y_at y_wrong (nI (rest.length + 1 + l)) (sg_K g) y_of (sg_P g) (sg_f g) y_name y_part y_alias y_given y_has y_bytes y_written y_numbers y_list y_valueType y_start y_child y_last y_next y_value y_open y_come y_left tv tt td y_pair y_whole := by
  have hn := hg.1
  have p5 := hg.2.2.1 t
  have e1 : (nI 0 - 1 : Int32) < 0 := by decide
  intro k
  induction k with
  | zero =>
    intro l tv tt td hl hd
    have e2 : l = sg_p g t := by omega
    subst e2
    rw [wY_byDefault_243]
    simp (disch := omega) only [e1, forall_eq, nI_leI, nI_ltI, nI_eq, vp_in_nI, nI_clamp, nI_1, li_e0, li_f0, li_l0, li_g0, li_m0, li_h0, li_e1, li_f1, li_l1, li_g1, li_m1, li_h1, li_e2, li_f2, li_l2, li_g2, li_m2, li_h2, li_e3, li_f3, li_l3, li_g3, li_m3, li_h3, li_e4, li_f4, li_l4, li_g4, li_m4, li_h4, li_e5, li_f5, li_l5, li_g5, li_m5, li_h5, li_e6, li_f6, li_l6, li_g6, li_m6, li_h6, li_e7, li_f7, li_l7, li_g7, li_m7, li_h7, li_e8, li_f8, li_l8, li_g8, li_m8, li_h8, li_e9, li_f9, li_l9, li_g9, li_m9, li_h9, li_e10, li_f10, li_l10, li_g10, li_m10, li_h10, li_e15, li_f15, li_l15, li_g15, li_m15, li_h15, li_e16, li_f16, li_l16, li_g16, li_m16, li_h16, li_e20, li_f20, li_l20, li_g20, li_m20, li_h20, li_e40, li_f40, li_l40, li_g40, li_m40, li_h40, li_e100, li_f100, li_l100, li_g100, li_m100, li_h100, li_e128, li_f128, li_l128, li_g128, li_m128, li_h128, li_e150, li_f150, li_l150, li_g150, li_m150, li_h150, li_e255, li_f255, li_l255, li_g255, li_m255, li_h255, li_e400, li_f400, li_l400, li_g400, li_m400, li_h400, li_e410, li_f410, li_l410, li_g410, li_m410, li_h410, li_e420, li_f420, li_l420, li_g420, li_m420, li_h420, li_e2000, li_f2000, li_l2000, li_g2000, li_m2000, li_h2000, li_e8200, li_f8200, li_l8200, li_g8200, li_m8200, li_h8200, li_e1000000, li_f1000000, li_l1000000, li_g1000000, li_m1000000, li_h1000000, li_50, li_50', li_200, li_200', nI_add, li_s1, li_t1, li_c1, li_c2, li_c3, li_c4, li_c5, li_c6, li_c7, li_c8, li_c9, li_c10, li_c11, li_c12, li_c13, li_c14, li_c15, sg_Kat, sg_Pat, pk_us, pk_uLs, true_implies, forall_const, not_true_eq_false, not_false_eq_true, false_implies, and_true, true_and, implies_true, and_self, if_true, if_false, ite_true, ite_false, reduceIte, eq_self, Nat.reduceEqDiff, Nat.reduceLeDiff, Nat.reduceLT, Int32.reduceLT, Int32.reduceLE]
    exact hp tv tt td hd
  | succ k ih =>
    intro l tv tt td hl hd
    have e2 : nI (k + 1) - 1 = nI k := nI_pred k
    have e3 : ¬ nI k < 0 := nI_pos (by omega)
    have e4 : nI k + (-1) = nI k - 1 := by rw [Int32.sub_eq_add_neg]
    have eT := hY.2.2.1 t k htn (by omega) (by omega)
    obtain ⟨eA, eH, eV⟩ := hY.2.2.2.1 t k htn (by omega) h9
    have efi : sr_fi g w v t k = sr_dfi g (5 * t + k) := by
      unfold sr_fi
      rw [if_neg hv]
    have hlen : (sr_fs g w v t l (k + 1) ++ rest).length = rest.length + 1 + l := by
      rw [List.length_append, sr_fs_len]; omega
    have etd : nI (rest.length + 1 + l + 1) = nI (rest.length + 1 + (l + 1)) := rfl
    rw [wY_byDefault_243]
    by_cases hh : sg_h g (5 * t + k) = 0
    · simp (disch := omega) only [e2, e3, eH, hh, wY_byDefault_267, eT, eV, forall_eq, nI_leI, nI_ltI, nI_eq, vp_in_nI, nI_clamp, nI_1, li_e0, li_f0, li_l0, li_g0, li_m0, li_h0, li_e1, li_f1, li_l1, li_g1, li_m1, li_h1, li_e2, li_f2, li_l2, li_g2, li_m2, li_h2, li_e3, li_f3, li_l3, li_g3, li_m3, li_h3, li_e4, li_f4, li_l4, li_g4, li_m4, li_h4, li_e5, li_f5, li_l5, li_g5, li_m5, li_h5, li_e6, li_f6, li_l6, li_g6, li_m6, li_h6, li_e7, li_f7, li_l7, li_g7, li_m7, li_h7, li_e8, li_f8, li_l8, li_g8, li_m8, li_h8, li_e9, li_f9, li_l9, li_g9, li_m9, li_h9, li_e10, li_f10, li_l10, li_g10, li_m10, li_h10, li_e15, li_f15, li_l15, li_g15, li_m15, li_h15, li_e16, li_f16, li_l16, li_g16, li_m16, li_h16, li_e20, li_f20, li_l20, li_g20, li_m20, li_h20, li_e40, li_f40, li_l40, li_g40, li_m40, li_h40, li_e100, li_f100, li_l100, li_g100, li_m100, li_h100, li_e128, li_f128, li_l128, li_g128, li_m128, li_h128, li_e150, li_f150, li_l150, li_g150, li_m150, li_h150, li_e255, li_f255, li_l255, li_g255, li_m255, li_h255, li_e400, li_f400, li_l400, li_g400, li_m400, li_h400, li_e410, li_f410, li_l410, li_g410, li_m410, li_h410, li_e420, li_f420, li_l420, li_g420, li_m420, li_h420, li_e2000, li_f2000, li_l2000, li_g2000, li_m2000, li_h2000, li_e8200, li_f8200, li_l8200, li_g8200, li_m8200, li_h8200, li_e1000000, li_f1000000, li_l1000000, li_g1000000, li_m1000000, li_h1000000, li_50, li_50', li_200, li_200', nI_add, li_s1, li_t1, li_c1, li_c2, li_c3, li_c4, li_c5, li_c6, li_c7, li_c8, li_c9, li_c10, li_c11, li_c12, li_c13, li_c14, li_c15, sg_Kat, sg_Pat, pk_us, pk_uLs, true_implies, forall_const, not_true_eq_false, not_false_eq_true, false_implies, and_true, true_and, implies_true, and_self, if_true, if_false, ite_true, ite_false, reduceIte, eq_self, Nat.reduceEqDiff, Nat.reduceLeDiff, Nat.reduceLT, Int32.reduceLT, Int32.reduceLE]
      refine yl_later (by omega) ?_
      simp (disch := omega) only [e4, forall_eq, nI_leI, nI_ltI, nI_eq, vp_in_nI, nI_clamp, nI_1, li_e0, li_f0, li_l0, li_g0, li_m0, li_h0, li_e1, li_f1, li_l1, li_g1, li_m1, li_h1, li_e2, li_f2, li_l2, li_g2, li_m2, li_h2, li_e3, li_f3, li_l3, li_g3, li_m3, li_h3, li_e4, li_f4, li_l4, li_g4, li_m4, li_h4, li_e5, li_f5, li_l5, li_g5, li_m5, li_h5, li_e6, li_f6, li_l6, li_g6, li_m6, li_h6, li_e7, li_f7, li_l7, li_g7, li_m7, li_h7, li_e8, li_f8, li_l8, li_g8, li_m8, li_h8, li_e9, li_f9, li_l9, li_g9, li_m9, li_h9, li_e10, li_f10, li_l10, li_g10, li_m10, li_h10, li_e15, li_f15, li_l15, li_g15, li_m15, li_h15, li_e16, li_f16, li_l16, li_g16, li_m16, li_h16, li_e20, li_f20, li_l20, li_g20, li_m20, li_h20, li_e40, li_f40, li_l40, li_g40, li_m40, li_h40, li_e100, li_f100, li_l100, li_g100, li_m100, li_h100, li_e128, li_f128, li_l128, li_g128, li_m128, li_h128, li_e150, li_f150, li_l150, li_g150, li_m150, li_h150, li_e255, li_f255, li_l255, li_g255, li_m255, li_h255, li_e400, li_f400, li_l400, li_g400, li_m400, li_h400, li_e410, li_f410, li_l410, li_g410, li_m410, li_h410, li_e420, li_f420, li_l420, li_g420, li_m420, li_h420, li_e2000, li_f2000, li_l2000, li_g2000, li_m2000, li_h2000, li_e8200, li_f8200, li_l8200, li_g8200, li_m8200, li_h8200, li_e1000000, li_f1000000, li_l1000000, li_g1000000, li_m1000000, li_h1000000, li_50, li_50', li_200, li_200', nI_add, li_s1, li_t1, li_c1, li_c2, li_c3, li_c4, li_c5, li_c6, li_c7, li_c8, li_c9, li_c10, li_c11, li_c12, li_c13, li_c14, li_c15, sg_Kat, sg_Pat, pk_us, pk_uLs, true_implies, forall_const, not_true_eq_false, not_false_eq_true, false_implies, and_true, true_and, implies_true, and_self, if_true, if_false, ite_true, ite_false, reduceIte, eq_self, Nat.reduceEqDiff, Nat.reduceLeDiff, Nat.reduceLT, Int32.reduceLT, Int32.reduceLE]
      refine ih (l + 1) _ _ _ (by omega) ?_
      have h5 := sy_do_push hd (sr_fi g w v t k) (v := -3) (t := nI (sg_t g (5 * t + k))) (x := sg_v g (5 * t + k)) (by
        rw [efi, sr_dfi, if_pos hh]; exact yl_cell3)
      rw [hlen] at h5
      exact h5
    · simp (disch := omega) only [e2, e3, eH, hh, wY_byDefault_267, eT, eV, forall_eq, nI_leI, nI_ltI, nI_eq, vp_in_nI, nI_clamp, nI_1, li_e0, li_f0, li_l0, li_g0, li_m0, li_h0, li_e1, li_f1, li_l1, li_g1, li_m1, li_h1, li_e2, li_f2, li_l2, li_g2, li_m2, li_h2, li_e3, li_f3, li_l3, li_g3, li_m3, li_h3, li_e4, li_f4, li_l4, li_g4, li_m4, li_h4, li_e5, li_f5, li_l5, li_g5, li_m5, li_h5, li_e6, li_f6, li_l6, li_g6, li_m6, li_h6, li_e7, li_f7, li_l7, li_g7, li_m7, li_h7, li_e8, li_f8, li_l8, li_g8, li_m8, li_h8, li_e9, li_f9, li_l9, li_g9, li_m9, li_h9, li_e10, li_f10, li_l10, li_g10, li_m10, li_h10, li_e15, li_f15, li_l15, li_g15, li_m15, li_h15, li_e16, li_f16, li_l16, li_g16, li_m16, li_h16, li_e20, li_f20, li_l20, li_g20, li_m20, li_h20, li_e40, li_f40, li_l40, li_g40, li_m40, li_h40, li_e100, li_f100, li_l100, li_g100, li_m100, li_h100, li_e128, li_f128, li_l128, li_g128, li_m128, li_h128, li_e150, li_f150, li_l150, li_g150, li_m150, li_h150, li_e255, li_f255, li_l255, li_g255, li_m255, li_h255, li_e400, li_f400, li_l400, li_g400, li_m400, li_h400, li_e410, li_f410, li_l410, li_g410, li_m410, li_h410, li_e420, li_f420, li_l420, li_g420, li_m420, li_h420, li_e2000, li_f2000, li_l2000, li_g2000, li_m2000, li_h2000, li_e8200, li_f8200, li_l8200, li_g8200, li_m8200, li_h8200, li_e1000000, li_f1000000, li_l1000000, li_g1000000, li_m1000000, li_h1000000, li_50, li_50', li_200, li_200', nI_add, li_s1, li_t1, li_c1, li_c2, li_c3, li_c4, li_c5, li_c6, li_c7, li_c8, li_c9, li_c10, li_c11, li_c12, li_c13, li_c14, li_c15, sg_Kat, sg_Pat, pk_us, pk_uLs, true_implies, forall_const, not_true_eq_false, not_false_eq_true, false_implies, and_true, true_and, implies_true, and_self, if_true, if_false, ite_true, ite_false, reduceIte, eq_self, Nat.reduceEqDiff, Nat.reduceLeDiff, Nat.reduceLT, Int32.reduceLT, Int32.reduceLE]
      refine yl_later (by omega) ?_
      simp (disch := omega) only [e4, forall_eq, nI_leI, nI_ltI, nI_eq, vp_in_nI, nI_clamp, nI_1, li_e0, li_f0, li_l0, li_g0, li_m0, li_h0, li_e1, li_f1, li_l1, li_g1, li_m1, li_h1, li_e2, li_f2, li_l2, li_g2, li_m2, li_h2, li_e3, li_f3, li_l3, li_g3, li_m3, li_h3, li_e4, li_f4, li_l4, li_g4, li_m4, li_h4, li_e5, li_f5, li_l5, li_g5, li_m5, li_h5, li_e6, li_f6, li_l6, li_g6, li_m6, li_h6, li_e7, li_f7, li_l7, li_g7, li_m7, li_h7, li_e8, li_f8, li_l8, li_g8, li_m8, li_h8, li_e9, li_f9, li_l9, li_g9, li_m9, li_h9, li_e10, li_f10, li_l10, li_g10, li_m10, li_h10, li_e15, li_f15, li_l15, li_g15, li_m15, li_h15, li_e16, li_f16, li_l16, li_g16, li_m16, li_h16, li_e20, li_f20, li_l20, li_g20, li_m20, li_h20, li_e40, li_f40, li_l40, li_g40, li_m40, li_h40, li_e100, li_f100, li_l100, li_g100, li_m100, li_h100, li_e128, li_f128, li_l128, li_g128, li_m128, li_h128, li_e150, li_f150, li_l150, li_g150, li_m150, li_h150, li_e255, li_f255, li_l255, li_g255, li_m255, li_h255, li_e400, li_f400, li_l400, li_g400, li_m400, li_h400, li_e410, li_f410, li_l410, li_g410, li_m410, li_h410, li_e420, li_f420, li_l420, li_g420, li_m420, li_h420, li_e2000, li_f2000, li_l2000, li_g2000, li_m2000, li_h2000, li_e8200, li_f8200, li_l8200, li_g8200, li_m8200, li_h8200, li_e1000000, li_f1000000, li_l1000000, li_g1000000, li_m1000000, li_h1000000, li_50, li_50', li_200, li_200', nI_add, li_s1, li_t1, li_c1, li_c2, li_c3, li_c4, li_c5, li_c6, li_c7, li_c8, li_c9, li_c10, li_c11, li_c12, li_c13, li_c14, li_c15, sg_Kat, sg_Pat, pk_us, pk_uLs, true_implies, forall_const, not_true_eq_false, not_false_eq_true, false_implies, and_true, true_and, implies_true, and_self, if_true, if_false, ite_true, ite_false, reduceIte, eq_self, Nat.reduceEqDiff, Nat.reduceLeDiff, Nat.reduceLT, Int32.reduceLT, Int32.reduceLE]
      refine ih (l + 1) _ _ _ (by omega) ?_
      have h5 := sy_do_push hd (sr_fi g w v t k) (v := -1) (t := nI (sg_t g (5 * t + k))) (x := sg_v g (5 * t + k)) (by
        rw [efi, sr_dfi, if_neg hh]; exact yl_cell1)
      rw [hlen] at h5
      exact h5
end
end
section
/-! the reference's resolving: a value that was read -/
section
variable {y_types y_byteCount y_writtenCount y_numberCount y_listCount y_values y_depth y_records y_at y_wrong y_todo : Int32}
variable {y_kind y_of y_parts y_fallback y_name y_part y_alias y_given y_has y_bytes y_written y_valueType y_start y_child y_last y_next y_open y_come y_left y_todoValue y_todoType y_todoDefault y_pair y_whole : Nat → Int32}
variable {y_numbers y_list y_value : Nat → Int64}
variable {g : sg_T} {w : sr_V} {L O : List Int64} {post : SY → Prop}
theorem yl_fieldsV (hg : sg_ok g) (hY : sg_Y g y_of y_name y_part y_alias y_has y_given) (hw : sv_ok g w) (ht : sy_tree g w y_valueType y_start y_child y_next y_value) {t v : Nat} {rest : List sr_I} (htn : t < sg_n g) (h9 : sg_k g t = 9) (hv : v < sv_m w) (hv9 : sg_k g (sv_t w v) = 9) (hb : rest.length + 7 ≤ 2000)
    (hp : ∀ tv tt td, sy_do tv tt td (sr_fs g w v t (sg_p g t) 0 ++ rest) → post (nI (sg_n g), y_byteCount, y_writtenCount, y_numberCount, y_listCount, y_values, y_depth, y_records, y_at, y_wrong, nI (rest.length + 1 + sg_p g t), sg_K g, y_of, sg_P g, sg_f g, y_name, y_part, y_alias, y_given, y_has, y_bytes, y_written, y_numbers, y_list, y_valueType, y_start, y_child, y_last, y_next, y_value, y_open, y_come, y_left, tv, tt, td, y_pair, y_whole)) :
    ∀ (k l : Nat) (tv tt td : Nat → Int32), k + l = sg_p g t → sy_do tv tt td (sr_fs g w v t l k ++ rest) → wY_fields_14 post (nI v) (nI (sv_t w v)) (nI t) (k + 1) (nI k - 1) (nI (sg_n g)) y_byteCount y_writtenCount y_numberCount y_listCount y_values y_depth y_records y_at y_wrong (nI (rest.length + 1 + l)) (sg_K g) y_of (sg_P g) (sg_f g) y_name y_part y_alias y_given y_has y_bytes y_written y_numbers y_list y_valueType y_start y_child y_last y_next y_value y_open y_come y_left tv tt td y_pair y_whole := by
  have hn := hg.1
  have hm4 := hw.1
  have p5 := hg.2.2.1 t
  have pu := hg.2.2.1 (sv_t w v)
  have e1 : (nI 0 - 1 : Int32) < 0 := by decide
  have w1 := (hw.2 v hv).1
  have w5 := (hw.2 v hv).2.2.2.2.1
  have t3 := (ht v hv).2.2.1
  have t4 := (ht v hv).2.2.2.1
  rw [sv_cnt9 hv9] at w5 t3 t4
  intro k
  induction k with
  | zero =>
    intro l tv tt td hl hd
    have e2 : l = sg_p g t := by omega
    subst e2
    rw [wY_fields_14]
    simp (disch := omega) only [e1, forall_eq, nI_leI, nI_ltI, nI_eq, vp_in_nI, nI_clamp, nI_1, li_e0, li_f0, li_l0, li_g0, li_m0, li_h0, li_e1, li_f1, li_l1, li_g1, li_m1, li_h1, li_e2, li_f2, li_l2, li_g2, li_m2, li_h2, li_e3, li_f3, li_l3, li_g3, li_m3, li_h3, li_e4, li_f4, li_l4, li_g4, li_m4, li_h4, li_e5, li_f5, li_l5, li_g5, li_m5, li_h5, li_e6, li_f6, li_l6, li_g6, li_m6, li_h6, li_e7, li_f7, li_l7, li_g7, li_m7, li_h7, li_e8, li_f8, li_l8, li_g8, li_m8, li_h8, li_e9, li_f9, li_l9, li_g9, li_m9, li_h9, li_e10, li_f10, li_l10, li_g10, li_m10, li_h10, li_e15, li_f15, li_l15, li_g15, li_m15, li_h15, li_e16, li_f16, li_l16, li_g16, li_m16, li_h16, li_e20, li_f20, li_l20, li_g20, li_m20, li_h20, li_e40, li_f40, li_l40, li_g40, li_m40, li_h40, li_e100, li_f100, li_l100, li_g100, li_m100, li_h100, li_e128, li_f128, li_l128, li_g128, li_m128, li_h128, li_e150, li_f150, li_l150, li_g150, li_m150, li_h150, li_e255, li_f255, li_l255, li_g255, li_m255, li_h255, li_e400, li_f400, li_l400, li_g400, li_m400, li_h400, li_e410, li_f410, li_l410, li_g410, li_m410, li_h410, li_e420, li_f420, li_l420, li_g420, li_m420, li_h420, li_e2000, li_f2000, li_l2000, li_g2000, li_m2000, li_h2000, li_e8200, li_f8200, li_l8200, li_g8200, li_m8200, li_h8200, li_e1000000, li_f1000000, li_l1000000, li_g1000000, li_m1000000, li_h1000000, li_50, li_50', li_200, li_200', nI_add, li_s1, li_t1, li_c1, li_c2, li_c3, li_c4, li_c5, li_c6, li_c7, li_c8, li_c9, li_c10, li_c11, li_c12, li_c13, li_c14, li_c15, sg_Kat, sg_Pat, pk_us, pk_uLs, true_implies, forall_const, not_true_eq_false, not_false_eq_true, false_implies, and_true, true_and, implies_true, and_self, if_true, if_false, ite_true, ite_false, reduceIte, eq_self, Nat.reduceEqDiff, Nat.reduceLeDiff, Nat.reduceLT, Int32.reduceLT, Int32.reduceLE]
    exact hp tv tt td hd
  | succ k ih =>
    intro l tv tt td hl hd
    have e2 : nI (k + 1) - 1 = nI k := nI_pred k
    have e3 : ¬ nI k < 0 := nI_pos (by omega)
    have e4 : nI k + (-1) = nI k - 1 := by rw [Int32.sub_eq_add_neg]
    have eT := hY.2.2.1 t k htn (by omega) (by omega)
    have eN := hY.2.1 t k htn (by omega) (by omega)
    have nam := hg.2.2.2.2.2.2.2.2.2.1 t k htn (by omega) h9
    obtain ⟨eA, eH, eV⟩ := hY.2.2.2.1 t k htn (by omega) h9
    have hlen : (sr_fs g w v t l (k + 1) ++ rest).length = rest.length + 1 + l := by
      rw [List.length_append, sr_fs_len]; omega
    have h400 : v < 400 := by omega
    -- none: a default, or none
    have hnone : sg_ff g (sv_t w v) (5 * t + k) = none → ∀ x7, ∃ n81, wY_fields_81 post (wY_fields_14 post (nI v) (nI (sv_t w v)) (nI t) (k + 1)) (nI v) (nI (sv_t w v)) (nI t) (nI k) (nI (5 * t + k)) (-1) (nI (sg_n g)) y_byteCount y_writtenCount y_numberCount y_listCount y_values y_depth y_records y_at y_wrong (nI (rest.length + 1 + l)) (sg_K g) y_of (sg_P g) (sg_f g) y_name y_part y_alias y_given y_has y_bytes y_written y_numbers y_list y_valueType y_start y_child y_last y_next y_value y_open y_come y_left tv tt td y_pair y_whole n81 x7 0 := by
      intro e x7
      have efi : sr_fi g w v t k = sr_dfi g (5 * t + k) := by
        unfold sr_fi
        rw [if_pos h400, e]
      refine ⟨1, ?_⟩
      rw [wY_fields_81]
      by_cases hh : sg_h g (5 * t + k) = 0
      · simp (disch := omega) only [eH, hh, wY_fields_130, eT, eV, forall_eq, nI_leI, nI_ltI, nI_eq, vp_in_nI, nI_clamp, nI_1, li_e0, li_f0, li_l0, li_g0, li_m0, li_h0, li_e1, li_f1, li_l1, li_g1, li_m1, li_h1, li_e2, li_f2, li_l2, li_g2, li_m2, li_h2, li_e3, li_f3, li_l3, li_g3, li_m3, li_h3, li_e4, li_f4, li_l4, li_g4, li_m4, li_h4, li_e5, li_f5, li_l5, li_g5, li_m5, li_h5, li_e6, li_f6, li_l6, li_g6, li_m6, li_h6, li_e7, li_f7, li_l7, li_g7, li_m7, li_h7, li_e8, li_f8, li_l8, li_g8, li_m8, li_h8, li_e9, li_f9, li_l9, li_g9, li_m9, li_h9, li_e10, li_f10, li_l10, li_g10, li_m10, li_h10, li_e15, li_f15, li_l15, li_g15, li_m15, li_h15, li_e16, li_f16, li_l16, li_g16, li_m16, li_h16, li_e20, li_f20, li_l20, li_g20, li_m20, li_h20, li_e40, li_f40, li_l40, li_g40, li_m40, li_h40, li_e100, li_f100, li_l100, li_g100, li_m100, li_h100, li_e128, li_f128, li_l128, li_g128, li_m128, li_h128, li_e150, li_f150, li_l150, li_g150, li_m150, li_h150, li_e255, li_f255, li_l255, li_g255, li_m255, li_h255, li_e400, li_f400, li_l400, li_g400, li_m400, li_h400, li_e410, li_f410, li_l410, li_g410, li_m410, li_h410, li_e420, li_f420, li_l420, li_g420, li_m420, li_h420, li_e2000, li_f2000, li_l2000, li_g2000, li_m2000, li_h2000, li_e8200, li_f8200, li_l8200, li_g8200, li_m8200, li_h8200, li_e1000000, li_f1000000, li_l1000000, li_g1000000, li_m1000000, li_h1000000, li_50, li_50', li_200, li_200', nI_add, li_s1, li_t1, li_c1, li_c2, li_c3, li_c4, li_c5, li_c6, li_c7, li_c8, li_c9, li_c10, li_c11, li_c12, li_c13, li_c14, li_c15, sg_Kat, sg_Pat, pk_us, pk_uLs, true_implies, forall_const, not_true_eq_false, not_false_eq_true, false_implies, and_true, true_and, implies_true, and_self, if_true, if_false, ite_true, ite_false, reduceIte, eq_self, Nat.reduceEqDiff, Nat.reduceLeDiff, Nat.reduceLT, Int32.reduceLT, Int32.reduceLE]
        refine yl_later (by omega) ?_
        simp (disch := omega) only [e4, forall_eq, nI_leI, nI_ltI, nI_eq, vp_in_nI, nI_clamp, nI_1, li_e0, li_f0, li_l0, li_g0, li_m0, li_h0, li_e1, li_f1, li_l1, li_g1, li_m1, li_h1, li_e2, li_f2, li_l2, li_g2, li_m2, li_h2, li_e3, li_f3, li_l3, li_g3, li_m3, li_h3, li_e4, li_f4, li_l4, li_g4, li_m4, li_h4, li_e5, li_f5, li_l5, li_g5, li_m5, li_h5, li_e6, li_f6, li_l6, li_g6, li_m6, li_h6, li_e7, li_f7, li_l7, li_g7, li_m7, li_h7, li_e8, li_f8, li_l8, li_g8, li_m8, li_h8, li_e9, li_f9, li_l9, li_g9, li_m9, li_h9, li_e10, li_f10, li_l10, li_g10, li_m10, li_h10, li_e15, li_f15, li_l15, li_g15, li_m15, li_h15, li_e16, li_f16, li_l16, li_g16, li_m16, li_h16, li_e20, li_f20, li_l20, li_g20, li_m20, li_h20, li_e40, li_f40, li_l40, li_g40, li_m40, li_h40, li_e100, li_f100, li_l100, li_g100, li_m100, li_h100, li_e128, li_f128, li_l128, li_g128, li_m128, li_h128, li_e150, li_f150, li_l150, li_g150, li_m150, li_h150, li_e255, li_f255, li_l255, li_g255, li_m255, li_h255, li_e400, li_f400, li_l400, li_g400, li_m400, li_h400, li_e410, li_f410, li_l410, li_g410, li_m410, li_h410, li_e420, li_f420, li_l420, li_g420, li_m420, li_h420, li_e2000, li_f2000, li_l2000, li_g2000, li_m2000, li_h2000, li_e8200, li_f8200, li_l8200, li_g8200, li_m8200, li_h8200, li_e1000000, li_f1000000, li_l1000000, li_g1000000, li_m1000000, li_h1000000, li_50, li_50', li_200, li_200', nI_add, li_s1, li_t1, li_c1, li_c2, li_c3, li_c4, li_c5, li_c6, li_c7, li_c8, li_c9, li_c10, li_c11, li_c12, li_c13, li_c14, li_c15, sg_Kat, sg_Pat, pk_us, pk_uLs, true_implies, forall_const, not_true_eq_false, not_false_eq_true, false_implies, and_true, true_and, implies_true, and_self, if_true, if_false, ite_true, ite_false, reduceIte, eq_self, Nat.reduceEqDiff, Nat.reduceLeDiff, Nat.reduceLT, Int32.reduceLT, Int32.reduceLE]
        refine ih (l + 1) _ _ _ (by omega) ?_
        have h5 := sy_do_push hd (sr_fi g w v t k) (v := -3) (t := nI (sg_t g (5 * t + k))) (x := sg_v g (5 * t + k)) (by
          rw [efi, sr_dfi, if_pos hh]; exact yl_cell3)
        rw [hlen] at h5
        exact h5
      · simp (disch := omega) only [eH, hh, wY_fields_130, eT, eV, forall_eq, nI_leI, nI_ltI, nI_eq, vp_in_nI, nI_clamp, nI_1, li_e0, li_f0, li_l0, li_g0, li_m0, li_h0, li_e1, li_f1, li_l1, li_g1, li_m1, li_h1, li_e2, li_f2, li_l2, li_g2, li_m2, li_h2, li_e3, li_f3, li_l3, li_g3, li_m3, li_h3, li_e4, li_f4, li_l4, li_g4, li_m4, li_h4, li_e5, li_f5, li_l5, li_g5, li_m5, li_h5, li_e6, li_f6, li_l6, li_g6, li_m6, li_h6, li_e7, li_f7, li_l7, li_g7, li_m7, li_h7, li_e8, li_f8, li_l8, li_g8, li_m8, li_h8, li_e9, li_f9, li_l9, li_g9, li_m9, li_h9, li_e10, li_f10, li_l10, li_g10, li_m10, li_h10, li_e15, li_f15, li_l15, li_g15, li_m15, li_h15, li_e16, li_f16, li_l16, li_g16, li_m16, li_h16, li_e20, li_f20, li_l20, li_g20, li_m20, li_h20, li_e40, li_f40, li_l40, li_g40, li_m40, li_h40, li_e100, li_f100, li_l100, li_g100, li_m100, li_h100, li_e128, li_f128, li_l128, li_g128, li_m128, li_h128, li_e150, li_f150, li_l150, li_g150, li_m150, li_h150, li_e255, li_f255, li_l255, li_g255, li_m255, li_h255, li_e400, li_f400, li_l400, li_g400, li_m400, li_h400, li_e410, li_f410, li_l410, li_g410, li_m410, li_h410, li_e420, li_f420, li_l420, li_g420, li_m420, li_h420, li_e2000, li_f2000, li_l2000, li_g2000, li_m2000, li_h2000, li_e8200, li_f8200, li_l8200, li_g8200, li_m8200, li_h8200, li_e1000000, li_f1000000, li_l1000000, li_g1000000, li_m1000000, li_h1000000, li_50, li_50', li_200, li_200', nI_add, li_s1, li_t1, li_c1, li_c2, li_c3, li_c4, li_c5, li_c6, li_c7, li_c8, li_c9, li_c10, li_c11, li_c12, li_c13, li_c14, li_c15, sg_Kat, sg_Pat, pk_us, pk_uLs, true_implies, forall_const, not_true_eq_false, not_false_eq_true, false_implies, and_true, true_and, implies_true, and_self, if_true, if_false, ite_true, ite_false, reduceIte, eq_self, Nat.reduceEqDiff, Nat.reduceLeDiff, Nat.reduceLT, Int32.reduceLT, Int32.reduceLE]
        refine yl_later (by omega) ?_
        simp (disch := omega) only [e4, forall_eq, nI_leI, nI_ltI, nI_eq, vp_in_nI, nI_clamp, nI_1, li_e0, li_f0, li_l0, li_g0, li_m0, li_h0, li_e1, li_f1, li_l1, li_g1, li_m1, li_h1, li_e2, li_f2, li_l2, li_g2, li_m2, li_h2, li_e3, li_f3, li_l3, li_g3, li_m3, li_h3, li_e4, li_f4, li_l4, li_g4, li_m4, li_h4, li_e5, li_f5, li_l5, li_g5, li_m5, li_h5, li_e6, li_f6, li_l6, li_g6, li_m6, li_h6, li_e7, li_f7, li_l7, li_g7, li_m7, li_h7, li_e8, li_f8, li_l8, li_g8, li_m8, li_h8, li_e9, li_f9, li_l9, li_g9, li_m9, li_h9, li_e10, li_f10, li_l10, li_g10, li_m10, li_h10, li_e15, li_f15, li_l15, li_g15, li_m15, li_h15, li_e16, li_f16, li_l16, li_g16, li_m16, li_h16, li_e20, li_f20, li_l20, li_g20, li_m20, li_h20, li_e40, li_f40, li_l40, li_g40, li_m40, li_h40, li_e100, li_f100, li_l100, li_g100, li_m100, li_h100, li_e128, li_f128, li_l128, li_g128, li_m128, li_h128, li_e150, li_f150, li_l150, li_g150, li_m150, li_h150, li_e255, li_f255, li_l255, li_g255, li_m255, li_h255, li_e400, li_f400, li_l400, li_g400, li_m400, li_h400, li_e410, li_f410, li_l410, li_g410, li_m410, li_h410, li_e420, li_f420, li_l420, li_g420, li_m420, li_h420, li_e2000, li_f2000, li_l2000, li_g2000, li_m2000, li_h2000, li_e8200, li_f8200, li_l8200, li_g8200, li_m8200, li_h8200, li_e1000000, li_f1000000, li_l1000000, li_g1000000, li_m1000000, li_h1000000, li_50, li_50', li_200, li_200', nI_add, li_s1, li_t1, li_c1, li_c2, li_c3, li_c4, li_c5, li_c6, li_c7, li_c8, li_c9, li_c10, li_c11, li_c12, li_c13, li_c14, li_c15, sg_Kat, sg_Pat, pk_us, pk_uLs, true_implies, forall_const, not_true_eq_false, not_false_eq_true, false_implies, and_true, true_and, implies_true, and_self, if_true, if_false, ite_true, ite_false, reduceIte, eq_self, Nat.reduceEqDiff, Nat.reduceLeDiff, Nat.reduceLT, Int32.reduceLT, Int32.reduceLE]
        refine ih (l + 1) _ _ _ (by omega) ?_
        have h5 := sy_do_push hd (sr_fi g w v t k) (v := -1) (t := nI (sg_t g (5 * t + k))) (x := sg_v g (5 * t + k)) (by
          rw [efi, sr_dfi, if_neg hh]; exact yl_cell1)
        rw [hlen] at h5
        exact h5
    have hsome : ∀ q, sg_ff g (sv_t w v) (5 * t + k) = some q → ∃ n81, wY_fields_81 post (wY_fields_14 post (nI v) (nI (sv_t w v)) (nI t) (k + 1)) (nI v) (nI (sv_t w v)) (nI t) (nI k) (nI (5 * t + k)) (nI q) (nI (sg_n g)) y_byteCount y_writtenCount y_numberCount y_listCount y_values y_depth y_records y_at y_wrong (nI (rest.length + 1 + l)) (sg_K g) y_of (sg_P g) (sg_f g) y_name y_part y_alias y_given y_has y_bytes y_written y_numbers y_list y_valueType y_start y_child y_last y_next y_value y_open y_come y_left tv tt td y_pair y_whole n81 (y_child v) 0 := by
      intro q e
      have hq := sg_ff_lt e
      have efi : sr_fi g w v t k = (0, sv_ch (sv_a w) v q, sg_t g (5 * t + k), 0) := by
        unfold sr_fi
        rw [if_pos h400, e]
      rw [t3 (by omega)]
      have H : ∀ m i, i + m = q → wY_fields_81 post (wY_fields_14 post (nI v) (nI (sv_t w v)) (nI t) (k + 1)) (nI v) (nI (sv_t w v)) (nI t) (nI k) (nI (5 * t + k)) (nI q) (nI (sg_n g)) y_byteCount y_writtenCount y_numberCount y_listCount y_values y_depth y_records y_at y_wrong (nI (rest.length + 1 + l)) (sg_K g) y_of (sg_P g) (sg_f g) y_name y_part y_alias y_given y_has y_bytes y_written y_numbers y_list y_valueType y_start y_child y_last y_next y_value y_open y_come y_left tv tt td y_pair y_whole (m + 1) (nI (sv_ch (sv_a w) v i)) (nI i) := by
        intro m
        induction m with
        | zero =>
          intro i hi
          have e5 : i = q := by omega
          subst e5
          have e6 : ¬ nI i < 0 := nI_pos (by omega)
          rw [wY_fields_81]
          simp (disch := omega) only [e6, Nat.le_refl, wY_fields_130, eT, eV, forall_eq, nI_leI, nI_ltI, nI_eq, vp_in_nI, nI_clamp, nI_1, li_e0, li_f0, li_l0, li_g0, li_m0, li_h0, li_e1, li_f1, li_l1, li_g1, li_m1, li_h1, li_e2, li_f2, li_l2, li_g2, li_m2, li_h2, li_e3, li_f3, li_l3, li_g3, li_m3, li_h3, li_e4, li_f4, li_l4, li_g4, li_m4, li_h4, li_e5, li_f5, li_l5, li_g5, li_m5, li_h5, li_e6, li_f6, li_l6, li_g6, li_m6, li_h6, li_e7, li_f7, li_l7, li_g7, li_m7, li_h7, li_e8, li_f8, li_l8, li_g8, li_m8, li_h8, li_e9, li_f9, li_l9, li_g9, li_m9, li_h9, li_e10, li_f10, li_l10, li_g10, li_m10, li_h10, li_e15, li_f15, li_l15, li_g15, li_m15, li_h15, li_e16, li_f16, li_l16, li_g16, li_m16, li_h16, li_e20, li_f20, li_l20, li_g20, li_m20, li_h20, li_e40, li_f40, li_l40, li_g40, li_m40, li_h40, li_e100, li_f100, li_l100, li_g100, li_m100, li_h100, li_e128, li_f128, li_l128, li_g128, li_m128, li_h128, li_e150, li_f150, li_l150, li_g150, li_m150, li_h150, li_e255, li_f255, li_l255, li_g255, li_m255, li_h255, li_e400, li_f400, li_l400, li_g400, li_m400, li_h400, li_e410, li_f410, li_l410, li_g410, li_m410, li_h410, li_e420, li_f420, li_l420, li_g420, li_m420, li_h420, li_e2000, li_f2000, li_l2000, li_g2000, li_m2000, li_h2000, li_e8200, li_f8200, li_l8200, li_g8200, li_m8200, li_h8200, li_e1000000, li_f1000000, li_l1000000, li_g1000000, li_m1000000, li_h1000000, li_50, li_50', li_200, li_200', nI_add, li_s1, li_t1, li_c1, li_c2, li_c3, li_c4, li_c5, li_c6, li_c7, li_c8, li_c9, li_c10, li_c11, li_c12, li_c13, li_c14, li_c15, sg_Kat, sg_Pat, pk_us, pk_uLs, true_implies, forall_const, not_true_eq_false, not_false_eq_true, false_implies, and_true, true_and, implies_true, and_self, if_true, if_false, ite_true, ite_false, reduceIte, eq_self, Nat.reduceEqDiff, Nat.reduceLeDiff, Nat.reduceLT, Int32.reduceLT, Int32.reduceLE]
          refine yl_later (by omega) ?_
          simp (disch := omega) only [e4, forall_eq, nI_leI, nI_ltI, nI_eq, vp_in_nI, nI_clamp, nI_1, li_e0, li_f0, li_l0, li_g0, li_m0, li_h0, li_e1, li_f1, li_l1, li_g1, li_m1, li_h1, li_e2, li_f2, li_l2, li_g2, li_m2, li_h2, li_e3, li_f3, li_l3, li_g3, li_m3, li_h3, li_e4, li_f4, li_l4, li_g4, li_m4, li_h4, li_e5, li_f5, li_l5, li_g5, li_m5, li_h5, li_e6, li_f6, li_l6, li_g6, li_m6, li_h6, li_e7, li_f7, li_l7, li_g7, li_m7, li_h7, li_e8, li_f8, li_l8, li_g8, li_m8, li_h8, li_e9, li_f9, li_l9, li_g9, li_m9, li_h9, li_e10, li_f10, li_l10, li_g10, li_m10, li_h10, li_e15, li_f15, li_l15, li_g15, li_m15, li_h15, li_e16, li_f16, li_l16, li_g16, li_m16, li_h16, li_e20, li_f20, li_l20, li_g20, li_m20, li_h20, li_e40, li_f40, li_l40, li_g40, li_m40, li_h40, li_e100, li_f100, li_l100, li_g100, li_m100, li_h100, li_e128, li_f128, li_l128, li_g128, li_m128, li_h128, li_e150, li_f150, li_l150, li_g150, li_m150, li_h150, li_e255, li_f255, li_l255, li_g255, li_m255, li_h255, li_e400, li_f400, li_l400, li_g400, li_m400, li_h400, li_e410, li_f410, li_l410, li_g410, li_m410, li_h410, li_e420, li_f420, li_l420, li_g420, li_m420, li_h420, li_e2000, li_f2000, li_l2000, li_g2000, li_m2000, li_h2000, li_e8200, li_f8200, li_l8200, li_g8200, li_m8200, li_h8200, li_e1000000, li_f1000000, li_l1000000, li_g1000000, li_m1000000, li_h1000000, li_50, li_50', li_200, li_200', nI_add, li_s1, li_t1, li_c1, li_c2, li_c3, li_c4, li_c5, li_c6, li_c7, li_c8, li_c9, li_c10, li_c11, li_c12, li_c13, li_c14, li_c15, sg_Kat, sg_Pat, pk_us, pk_uLs, true_implies, forall_const, not_true_eq_false, not_false_eq_true, false_implies, and_true, true_and, implies_true, and_self, if_true, if_false, ite_true, ite_false, reduceIte, eq_self, Nat.reduceEqDiff, Nat.reduceLeDiff, Nat.reduceLT, Int32.reduceLT, Int32.reduceLE]
          refine ih (l + 1) _ _ _ (by omega) ?_
          have h5 := sy_do_push hd (sr_fi g w v t k) (v := nI (sv_ch (sv_a w) v i)) (t := nI (sg_t g (5 * t + k))) (x := sg_v g (5 * t + k)) (by
            rw [efi]; exact yl_cell0)
          rw [hlen] at h5
          exact h5
        | succ m ihm =>
          intro i hi
          obtain ⟨a1, a2, a3⟩ := w5 i (by omega)
          have e6 : ¬ q ≤ i := by omega
          have e7 := t4 i (by omega)
          rw [wY_fields_81]
          simp (disch := omega) only [e6, e7, forall_eq, nI_leI, nI_ltI, nI_eq, vp_in_nI, nI_clamp, nI_1, li_e0, li_f0, li_l0, li_g0, li_m0, li_h0, li_e1, li_f1, li_l1, li_g1, li_m1, li_h1, li_e2, li_f2, li_l2, li_g2, li_m2, li_h2, li_e3, li_f3, li_l3, li_g3, li_m3, li_h3, li_e4, li_f4, li_l4, li_g4, li_m4, li_h4, li_e5, li_f5, li_l5, li_g5, li_m5, li_h5, li_e6, li_f6, li_l6, li_g6, li_m6, li_h6, li_e7, li_f7, li_l7, li_g7, li_m7, li_h7, li_e8, li_f8, li_l8, li_g8, li_m8, li_h8, li_e9, li_f9, li_l9, li_g9, li_m9, li_h9, li_e10, li_f10, li_l10, li_g10, li_m10, li_h10, li_e15, li_f15, li_l15, li_g15, li_m15, li_h15, li_e16, li_f16, li_l16, li_g16, li_m16, li_h16, li_e20, li_f20, li_l20, li_g20, li_m20, li_h20, li_e40, li_f40, li_l40, li_g40, li_m40, li_h40, li_e100, li_f100, li_l100, li_g100, li_m100, li_h100, li_e128, li_f128, li_l128, li_g128, li_m128, li_h128, li_e150, li_f150, li_l150, li_g150, li_m150, li_h150, li_e255, li_f255, li_l255, li_g255, li_m255, li_h255, li_e400, li_f400, li_l400, li_g400, li_m400, li_h400, li_e410, li_f410, li_l410, li_g410, li_m410, li_h410, li_e420, li_f420, li_l420, li_g420, li_m420, li_h420, li_e2000, li_f2000, li_l2000, li_g2000, li_m2000, li_h2000, li_e8200, li_f8200, li_l8200, li_g8200, li_m8200, li_h8200, li_e1000000, li_f1000000, li_l1000000, li_g1000000, li_m1000000, li_h1000000, li_50, li_50', li_200, li_200', nI_add, li_s1, li_t1, li_c1, li_c2, li_c3, li_c4, li_c5, li_c6, li_c7, li_c8, li_c9, li_c10, li_c11, li_c12, li_c13, li_c14, li_c15, sg_Kat, sg_Pat, pk_us, pk_uLs, true_implies, forall_const, not_true_eq_false, not_false_eq_true, false_implies, and_true, true_and, implies_true, and_self, if_true, if_false, ite_true, ite_false, reduceIte, eq_self, Nat.reduceEqDiff, Nat.reduceLeDiff, Nat.reduceLT, Int32.reduceLT, Int32.reduceLE]
          exact ihm (i + 1) (by omega)
      exact ⟨q + 1, H q 0 (by omega)⟩
    rw [wY_fields_14]
    simp (disch := omega) only [e2, e3, eN, forall_eq, nI_leI, nI_ltI, nI_eq, vp_in_nI, nI_clamp, nI_1, li_e0, li_f0, li_l0, li_g0, li_m0, li_h0, li_e1, li_f1, li_l1, li_g1, li_m1, li_h1, li_e2, li_f2, li_l2, li_g2, li_m2, li_h2, li_e3, li_f3, li_l3, li_g3, li_m3, li_h3, li_e4, li_f4, li_l4, li_g4, li_m4, li_h4, li_e5, li_f5, li_l5, li_g5, li_m5, li_h5, li_e6, li_f6, li_l6, li_g6, li_m6, li_h6, li_e7, li_f7, li_l7, li_g7, li_m7, li_h7, li_e8, li_f8, li_l8, li_g8, li_m8, li_h8, li_e9, li_f9, li_l9, li_g9, li_m9, li_h9, li_e10, li_f10, li_l10, li_g10, li_m10, li_h10, li_e15, li_f15, li_l15, li_g15, li_m15, li_h15, li_e16, li_f16, li_l16, li_g16, li_m16, li_h16, li_e20, li_f20, li_l20, li_g20, li_m20, li_h20, li_e40, li_f40, li_l40, li_g40, li_m40, li_h40, li_e100, li_f100, li_l100, li_g100, li_m100, li_h100, li_e128, li_f128, li_l128, li_g128, li_m128, li_h128, li_e150, li_f150, li_l150, li_g150, li_m150, li_h150, li_e255, li_f255, li_l255, li_g255, li_m255, li_h255, li_e400, li_f400, li_l400, li_g400, li_m400, li_h400, li_e410, li_f410, li_l410, li_g410, li_m410, li_h410, li_e420, li_f420, li_l420, li_g420, li_m420, li_h420, li_e2000, li_f2000, li_l2000, li_g2000, li_m2000, li_h2000, li_e8200, li_f8200, li_l8200, li_g8200, li_m8200, li_h8200, li_e1000000, li_f1000000, li_l1000000, li_g1000000, li_m1000000, li_h1000000, li_50, li_50', li_200, li_200', nI_add, li_s1, li_t1, li_c1, li_c2, li_c3, li_c4, li_c5, li_c6, li_c7, li_c8, li_c9, li_c10, li_c11, li_c12, li_c13, li_c14, li_c15, sg_Kat, sg_Pat, pk_us, pk_uLs, true_implies, forall_const, not_true_eq_false, not_false_eq_true, false_implies, and_true, true_and, implies_true, and_self, if_true, if_false, ite_true, ite_false, reduceIte, eq_self, Nat.reduceEqDiff, Nat.reduceLeDiff, Nat.reduceLT, Int32.reduceLT, Int32.reduceLE]
    refine yt_find hg hY w1 (by omega) _ ?_
    unfold sg_ff at hnone hsome
    cases e : sg_find g (sv_t w v) (nI (sg_m g (5 * t + k))) with
    | none =>
      rw [e, if_pos rfl] at hnone hsome
      have e5 : ¬ (0 : Int32) ≤ -1 := by decide
      rcases nam with hal | ⟨al, hal1, hal2⟩
      · rw [if_pos hal] at hnone
        have e6 : (-1 : Int32) < 0 := by decide
        simp (disch := omega) only [sd_oi, e5, eA, hal, e6, forall_eq, nI_leI, nI_ltI, nI_eq, vp_in_nI, nI_clamp, nI_1, li_e0, li_f0, li_l0, li_g0, li_m0, li_h0, li_e1, li_f1, li_l1, li_g1, li_m1, li_h1, li_e2, li_f2, li_l2, li_g2, li_m2, li_h2, li_e3, li_f3, li_l3, li_g3, li_m3, li_h3, li_e4, li_f4, li_l4, li_g4, li_m4, li_h4, li_e5, li_f5, li_l5, li_g5, li_m5, li_h5, li_e6, li_f6, li_l6, li_g6, li_m6, li_h6, li_e7, li_f7, li_l7, li_g7, li_m7, li_h7, li_e8, li_f8, li_l8, li_g8, li_m8, li_h8, li_e9, li_f9, li_l9, li_g9, li_m9, li_h9, li_e10, li_f10, li_l10, li_g10, li_m10, li_h10, li_e15, li_f15, li_l15, li_g15, li_m15, li_h15, li_e16, li_f16, li_l16, li_g16, li_m16, li_h16, li_e20, li_f20, li_l20, li_g20, li_m20, li_h20, li_e40, li_f40, li_l40, li_g40, li_m40, li_h40, li_e100, li_f100, li_l100, li_g100, li_m100, li_h100, li_e128, li_f128, li_l128, li_g128, li_m128, li_h128, li_e150, li_f150, li_l150, li_g150, li_m150, li_h150, li_e255, li_f255, li_l255, li_g255, li_m255, li_h255, li_e400, li_f400, li_l400, li_g400, li_m400, li_h400, li_e410, li_f410, li_l410, li_g410, li_m410, li_h410, li_e420, li_f420, li_l420, li_g420, li_m420, li_h420, li_e2000, li_f2000, li_l2000, li_g2000, li_m2000, li_h2000, li_e8200, li_f8200, li_l8200, li_g8200, li_m8200, li_h8200, li_e1000000, li_f1000000, li_l1000000, li_g1000000, li_m1000000, li_h1000000, li_50, li_50', li_200, li_200', nI_add, li_s1, li_t1, li_c1, li_c2, li_c3, li_c4, li_c5, li_c6, li_c7, li_c8, li_c9, li_c10, li_c11, li_c12, li_c13, li_c14, li_c15, sg_Kat, sg_Pat, pk_us, pk_uLs, true_implies, forall_const, not_true_eq_false, not_false_eq_true, false_implies, and_true, true_and, implies_true, and_self, if_true, if_false, ite_true, ite_false, reduceIte, eq_self, Nat.reduceEqDiff, Nat.reduceLeDiff, Nat.reduceLT, Int32.reduceLT, Int32.reduceLE]
        exact hnone rfl _
      · have e6 : ¬ sg_a g (5 * t + k) = -1 := by rw [hal2]; exact li_neg (by omega)
        have e7 : ¬ sg_a g (5 * t + k) < 0 := by rw [hal2]; exact nI_pos (by omega)
        rw [if_neg e6] at hnone hsome
        simp (disch := omega) only [sd_oi, e5, eA, e7, forall_eq, nI_leI, nI_ltI, nI_eq, vp_in_nI, nI_clamp, nI_1, li_e0, li_f0, li_l0, li_g0, li_m0, li_h0, li_e1, li_f1, li_l1, li_g1, li_m1, li_h1, li_e2, li_f2, li_l2, li_g2, li_m2, li_h2, li_e3, li_f3, li_l3, li_g3, li_m3, li_h3, li_e4, li_f4, li_l4, li_g4, li_m4, li_h4, li_e5, li_f5, li_l5, li_g5, li_m5, li_h5, li_e6, li_f6, li_l6, li_g6, li_m6, li_h6, li_e7, li_f7, li_l7, li_g7, li_m7, li_h7, li_e8, li_f8, li_l8, li_g8, li_m8, li_h8, li_e9, li_f9, li_l9, li_g9, li_m9, li_h9, li_e10, li_f10, li_l10, li_g10, li_m10, li_h10, li_e15, li_f15, li_l15, li_g15, li_m15, li_h15, li_e16, li_f16, li_l16, li_g16, li_m16, li_h16, li_e20, li_f20, li_l20, li_g20, li_m20, li_h20, li_e40, li_f40, li_l40, li_g40, li_m40, li_h40, li_e100, li_f100, li_l100, li_g100, li_m100, li_h100, li_e128, li_f128, li_l128, li_g128, li_m128, li_h128, li_e150, li_f150, li_l150, li_g150, li_m150, li_h150, li_e255, li_f255, li_l255, li_g255, li_m255, li_h255, li_e400, li_f400, li_l400, li_g400, li_m400, li_h400, li_e410, li_f410, li_l410, li_g410, li_m410, li_h410, li_e420, li_f420, li_l420, li_g420, li_m420, li_h420, li_e2000, li_f2000, li_l2000, li_g2000, li_m2000, li_h2000, li_e8200, li_f8200, li_l8200, li_g8200, li_m8200, li_h8200, li_e1000000, li_f1000000, li_l1000000, li_g1000000, li_m1000000, li_h1000000, li_50, li_50', li_200, li_200', nI_add, li_s1, li_t1, li_c1, li_c2, li_c3, li_c4, li_c5, li_c6, li_c7, li_c8, li_c9, li_c10, li_c11, li_c12, li_c13, li_c14, li_c15, sg_Kat, sg_Pat, pk_us, pk_uLs, true_implies, forall_const, not_true_eq_false, not_false_eq_true, false_implies, and_true, true_and, implies_true, and_self, if_true, if_false, ite_true, ite_false, reduceIte, eq_self, Nat.reduceEqDiff, Nat.reduceLeDiff, Nat.reduceLT, Int32.reduceLT, Int32.reduceLE]
        refine yt_find hg hY w1 (by omega) _ ?_
        cases e8 : sg_find g (sv_t w v) (sg_a g (5 * t + k)) with
        | none =>
          simp (disch := omega) only [sd_oi, forall_eq, nI_leI, nI_ltI, nI_eq, vp_in_nI, nI_clamp, nI_1, li_e0, li_f0, li_l0, li_g0, li_m0, li_h0, li_e1, li_f1, li_l1, li_g1, li_m1, li_h1, li_e2, li_f2, li_l2, li_g2, li_m2, li_h2, li_e3, li_f3, li_l3, li_g3, li_m3, li_h3, li_e4, li_f4, li_l4, li_g4, li_m4, li_h4, li_e5, li_f5, li_l5, li_g5, li_m5, li_h5, li_e6, li_f6, li_l6, li_g6, li_m6, li_h6, li_e7, li_f7, li_l7, li_g7, li_m7, li_h7, li_e8, li_f8, li_l8, li_g8, li_m8, li_h8, li_e9, li_f9, li_l9, li_g9, li_m9, li_h9, li_e10, li_f10, li_l10, li_g10, li_m10, li_h10, li_e15, li_f15, li_l15, li_g15, li_m15, li_h15, li_e16, li_f16, li_l16, li_g16, li_m16, li_h16, li_e20, li_f20, li_l20, li_g20, li_m20, li_h20, li_e40, li_f40, li_l40, li_g40, li_m40, li_h40, li_e100, li_f100, li_l100, li_g100, li_m100, li_h100, li_e128, li_f128, li_l128, li_g128, li_m128, li_h128, li_e150, li_f150, li_l150, li_g150, li_m150, li_h150, li_e255, li_f255, li_l255, li_g255, li_m255, li_h255, li_e400, li_f400, li_l400, li_g400, li_m400, li_h400, li_e410, li_f410, li_l410, li_g410, li_m410, li_h410, li_e420, li_f420, li_l420, li_g420, li_m420, li_h420, li_e2000, li_f2000, li_l2000, li_g2000, li_m2000, li_h2000, li_e8200, li_f8200, li_l8200, li_g8200, li_m8200, li_h8200, li_e1000000, li_f1000000, li_l1000000, li_g1000000, li_m1000000, li_h1000000, li_50, li_50', li_200, li_200', nI_add, li_s1, li_t1, li_c1, li_c2, li_c3, li_c4, li_c5, li_c6, li_c7, li_c8, li_c9, li_c10, li_c11, li_c12, li_c13, li_c14, li_c15, sg_Kat, sg_Pat, pk_us, pk_uLs, true_implies, forall_const, not_true_eq_false, not_false_eq_true, false_implies, and_true, true_and, implies_true, and_self, if_true, if_false, ite_true, ite_false, reduceIte, eq_self, Nat.reduceEqDiff, Nat.reduceLeDiff, Nat.reduceLT, Int32.reduceLT, Int32.reduceLE]
          exact hnone e8 _
        | some q =>
          simp (disch := omega) only [sd_oi, forall_eq, nI_leI, nI_ltI, nI_eq, vp_in_nI, nI_clamp, nI_1, li_e0, li_f0, li_l0, li_g0, li_m0, li_h0, li_e1, li_f1, li_l1, li_g1, li_m1, li_h1, li_e2, li_f2, li_l2, li_g2, li_m2, li_h2, li_e3, li_f3, li_l3, li_g3, li_m3, li_h3, li_e4, li_f4, li_l4, li_g4, li_m4, li_h4, li_e5, li_f5, li_l5, li_g5, li_m5, li_h5, li_e6, li_f6, li_l6, li_g6, li_m6, li_h6, li_e7, li_f7, li_l7, li_g7, li_m7, li_h7, li_e8, li_f8, li_l8, li_g8, li_m8, li_h8, li_e9, li_f9, li_l9, li_g9, li_m9, li_h9, li_e10, li_f10, li_l10, li_g10, li_m10, li_h10, li_e15, li_f15, li_l15, li_g15, li_m15, li_h15, li_e16, li_f16, li_l16, li_g16, li_m16, li_h16, li_e20, li_f20, li_l20, li_g20, li_m20, li_h20, li_e40, li_f40, li_l40, li_g40, li_m40, li_h40, li_e100, li_f100, li_l100, li_g100, li_m100, li_h100, li_e128, li_f128, li_l128, li_g128, li_m128, li_h128, li_e150, li_f150, li_l150, li_g150, li_m150, li_h150, li_e255, li_f255, li_l255, li_g255, li_m255, li_h255, li_e400, li_f400, li_l400, li_g400, li_m400, li_h400, li_e410, li_f410, li_l410, li_g410, li_m410, li_h410, li_e420, li_f420, li_l420, li_g420, li_m420, li_h420, li_e2000, li_f2000, li_l2000, li_g2000, li_m2000, li_h2000, li_e8200, li_f8200, li_l8200, li_g8200, li_m8200, li_h8200, li_e1000000, li_f1000000, li_l1000000, li_g1000000, li_m1000000, li_h1000000, li_50, li_50', li_200, li_200', nI_add, li_s1, li_t1, li_c1, li_c2, li_c3, li_c4, li_c5, li_c6, li_c7, li_c8, li_c9, li_c10, li_c11, li_c12, li_c13, li_c14, li_c15, sg_Kat, sg_Pat, pk_us, pk_uLs, true_implies, forall_const, not_true_eq_false, not_false_eq_true, false_implies, and_true, true_and, implies_true, and_self, if_true, if_false, ite_true, ite_false, reduceIte, eq_self, Nat.reduceEqDiff, Nat.reduceLeDiff, Nat.reduceLT, Int32.reduceLT, Int32.reduceLE]
          exact hsome q e8
    | some q =>
      have hq := sg_find_lt e
      have e5 : ¬ (some q : Option Nat) = none := by intro z; cases z
      rw [e, if_neg e5] at hsome
      have e6 : (0 : Int32) ≤ nI q := nI_pos' (by omega)
      simp (disch := omega) only [sd_oi, e6, forall_eq, nI_leI, nI_ltI, nI_eq, vp_in_nI, nI_clamp, nI_1, li_e0, li_f0, li_l0, li_g0, li_m0, li_h0, li_e1, li_f1, li_l1, li_g1, li_m1, li_h1, li_e2, li_f2, li_l2, li_g2, li_m2, li_h2, li_e3, li_f3, li_l3, li_g3, li_m3, li_h3, li_e4, li_f4, li_l4, li_g4, li_m4, li_h4, li_e5, li_f5, li_l5, li_g5, li_m5, li_h5, li_e6, li_f6, li_l6, li_g6, li_m6, li_h6, li_e7, li_f7, li_l7, li_g7, li_m7, li_h7, li_e8, li_f8, li_l8, li_g8, li_m8, li_h8, li_e9, li_f9, li_l9, li_g9, li_m9, li_h9, li_e10, li_f10, li_l10, li_g10, li_m10, li_h10, li_e15, li_f15, li_l15, li_g15, li_m15, li_h15, li_e16, li_f16, li_l16, li_g16, li_m16, li_h16, li_e20, li_f20, li_l20, li_g20, li_m20, li_h20, li_e40, li_f40, li_l40, li_g40, li_m40, li_h40, li_e100, li_f100, li_l100, li_g100, li_m100, li_h100, li_e128, li_f128, li_l128, li_g128, li_m128, li_h128, li_e150, li_f150, li_l150, li_g150, li_m150, li_h150, li_e255, li_f255, li_l255, li_g255, li_m255, li_h255, li_e400, li_f400, li_l400, li_g400, li_m400, li_h400, li_e410, li_f410, li_l410, li_g410, li_m410, li_h410, li_e420, li_f420, li_l420, li_g420, li_m420, li_h420, li_e2000, li_f2000, li_l2000, li_g2000, li_m2000, li_h2000, li_e8200, li_f8200, li_l8200, li_g8200, li_m8200, li_h8200, li_e1000000, li_f1000000, li_l1000000, li_g1000000, li_m1000000, li_h1000000, li_50, li_50', li_200, li_200', nI_add, li_s1, li_t1, li_c1, li_c2, li_c3, li_c4, li_c5, li_c6, li_c7, li_c8, li_c9, li_c10, li_c11, li_c12, li_c13, li_c14, li_c15, sg_Kat, sg_Pat, pk_us, pk_uLs, true_implies, forall_const, not_true_eq_false, not_false_eq_true, false_implies, and_true, true_and, implies_true, and_self, if_true, if_false, ite_true, ite_false, reduceIte, eq_self, Nat.reduceEqDiff, Nat.reduceLeDiff, Nat.reduceLT, Int32.reduceLT, Int32.reduceLE]
      exact hsome q rfl
/-- the values of an ARRAY -/
theorem yl_do_items {t : Nat} {rest : List sr_I} {tv tt td : Nat → Int32} : ∀ (n c : Nat), sy_do tv tt td rest →
    (∀ k, k < n → tv (rest.length + (n - 1 - k)) = nI (sv_it (sv_a w) c k) ∧ tt (rest.length + (n - 1 - k)) = nI t) → sy_do tv tt td (sr_items w t n c ++ rest) := by
  intro n
  induction n with
  | zero => intro c h _; exact h
  | succ n ih =>
    intro c h hk
    refine ⟨?_, ih (sv_a w c) h (fun k hkn => ?_)⟩
    · have e : (sr_items w t n (sv_a w c) ++ rest).length = rest.length + (n + 1 - 1 - 0) := by
        rw [List.length_append, sr_items_len]; omega
      show sy_cell (0, c, t, 0) (tv (sr_items w t n (sv_a w c) ++ rest).length) (tt (sr_items w t n (sv_a w c) ++ rest).length) (td (sr_items w t n (sv_a w c) ++ rest).length)
      rw [e]
      obtain ⟨a, b⟩ := hk 0 (by omega)
      rw [a, b]
      exact yl_cell0
    · have h2 := hk (k + 1) (by omega)
      rw [show n + 1 - 1 - (k + 1) = n - 1 - k by omega] at h2
      exact h2
theorem yl_items (hg : sg_ok g) (hY : sg_Y g y_of y_name y_part y_alias y_has y_given) (hw : sv_ok g w) (ht : sy_tree g w y_valueType y_start y_child y_next y_value) {t v c : Nat} {rest : List sr_I} (htn : t < sg_n g) (h7 : sg_k g t = 7) (hv : v < sv_m w) (hv7 : sg_k g (sv_t w v) = 7) (hc : sv_n w v = lN c) (hc40 : c ≤ 40) (hb : rest.length + 50 ≤ 2000) (hd : sy_do y_todoValue y_todoType y_todoDefault rest)
    (hp : ∀ tv tt, sy_do tv tt y_todoDefault (sr_items w (sg_d g t) c (v + 1) ++ rest) → post (nI (sg_n g), y_byteCount, y_writtenCount, y_numberCount, y_listCount, y_values, y_depth, y_records, y_at, y_wrong, nI (rest.length + c), sg_K g, y_of, sg_P g, sg_f g, y_name, y_part, y_alias, y_given, y_has, y_bytes, y_written, y_numbers, y_list, y_valueType, y_start, y_child, y_last, y_next, y_value, y_open, y_come, y_left, tv, tt, y_todoDefault, y_pair, y_whole)) :
    ∃ n159, wY_plain_159 post (nI t) (nI c) (nI (sg_n g)) y_byteCount y_writtenCount y_numberCount y_listCount y_values y_depth y_records y_at y_wrong (nI rest.length) n159 (y_child v) 0 (sg_K g) y_of (sg_P g) (sg_f g) y_name y_part y_alias y_given y_has y_bytes y_written y_numbers y_list y_valueType y_start y_child y_last y_next y_value y_open y_come y_left y_todoValue y_todoType y_todoDefault y_pair y_whole := by
  have hn := hg.1
  have hm4 := hw.1
  have ecn : sv_cnt g w v = c := by rw [sv_cnt7 hv7, hc, lN_i, nI_clamp (by omega)]
  have w5 := (hw.2 v hv).2.2.2.2.1
  have t3 := (ht v hv).2.2.1
  have t4 := (ht v hv).2.2.2.1
  have eD := hY.1 t htn (Or.inr h7)
  rw [ecn] at w5 t3 t4
  have H : ∀ m i x6 (tv tt : Nat → Int32), i + m = c → (i < c → x6 = nI (sv_ch (sv_a w) v i)) → (∀ j, j < rest.length → tv j = y_todoValue j ∧ tt j = y_todoType j) →
      (∀ k, k < i → tv (rest.length + (c - 1 - k)) = nI (sv_ch (sv_a w) v k) ∧ tt (rest.length + (c - 1 - k)) = nI (sg_d g t)) →
      wY_plain_159 post (nI t) (nI c) (nI (sg_n g)) y_byteCount y_writtenCount y_numberCount y_listCount y_values y_depth y_records y_at y_wrong (nI rest.length) (m + 1) x6 (nI i) (sg_K g) y_of (sg_P g) (sg_f g) y_name y_part y_alias y_given y_has y_bytes y_written y_numbers y_list y_valueType y_start y_child y_last y_next y_value y_open y_come y_left tv tt y_todoDefault y_pair y_whole := by
    intro m
    induction m with
    | zero =>
      intro i x6 tv tt hi hx hlo hk
      have e : i = c := by omega
      subst e
      rw [wY_plain_159]
      simp (disch := omega) only [Nat.le_refl, nI_add, forall_eq, nI_leI, nI_ltI, nI_eq, vp_in_nI, nI_clamp, nI_1, li_e0, li_f0, li_l0, li_g0, li_m0, li_h0, li_e1, li_f1, li_l1, li_g1, li_m1, li_h1, li_e2, li_f2, li_l2, li_g2, li_m2, li_h2, li_e3, li_f3, li_l3, li_g3, li_m3, li_h3, li_e4, li_f4, li_l4, li_g4, li_m4, li_h4, li_e5, li_f5, li_l5, li_g5, li_m5, li_h5, li_e6, li_f6, li_l6, li_g6, li_m6, li_h6, li_e7, li_f7, li_l7, li_g7, li_m7, li_h7, li_e8, li_f8, li_l8, li_g8, li_m8, li_h8, li_e9, li_f9, li_l9, li_g9, li_m9, li_h9, li_e10, li_f10, li_l10, li_g10, li_m10, li_h10, li_e15, li_f15, li_l15, li_g15, li_m15, li_h15, li_e16, li_f16, li_l16, li_g16, li_m16, li_h16, li_e20, li_f20, li_l20, li_g20, li_m20, li_h20, li_e40, li_f40, li_l40, li_g40, li_m40, li_h40, li_e100, li_f100, li_l100, li_g100, li_m100, li_h100, li_e128, li_f128, li_l128, li_g128, li_m128, li_h128, li_e150, li_f150, li_l150, li_g150, li_m150, li_h150, li_e255, li_f255, li_l255, li_g255, li_m255, li_h255, li_e400, li_f400, li_l400, li_g400, li_m400, li_h400, li_e410, li_f410, li_l410, li_g410, li_m410, li_h410, li_e420, li_f420, li_l420, li_g420, li_m420, li_h420, li_e2000, li_f2000, li_l2000, li_g2000, li_m2000, li_h2000, li_e8200, li_f8200, li_l8200, li_g8200, li_m8200, li_h8200, li_e1000000, li_f1000000, li_l1000000, li_g1000000, li_m1000000, li_h1000000, li_50, li_50', li_200, li_200', nI_add, li_s1, li_t1, li_c1, li_c2, li_c3, li_c4, li_c5, li_c6, li_c7, li_c8, li_c9, li_c10, li_c11, li_c12, li_c13, li_c14, li_c15, sg_Kat, sg_Pat, pk_us, pk_uLs, true_implies, forall_const, not_true_eq_false, not_false_eq_true, false_implies, and_true, true_and, implies_true, and_self, if_true, if_false, ite_true, ite_false, reduceIte, eq_self, Nat.reduceEqDiff, Nat.reduceLeDiff, Nat.reduceLT, Int32.reduceLT, Int32.reduceLE]
      refine hp tv tt (yl_do_items i (v + 1) (sy_do_same (fun j hj => ⟨(hlo j hj).1, (hlo j hj).2, rfl⟩) hd) (fun k hki => ?_))
      have h2 := hk k hki
      have e2 := sv_it_ch (sv_a w) v 0 k
      rw [Nat.zero_add] at e2
      rw [show sv_it (sv_a w) (v + 1) k = sv_ch (sv_a w) v k from e2]
      exact h2
    | succ m ih =>
      intro i x6 tv tt hi hx hlo hk
      have hic : i < c := by omega
      obtain ⟨a1, a2, a3⟩ := w5 i hic
      have hx2 := hx hic
      subst hx2
      have e6 : ¬ c ≤ i := by omega
      have eix : nI (rest.length + c - 1) - nI i = nI (rest.length + (c - 1 - i)) := by
        rw [pk_sub (by omega)]
        exact congrArg nI (by omega)
      rw [wY_plain_159]
      simp (disch := omega) only [e6, eix, eD, forall_eq, nI_leI, nI_ltI, nI_eq, vp_in_nI, nI_clamp, nI_1, li_e0, li_f0, li_l0, li_g0, li_m0, li_h0, li_e1, li_f1, li_l1, li_g1, li_m1, li_h1, li_e2, li_f2, li_l2, li_g2, li_m2, li_h2, li_e3, li_f3, li_l3, li_g3, li_m3, li_h3, li_e4, li_f4, li_l4, li_g4, li_m4, li_h4, li_e5, li_f5, li_l5, li_g5, li_m5, li_h5, li_e6, li_f6, li_l6, li_g6, li_m6, li_h6, li_e7, li_f7, li_l7, li_g7, li_m7, li_h7, li_e8, li_f8, li_l8, li_g8, li_m8, li_h8, li_e9, li_f9, li_l9, li_g9, li_m9, li_h9, li_e10, li_f10, li_l10, li_g10, li_m10, li_h10, li_e15, li_f15, li_l15, li_g15, li_m15, li_h15, li_e16, li_f16, li_l16, li_g16, li_m16, li_h16, li_e20, li_f20, li_l20, li_g20, li_m20, li_h20, li_e40, li_f40, li_l40, li_g40, li_m40, li_h40, li_e100, li_f100, li_l100, li_g100, li_m100, li_h100, li_e128, li_f128, li_l128, li_g128, li_m128, li_h128, li_e150, li_f150, li_l150, li_g150, li_m150, li_h150, li_e255, li_f255, li_l255, li_g255, li_m255, li_h255, li_e400, li_f400, li_l400, li_g400, li_m400, li_h400, li_e410, li_f410, li_l410, li_g410, li_m410, li_h410, li_e420, li_f420, li_l420, li_g420, li_m420, li_h420, li_e2000, li_f2000, li_l2000, li_g2000, li_m2000, li_h2000, li_e8200, li_f8200, li_l8200, li_g8200, li_m8200, li_h8200, li_e1000000, li_f1000000, li_l1000000, li_g1000000, li_m1000000, li_h1000000, li_50, li_50', li_200, li_200', nI_add, li_s1, li_t1, li_c1, li_c2, li_c3, li_c4, li_c5, li_c6, li_c7, li_c8, li_c9, li_c10, li_c11, li_c12, li_c13, li_c14, li_c15, sg_Kat, sg_Pat, pk_us, pk_uLs, true_implies, forall_const, not_true_eq_false, not_false_eq_true, false_implies, and_true, true_and, implies_true, and_self, if_true, if_false, ite_true, ite_false, reduceIte, eq_self, Nat.reduceEqDiff, Nat.reduceLeDiff, Nat.reduceLT, Int32.reduceLT, Int32.reduceLE]
      refine ih (i + 1) _ _ _ (by omega) (fun hi1 => t4 i hi1) (fun j hj => ?_) (fun k hk2 => ?_)
      · rw [pk_un (by omega), pk_un (by omega)]; exact hlo j hj
      · by_cases ek : k = i
        · subst ek; rw [pk_us, pk_us]; exact ⟨rfl, rfl⟩
        · rw [pk_un (by omega), pk_un (by omega)]; exact hk k (by omega)
  by_cases h0 : c = 0
  · subst h0
    exact ⟨1, H 0 0 (y_child v) _ _ rfl (fun z => absurd z (by omega)) (fun _ _ => ⟨rfl, rfl⟩) (fun k hk => absurd hk (by omega))⟩
  · rw [t3 (by omega)]
    exact ⟨c + 1, H c 0 _ _ _ (by omega) (fun _ => rfl) (fun _ _ => ⟨rfl, rfl⟩) (fun k hk => absurd hk (by omega))⟩
end
end
section
/-! the reference's resolving: an item as a whole, and the loop -/
section
variable {y_types y_byteCount y_writtenCount y_numberCount y_listCount y_values y_depth y_records y_at y_wrong y_todo : Int32}
variable {y_kind y_of y_parts y_fallback y_name y_part y_alias y_given y_has y_bytes y_written y_valueType y_start y_child y_last y_next y_open y_come y_left y_todoValue y_todoType y_todoDefault y_pair y_whole : Nat → Int32}
variable {y_numbers y_list y_value : Nat → Int64}
variable {g : sg_T} {w : sr_V} {L O : List Int64} {post : SY → Prop} {it : sr_I} {rest : List sr_I} {d : Nat} {lc tr : Int32} {a : Nat → Int64} {tv tt td : Nat → Int32}
/-- all that an item gives has been put -/
theorem yl_end {e : Int32} {new : List sr_I} {d' : Nat} (hs : sr_stp g w it d = (O, e, new, d')) (he : e = 0) (h : sl_out L O lc a tr) (hd : sy_do tv tt td (new ++ rest)) (HOK : ∀ (a : Nat → Int64) (tv tt td : Nat → Int32), (sr_stp g w it d).2.1 = 0 → L.length + (sr_stp g w it d).1.length ≤ 150 → sl_is (L ++ (sr_stp g w it d).1) a → sy_do tv tt td ((sr_stp g w it d).2.2.1 ++ rest) → post (nI (sg_n g), y_byteCount, y_writtenCount, y_numberCount, nI (L.length + (sr_stp g w it d).1.length), y_values, y_depth, nI (sr_stp g w it d).2.2.2, y_at, 0, nI ((sr_stp g w it d).2.2.1 ++ rest).length, sg_K g, y_of, sg_P g, sg_f g, y_name, y_part, y_alias, y_given, y_has, sv_b w, y_written, y_numbers, a, y_valueType, y_start, y_child, y_last, y_next, y_value, y_open, y_come, y_left, tv, tt, td, y_pair, y_whole)) (HTR : ∀ (e lc : Int32) (a : Nat → Int64) (todo rc : Int32) (tv tt td : Nat → Int32), sr_fin g w (it :: rest) d L e → ¬ e = 0 → post (nI (sg_n g), y_byteCount, y_writtenCount, y_numberCount, lc, y_values, y_depth, rc, y_at, e, todo, sg_K g, y_of, sg_P g, sg_f g, y_name, y_part, y_alias, y_given, y_has, sv_b w, y_written, y_numbers, a, y_valueType, y_start, y_child, y_last, y_next, y_value, y_open, y_come, y_left, tv, tt, td, y_pair, y_whole)) : post (nI (sg_n g), y_byteCount, y_writtenCount, y_numberCount, lc, y_values, y_depth, nI d', y_at, tr, nI (new ++ rest).length, sg_K g, y_of, sg_P g, sg_f g, y_name, y_part, y_alias, y_given, y_has, sv_b w, y_written, y_numbers, a, y_valueType, y_start, y_child, y_last, y_next, y_value, y_open, y_come, y_left, tv, tt, td, y_pair, y_whole) := by
  rcases h with ⟨h1, rfl, h3, rfl⟩ | ⟨h1, rfl, rfl⟩
  · have h4 := HOK a tv tt td (by rw [hs]; exact he) (by rw [hs]; exact h1) (by rw [hs]; exact h3) (by rw [hs]; exact hd)
    rw [hs] at h4
    exact h4
  · exact HTR (-7) _ _ _ _ _ _ _ (Or.inr ⟨it, _, rfl, Or.inl ⟨by rw [hs]; exact h1, rfl⟩⟩) (by decide)
/-- trouble, where it is not too many -/
theorem yl_bad {e : Int32} {new : List sr_I} {d' : Nat} (hs : sr_stp g w it d = (O, e, new, d')) (he : ¬ e = 0) (h : sl_out L O lc a tr) {todo rc : Int32} (HTR : ∀ (e lc : Int32) (a : Nat → Int64) (todo rc : Int32) (tv tt td : Nat → Int32), sr_fin g w (it :: rest) d L e → ¬ e = 0 → post (nI (sg_n g), y_byteCount, y_writtenCount, y_numberCount, lc, y_values, y_depth, rc, y_at, e, todo, sg_K g, y_of, sg_P g, sg_f g, y_name, y_part, y_alias, y_given, y_has, sv_b w, y_written, y_numbers, a, y_valueType, y_start, y_child, y_last, y_next, y_value, y_open, y_come, y_left, tv, tt, td, y_pair, y_whole)) : post (nI (sg_n g), y_byteCount, y_writtenCount, y_numberCount, lc, y_values, y_depth, rc, y_at, if tr = 0 then e else tr, todo, sg_K g, y_of, sg_P g, sg_f g, y_name, y_part, y_alias, y_given, y_has, sv_b w, y_written, y_numbers, a, y_valueType, y_start, y_child, y_last, y_next, y_value, y_open, y_come, y_left, tv, tt, td, y_pair, y_whole) := by
  rcases h with ⟨h1, rfl, h3, rfl⟩ | ⟨h1, rfl, rfl⟩
  · rw [if_pos rfl]
    exact HTR e _ _ _ _ _ _ _ (Or.inr ⟨it, _, rfl, Or.inr ⟨by rw [hs]; exact h1, by rw [hs], he⟩⟩) he
  · rw [if_neg (by decide)]
    exact HTR (-7) _ _ _ _ _ _ _ (Or.inr ⟨it, _, rfl, Or.inl ⟨by rw [hs]; exact h1, rfl⟩⟩) (by decide)
theorem yl_bytes {v f n kw t : Nat} {o : List Int64} (hv : v < 400) (hf : y_start v = nI f) (hn : f + n ≤ 100) (hkw : kw < 20) (h7 : ¬ sg_k g kw = 7) (k9 : sg_k g kw ≤ 9) (h : sl_out L o y_listCount y_list y_wrong)
    (hp : ∀ lc a tr, sl_out L (o ++ sr_by y_bytes n f) lc a tr → post (nI (sg_n g), y_byteCount, y_writtenCount, y_numberCount, lc, y_values, y_depth, y_records, y_at, tr, y_todo, sg_K g, y_of, sg_P g, sg_f g, y_name, y_part, y_alias, y_given, y_has, y_bytes, y_written, y_numbers, a, y_valueType, y_start, y_child, y_last, y_next, y_value, y_open, y_come, y_left, y_todoValue, y_todoType, y_todoDefault, y_pair, y_whole)) : ∃ n95, wY_plain_95 post (nI v) (nI kw) (nI t) (nI n) n95 0 (nI (sg_n g)) y_byteCount y_writtenCount y_numberCount y_listCount y_values y_depth y_records y_at y_wrong y_todo (sg_K g) y_of (sg_P g) (sg_f g) y_name y_part y_alias y_given y_has y_bytes y_written y_numbers y_list y_valueType y_start y_child y_last y_next y_value y_open y_come y_left y_todoValue y_todoType y_todoDefault y_pair y_whole := by
  have H : ∀ m i (o : List Int64) lc a tr, i + m = n → sl_out L o lc a tr → (∀ lc a tr, sl_out L (o ++ sr_by y_bytes m (f + i)) lc a tr → post (nI (sg_n g), y_byteCount, y_writtenCount, y_numberCount, lc, y_values, y_depth, y_records, y_at, tr, y_todo, sg_K g, y_of, sg_P g, sg_f g, y_name, y_part, y_alias, y_given, y_has, y_bytes, y_written, y_numbers, a, y_valueType, y_start, y_child, y_last, y_next, y_value, y_open, y_come, y_left, y_todoValue, y_todoType, y_todoDefault, y_pair, y_whole)) →
      wY_plain_95 post (nI v) (nI kw) (nI t) (nI n) (m + 1) (nI i) (nI (sg_n g)) y_byteCount y_writtenCount y_numberCount lc y_values y_depth y_records y_at tr y_todo (sg_K g) y_of (sg_P g) (sg_f g) y_name y_part y_alias y_given y_has y_bytes y_written y_numbers a y_valueType y_start y_child y_last y_next y_value y_open y_come y_left y_todoValue y_todoType y_todoDefault y_pair y_whole := by
    intro m
    induction m with
    | zero =>
      intro i o lc a tr hi h hp
      have hle : n ≤ i := by omega
      rw [wY_plain_95]
      simp (disch := omega) only [hle, h7, forall_eq, nI_leI, nI_ltI, nI_eq, vp_in_nI, nI_clamp, nI_1, li_e0, li_f0, li_l0, li_g0, li_m0, li_h0, li_e1, li_f1, li_l1, li_g1, li_m1, li_h1, li_e2, li_f2, li_l2, li_g2, li_m2, li_h2, li_e3, li_f3, li_l3, li_g3, li_m3, li_h3, li_e4, li_f4, li_l4, li_g4, li_m4, li_h4, li_e5, li_f5, li_l5, li_g5, li_m5, li_h5, li_e6, li_f6, li_l6, li_g6, li_m6, li_h6, li_e7, li_f7, li_l7, li_g7, li_m7, li_h7, li_e8, li_f8, li_l8, li_g8, li_m8, li_h8, li_e9, li_f9, li_l9, li_g9, li_m9, li_h9, li_e10, li_f10, li_l10, li_g10, li_m10, li_h10, li_e15, li_f15, li_l15, li_g15, li_m15, li_h15, li_e16, li_f16, li_l16, li_g16, li_m16, li_h16, li_e20, li_f20, li_l20, li_g20, li_m20, li_h20, li_e40, li_f40, li_l40, li_g40, li_m40, li_h40, li_e100, li_f100, li_l100, li_g100, li_m100, li_h100, li_e128, li_f128, li_l128, li_g128, li_m128, li_h128, li_e150, li_f150, li_l150, li_g150, li_m150, li_h150, li_e255, li_f255, li_l255, li_g255, li_m255, li_h255, li_e400, li_f400, li_l400, li_g400, li_m400, li_h400, li_e410, li_f410, li_l410, li_g410, li_m410, li_h410, li_e420, li_f420, li_l420, li_g420, li_m420, li_h420, li_e2000, li_f2000, li_l2000, li_g2000, li_m2000, li_h2000, li_e8200, li_f8200, li_l8200, li_g8200, li_m8200, li_h8200, li_e1000000, li_f1000000, li_l1000000, li_g1000000, li_m1000000, li_h1000000, li_50, li_50', li_200, li_200', nI_add, li_s1, li_t1, li_c1, li_c2, li_c3, li_c4, li_c5, li_c6, li_c7, li_c8, li_c9, li_c10, li_c11, li_c12, li_c13, li_c14, li_c15, sg_Kat, sg_Pat, pk_us, pk_uLs, true_implies, forall_const, not_true_eq_false, not_false_eq_true, false_implies, and_true, true_and, implies_true, and_self, if_true, if_false, ite_true, ite_false, reduceIte, eq_self, Nat.reduceEqDiff, Nat.reduceLeDiff, Nat.reduceLT, Int32.reduceLT, Int32.reduceLE]
      exact hp lc a tr (by rw [sr_by, List.append_nil]; exact h)
    | succ m ih =>
      intro i o lc a tr hi h hp
      have hlt : ¬ n ≤ i := by omega
      rw [wY_plain_95]
      simp (disch := omega) only [hlt, hf, forall_eq, nI_leI, nI_ltI, nI_eq, vp_in_nI, nI_clamp, nI_1, li_e0, li_f0, li_l0, li_g0, li_m0, li_h0, li_e1, li_f1, li_l1, li_g1, li_m1, li_h1, li_e2, li_f2, li_l2, li_g2, li_m2, li_h2, li_e3, li_f3, li_l3, li_g3, li_m3, li_h3, li_e4, li_f4, li_l4, li_g4, li_m4, li_h4, li_e5, li_f5, li_l5, li_g5, li_m5, li_h5, li_e6, li_f6, li_l6, li_g6, li_m6, li_h6, li_e7, li_f7, li_l7, li_g7, li_m7, li_h7, li_e8, li_f8, li_l8, li_g8, li_m8, li_h8, li_e9, li_f9, li_l9, li_g9, li_m9, li_h9, li_e10, li_f10, li_l10, li_g10, li_m10, li_h10, li_e15, li_f15, li_l15, li_g15, li_m15, li_h15, li_e16, li_f16, li_l16, li_g16, li_m16, li_h16, li_e20, li_f20, li_l20, li_g20, li_m20, li_h20, li_e40, li_f40, li_l40, li_g40, li_m40, li_h40, li_e100, li_f100, li_l100, li_g100, li_m100, li_h100, li_e128, li_f128, li_l128, li_g128, li_m128, li_h128, li_e150, li_f150, li_l150, li_g150, li_m150, li_h150, li_e255, li_f255, li_l255, li_g255, li_m255, li_h255, li_e400, li_f400, li_l400, li_g400, li_m400, li_h400, li_e410, li_f410, li_l410, li_g410, li_m410, li_h410, li_e420, li_f420, li_l420, li_g420, li_m420, li_h420, li_e2000, li_f2000, li_l2000, li_g2000, li_m2000, li_h2000, li_e8200, li_f8200, li_l8200, li_g8200, li_m8200, li_h8200, li_e1000000, li_f1000000, li_l1000000, li_g1000000, li_m1000000, li_h1000000, li_50, li_50', li_200, li_200', nI_add, li_s1, li_t1, li_c1, li_c2, li_c3, li_c4, li_c5, li_c6, li_c7, li_c8, li_c9, li_c10, li_c11, li_c12, li_c13, li_c14, li_c15, sg_Kat, sg_Pat, pk_us, pk_uLs, true_implies, forall_const, not_true_eq_false, not_false_eq_true, false_implies, and_true, true_and, implies_true, and_self, if_true, if_false, ite_true, ite_false, reduceIte, eq_self, Nat.reduceEqDiff, Nat.reduceLeDiff, Nat.reduceLT, Int32.reduceLT, Int32.reduceLE]
      refine yl_out _ h (fun lc' a' tr' h' => ?_)
      simp (disch := omega) only [forall_eq, nI_leI, nI_ltI, nI_eq, vp_in_nI, nI_clamp, nI_1, li_e0, li_f0, li_l0, li_g0, li_m0, li_h0, li_e1, li_f1, li_l1, li_g1, li_m1, li_h1, li_e2, li_f2, li_l2, li_g2, li_m2, li_h2, li_e3, li_f3, li_l3, li_g3, li_m3, li_h3, li_e4, li_f4, li_l4, li_g4, li_m4, li_h4, li_e5, li_f5, li_l5, li_g5, li_m5, li_h5, li_e6, li_f6, li_l6, li_g6, li_m6, li_h6, li_e7, li_f7, li_l7, li_g7, li_m7, li_h7, li_e8, li_f8, li_l8, li_g8, li_m8, li_h8, li_e9, li_f9, li_l9, li_g9, li_m9, li_h9, li_e10, li_f10, li_l10, li_g10, li_m10, li_h10, li_e15, li_f15, li_l15, li_g15, li_m15, li_h15, li_e16, li_f16, li_l16, li_g16, li_m16, li_h16, li_e20, li_f20, li_l20, li_g20, li_m20, li_h20, li_e40, li_f40, li_l40, li_g40, li_m40, li_h40, li_e100, li_f100, li_l100, li_g100, li_m100, li_h100, li_e128, li_f128, li_l128, li_g128, li_m128, li_h128, li_e150, li_f150, li_l150, li_g150, li_m150, li_h150, li_e255, li_f255, li_l255, li_g255, li_m255, li_h255, li_e400, li_f400, li_l400, li_g400, li_m400, li_h400, li_e410, li_f410, li_l410, li_g410, li_m410, li_h410, li_e420, li_f420, li_l420, li_g420, li_m420, li_h420, li_e2000, li_f2000, li_l2000, li_g2000, li_m2000, li_h2000, li_e8200, li_f8200, li_l8200, li_g8200, li_m8200, li_h8200, li_e1000000, li_f1000000, li_l1000000, li_g1000000, li_m1000000, li_h1000000, li_50, li_50', li_200, li_200', nI_add, li_s1, li_t1, li_c1, li_c2, li_c3, li_c4, li_c5, li_c6, li_c7, li_c8, li_c9, li_c10, li_c11, li_c12, li_c13, li_c14, li_c15, sg_Kat, sg_Pat, pk_us, pk_uLs, true_implies, forall_const, not_true_eq_false, not_false_eq_true, false_implies, and_true, true_and, implies_true, and_self, if_true, if_false, ite_true, ite_false, reduceIte, eq_self, Nat.reduceEqDiff, Nat.reduceLeDiff, Nat.reduceLT, Int32.reduceLT, Int32.reduceLE]
      refine ih (i + 1) _ lc' a' tr' (by omega) h' (fun lc a tr h'' => hp lc a tr ?_)
      rw [sr_by]
      rw [List.append_assoc] at h''
      exact h''
  exact ⟨n + 1, H n 0 o _ _ _ (by omega) h hp⟩
theorem yl_value (hg : sg_ok g) (hY : sg_Y g y_of y_name y_part y_alias y_has y_given) (hw : sv_ok g w) (ht : sy_tree g w y_valueType y_start y_child y_next y_value) {v t : Nat} {o : List Int64} (htn : t < sg_n g) (h8 : ¬ sg_k g t = 8) (hvm : v < sv_m w) (hsu : sg_su g (sv_t w v) t = true) (hb : rest.length + 60 ≤ 2000) (hd10 : d ≤ 10)
    (hs : sr_stp g w it d = (o ++ (sr_val g w v t d).1, (sr_val g w v t d).2)) (h : sl_out L o lc a tr) (hd : sy_do tv tt td rest) (HOK : ∀ (a : Nat → Int64) (tv tt td : Nat → Int32), (sr_stp g w it d).2.1 = 0 → L.length + (sr_stp g w it d).1.length ≤ 150 → sl_is (L ++ (sr_stp g w it d).1) a → sy_do tv tt td ((sr_stp g w it d).2.2.1 ++ rest) → post (nI (sg_n g), y_byteCount, y_writtenCount, y_numberCount, nI (L.length + (sr_stp g w it d).1.length), y_values, y_depth, nI (sr_stp g w it d).2.2.2, y_at, 0, nI ((sr_stp g w it d).2.2.1 ++ rest).length, sg_K g, y_of, sg_P g, sg_f g, y_name, y_part, y_alias, y_given, y_has, sv_b w, y_written, y_numbers, a, y_valueType, y_start, y_child, y_last, y_next, y_value, y_open, y_come, y_left, tv, tt, td, y_pair, y_whole)) (HTR : ∀ (e lc : Int32) (a : Nat → Int64) (todo rc : Int32) (tv tt td : Nat → Int32), sr_fin g w (it :: rest) d L e → ¬ e = 0 → post (nI (sg_n g), y_byteCount, y_writtenCount, y_numberCount, lc, y_values, y_depth, rc, y_at, e, todo, sg_K g, y_of, sg_P g, sg_f g, y_name, y_part, y_alias, y_given, y_has, sv_b w, y_written, y_numbers, a, y_valueType, y_start, y_child, y_last, y_next, y_value, y_open, y_come, y_left, tv, tt, td, y_pair, y_whole)) :
    wY_turn_90 post (nI v) (nI (sv_t w v)) (nI t) (nI (sg_n g)) y_byteCount y_writtenCount y_numberCount lc y_values y_depth (nI d) y_at tr (nI rest.length) (sg_K g) y_of (sg_P g) (sg_f g) y_name y_part y_alias y_given y_has (sv_b w) y_written y_numbers a y_valueType y_start y_child y_last y_next y_value y_open y_come y_left tv tt td y_pair y_whole := by
  have hn := hg.1
  have k9 := hg.2.1 t
  have k9' := hg.2.1 (sv_t w v)
  have hm4 := hw.1
  obtain ⟨t1, t2, t3, t4, t5, t6⟩ := ht v hvm
  obtain ⟨w1, w2, w3, w4, w5, w6, w7, w8, w9, w10⟩ := hw.2 v hvm
  have hsk := sr_su_k hsu
  unfold wY_turn_90
  refine yt_suits hg hY w1 htn ?_
  rw [if_pos hsu]
  unfold sr_val at hs
  by_cases h9 : sg_k g t = 9
  · have e9 : sg_k g (sv_t w v) = 9 := by
      clear t3 t4 t5 t6 w4 w5 w6 w7 w8 w9 w10 hs
      omega
    rw [if_neg (by omega), if_neg (by omega), if_neg (by omega), if_neg (by omega), if_pos h9] at hs
    have er : (sr_rec g w v t d).1 = [] := by
      unfold sr_rec
      split <;> rfl
    rw [er, List.append_nil] at hs
    have p5 := hg.2.2.1 t
    simp (disch := omega) only [e9, forall_eq, nI_leI, nI_ltI, nI_eq, vp_in_nI, nI_clamp, nI_1, li_e0, li_f0, li_l0, li_g0, li_m0, li_h0, li_e1, li_f1, li_l1, li_g1, li_m1, li_h1, li_e2, li_f2, li_l2, li_g2, li_m2, li_h2, li_e3, li_f3, li_l3, li_g3, li_m3, li_h3, li_e4, li_f4, li_l4, li_g4, li_m4, li_h4, li_e5, li_f5, li_l5, li_g5, li_m5, li_h5, li_e6, li_f6, li_l6, li_g6, li_m6, li_h6, li_e7, li_f7, li_l7, li_g7, li_m7, li_h7, li_e8, li_f8, li_l8, li_g8, li_m8, li_h8, li_e9, li_f9, li_l9, li_g9, li_m9, li_h9, li_e10, li_f10, li_l10, li_g10, li_m10, li_h10, li_e15, li_f15, li_l15, li_g15, li_m15, li_h15, li_e16, li_f16, li_l16, li_g16, li_m16, li_h16, li_e20, li_f20, li_l20, li_g20, li_m20, li_h20, li_e40, li_f40, li_l40, li_g40, li_m40, li_h40, li_e100, li_f100, li_l100, li_g100, li_m100, li_h100, li_e128, li_f128, li_l128, li_g128, li_m128, li_h128, li_e150, li_f150, li_l150, li_g150, li_m150, li_h150, li_e255, li_f255, li_l255, li_g255, li_m255, li_h255, li_e400, li_f400, li_l400, li_g400, li_m400, li_h400, li_e410, li_f410, li_l410, li_g410, li_m410, li_h410, li_e420, li_f420, li_l420, li_g420, li_m420, li_h420, li_e2000, li_f2000, li_l2000, li_g2000, li_m2000, li_h2000, li_e8200, li_f8200, li_l8200, li_g8200, li_m8200, li_h8200, li_e1000000, li_f1000000, li_l1000000, li_g1000000, li_m1000000, li_h1000000, li_50, li_50', li_200, li_200', nI_add, li_s1, li_t1, li_c1, li_c2, li_c3, li_c4, li_c5, li_c6, li_c7, li_c8, li_c9, li_c10, li_c11, li_c12, li_c13, li_c14, li_c15, sg_Kat, sg_Pat, pk_us, pk_uLs, true_implies, forall_const, not_true_eq_false, not_false_eq_true, false_implies, and_true, true_and, implies_true, and_self, if_true, if_false, ite_true, ite_false, reduceIte, eq_self, Nat.reduceEqDiff, Nat.reduceLeDiff, Nat.reduceLT, Int32.reduceLT, Int32.reduceLE]
    unfold wpY_fields
    refine yl_enter (rest := rest) (by omega) (by omega) rfl hd (fun tv tt td hd2 => ?_)
    simp (disch := omega) only [forall_eq, nI_leI, nI_ltI, nI_eq, vp_in_nI, nI_clamp, nI_1, li_e0, li_f0, li_l0, li_g0, li_m0, li_h0, li_e1, li_f1, li_l1, li_g1, li_m1, li_h1, li_e2, li_f2, li_l2, li_g2, li_m2, li_h2, li_e3, li_f3, li_l3, li_g3, li_m3, li_h3, li_e4, li_f4, li_l4, li_g4, li_m4, li_h4, li_e5, li_f5, li_l5, li_g5, li_m5, li_h5, li_e6, li_f6, li_l6, li_g6, li_m6, li_h6, li_e7, li_f7, li_l7, li_g7, li_m7, li_h7, li_e8, li_f8, li_l8, li_g8, li_m8, li_h8, li_e9, li_f9, li_l9, li_g9, li_m9, li_h9, li_e10, li_f10, li_l10, li_g10, li_m10, li_h10, li_e15, li_f15, li_l15, li_g15, li_m15, li_h15, li_e16, li_f16, li_l16, li_g16, li_m16, li_h16, li_e20, li_f20, li_l20, li_g20, li_m20, li_h20, li_e40, li_f40, li_l40, li_g40, li_m40, li_h40, li_e100, li_f100, li_l100, li_g100, li_m100, li_h100, li_e128, li_f128, li_l128, li_g128, li_m128, li_h128, li_e150, li_f150, li_l150, li_g150, li_m150, li_h150, li_e255, li_f255, li_l255, li_g255, li_m255, li_h255, li_e400, li_f400, li_l400, li_g400, li_m400, li_h400, li_e410, li_f410, li_l410, li_g410, li_m410, li_h410, li_e420, li_f420, li_l420, li_g420, li_m420, li_h420, li_e2000, li_f2000, li_l2000, li_g2000, li_m2000, li_h2000, li_e8200, li_f8200, li_l8200, li_g8200, li_m8200, li_h8200, li_e1000000, li_f1000000, li_l1000000, li_g1000000, li_m1000000, li_h1000000, li_50, li_50', li_200, li_200', nI_add, li_s1, li_t1, li_c1, li_c2, li_c3, li_c4, li_c5, li_c6, li_c7, li_c8, li_c9, li_c10, li_c11, li_c12, li_c13, li_c14, li_c15, sg_Kat, sg_Pat, pk_us, pk_uLs, true_implies, forall_const, not_true_eq_false, not_false_eq_true, false_implies, and_true, true_and, implies_true, and_self, if_true, if_false, ite_true, ite_false, reduceIte, eq_self, Nat.reduceEqDiff, Nat.reduceLeDiff, Nat.reduceLT, Int32.reduceLT, Int32.reduceLE]
    refine ⟨sg_p g t + 1, yl_fieldsV (w := w) (rest := rest) hg hY hw ht htn h9 hvm e9 (by omega) (fun tv tt td hd3 => ?_) (sg_p g t) 0 tv tt td (by omega) hd2⟩
    unfold sr_rec at hs
    by_cases hd0 : d = 10
    · rw [if_pos hd0] at hs
      rw [if_pos hd0]
      exact yl_bad hs (by decide) h HTR
    · rw [if_neg hd0] at hs
      rw [if_neg hd0]
      have h5 := yl_end hs rfl h hd3 HOK HTR
      have e5 : (sr_fs g w v t (sg_p g t) 0 ++ rest).length = rest.length + 1 + sg_p g t := by
        rw [List.length_append, sr_fs_len]; omega
      rw [e5] at h5
      have e6 : (if tr = 0 then (0 : Int32) else tr) = tr := by
        split
        · rename_i z; exact z.symm
        · rfl
      rw [e6]
      exact h5
  by_cases h5 : sg_k g t = 5
  · have e5 : sg_k g (sv_t w v) = 5 := by
      clear t3 t4 t5 t6 w4 w5 w6 w7 w8 w9 w10 hs
      omega
    rw [if_neg (by omega), if_pos h5] at hs
    obtain ⟨s, s1, s2, s3⟩ := t6 e5
    have p5 := hg.2.2.1 (sv_t w v)
    have pt5 := hg.2.2.1 t
    have m16 := hg.2.2.2.2.2.2.1 _ s w1 s1 (by omega)
    have eN := hY.2.1 _ s w1 s1 (by omega)
    have ev : (sv_n w v).toInt32 = nI (sg_m g (5 * sv_t w v + s)) := by rw [s3, lN_i]
    rw [ev] at hs
    simp (disch := omega) only [e5, s2, lN_i, eN, forall_eq, nI_leI, nI_ltI, nI_eq, vp_in_nI, nI_clamp, nI_1, li_e0, li_f0, li_l0, li_g0, li_m0, li_h0, li_e1, li_f1, li_l1, li_g1, li_m1, li_h1, li_e2, li_f2, li_l2, li_g2, li_m2, li_h2, li_e3, li_f3, li_l3, li_g3, li_m3, li_h3, li_e4, li_f4, li_l4, li_g4, li_m4, li_h4, li_e5, li_f5, li_l5, li_g5, li_m5, li_h5, li_e6, li_f6, li_l6, li_g6, li_m6, li_h6, li_e7, li_f7, li_l7, li_g7, li_m7, li_h7, li_e8, li_f8, li_l8, li_g8, li_m8, li_h8, li_e9, li_f9, li_l9, li_g9, li_m9, li_h9, li_e10, li_f10, li_l10, li_g10, li_m10, li_h10, li_e15, li_f15, li_l15, li_g15, li_m15, li_h15, li_e16, li_f16, li_l16, li_g16, li_m16, li_h16, li_e20, li_f20, li_l20, li_g20, li_m20, li_h20, li_e40, li_f40, li_l40, li_g40, li_m40, li_h40, li_e100, li_f100, li_l100, li_g100, li_m100, li_h100, li_e128, li_f128, li_l128, li_g128, li_m128, li_h128, li_e150, li_f150, li_l150, li_g150, li_m150, li_h150, li_e255, li_f255, li_l255, li_g255, li_m255, li_h255, li_e400, li_f400, li_l400, li_g400, li_m400, li_h400, li_e410, li_f410, li_l410, li_g410, li_m410, li_h410, li_e420, li_f420, li_l420, li_g420, li_m420, li_h420, li_e2000, li_f2000, li_l2000, li_g2000, li_m2000, li_h2000, li_e8200, li_f8200, li_l8200, li_g8200, li_m8200, li_h8200, li_e1000000, li_f1000000, li_l1000000, li_g1000000, li_m1000000, li_h1000000, li_50, li_50', li_200, li_200', nI_add, li_s1, li_t1, li_c1, li_c2, li_c3, li_c4, li_c5, li_c6, li_c7, li_c8, li_c9, li_c10, li_c11, li_c12, li_c13, li_c14, li_c15, sg_Kat, sg_Pat, pk_us, pk_uLs, true_implies, forall_const, not_true_eq_false, not_false_eq_true, false_implies, and_true, true_and, implies_true, and_self, if_true, if_false, ite_true, ite_false, reduceIte, eq_self, Nat.reduceEqDiff, Nat.reduceLeDiff, Nat.reduceLT, Int32.reduceLT, Int32.reduceLE]
    refine yt_find hg hY htn (by omega) _ ?_
    by_cases e : sg_find g t (nI (sg_m g (5 * sv_t w v + s))) = none
    · rw [if_pos e] at hs
      rw [e]
      rcases hg.2.2.2.2.2.2.2.2.2.2.1 t htn with hf | ⟨fb, fb1, fb2⟩
      · rw [if_pos hf, List.append_nil] at hs
        have hb2 := yl_bad (tv := tv) (tt := tt) (td := td) (todo := nI rest.length) (rc := nI d) hs (by decide) h HTR
        by_cases htr : tr = 0
        · rw [if_pos htr] at hb2
          simp (disch := omega) only [sd_oi, wY_turn_186, wY_turn_204, hf, htr, forall_eq, nI_leI, nI_ltI, nI_eq, vp_in_nI, nI_clamp, nI_1, li_e0, li_f0, li_l0, li_g0, li_m0, li_h0, li_e1, li_f1, li_l1, li_g1, li_m1, li_h1, li_e2, li_f2, li_l2, li_g2, li_m2, li_h2, li_e3, li_f3, li_l3, li_g3, li_m3, li_h3, li_e4, li_f4, li_l4, li_g4, li_m4, li_h4, li_e5, li_f5, li_l5, li_g5, li_m5, li_h5, li_e6, li_f6, li_l6, li_g6, li_m6, li_h6, li_e7, li_f7, li_l7, li_g7, li_m7, li_h7, li_e8, li_f8, li_l8, li_g8, li_m8, li_h8, li_e9, li_f9, li_l9, li_g9, li_m9, li_h9, li_e10, li_f10, li_l10, li_g10, li_m10, li_h10, li_e15, li_f15, li_l15, li_g15, li_m15, li_h15, li_e16, li_f16, li_l16, li_g16, li_m16, li_h16, li_e20, li_f20, li_l20, li_g20, li_m20, li_h20, li_e40, li_f40, li_l40, li_g40, li_m40, li_h40, li_e100, li_f100, li_l100, li_g100, li_m100, li_h100, li_e128, li_f128, li_l128, li_g128, li_m128, li_h128, li_e150, li_f150, li_l150, li_g150, li_m150, li_h150, li_e255, li_f255, li_l255, li_g255, li_m255, li_h255, li_e400, li_f400, li_l400, li_g400, li_m400, li_h400, li_e410, li_f410, li_l410, li_g410, li_m410, li_h410, li_e420, li_f420, li_l420, li_g420, li_m420, li_h420, li_e2000, li_f2000, li_l2000, li_g2000, li_m2000, li_h2000, li_e8200, li_f8200, li_l8200, li_g8200, li_m8200, li_h8200, li_e1000000, li_f1000000, li_l1000000, li_g1000000, li_m1000000, li_h1000000, li_50, li_50', li_200, li_200', nI_add, li_s1, li_t1, li_c1, li_c2, li_c3, li_c4, li_c5, li_c6, li_c7, li_c8, li_c9, li_c10, li_c11, li_c12, li_c13, li_c14, li_c15, sg_Kat, sg_Pat, pk_us, pk_uLs, true_implies, forall_const, not_true_eq_false, not_false_eq_true, false_implies, and_true, true_and, implies_true, and_self, if_true, if_false, ite_true, ite_false, reduceIte, eq_self, Nat.reduceEqDiff, Nat.reduceLeDiff, Nat.reduceLT, Int32.reduceLT, Int32.reduceLE]
          exact yl_outTr (by decide) hb2
        · rw [if_neg htr] at hb2
          simp (disch := omega) only [sd_oi, wY_turn_186, wY_turn_204, hf, htr, forall_eq, nI_leI, nI_ltI, nI_eq, vp_in_nI, nI_clamp, nI_1, li_e0, li_f0, li_l0, li_g0, li_m0, li_h0, li_e1, li_f1, li_l1, li_g1, li_m1, li_h1, li_e2, li_f2, li_l2, li_g2, li_m2, li_h2, li_e3, li_f3, li_l3, li_g3, li_m3, li_h3, li_e4, li_f4, li_l4, li_g4, li_m4, li_h4, li_e5, li_f5, li_l5, li_g5, li_m5, li_h5, li_e6, li_f6, li_l6, li_g6, li_m6, li_h6, li_e7, li_f7, li_l7, li_g7, li_m7, li_h7, li_e8, li_f8, li_l8, li_g8, li_m8, li_h8, li_e9, li_f9, li_l9, li_g9, li_m9, li_h9, li_e10, li_f10, li_l10, li_g10, li_m10, li_h10, li_e15, li_f15, li_l15, li_g15, li_m15, li_h15, li_e16, li_f16, li_l16, li_g16, li_m16, li_h16, li_e20, li_f20, li_l20, li_g20, li_m20, li_h20, li_e40, li_f40, li_l40, li_g40, li_m40, li_h40, li_e100, li_f100, li_l100, li_g100, li_m100, li_h100, li_e128, li_f128, li_l128, li_g128, li_m128, li_h128, li_e150, li_f150, li_l150, li_g150, li_m150, li_h150, li_e255, li_f255, li_l255, li_g255, li_m255, li_h255, li_e400, li_f400, li_l400, li_g400, li_m400, li_h400, li_e410, li_f410, li_l410, li_g410, li_m410, li_h410, li_e420, li_f420, li_l420, li_g420, li_m420, li_h420, li_e2000, li_f2000, li_l2000, li_g2000, li_m2000, li_h2000, li_e8200, li_f8200, li_l8200, li_g8200, li_m8200, li_h8200, li_e1000000, li_f1000000, li_l1000000, li_g1000000, li_m1000000, li_h1000000, li_50, li_50', li_200, li_200', nI_add, li_s1, li_t1, li_c1, li_c2, li_c3, li_c4, li_c5, li_c6, li_c7, li_c8, li_c9, li_c10, li_c11, li_c12, li_c13, li_c14, li_c15, sg_Kat, sg_Pat, pk_us, pk_uLs, true_implies, forall_const, not_true_eq_false, not_false_eq_true, false_implies, and_true, true_and, implies_true, and_self, if_true, if_false, ite_true, ite_false, reduceIte, eq_self, Nat.reduceEqDiff, Nat.reduceLeDiff, Nat.reduceLT, Int32.reduceLT, Int32.reduceLE]
          exact yl_outTr htr hb2
      · have hf : ¬ sg_f g t = -1 := by rw [fb2]; exact li_neg (by omega)
        have hf2 : (0 : Int32) ≤ sg_f g t := by rw [fb2]; exact nI_pos' (by omega)
        rw [if_neg hf] at hs
        simp (disch := omega) only [sd_oi, wY_turn_186, wY_turn_204, hf2, forall_eq, nI_leI, nI_ltI, nI_eq, vp_in_nI, nI_clamp, nI_1, li_e0, li_f0, li_l0, li_g0, li_m0, li_h0, li_e1, li_f1, li_l1, li_g1, li_m1, li_h1, li_e2, li_f2, li_l2, li_g2, li_m2, li_h2, li_e3, li_f3, li_l3, li_g3, li_m3, li_h3, li_e4, li_f4, li_l4, li_g4, li_m4, li_h4, li_e5, li_f5, li_l5, li_g5, li_m5, li_h5, li_e6, li_f6, li_l6, li_g6, li_m6, li_h6, li_e7, li_f7, li_l7, li_g7, li_m7, li_h7, li_e8, li_f8, li_l8, li_g8, li_m8, li_h8, li_e9, li_f9, li_l9, li_g9, li_m9, li_h9, li_e10, li_f10, li_l10, li_g10, li_m10, li_h10, li_e15, li_f15, li_l15, li_g15, li_m15, li_h15, li_e16, li_f16, li_l16, li_g16, li_m16, li_h16, li_e20, li_f20, li_l20, li_g20, li_m20, li_h20, li_e40, li_f40, li_l40, li_g40, li_m40, li_h40, li_e100, li_f100, li_l100, li_g100, li_m100, li_h100, li_e128, li_f128, li_l128, li_g128, li_m128, li_h128, li_e150, li_f150, li_l150, li_g150, li_m150, li_h150, li_e255, li_f255, li_l255, li_g255, li_m255, li_h255, li_e400, li_f400, li_l400, li_g400, li_m400, li_h400, li_e410, li_f410, li_l410, li_g410, li_m410, li_h410, li_e420, li_f420, li_l420, li_g420, li_m420, li_h420, li_e2000, li_f2000, li_l2000, li_g2000, li_m2000, li_h2000, li_e8200, li_f8200, li_l8200, li_g8200, li_m8200, li_h8200, li_e1000000, li_f1000000, li_l1000000, li_g1000000, li_m1000000, li_h1000000, li_50, li_50', li_200, li_200', nI_add, li_s1, li_t1, li_c1, li_c2, li_c3, li_c4, li_c5, li_c6, li_c7, li_c8, li_c9, li_c10, li_c11, li_c12, li_c13, li_c14, li_c15, sg_Kat, sg_Pat, pk_us, pk_uLs, true_implies, forall_const, not_true_eq_false, not_false_eq_true, false_implies, and_true, true_and, implies_true, and_self, if_true, if_false, ite_true, ite_false, reduceIte, eq_self, Nat.reduceEqDiff, Nat.reduceLeDiff, Nat.reduceLT, Int32.reduceLT, Int32.reduceLE]
        refine yl_out _ h (fun lc a tr h' => ?_)
        exact yl_end hs rfl h' hd HOK HTR
    · rw [if_neg e] at hs
      cases e2 : sg_find g t (nI (sg_m g (5 * sv_t w v + s))) with
      | none => exact absurd e2 e
      | some q =>
        have hq := sg_find_lt e2
        simp (disch := omega) only [sd_oi, wY_turn_186, wY_turn_204, Nat.zero_le, forall_eq, nI_leI, nI_ltI, nI_eq, vp_in_nI, nI_clamp, nI_1, li_e0, li_f0, li_l0, li_g0, li_m0, li_h0, li_e1, li_f1, li_l1, li_g1, li_m1, li_h1, li_e2, li_f2, li_l2, li_g2, li_m2, li_h2, li_e3, li_f3, li_l3, li_g3, li_m3, li_h3, li_e4, li_f4, li_l4, li_g4, li_m4, li_h4, li_e5, li_f5, li_l5, li_g5, li_m5, li_h5, li_e6, li_f6, li_l6, li_g6, li_m6, li_h6, li_e7, li_f7, li_l7, li_g7, li_m7, li_h7, li_e8, li_f8, li_l8, li_g8, li_m8, li_h8, li_e9, li_f9, li_l9, li_g9, li_m9, li_h9, li_e10, li_f10, li_l10, li_g10, li_m10, li_h10, li_e15, li_f15, li_l15, li_g15, li_m15, li_h15, li_e16, li_f16, li_l16, li_g16, li_m16, li_h16, li_e20, li_f20, li_l20, li_g20, li_m20, li_h20, li_e40, li_f40, li_l40, li_g40, li_m40, li_h40, li_e100, li_f100, li_l100, li_g100, li_m100, li_h100, li_e128, li_f128, li_l128, li_g128, li_m128, li_h128, li_e150, li_f150, li_l150, li_g150, li_m150, li_h150, li_e255, li_f255, li_l255, li_g255, li_m255, li_h255, li_e400, li_f400, li_l400, li_g400, li_m400, li_h400, li_e410, li_f410, li_l410, li_g410, li_m410, li_h410, li_e420, li_f420, li_l420, li_g420, li_m420, li_h420, li_e2000, li_f2000, li_l2000, li_g2000, li_m2000, li_h2000, li_e8200, li_f8200, li_l8200, li_g8200, li_m8200, li_h8200, li_e1000000, li_f1000000, li_l1000000, li_g1000000, li_m1000000, li_h1000000, li_50, li_50', li_200, li_200', nI_add, li_s1, li_t1, li_c1, li_c2, li_c3, li_c4, li_c5, li_c6, li_c7, li_c8, li_c9, li_c10, li_c11, li_c12, li_c13, li_c14, li_c15, sg_Kat, sg_Pat, pk_us, pk_uLs, true_implies, forall_const, not_true_eq_false, not_false_eq_true, false_implies, and_true, true_and, implies_true, and_self, if_true, if_false, ite_true, ite_false, reduceIte, eq_self, Nat.reduceEqDiff, Nat.reduceLeDiff, Nat.reduceLT, Int32.reduceLT, Int32.reduceLE]
        refine yl_out _ h (fun lc a tr h' => ?_)
        exact yl_end hs rfl h' hd HOK HTR
  have n9 : ¬ sg_k g (sv_t w v) = 9 := by
    clear t3 t4 t5 t6 w4 w5 w6 w7 w8 w9 w10 hs
    omega
  have n5 : ¬ sg_k g (sv_t w v) = 5 := by
    clear t3 t4 t5 t6 w4 w5 w6 w7 w8 w9 w10 hs
    omega
  have n8 : ¬ sg_k g (sv_t w v) = 8 := by
    clear t3 t4 t5 t6 w4 w5 w6 w7 w8 w9 w10 hs
    omega
  rw [if_neg h5] at hs
  by_cases h4 : sg_k g t = 4
  · have e4 : sg_k g (sv_t w v) = 4 := by
      clear t3 t4 t5 t6 w4 w5 w6 w7 w8 w9 w10 hs
      omega
    rw [if_pos h4] at hs
    obtain ⟨c, c1, c2, c3⟩ := w6 e4
    have ec : (sv_n w v).toInt32.toNatClampNeg = c := by rw [c2, lN_i, nI_clamp (by omega)]
    have ev := t5 (Or.inl (by omega))
    rw [ec] at hs
    simp (disch := omega) only [e4, wpY_plain, wY_plain_14, wpY_in, wY_plain_39, ev, forall_eq, nI_leI, nI_ltI, nI_eq, vp_in_nI, nI_clamp, nI_1, li_e0, li_f0, li_l0, li_g0, li_m0, li_h0, li_e1, li_f1, li_l1, li_g1, li_m1, li_h1, li_e2, li_f2, li_l2, li_g2, li_m2, li_h2, li_e3, li_f3, li_l3, li_g3, li_m3, li_h3, li_e4, li_f4, li_l4, li_g4, li_m4, li_h4, li_e5, li_f5, li_l5, li_g5, li_m5, li_h5, li_e6, li_f6, li_l6, li_g6, li_m6, li_h6, li_e7, li_f7, li_l7, li_g7, li_m7, li_h7, li_e8, li_f8, li_l8, li_g8, li_m8, li_h8, li_e9, li_f9, li_l9, li_g9, li_m9, li_h9, li_e10, li_f10, li_l10, li_g10, li_m10, li_h10, li_e15, li_f15, li_l15, li_g15, li_m15, li_h15, li_e16, li_f16, li_l16, li_g16, li_m16, li_h16, li_e20, li_f20, li_l20, li_g20, li_m20, li_h20, li_e40, li_f40, li_l40, li_g40, li_m40, li_h40, li_e100, li_f100, li_l100, li_g100, li_m100, li_h100, li_e128, li_f128, li_l128, li_g128, li_m128, li_h128, li_e150, li_f150, li_l150, li_g150, li_m150, li_h150, li_e255, li_f255, li_l255, li_g255, li_m255, li_h255, li_e400, li_f400, li_l400, li_g400, li_m400, li_h400, li_e410, li_f410, li_l410, li_g410, li_m410, li_h410, li_e420, li_f420, li_l420, li_g420, li_m420, li_h420, li_e2000, li_f2000, li_l2000, li_g2000, li_m2000, li_h2000, li_e8200, li_f8200, li_l8200, li_g8200, li_m8200, li_h8200, li_e1000000, li_f1000000, li_l1000000, li_g1000000, li_m1000000, li_h1000000, li_50, li_50', li_200, li_200', nI_add, li_s1, li_t1, li_c1, li_c2, li_c3, li_c4, li_c5, li_c6, li_c7, li_c8, li_c9, li_c10, li_c11, li_c12, li_c13, li_c14, li_c15, sg_Kat, sg_Pat, pk_us, pk_uLs, true_implies, forall_const, not_true_eq_false, not_false_eq_true, false_implies, and_true, true_and, implies_true, and_self, if_true, if_false, ite_true, ite_false, reduceIte, eq_self, Nat.reduceEqDiff, Nat.reduceLeDiff, Nat.reduceLT, Int32.reduceLT, Int32.reduceLE]
    refine yl_out _ h (fun lc a tr h' => ?_)
    simp (disch := omega) only [e4, wY_plain_49, ev, c2, lN_i, forall_eq, nI_leI, nI_ltI, nI_eq, vp_in_nI, nI_clamp, nI_1, li_e0, li_f0, li_l0, li_g0, li_m0, li_h0, li_e1, li_f1, li_l1, li_g1, li_m1, li_h1, li_e2, li_f2, li_l2, li_g2, li_m2, li_h2, li_e3, li_f3, li_l3, li_g3, li_m3, li_h3, li_e4, li_f4, li_l4, li_g4, li_m4, li_h4, li_e5, li_f5, li_l5, li_g5, li_m5, li_h5, li_e6, li_f6, li_l6, li_g6, li_m6, li_h6, li_e7, li_f7, li_l7, li_g7, li_m7, li_h7, li_e8, li_f8, li_l8, li_g8, li_m8, li_h8, li_e9, li_f9, li_l9, li_g9, li_m9, li_h9, li_e10, li_f10, li_l10, li_g10, li_m10, li_h10, li_e15, li_f15, li_l15, li_g15, li_m15, li_h15, li_e16, li_f16, li_l16, li_g16, li_m16, li_h16, li_e20, li_f20, li_l20, li_g20, li_m20, li_h20, li_e40, li_f40, li_l40, li_g40, li_m40, li_h40, li_e100, li_f100, li_l100, li_g100, li_m100, li_h100, li_e128, li_f128, li_l128, li_g128, li_m128, li_h128, li_e150, li_f150, li_l150, li_g150, li_m150, li_h150, li_e255, li_f255, li_l255, li_g255, li_m255, li_h255, li_e400, li_f400, li_l400, li_g400, li_m400, li_h400, li_e410, li_f410, li_l410, li_g410, li_m410, li_h410, li_e420, li_f420, li_l420, li_g420, li_m420, li_h420, li_e2000, li_f2000, li_l2000, li_g2000, li_m2000, li_h2000, li_e8200, li_f8200, li_l8200, li_g8200, li_m8200, li_h8200, li_e1000000, li_f1000000, li_l1000000, li_g1000000, li_m1000000, li_h1000000, li_50, li_50', li_200, li_200', nI_add, li_s1, li_t1, li_c1, li_c2, li_c3, li_c4, li_c5, li_c6, li_c7, li_c8, li_c9, li_c10, li_c11, li_c12, li_c13, li_c14, li_c15, sg_Kat, sg_Pat, pk_us, pk_uLs, true_implies, forall_const, not_true_eq_false, not_false_eq_true, false_implies, and_true, true_and, implies_true, and_self, if_true, if_false, ite_true, ite_false, reduceIte, eq_self, Nat.reduceEqDiff, Nat.reduceLeDiff, Nat.reduceLT, Int32.reduceLT, Int32.reduceLE]
    refine yl_bytes (f := sv_f w v) (by omega) (t2 (Or.inl e4)) (by omega) (by omega) (by omega) (by omega) h' (fun lc a tr h'' => ?_)
    rw [List.append_assoc] at h''
    exact yl_end hs rfl h'' hd HOK HTR
  rw [if_neg h4] at hs
  by_cases h6 : sg_k g t = 6
  · have e6 : sg_k g (sv_t w v) = 6 := by
      clear t3 t4 t5 t6 w4 w5 w6 w7 w8 w9 w10 hs
      omega
    rw [if_pos h6] at hs
    have ed := hY.1 _ w1 (Or.inl e6)
    have e7 : sg_d g (sv_t w v) = sg_d g t := by
      have h7 := of_decide_eq_true hsu
      rcases h7 with h7 | h7
      · exact h7.2 e6
      · omega
    have c3 := w8 e6
    rw [e7] at ed c3
    simp (disch := omega) only [e6, wpY_plain, wY_plain_14, wpY_in, wY_plain_49, ed, forall_eq, nI_leI, nI_ltI, nI_eq, vp_in_nI, nI_clamp, nI_1, li_e0, li_f0, li_l0, li_g0, li_m0, li_h0, li_e1, li_f1, li_l1, li_g1, li_m1, li_h1, li_e2, li_f2, li_l2, li_g2, li_m2, li_h2, li_e3, li_f3, li_l3, li_g3, li_m3, li_h3, li_e4, li_f4, li_l4, li_g4, li_m4, li_h4, li_e5, li_f5, li_l5, li_g5, li_m5, li_h5, li_e6, li_f6, li_l6, li_g6, li_m6, li_h6, li_e7, li_f7, li_l7, li_g7, li_m7, li_h7, li_e8, li_f8, li_l8, li_g8, li_m8, li_h8, li_e9, li_f9, li_l9, li_g9, li_m9, li_h9, li_e10, li_f10, li_l10, li_g10, li_m10, li_h10, li_e15, li_f15, li_l15, li_g15, li_m15, li_h15, li_e16, li_f16, li_l16, li_g16, li_m16, li_h16, li_e20, li_f20, li_l20, li_g20, li_m20, li_h20, li_e40, li_f40, li_l40, li_g40, li_m40, li_h40, li_e100, li_f100, li_l100, li_g100, li_m100, li_h100, li_e128, li_f128, li_l128, li_g128, li_m128, li_h128, li_e150, li_f150, li_l150, li_g150, li_m150, li_h150, li_e255, li_f255, li_l255, li_g255, li_m255, li_h255, li_e400, li_f400, li_l400, li_g400, li_m400, li_h400, li_e410, li_f410, li_l410, li_g410, li_m410, li_h410, li_e420, li_f420, li_l420, li_g420, li_m420, li_h420, li_e2000, li_f2000, li_l2000, li_g2000, li_m2000, li_h2000, li_e8200, li_f8200, li_l8200, li_g8200, li_m8200, li_h8200, li_e1000000, li_f1000000, li_l1000000, li_g1000000, li_m1000000, li_h1000000, li_50, li_50', li_200, li_200', nI_add, li_s1, li_t1, li_c1, li_c2, li_c3, li_c4, li_c5, li_c6, li_c7, li_c8, li_c9, li_c10, li_c11, li_c12, li_c13, li_c14, li_c15, sg_Kat, sg_Pat, pk_us, pk_uLs, true_implies, forall_const, not_true_eq_false, not_false_eq_true, false_implies, and_true, true_and, implies_true, and_self, if_true, if_false, ite_true, ite_false, reduceIte, eq_self, Nat.reduceEqDiff, Nat.reduceLeDiff, Nat.reduceLT, Int32.reduceLT, Int32.reduceLE]
    refine yl_bytes (f := sv_f w v) (by omega) (t2 (Or.inr e6)) (by omega) (by omega) (by omega) (by omega) h (fun lc a tr h'' => ?_)
    exact yl_end hs rfl h'' hd HOK HTR
  rw [if_neg h6] at hs
  by_cases h7 : sg_k g t = 7
  · have e7 : sg_k g (sv_t w v) = 7 := by
      clear t3 t4 t5 t6 w4 w5 w6 w7 w8 w9 w10 hs
      omega
    rw [if_pos h7] at hs
    obtain ⟨c, c1, c2⟩ := w9 e7
    have ec : (sv_n w v).toInt32.toNatClampNeg = c := by rw [c2, lN_i, nI_clamp (by omega)]
    have ev := t5 (Or.inr e7)
    rw [ec] at hs
    simp (disch := omega) only [e7, wpY_plain, wY_plain_14, wpY_in, wY_plain_39, ev, forall_eq, nI_leI, nI_ltI, nI_eq, vp_in_nI, nI_clamp, nI_1, li_e0, li_f0, li_l0, li_g0, li_m0, li_h0, li_e1, li_f1, li_l1, li_g1, li_m1, li_h1, li_e2, li_f2, li_l2, li_g2, li_m2, li_h2, li_e3, li_f3, li_l3, li_g3, li_m3, li_h3, li_e4, li_f4, li_l4, li_g4, li_m4, li_h4, li_e5, li_f5, li_l5, li_g5, li_m5, li_h5, li_e6, li_f6, li_l6, li_g6, li_m6, li_h6, li_e7, li_f7, li_l7, li_g7, li_m7, li_h7, li_e8, li_f8, li_l8, li_g8, li_m8, li_h8, li_e9, li_f9, li_l9, li_g9, li_m9, li_h9, li_e10, li_f10, li_l10, li_g10, li_m10, li_h10, li_e15, li_f15, li_l15, li_g15, li_m15, li_h15, li_e16, li_f16, li_l16, li_g16, li_m16, li_h16, li_e20, li_f20, li_l20, li_g20, li_m20, li_h20, li_e40, li_f40, li_l40, li_g40, li_m40, li_h40, li_e100, li_f100, li_l100, li_g100, li_m100, li_h100, li_e128, li_f128, li_l128, li_g128, li_m128, li_h128, li_e150, li_f150, li_l150, li_g150, li_m150, li_h150, li_e255, li_f255, li_l255, li_g255, li_m255, li_h255, li_e400, li_f400, li_l400, li_g400, li_m400, li_h400, li_e410, li_f410, li_l410, li_g410, li_m410, li_h410, li_e420, li_f420, li_l420, li_g420, li_m420, li_h420, li_e2000, li_f2000, li_l2000, li_g2000, li_m2000, li_h2000, li_e8200, li_f8200, li_l8200, li_g8200, li_m8200, li_h8200, li_e1000000, li_f1000000, li_l1000000, li_g1000000, li_m1000000, li_h1000000, li_50, li_50', li_200, li_200', nI_add, li_s1, li_t1, li_c1, li_c2, li_c3, li_c4, li_c5, li_c6, li_c7, li_c8, li_c9, li_c10, li_c11, li_c12, li_c13, li_c14, li_c15, sg_Kat, sg_Pat, pk_us, pk_uLs, true_implies, forall_const, not_true_eq_false, not_false_eq_true, false_implies, and_true, true_and, implies_true, and_self, if_true, if_false, ite_true, ite_false, reduceIte, eq_self, Nat.reduceEqDiff, Nat.reduceLeDiff, Nat.reduceLT, Int32.reduceLT, Int32.reduceLE]
    refine yl_out _ h (fun lc a tr h' => ?_)
    simp (disch := omega) only [e7, wY_plain_49, forall_eq, nI_leI, nI_ltI, nI_eq, vp_in_nI, nI_clamp, nI_1, li_e0, li_f0, li_l0, li_g0, li_m0, li_h0, li_e1, li_f1, li_l1, li_g1, li_m1, li_h1, li_e2, li_f2, li_l2, li_g2, li_m2, li_h2, li_e3, li_f3, li_l3, li_g3, li_m3, li_h3, li_e4, li_f4, li_l4, li_g4, li_m4, li_h4, li_e5, li_f5, li_l5, li_g5, li_m5, li_h5, li_e6, li_f6, li_l6, li_g6, li_m6, li_h6, li_e7, li_f7, li_l7, li_g7, li_m7, li_h7, li_e8, li_f8, li_l8, li_g8, li_m8, li_h8, li_e9, li_f9, li_l9, li_g9, li_m9, li_h9, li_e10, li_f10, li_l10, li_g10, li_m10, li_h10, li_e15, li_f15, li_l15, li_g15, li_m15, li_h15, li_e16, li_f16, li_l16, li_g16, li_m16, li_h16, li_e20, li_f20, li_l20, li_g20, li_m20, li_h20, li_e40, li_f40, li_l40, li_g40, li_m40, li_h40, li_e100, li_f100, li_l100, li_g100, li_m100, li_h100, li_e128, li_f128, li_l128, li_g128, li_m128, li_h128, li_e150, li_f150, li_l150, li_g150, li_m150, li_h150, li_e255, li_f255, li_l255, li_g255, li_m255, li_h255, li_e400, li_f400, li_l400, li_g400, li_m400, li_h400, li_e410, li_f410, li_l410, li_g410, li_m410, li_h410, li_e420, li_f420, li_l420, li_g420, li_m420, li_h420, li_e2000, li_f2000, li_l2000, li_g2000, li_m2000, li_h2000, li_e8200, li_f8200, li_l8200, li_g8200, li_m8200, li_h8200, li_e1000000, li_f1000000, li_l1000000, li_g1000000, li_m1000000, li_h1000000, li_50, li_50', li_200, li_200', nI_add, li_s1, li_t1, li_c1, li_c2, li_c3, li_c4, li_c5, li_c6, li_c7, li_c8, li_c9, li_c10, li_c11, li_c12, li_c13, li_c14, li_c15, sg_Kat, sg_Pat, pk_us, pk_uLs, true_implies, forall_const, not_true_eq_false, not_false_eq_true, false_implies, and_true, true_and, implies_true, and_self, if_true, if_false, ite_true, ite_false, reduceIte, eq_self, Nat.reduceEqDiff, Nat.reduceLeDiff, Nat.reduceLT, Int32.reduceLT, Int32.reduceLE]
    refine ⟨1, ?_⟩
    rw [wY_plain_95]
    simp (disch := omega) only [e7, ev, c2, lN_i, Int32.le_refl, forall_eq, nI_leI, nI_ltI, nI_eq, vp_in_nI, nI_clamp, nI_1, li_e0, li_f0, li_l0, li_g0, li_m0, li_h0, li_e1, li_f1, li_l1, li_g1, li_m1, li_h1, li_e2, li_f2, li_l2, li_g2, li_m2, li_h2, li_e3, li_f3, li_l3, li_g3, li_m3, li_h3, li_e4, li_f4, li_l4, li_g4, li_m4, li_h4, li_e5, li_f5, li_l5, li_g5, li_m5, li_h5, li_e6, li_f6, li_l6, li_g6, li_m6, li_h6, li_e7, li_f7, li_l7, li_g7, li_m7, li_h7, li_e8, li_f8, li_l8, li_g8, li_m8, li_h8, li_e9, li_f9, li_l9, li_g9, li_m9, li_h9, li_e10, li_f10, li_l10, li_g10, li_m10, li_h10, li_e15, li_f15, li_l15, li_g15, li_m15, li_h15, li_e16, li_f16, li_l16, li_g16, li_m16, li_h16, li_e20, li_f20, li_l20, li_g20, li_m20, li_h20, li_e40, li_f40, li_l40, li_g40, li_m40, li_h40, li_e100, li_f100, li_l100, li_g100, li_m100, li_h100, li_e128, li_f128, li_l128, li_g128, li_m128, li_h128, li_e150, li_f150, li_l150, li_g150, li_m150, li_h150, li_e255, li_f255, li_l255, li_g255, li_m255, li_h255, li_e400, li_f400, li_l400, li_g400, li_m400, li_h400, li_e410, li_f410, li_l410, li_g410, li_m410, li_h410, li_e420, li_f420, li_l420, li_g420, li_m420, li_h420, li_e2000, li_f2000, li_l2000, li_g2000, li_m2000, li_h2000, li_e8200, li_f8200, li_l8200, li_g8200, li_m8200, li_h8200, li_e1000000, li_f1000000, li_l1000000, li_g1000000, li_m1000000, li_h1000000, li_50, li_50', li_200, li_200', nI_add, li_s1, li_t1, li_c1, li_c2, li_c3, li_c4, li_c5, li_c6, li_c7, li_c8, li_c9, li_c10, li_c11, li_c12, li_c13, li_c14, li_c15, sg_Kat, sg_Pat, pk_us, pk_uLs, true_implies, forall_const, not_true_eq_false, not_false_eq_true, false_implies, and_true, true_and, implies_true, and_self, if_true, if_false, ite_true, ite_false, reduceIte, eq_self, Nat.reduceEqDiff, Nat.reduceLeDiff, Nat.reduceLT, Int32.reduceLT, Int32.reduceLE]
    refine yl_items (rest := rest) (c := c) hg hY hw ht htn h7 hvm e7 c2 c1 (by omega) hd (fun tv tt hd2 => ?_)
    have h5 := yl_end hs rfl h' hd2 HOK HTR
    have e5 : (sr_items w (sg_d g t) c (v + 1) ++ rest).length = rest.length + c := by
      rw [List.length_append, sr_items_len]; omega
    rw [e5] at h5
    exact h5
  rw [if_neg h7, if_neg h9] at hs
  have n4 : ¬ sg_k g (sv_t w v) = 4 := by
    clear t3 t4 t5 t6 w4 w5 w6 w7 w8 w9 w10 hs
    omega
  have n6 : ¬ sg_k g (sv_t w v) = 6 := by
    clear t3 t4 t5 t6 w4 w5 w6 w7 w8 w9 w10 hs
    omega
  have n7 : ¬ sg_k g (sv_t w v) = 7 := by
    clear t3 t4 t5 t6 w4 w5 w6 w7 w8 w9 w10 hs
    omega
  have fin : ∀ lc a tr, sl_out L (o ++ [sv_n w v]) lc a tr → ∃ n95, wY_plain_95 post (nI v) (nI (sv_t w v)) (nI t) 0 n95 0 (nI (sg_n g)) y_byteCount y_writtenCount y_numberCount lc y_values y_depth (nI d) y_at tr (nI rest.length) (sg_K g) y_of (sg_P g) (sg_f g) y_name y_part y_alias y_given y_has (sv_b w) y_written y_numbers a y_valueType y_start y_child y_last y_next y_value y_open y_come y_left tv tt td y_pair y_whole := by
    intro lc a tr h'
    refine ⟨1, ?_⟩
    rw [wY_plain_95]
    simp (disch := omega) only [n7, Int32.le_refl, forall_eq, nI_leI, nI_ltI, nI_eq, vp_in_nI, nI_clamp, nI_1, li_e0, li_f0, li_l0, li_g0, li_m0, li_h0, li_e1, li_f1, li_l1, li_g1, li_m1, li_h1, li_e2, li_f2, li_l2, li_g2, li_m2, li_h2, li_e3, li_f3, li_l3, li_g3, li_m3, li_h3, li_e4, li_f4, li_l4, li_g4, li_m4, li_h4, li_e5, li_f5, li_l5, li_g5, li_m5, li_h5, li_e6, li_f6, li_l6, li_g6, li_m6, li_h6, li_e7, li_f7, li_l7, li_g7, li_m7, li_h7, li_e8, li_f8, li_l8, li_g8, li_m8, li_h8, li_e9, li_f9, li_l9, li_g9, li_m9, li_h9, li_e10, li_f10, li_l10, li_g10, li_m10, li_h10, li_e15, li_f15, li_l15, li_g15, li_m15, li_h15, li_e16, li_f16, li_l16, li_g16, li_m16, li_h16, li_e20, li_f20, li_l20, li_g20, li_m20, li_h20, li_e40, li_f40, li_l40, li_g40, li_m40, li_h40, li_e100, li_f100, li_l100, li_g100, li_m100, li_h100, li_e128, li_f128, li_l128, li_g128, li_m128, li_h128, li_e150, li_f150, li_l150, li_g150, li_m150, li_h150, li_e255, li_f255, li_l255, li_g255, li_m255, li_h255, li_e400, li_f400, li_l400, li_g400, li_m400, li_h400, li_e410, li_f410, li_l410, li_g410, li_m410, li_h410, li_e420, li_f420, li_l420, li_g420, li_m420, li_h420, li_e2000, li_f2000, li_l2000, li_g2000, li_m2000, li_h2000, li_e8200, li_f8200, li_l8200, li_g8200, li_m8200, li_h8200, li_e1000000, li_f1000000, li_l1000000, li_g1000000, li_m1000000, li_h1000000, li_50, li_50', li_200, li_200', nI_add, li_s1, li_t1, li_c1, li_c2, li_c3, li_c4, li_c5, li_c6, li_c7, li_c8, li_c9, li_c10, li_c11, li_c12, li_c13, li_c14, li_c15, sg_Kat, sg_Pat, pk_us, pk_uLs, true_implies, forall_const, not_true_eq_false, not_false_eq_true, false_implies, and_true, true_and, implies_true, and_self, if_true, if_false, ite_true, ite_false, reduceIte, eq_self, Nat.reduceEqDiff, Nat.reduceLeDiff, Nat.reduceLT, Int32.reduceLT, Int32.reduceLE]
    exact yl_end hs rfl h' hd HOK HTR
  by_cases h0 : sg_k g (sv_t w v) = 0
  · have ev := w10 h0
    simp (disch := omega) only [h0, wpY_plain, forall_eq, nI_leI, nI_ltI, nI_eq, vp_in_nI, nI_clamp, nI_1, li_e0, li_f0, li_l0, li_g0, li_m0, li_h0, li_e1, li_f1, li_l1, li_g1, li_m1, li_h1, li_e2, li_f2, li_l2, li_g2, li_m2, li_h2, li_e3, li_f3, li_l3, li_g3, li_m3, li_h3, li_e4, li_f4, li_l4, li_g4, li_m4, li_h4, li_e5, li_f5, li_l5, li_g5, li_m5, li_h5, li_e6, li_f6, li_l6, li_g6, li_m6, li_h6, li_e7, li_f7, li_l7, li_g7, li_m7, li_h7, li_e8, li_f8, li_l8, li_g8, li_m8, li_h8, li_e9, li_f9, li_l9, li_g9, li_m9, li_h9, li_e10, li_f10, li_l10, li_g10, li_m10, li_h10, li_e15, li_f15, li_l15, li_g15, li_m15, li_h15, li_e16, li_f16, li_l16, li_g16, li_m16, li_h16, li_e20, li_f20, li_l20, li_g20, li_m20, li_h20, li_e40, li_f40, li_l40, li_g40, li_m40, li_h40, li_e100, li_f100, li_l100, li_g100, li_m100, li_h100, li_e128, li_f128, li_l128, li_g128, li_m128, li_h128, li_e150, li_f150, li_l150, li_g150, li_m150, li_h150, li_e255, li_f255, li_l255, li_g255, li_m255, li_h255, li_e400, li_f400, li_l400, li_g400, li_m400, li_h400, li_e410, li_f410, li_l410, li_g410, li_m410, li_h410, li_e420, li_f420, li_l420, li_g420, li_m420, li_h420, li_e2000, li_f2000, li_l2000, li_g2000, li_m2000, li_h2000, li_e8200, li_f8200, li_l8200, li_g8200, li_m8200, li_h8200, li_e1000000, li_f1000000, li_l1000000, li_g1000000, li_m1000000, li_h1000000, li_50, li_50', li_200, li_200', nI_add, li_s1, li_t1, li_c1, li_c2, li_c3, li_c4, li_c5, li_c6, li_c7, li_c8, li_c9, li_c10, li_c11, li_c12, li_c13, li_c14, li_c15, sg_Kat, sg_Pat, pk_us, pk_uLs, true_implies, forall_const, not_true_eq_false, not_false_eq_true, false_implies, and_true, true_and, implies_true, and_self, if_true, if_false, ite_true, ite_false, reduceIte, eq_self, Nat.reduceEqDiff, Nat.reduceLeDiff, Nat.reduceLT, Int32.reduceLT, Int32.reduceLE]
    refine yl_out _ h (fun lc a tr h' => ?_)
    simp (disch := omega) only [h0, wY_plain_14, wpY_in, wY_plain_49, forall_eq, nI_leI, nI_ltI, nI_eq, vp_in_nI, nI_clamp, nI_1, li_e0, li_f0, li_l0, li_g0, li_m0, li_h0, li_e1, li_f1, li_l1, li_g1, li_m1, li_h1, li_e2, li_f2, li_l2, li_g2, li_m2, li_h2, li_e3, li_f3, li_l3, li_g3, li_m3, li_h3, li_e4, li_f4, li_l4, li_g4, li_m4, li_h4, li_e5, li_f5, li_l5, li_g5, li_m5, li_h5, li_e6, li_f6, li_l6, li_g6, li_m6, li_h6, li_e7, li_f7, li_l7, li_g7, li_m7, li_h7, li_e8, li_f8, li_l8, li_g8, li_m8, li_h8, li_e9, li_f9, li_l9, li_g9, li_m9, li_h9, li_e10, li_f10, li_l10, li_g10, li_m10, li_h10, li_e15, li_f15, li_l15, li_g15, li_m15, li_h15, li_e16, li_f16, li_l16, li_g16, li_m16, li_h16, li_e20, li_f20, li_l20, li_g20, li_m20, li_h20, li_e40, li_f40, li_l40, li_g40, li_m40, li_h40, li_e100, li_f100, li_l100, li_g100, li_m100, li_h100, li_e128, li_f128, li_l128, li_g128, li_m128, li_h128, li_e150, li_f150, li_l150, li_g150, li_m150, li_h150, li_e255, li_f255, li_l255, li_g255, li_m255, li_h255, li_e400, li_f400, li_l400, li_g400, li_m400, li_h400, li_e410, li_f410, li_l410, li_g410, li_m410, li_h410, li_e420, li_f420, li_l420, li_g420, li_m420, li_h420, li_e2000, li_f2000, li_l2000, li_g2000, li_m2000, li_h2000, li_e8200, li_f8200, li_l8200, li_g8200, li_m8200, li_h8200, li_e1000000, li_f1000000, li_l1000000, li_g1000000, li_m1000000, li_h1000000, li_50, li_50', li_200, li_200', nI_add, li_s1, li_t1, li_c1, li_c2, li_c3, li_c4, li_c5, li_c6, li_c7, li_c8, li_c9, li_c10, li_c11, li_c12, li_c13, li_c14, li_c15, sg_Kat, sg_Pat, pk_us, pk_uLs, true_implies, forall_const, not_true_eq_false, not_false_eq_true, false_implies, and_true, true_and, implies_true, and_self, if_true, if_false, ite_true, ite_false, reduceIte, eq_self, Nat.reduceEqDiff, Nat.reduceLeDiff, Nat.reduceLT, Int32.reduceLT, Int32.reduceLE]
    exact fin lc a tr (by rw [ev]; exact h')
  · have h13 : 1 ≤ sg_k g (sv_t w v) ∧ sg_k g (sv_t w v) ≤ 4 := by
      clear t3 t4 t5 t6 w4 w5 w6 w7 w8 w9 w10 hs fin
      omega
    have ev := t5 (Or.inl h13)
    have q1 : ¬ sg_k g (sv_t w v) < 1 := by omega
    have q2 : ¬ 4 < sg_k g (sv_t w v) := by omega
    simp (disch := omega) only [h0, n9, n5, wpY_plain, wY_plain_14, wpY_in, wY_plain_39, q1, q2, ev, forall_eq, nI_leI, nI_ltI, nI_eq, vp_in_nI, nI_clamp, nI_1, li_e0, li_f0, li_l0, li_g0, li_m0, li_h0, li_e1, li_f1, li_l1, li_g1, li_m1, li_h1, li_e2, li_f2, li_l2, li_g2, li_m2, li_h2, li_e3, li_f3, li_l3, li_g3, li_m3, li_h3, li_e4, li_f4, li_l4, li_g4, li_m4, li_h4, li_e5, li_f5, li_l5, li_g5, li_m5, li_h5, li_e6, li_f6, li_l6, li_g6, li_m6, li_h6, li_e7, li_f7, li_l7, li_g7, li_m7, li_h7, li_e8, li_f8, li_l8, li_g8, li_m8, li_h8, li_e9, li_f9, li_l9, li_g9, li_m9, li_h9, li_e10, li_f10, li_l10, li_g10, li_m10, li_h10, li_e15, li_f15, li_l15, li_g15, li_m15, li_h15, li_e16, li_f16, li_l16, li_g16, li_m16, li_h16, li_e20, li_f20, li_l20, li_g20, li_m20, li_h20, li_e40, li_f40, li_l40, li_g40, li_m40, li_h40, li_e100, li_f100, li_l100, li_g100, li_m100, li_h100, li_e128, li_f128, li_l128, li_g128, li_m128, li_h128, li_e150, li_f150, li_l150, li_g150, li_m150, li_h150, li_e255, li_f255, li_l255, li_g255, li_m255, li_h255, li_e400, li_f400, li_l400, li_g400, li_m400, li_h400, li_e410, li_f410, li_l410, li_g410, li_m410, li_h410, li_e420, li_f420, li_l420, li_g420, li_m420, li_h420, li_e2000, li_f2000, li_l2000, li_g2000, li_m2000, li_h2000, li_e8200, li_f8200, li_l8200, li_g8200, li_m8200, li_h8200, li_e1000000, li_f1000000, li_l1000000, li_g1000000, li_m1000000, li_h1000000, li_50, li_50', li_200, li_200', nI_add, li_s1, li_t1, li_c1, li_c2, li_c3, li_c4, li_c5, li_c6, li_c7, li_c8, li_c9, li_c10, li_c11, li_c12, li_c13, li_c14, li_c15, sg_Kat, sg_Pat, pk_us, pk_uLs, true_implies, forall_const, not_true_eq_false, not_false_eq_true, false_implies, and_true, true_and, implies_true, and_self, if_true, if_false, ite_true, ite_false, reduceIte, eq_self, Nat.reduceEqDiff, Nat.reduceLeDiff, Nat.reduceLT, Int32.reduceLT, Int32.reduceLE]
    refine yl_out _ h (fun lc a tr h' => ?_)
    simp (disch := omega) only [n4, n6, wY_plain_49, forall_eq, nI_leI, nI_ltI, nI_eq, vp_in_nI, nI_clamp, nI_1, li_e0, li_f0, li_l0, li_g0, li_m0, li_h0, li_e1, li_f1, li_l1, li_g1, li_m1, li_h1, li_e2, li_f2, li_l2, li_g2, li_m2, li_h2, li_e3, li_f3, li_l3, li_g3, li_m3, li_h3, li_e4, li_f4, li_l4, li_g4, li_m4, li_h4, li_e5, li_f5, li_l5, li_g5, li_m5, li_h5, li_e6, li_f6, li_l6, li_g6, li_m6, li_h6, li_e7, li_f7, li_l7, li_g7, li_m7, li_h7, li_e8, li_f8, li_l8, li_g8, li_m8, li_h8, li_e9, li_f9, li_l9, li_g9, li_m9, li_h9, li_e10, li_f10, li_l10, li_g10, li_m10, li_h10, li_e15, li_f15, li_l15, li_g15, li_m15, li_h15, li_e16, li_f16, li_l16, li_g16, li_m16, li_h16, li_e20, li_f20, li_l20, li_g20, li_m20, li_h20, li_e40, li_f40, li_l40, li_g40, li_m40, li_h40, li_e100, li_f100, li_l100, li_g100, li_m100, li_h100, li_e128, li_f128, li_l128, li_g128, li_m128, li_h128, li_e150, li_f150, li_l150, li_g150, li_m150, li_h150, li_e255, li_f255, li_l255, li_g255, li_m255, li_h255, li_e400, li_f400, li_l400, li_g400, li_m400, li_h400, li_e410, li_f410, li_l410, li_g410, li_m410, li_h410, li_e420, li_f420, li_l420, li_g420, li_m420, li_h420, li_e2000, li_f2000, li_l2000, li_g2000, li_m2000, li_h2000, li_e8200, li_f8200, li_l8200, li_g8200, li_m8200, li_h8200, li_e1000000, li_f1000000, li_l1000000, li_g1000000, li_m1000000, li_h1000000, li_50, li_50', li_200, li_200', nI_add, li_s1, li_t1, li_c1, li_c2, li_c3, li_c4, li_c5, li_c6, li_c7, li_c8, li_c9, li_c10, li_c11, li_c12, li_c13, li_c14, li_c15, sg_Kat, sg_Pat, pk_us, pk_uLs, true_implies, forall_const, not_true_eq_false, not_false_eq_true, false_implies, and_true, true_and, implies_true, and_self, if_true, if_false, ite_true, ite_false, reduceIte, eq_self, Nat.reduceEqDiff, Nat.reduceLeDiff, Nat.reduceLT, Int32.reduceLT, Int32.reduceLE]
    exact fin lc a tr h'
end
end
section
/-! the reference's resolving: turn, byDefault, the loop -/
section
variable {y_types y_byteCount y_writtenCount y_numberCount y_listCount y_values y_depth y_records y_at y_wrong y_todo : Int32}
variable {y_kind y_of y_parts y_fallback y_name y_part y_alias y_given y_has y_bytes y_written y_valueType y_start y_child y_last y_next y_open y_come y_left y_todoValue y_todoType y_todoDefault y_pair y_whole : Nat → Int32}
variable {y_numbers y_list y_value : Nat → Int64}
variable {g : sg_T} {w : sr_V} {L O : List Int64} {post : SY → Prop} {it : sr_I} {rest : List sr_I} {d : Nat} {lc tr : Int32} {a : Nat → Int64} {tv tt td : Nat → Int32}
theorem yl_turn (hg : sg_ok g) (hY : sg_Y g y_of y_name y_part y_alias y_has y_given) (hw : sv_ok g w) (ht : sy_tree g w y_valueType y_start y_child y_next y_value) {f t : Nat} (hit : it = (0, f, t, 0)) (htn : t < sg_n g) (hfm : f < sv_m w) (hb : rest.length + 60 ≤ 2000) (hd10 : d ≤ 10) (hL : L.length ≤ 150)
    (h : sl_is L a) (hd : sy_do tv tt td rest) (HOK : ∀ (a : Nat → Int64) (tv tt td : Nat → Int32), (sr_stp g w it d).2.1 = 0 → L.length + (sr_stp g w it d).1.length ≤ 150 → sl_is (L ++ (sr_stp g w it d).1) a → sy_do tv tt td ((sr_stp g w it d).2.2.1 ++ rest) → post (nI (sg_n g), y_byteCount, y_writtenCount, y_numberCount, nI (L.length + (sr_stp g w it d).1.length), y_values, y_depth, nI (sr_stp g w it d).2.2.2, y_at, 0, nI ((sr_stp g w it d).2.2.1 ++ rest).length, sg_K g, y_of, sg_P g, sg_f g, y_name, y_part, y_alias, y_given, y_has, sv_b w, y_written, y_numbers, a, y_valueType, y_start, y_child, y_last, y_next, y_value, y_open, y_come, y_left, tv, tt, td, y_pair, y_whole)) (HTR : ∀ (e lc : Int32) (a : Nat → Int64) (todo rc : Int32) (tv tt td : Nat → Int32), sr_fin g w (it :: rest) d L e → ¬ e = 0 → post (nI (sg_n g), y_byteCount, y_writtenCount, y_numberCount, lc, y_values, y_depth, rc, y_at, e, todo, sg_K g, y_of, sg_P g, sg_f g, y_name, y_part, y_alias, y_given, y_has, sv_b w, y_written, y_numbers, a, y_valueType, y_start, y_child, y_last, y_next, y_value, y_open, y_come, y_left, tv, tt, td, y_pair, y_whole)) :
    wpY_turn post (nI (sg_n g), y_byteCount, y_writtenCount, y_numberCount, nI L.length, y_values, y_depth, nI d, y_at, 0, nI rest.length, sg_K g, y_of, sg_P g, sg_f g, y_name, y_part, y_alias, y_given, y_has, sv_b w, y_written, y_numbers, a, y_valueType, y_start, y_child, y_last, y_next, y_value, y_open, y_come, y_left, tv, tt, td, y_pair, y_whole) (nI f) (nI t) := by
  have hn := hg.1
  have hm4 := hw.1
  have k9 := hg.2.1 t
  have k9' := hg.2.1 (sv_t w f)
  have w1 := (hw.2 f hfm).1
  obtain ⟨t1, t2, t3, t4, t5, t6⟩ := ht f hfm
  obtain ⟨in1, in2, in3⟩ := sr_in_ok hw hfm
  have h0 := sl_out0 h hL
  have hst : sr_stp g w it d = sr_turn g w f t d := by rw [hit]; exact if_pos rfl
  have main : wY_turn_26 post (nI t) (nI (sr_in g w f)) (nI (sg_n g)) y_byteCount y_writtenCount y_numberCount (nI L.length) y_values y_depth (nI d) y_at 0 (nI rest.length) (sg_K g) y_of (sg_P g) (sg_f g) y_name y_part y_alias y_given y_has (sv_b w) y_written y_numbers a y_valueType y_start y_child y_last y_next y_value y_open y_come y_left tv tt td y_pair y_whole := by
    have w2 := (hw.2 _ in1).1
    have t2 := (ht _ in1).1
    unfold sr_turn at hst
    by_cases h8 : sg_k g t = 8
    · rw [if_pos h8] at hst
      simp (disch := omega) only [wY_turn_26, t2, h8, forall_eq, nI_leI, nI_ltI, nI_eq, vp_in_nI, nI_clamp, nI_1, li_e0, li_f0, li_l0, li_g0, li_m0, li_h0, li_e1, li_f1, li_l1, li_g1, li_m1, li_h1, li_e2, li_f2, li_l2, li_g2, li_m2, li_h2, li_e3, li_f3, li_l3, li_g3, li_m3, li_h3, li_e4, li_f4, li_l4, li_g4, li_m4, li_h4, li_e5, li_f5, li_l5, li_g5, li_m5, li_h5, li_e6, li_f6, li_l6, li_g6, li_m6, li_h6, li_e7, li_f7, li_l7, li_g7, li_m7, li_h7, li_e8, li_f8, li_l8, li_g8, li_m8, li_h8, li_e9, li_f9, li_l9, li_g9, li_m9, li_h9, li_e10, li_f10, li_l10, li_g10, li_m10, li_h10, li_e15, li_f15, li_l15, li_g15, li_m15, li_h15, li_e16, li_f16, li_l16, li_g16, li_m16, li_h16, li_e20, li_f20, li_l20, li_g20, li_m20, li_h20, li_e40, li_f40, li_l40, li_g40, li_m40, li_h40, li_e100, li_f100, li_l100, li_g100, li_m100, li_h100, li_e128, li_f128, li_l128, li_g128, li_m128, li_h128, li_e150, li_f150, li_l150, li_g150, li_m150, li_h150, li_e255, li_f255, li_l255, li_g255, li_m255, li_h255, li_e400, li_f400, li_l400, li_g400, li_m400, li_h400, li_e410, li_f410, li_l410, li_g410, li_m410, li_h410, li_e420, li_f420, li_l420, li_g420, li_m420, li_h420, li_e2000, li_f2000, li_l2000, li_g2000, li_m2000, li_h2000, li_e8200, li_f8200, li_l8200, li_g8200, li_m8200, li_h8200, li_e1000000, li_f1000000, li_l1000000, li_g1000000, li_m1000000, li_h1000000, li_50, li_50', li_200, li_200', nI_add, li_s1, li_t1, li_c1, li_c2, li_c3, li_c4, li_c5, li_c6, li_c7, li_c8, li_c9, li_c10, li_c11, li_c12, li_c13, li_c14, li_c15, sg_Kat, sg_Pat, pk_us, pk_uLs, true_implies, forall_const, not_true_eq_false, not_false_eq_true, false_implies, and_true, true_and, implies_true, and_self, if_true, if_false, ite_true, ite_false, reduceIte, eq_self, Nat.reduceEqDiff, Nat.reduceLeDiff, Nat.reduceLT, Int32.reduceLT, Int32.reduceLE]
      refine yt_branchFor hg hY w2 htn h8 ?_
      cases e : sg_br g (sv_t w (sr_in g w f)) t with
      | none =>
        rw [e] at hst
        simp (disch := omega) only [sd_oi, forall_eq, nI_leI, nI_ltI, nI_eq, vp_in_nI, nI_clamp, nI_1, li_e0, li_f0, li_l0, li_g0, li_m0, li_h0, li_e1, li_f1, li_l1, li_g1, li_m1, li_h1, li_e2, li_f2, li_l2, li_g2, li_m2, li_h2, li_e3, li_f3, li_l3, li_g3, li_m3, li_h3, li_e4, li_f4, li_l4, li_g4, li_m4, li_h4, li_e5, li_f5, li_l5, li_g5, li_m5, li_h5, li_e6, li_f6, li_l6, li_g6, li_m6, li_h6, li_e7, li_f7, li_l7, li_g7, li_m7, li_h7, li_e8, li_f8, li_l8, li_g8, li_m8, li_h8, li_e9, li_f9, li_l9, li_g9, li_m9, li_h9, li_e10, li_f10, li_l10, li_g10, li_m10, li_h10, li_e15, li_f15, li_l15, li_g15, li_m15, li_h15, li_e16, li_f16, li_l16, li_g16, li_m16, li_h16, li_e20, li_f20, li_l20, li_g20, li_m20, li_h20, li_e40, li_f40, li_l40, li_g40, li_m40, li_h40, li_e100, li_f100, li_l100, li_g100, li_m100, li_h100, li_e128, li_f128, li_l128, li_g128, li_m128, li_h128, li_e150, li_f150, li_l150, li_g150, li_m150, li_h150, li_e255, li_f255, li_l255, li_g255, li_m255, li_h255, li_e400, li_f400, li_l400, li_g400, li_m400, li_h400, li_e410, li_f410, li_l410, li_g410, li_m410, li_h410, li_e420, li_f420, li_l420, li_g420, li_m420, li_h420, li_e2000, li_f2000, li_l2000, li_g2000, li_m2000, li_h2000, li_e8200, li_f8200, li_l8200, li_g8200, li_m8200, li_h8200, li_e1000000, li_f1000000, li_l1000000, li_g1000000, li_m1000000, li_h1000000, li_50, li_50', li_200, li_200', nI_add, li_s1, li_t1, li_c1, li_c2, li_c3, li_c4, li_c5, li_c6, li_c7, li_c8, li_c9, li_c10, li_c11, li_c12, li_c13, li_c14, li_c15, sg_Kat, sg_Pat, pk_us, pk_uLs, true_implies, forall_const, not_true_eq_false, not_false_eq_true, false_implies, and_true, true_and, implies_true, and_self, if_true, if_false, ite_true, ite_false, reduceIte, eq_self, Nat.reduceEqDiff, Nat.reduceLeDiff, Nat.reduceLT, Int32.reduceLT, Int32.reduceLE]
        have h5 := yl_bad (tv := tv) (tt := tt) (td := td) (todo := nI rest.length) (rc := nI d) hst (by decide) h0 HTR
        rw [if_pos rfl] at h5
        exact h5
      | some k =>
        rw [e] at hst
        obtain ⟨b1, b2⟩ := sg_br_lt e
        have hp5 := hg.2.2.1 t
        have b3 := hg.2.2.2.2.2.2.2.1 t k htn b1 (by omega)
        have b4 := hg.2.2.2.2.2.2.2.2.1 t k htn b1 h8
        have b5 := hY.2.2.1 t k htn b1 (by omega)
        simp (disch := omega) only [sd_oi, Nat.zero_le, forall_eq, nI_leI, nI_ltI, nI_eq, vp_in_nI, nI_clamp, nI_1, li_e0, li_f0, li_l0, li_g0, li_m0, li_h0, li_e1, li_f1, li_l1, li_g1, li_m1, li_h1, li_e2, li_f2, li_l2, li_g2, li_m2, li_h2, li_e3, li_f3, li_l3, li_g3, li_m3, li_h3, li_e4, li_f4, li_l4, li_g4, li_m4, li_h4, li_e5, li_f5, li_l5, li_g5, li_m5, li_h5, li_e6, li_f6, li_l6, li_g6, li_m6, li_h6, li_e7, li_f7, li_l7, li_g7, li_m7, li_h7, li_e8, li_f8, li_l8, li_g8, li_m8, li_h8, li_e9, li_f9, li_l9, li_g9, li_m9, li_h9, li_e10, li_f10, li_l10, li_g10, li_m10, li_h10, li_e15, li_f15, li_l15, li_g15, li_m15, li_h15, li_e16, li_f16, li_l16, li_g16, li_m16, li_h16, li_e20, li_f20, li_l20, li_g20, li_m20, li_h20, li_e40, li_f40, li_l40, li_g40, li_m40, li_h40, li_e100, li_f100, li_l100, li_g100, li_m100, li_h100, li_e128, li_f128, li_l128, li_g128, li_m128, li_h128, li_e150, li_f150, li_l150, li_g150, li_m150, li_h150, li_e255, li_f255, li_l255, li_g255, li_m255, li_h255, li_e400, li_f400, li_l400, li_g400, li_m400, li_h400, li_e410, li_f410, li_l410, li_g410, li_m410, li_h410, li_e420, li_f420, li_l420, li_g420, li_m420, li_h420, li_e2000, li_f2000, li_l2000, li_g2000, li_m2000, li_h2000, li_e8200, li_f8200, li_l8200, li_g8200, li_m8200, li_h8200, li_e1000000, li_f1000000, li_l1000000, li_g1000000, li_m1000000, li_h1000000, li_50, li_50', li_200, li_200', nI_add, li_s1, li_t1, li_c1, li_c2, li_c3, li_c4, li_c5, li_c6, li_c7, li_c8, li_c9, li_c10, li_c11, li_c12, li_c13, li_c14, li_c15, sg_Kat, sg_Pat, pk_us, pk_uLs, true_implies, forall_const, not_true_eq_false, not_false_eq_true, false_implies, and_true, true_and, implies_true, and_self, if_true, if_false, ite_true, ite_false, reduceIte, eq_self, Nat.reduceEqDiff, Nat.reduceLeDiff, Nat.reduceLT, Int32.reduceLT, Int32.reduceLE]
        refine yl_out _ h0 (fun lc a tr h' => ?_)
        simp (disch := omega) only [b5, forall_eq, nI_leI, nI_ltI, nI_eq, vp_in_nI, nI_clamp, nI_1, li_e0, li_f0, li_l0, li_g0, li_m0, li_h0, li_e1, li_f1, li_l1, li_g1, li_m1, li_h1, li_e2, li_f2, li_l2, li_g2, li_m2, li_h2, li_e3, li_f3, li_l3, li_g3, li_m3, li_h3, li_e4, li_f4, li_l4, li_g4, li_m4, li_h4, li_e5, li_f5, li_l5, li_g5, li_m5, li_h5, li_e6, li_f6, li_l6, li_g6, li_m6, li_h6, li_e7, li_f7, li_l7, li_g7, li_m7, li_h7, li_e8, li_f8, li_l8, li_g8, li_m8, li_h8, li_e9, li_f9, li_l9, li_g9, li_m9, li_h9, li_e10, li_f10, li_l10, li_g10, li_m10, li_h10, li_e15, li_f15, li_l15, li_g15, li_m15, li_h15, li_e16, li_f16, li_l16, li_g16, li_m16, li_h16, li_e20, li_f20, li_l20, li_g20, li_m20, li_h20, li_e40, li_f40, li_l40, li_g40, li_m40, li_h40, li_e100, li_f100, li_l100, li_g100, li_m100, li_h100, li_e128, li_f128, li_l128, li_g128, li_m128, li_h128, li_e150, li_f150, li_l150, li_g150, li_m150, li_h150, li_e255, li_f255, li_l255, li_g255, li_m255, li_h255, li_e400, li_f400, li_l400, li_g400, li_m400, li_h400, li_e410, li_f410, li_l410, li_g410, li_m410, li_h410, li_e420, li_f420, li_l420, li_g420, li_m420, li_h420, li_e2000, li_f2000, li_l2000, li_g2000, li_m2000, li_h2000, li_e8200, li_f8200, li_l8200, li_g8200, li_m8200, li_h8200, li_e1000000, li_f1000000, li_l1000000, li_g1000000, li_m1000000, li_h1000000, li_50, li_50', li_200, li_200', nI_add, li_s1, li_t1, li_c1, li_c2, li_c3, li_c4, li_c5, li_c6, li_c7, li_c8, li_c9, li_c10, li_c11, li_c12, li_c13, li_c14, li_c15, sg_Kat, sg_Pat, pk_us, pk_uLs, true_implies, forall_const, not_true_eq_false, not_false_eq_true, false_implies, and_true, true_and, implies_true, and_self, if_true, if_false, ite_true, ite_false, reduceIte, eq_self, Nat.reduceEqDiff, Nat.reduceLeDiff, Nat.reduceLT, Int32.reduceLT, Int32.reduceLE]
        exact yl_value hg hY hw ht b3 b4 in1 b2 hb hd10 hst h' hd HOK HTR
    · rw [if_neg h8] at hst
      by_cases hsu : sg_su g (sv_t w (sr_in g w f)) t = true
      · rw [if_pos hsu] at hst
        simp (disch := omega) only [wY_turn_26, t2, h8, forall_eq, nI_leI, nI_ltI, nI_eq, vp_in_nI, nI_clamp, nI_1, li_e0, li_f0, li_l0, li_g0, li_m0, li_h0, li_e1, li_f1, li_l1, li_g1, li_m1, li_h1, li_e2, li_f2, li_l2, li_g2, li_m2, li_h2, li_e3, li_f3, li_l3, li_g3, li_m3, li_h3, li_e4, li_f4, li_l4, li_g4, li_m4, li_h4, li_e5, li_f5, li_l5, li_g5, li_m5, li_h5, li_e6, li_f6, li_l6, li_g6, li_m6, li_h6, li_e7, li_f7, li_l7, li_g7, li_m7, li_h7, li_e8, li_f8, li_l8, li_g8, li_m8, li_h8, li_e9, li_f9, li_l9, li_g9, li_m9, li_h9, li_e10, li_f10, li_l10, li_g10, li_m10, li_h10, li_e15, li_f15, li_l15, li_g15, li_m15, li_h15, li_e16, li_f16, li_l16, li_g16, li_m16, li_h16, li_e20, li_f20, li_l20, li_g20, li_m20, li_h20, li_e40, li_f40, li_l40, li_g40, li_m40, li_h40, li_e100, li_f100, li_l100, li_g100, li_m100, li_h100, li_e128, li_f128, li_l128, li_g128, li_m128, li_h128, li_e150, li_f150, li_l150, li_g150, li_m150, li_h150, li_e255, li_f255, li_l255, li_g255, li_m255, li_h255, li_e400, li_f400, li_l400, li_g400, li_m400, li_h400, li_e410, li_f410, li_l410, li_g410, li_m410, li_h410, li_e420, li_f420, li_l420, li_g420, li_m420, li_h420, li_e2000, li_f2000, li_l2000, li_g2000, li_m2000, li_h2000, li_e8200, li_f8200, li_l8200, li_g8200, li_m8200, li_h8200, li_e1000000, li_f1000000, li_l1000000, li_g1000000, li_m1000000, li_h1000000, li_50, li_50', li_200, li_200', nI_add, li_s1, li_t1, li_c1, li_c2, li_c3, li_c4, li_c5, li_c6, li_c7, li_c8, li_c9, li_c10, li_c11, li_c12, li_c13, li_c14, li_c15, sg_Kat, sg_Pat, pk_us, pk_uLs, true_implies, forall_const, not_true_eq_false, not_false_eq_true, false_implies, and_true, true_and, implies_true, and_self, if_true, if_false, ite_true, ite_false, reduceIte, eq_self, Nat.reduceEqDiff, Nat.reduceLeDiff, Nat.reduceLT, Int32.reduceLT, Int32.reduceLE]
        exact yl_value (o := []) hg hY hw ht htn h8 in1 hsu hb hd10 (by rw [hst]; rfl) h0 hd HOK HTR
      · rw [if_neg hsu] at hst
        simp (disch := omega) only [wY_turn_26, t2, h8, forall_eq, nI_leI, nI_ltI, nI_eq, vp_in_nI, nI_clamp, nI_1, li_e0, li_f0, li_l0, li_g0, li_m0, li_h0, li_e1, li_f1, li_l1, li_g1, li_m1, li_h1, li_e2, li_f2, li_l2, li_g2, li_m2, li_h2, li_e3, li_f3, li_l3, li_g3, li_m3, li_h3, li_e4, li_f4, li_l4, li_g4, li_m4, li_h4, li_e5, li_f5, li_l5, li_g5, li_m5, li_h5, li_e6, li_f6, li_l6, li_g6, li_m6, li_h6, li_e7, li_f7, li_l7, li_g7, li_m7, li_h7, li_e8, li_f8, li_l8, li_g8, li_m8, li_h8, li_e9, li_f9, li_l9, li_g9, li_m9, li_h9, li_e10, li_f10, li_l10, li_g10, li_m10, li_h10, li_e15, li_f15, li_l15, li_g15, li_m15, li_h15, li_e16, li_f16, li_l16, li_g16, li_m16, li_h16, li_e20, li_f20, li_l20, li_g20, li_m20, li_h20, li_e40, li_f40, li_l40, li_g40, li_m40, li_h40, li_e100, li_f100, li_l100, li_g100, li_m100, li_h100, li_e128, li_f128, li_l128, li_g128, li_m128, li_h128, li_e150, li_f150, li_l150, li_g150, li_m150, li_h150, li_e255, li_f255, li_l255, li_g255, li_m255, li_h255, li_e400, li_f400, li_l400, li_g400, li_m400, li_h400, li_e410, li_f410, li_l410, li_g410, li_m410, li_h410, li_e420, li_f420, li_l420, li_g420, li_m420, li_h420, li_e2000, li_f2000, li_l2000, li_g2000, li_m2000, li_h2000, li_e8200, li_f8200, li_l8200, li_g8200, li_m8200, li_h8200, li_e1000000, li_f1000000, li_l1000000, li_g1000000, li_m1000000, li_h1000000, li_50, li_50', li_200, li_200', nI_add, li_s1, li_t1, li_c1, li_c2, li_c3, li_c4, li_c5, li_c6, li_c7, li_c8, li_c9, li_c10, li_c11, li_c12, li_c13, li_c14, li_c15, sg_Kat, sg_Pat, pk_us, pk_uLs, true_implies, forall_const, not_true_eq_false, not_false_eq_true, false_implies, and_true, true_and, implies_true, and_self, if_true, if_false, ite_true, ite_false, reduceIte, eq_self, Nat.reduceEqDiff, Nat.reduceLeDiff, Nat.reduceLT, Int32.reduceLT, Int32.reduceLE]
        unfold wY_turn_90
        refine yt_suits hg hY w2 htn ?_
        rw [if_neg hsu]
        simp (disch := omega) only [forall_eq, nI_leI, nI_ltI, nI_eq, vp_in_nI, nI_clamp, nI_1, li_e0, li_f0, li_l0, li_g0, li_m0, li_h0, li_e1, li_f1, li_l1, li_g1, li_m1, li_h1, li_e2, li_f2, li_l2, li_g2, li_m2, li_h2, li_e3, li_f3, li_l3, li_g3, li_m3, li_h3, li_e4, li_f4, li_l4, li_g4, li_m4, li_h4, li_e5, li_f5, li_l5, li_g5, li_m5, li_h5, li_e6, li_f6, li_l6, li_g6, li_m6, li_h6, li_e7, li_f7, li_l7, li_g7, li_m7, li_h7, li_e8, li_f8, li_l8, li_g8, li_m8, li_h8, li_e9, li_f9, li_l9, li_g9, li_m9, li_h9, li_e10, li_f10, li_l10, li_g10, li_m10, li_h10, li_e15, li_f15, li_l15, li_g15, li_m15, li_h15, li_e16, li_f16, li_l16, li_g16, li_m16, li_h16, li_e20, li_f20, li_l20, li_g20, li_m20, li_h20, li_e40, li_f40, li_l40, li_g40, li_m40, li_h40, li_e100, li_f100, li_l100, li_g100, li_m100, li_h100, li_e128, li_f128, li_l128, li_g128, li_m128, li_h128, li_e150, li_f150, li_l150, li_g150, li_m150, li_h150, li_e255, li_f255, li_l255, li_g255, li_m255, li_h255, li_e400, li_f400, li_l400, li_g400, li_m400, li_h400, li_e410, li_f410, li_l410, li_g410, li_m410, li_h410, li_e420, li_f420, li_l420, li_g420, li_m420, li_h420, li_e2000, li_f2000, li_l2000, li_g2000, li_m2000, li_h2000, li_e8200, li_f8200, li_l8200, li_g8200, li_m8200, li_h8200, li_e1000000, li_f1000000, li_l1000000, li_g1000000, li_m1000000, li_h1000000, li_50, li_50', li_200, li_200', nI_add, li_s1, li_t1, li_c1, li_c2, li_c3, li_c4, li_c5, li_c6, li_c7, li_c8, li_c9, li_c10, li_c11, li_c12, li_c13, li_c14, li_c15, sg_Kat, sg_Pat, pk_us, pk_uLs, true_implies, forall_const, not_true_eq_false, not_false_eq_true, false_implies, and_true, true_and, implies_true, and_self, if_true, if_false, ite_true, ite_false, reduceIte, eq_self, Nat.reduceEqDiff, Nat.reduceLeDiff, Nat.reduceLT, Int32.reduceLT, Int32.reduceLE]
        have h5 := yl_bad (tv := tv) (tt := tt) (td := td) (todo := nI rest.length) (rc := nI d) hst (by decide) h0 HTR
        rw [if_pos rfl] at h5
        exact h5
  unfold sr_in at main
  by_cases h8 : sg_k g (sv_t w f) = 8
  · rw [if_pos h8] at main
    have e1 := t3 (by rw [sv_cnt8 h8]; omega)
    simp (disch := omega) only [wpY_turn, t1, h8, e1, forall_eq, nI_leI, nI_ltI, nI_eq, vp_in_nI, nI_clamp, nI_1, li_e0, li_f0, li_l0, li_g0, li_m0, li_h0, li_e1, li_f1, li_l1, li_g1, li_m1, li_h1, li_e2, li_f2, li_l2, li_g2, li_m2, li_h2, li_e3, li_f3, li_l3, li_g3, li_m3, li_h3, li_e4, li_f4, li_l4, li_g4, li_m4, li_h4, li_e5, li_f5, li_l5, li_g5, li_m5, li_h5, li_e6, li_f6, li_l6, li_g6, li_m6, li_h6, li_e7, li_f7, li_l7, li_g7, li_m7, li_h7, li_e8, li_f8, li_l8, li_g8, li_m8, li_h8, li_e9, li_f9, li_l9, li_g9, li_m9, li_h9, li_e10, li_f10, li_l10, li_g10, li_m10, li_h10, li_e15, li_f15, li_l15, li_g15, li_m15, li_h15, li_e16, li_f16, li_l16, li_g16, li_m16, li_h16, li_e20, li_f20, li_l20, li_g20, li_m20, li_h20, li_e40, li_f40, li_l40, li_g40, li_m40, li_h40, li_e100, li_f100, li_l100, li_g100, li_m100, li_h100, li_e128, li_f128, li_l128, li_g128, li_m128, li_h128, li_e150, li_f150, li_l150, li_g150, li_m150, li_h150, li_e255, li_f255, li_l255, li_g255, li_m255, li_h255, li_e400, li_f400, li_l400, li_g400, li_m400, li_h400, li_e410, li_f410, li_l410, li_g410, li_m410, li_h410, li_e420, li_f420, li_l420, li_g420, li_m420, li_h420, li_e2000, li_f2000, li_l2000, li_g2000, li_m2000, li_h2000, li_e8200, li_f8200, li_l8200, li_g8200, li_m8200, li_h8200, li_e1000000, li_f1000000, li_l1000000, li_g1000000, li_m1000000, li_h1000000, li_50, li_50', li_200, li_200', nI_add, li_s1, li_t1, li_c1, li_c2, li_c3, li_c4, li_c5, li_c6, li_c7, li_c8, li_c9, li_c10, li_c11, li_c12, li_c13, li_c14, li_c15, sg_Kat, sg_Pat, pk_us, pk_uLs, true_implies, forall_const, not_true_eq_false, not_false_eq_true, false_implies, and_true, true_and, implies_true, and_self, if_true, if_false, ite_true, ite_false, reduceIte, eq_self, Nat.reduceEqDiff, Nat.reduceLeDiff, Nat.reduceLT, Int32.reduceLT, Int32.reduceLE]
    exact main
  · rw [if_neg h8] at main
    simp (disch := omega) only [wpY_turn, t1, h8, forall_eq, nI_leI, nI_ltI, nI_eq, vp_in_nI, nI_clamp, nI_1, li_e0, li_f0, li_l0, li_g0, li_m0, li_h0, li_e1, li_f1, li_l1, li_g1, li_m1, li_h1, li_e2, li_f2, li_l2, li_g2, li_m2, li_h2, li_e3, li_f3, li_l3, li_g3, li_m3, li_h3, li_e4, li_f4, li_l4, li_g4, li_m4, li_h4, li_e5, li_f5, li_l5, li_g5, li_m5, li_h5, li_e6, li_f6, li_l6, li_g6, li_m6, li_h6, li_e7, li_f7, li_l7, li_g7, li_m7, li_h7, li_e8, li_f8, li_l8, li_g8, li_m8, li_h8, li_e9, li_f9, li_l9, li_g9, li_m9, li_h9, li_e10, li_f10, li_l10, li_g10, li_m10, li_h10, li_e15, li_f15, li_l15, li_g15, li_m15, li_h15, li_e16, li_f16, li_l16, li_g16, li_m16, li_h16, li_e20, li_f20, li_l20, li_g20, li_m20, li_h20, li_e40, li_f40, li_l40, li_g40, li_m40, li_h40, li_e100, li_f100, li_l100, li_g100, li_m100, li_h100, li_e128, li_f128, li_l128, li_g128, li_m128, li_h128, li_e150, li_f150, li_l150, li_g150, li_m150, li_h150, li_e255, li_f255, li_l255, li_g255, li_m255, li_h255, li_e400, li_f400, li_l400, li_g400, li_m400, li_h400, li_e410, li_f410, li_l410, li_g410, li_m410, li_h410, li_e420, li_f420, li_l420, li_g420, li_m420, li_h420, li_e2000, li_f2000, li_l2000, li_g2000, li_m2000, li_h2000, li_e8200, li_f8200, li_l8200, li_g8200, li_m8200, li_h8200, li_e1000000, li_f1000000, li_l1000000, li_g1000000, li_m1000000, li_h1000000, li_50, li_50', li_200, li_200', nI_add, li_s1, li_t1, li_c1, li_c2, li_c3, li_c4, li_c5, li_c6, li_c7, li_c8, li_c9, li_c10, li_c11, li_c12, li_c13, li_c14, li_c15, sg_Kat, sg_Pat, pk_us, pk_uLs, true_implies, forall_const, not_true_eq_false, not_false_eq_true, false_implies, and_true, true_and, implies_true, and_self, if_true, if_false, ite_true, ite_false, reduceIte, eq_self, Nat.reduceEqDiff, Nat.reduceLeDiff, Nat.reduceLT, Int32.reduceLT, Int32.reduceLE]
    exact main
theorem yl_fixed {o : List Int64} {t n : Nat} {x : Int32} (ht : t < 20) (hd : y_of t = nI n) (hn : n ≤ 8) (h : sl_out L o y_listCount y_list y_wrong)
    (hp : ∀ lc a tr, sl_out L (o ++ sr_rep (x &&& 255).toInt64 n) lc a tr → post (y_types, y_byteCount, y_writtenCount, y_numberCount, lc, y_values, y_depth, y_records, y_at, tr, y_todo, y_kind, y_of, y_parts, y_fallback, y_name, y_part, y_alias, y_given, y_has, y_bytes, y_written, y_numbers, a, y_valueType, y_start, y_child, y_last, y_next, y_value, y_open, y_come, y_left, y_todoValue, y_todoType, y_todoDefault, y_pair, y_whole)) : ∃ n161, wY_byDefault_161 post (nI t) x n161 0 y_types y_byteCount y_writtenCount y_numberCount y_listCount y_values y_depth y_records y_at y_wrong y_todo y_kind y_of y_parts y_fallback y_name y_part y_alias y_given y_has y_bytes y_written y_numbers y_list y_valueType y_start y_child y_last y_next y_value y_open y_come y_left y_todoValue y_todoType y_todoDefault y_pair y_whole := by
  have H : ∀ m i (o : List Int64) lc a tr, i + m = n → sl_out L o lc a tr → (∀ lc a tr, sl_out L (o ++ sr_rep (x &&& 255).toInt64 m) lc a tr → post (y_types, y_byteCount, y_writtenCount, y_numberCount, lc, y_values, y_depth, y_records, y_at, tr, y_todo, y_kind, y_of, y_parts, y_fallback, y_name, y_part, y_alias, y_given, y_has, y_bytes, y_written, y_numbers, a, y_valueType, y_start, y_child, y_last, y_next, y_value, y_open, y_come, y_left, y_todoValue, y_todoType, y_todoDefault, y_pair, y_whole)) →
      wY_byDefault_161 post (nI t) x (m + 1) (nI i) y_types y_byteCount y_writtenCount y_numberCount lc y_values y_depth y_records y_at tr y_todo y_kind y_of y_parts y_fallback y_name y_part y_alias y_given y_has y_bytes y_written y_numbers a y_valueType y_start y_child y_last y_next y_value y_open y_come y_left y_todoValue y_todoType y_todoDefault y_pair y_whole := by
    intro m
    induction m with
    | zero =>
      intro i o lc a tr hi h hp
      have hle : n ≤ i := by omega
      rw [wY_byDefault_161]
      simp (disch := omega) only [hd, hle, forall_eq, nI_leI, nI_ltI, nI_eq, vp_in_nI, nI_clamp, nI_1, li_e0, li_f0, li_l0, li_g0, li_m0, li_h0, li_e1, li_f1, li_l1, li_g1, li_m1, li_h1, li_e2, li_f2, li_l2, li_g2, li_m2, li_h2, li_e3, li_f3, li_l3, li_g3, li_m3, li_h3, li_e4, li_f4, li_l4, li_g4, li_m4, li_h4, li_e5, li_f5, li_l5, li_g5, li_m5, li_h5, li_e6, li_f6, li_l6, li_g6, li_m6, li_h6, li_e7, li_f7, li_l7, li_g7, li_m7, li_h7, li_e8, li_f8, li_l8, li_g8, li_m8, li_h8, li_e9, li_f9, li_l9, li_g9, li_m9, li_h9, li_e10, li_f10, li_l10, li_g10, li_m10, li_h10, li_e15, li_f15, li_l15, li_g15, li_m15, li_h15, li_e16, li_f16, li_l16, li_g16, li_m16, li_h16, li_e20, li_f20, li_l20, li_g20, li_m20, li_h20, li_e40, li_f40, li_l40, li_g40, li_m40, li_h40, li_e100, li_f100, li_l100, li_g100, li_m100, li_h100, li_e128, li_f128, li_l128, li_g128, li_m128, li_h128, li_e150, li_f150, li_l150, li_g150, li_m150, li_h150, li_e255, li_f255, li_l255, li_g255, li_m255, li_h255, li_e400, li_f400, li_l400, li_g400, li_m400, li_h400, li_e410, li_f410, li_l410, li_g410, li_m410, li_h410, li_e420, li_f420, li_l420, li_g420, li_m420, li_h420, li_e2000, li_f2000, li_l2000, li_g2000, li_m2000, li_h2000, li_e8200, li_f8200, li_l8200, li_g8200, li_m8200, li_h8200, li_e1000000, li_f1000000, li_l1000000, li_g1000000, li_m1000000, li_h1000000, li_50, li_50', li_200, li_200', nI_add, li_s1, li_t1, li_c1, li_c2, li_c3, li_c4, li_c5, li_c6, li_c7, li_c8, li_c9, li_c10, li_c11, li_c12, li_c13, li_c14, li_c15, sg_Kat, sg_Pat, pk_us, pk_uLs, true_implies, forall_const, not_true_eq_false, not_false_eq_true, false_implies, and_true, true_and, implies_true, and_self, if_true, if_false, ite_true, ite_false, reduceIte, eq_self, Nat.reduceEqDiff, Nat.reduceLeDiff, Nat.reduceLT, Int32.reduceLT, Int32.reduceLE]
      exact hp lc a tr (by rw [sr_rep, List.append_nil]; exact h)
    | succ m ih =>
      intro i o lc a tr hi h hp
      have hlt : ¬ n ≤ i := by omega
      rw [wY_byDefault_161]
      simp (disch := omega) only [hlt, hd, forall_eq, nI_leI, nI_ltI, nI_eq, vp_in_nI, nI_clamp, nI_1, li_e0, li_f0, li_l0, li_g0, li_m0, li_h0, li_e1, li_f1, li_l1, li_g1, li_m1, li_h1, li_e2, li_f2, li_l2, li_g2, li_m2, li_h2, li_e3, li_f3, li_l3, li_g3, li_m3, li_h3, li_e4, li_f4, li_l4, li_g4, li_m4, li_h4, li_e5, li_f5, li_l5, li_g5, li_m5, li_h5, li_e6, li_f6, li_l6, li_g6, li_m6, li_h6, li_e7, li_f7, li_l7, li_g7, li_m7, li_h7, li_e8, li_f8, li_l8, li_g8, li_m8, li_h8, li_e9, li_f9, li_l9, li_g9, li_m9, li_h9, li_e10, li_f10, li_l10, li_g10, li_m10, li_h10, li_e15, li_f15, li_l15, li_g15, li_m15, li_h15, li_e16, li_f16, li_l16, li_g16, li_m16, li_h16, li_e20, li_f20, li_l20, li_g20, li_m20, li_h20, li_e40, li_f40, li_l40, li_g40, li_m40, li_h40, li_e100, li_f100, li_l100, li_g100, li_m100, li_h100, li_e128, li_f128, li_l128, li_g128, li_m128, li_h128, li_e150, li_f150, li_l150, li_g150, li_m150, li_h150, li_e255, li_f255, li_l255, li_g255, li_m255, li_h255, li_e400, li_f400, li_l400, li_g400, li_m400, li_h400, li_e410, li_f410, li_l410, li_g410, li_m410, li_h410, li_e420, li_f420, li_l420, li_g420, li_m420, li_h420, li_e2000, li_f2000, li_l2000, li_g2000, li_m2000, li_h2000, li_e8200, li_f8200, li_l8200, li_g8200, li_m8200, li_h8200, li_e1000000, li_f1000000, li_l1000000, li_g1000000, li_m1000000, li_h1000000, li_50, li_50', li_200, li_200', nI_add, li_s1, li_t1, li_c1, li_c2, li_c3, li_c4, li_c5, li_c6, li_c7, li_c8, li_c9, li_c10, li_c11, li_c12, li_c13, li_c14, li_c15, sg_Kat, sg_Pat, pk_us, pk_uLs, true_implies, forall_const, not_true_eq_false, not_false_eq_true, false_implies, and_true, true_and, implies_true, and_self, if_true, if_false, ite_true, ite_false, reduceIte, eq_self, Nat.reduceEqDiff, Nat.reduceLeDiff, Nat.reduceLT, Int32.reduceLT, Int32.reduceLE]
      refine yl_out _ h (fun lc' a' tr' h' => ?_)
      simp (disch := omega) only [forall_eq, nI_leI, nI_ltI, nI_eq, vp_in_nI, nI_clamp, nI_1, li_e0, li_f0, li_l0, li_g0, li_m0, li_h0, li_e1, li_f1, li_l1, li_g1, li_m1, li_h1, li_e2, li_f2, li_l2, li_g2, li_m2, li_h2, li_e3, li_f3, li_l3, li_g3, li_m3, li_h3, li_e4, li_f4, li_l4, li_g4, li_m4, li_h4, li_e5, li_f5, li_l5, li_g5, li_m5, li_h5, li_e6, li_f6, li_l6, li_g6, li_m6, li_h6, li_e7, li_f7, li_l7, li_g7, li_m7, li_h7, li_e8, li_f8, li_l8, li_g8, li_m8, li_h8, li_e9, li_f9, li_l9, li_g9, li_m9, li_h9, li_e10, li_f10, li_l10, li_g10, li_m10, li_h10, li_e15, li_f15, li_l15, li_g15, li_m15, li_h15, li_e16, li_f16, li_l16, li_g16, li_m16, li_h16, li_e20, li_f20, li_l20, li_g20, li_m20, li_h20, li_e40, li_f40, li_l40, li_g40, li_m40, li_h40, li_e100, li_f100, li_l100, li_g100, li_m100, li_h100, li_e128, li_f128, li_l128, li_g128, li_m128, li_h128, li_e150, li_f150, li_l150, li_g150, li_m150, li_h150, li_e255, li_f255, li_l255, li_g255, li_m255, li_h255, li_e400, li_f400, li_l400, li_g400, li_m400, li_h400, li_e410, li_f410, li_l410, li_g410, li_m410, li_h410, li_e420, li_f420, li_l420, li_g420, li_m420, li_h420, li_e2000, li_f2000, li_l2000, li_g2000, li_m2000, li_h2000, li_e8200, li_f8200, li_l8200, li_g8200, li_m8200, li_h8200, li_e1000000, li_f1000000, li_l1000000, li_g1000000, li_m1000000, li_h1000000, li_50, li_50', li_200, li_200', nI_add, li_s1, li_t1, li_c1, li_c2, li_c3, li_c4, li_c5, li_c6, li_c7, li_c8, li_c9, li_c10, li_c11, li_c12, li_c13, li_c14, li_c15, sg_Kat, sg_Pat, pk_us, pk_uLs, true_implies, forall_const, not_true_eq_false, not_false_eq_true, false_implies, and_true, true_and, implies_true, and_self, if_true, if_false, ite_true, ite_false, reduceIte, eq_self, Nat.reduceEqDiff, Nat.reduceLeDiff, Nat.reduceLT, Int32.reduceLT, Int32.reduceLE]
      refine ih (i + 1) _ lc' a' tr' (by omega) h' (fun lc a tr h'' => hp lc a tr ?_)
      rw [sr_rep]
      rw [List.append_assoc] at h''
      exact h''
  exact ⟨n + 1, H n 0 o _ _ _ (by omega) h hp⟩
theorem yl_byDefault (hg : sg_ok g) (hY : sg_Y g y_of y_name y_part y_alias y_has y_given) {t : Nat} {x : Int32} (hit : it = (1, 0, t, x)) (htn : t < sg_n g) (hb : rest.length + 60 ≤ 2000) (hd10 : d ≤ 10) (hL : L.length ≤ 150)
    (h : sl_is L a) (hd : sy_do tv tt td rest) (HOK : ∀ (a : Nat → Int64) (tv tt td : Nat → Int32), (sr_stp g w it d).2.1 = 0 → L.length + (sr_stp g w it d).1.length ≤ 150 → sl_is (L ++ (sr_stp g w it d).1) a → sy_do tv tt td ((sr_stp g w it d).2.2.1 ++ rest) → post (nI (sg_n g), y_byteCount, y_writtenCount, y_numberCount, nI (L.length + (sr_stp g w it d).1.length), y_values, y_depth, nI (sr_stp g w it d).2.2.2, y_at, 0, nI ((sr_stp g w it d).2.2.1 ++ rest).length, sg_K g, y_of, sg_P g, sg_f g, y_name, y_part, y_alias, y_given, y_has, sv_b w, y_written, y_numbers, a, y_valueType, y_start, y_child, y_last, y_next, y_value, y_open, y_come, y_left, tv, tt, td, y_pair, y_whole)) (HTR : ∀ (e lc : Int32) (a : Nat → Int64) (todo rc : Int32) (tv tt td : Nat → Int32), sr_fin g w (it :: rest) d L e → ¬ e = 0 → post (nI (sg_n g), y_byteCount, y_writtenCount, y_numberCount, lc, y_values, y_depth, rc, y_at, e, todo, sg_K g, y_of, sg_P g, sg_f g, y_name, y_part, y_alias, y_given, y_has, sv_b w, y_written, y_numbers, a, y_valueType, y_start, y_child, y_last, y_next, y_value, y_open, y_come, y_left, tv, tt, td, y_pair, y_whole)) :
    wpY_byDefault post (nI (sg_n g), y_byteCount, y_writtenCount, y_numberCount, nI L.length, y_values, y_depth, nI d, y_at, 0, nI rest.length, sg_K g, y_of, sg_P g, sg_f g, y_name, y_part, y_alias, y_given, y_has, sv_b w, y_written, y_numbers, a, y_valueType, y_start, y_child, y_last, y_next, y_value, y_open, y_come, y_left, tv, tt, td, y_pair, y_whole) (nI t) x := by
  have hn := hg.1
  have k9 := hg.2.1 t
  have p5 := hg.2.2.1 t
  have h0 := sl_out0 h hL
  have hst : sr_stp g w it d = sr_dft g w t x d := by
    rw [hit]
    unfold sr_stp
    rw [if_neg (show ¬ ((1, 0, t, x) : sr_I).1 = 0 from (by show ¬ (1 : Nat) = 0; decide)), if_pos (show ((1, 0, t, x) : sr_I).1 = 1 from rfl)]
  unfold sr_dft at hst
  by_cases h8 : sg_k g t = 8
  · rw [if_pos h8] at hst
    by_cases hp0 : sg_p g t = 0
    · rw [if_pos hp0] at hst
      simp (disch := omega) only [wpY_byDefault, h8, hp0, forall_eq, nI_leI, nI_ltI, nI_eq, vp_in_nI, nI_clamp, nI_1, li_e0, li_f0, li_l0, li_g0, li_m0, li_h0, li_e1, li_f1, li_l1, li_g1, li_m1, li_h1, li_e2, li_f2, li_l2, li_g2, li_m2, li_h2, li_e3, li_f3, li_l3, li_g3, li_m3, li_h3, li_e4, li_f4, li_l4, li_g4, li_m4, li_h4, li_e5, li_f5, li_l5, li_g5, li_m5, li_h5, li_e6, li_f6, li_l6, li_g6, li_m6, li_h6, li_e7, li_f7, li_l7, li_g7, li_m7, li_h7, li_e8, li_f8, li_l8, li_g8, li_m8, li_h8, li_e9, li_f9, li_l9, li_g9, li_m9, li_h9, li_e10, li_f10, li_l10, li_g10, li_m10, li_h10, li_e15, li_f15, li_l15, li_g15, li_m15, li_h15, li_e16, li_f16, li_l16, li_g16, li_m16, li_h16, li_e20, li_f20, li_l20, li_g20, li_m20, li_h20, li_e40, li_f40, li_l40, li_g40, li_m40, li_h40, li_e100, li_f100, li_l100, li_g100, li_m100, li_h100, li_e128, li_f128, li_l128, li_g128, li_m128, li_h128, li_e150, li_f150, li_l150, li_g150, li_m150, li_h150, li_e255, li_f255, li_l255, li_g255, li_m255, li_h255, li_e400, li_f400, li_l400, li_g400, li_m400, li_h400, li_e410, li_f410, li_l410, li_g410, li_m410, li_h410, li_e420, li_f420, li_l420, li_g420, li_m420, li_h420, li_e2000, li_f2000, li_l2000, li_g2000, li_m2000, li_h2000, li_e8200, li_f8200, li_l8200, li_g8200, li_m8200, li_h8200, li_e1000000, li_f1000000, li_l1000000, li_g1000000, li_m1000000, li_h1000000, li_50, li_50', li_200, li_200', nI_add, li_s1, li_t1, li_c1, li_c2, li_c3, li_c4, li_c5, li_c6, li_c7, li_c8, li_c9, li_c10, li_c11, li_c12, li_c13, li_c14, li_c15, sg_Kat, sg_Pat, pk_us, pk_uLs, true_implies, forall_const, not_true_eq_false, not_false_eq_true, false_implies, and_true, true_and, implies_true, and_self, if_true, if_false, ite_true, ite_false, reduceIte, eq_self, Nat.reduceEqDiff, Nat.reduceLeDiff, Nat.reduceLT, Int32.reduceLT, Int32.reduceLE]
      have h5 := yl_bad (tv := tv) (tt := tt) (td := td) (todo := nI rest.length) (rc := nI d) hst (by decide) h0 HTR
      rw [if_pos rfl] at h5
      exact h5
    · rw [if_neg hp0] at hst
      have eU := hY.2.2.1 t 0 htn (by omega) (by omega)
      rw [Nat.add_zero] at eU
      simp (disch := omega) only [wpY_byDefault, h8, hp0, forall_eq, nI_leI, nI_ltI, nI_eq, vp_in_nI, nI_clamp, nI_1, li_e0, li_f0, li_l0, li_g0, li_m0, li_h0, li_e1, li_f1, li_l1, li_g1, li_m1, li_h1, li_e2, li_f2, li_l2, li_g2, li_m2, li_h2, li_e3, li_f3, li_l3, li_g3, li_m3, li_h3, li_e4, li_f4, li_l4, li_g4, li_m4, li_h4, li_e5, li_f5, li_l5, li_g5, li_m5, li_h5, li_e6, li_f6, li_l6, li_g6, li_m6, li_h6, li_e7, li_f7, li_l7, li_g7, li_m7, li_h7, li_e8, li_f8, li_l8, li_g8, li_m8, li_h8, li_e9, li_f9, li_l9, li_g9, li_m9, li_h9, li_e10, li_f10, li_l10, li_g10, li_m10, li_h10, li_e15, li_f15, li_l15, li_g15, li_m15, li_h15, li_e16, li_f16, li_l16, li_g16, li_m16, li_h16, li_e20, li_f20, li_l20, li_g20, li_m20, li_h20, li_e40, li_f40, li_l40, li_g40, li_m40, li_h40, li_e100, li_f100, li_l100, li_g100, li_m100, li_h100, li_e128, li_f128, li_l128, li_g128, li_m128, li_h128, li_e150, li_f150, li_l150, li_g150, li_m150, li_h150, li_e255, li_f255, li_l255, li_g255, li_m255, li_h255, li_e400, li_f400, li_l400, li_g400, li_m400, li_h400, li_e410, li_f410, li_l410, li_g410, li_m410, li_h410, li_e420, li_f420, li_l420, li_g420, li_m420, li_h420, li_e2000, li_f2000, li_l2000, li_g2000, li_m2000, li_h2000, li_e8200, li_f8200, li_l8200, li_g8200, li_m8200, li_h8200, li_e1000000, li_f1000000, li_l1000000, li_g1000000, li_m1000000, li_h1000000, li_50, li_50', li_200, li_200', nI_add, li_s1, li_t1, li_c1, li_c2, li_c3, li_c4, li_c5, li_c6, li_c7, li_c8, li_c9, li_c10, li_c11, li_c12, li_c13, li_c14, li_c15, sg_Kat, sg_Pat, pk_us, pk_uLs, true_implies, forall_const, not_true_eq_false, not_false_eq_true, false_implies, and_true, true_and, implies_true, and_self, if_true, if_false, ite_true, ite_false, reduceIte, eq_self, Nat.reduceEqDiff, Nat.reduceLeDiff, Nat.reduceLT, Int32.reduceLT, Int32.reduceLE]
      refine yl_out _ h0 (fun lc a tr h' => ?_)
      simp (disch := omega) only [eU, forall_eq, nI_leI, nI_ltI, nI_eq, vp_in_nI, nI_clamp, nI_1, li_e0, li_f0, li_l0, li_g0, li_m0, li_h0, li_e1, li_f1, li_l1, li_g1, li_m1, li_h1, li_e2, li_f2, li_l2, li_g2, li_m2, li_h2, li_e3, li_f3, li_l3, li_g3, li_m3, li_h3, li_e4, li_f4, li_l4, li_g4, li_m4, li_h4, li_e5, li_f5, li_l5, li_g5, li_m5, li_h5, li_e6, li_f6, li_l6, li_g6, li_m6, li_h6, li_e7, li_f7, li_l7, li_g7, li_m7, li_h7, li_e8, li_f8, li_l8, li_g8, li_m8, li_h8, li_e9, li_f9, li_l9, li_g9, li_m9, li_h9, li_e10, li_f10, li_l10, li_g10, li_m10, li_h10, li_e15, li_f15, li_l15, li_g15, li_m15, li_h15, li_e16, li_f16, li_l16, li_g16, li_m16, li_h16, li_e20, li_f20, li_l20, li_g20, li_m20, li_h20, li_e40, li_f40, li_l40, li_g40, li_m40, li_h40, li_e100, li_f100, li_l100, li_g100, li_m100, li_h100, li_e128, li_f128, li_l128, li_g128, li_m128, li_h128, li_e150, li_f150, li_l150, li_g150, li_m150, li_h150, li_e255, li_f255, li_l255, li_g255, li_m255, li_h255, li_e400, li_f400, li_l400, li_g400, li_m400, li_h400, li_e410, li_f410, li_l410, li_g410, li_m410, li_h410, li_e420, li_f420, li_l420, li_g420, li_m420, li_h420, li_e2000, li_f2000, li_l2000, li_g2000, li_m2000, li_h2000, li_e8200, li_f8200, li_l8200, li_g8200, li_m8200, li_h8200, li_e1000000, li_f1000000, li_l1000000, li_g1000000, li_m1000000, li_h1000000, li_50, li_50', li_200, li_200', nI_add, li_s1, li_t1, li_c1, li_c2, li_c3, li_c4, li_c5, li_c6, li_c7, li_c8, li_c9, li_c10, li_c11, li_c12, li_c13, li_c14, li_c15, sg_Kat, sg_Pat, pk_us, pk_uLs, true_implies, forall_const, not_true_eq_false, not_false_eq_true, false_implies, and_true, true_and, implies_true, and_self, if_true, if_false, ite_true, ite_false, reduceIte, eq_self, Nat.reduceEqDiff, Nat.reduceLeDiff, Nat.reduceLT, Int32.reduceLT, Int32.reduceLE]
      refine yl_later (by omega) ?_
      simp (disch := omega) only [forall_eq, nI_leI, nI_ltI, nI_eq, vp_in_nI, nI_clamp, nI_1, li_e0, li_f0, li_l0, li_g0, li_m0, li_h0, li_e1, li_f1, li_l1, li_g1, li_m1, li_h1, li_e2, li_f2, li_l2, li_g2, li_m2, li_h2, li_e3, li_f3, li_l3, li_g3, li_m3, li_h3, li_e4, li_f4, li_l4, li_g4, li_m4, li_h4, li_e5, li_f5, li_l5, li_g5, li_m5, li_h5, li_e6, li_f6, li_l6, li_g6, li_m6, li_h6, li_e7, li_f7, li_l7, li_g7, li_m7, li_h7, li_e8, li_f8, li_l8, li_g8, li_m8, li_h8, li_e9, li_f9, li_l9, li_g9, li_m9, li_h9, li_e10, li_f10, li_l10, li_g10, li_m10, li_h10, li_e15, li_f15, li_l15, li_g15, li_m15, li_h15, li_e16, li_f16, li_l16, li_g16, li_m16, li_h16, li_e20, li_f20, li_l20, li_g20, li_m20, li_h20, li_e40, li_f40, li_l40, li_g40, li_m40, li_h40, li_e100, li_f100, li_l100, li_g100, li_m100, li_h100, li_e128, li_f128, li_l128, li_g128, li_m128, li_h128, li_e150, li_f150, li_l150, li_g150, li_m150, li_h150, li_e255, li_f255, li_l255, li_g255, li_m255, li_h255, li_e400, li_f400, li_l400, li_g400, li_m400, li_h400, li_e410, li_f410, li_l410, li_g410, li_m410, li_h410, li_e420, li_f420, li_l420, li_g420, li_m420, li_h420, li_e2000, li_f2000, li_l2000, li_g2000, li_m2000, li_h2000, li_e8200, li_f8200, li_l8200, li_g8200, li_m8200, li_h8200, li_e1000000, li_f1000000, li_l1000000, li_g1000000, li_m1000000, li_h1000000, li_50, li_50', li_200, li_200', nI_add, li_s1, li_t1, li_c1, li_c2, li_c3, li_c4, li_c5, li_c6, li_c7, li_c8, li_c9, li_c10, li_c11, li_c12, li_c13, li_c14, li_c15, sg_Kat, sg_Pat, pk_us, pk_uLs, true_implies, forall_const, not_true_eq_false, not_false_eq_true, false_implies, and_true, true_and, implies_true, and_self, if_true, if_false, ite_true, ite_false, reduceIte, eq_self, Nat.reduceEqDiff, Nat.reduceLeDiff, Nat.reduceLT, Int32.reduceLT, Int32.reduceLE]
      have h5 := yl_end hst rfl h' (sy_do_push hd (1, 0, sg_t g (5 * t), x) yl_cell1) HOK HTR
      exact h5
  rw [if_neg h8] at hst
  unfold sr_dfl at hst
  by_cases h1 : sg_k g t = 1
  · rw [if_pos h1] at hst
    simp (disch := omega) only [wpY_byDefault, h1, forall_eq, nI_leI, nI_ltI, nI_eq, vp_in_nI, nI_clamp, nI_1, li_e0, li_f0, li_l0, li_g0, li_m0, li_h0, li_e1, li_f1, li_l1, li_g1, li_m1, li_h1, li_e2, li_f2, li_l2, li_g2, li_m2, li_h2, li_e3, li_f3, li_l3, li_g3, li_m3, li_h3, li_e4, li_f4, li_l4, li_g4, li_m4, li_h4, li_e5, li_f5, li_l5, li_g5, li_m5, li_h5, li_e6, li_f6, li_l6, li_g6, li_m6, li_h6, li_e7, li_f7, li_l7, li_g7, li_m7, li_h7, li_e8, li_f8, li_l8, li_g8, li_m8, li_h8, li_e9, li_f9, li_l9, li_g9, li_m9, li_h9, li_e10, li_f10, li_l10, li_g10, li_m10, li_h10, li_e15, li_f15, li_l15, li_g15, li_m15, li_h15, li_e16, li_f16, li_l16, li_g16, li_m16, li_h16, li_e20, li_f20, li_l20, li_g20, li_m20, li_h20, li_e40, li_f40, li_l40, li_g40, li_m40, li_h40, li_e100, li_f100, li_l100, li_g100, li_m100, li_h100, li_e128, li_f128, li_l128, li_g128, li_m128, li_h128, li_e150, li_f150, li_l150, li_g150, li_m150, li_h150, li_e255, li_f255, li_l255, li_g255, li_m255, li_h255, li_e400, li_f400, li_l400, li_g400, li_m400, li_h400, li_e410, li_f410, li_l410, li_g410, li_m410, li_h410, li_e420, li_f420, li_l420, li_g420, li_m420, li_h420, li_e2000, li_f2000, li_l2000, li_g2000, li_m2000, li_h2000, li_e8200, li_f8200, li_l8200, li_g8200, li_m8200, li_h8200, li_e1000000, li_f1000000, li_l1000000, li_g1000000, li_m1000000, li_h1000000, li_50, li_50', li_200, li_200', nI_add, li_s1, li_t1, li_c1, li_c2, li_c3, li_c4, li_c5, li_c6, li_c7, li_c8, li_c9, li_c10, li_c11, li_c12, li_c13, li_c14, li_c15, sg_Kat, sg_Pat, pk_us, pk_uLs, true_implies, forall_const, not_true_eq_false, not_false_eq_true, false_implies, and_true, true_and, implies_true, and_self, if_true, if_false, ite_true, ite_false, reduceIte, eq_self, Nat.reduceEqDiff, Nat.reduceLeDiff, Nat.reduceLT, Int32.reduceLT, Int32.reduceLE]
    refine yl_out _ h0 (fun lc a tr h' => ?_)
    exact yl_end hst rfl h' hd HOK HTR
  rw [if_neg h1] at hst
  by_cases h2 : sg_k g t = 2
  · rw [if_pos (Or.inl h2)] at hst
    simp (disch := omega) only [wpY_byDefault, wY_byDefault_75, h2, forall_eq, nI_leI, nI_ltI, nI_eq, vp_in_nI, nI_clamp, nI_1, li_e0, li_f0, li_l0, li_g0, li_m0, li_h0, li_e1, li_f1, li_l1, li_g1, li_m1, li_h1, li_e2, li_f2, li_l2, li_g2, li_m2, li_h2, li_e3, li_f3, li_l3, li_g3, li_m3, li_h3, li_e4, li_f4, li_l4, li_g4, li_m4, li_h4, li_e5, li_f5, li_l5, li_g5, li_m5, li_h5, li_e6, li_f6, li_l6, li_g6, li_m6, li_h6, li_e7, li_f7, li_l7, li_g7, li_m7, li_h7, li_e8, li_f8, li_l8, li_g8, li_m8, li_h8, li_e9, li_f9, li_l9, li_g9, li_m9, li_h9, li_e10, li_f10, li_l10, li_g10, li_m10, li_h10, li_e15, li_f15, li_l15, li_g15, li_m15, li_h15, li_e16, li_f16, li_l16, li_g16, li_m16, li_h16, li_e20, li_f20, li_l20, li_g20, li_m20, li_h20, li_e40, li_f40, li_l40, li_g40, li_m40, li_h40, li_e100, li_f100, li_l100, li_g100, li_m100, li_h100, li_e128, li_f128, li_l128, li_g128, li_m128, li_h128, li_e150, li_f150, li_l150, li_g150, li_m150, li_h150, li_e255, li_f255, li_l255, li_g255, li_m255, li_h255, li_e400, li_f400, li_l400, li_g400, li_m400, li_h400, li_e410, li_f410, li_l410, li_g410, li_m410, li_h410, li_e420, li_f420, li_l420, li_g420, li_m420, li_h420, li_e2000, li_f2000, li_l2000, li_g2000, li_m2000, li_h2000, li_e8200, li_f8200, li_l8200, li_g8200, li_m8200, li_h8200, li_e1000000, li_f1000000, li_l1000000, li_g1000000, li_m1000000, li_h1000000, li_50, li_50', li_200, li_200', nI_add, li_s1, li_t1, li_c1, li_c2, li_c3, li_c4, li_c5, li_c6, li_c7, li_c8, li_c9, li_c10, li_c11, li_c12, li_c13, li_c14, li_c15, sg_Kat, sg_Pat, pk_us, pk_uLs, true_implies, forall_const, not_true_eq_false, not_false_eq_true, false_implies, and_true, true_and, implies_true, and_self, if_true, if_false, ite_true, ite_false, reduceIte, eq_self, Nat.reduceEqDiff, Nat.reduceLeDiff, Nat.reduceLT, Int32.reduceLT, Int32.reduceLE]
    refine yl_out _ h0 (fun lc a tr h' => ?_)
    exact yl_end hst rfl h' hd HOK HTR
  by_cases h3 : sg_k g t = 3
  · rw [if_pos (Or.inr h3)] at hst
    simp (disch := omega) only [wpY_byDefault, wY_byDefault_75, h3, forall_eq, nI_leI, nI_ltI, nI_eq, vp_in_nI, nI_clamp, nI_1, li_e0, li_f0, li_l0, li_g0, li_m0, li_h0, li_e1, li_f1, li_l1, li_g1, li_m1, li_h1, li_e2, li_f2, li_l2, li_g2, li_m2, li_h2, li_e3, li_f3, li_l3, li_g3, li_m3, li_h3, li_e4, li_f4, li_l4, li_g4, li_m4, li_h4, li_e5, li_f5, li_l5, li_g5, li_m5, li_h5, li_e6, li_f6, li_l6, li_g6, li_m6, li_h6, li_e7, li_f7, li_l7, li_g7, li_m7, li_h7, li_e8, li_f8, li_l8, li_g8, li_m8, li_h8, li_e9, li_f9, li_l9, li_g9, li_m9, li_h9, li_e10, li_f10, li_l10, li_g10, li_m10, li_h10, li_e15, li_f15, li_l15, li_g15, li_m15, li_h15, li_e16, li_f16, li_l16, li_g16, li_m16, li_h16, li_e20, li_f20, li_l20, li_g20, li_m20, li_h20, li_e40, li_f40, li_l40, li_g40, li_m40, li_h40, li_e100, li_f100, li_l100, li_g100, li_m100, li_h100, li_e128, li_f128, li_l128, li_g128, li_m128, li_h128, li_e150, li_f150, li_l150, li_g150, li_m150, li_h150, li_e255, li_f255, li_l255, li_g255, li_m255, li_h255, li_e400, li_f400, li_l400, li_g400, li_m400, li_h400, li_e410, li_f410, li_l410, li_g410, li_m410, li_h410, li_e420, li_f420, li_l420, li_g420, li_m420, li_h420, li_e2000, li_f2000, li_l2000, li_g2000, li_m2000, li_h2000, li_e8200, li_f8200, li_l8200, li_g8200, li_m8200, li_h8200, li_e1000000, li_f1000000, li_l1000000, li_g1000000, li_m1000000, li_h1000000, li_50, li_50', li_200, li_200', nI_add, li_s1, li_t1, li_c1, li_c2, li_c3, li_c4, li_c5, li_c6, li_c7, li_c8, li_c9, li_c10, li_c11, li_c12, li_c13, li_c14, li_c15, sg_Kat, sg_Pat, pk_us, pk_uLs, true_implies, forall_const, not_true_eq_false, not_false_eq_true, false_implies, and_true, true_and, implies_true, and_self, if_true, if_false, ite_true, ite_false, reduceIte, eq_self, Nat.reduceEqDiff, Nat.reduceLeDiff, Nat.reduceLT, Int32.reduceLT, Int32.reduceLE]
    refine yl_out _ h0 (fun lc a tr h' => ?_)
    exact yl_end hst rfl h' hd HOK HTR
  rw [if_neg (by omega)] at hst
  by_cases h4 : sg_k g t = 4
  · rw [if_pos h4] at hst
    simp (disch := omega) only [wpY_byDefault, h4, forall_eq, nI_leI, nI_ltI, nI_eq, vp_in_nI, nI_clamp, nI_1, li_e0, li_f0, li_l0, li_g0, li_m0, li_h0, li_e1, li_f1, li_l1, li_g1, li_m1, li_h1, li_e2, li_f2, li_l2, li_g2, li_m2, li_h2, li_e3, li_f3, li_l3, li_g3, li_m3, li_h3, li_e4, li_f4, li_l4, li_g4, li_m4, li_h4, li_e5, li_f5, li_l5, li_g5, li_m5, li_h5, li_e6, li_f6, li_l6, li_g6, li_m6, li_h6, li_e7, li_f7, li_l7, li_g7, li_m7, li_h7, li_e8, li_f8, li_l8, li_g8, li_m8, li_h8, li_e9, li_f9, li_l9, li_g9, li_m9, li_h9, li_e10, li_f10, li_l10, li_g10, li_m10, li_h10, li_e15, li_f15, li_l15, li_g15, li_m15, li_h15, li_e16, li_f16, li_l16, li_g16, li_m16, li_h16, li_e20, li_f20, li_l20, li_g20, li_m20, li_h20, li_e40, li_f40, li_l40, li_g40, li_m40, li_h40, li_e100, li_f100, li_l100, li_g100, li_m100, li_h100, li_e128, li_f128, li_l128, li_g128, li_m128, li_h128, li_e150, li_f150, li_l150, li_g150, li_m150, li_h150, li_e255, li_f255, li_l255, li_g255, li_m255, li_h255, li_e400, li_f400, li_l400, li_g400, li_m400, li_h400, li_e410, li_f410, li_l410, li_g410, li_m410, li_h410, li_e420, li_f420, li_l420, li_g420, li_m420, li_h420, li_e2000, li_f2000, li_l2000, li_g2000, li_m2000, li_h2000, li_e8200, li_f8200, li_l8200, li_g8200, li_m8200, li_h8200, li_e1000000, li_f1000000, li_l1000000, li_g1000000, li_m1000000, li_h1000000, li_50, li_50', li_200, li_200', nI_add, li_s1, li_t1, li_c1, li_c2, li_c3, li_c4, li_c5, li_c6, li_c7, li_c8, li_c9, li_c10, li_c11, li_c12, li_c13, li_c14, li_c15, sg_Kat, sg_Pat, pk_us, pk_uLs, true_implies, forall_const, not_true_eq_false, not_false_eq_true, false_implies, and_true, true_and, implies_true, and_self, if_true, if_false, ite_true, ite_false, reduceIte, eq_self, Nat.reduceEqDiff, Nat.reduceLeDiff, Nat.reduceLT, Int32.reduceLT, Int32.reduceLE]
    refine yl_out _ h0 (fun lc a tr h' => ?_)
    simp (disch := omega) only [forall_eq, nI_leI, nI_ltI, nI_eq, vp_in_nI, nI_clamp, nI_1, li_e0, li_f0, li_l0, li_g0, li_m0, li_h0, li_e1, li_f1, li_l1, li_g1, li_m1, li_h1, li_e2, li_f2, li_l2, li_g2, li_m2, li_h2, li_e3, li_f3, li_l3, li_g3, li_m3, li_h3, li_e4, li_f4, li_l4, li_g4, li_m4, li_h4, li_e5, li_f5, li_l5, li_g5, li_m5, li_h5, li_e6, li_f6, li_l6, li_g6, li_m6, li_h6, li_e7, li_f7, li_l7, li_g7, li_m7, li_h7, li_e8, li_f8, li_l8, li_g8, li_m8, li_h8, li_e9, li_f9, li_l9, li_g9, li_m9, li_h9, li_e10, li_f10, li_l10, li_g10, li_m10, li_h10, li_e15, li_f15, li_l15, li_g15, li_m15, li_h15, li_e16, li_f16, li_l16, li_g16, li_m16, li_h16, li_e20, li_f20, li_l20, li_g20, li_m20, li_h20, li_e40, li_f40, li_l40, li_g40, li_m40, li_h40, li_e100, li_f100, li_l100, li_g100, li_m100, li_h100, li_e128, li_f128, li_l128, li_g128, li_m128, li_h128, li_e150, li_f150, li_l150, li_g150, li_m150, li_h150, li_e255, li_f255, li_l255, li_g255, li_m255, li_h255, li_e400, li_f400, li_l400, li_g400, li_m400, li_h400, li_e410, li_f410, li_l410, li_g410, li_m410, li_h410, li_e420, li_f420, li_l420, li_g420, li_m420, li_h420, li_e2000, li_f2000, li_l2000, li_g2000, li_m2000, li_h2000, li_e8200, li_f8200, li_l8200, li_g8200, li_m8200, li_h8200, li_e1000000, li_f1000000, li_l1000000, li_g1000000, li_m1000000, li_h1000000, li_50, li_50', li_200, li_200', nI_add, li_s1, li_t1, li_c1, li_c2, li_c3, li_c4, li_c5, li_c6, li_c7, li_c8, li_c9, li_c10, li_c11, li_c12, li_c13, li_c14, li_c15, sg_Kat, sg_Pat, pk_us, pk_uLs, true_implies, forall_const, not_true_eq_false, not_false_eq_true, false_implies, and_true, true_and, implies_true, and_self, if_true, if_false, ite_true, ite_false, reduceIte, eq_self, Nat.reduceEqDiff, Nat.reduceLeDiff, Nat.reduceLT, Int32.reduceLT, Int32.reduceLE]
    refine yl_out _ h' (fun lc a tr h'' => ?_)
    exact yl_end hst rfl h'' hd HOK HTR
  rw [if_neg h4] at hst
  by_cases h5 : sg_k g t = 5
  · rw [if_pos h5] at hst
    by_cases hp0 : sg_p g t = 0
    · rw [if_pos hp0] at hst
      simp (disch := omega) only [wpY_byDefault, h5, hp0, forall_eq, nI_leI, nI_ltI, nI_eq, vp_in_nI, nI_clamp, nI_1, li_e0, li_f0, li_l0, li_g0, li_m0, li_h0, li_e1, li_f1, li_l1, li_g1, li_m1, li_h1, li_e2, li_f2, li_l2, li_g2, li_m2, li_h2, li_e3, li_f3, li_l3, li_g3, li_m3, li_h3, li_e4, li_f4, li_l4, li_g4, li_m4, li_h4, li_e5, li_f5, li_l5, li_g5, li_m5, li_h5, li_e6, li_f6, li_l6, li_g6, li_m6, li_h6, li_e7, li_f7, li_l7, li_g7, li_m7, li_h7, li_e8, li_f8, li_l8, li_g8, li_m8, li_h8, li_e9, li_f9, li_l9, li_g9, li_m9, li_h9, li_e10, li_f10, li_l10, li_g10, li_m10, li_h10, li_e15, li_f15, li_l15, li_g15, li_m15, li_h15, li_e16, li_f16, li_l16, li_g16, li_m16, li_h16, li_e20, li_f20, li_l20, li_g20, li_m20, li_h20, li_e40, li_f40, li_l40, li_g40, li_m40, li_h40, li_e100, li_f100, li_l100, li_g100, li_m100, li_h100, li_e128, li_f128, li_l128, li_g128, li_m128, li_h128, li_e150, li_f150, li_l150, li_g150, li_m150, li_h150, li_e255, li_f255, li_l255, li_g255, li_m255, li_h255, li_e400, li_f400, li_l400, li_g400, li_m400, li_h400, li_e410, li_f410, li_l410, li_g410, li_m410, li_h410, li_e420, li_f420, li_l420, li_g420, li_m420, li_h420, li_e2000, li_f2000, li_l2000, li_g2000, li_m2000, li_h2000, li_e8200, li_f8200, li_l8200, li_g8200, li_m8200, li_h8200, li_e1000000, li_f1000000, li_l1000000, li_g1000000, li_m1000000, li_h1000000, li_50, li_50', li_200, li_200', nI_add, li_s1, li_t1, li_c1, li_c2, li_c3, li_c4, li_c5, li_c6, li_c7, li_c8, li_c9, li_c10, li_c11, li_c12, li_c13, li_c14, li_c15, sg_Kat, sg_Pat, pk_us, pk_uLs, true_implies, forall_const, not_true_eq_false, not_false_eq_true, false_implies, and_true, true_and, implies_true, and_self, if_true, if_false, ite_true, ite_false, reduceIte, eq_self, Nat.reduceEqDiff, Nat.reduceLeDiff, Nat.reduceLT, Int32.reduceLT, Int32.reduceLE]
      have h5 := yl_bad (tv := tv) (tt := tt) (td := td) (todo := nI rest.length) (rc := nI d) hst (by decide) h0 HTR
      rw [if_pos rfl] at h5
      exact h5
    · rw [if_neg hp0] at hst
      have hmod := sm_y x (p := sg_p g t) (by omega) p5
      have hml := (sm_lt x (p := sg_p g t) (by omega)).1
      have en := hY.2.1 t (sr_mod x (sg_p g t)) htn hml (by omega)
      simp (disch := omega) only [wpY_byDefault, h5, hp0, hmod, en, forall_eq, nI_leI, nI_ltI, nI_eq, vp_in_nI, nI_clamp, nI_1, li_e0, li_f0, li_l0, li_g0, li_m0, li_h0, li_e1, li_f1, li_l1, li_g1, li_m1, li_h1, li_e2, li_f2, li_l2, li_g2, li_m2, li_h2, li_e3, li_f3, li_l3, li_g3, li_m3, li_h3, li_e4, li_f4, li_l4, li_g4, li_m4, li_h4, li_e5, li_f5, li_l5, li_g5, li_m5, li_h5, li_e6, li_f6, li_l6, li_g6, li_m6, li_h6, li_e7, li_f7, li_l7, li_g7, li_m7, li_h7, li_e8, li_f8, li_l8, li_g8, li_m8, li_h8, li_e9, li_f9, li_l9, li_g9, li_m9, li_h9, li_e10, li_f10, li_l10, li_g10, li_m10, li_h10, li_e15, li_f15, li_l15, li_g15, li_m15, li_h15, li_e16, li_f16, li_l16, li_g16, li_m16, li_h16, li_e20, li_f20, li_l20, li_g20, li_m20, li_h20, li_e40, li_f40, li_l40, li_g40, li_m40, li_h40, li_e100, li_f100, li_l100, li_g100, li_m100, li_h100, li_e128, li_f128, li_l128, li_g128, li_m128, li_h128, li_e150, li_f150, li_l150, li_g150, li_m150, li_h150, li_e255, li_f255, li_l255, li_g255, li_m255, li_h255, li_e400, li_f400, li_l400, li_g400, li_m400, li_h400, li_e410, li_f410, li_l410, li_g410, li_m410, li_h410, li_e420, li_f420, li_l420, li_g420, li_m420, li_h420, li_e2000, li_f2000, li_l2000, li_g2000, li_m2000, li_h2000, li_e8200, li_f8200, li_l8200, li_g8200, li_m8200, li_h8200, li_e1000000, li_f1000000, li_l1000000, li_g1000000, li_m1000000, li_h1000000, li_50, li_50', li_200, li_200', nI_add, li_s1, li_t1, li_c1, li_c2, li_c3, li_c4, li_c5, li_c6, li_c7, li_c8, li_c9, li_c10, li_c11, li_c12, li_c13, li_c14, li_c15, sg_Kat, sg_Pat, pk_us, pk_uLs, true_implies, forall_const, not_true_eq_false, not_false_eq_true, false_implies, and_true, true_and, implies_true, and_self, if_true, if_false, ite_true, ite_false, reduceIte, eq_self, Nat.reduceEqDiff, Nat.reduceLeDiff, Nat.reduceLT, Int32.reduceLT, Int32.reduceLE]
      refine yl_out _ h0 (fun lc a tr h' => ?_)
      exact yl_end hst rfl h' hd HOK HTR
  rw [if_neg h5] at hst
  by_cases h6 : sg_k g t = 6
  · rw [if_pos h6] at hst
    simp (disch := omega) only [wpY_byDefault, h6, forall_eq, nI_leI, nI_ltI, nI_eq, vp_in_nI, nI_clamp, nI_1, li_e0, li_f0, li_l0, li_g0, li_m0, li_h0, li_e1, li_f1, li_l1, li_g1, li_m1, li_h1, li_e2, li_f2, li_l2, li_g2, li_m2, li_h2, li_e3, li_f3, li_l3, li_g3, li_m3, li_h3, li_e4, li_f4, li_l4, li_g4, li_m4, li_h4, li_e5, li_f5, li_l5, li_g5, li_m5, li_h5, li_e6, li_f6, li_l6, li_g6, li_m6, li_h6, li_e7, li_f7, li_l7, li_g7, li_m7, li_h7, li_e8, li_f8, li_l8, li_g8, li_m8, li_h8, li_e9, li_f9, li_l9, li_g9, li_m9, li_h9, li_e10, li_f10, li_l10, li_g10, li_m10, li_h10, li_e15, li_f15, li_l15, li_g15, li_m15, li_h15, li_e16, li_f16, li_l16, li_g16, li_m16, li_h16, li_e20, li_f20, li_l20, li_g20, li_m20, li_h20, li_e40, li_f40, li_l40, li_g40, li_m40, li_h40, li_e100, li_f100, li_l100, li_g100, li_m100, li_h100, li_e128, li_f128, li_l128, li_g128, li_m128, li_h128, li_e150, li_f150, li_l150, li_g150, li_m150, li_h150, li_e255, li_f255, li_l255, li_g255, li_m255, li_h255, li_e400, li_f400, li_l400, li_g400, li_m400, li_h400, li_e410, li_f410, li_l410, li_g410, li_m410, li_h410, li_e420, li_f420, li_l420, li_g420, li_m420, li_h420, li_e2000, li_f2000, li_l2000, li_g2000, li_m2000, li_h2000, li_e8200, li_f8200, li_l8200, li_g8200, li_m8200, li_h8200, li_e1000000, li_f1000000, li_l1000000, li_g1000000, li_m1000000, li_h1000000, li_50, li_50', li_200, li_200', nI_add, li_s1, li_t1, li_c1, li_c2, li_c3, li_c4, li_c5, li_c6, li_c7, li_c8, li_c9, li_c10, li_c11, li_c12, li_c13, li_c14, li_c15, sg_Kat, sg_Pat, pk_us, pk_uLs, true_implies, forall_const, not_true_eq_false, not_false_eq_true, false_implies, and_true, true_and, implies_true, and_self, if_true, if_false, ite_true, ite_false, reduceIte, eq_self, Nat.reduceEqDiff, Nat.reduceLeDiff, Nat.reduceLT, Int32.reduceLT, Int32.reduceLE]
    refine yl_fixed (by omega) (hY.1 t htn (Or.inl h6)) (hg.2.2.2.2.1 t htn h6) h0 (fun lc a tr h' => ?_)
    exact yl_end hst rfl h' hd HOK HTR
  rw [if_neg h6] at hst
  by_cases h9 : sg_k g t = 9
  · rw [if_pos h9] at hst
    have q8 : 8 < sg_k g t := by omega
    have er : (sr_rec g w (400 + d) t d).1 = [] := by
      unfold sr_rec
      split <;> rfl
    simp (disch := omega) only [wpY_byDefault, h9, Nat.not_lt_zero, forall_eq, nI_leI, nI_ltI, nI_eq, vp_in_nI, nI_clamp, nI_1, li_e0, li_f0, li_l0, li_g0, li_m0, li_h0, li_e1, li_f1, li_l1, li_g1, li_m1, li_h1, li_e2, li_f2, li_l2, li_g2, li_m2, li_h2, li_e3, li_f3, li_l3, li_g3, li_m3, li_h3, li_e4, li_f4, li_l4, li_g4, li_m4, li_h4, li_e5, li_f5, li_l5, li_g5, li_m5, li_h5, li_e6, li_f6, li_l6, li_g6, li_m6, li_h6, li_e7, li_f7, li_l7, li_g7, li_m7, li_h7, li_e8, li_f8, li_l8, li_g8, li_m8, li_h8, li_e9, li_f9, li_l9, li_g9, li_m9, li_h9, li_e10, li_f10, li_l10, li_g10, li_m10, li_h10, li_e15, li_f15, li_l15, li_g15, li_m15, li_h15, li_e16, li_f16, li_l16, li_g16, li_m16, li_h16, li_e20, li_f20, li_l20, li_g20, li_m20, li_h20, li_e40, li_f40, li_l40, li_g40, li_m40, li_h40, li_e100, li_f100, li_l100, li_g100, li_m100, li_h100, li_e128, li_f128, li_l128, li_g128, li_m128, li_h128, li_e150, li_f150, li_l150, li_g150, li_m150, li_h150, li_e255, li_f255, li_l255, li_g255, li_m255, li_h255, li_e400, li_f400, li_l400, li_g400, li_m400, li_h400, li_e410, li_f410, li_l410, li_g410, li_m410, li_h410, li_e420, li_f420, li_l420, li_g420, li_m420, li_h420, li_e2000, li_f2000, li_l2000, li_g2000, li_m2000, li_h2000, li_e8200, li_f8200, li_l8200, li_g8200, li_m8200, li_h8200, li_e1000000, li_f1000000, li_l1000000, li_g1000000, li_m1000000, li_h1000000, li_50, li_50', li_200, li_200', nI_add, li_s1, li_t1, li_c1, li_c2, li_c3, li_c4, li_c5, li_c6, li_c7, li_c8, li_c9, li_c10, li_c11, li_c12, li_c13, li_c14, li_c15, sg_Kat, sg_Pat, pk_us, pk_uLs, true_implies, forall_const, not_true_eq_false, not_false_eq_true, false_implies, and_true, true_and, implies_true, and_self, if_true, if_false, ite_true, ite_false, reduceIte, eq_self, Nat.reduceEqDiff, Nat.reduceLeDiff, Nat.reduceLT, Int32.reduceLT, Int32.reduceLE]
    refine yl_enter (rest := rest) (by omega) (by omega) rfl hd (fun tv tt td hd2 => ?_)
    simp (disch := omega) only [forall_eq, nI_leI, nI_ltI, nI_eq, vp_in_nI, nI_clamp, nI_1, li_e0, li_f0, li_l0, li_g0, li_m0, li_h0, li_e1, li_f1, li_l1, li_g1, li_m1, li_h1, li_e2, li_f2, li_l2, li_g2, li_m2, li_h2, li_e3, li_f3, li_l3, li_g3, li_m3, li_h3, li_e4, li_f4, li_l4, li_g4, li_m4, li_h4, li_e5, li_f5, li_l5, li_g5, li_m5, li_h5, li_e6, li_f6, li_l6, li_g6, li_m6, li_h6, li_e7, li_f7, li_l7, li_g7, li_m7, li_h7, li_e8, li_f8, li_l8, li_g8, li_m8, li_h8, li_e9, li_f9, li_l9, li_g9, li_m9, li_h9, li_e10, li_f10, li_l10, li_g10, li_m10, li_h10, li_e15, li_f15, li_l15, li_g15, li_m15, li_h15, li_e16, li_f16, li_l16, li_g16, li_m16, li_h16, li_e20, li_f20, li_l20, li_g20, li_m20, li_h20, li_e40, li_f40, li_l40, li_g40, li_m40, li_h40, li_e100, li_f100, li_l100, li_g100, li_m100, li_h100, li_e128, li_f128, li_l128, li_g128, li_m128, li_h128, li_e150, li_f150, li_l150, li_g150, li_m150, li_h150, li_e255, li_f255, li_l255, li_g255, li_m255, li_h255, li_e400, li_f400, li_l400, li_g400, li_m400, li_h400, li_e410, li_f410, li_l410, li_g410, li_m410, li_h410, li_e420, li_f420, li_l420, li_g420, li_m420, li_h420, li_e2000, li_f2000, li_l2000, li_g2000, li_m2000, li_h2000, li_e8200, li_f8200, li_l8200, li_g8200, li_m8200, li_h8200, li_e1000000, li_f1000000, li_l1000000, li_g1000000, li_m1000000, li_h1000000, li_50, li_50', li_200, li_200', nI_add, li_s1, li_t1, li_c1, li_c2, li_c3, li_c4, li_c5, li_c6, li_c7, li_c8, li_c9, li_c10, li_c11, li_c12, li_c13, li_c14, li_c15, sg_Kat, sg_Pat, pk_us, pk_uLs, true_implies, forall_const, not_true_eq_false, not_false_eq_true, false_implies, and_true, true_and, implies_true, and_self, if_true, if_false, ite_true, ite_false, reduceIte, eq_self, Nat.reduceEqDiff, Nat.reduceLeDiff, Nat.reduceLT, Int32.reduceLT, Int32.reduceLE]
    refine ⟨sg_p g t + 1, yl_fieldsD (w := w) (v := 400 + d) (rest := rest) hg hY htn h9 (by omega) (by omega) (fun tv tt td hd3 => ?_) (sg_p g t) 0 tv tt td (by omega) hd2⟩
    unfold sr_rec at hst
    by_cases hd0 : d = 10
    · rw [if_pos hd0] at hst
      rw [if_pos hd0]
      have h5 := yl_bad (tv := tv) (tt := tt) (td := td) (todo := nI (rest.length + 1 + sg_p g t)) (rc := nI (d + 1)) hst (by decide) h0 HTR
      rw [if_pos rfl] at h5
      exact h5
    · rw [if_neg hd0] at hst
      rw [if_neg hd0]
      have h5 := yl_end hst rfl h0 hd3 HOK HTR
      have e5 : (sr_fs g w (400 + d) t (sg_p g t) 0 ++ rest).length = rest.length + 1 + sg_p g t := by
        rw [List.length_append, sr_fs_len]; omega
      rw [e5] at h5
      exact h5
  · rw [if_neg h9] at hst
    have h07 : sg_k g t = 0 ∨ sg_k g t = 7 := by omega
    rcases h07 with h07 | h07
    · simp (disch := omega) only [wpY_byDefault, wY_byDefault_56, h07, Nat.not_lt_zero, forall_eq, nI_leI, nI_ltI, nI_eq, vp_in_nI, nI_clamp, nI_1, li_e0, li_f0, li_l0, li_g0, li_m0, li_h0, li_e1, li_f1, li_l1, li_g1, li_m1, li_h1, li_e2, li_f2, li_l2, li_g2, li_m2, li_h2, li_e3, li_f3, li_l3, li_g3, li_m3, li_h3, li_e4, li_f4, li_l4, li_g4, li_m4, li_h4, li_e5, li_f5, li_l5, li_g5, li_m5, li_h5, li_e6, li_f6, li_l6, li_g6, li_m6, li_h6, li_e7, li_f7, li_l7, li_g7, li_m7, li_h7, li_e8, li_f8, li_l8, li_g8, li_m8, li_h8, li_e9, li_f9, li_l9, li_g9, li_m9, li_h9, li_e10, li_f10, li_l10, li_g10, li_m10, li_h10, li_e15, li_f15, li_l15, li_g15, li_m15, li_h15, li_e16, li_f16, li_l16, li_g16, li_m16, li_h16, li_e20, li_f20, li_l20, li_g20, li_m20, li_h20, li_e40, li_f40, li_l40, li_g40, li_m40, li_h40, li_e100, li_f100, li_l100, li_g100, li_m100, li_h100, li_e128, li_f128, li_l128, li_g128, li_m128, li_h128, li_e150, li_f150, li_l150, li_g150, li_m150, li_h150, li_e255, li_f255, li_l255, li_g255, li_m255, li_h255, li_e400, li_f400, li_l400, li_g400, li_m400, li_h400, li_e410, li_f410, li_l410, li_g410, li_m410, li_h410, li_e420, li_f420, li_l420, li_g420, li_m420, li_h420, li_e2000, li_f2000, li_l2000, li_g2000, li_m2000, li_h2000, li_e8200, li_f8200, li_l8200, li_g8200, li_m8200, li_h8200, li_e1000000, li_f1000000, li_l1000000, li_g1000000, li_m1000000, li_h1000000, li_50, li_50', li_200, li_200', nI_add, li_s1, li_t1, li_c1, li_c2, li_c3, li_c4, li_c5, li_c6, li_c7, li_c8, li_c9, li_c10, li_c11, li_c12, li_c13, li_c14, li_c15, sg_Kat, sg_Pat, pk_us, pk_uLs, true_implies, forall_const, not_true_eq_false, not_false_eq_true, false_implies, and_true, true_and, implies_true, and_self, if_true, if_false, ite_true, ite_false, reduceIte, eq_self, Nat.reduceEqDiff, Nat.reduceLeDiff, Nat.reduceLT, Int32.reduceLT, Int32.reduceLE]
      refine yl_out _ h0 (fun lc a tr h' => ?_)
      exact yl_end hst rfl h' hd HOK HTR
    · simp (disch := omega) only [wpY_byDefault, wY_byDefault_56, h07, Nat.not_lt_zero, forall_eq, nI_leI, nI_ltI, nI_eq, vp_in_nI, nI_clamp, nI_1, li_e0, li_f0, li_l0, li_g0, li_m0, li_h0, li_e1, li_f1, li_l1, li_g1, li_m1, li_h1, li_e2, li_f2, li_l2, li_g2, li_m2, li_h2, li_e3, li_f3, li_l3, li_g3, li_m3, li_h3, li_e4, li_f4, li_l4, li_g4, li_m4, li_h4, li_e5, li_f5, li_l5, li_g5, li_m5, li_h5, li_e6, li_f6, li_l6, li_g6, li_m6, li_h6, li_e7, li_f7, li_l7, li_g7, li_m7, li_h7, li_e8, li_f8, li_l8, li_g8, li_m8, li_h8, li_e9, li_f9, li_l9, li_g9, li_m9, li_h9, li_e10, li_f10, li_l10, li_g10, li_m10, li_h10, li_e15, li_f15, li_l15, li_g15, li_m15, li_h15, li_e16, li_f16, li_l16, li_g16, li_m16, li_h16, li_e20, li_f20, li_l20, li_g20, li_m20, li_h20, li_e40, li_f40, li_l40, li_g40, li_m40, li_h40, li_e100, li_f100, li_l100, li_g100, li_m100, li_h100, li_e128, li_f128, li_l128, li_g128, li_m128, li_h128, li_e150, li_f150, li_l150, li_g150, li_m150, li_h150, li_e255, li_f255, li_l255, li_g255, li_m255, li_h255, li_e400, li_f400, li_l400, li_g400, li_m400, li_h400, li_e410, li_f410, li_l410, li_g410, li_m410, li_h410, li_e420, li_f420, li_l420, li_g420, li_m420, li_h420, li_e2000, li_f2000, li_l2000, li_g2000, li_m2000, li_h2000, li_e8200, li_f8200, li_l8200, li_g8200, li_m8200, li_h8200, li_e1000000, li_f1000000, li_l1000000, li_g1000000, li_m1000000, li_h1000000, li_50, li_50', li_200, li_200', nI_add, li_s1, li_t1, li_c1, li_c2, li_c3, li_c4, li_c5, li_c6, li_c7, li_c8, li_c9, li_c10, li_c11, li_c12, li_c13, li_c14, li_c15, sg_Kat, sg_Pat, pk_us, pk_uLs, true_implies, forall_const, not_true_eq_false, not_false_eq_true, false_implies, and_true, true_and, implies_true, and_self, if_true, if_false, ite_true, ite_false, reduceIte, eq_self, Nat.reduceEqDiff, Nat.reduceLeDiff, Nat.reduceLT, Int32.reduceLT, Int32.reduceLE]
      refine yl_out _ h0 (fun lc a tr h' => ?_)
      exact yl_end hst rfl h' hd HOK HTR
end
section
variable {y_types y_byteCount y_writtenCount y_numberCount y_listCount y_values y_depth y_records y_at y_wrong y_todo : Int32}
variable {y_kind y_of y_parts y_fallback y_name y_part y_alias y_given y_has y_bytes y_written y_valueType y_start y_child y_last y_next y_open y_come y_left y_todoValue y_todoType y_todoDefault y_pair y_whole : Nat → Int32}
variable {y_numbers y_list y_value : Nat → Int64}
variable {g : sg_T} {w : sr_V} {post : SY → Prop} {r : Nat}
theorem yl_exit {n : Nat} (h : ¬ y_wrong = 0) (hp : post (y_types, y_byteCount, y_writtenCount, y_numberCount, y_listCount, y_values, y_depth, y_records, y_at, y_wrong, y_todo, y_kind, y_of, y_parts, y_fallback, y_name, y_part, y_alias, y_given, y_has, y_bytes, y_written, y_numbers, y_list, y_valueType, y_start, y_child, y_last, y_next, y_value, y_open, y_come, y_left, y_todoValue, y_todoType, y_todoDefault, y_pair, y_whole)) : wY_resolve_17 post (n + 1) y_types y_byteCount y_writtenCount y_numberCount y_listCount y_values y_depth y_records y_at y_wrong y_todo y_kind y_of y_parts y_fallback y_name y_part y_alias y_given y_has y_bytes y_written y_numbers y_list y_valueType y_start y_child y_last y_next y_value y_open y_come y_left y_todoValue y_todoType y_todoDefault y_pair y_whole := by
  rw [wY_resolve_17]
  exact br_c (fun _ => hp) (fun _ => br_f h hp)
/-- what the machine's run gives, the reference gives -/
theorem yl_loop (hg : sg_ok g) (hY : sg_Y g y_of y_name y_part y_alias y_has y_given) (hw : sv_ok g w) (ht : sy_tree g w y_valueType y_start y_child y_next y_value) {c0 c1 : List sr_I} {d0 d1 : Nat} {L0 L1 : List Int64} {e : Int32} (hc : sr_cert g w c0 d0 L0 c1 d1 L1) (hfin : sr_fin g w c1 d1 L1 e) (hg0 : sr_good g w c0 d0) (hL0 : L0.length ≤ 150)
    (H0 : e = 0 → ∀ (a : Nat → Int64) (tv tt td : Nat → Int32), sl_is L1 a → L1.length ≤ 150 → post (nI (sg_n g), y_byteCount, y_writtenCount, y_numberCount, nI L1.length, y_values, y_depth, nI d1, y_at, 0, 0, sg_K g, y_of, sg_P g, sg_f g, y_name, y_part, y_alias, y_given, y_has, sv_b w, y_written, y_numbers, a, y_valueType, y_start, y_child, y_last, y_next, y_value, y_open, y_come, y_left, tv, tt, td, y_pair, y_whole))
    (H1 : ¬ e = 0 → ∀ (lc : Int32) (a : Nat → Int64) (todo rc : Int32) (tv tt td : Nat → Int32), post (nI (sg_n g), y_byteCount, y_writtenCount, y_numberCount, lc, y_values, y_depth, rc, y_at, e, todo, sg_K g, y_of, sg_P g, sg_f g, y_name, y_part, y_alias, y_given, y_has, sv_b w, y_written, y_numbers, a, y_valueType, y_start, y_child, y_last, y_next, y_value, y_open, y_come, y_left, tv, tt, td, y_pair, y_whole)) :
    ∀ (a : Nat → Int64) (tv tt td : Nat → Int32), sl_is L0 a → sy_do tv tt td c0 → ∃ n, wY_resolve_17 post n (nI (sg_n g)) y_byteCount y_writtenCount y_numberCount (nI L0.length) y_values y_depth (nI d0) y_at 0 (nI c0.length) (sg_K g) y_of (sg_P g) (sg_f g) y_name y_part y_alias y_given y_has (sv_b w) y_written y_numbers a y_valueType y_start y_child y_last y_next y_value y_open y_come y_left tv tt td y_pair y_whole := by
  have hn := hg.1
  have hm4 := hw.1
  -- one item
  have step : ∀ (it : sr_I) (rest : List sr_I) (d : Nat) (L : List Int64) (n : Nat) (a : Nat → Int64) (tv tt td : Nat → Int32), sr_good g w (it :: rest) d → L.length ≤ 150 → sl_is L a → sy_do tv tt td (it :: rest) →
      (∀ (a : Nat → Int64) (tv tt td : Nat → Int32), (sr_stp g w it d).2.1 = 0 → L.length + (sr_stp g w it d).1.length ≤ 150 → sl_is (L ++ (sr_stp g w it d).1) a → sy_do tv tt td ((sr_stp g w it d).2.2.1 ++ rest) → wY_resolve_17 post n (nI (sg_n g)) y_byteCount y_writtenCount y_numberCount (nI (L.length + (sr_stp g w it d).1.length)) y_values y_depth (nI (sr_stp g w it d).2.2.2) y_at 0 (nI ((sr_stp g w it d).2.2.1 ++ rest).length) (sg_K g) y_of (sg_P g) (sg_f g) y_name y_part y_alias y_given y_has (sv_b w) y_written y_numbers a y_valueType y_start y_child y_last y_next y_value y_open y_come y_left tv tt td y_pair y_whole) →
      (∀ (e lc : Int32) (a : Nat → Int64) (todo rc : Int32) (tv tt td : Nat → Int32), sr_fin g w (it :: rest) d L e → ¬ e = 0 → wY_resolve_17 post n (nI (sg_n g)) y_byteCount y_writtenCount y_numberCount lc y_values y_depth rc y_at e todo (sg_K g) y_of (sg_P g) (sg_f g) y_name y_part y_alias y_given y_has (sv_b w) y_written y_numbers a y_valueType y_start y_child y_last y_next y_value y_open y_come y_left tv tt td y_pair y_whole) →
      wY_resolve_17 post (n + 1) (nI (sg_n g)) y_byteCount y_writtenCount y_numberCount (nI L.length) y_values y_depth (nI d) y_at 0 (nI (it :: rest).length) (sg_K g) y_of (sg_P g) (sg_f g) y_name y_part y_alias y_given y_has (sv_b w) y_written y_numbers a y_valueType y_start y_child y_last y_next y_value y_open y_come y_left tv tt td y_pair y_whole := by
    intro it rest d L n a tv tt td hgood hL hl hdo HOK HTR
    obtain ⟨tag, v, t, x⟩ := it
    obtain ⟨hcell, hdo2⟩ := hdo
    obtain ⟨g1, g2, g3, g4⟩ := hgood
    have hlen : rest.length ≤ 1000 := by omega
    have e1 : nI (rest.length + 1) - 1 = nI rest.length := nI_pred _
    have e0 : ¬ rest.length + 1 ≤ 0 := by omega
    rw [wY_resolve_17]
    simp (disch := omega) only [List.length_cons, e0, e1, forall_eq, nI_leI, nI_ltI, nI_eq, vp_in_nI, nI_clamp, nI_1, li_e0, li_f0, li_l0, li_g0, li_m0, li_h0, li_e1, li_f1, li_l1, li_g1, li_m1, li_h1, li_e2, li_f2, li_l2, li_g2, li_m2, li_h2, li_e3, li_f3, li_l3, li_g3, li_m3, li_h3, li_e4, li_f4, li_l4, li_g4, li_m4, li_h4, li_e5, li_f5, li_l5, li_g5, li_m5, li_h5, li_e6, li_f6, li_l6, li_g6, li_m6, li_h6, li_e7, li_f7, li_l7, li_g7, li_m7, li_h7, li_e8, li_f8, li_l8, li_g8, li_m8, li_h8, li_e9, li_f9, li_l9, li_g9, li_m9, li_h9, li_e10, li_f10, li_l10, li_g10, li_m10, li_h10, li_e15, li_f15, li_l15, li_g15, li_m15, li_h15, li_e16, li_f16, li_l16, li_g16, li_m16, li_h16, li_e20, li_f20, li_l20, li_g20, li_m20, li_h20, li_e40, li_f40, li_l40, li_g40, li_m40, li_h40, li_e100, li_f100, li_l100, li_g100, li_m100, li_h100, li_e128, li_f128, li_l128, li_g128, li_m128, li_h128, li_e150, li_f150, li_l150, li_g150, li_m150, li_h150, li_e255, li_f255, li_l255, li_g255, li_m255, li_h255, li_e400, li_f400, li_l400, li_g400, li_m400, li_h400, li_e410, li_f410, li_l410, li_g410, li_m410, li_h410, li_e420, li_f420, li_l420, li_g420, li_m420, li_h420, li_e2000, li_f2000, li_l2000, li_g2000, li_m2000, li_h2000, li_e8200, li_f8200, li_l8200, li_g8200, li_m8200, li_h8200, li_e1000000, li_f1000000, li_l1000000, li_g1000000, li_m1000000, li_h1000000, li_50, li_50', li_200, li_200', nI_add, li_s1, li_t1, li_c1, li_c2, li_c3, li_c4, li_c5, li_c6, li_c7, li_c8, li_c9, li_c10, li_c11, li_c12, li_c13, li_c14, li_c15, sg_Kat, sg_Pat, pk_us, pk_uLs, true_implies, forall_const, not_true_eq_false, not_false_eq_true, false_implies, and_true, true_and, implies_true, and_self, if_true, if_false, ite_true, ite_false, reduceIte, eq_self, Nat.reduceEqDiff, Nat.reduceLeDiff, Nat.reduceLT, Int32.reduceLT, Int32.reduceLE]
    obtain ⟨c1, c2, c3, c4⟩ := hcell
    dsimp only at c1 c2 c3 c4
    by_cases t0 : tag = 0
    · subst t0
      obtain ⟨q1, q2⟩ := c1 rfl
      obtain ⟨o1, o2, o3⟩ := g2.1 rfl
      dsimp only at o1 o2 o3
      have z1 : ¬ nI v = -1 := li_neg (by omega)
      have z2 : ¬ nI v = -2 := by
        intro z
        have h2 : ¬ nI v < 0 := nI_pos (by omega)
        rw [z] at h2
        exact h2 (by decide)
      have z3 : ¬ nI v = -3 := by
        intro z
        have h2 : ¬ nI v < 0 := nI_pos (by omega)
        rw [z] at h2
        exact h2 (by decide)
      simp (disch := omega) only [q1, q2, z1, z2, z3, forall_eq, nI_leI, nI_ltI, nI_eq, vp_in_nI, nI_clamp, nI_1, li_e0, li_f0, li_l0, li_g0, li_m0, li_h0, li_e1, li_f1, li_l1, li_g1, li_m1, li_h1, li_e2, li_f2, li_l2, li_g2, li_m2, li_h2, li_e3, li_f3, li_l3, li_g3, li_m3, li_h3, li_e4, li_f4, li_l4, li_g4, li_m4, li_h4, li_e5, li_f5, li_l5, li_g5, li_m5, li_h5, li_e6, li_f6, li_l6, li_g6, li_m6, li_h6, li_e7, li_f7, li_l7, li_g7, li_m7, li_h7, li_e8, li_f8, li_l8, li_g8, li_m8, li_h8, li_e9, li_f9, li_l9, li_g9, li_m9, li_h9, li_e10, li_f10, li_l10, li_g10, li_m10, li_h10, li_e15, li_f15, li_l15, li_g15, li_m15, li_h15, li_e16, li_f16, li_l16, li_g16, li_m16, li_h16, li_e20, li_f20, li_l20, li_g20, li_m20, li_h20, li_e40, li_f40, li_l40, li_g40, li_m40, li_h40, li_e100, li_f100, li_l100, li_g100, li_m100, li_h100, li_e128, li_f128, li_l128, li_g128, li_m128, li_h128, li_e150, li_f150, li_l150, li_g150, li_m150, li_h150, li_e255, li_f255, li_l255, li_g255, li_m255, li_h255, li_e400, li_f400, li_l400, li_g400, li_m400, li_h400, li_e410, li_f410, li_l410, li_g410, li_m410, li_h410, li_e420, li_f420, li_l420, li_g420, li_m420, li_h420, li_e2000, li_f2000, li_l2000, li_g2000, li_m2000, li_h2000, li_e8200, li_f8200, li_l8200, li_g8200, li_m8200, li_h8200, li_e1000000, li_f1000000, li_l1000000, li_g1000000, li_m1000000, li_h1000000, li_50, li_50', li_200, li_200', nI_add, li_s1, li_t1, li_c1, li_c2, li_c3, li_c4, li_c5, li_c6, li_c7, li_c8, li_c9, li_c10, li_c11, li_c12, li_c13, li_c14, li_c15, sg_Kat, sg_Pat, pk_us, pk_uLs, true_implies, forall_const, not_true_eq_false, not_false_eq_true, false_implies, and_true, true_and, implies_true, and_self, if_true, if_false, ite_true, ite_false, reduceIte, eq_self, Nat.reduceEqDiff, Nat.reduceLeDiff, Nat.reduceLT, Int32.reduceLT, Int32.reduceLE]
      have ex : x = x := rfl
      by_cases hx : x = 0
      · subst hx
        refine yl_turn (rest := rest) (L := L) (d := d) hg hY hw ht rfl o2 o1 (by omega) g1 hL hl hdo2 (fun a tv tt td k1 k2 k3 k4 => ?_) (fun e lc a todo rc tv tt td k1 k2 => ?_)
        · simp (disch := omega) only [forall_eq, nI_leI, nI_ltI, nI_eq, vp_in_nI, nI_clamp, nI_1, li_e0, li_f0, li_l0, li_g0, li_m0, li_h0, li_e1, li_f1, li_l1, li_g1, li_m1, li_h1, li_e2, li_f2, li_l2, li_g2, li_m2, li_h2, li_e3, li_f3, li_l3, li_g3, li_m3, li_h3, li_e4, li_f4, li_l4, li_g4, li_m4, li_h4, li_e5, li_f5, li_l5, li_g5, li_m5, li_h5, li_e6, li_f6, li_l6, li_g6, li_m6, li_h6, li_e7, li_f7, li_l7, li_g7, li_m7, li_h7, li_e8, li_f8, li_l8, li_g8, li_m8, li_h8, li_e9, li_f9, li_l9, li_g9, li_m9, li_h9, li_e10, li_f10, li_l10, li_g10, li_m10, li_h10, li_e15, li_f15, li_l15, li_g15, li_m15, li_h15, li_e16, li_f16, li_l16, li_g16, li_m16, li_h16, li_e20, li_f20, li_l20, li_g20, li_m20, li_h20, li_e40, li_f40, li_l40, li_g40, li_m40, li_h40, li_e100, li_f100, li_l100, li_g100, li_m100, li_h100, li_e128, li_f128, li_l128, li_g128, li_m128, li_h128, li_e150, li_f150, li_l150, li_g150, li_m150, li_h150, li_e255, li_f255, li_l255, li_g255, li_m255, li_h255, li_e400, li_f400, li_l400, li_g400, li_m400, li_h400, li_e410, li_f410, li_l410, li_g410, li_m410, li_h410, li_e420, li_f420, li_l420, li_g420, li_m420, li_h420, li_e2000, li_f2000, li_l2000, li_g2000, li_m2000, li_h2000, li_e8200, li_f8200, li_l8200, li_g8200, li_m8200, li_h8200, li_e1000000, li_f1000000, li_l1000000, li_g1000000, li_m1000000, li_h1000000, li_50, li_50', li_200, li_200', nI_add, li_s1, li_t1, li_c1, li_c2, li_c3, li_c4, li_c5, li_c6, li_c7, li_c8, li_c9, li_c10, li_c11, li_c12, li_c13, li_c14, li_c15, sg_Kat, sg_Pat, pk_us, pk_uLs, true_implies, forall_const, not_true_eq_false, not_false_eq_true, false_implies, and_true, true_and, implies_true, and_self, if_true, if_false, ite_true, ite_false, reduceIte, eq_self, Nat.reduceEqDiff, Nat.reduceLeDiff, Nat.reduceLT, Int32.reduceLT, Int32.reduceLE]
          exact HOK a tv tt td k1 k2 k3 k4
        · simp (disch := omega) only [forall_eq, nI_leI, nI_ltI, nI_eq, vp_in_nI, nI_clamp, nI_1, li_e0, li_f0, li_l0, li_g0, li_m0, li_h0, li_e1, li_f1, li_l1, li_g1, li_m1, li_h1, li_e2, li_f2, li_l2, li_g2, li_m2, li_h2, li_e3, li_f3, li_l3, li_g3, li_m3, li_h3, li_e4, li_f4, li_l4, li_g4, li_m4, li_h4, li_e5, li_f5, li_l5, li_g5, li_m5, li_h5, li_e6, li_f6, li_l6, li_g6, li_m6, li_h6, li_e7, li_f7, li_l7, li_g7, li_m7, li_h7, li_e8, li_f8, li_l8, li_g8, li_m8, li_h8, li_e9, li_f9, li_l9, li_g9, li_m9, li_h9, li_e10, li_f10, li_l10, li_g10, li_m10, li_h10, li_e15, li_f15, li_l15, li_g15, li_m15, li_h15, li_e16, li_f16, li_l16, li_g16, li_m16, li_h16, li_e20, li_f20, li_l20, li_g20, li_m20, li_h20, li_e40, li_f40, li_l40, li_g40, li_m40, li_h40, li_e100, li_f100, li_l100, li_g100, li_m100, li_h100, li_e128, li_f128, li_l128, li_g128, li_m128, li_h128, li_e150, li_f150, li_l150, li_g150, li_m150, li_h150, li_e255, li_f255, li_l255, li_g255, li_m255, li_h255, li_e400, li_f400, li_l400, li_g400, li_m400, li_h400, li_e410, li_f410, li_l410, li_g410, li_m410, li_h410, li_e420, li_f420, li_l420, li_g420, li_m420, li_h420, li_e2000, li_f2000, li_l2000, li_g2000, li_m2000, li_h2000, li_e8200, li_f8200, li_l8200, li_g8200, li_m8200, li_h8200, li_e1000000, li_f1000000, li_l1000000, li_g1000000, li_m1000000, li_h1000000, li_50, li_50', li_200, li_200', nI_add, li_s1, li_t1, li_c1, li_c2, li_c3, li_c4, li_c5, li_c6, li_c7, li_c8, li_c9, li_c10, li_c11, li_c12, li_c13, li_c14, li_c15, sg_Kat, sg_Pat, pk_us, pk_uLs, true_implies, forall_const, not_true_eq_false, not_false_eq_true, false_implies, and_true, true_and, implies_true, and_self, if_true, if_false, ite_true, ite_false, reduceIte, eq_self, Nat.reduceEqDiff, Nat.reduceLeDiff, Nat.reduceLT, Int32.reduceLT, Int32.reduceLE]
          exact HTR e lc a todo rc tv tt td k1 k2
      · have es : sr_stp g w (0, v, t, x) d = sr_stp g w (0, v, t, 0) d := rfl
        refine yl_turn (rest := rest) (L := L) (d := d) hg hY hw ht (it := (0, v, t, 0)) rfl o2 o1 (by omega) g1 hL hl hdo2 (fun a tv tt td k1 k2 k3 k4 => ?_) (fun e lc a todo rc tv tt td k1 k2 => ?_)
        · simp (disch := omega) only [forall_eq, nI_leI, nI_ltI, nI_eq, vp_in_nI, nI_clamp, nI_1, li_e0, li_f0, li_l0, li_g0, li_m0, li_h0, li_e1, li_f1, li_l1, li_g1, li_m1, li_h1, li_e2, li_f2, li_l2, li_g2, li_m2, li_h2, li_e3, li_f3, li_l3, li_g3, li_m3, li_h3, li_e4, li_f4, li_l4, li_g4, li_m4, li_h4, li_e5, li_f5, li_l5, li_g5, li_m5, li_h5, li_e6, li_f6, li_l6, li_g6, li_m6, li_h6, li_e7, li_f7, li_l7, li_g7, li_m7, li_h7, li_e8, li_f8, li_l8, li_g8, li_m8, li_h8, li_e9, li_f9, li_l9, li_g9, li_m9, li_h9, li_e10, li_f10, li_l10, li_g10, li_m10, li_h10, li_e15, li_f15, li_l15, li_g15, li_m15, li_h15, li_e16, li_f16, li_l16, li_g16, li_m16, li_h16, li_e20, li_f20, li_l20, li_g20, li_m20, li_h20, li_e40, li_f40, li_l40, li_g40, li_m40, li_h40, li_e100, li_f100, li_l100, li_g100, li_m100, li_h100, li_e128, li_f128, li_l128, li_g128, li_m128, li_h128, li_e150, li_f150, li_l150, li_g150, li_m150, li_h150, li_e255, li_f255, li_l255, li_g255, li_m255, li_h255, li_e400, li_f400, li_l400, li_g400, li_m400, li_h400, li_e410, li_f410, li_l410, li_g410, li_m410, li_h410, li_e420, li_f420, li_l420, li_g420, li_m420, li_h420, li_e2000, li_f2000, li_l2000, li_g2000, li_m2000, li_h2000, li_e8200, li_f8200, li_l8200, li_g8200, li_m8200, li_h8200, li_e1000000, li_f1000000, li_l1000000, li_g1000000, li_m1000000, li_h1000000, li_50, li_50', li_200, li_200', nI_add, li_s1, li_t1, li_c1, li_c2, li_c3, li_c4, li_c5, li_c6, li_c7, li_c8, li_c9, li_c10, li_c11, li_c12, li_c13, li_c14, li_c15, sg_Kat, sg_Pat, pk_us, pk_uLs, true_implies, forall_const, not_true_eq_false, not_false_eq_true, false_implies, and_true, true_and, implies_true, and_self, if_true, if_false, ite_true, ite_false, reduceIte, eq_self, Nat.reduceEqDiff, Nat.reduceLeDiff, Nat.reduceLT, Int32.reduceLT, Int32.reduceLE]
          exact HOK a tv tt td k1 k2 k3 k4
        · simp (disch := omega) only [forall_eq, nI_leI, nI_ltI, nI_eq, vp_in_nI, nI_clamp, nI_1, li_e0, li_f0, li_l0, li_g0, li_m0, li_h0, li_e1, li_f1, li_l1, li_g1, li_m1, li_h1, li_e2, li_f2, li_l2, li_g2, li_m2, li_h2, li_e3, li_f3, li_l3, li_g3, li_m3, li_h3, li_e4, li_f4, li_l4, li_g4, li_m4, li_h4, li_e5, li_f5, li_l5, li_g5, li_m5, li_h5, li_e6, li_f6, li_l6, li_g6, li_m6, li_h6, li_e7, li_f7, li_l7, li_g7, li_m7, li_h7, li_e8, li_f8, li_l8, li_g8, li_m8, li_h8, li_e9, li_f9, li_l9, li_g9, li_m9, li_h9, li_e10, li_f10, li_l10, li_g10, li_m10, li_h10, li_e15, li_f15, li_l15, li_g15, li_m15, li_h15, li_e16, li_f16, li_l16, li_g16, li_m16, li_h16, li_e20, li_f20, li_l20, li_g20, li_m20, li_h20, li_e40, li_f40, li_l40, li_g40, li_m40, li_h40, li_e100, li_f100, li_l100, li_g100, li_m100, li_h100, li_e128, li_f128, li_l128, li_g128, li_m128, li_h128, li_e150, li_f150, li_l150, li_g150, li_m150, li_h150, li_e255, li_f255, li_l255, li_g255, li_m255, li_h255, li_e400, li_f400, li_l400, li_g400, li_m400, li_h400, li_e410, li_f410, li_l410, li_g410, li_m410, li_h410, li_e420, li_f420, li_l420, li_g420, li_m420, li_h420, li_e2000, li_f2000, li_l2000, li_g2000, li_m2000, li_h2000, li_e8200, li_f8200, li_l8200, li_g8200, li_m8200, li_h8200, li_e1000000, li_f1000000, li_l1000000, li_g1000000, li_m1000000, li_h1000000, li_50, li_50', li_200, li_200', nI_add, li_s1, li_t1, li_c1, li_c2, li_c3, li_c4, li_c5, li_c6, li_c7, li_c8, li_c9, li_c10, li_c11, li_c12, li_c13, li_c14, li_c15, sg_Kat, sg_Pat, pk_us, pk_uLs, true_implies, forall_const, not_true_eq_false, not_false_eq_true, false_implies, and_true, true_and, implies_true, and_self, if_true, if_false, ite_true, ite_false, reduceIte, eq_self, Nat.reduceEqDiff, Nat.reduceLeDiff, Nat.reduceLT, Int32.reduceLT, Int32.reduceLE]
          refine HTR e lc a todo rc tv tt td ?_ k2
          rcases k1 with ⟨z, _⟩ | ⟨it, rest', z, k1⟩
          · cases z
          · cases z
            exact Or.inr ⟨_, _, rfl, k1⟩
    by_cases t1 : tag = 1
    · subst t1
      obtain ⟨q1, q2, q3⟩ := c2 rfl
      have o1 := g2.2 rfl
      dsimp only at o1
      simp (disch := omega) only [q1, q2, q3, forall_eq, nI_leI, nI_ltI, nI_eq, vp_in_nI, nI_clamp, nI_1, li_e0, li_f0, li_l0, li_g0, li_m0, li_h0, li_e1, li_f1, li_l1, li_g1, li_m1, li_h1, li_e2, li_f2, li_l2, li_g2, li_m2, li_h2, li_e3, li_f3, li_l3, li_g3, li_m3, li_h3, li_e4, li_f4, li_l4, li_g4, li_m4, li_h4, li_e5, li_f5, li_l5, li_g5, li_m5, li_h5, li_e6, li_f6, li_l6, li_g6, li_m6, li_h6, li_e7, li_f7, li_l7, li_g7, li_m7, li_h7, li_e8, li_f8, li_l8, li_g8, li_m8, li_h8, li_e9, li_f9, li_l9, li_g9, li_m9, li_h9, li_e10, li_f10, li_l10, li_g10, li_m10, li_h10, li_e15, li_f15, li_l15, li_g15, li_m15, li_h15, li_e16, li_f16, li_l16, li_g16, li_m16, li_h16, li_e20, li_f20, li_l20, li_g20, li_m20, li_h20, li_e40, li_f40, li_l40, li_g40, li_m40, li_h40, li_e100, li_f100, li_l100, li_g100, li_m100, li_h100, li_e128, li_f128, li_l128, li_g128, li_m128, li_h128, li_e150, li_f150, li_l150, li_g150, li_m150, li_h150, li_e255, li_f255, li_l255, li_g255, li_m255, li_h255, li_e400, li_f400, li_l400, li_g400, li_m400, li_h400, li_e410, li_f410, li_l410, li_g410, li_m410, li_h410, li_e420, li_f420, li_l420, li_g420, li_m420, li_h420, li_e2000, li_f2000, li_l2000, li_g2000, li_m2000, li_h2000, li_e8200, li_f8200, li_l8200, li_g8200, li_m8200, li_h8200, li_e1000000, li_f1000000, li_l1000000, li_g1000000, li_m1000000, li_h1000000, li_50, li_50', li_200, li_200', nI_add, li_s1, li_t1, li_c1, li_c2, li_c3, li_c4, li_c5, li_c6, li_c7, li_c8, li_c9, li_c10, li_c11, li_c12, li_c13, li_c14, li_c15, sg_Kat, sg_Pat, pk_us, pk_uLs, true_implies, forall_const, not_true_eq_false, not_false_eq_true, false_implies, and_true, true_and, implies_true, and_self, if_true, if_false, ite_true, ite_false, reduceIte, eq_self, Nat.reduceEqDiff, Nat.reduceLeDiff, Nat.reduceLT, Int32.reduceLT, Int32.reduceLE]
      refine yl_byDefault (w := w) (rest := rest) (L := L) (d := d) hg hY (it := (1, 0, t, x)) rfl o1 (by omega) g1 hL hl hdo2 (fun a tv tt td k1 k2 k3 k4 => ?_) (fun e lc a todo rc tv tt td k1 k2 => ?_)
      · simp (disch := omega) only [forall_eq, nI_leI, nI_ltI, nI_eq, vp_in_nI, nI_clamp, nI_1, li_e0, li_f0, li_l0, li_g0, li_m0, li_h0, li_e1, li_f1, li_l1, li_g1, li_m1, li_h1, li_e2, li_f2, li_l2, li_g2, li_m2, li_h2, li_e3, li_f3, li_l3, li_g3, li_m3, li_h3, li_e4, li_f4, li_l4, li_g4, li_m4, li_h4, li_e5, li_f5, li_l5, li_g5, li_m5, li_h5, li_e6, li_f6, li_l6, li_g6, li_m6, li_h6, li_e7, li_f7, li_l7, li_g7, li_m7, li_h7, li_e8, li_f8, li_l8, li_g8, li_m8, li_h8, li_e9, li_f9, li_l9, li_g9, li_m9, li_h9, li_e10, li_f10, li_l10, li_g10, li_m10, li_h10, li_e15, li_f15, li_l15, li_g15, li_m15, li_h15, li_e16, li_f16, li_l16, li_g16, li_m16, li_h16, li_e20, li_f20, li_l20, li_g20, li_m20, li_h20, li_e40, li_f40, li_l40, li_g40, li_m40, li_h40, li_e100, li_f100, li_l100, li_g100, li_m100, li_h100, li_e128, li_f128, li_l128, li_g128, li_m128, li_h128, li_e150, li_f150, li_l150, li_g150, li_m150, li_h150, li_e255, li_f255, li_l255, li_g255, li_m255, li_h255, li_e400, li_f400, li_l400, li_g400, li_m400, li_h400, li_e410, li_f410, li_l410, li_g410, li_m410, li_h410, li_e420, li_f420, li_l420, li_g420, li_m420, li_h420, li_e2000, li_f2000, li_l2000, li_g2000, li_m2000, li_h2000, li_e8200, li_f8200, li_l8200, li_g8200, li_m8200, li_h8200, li_e1000000, li_f1000000, li_l1000000, li_g1000000, li_m1000000, li_h1000000, li_50, li_50', li_200, li_200', nI_add, li_s1, li_t1, li_c1, li_c2, li_c3, li_c4, li_c5, li_c6, li_c7, li_c8, li_c9, li_c10, li_c11, li_c12, li_c13, li_c14, li_c15, sg_Kat, sg_Pat, pk_us, pk_uLs, true_implies, forall_const, not_true_eq_false, not_false_eq_true, false_implies, and_true, true_and, implies_true, and_self, if_true, if_false, ite_true, ite_false, reduceIte, eq_self, Nat.reduceEqDiff, Nat.reduceLeDiff, Nat.reduceLT, Int32.reduceLT, Int32.reduceLE]
        exact HOK a tv tt td k1 k2 k3 k4
      · simp (disch := omega) only [forall_eq, nI_leI, nI_ltI, nI_eq, vp_in_nI, nI_clamp, nI_1, li_e0, li_f0, li_l0, li_g0, li_m0, li_h0, li_e1, li_f1, li_l1, li_g1, li_m1, li_h1, li_e2, li_f2, li_l2, li_g2, li_m2, li_h2, li_e3, li_f3, li_l3, li_g3, li_m3, li_h3, li_e4, li_f4, li_l4, li_g4, li_m4, li_h4, li_e5, li_f5, li_l5, li_g5, li_m5, li_h5, li_e6, li_f6, li_l6, li_g6, li_m6, li_h6, li_e7, li_f7, li_l7, li_g7, li_m7, li_h7, li_e8, li_f8, li_l8, li_g8, li_m8, li_h8, li_e9, li_f9, li_l9, li_g9, li_m9, li_h9, li_e10, li_f10, li_l10, li_g10, li_m10, li_h10, li_e15, li_f15, li_l15, li_g15, li_m15, li_h15, li_e16, li_f16, li_l16, li_g16, li_m16, li_h16, li_e20, li_f20, li_l20, li_g20, li_m20, li_h20, li_e40, li_f40, li_l40, li_g40, li_m40, li_h40, li_e100, li_f100, li_l100, li_g100, li_m100, li_h100, li_e128, li_f128, li_l128, li_g128, li_m128, li_h128, li_e150, li_f150, li_l150, li_g150, li_m150, li_h150, li_e255, li_f255, li_l255, li_g255, li_m255, li_h255, li_e400, li_f400, li_l400, li_g400, li_m400, li_h400, li_e410, li_f410, li_l410, li_g410, li_m410, li_h410, li_e420, li_f420, li_l420, li_g420, li_m420, li_h420, li_e2000, li_f2000, li_l2000, li_g2000, li_m2000, li_h2000, li_e8200, li_f8200, li_l8200, li_g8200, li_m8200, li_h8200, li_e1000000, li_f1000000, li_l1000000, li_g1000000, li_m1000000, li_h1000000, li_50, li_50', li_200, li_200', nI_add, li_s1, li_t1, li_c1, li_c2, li_c3, li_c4, li_c5, li_c6, li_c7, li_c8, li_c9, li_c10, li_c11, li_c12, li_c13, li_c14, li_c15, sg_Kat, sg_Pat, pk_us, pk_uLs, true_implies, forall_const, not_true_eq_false, not_false_eq_true, false_implies, and_true, true_and, implies_true, and_self, if_true, if_false, ite_true, ite_false, reduceIte, eq_self, Nat.reduceEqDiff, Nat.reduceLeDiff, Nat.reduceLT, Int32.reduceLT, Int32.reduceLE]
        refine HTR e lc a todo rc tv tt td ?_ k2
        rcases k1 with ⟨z, _⟩ | ⟨it, rest', z, k1⟩
        · cases z
        · cases z
          exact Or.inr ⟨_, _, rfl, k1⟩
    by_cases t2 : tag = 2
    · subst t2
      have q1 := c3 rfl
      rw [if_pos (show ((2, v, t, x) : sr_I).1 = 2 from rfl)] at g4
      have g5 := g4.1
      simp (disch := omega) only [q1, forall_eq, nI_leI, nI_ltI, nI_eq, vp_in_nI, nI_clamp, nI_1, li_e0, li_f0, li_l0, li_g0, li_m0, li_h0, li_e1, li_f1, li_l1, li_g1, li_m1, li_h1, li_e2, li_f2, li_l2, li_g2, li_m2, li_h2, li_e3, li_f3, li_l3, li_g3, li_m3, li_h3, li_e4, li_f4, li_l4, li_g4, li_m4, li_h4, li_e5, li_f5, li_l5, li_g5, li_m5, li_h5, li_e6, li_f6, li_l6, li_g6, li_m6, li_h6, li_e7, li_f7, li_l7, li_g7, li_m7, li_h7, li_e8, li_f8, li_l8, li_g8, li_m8, li_h8, li_e9, li_f9, li_l9, li_g9, li_m9, li_h9, li_e10, li_f10, li_l10, li_g10, li_m10, li_h10, li_e15, li_f15, li_l15, li_g15, li_m15, li_h15, li_e16, li_f16, li_l16, li_g16, li_m16, li_h16, li_e20, li_f20, li_l20, li_g20, li_m20, li_h20, li_e40, li_f40, li_l40, li_g40, li_m40, li_h40, li_e100, li_f100, li_l100, li_g100, li_m100, li_h100, li_e128, li_f128, li_l128, li_g128, li_m128, li_h128, li_e150, li_f150, li_l150, li_g150, li_m150, li_h150, li_e255, li_f255, li_l255, li_g255, li_m255, li_h255, li_e400, li_f400, li_l400, li_g400, li_m400, li_h400, li_e410, li_f410, li_l410, li_g410, li_m410, li_h410, li_e420, li_f420, li_l420, li_g420, li_m420, li_h420, li_e2000, li_f2000, li_l2000, li_g2000, li_m2000, li_h2000, li_e8200, li_f8200, li_l8200, li_g8200, li_m8200, li_h8200, li_e1000000, li_f1000000, li_l1000000, li_g1000000, li_m1000000, li_h1000000, li_50, li_50', li_200, li_200', nI_add, li_s1, li_t1, li_c1, li_c2, li_c3, li_c4, li_c5, li_c6, li_c7, li_c8, li_c9, li_c10, li_c11, li_c12, li_c13, li_c14, li_c15, sg_Kat, sg_Pat, pk_us, pk_uLs, true_implies, forall_const, not_true_eq_false, not_false_eq_true, false_implies, and_true, true_and, implies_true, and_self, if_true, if_false, ite_true, ite_false, reduceIte, eq_self, Nat.reduceEqDiff, Nat.reduceLeDiff, Nat.reduceLT, Int32.reduceLT, Int32.reduceLE]
      exact HOK a tv tt td rfl (by show L.length + 0 ≤ 150; omega) (by show sl_is (L ++ []) a; rw [List.append_nil]; exact hl) hdo2
    · have q1 := c4 t0 t1 t2
      simp (disch := omega) only [q1, forall_eq, nI_leI, nI_ltI, nI_eq, vp_in_nI, nI_clamp, nI_1, li_e0, li_f0, li_l0, li_g0, li_m0, li_h0, li_e1, li_f1, li_l1, li_g1, li_m1, li_h1, li_e2, li_f2, li_l2, li_g2, li_m2, li_h2, li_e3, li_f3, li_l3, li_g3, li_m3, li_h3, li_e4, li_f4, li_l4, li_g4, li_m4, li_h4, li_e5, li_f5, li_l5, li_g5, li_m5, li_h5, li_e6, li_f6, li_l6, li_g6, li_m6, li_h6, li_e7, li_f7, li_l7, li_g7, li_m7, li_h7, li_e8, li_f8, li_l8, li_g8, li_m8, li_h8, li_e9, li_f9, li_l9, li_g9, li_m9, li_h9, li_e10, li_f10, li_l10, li_g10, li_m10, li_h10, li_e15, li_f15, li_l15, li_g15, li_m15, li_h15, li_e16, li_f16, li_l16, li_g16, li_m16, li_h16, li_e20, li_f20, li_l20, li_g20, li_m20, li_h20, li_e40, li_f40, li_l40, li_g40, li_m40, li_h40, li_e100, li_f100, li_l100, li_g100, li_m100, li_h100, li_e128, li_f128, li_l128, li_g128, li_m128, li_h128, li_e150, li_f150, li_l150, li_g150, li_m150, li_h150, li_e255, li_f255, li_l255, li_g255, li_m255, li_h255, li_e400, li_f400, li_l400, li_g400, li_m400, li_h400, li_e410, li_f410, li_l410, li_g410, li_m410, li_h410, li_e420, li_f420, li_l420, li_g420, li_m420, li_h420, li_e2000, li_f2000, li_l2000, li_g2000, li_m2000, li_h2000, li_e8200, li_f8200, li_l8200, li_g8200, li_m8200, li_h8200, li_e1000000, li_f1000000, li_l1000000, li_g1000000, li_m1000000, li_h1000000, li_50, li_50', li_200, li_200', nI_add, li_s1, li_t1, li_c1, li_c2, li_c3, li_c4, li_c5, li_c6, li_c7, li_c8, li_c9, li_c10, li_c11, li_c12, li_c13, li_c14, li_c15, sg_Kat, sg_Pat, pk_us, pk_uLs, true_implies, forall_const, not_true_eq_false, not_false_eq_true, false_implies, and_true, true_and, implies_true, and_self, if_true, if_false, ite_true, ite_false, reduceIte, eq_self, Nat.reduceEqDiff, Nat.reduceLeDiff, Nat.reduceLT, Int32.reduceLT, Int32.reduceLE]
      refine HTR (-6) _ _ _ _ _ _ _ (Or.inr ⟨_, _, rfl, Or.inr ?_⟩) (by decide)
      have es : sr_stp g w (tag, v, t, x) d = ([], -6, [], d) := by
        unfold sr_stp
        rw [if_neg (show ¬ ((tag, v, t, x) : sr_I).1 = 0 from t0), if_neg (show ¬ ((tag, v, t, x) : sr_I).1 = 1 from t1), if_neg (show ¬ ((tag, v, t, x) : sr_I).1 = 2 from t2)]
      rw [es]
      exact ⟨by show L.length + 0 ≤ 150; omega, rfl, by decide⟩
  have hP := hc (fun c d L => sr_good g w c d → L.length ≤ 150 → ∃ n, ∀ (a : Nat → Int64) (tv tt td : Nat → Int32), sl_is L a → sy_do tv tt td c → wY_resolve_17 post n (nI (sg_n g)) y_byteCount y_writtenCount y_numberCount (nI L.length) y_values y_depth (nI d) y_at 0 (nI c.length) (sg_K g) y_of (sg_P g) (sg_f g) y_name y_part y_alias y_given y_has (sv_b w) y_written y_numbers a y_valueType y_start y_child y_last y_next y_value y_open y_come y_left tv tt td y_pair y_whole)
  have hPP := hP (by
    intro a1 x1 A1 b1 y1 B1 hst hnext hgood hL
    have hg2 := sr_good_step hg hw hgood hst
    obtain ⟨it, rest, rfl, z1, z2, rfl, rfl, rfl⟩ := hst
    obtain ⟨n, hnx⟩ := hnext hg2 (by rw [List.length_append]; exact z2)
    refine ⟨n + 1, fun a tv tt td hl hdo => ?_⟩
    refine step it rest x1 A1 n a tv tt td hgood hL hl hdo (fun a tv tt td k1 k2 k3 k4 => ?_) (fun e lc a todo rc tv tt td k1 k2 => ?_)
    · have h5 := hnx a tv tt td k3 k4
      rw [List.length_append] at h5
      exact h5
    · exfalso
      rcases k1 with ⟨z, _⟩ | ⟨it', rest', z, k1⟩
      · cases z
      · cases z
        rcases k1 with ⟨k1, _⟩ | ⟨_, k3, k4⟩
        · omega
        · exact k4 (k3.symm.trans z1)) (by
    intro hgood hL
    rcases hfin with ⟨rfl, rfl⟩ | ⟨it, rest, rfl, hf⟩
    · refine ⟨1, fun a tv tt td hl hdo => ?_⟩
      have h5 := H0 rfl a tv tt td hl hL
      rw [wY_resolve_17]
      simp (disch := omega) only [List.length_nil, Int32.le_refl, li_n0, forall_eq, nI_leI, nI_ltI, nI_eq, vp_in_nI, nI_clamp, nI_1, li_e0, li_f0, li_l0, li_g0, li_m0, li_h0, li_e1, li_f1, li_l1, li_g1, li_m1, li_h1, li_e2, li_f2, li_l2, li_g2, li_m2, li_h2, li_e3, li_f3, li_l3, li_g3, li_m3, li_h3, li_e4, li_f4, li_l4, li_g4, li_m4, li_h4, li_e5, li_f5, li_l5, li_g5, li_m5, li_h5, li_e6, li_f6, li_l6, li_g6, li_m6, li_h6, li_e7, li_f7, li_l7, li_g7, li_m7, li_h7, li_e8, li_f8, li_l8, li_g8, li_m8, li_h8, li_e9, li_f9, li_l9, li_g9, li_m9, li_h9, li_e10, li_f10, li_l10, li_g10, li_m10, li_h10, li_e15, li_f15, li_l15, li_g15, li_m15, li_h15, li_e16, li_f16, li_l16, li_g16, li_m16, li_h16, li_e20, li_f20, li_l20, li_g20, li_m20, li_h20, li_e40, li_f40, li_l40, li_g40, li_m40, li_h40, li_e100, li_f100, li_l100, li_g100, li_m100, li_h100, li_e128, li_f128, li_l128, li_g128, li_m128, li_h128, li_e150, li_f150, li_l150, li_g150, li_m150, li_h150, li_e255, li_f255, li_l255, li_g255, li_m255, li_h255, li_e400, li_f400, li_l400, li_g400, li_m400, li_h400, li_e410, li_f410, li_l410, li_g410, li_m410, li_h410, li_e420, li_f420, li_l420, li_g420, li_m420, li_h420, li_e2000, li_f2000, li_l2000, li_g2000, li_m2000, li_h2000, li_e8200, li_f8200, li_l8200, li_g8200, li_m8200, li_h8200, li_e1000000, li_f1000000, li_l1000000, li_g1000000, li_m1000000, li_h1000000, li_50, li_50', li_200, li_200', nI_add, li_s1, li_t1, li_c1, li_c2, li_c3, li_c4, li_c5, li_c6, li_c7, li_c8, li_c9, li_c10, li_c11, li_c12, li_c13, li_c14, li_c15, sg_Kat, sg_Pat, pk_us, pk_uLs, true_implies, forall_const, not_true_eq_false, not_false_eq_true, false_implies, and_true, true_and, implies_true, and_self, if_true, if_false, ite_true, ite_false, reduceIte, eq_self, Nat.reduceEqDiff, Nat.reduceLeDiff, Nat.reduceLT, Int32.reduceLT, Int32.reduceLE]
      exact h5
    · refine ⟨2, fun a tv tt td hl hdo => ?_⟩
      have he : ¬ e = 0 := by
        rcases hf with ⟨_, k⟩ | ⟨_, _, k⟩
        · rw [k]; decide
        · exact k
      refine step it rest d1 L1 1 a tv tt td hgood hL hl hdo (fun a tv tt td k1 k2 k3 k4 => ?_) (fun e' lc a todo rc tv tt td k1 k2 => ?_)
      · exfalso
        rcases hf with ⟨k, _⟩ | ⟨_, k, k'⟩
        · omega
        · exact k' (k.symm.trans k1)
      · have ee : e' = e := by
          rcases k1 with ⟨z, _⟩ | ⟨it', rest', z, k1⟩
          · cases z
          · cases z
            rcases hf with ⟨f1, f2⟩ | ⟨f1, f2, f3⟩
            · rcases k1 with ⟨_, k3⟩ | ⟨k3, _⟩
              · rw [k3, f2]
              · omega
            · rcases k1 with ⟨k3, _⟩ | ⟨_, k3, _⟩
              · omega
              · rw [← k3, ← f2]
        subst ee
        exact yl_exit k2 (H1 k2 lc a todo rc tv tt td))
  obtain ⟨n, hnn⟩ := hPP hg0 hL0
  intro a tv tt td hl hdo
  exact ⟨n, hnn a tv tt td hl hdo⟩
end
end
section
/-! the reference's resolving as a whole -/
section
variable {y_types y_byteCount y_writtenCount y_numberCount y_listCount y_values y_depth y_records y_at y_wrong y_todo : Int32}
variable {y_kind y_of y_parts y_fallback y_name y_part y_alias y_given y_has y_bytes y_written y_valueType y_start y_child y_last y_next y_open y_come y_left y_todoValue y_todoType y_todoDefault y_pair y_whole : Nat → Int32}
variable {y_numbers y_list y_value : Nat → Int64}
variable {g : sg_T} {w : sr_V} {post : SY → Prop} {r : Nat}
theorem yl_resolve (hg : sg_ok g) (hY : sg_Y g y_of y_name y_part y_alias y_has y_given) (hw : sv_ok g w) (ht : sy_tree g w y_valueType y_start y_child y_next y_value) (hr : r < sg_n g) (h0 : 0 < sv_m w) (ha0 : sv_a w 0 ≤ 400) (hd0 : sv_d w 0 = 0) {c1 : List sr_I} {d1 : Nat} {L1 : List Int64} {e : Int32} (hc : sr_cert g w [(0, 0, r, 0)] 0 [] c1 d1 L1) (hfin : sr_fin g w c1 d1 L1 e)
    (H0 : e = 0 → ∀ (a : Nat → Int64) (tv tt td : Nat → Int32), sl_is L1 a → L1.length ≤ 150 → post (nI (sg_n g), y_byteCount, y_writtenCount, y_numberCount, nI L1.length, y_values, y_depth, nI d1, y_at, 0, 0, sg_K g, y_of, sg_P g, sg_f g, y_name, y_part, y_alias, y_given, y_has, sv_b w, y_written, y_numbers, a, y_valueType, y_start, y_child, y_last, y_next, y_value, y_open, y_come, y_left, tv, tt, td, y_pair, y_whole))
    (H1 : ¬ e = 0 → ∀ (lc : Int32) (a : Nat → Int64) (todo rc : Int32) (tv tt td : Nat → Int32), post (nI (sg_n g), y_byteCount, y_writtenCount, y_numberCount, lc, y_values, y_depth, rc, y_at, e, todo, sg_K g, y_of, sg_P g, sg_f g, y_name, y_part, y_alias, y_given, y_has, sv_b w, y_written, y_numbers, a, y_valueType, y_start, y_child, y_last, y_next, y_value, y_open, y_come, y_left, tv, tt, td, y_pair, y_whole)) :
    wpY_resolve post (nI (sg_n g), y_byteCount, y_writtenCount, y_numberCount, 0, y_values, y_depth, y_records, y_at, 0, y_todo, sg_K g, y_of, sg_P g, sg_f g, y_name, y_part, y_alias, y_given, y_has, sv_b w, y_written, y_numbers, y_list, y_valueType, y_start, y_child, y_last, y_next, y_value, y_open, y_come, y_left, y_todoValue, y_todoType, y_todoDefault, y_pair, y_whole) (nI r) := by
  have hm4 := hw.1
  have hgood : sr_good g w [(0, 0, r, 0)] 0 := by
    refine ⟨by omega, ⟨fun _ => ⟨h0, hr, hd0⟩, fun z => absurd (show (0 : Nat) = 1 from z) (by decide)⟩, ?_, ?_⟩
    · show 6 * (11 - 0) + (sv_a w 0 - 0) + 0 ≤ 1000
      have := ha0
      omega
    · exact (if_neg (c := (0 : Nat) = 2) (by omega)).mpr trivial
  unfold wpY_resolve
  refine yl_later (T := 0) (by omega) ?_
  obtain ⟨n, hn⟩ := yl_loop hg hY hw ht hc hfin hgood (by decide) H0 H1 y_list (upd y_todoValue 0 0) (upd y_todoType 0 (nI r)) (upd y_todoDefault 0 0) (sl_nil _) ⟨⟨fun _ => ⟨pk_us, pk_us⟩, fun z => absurd (show (0 : Nat) = 1 from z) (by decide), fun z => absurd (show (0 : Nat) = 2 from z) (by decide), fun z => absurd rfl z⟩, trivial⟩
  exact ⟨n, hn⟩
end
end
