/-! the number of the symbol that is the default: the class's reckoning and the reference's -/
theorem sm_int {x p : Int} (hp : 0 < p) : (0 ≤ x.tmod p → x.tmod p = x % p) ∧ (x.tmod p < 0 → x.tmod p + p = x % p) := by
  have hb := tmod_bounds (a := x) hp
  have he : x % p = x.tmod p % p := by
    have h1 := Int.tmod_add_mul_tdiv x p
    have h2 := Int.add_mul_emod_self_left (x.tmod p) p (x.tdiv p)
    rw [h1] at h2
    exact h2
  constructor
  · intro h
    rw [he, Int.emod_eq_of_lt h hb.2]
  · intro h
    rw [he, ← Int.add_emod_right (x.tmod p) p, Int.emod_eq_of_lt (by omega) (by omega)]
theorem sm_lt (x : Int32) {p : Nat} (h0 : 0 < p) : sr_mod x p < p ∧ ((sr_mod x p : Nat) : Int) = x.toInt % (p : Int) := by
  have h1 := Int.emod_nonneg x.toInt (b := (p : Int)) (by omega)
  have h2 := Int.emod_lt_of_pos x.toInt (b := (p : Int)) (by omega)
  unfold sr_mod
  omega
theorem sm_add {a b : Int32} (h1 : -1000 < a.toInt) (h2 : a.toInt < 1000) (h3 : -1000 < b.toInt) (h4 : b.toInt < 1000) : (a + b).toInt = a.toInt + b.toInt := by
  rw [Int32.toInt_add]
  exact Int.bmod_eq_of_le (by omega) (by omega)
theorem sm_nI {a : Int32} {n : Nat} (hn : n < 1000) (h : a.toInt = (n : Int)) : a = nI n := by
  apply Int32.toInt_inj.mp
  rw [h, nI_toInt (by omega)]
theorem sm_x (x : Int32) {p : Nat} (h0 : 0 < p) (h5 : p ≤ 5) :
    (0 ≤ x - x / nI p * nI p → x - x / nI p * nI p = nI (sr_mod x p)) ∧ (¬ 0 ≤ x - x / nI p * nI p → x - x / nI p * nI p + nI p = nI (sr_mod x p)) := by
  have hr := rem_toInt x (nI p)
  rw [nI_toInt (by omega)] at hr
  have hb := tmod_bounds (a := x.toInt) (M := (p : Int)) (by omega)
  have hi := sm_int (x := x.toInt) (p := (p : Int)) (by omega)
  have hm := sm_lt x h0
  have e0 : (0 : Int32).toInt = 0 := by decide
  constructor
  · intro h
    rw [Int32.le_iff_toInt_le, hr, e0] at h
    exact sm_nI (by omega) (by rw [hr, hi.1 h, hm.2])
  · intro h
    rw [Int32.le_iff_toInt_le, hr, e0] at h
    refine sm_nI (by omega) ?_
    rw [sm_add (by omega) (by omega) (by rw [nI_toInt (by omega)]; omega) (by rw [nI_toInt (by omega)]; omega), hr, nI_toInt (by omega), hi.2 (by omega), hm.2]
theorem sm_y (x : Int32) {p : Nat} (h0 : 0 < p) (h5 : p ≤ 5) :
    ((x - x / nI p * nI p) + nI p) - ((x - x / nI p * nI p) + nI p) / nI p * nI p = nI (sr_mod x p) := by
  have hr := rem_toInt x (nI p)
  rw [nI_toInt (by omega)] at hr
  have hb := tmod_bounds (a := x.toInt) (M := (p : Int)) (by omega)
  have hi := sm_int (x := x.toInt) (p := (p : Int)) (by omega)
  have hm := sm_lt x h0
  have e1 : ((x - x / nI p * nI p) + nI p).toInt = x.toInt.tmod p + p := by
    rw [sm_add (by omega) (by omega) (by rw [nI_toInt (by omega)]; omega) (by rw [nI_toInt (by omega)]; omega), hr, nI_toInt (by omega)]
  have hr2 := rem_toInt ((x - x / nI p * nI p) + nI p) (nI p)
  rw [nI_toInt (by omega), e1, Int.tmod_eq_emod_of_nonneg (by omega), Int.add_emod_right] at hr2
  refine sm_nI (by omega) ?_
  rw [hr2, hm.2]
  have he : x.toInt % p = x.toInt.tmod p % p := by
    have h1 := Int.tmod_add_mul_tdiv x.toInt p
    have h2 := Int.add_mul_emod_self_left (x.toInt.tmod p) p (x.toInt.tdiv p)
    rw [h1] at h2
    exact h2
  rw [he]
