/-! literals against nI (written by wip/whole/lits.py) -/
theorem li_n0 : (nI 0) = 0 := rfl
theorem li_e0 {a : Nat} (h : a < 2 ^ 31) : nI a = 0 ↔ a = 0 := nI_eq (b := 0) h (by decide)
theorem li_f0 {a : Nat} (h : a < 2 ^ 31) : (0 : Int32) = nI a ↔ a = 0 := by rw [eq_comm]; exact li_e0 h
theorem li_l0 {a : Nat} (h : a < 2 ^ 31) : nI a < 0 ↔ a < 0 := nI_ltI (b := 0) h (by decide)
theorem li_g0 {a : Nat} (h : a < 2 ^ 31) : (0 : Int32) < nI a ↔ 0 < a := nI_ltI (a := 0) (by decide) h
theorem li_m0 {a : Nat} (h : a < 2 ^ 31) : nI a ≤ 0 ↔ a ≤ 0 := nI_leI (b := 0) h (by decide)
theorem li_h0 {a : Nat} (h : a < 2 ^ 31) : (0 : Int32) ≤ nI a ↔ 0 ≤ a := nI_leI (a := 0) (by decide) h
theorem li_n1 : (nI 1) = 1 := rfl
theorem li_e1 {a : Nat} (h : a < 2 ^ 31) : nI a = 1 ↔ a = 1 := nI_eq (b := 1) h (by decide)
theorem li_f1 {a : Nat} (h : a < 2 ^ 31) : (1 : Int32) = nI a ↔ a = 1 := by rw [eq_comm]; exact li_e1 h
theorem li_l1 {a : Nat} (h : a < 2 ^ 31) : nI a < 1 ↔ a < 1 := nI_ltI (b := 1) h (by decide)
theorem li_g1 {a : Nat} (h : a < 2 ^ 31) : (1 : Int32) < nI a ↔ 1 < a := nI_ltI (a := 1) (by decide) h
theorem li_m1 {a : Nat} (h : a < 2 ^ 31) : nI a ≤ 1 ↔ a ≤ 1 := nI_leI (b := 1) h (by decide)
theorem li_h1 {a : Nat} (h : a < 2 ^ 31) : (1 : Int32) ≤ nI a ↔ 1 ≤ a := nI_leI (a := 1) (by decide) h
theorem li_n2 : (nI 2) = 2 := rfl
theorem li_e2 {a : Nat} (h : a < 2 ^ 31) : nI a = 2 ↔ a = 2 := nI_eq (b := 2) h (by decide)
theorem li_f2 {a : Nat} (h : a < 2 ^ 31) : (2 : Int32) = nI a ↔ a = 2 := by rw [eq_comm]; exact li_e2 h
theorem li_l2 {a : Nat} (h : a < 2 ^ 31) : nI a < 2 ↔ a < 2 := nI_ltI (b := 2) h (by decide)
theorem li_g2 {a : Nat} (h : a < 2 ^ 31) : (2 : Int32) < nI a ↔ 2 < a := nI_ltI (a := 2) (by decide) h
theorem li_m2 {a : Nat} (h : a < 2 ^ 31) : nI a ≤ 2 ↔ a ≤ 2 := nI_leI (b := 2) h (by decide)
theorem li_h2 {a : Nat} (h : a < 2 ^ 31) : (2 : Int32) ≤ nI a ↔ 2 ≤ a := nI_leI (a := 2) (by decide) h
theorem li_n3 : (nI 3) = 3 := rfl
theorem li_e3 {a : Nat} (h : a < 2 ^ 31) : nI a = 3 ↔ a = 3 := nI_eq (b := 3) h (by decide)
theorem li_f3 {a : Nat} (h : a < 2 ^ 31) : (3 : Int32) = nI a ↔ a = 3 := by rw [eq_comm]; exact li_e3 h
theorem li_l3 {a : Nat} (h : a < 2 ^ 31) : nI a < 3 ↔ a < 3 := nI_ltI (b := 3) h (by decide)
theorem li_g3 {a : Nat} (h : a < 2 ^ 31) : (3 : Int32) < nI a ↔ 3 < a := nI_ltI (a := 3) (by decide) h
theorem li_m3 {a : Nat} (h : a < 2 ^ 31) : nI a ≤ 3 ↔ a ≤ 3 := nI_leI (b := 3) h (by decide)
theorem li_h3 {a : Nat} (h : a < 2 ^ 31) : (3 : Int32) ≤ nI a ↔ 3 ≤ a := nI_leI (a := 3) (by decide) h
theorem li_n4 : (nI 4) = 4 := rfl
theorem li_e4 {a : Nat} (h : a < 2 ^ 31) : nI a = 4 ↔ a = 4 := nI_eq (b := 4) h (by decide)
theorem li_f4 {a : Nat} (h : a < 2 ^ 31) : (4 : Int32) = nI a ↔ a = 4 := by rw [eq_comm]; exact li_e4 h
theorem li_l4 {a : Nat} (h : a < 2 ^ 31) : nI a < 4 ↔ a < 4 := nI_ltI (b := 4) h (by decide)
theorem li_g4 {a : Nat} (h : a < 2 ^ 31) : (4 : Int32) < nI a ↔ 4 < a := nI_ltI (a := 4) (by decide) h
theorem li_m4 {a : Nat} (h : a < 2 ^ 31) : nI a ≤ 4 ↔ a ≤ 4 := nI_leI (b := 4) h (by decide)
theorem li_h4 {a : Nat} (h : a < 2 ^ 31) : (4 : Int32) ≤ nI a ↔ 4 ≤ a := nI_leI (a := 4) (by decide) h
theorem li_n5 : (nI 5) = 5 := rfl
theorem li_e5 {a : Nat} (h : a < 2 ^ 31) : nI a = 5 ↔ a = 5 := nI_eq (b := 5) h (by decide)
theorem li_f5 {a : Nat} (h : a < 2 ^ 31) : (5 : Int32) = nI a ↔ a = 5 := by rw [eq_comm]; exact li_e5 h
theorem li_l5 {a : Nat} (h : a < 2 ^ 31) : nI a < 5 ↔ a < 5 := nI_ltI (b := 5) h (by decide)
theorem li_g5 {a : Nat} (h : a < 2 ^ 31) : (5 : Int32) < nI a ↔ 5 < a := nI_ltI (a := 5) (by decide) h
theorem li_m5 {a : Nat} (h : a < 2 ^ 31) : nI a ≤ 5 ↔ a ≤ 5 := nI_leI (b := 5) h (by decide)
theorem li_h5 {a : Nat} (h : a < 2 ^ 31) : (5 : Int32) ≤ nI a ↔ 5 ≤ a := nI_leI (a := 5) (by decide) h
theorem li_n6 : (nI 6) = 6 := rfl
theorem li_e6 {a : Nat} (h : a < 2 ^ 31) : nI a = 6 ↔ a = 6 := nI_eq (b := 6) h (by decide)
theorem li_f6 {a : Nat} (h : a < 2 ^ 31) : (6 : Int32) = nI a ↔ a = 6 := by rw [eq_comm]; exact li_e6 h
theorem li_l6 {a : Nat} (h : a < 2 ^ 31) : nI a < 6 ↔ a < 6 := nI_ltI (b := 6) h (by decide)
theorem li_g6 {a : Nat} (h : a < 2 ^ 31) : (6 : Int32) < nI a ↔ 6 < a := nI_ltI (a := 6) (by decide) h
theorem li_m6 {a : Nat} (h : a < 2 ^ 31) : nI a ≤ 6 ↔ a ≤ 6 := nI_leI (b := 6) h (by decide)
theorem li_h6 {a : Nat} (h : a < 2 ^ 31) : (6 : Int32) ≤ nI a ↔ 6 ≤ a := nI_leI (a := 6) (by decide) h
theorem li_n7 : (nI 7) = 7 := rfl
theorem li_e7 {a : Nat} (h : a < 2 ^ 31) : nI a = 7 ↔ a = 7 := nI_eq (b := 7) h (by decide)
theorem li_f7 {a : Nat} (h : a < 2 ^ 31) : (7 : Int32) = nI a ↔ a = 7 := by rw [eq_comm]; exact li_e7 h
theorem li_l7 {a : Nat} (h : a < 2 ^ 31) : nI a < 7 ↔ a < 7 := nI_ltI (b := 7) h (by decide)
theorem li_g7 {a : Nat} (h : a < 2 ^ 31) : (7 : Int32) < nI a ↔ 7 < a := nI_ltI (a := 7) (by decide) h
theorem li_m7 {a : Nat} (h : a < 2 ^ 31) : nI a ≤ 7 ↔ a ≤ 7 := nI_leI (b := 7) h (by decide)
theorem li_h7 {a : Nat} (h : a < 2 ^ 31) : (7 : Int32) ≤ nI a ↔ 7 ≤ a := nI_leI (a := 7) (by decide) h
theorem li_n8 : (nI 8) = 8 := rfl
theorem li_e8 {a : Nat} (h : a < 2 ^ 31) : nI a = 8 ↔ a = 8 := nI_eq (b := 8) h (by decide)
theorem li_f8 {a : Nat} (h : a < 2 ^ 31) : (8 : Int32) = nI a ↔ a = 8 := by rw [eq_comm]; exact li_e8 h
theorem li_l8 {a : Nat} (h : a < 2 ^ 31) : nI a < 8 ↔ a < 8 := nI_ltI (b := 8) h (by decide)
theorem li_g8 {a : Nat} (h : a < 2 ^ 31) : (8 : Int32) < nI a ↔ 8 < a := nI_ltI (a := 8) (by decide) h
theorem li_m8 {a : Nat} (h : a < 2 ^ 31) : nI a ≤ 8 ↔ a ≤ 8 := nI_leI (b := 8) h (by decide)
theorem li_h8 {a : Nat} (h : a < 2 ^ 31) : (8 : Int32) ≤ nI a ↔ 8 ≤ a := nI_leI (a := 8) (by decide) h
theorem li_n9 : (nI 9) = 9 := rfl
theorem li_e9 {a : Nat} (h : a < 2 ^ 31) : nI a = 9 ↔ a = 9 := nI_eq (b := 9) h (by decide)
theorem li_f9 {a : Nat} (h : a < 2 ^ 31) : (9 : Int32) = nI a ↔ a = 9 := by rw [eq_comm]; exact li_e9 h
theorem li_l9 {a : Nat} (h : a < 2 ^ 31) : nI a < 9 ↔ a < 9 := nI_ltI (b := 9) h (by decide)
theorem li_g9 {a : Nat} (h : a < 2 ^ 31) : (9 : Int32) < nI a ↔ 9 < a := nI_ltI (a := 9) (by decide) h
theorem li_m9 {a : Nat} (h : a < 2 ^ 31) : nI a ≤ 9 ↔ a ≤ 9 := nI_leI (b := 9) h (by decide)
theorem li_h9 {a : Nat} (h : a < 2 ^ 31) : (9 : Int32) ≤ nI a ↔ 9 ≤ a := nI_leI (a := 9) (by decide) h
theorem li_n10 : (nI 10) = 10 := rfl
theorem li_e10 {a : Nat} (h : a < 2 ^ 31) : nI a = 10 ↔ a = 10 := nI_eq (b := 10) h (by decide)
theorem li_f10 {a : Nat} (h : a < 2 ^ 31) : (10 : Int32) = nI a ↔ a = 10 := by rw [eq_comm]; exact li_e10 h
theorem li_l10 {a : Nat} (h : a < 2 ^ 31) : nI a < 10 ↔ a < 10 := nI_ltI (b := 10) h (by decide)
theorem li_g10 {a : Nat} (h : a < 2 ^ 31) : (10 : Int32) < nI a ↔ 10 < a := nI_ltI (a := 10) (by decide) h
theorem li_m10 {a : Nat} (h : a < 2 ^ 31) : nI a ≤ 10 ↔ a ≤ 10 := nI_leI (b := 10) h (by decide)
theorem li_h10 {a : Nat} (h : a < 2 ^ 31) : (10 : Int32) ≤ nI a ↔ 10 ≤ a := nI_leI (a := 10) (by decide) h
theorem li_n15 : (nI 15) = 15 := rfl
theorem li_e15 {a : Nat} (h : a < 2 ^ 31) : nI a = 15 ↔ a = 15 := nI_eq (b := 15) h (by decide)
theorem li_f15 {a : Nat} (h : a < 2 ^ 31) : (15 : Int32) = nI a ↔ a = 15 := by rw [eq_comm]; exact li_e15 h
theorem li_l15 {a : Nat} (h : a < 2 ^ 31) : nI a < 15 ↔ a < 15 := nI_ltI (b := 15) h (by decide)
theorem li_g15 {a : Nat} (h : a < 2 ^ 31) : (15 : Int32) < nI a ↔ 15 < a := nI_ltI (a := 15) (by decide) h
theorem li_m15 {a : Nat} (h : a < 2 ^ 31) : nI a ≤ 15 ↔ a ≤ 15 := nI_leI (b := 15) h (by decide)
theorem li_h15 {a : Nat} (h : a < 2 ^ 31) : (15 : Int32) ≤ nI a ↔ 15 ≤ a := nI_leI (a := 15) (by decide) h
theorem li_n16 : (nI 16) = 16 := rfl
theorem li_e16 {a : Nat} (h : a < 2 ^ 31) : nI a = 16 ↔ a = 16 := nI_eq (b := 16) h (by decide)
theorem li_f16 {a : Nat} (h : a < 2 ^ 31) : (16 : Int32) = nI a ↔ a = 16 := by rw [eq_comm]; exact li_e16 h
theorem li_l16 {a : Nat} (h : a < 2 ^ 31) : nI a < 16 ↔ a < 16 := nI_ltI (b := 16) h (by decide)
theorem li_g16 {a : Nat} (h : a < 2 ^ 31) : (16 : Int32) < nI a ↔ 16 < a := nI_ltI (a := 16) (by decide) h
theorem li_m16 {a : Nat} (h : a < 2 ^ 31) : nI a ≤ 16 ↔ a ≤ 16 := nI_leI (b := 16) h (by decide)
theorem li_h16 {a : Nat} (h : a < 2 ^ 31) : (16 : Int32) ≤ nI a ↔ 16 ≤ a := nI_leI (a := 16) (by decide) h
theorem li_n20 : (nI 20) = 20 := rfl
theorem li_e20 {a : Nat} (h : a < 2 ^ 31) : nI a = 20 ↔ a = 20 := nI_eq (b := 20) h (by decide)
theorem li_f20 {a : Nat} (h : a < 2 ^ 31) : (20 : Int32) = nI a ↔ a = 20 := by rw [eq_comm]; exact li_e20 h
theorem li_l20 {a : Nat} (h : a < 2 ^ 31) : nI a < 20 ↔ a < 20 := nI_ltI (b := 20) h (by decide)
theorem li_g20 {a : Nat} (h : a < 2 ^ 31) : (20 : Int32) < nI a ↔ 20 < a := nI_ltI (a := 20) (by decide) h
theorem li_m20 {a : Nat} (h : a < 2 ^ 31) : nI a ≤ 20 ↔ a ≤ 20 := nI_leI (b := 20) h (by decide)
theorem li_h20 {a : Nat} (h : a < 2 ^ 31) : (20 : Int32) ≤ nI a ↔ 20 ≤ a := nI_leI (a := 20) (by decide) h
theorem li_n40 : (nI 40) = 40 := rfl
theorem li_e40 {a : Nat} (h : a < 2 ^ 31) : nI a = 40 ↔ a = 40 := nI_eq (b := 40) h (by decide)
theorem li_f40 {a : Nat} (h : a < 2 ^ 31) : (40 : Int32) = nI a ↔ a = 40 := by rw [eq_comm]; exact li_e40 h
theorem li_l40 {a : Nat} (h : a < 2 ^ 31) : nI a < 40 ↔ a < 40 := nI_ltI (b := 40) h (by decide)
theorem li_g40 {a : Nat} (h : a < 2 ^ 31) : (40 : Int32) < nI a ↔ 40 < a := nI_ltI (a := 40) (by decide) h
theorem li_m40 {a : Nat} (h : a < 2 ^ 31) : nI a ≤ 40 ↔ a ≤ 40 := nI_leI (b := 40) h (by decide)
theorem li_h40 {a : Nat} (h : a < 2 ^ 31) : (40 : Int32) ≤ nI a ↔ 40 ≤ a := nI_leI (a := 40) (by decide) h
theorem li_n100 : (nI 100) = 100 := rfl
theorem li_e100 {a : Nat} (h : a < 2 ^ 31) : nI a = 100 ↔ a = 100 := nI_eq (b := 100) h (by decide)
theorem li_f100 {a : Nat} (h : a < 2 ^ 31) : (100 : Int32) = nI a ↔ a = 100 := by rw [eq_comm]; exact li_e100 h
theorem li_l100 {a : Nat} (h : a < 2 ^ 31) : nI a < 100 ↔ a < 100 := nI_ltI (b := 100) h (by decide)
theorem li_g100 {a : Nat} (h : a < 2 ^ 31) : (100 : Int32) < nI a ↔ 100 < a := nI_ltI (a := 100) (by decide) h
theorem li_m100 {a : Nat} (h : a < 2 ^ 31) : nI a ≤ 100 ↔ a ≤ 100 := nI_leI (b := 100) h (by decide)
theorem li_h100 {a : Nat} (h : a < 2 ^ 31) : (100 : Int32) ≤ nI a ↔ 100 ≤ a := nI_leI (a := 100) (by decide) h
theorem li_n128 : (nI 128) = 128 := rfl
theorem li_e128 {a : Nat} (h : a < 2 ^ 31) : nI a = 128 ↔ a = 128 := nI_eq (b := 128) h (by decide)
theorem li_f128 {a : Nat} (h : a < 2 ^ 31) : (128 : Int32) = nI a ↔ a = 128 := by rw [eq_comm]; exact li_e128 h
theorem li_l128 {a : Nat} (h : a < 2 ^ 31) : nI a < 128 ↔ a < 128 := nI_ltI (b := 128) h (by decide)
theorem li_g128 {a : Nat} (h : a < 2 ^ 31) : (128 : Int32) < nI a ↔ 128 < a := nI_ltI (a := 128) (by decide) h
theorem li_m128 {a : Nat} (h : a < 2 ^ 31) : nI a ≤ 128 ↔ a ≤ 128 := nI_leI (b := 128) h (by decide)
theorem li_h128 {a : Nat} (h : a < 2 ^ 31) : (128 : Int32) ≤ nI a ↔ 128 ≤ a := nI_leI (a := 128) (by decide) h
theorem li_n150 : (nI 150) = 150 := rfl
theorem li_e150 {a : Nat} (h : a < 2 ^ 31) : nI a = 150 ↔ a = 150 := nI_eq (b := 150) h (by decide)
theorem li_f150 {a : Nat} (h : a < 2 ^ 31) : (150 : Int32) = nI a ↔ a = 150 := by rw [eq_comm]; exact li_e150 h
theorem li_l150 {a : Nat} (h : a < 2 ^ 31) : nI a < 150 ↔ a < 150 := nI_ltI (b := 150) h (by decide)
theorem li_g150 {a : Nat} (h : a < 2 ^ 31) : (150 : Int32) < nI a ↔ 150 < a := nI_ltI (a := 150) (by decide) h
theorem li_m150 {a : Nat} (h : a < 2 ^ 31) : nI a ≤ 150 ↔ a ≤ 150 := nI_leI (b := 150) h (by decide)
theorem li_h150 {a : Nat} (h : a < 2 ^ 31) : (150 : Int32) ≤ nI a ↔ 150 ≤ a := nI_leI (a := 150) (by decide) h
theorem li_n255 : (nI 255) = 255 := rfl
theorem li_e255 {a : Nat} (h : a < 2 ^ 31) : nI a = 255 ↔ a = 255 := nI_eq (b := 255) h (by decide)
theorem li_f255 {a : Nat} (h : a < 2 ^ 31) : (255 : Int32) = nI a ↔ a = 255 := by rw [eq_comm]; exact li_e255 h
theorem li_l255 {a : Nat} (h : a < 2 ^ 31) : nI a < 255 ↔ a < 255 := nI_ltI (b := 255) h (by decide)
theorem li_g255 {a : Nat} (h : a < 2 ^ 31) : (255 : Int32) < nI a ↔ 255 < a := nI_ltI (a := 255) (by decide) h
theorem li_m255 {a : Nat} (h : a < 2 ^ 31) : nI a ≤ 255 ↔ a ≤ 255 := nI_leI (b := 255) h (by decide)
theorem li_h255 {a : Nat} (h : a < 2 ^ 31) : (255 : Int32) ≤ nI a ↔ 255 ≤ a := nI_leI (a := 255) (by decide) h
theorem li_n400 : (nI 400) = 400 := rfl
theorem li_e400 {a : Nat} (h : a < 2 ^ 31) : nI a = 400 ↔ a = 400 := nI_eq (b := 400) h (by decide)
theorem li_f400 {a : Nat} (h : a < 2 ^ 31) : (400 : Int32) = nI a ↔ a = 400 := by rw [eq_comm]; exact li_e400 h
theorem li_l400 {a : Nat} (h : a < 2 ^ 31) : nI a < 400 ↔ a < 400 := nI_ltI (b := 400) h (by decide)
theorem li_g400 {a : Nat} (h : a < 2 ^ 31) : (400 : Int32) < nI a ↔ 400 < a := nI_ltI (a := 400) (by decide) h
theorem li_m400 {a : Nat} (h : a < 2 ^ 31) : nI a ≤ 400 ↔ a ≤ 400 := nI_leI (b := 400) h (by decide)
theorem li_h400 {a : Nat} (h : a < 2 ^ 31) : (400 : Int32) ≤ nI a ↔ 400 ≤ a := nI_leI (a := 400) (by decide) h
theorem li_n410 : (nI 410) = 410 := rfl
theorem li_e410 {a : Nat} (h : a < 2 ^ 31) : nI a = 410 ↔ a = 410 := nI_eq (b := 410) h (by decide)
theorem li_f410 {a : Nat} (h : a < 2 ^ 31) : (410 : Int32) = nI a ↔ a = 410 := by rw [eq_comm]; exact li_e410 h
theorem li_l410 {a : Nat} (h : a < 2 ^ 31) : nI a < 410 ↔ a < 410 := nI_ltI (b := 410) h (by decide)
theorem li_g410 {a : Nat} (h : a < 2 ^ 31) : (410 : Int32) < nI a ↔ 410 < a := nI_ltI (a := 410) (by decide) h
theorem li_m410 {a : Nat} (h : a < 2 ^ 31) : nI a ≤ 410 ↔ a ≤ 410 := nI_leI (b := 410) h (by decide)
theorem li_h410 {a : Nat} (h : a < 2 ^ 31) : (410 : Int32) ≤ nI a ↔ 410 ≤ a := nI_leI (a := 410) (by decide) h
theorem li_n420 : (nI 420) = 420 := rfl
theorem li_e420 {a : Nat} (h : a < 2 ^ 31) : nI a = 420 ↔ a = 420 := nI_eq (b := 420) h (by decide)
theorem li_f420 {a : Nat} (h : a < 2 ^ 31) : (420 : Int32) = nI a ↔ a = 420 := by rw [eq_comm]; exact li_e420 h
theorem li_l420 {a : Nat} (h : a < 2 ^ 31) : nI a < 420 ↔ a < 420 := nI_ltI (b := 420) h (by decide)
theorem li_g420 {a : Nat} (h : a < 2 ^ 31) : (420 : Int32) < nI a ↔ 420 < a := nI_ltI (a := 420) (by decide) h
theorem li_m420 {a : Nat} (h : a < 2 ^ 31) : nI a ≤ 420 ↔ a ≤ 420 := nI_leI (b := 420) h (by decide)
theorem li_h420 {a : Nat} (h : a < 2 ^ 31) : (420 : Int32) ≤ nI a ↔ 420 ≤ a := nI_leI (a := 420) (by decide) h
theorem li_n2000 : (nI 2000) = 2000 := rfl
theorem li_e2000 {a : Nat} (h : a < 2 ^ 31) : nI a = 2000 ↔ a = 2000 := nI_eq (b := 2000) h (by decide)
theorem li_f2000 {a : Nat} (h : a < 2 ^ 31) : (2000 : Int32) = nI a ↔ a = 2000 := by rw [eq_comm]; exact li_e2000 h
theorem li_l2000 {a : Nat} (h : a < 2 ^ 31) : nI a < 2000 ↔ a < 2000 := nI_ltI (b := 2000) h (by decide)
theorem li_g2000 {a : Nat} (h : a < 2 ^ 31) : (2000 : Int32) < nI a ↔ 2000 < a := nI_ltI (a := 2000) (by decide) h
theorem li_m2000 {a : Nat} (h : a < 2 ^ 31) : nI a ≤ 2000 ↔ a ≤ 2000 := nI_leI (b := 2000) h (by decide)
theorem li_h2000 {a : Nat} (h : a < 2 ^ 31) : (2000 : Int32) ≤ nI a ↔ 2000 ≤ a := nI_leI (a := 2000) (by decide) h
theorem li_n8200 : (nI 8200) = 8200 := rfl
theorem li_e8200 {a : Nat} (h : a < 2 ^ 31) : nI a = 8200 ↔ a = 8200 := nI_eq (b := 8200) h (by decide)
theorem li_f8200 {a : Nat} (h : a < 2 ^ 31) : (8200 : Int32) = nI a ↔ a = 8200 := by rw [eq_comm]; exact li_e8200 h
theorem li_l8200 {a : Nat} (h : a < 2 ^ 31) : nI a < 8200 ↔ a < 8200 := nI_ltI (b := 8200) h (by decide)
theorem li_g8200 {a : Nat} (h : a < 2 ^ 31) : (8200 : Int32) < nI a ↔ 8200 < a := nI_ltI (a := 8200) (by decide) h
theorem li_m8200 {a : Nat} (h : a < 2 ^ 31) : nI a ≤ 8200 ↔ a ≤ 8200 := nI_leI (b := 8200) h (by decide)
theorem li_h8200 {a : Nat} (h : a < 2 ^ 31) : (8200 : Int32) ≤ nI a ↔ 8200 ≤ a := nI_leI (a := 8200) (by decide) h
theorem li_n1000000 : (nI 1000000) = 1000000 := rfl
theorem li_e1000000 {a : Nat} (h : a < 2 ^ 31) : nI a = 1000000 ↔ a = 1000000 := nI_eq (b := 1000000) h (by decide)
theorem li_f1000000 {a : Nat} (h : a < 2 ^ 31) : (1000000 : Int32) = nI a ↔ a = 1000000 := by rw [eq_comm]; exact li_e1000000 h
theorem li_l1000000 {a : Nat} (h : a < 2 ^ 31) : nI a < 1000000 ↔ a < 1000000 := nI_ltI (b := 1000000) h (by decide)
theorem li_g1000000 {a : Nat} (h : a < 2 ^ 31) : (1000000 : Int32) < nI a ↔ 1000000 < a := nI_ltI (a := 1000000) (by decide) h
theorem li_m1000000 {a : Nat} (h : a < 2 ^ 31) : nI a ≤ 1000000 ↔ a ≤ 1000000 := nI_leI (b := 1000000) h (by decide)
theorem li_h1000000 {a : Nat} (h : a < 2 ^ 31) : (1000000 : Int32) ≤ nI a ↔ 1000000 ≤ a := nI_leI (a := 1000000) (by decide) h
theorem li_neg {a : Nat} (h : a < 2 ^ 31) : ¬ nI a = -1 := by
  intro e
  have h2 : ¬ nI a < 0 := nI_pos h
  rw [e] at h2
  exact absurd (by decide) h2
theorem li_5 (t k : Nat) : nI t * 5 + nI k = nI (5 * t + k) := by
  rw [show (5 : Int32) = nI 5 from rfl, pk_mul, nI_add, Nat.mul_comm]
theorem li_5' (t k : Nat) : 5 * nI t + nI k = nI (5 * t + k) := by
  rw [show (5 : Int32) = nI 5 from rfl, pk_mul, nI_add]
theorem li_50 (t : Nat) : nI t * 5 = nI (5 * t) := by
  rw [show (5 : Int32) = nI 5 from rfl, pk_mul, Nat.mul_comm]
theorem li_50' (t : Nat) : 5 * nI t = nI (5 * t) := by
  rw [show (5 : Int32) = nI 5 from rfl, pk_mul]
theorem li_20 (t k : Nat) : nI t * 20 + nI k = nI (20 * t + k) := by
  rw [show (20 : Int32) = nI 20 from rfl, pk_mul, nI_add, Nat.mul_comm]
theorem li_20' (t k : Nat) : 20 * nI t + nI k = nI (20 * t + k) := by
  rw [show (20 : Int32) = nI 20 from rfl, pk_mul, nI_add]
theorem li_200 (t : Nat) : nI t * 20 = nI (20 * t) := by
  rw [show (20 : Int32) = nI 20 from rfl, pk_mul, Nat.mul_comm]
theorem li_200' (t : Nat) : 20 * nI t = nI (20 * t) := by
  rw [show (20 : Int32) = nI 20 from rfl, pk_mul]
theorem li_c1 : ((1 : Int32) = 0) = False := by decide
theorem li_c2 : ((-1 : Int32) = 0) = False := by decide
theorem li_c3 : ((-2 : Int32) = 0) = False := by decide
theorem li_c4 : ((-3 : Int32) = 0) = False := by decide
theorem li_c5 : ((-4 : Int32) = 0) = False := by decide
theorem li_c6 : ((-5 : Int32) = 0) = False := by decide
theorem li_c7 : ((-6 : Int32) = 0) = False := by decide
theorem li_c8 : ((-7 : Int32) = 0) = False := by decide
theorem li_c9 : ((-8 : Int32) = 0) = False := by decide
theorem li_c10 : ((-1 : Int32) < 0) = True := by decide
theorem li_c11 : ((0 : Int32) ≤ -1) = False := by decide
theorem li_c12 : ((-2 : Int32) = -3) = False := by decide
theorem li_c13 : ((-1 : Int32) = -3) = False := by decide
theorem li_c14 : ((-1 : Int32) = -2) = False := by decide
theorem li_c15 : ((0 : Int32) = -1) = False := by decide
theorem li_s1 {a : Nat} (h : 0 < a) : nI a - 1 = nI (a - 1) := by
  obtain ⟨b, rfl⟩ : ∃ b, a = b + 1 := ⟨a - 1, by omega⟩
  exact nI_pred b
theorem li_t1 {a : Nat} (h : 0 < a) : nI a + (-1) = nI (a - 1) := by
  obtain ⟨b, rfl⟩ : ∃ b, a = b + 1 := ⟨a - 1, by omega⟩
  exact pk_m1 b
theorem li_d20 {a b : Nat} (ha : a ≤ 20) (hb : b < 20) : nI (20 * a + b) / 20 = nI a := by
  rw [show (20 : Int32) = nI 20 from rfl, pk_div (by omega) (by omega) (by omega)]
  exact congrArg nI (by omega)
theorem li_r20 {a b : Nat} (ha : a ≤ 20) (hb : b < 20) : nI (20 * a + b) - nI (20 * a + b) / 20 * 20 = nI b := by
  rw [show (20 : Int32) = nI 20 from rfl, pk_rem (by omega) (by omega) (by omega)]
  exact congrArg nI (by omega)
def sg_K (g : sg_T) : Nat → Int32 := fun j => nI (sg_k g j)
def sg_P (g : sg_T) : Nat → Int32 := fun j => nI (sg_p g j)
theorem sg_Kat (g : sg_T) (j : Nat) : sg_K g j = nI (sg_k g j) := rfl
theorem sg_Pat (g : sg_T) (j : Nat) : sg_P g j = nI (sg_p g j) := rfl
