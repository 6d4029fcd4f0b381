/-! LAYOUT of the tags, and facts of the tables (printed by wip/whole/gen09.py) -/
abbrev Bs : Type := Launch × va_G × (Nat → ClassId) × Nat × (Nat → Nat)
def kdT (n0 : Nat) : List (Nat × Nat) := [(99, 0), (10, 15), (0, 3), (0, 3), (0, 3), (0, 3), (23, 4), (20, 3), (20, 3), (20, 8), (9, 2), (20, 168), (20, 168), (7, 6), (3, 2), (20, 1024), (20, 1024), (1, 8), (20, 6), (20, 6), (20, 6), (20, 7), (5, 2), (20, 24), (5, 2), (20, 24), (5, 2), (20, 24), (5, 2), (20, 24), (30, 3), (30, 3), (31, 0), (30, n0), (32, 0), (99, 0), (99, 0), (99, 0), (99, 0), (99, 0), (11, 58), (99, 0), (99, 0), (99, 0), (99, 0), (99, 0), (99, 0), (99, 0), (99, 0), (99, 0), (99, 0), (99, 0), (99, 0), (20, 10), (20, 10), (20, 10), (21, 10), (20, 10), (20, 10), (20, 10), (21, 10), (99, 0), (20, 24), (20, 24), (20, 24), (20, 24), (21, 24), (20, 24), (20, 24), (20, 24), (20, 4), (20, 96), (99, 0), (20, 30), (20, 30), (20, 30), (20, 30), (20, 3), (99, 0), (20, 40), (20, 40), (20, 40), (99, 0), (20, 20), (20, 20), (20, 20), (20, 20), (20, 8), (20, 24), (99, 0), (20, 10), (99, 0), (99, 0), (20, 6), (20, 6), (99, 0), (20, 6), (20, 6), (20, 7), (99, 0)]
def kdR (n0 t : Nat) : Nat × Nat := if t < 100 then (kdT n0).getD t (99, 0) else if t < 200 then (6, 11) else if t < 300 then (2, 9) else if t < 400 then (8, 4) else if t < 500 then (4, 4) else (22, t % 100)
def lyT : List (List Nat) := [[], [4, 5, 6, 7, 8, 9, 10, 11, 12, 15, 16, 19, 0, 0, 0], [0, 1, 0], [0, 1, 0], [0, 1, 0], [0, 1, 0], [24, 26, 28, 30], [], [], [], [13, 14], [], [], [], [17, 18], [], [], [20, 21, 22, 23, 0, 0, 0, 0], [], [], [], [], [25, 0], [], [27, 0], [], [29, 0], [], [31, 0], [], [], [], [], [], [], [], [], [], [], [], [0, 0, 0, 0, 0, 0, 0, 0, 0, 0, 0, 0, 55, 56, 57, 58, 59, 60, 61, 62, 0, 64, 65, 66, 67, 68, 69, 70, 71, 72, 73, 0, 75, 76, 77, 78, 79, 0, 81, 82, 83, 0, 85, 86, 87, 88, 89, 90, 0, 92, 0, 0, 95, 96, 0, 98, 99, 100], [], [], [], [], [], [], [], [], [], [], [], [], [], [], [], [], [], [], [], [], [], [], [], [], [], [], [], [], [], [], [], [], [], [], [], [], [], [], [], [], [], [], [], [], [], [], [], [], [], [], [], [], [], [], [], [], [], [], []]
def lyU : List (List Nat) := [[], [1, 1, 1, 1, 1, 1, 1, 1, 1, 1, 1, 1, 0, 0, 0], [0, 1, 0], [0, 1, 0], [0, 1, 0], [0, 1, 0], [1, 1, 1, 1], [], [], [], [1, 1], [], [], [], [1, 1], [], [], [1, 1, 1, 1, 0, 0, 0, 0], [], [], [], [], [1, 0], [], [1, 0], [], [1, 0], [], [1, 0], [], [], [], [], [], [], [], [], [], [], [], [0, 0, 0, 0, 0, 0, 0, 0, 0, 0, 0, 0, 1, 1, 1, 1, 1, 1, 1, 1, 0, 1, 1, 1, 1, 1, 1, 1, 1, 1, 1, 0, 1, 1, 1, 1, 1, 0, 1, 1, 1, 0, 1, 1, 1, 1, 1, 1, 0, 1, 0, 0, 1, 1, 0, 1, 1, 1], [], [], [], [], [], [], [], [], [], [], [], [], [], [], [], [], [], [], [], [], [], [], [], [], [], [], [], [], [], [], [], [], [], [], [], [], [], [], [], [], [], [], [], [], [], [], [], [], [], [], [], [], [], [], [], [], [], [], []]
def lyD (t j : Nat) : Nat := if t < 200 then (if j = 10 then 1 else 0) else if t < 300 then (if j = 8 then 1 else 0) else if t < 500 then 0 else 1
def lyR (t j : Nat) : Nat := if t < 100 then (lyT.getD t []).getD j 0 else lyD t j
def lyC (t j : Nat) : Nat := if t < 100 then (lyU.getD t []).getD j 0 else lyD t j
abbrev XR (B : Bs) (n0 : Nat) : Cx := (B.1, B.2.1, B.2.2.1, B.2.2.2.1, B.2.2.2.2, kdR n0, lyR)
abbrev XC (B : Bs) (n0 : Nat) : Cx := (B.1, B.2.1, B.2.2.1, B.2.2.2.1, B.2.2.2.2, kdR n0, lyC)
section F9
variable {B : Bs} {n0 : Nat}
theorem kd_1 : kd (XR B n0) 1 = (10, 15) := rfl
theorem kc_1 : kd (XC B n0) 1 = (10, 15) := rfl
theorem ly_1_0 : (XR B n0).2.2.2.2.2.2 1 0 = 2 + 2 := rfl
theorem ly_1_1 : (XR B n0).2.2.2.2.2.2 1 1 = 3 + 2 := rfl
theorem ly_1_2 : (XR B n0).2.2.2.2.2.2 1 2 = 4 + 2 := rfl
theorem ly_1_3 : (XR B n0).2.2.2.2.2.2 1 3 = 5 + 2 := rfl
theorem ly_1_4 : (XR B n0).2.2.2.2.2.2 1 4 = 6 + 2 := rfl
theorem ly_1_5 : (XR B n0).2.2.2.2.2.2 1 5 = 7 + 2 := rfl
theorem ly_1_6 : (XR B n0).2.2.2.2.2.2 1 6 = 8 + 2 := rfl
theorem ly_1_7 : (XR B n0).2.2.2.2.2.2 1 7 = 9 + 2 := rfl
theorem ly_1_8 : (XR B n0).2.2.2.2.2.2 1 8 = 10 + 2 := rfl
theorem ly_1_9 : (XR B n0).2.2.2.2.2.2 1 9 = 13 + 2 := rfl
theorem ly_1_10 : (XR B n0).2.2.2.2.2.2 1 10 = 14 + 2 := rfl
theorem ly_1_11 : (XR B n0).2.2.2.2.2.2 1 11 = 17 + 2 := rfl
theorem ly_1_12 : (XR B n0).2.2.2.2.2.2 1 12 = 0 := rfl
theorem ly_1_13 : (XR B n0).2.2.2.2.2.2 1 13 = 0 := rfl
theorem ly_1_14 : (XR B n0).2.2.2.2.2.2 1 14 = 0 := rfl
theorem kd_2 : kd (XR B n0) 2 = (0, 3) := rfl
theorem kc_2 : kd (XC B n0) 2 = (0, 3) := rfl
theorem ly_2_0 : (XR B n0).2.2.2.2.2.2 2 0 = 0 := rfl
theorem ly_2_1 : (XR B n0).2.2.2.2.2.2 2 1 = 1 := rfl
theorem ly_2_2 : (XR B n0).2.2.2.2.2.2 2 2 = 0 := rfl
theorem kd_3 : kd (XR B n0) 3 = (0, 3) := rfl
theorem kc_3 : kd (XC B n0) 3 = (0, 3) := rfl
theorem ly_3_0 : (XR B n0).2.2.2.2.2.2 3 0 = 0 := rfl
theorem ly_3_1 : (XR B n0).2.2.2.2.2.2 3 1 = 1 := rfl
theorem ly_3_2 : (XR B n0).2.2.2.2.2.2 3 2 = 0 := rfl
theorem kd_4 : kd (XR B n0) 4 = (0, 3) := rfl
theorem kc_4 : kd (XC B n0) 4 = (0, 3) := rfl
theorem ly_4_0 : (XR B n0).2.2.2.2.2.2 4 0 = 0 := rfl
theorem ly_4_1 : (XR B n0).2.2.2.2.2.2 4 1 = 1 := rfl
theorem ly_4_2 : (XR B n0).2.2.2.2.2.2 4 2 = 0 := rfl
theorem kd_5 : kd (XR B n0) 5 = (0, 3) := rfl
theorem kc_5 : kd (XC B n0) 5 = (0, 3) := rfl
theorem ly_5_0 : (XR B n0).2.2.2.2.2.2 5 0 = 0 := rfl
theorem ly_5_1 : (XR B n0).2.2.2.2.2.2 5 1 = 1 := rfl
theorem ly_5_2 : (XR B n0).2.2.2.2.2.2 5 2 = 0 := rfl
theorem kd_6 : kd (XR B n0) 6 = (23, 4) := rfl
theorem kc_6 : kd (XC B n0) 6 = (23, 4) := rfl
theorem ly_6_0 : (XR B n0).2.2.2.2.2.2 6 0 = 22 + 2 := rfl
theorem ly_6_1 : (XR B n0).2.2.2.2.2.2 6 1 = 24 + 2 := rfl
theorem ly_6_2 : (XR B n0).2.2.2.2.2.2 6 2 = 26 + 2 := rfl
theorem ly_6_3 : (XR B n0).2.2.2.2.2.2 6 3 = 28 + 2 := rfl
theorem kd_7 : kd (XR B n0) 7 = (20, 3) := rfl
theorem kc_7 : kd (XC B n0) 7 = (20, 3) := rfl
theorem ly_7 : ∀ j, (XR B n0).2.2.2.2.2.2 7 j = 0 := fun j => rfl
theorem lc_7 : ∀ j, (XC B n0).2.2.2.2.2.2 7 j = 0 := fun j => rfl
theorem kd_8 : kd (XR B n0) 8 = (20, 3) := rfl
theorem kc_8 : kd (XC B n0) 8 = (20, 3) := rfl
theorem ly_8 : ∀ j, (XR B n0).2.2.2.2.2.2 8 j = 0 := fun j => rfl
theorem lc_8 : ∀ j, (XC B n0).2.2.2.2.2.2 8 j = 0 := fun j => rfl
theorem kd_9 : kd (XR B n0) 9 = (20, 8) := rfl
theorem kc_9 : kd (XC B n0) 9 = (20, 8) := rfl
theorem ly_9 : ∀ j, (XR B n0).2.2.2.2.2.2 9 j = 0 := fun j => rfl
theorem lc_9 : ∀ j, (XC B n0).2.2.2.2.2.2 9 j = 0 := fun j => rfl
theorem kd_10 : kd (XR B n0) 10 = (9, 2) := rfl
theorem kc_10 : kd (XC B n0) 10 = (9, 2) := rfl
theorem ly_10_0 : (XR B n0).2.2.2.2.2.2 10 0 = 11 + 2 := rfl
theorem ly_10_1 : (XR B n0).2.2.2.2.2.2 10 1 = 12 + 2 := rfl
theorem kd_11 : kd (XR B n0) 11 = (20, 168) := rfl
theorem kc_11 : kd (XC B n0) 11 = (20, 168) := rfl
theorem ly_11 : ∀ j, (XR B n0).2.2.2.2.2.2 11 j = 0 := fun j => rfl
theorem lc_11 : ∀ j, (XC B n0).2.2.2.2.2.2 11 j = 0 := fun j => rfl
theorem kd_12 : kd (XR B n0) 12 = (20, 168) := rfl
theorem kc_12 : kd (XC B n0) 12 = (20, 168) := rfl
theorem ly_12 : ∀ j, (XR B n0).2.2.2.2.2.2 12 j = 0 := fun j => rfl
theorem lc_12 : ∀ j, (XC B n0).2.2.2.2.2.2 12 j = 0 := fun j => rfl
theorem kd_13 : kd (XR B n0) 13 = (7, 6) := rfl
theorem kc_13 : kd (XC B n0) 13 = (7, 6) := rfl
theorem ly_13_0 : (XR B n0).2.2.2.2.2.2 13 0 = 0 := rfl
theorem ly_13_1 : (XR B n0).2.2.2.2.2.2 13 1 = 0 := rfl
theorem ly_13_2 : (XR B n0).2.2.2.2.2.2 13 2 = 0 := rfl
theorem ly_13_3 : (XR B n0).2.2.2.2.2.2 13 3 = 0 := rfl
theorem ly_13_4 : (XR B n0).2.2.2.2.2.2 13 4 = 0 := rfl
theorem ly_13_5 : (XR B n0).2.2.2.2.2.2 13 5 = 0 := rfl
theorem kd_14 : kd (XR B n0) 14 = (3, 2) := rfl
theorem kc_14 : kd (XC B n0) 14 = (3, 2) := rfl
theorem ly_14_0 : (XR B n0).2.2.2.2.2.2 14 0 = 15 + 2 := rfl
theorem ly_14_1 : (XR B n0).2.2.2.2.2.2 14 1 = 16 + 2 := rfl
theorem kd_15 : kd (XR B n0) 15 = (20, 1024) := rfl
theorem kc_15 : kd (XC B n0) 15 = (20, 1024) := rfl
theorem ly_15 : ∀ j, (XR B n0).2.2.2.2.2.2 15 j = 0 := fun j => rfl
theorem lc_15 : ∀ j, (XC B n0).2.2.2.2.2.2 15 j = 0 := fun j => rfl
theorem kd_16 : kd (XR B n0) 16 = (20, 1024) := rfl
theorem kc_16 : kd (XC B n0) 16 = (20, 1024) := rfl
theorem ly_16 : ∀ j, (XR B n0).2.2.2.2.2.2 16 j = 0 := fun j => rfl
theorem lc_16 : ∀ j, (XC B n0).2.2.2.2.2.2 16 j = 0 := fun j => rfl
theorem kd_17 : kd (XR B n0) 17 = (1, 8) := rfl
theorem kc_17 : kd (XC B n0) 17 = (1, 8) := rfl
theorem ly_17_0 : (XR B n0).2.2.2.2.2.2 17 0 = 18 + 2 := rfl
theorem ly_17_1 : (XR B n0).2.2.2.2.2.2 17 1 = 19 + 2 := rfl
theorem ly_17_2 : (XR B n0).2.2.2.2.2.2 17 2 = 20 + 2 := rfl
theorem ly_17_3 : (XR B n0).2.2.2.2.2.2 17 3 = 21 + 2 := rfl
theorem ly_17_4 : (XR B n0).2.2.2.2.2.2 17 4 = 0 := rfl
theorem ly_17_5 : (XR B n0).2.2.2.2.2.2 17 5 = 0 := rfl
theorem ly_17_6 : (XR B n0).2.2.2.2.2.2 17 6 = 0 := rfl
theorem ly_17_7 : (XR B n0).2.2.2.2.2.2 17 7 = 0 := rfl
theorem kd_18 : kd (XR B n0) 18 = (20, 6) := rfl
theorem kc_18 : kd (XC B n0) 18 = (20, 6) := rfl
theorem ly_18 : ∀ j, (XR B n0).2.2.2.2.2.2 18 j = 0 := fun j => rfl
theorem lc_18 : ∀ j, (XC B n0).2.2.2.2.2.2 18 j = 0 := fun j => rfl
theorem kd_19 : kd (XR B n0) 19 = (20, 6) := rfl
theorem kc_19 : kd (XC B n0) 19 = (20, 6) := rfl
theorem ly_19 : ∀ j, (XR B n0).2.2.2.2.2.2 19 j = 0 := fun j => rfl
theorem lc_19 : ∀ j, (XC B n0).2.2.2.2.2.2 19 j = 0 := fun j => rfl
theorem kd_20 : kd (XR B n0) 20 = (20, 6) := rfl
theorem kc_20 : kd (XC B n0) 20 = (20, 6) := rfl
theorem ly_20 : ∀ j, (XR B n0).2.2.2.2.2.2 20 j = 0 := fun j => rfl
theorem lc_20 : ∀ j, (XC B n0).2.2.2.2.2.2 20 j = 0 := fun j => rfl
theorem kd_21 : kd (XR B n0) 21 = (20, 7) := rfl
theorem kc_21 : kd (XC B n0) 21 = (20, 7) := rfl
theorem ly_21 : ∀ j, (XR B n0).2.2.2.2.2.2 21 j = 0 := fun j => rfl
theorem lc_21 : ∀ j, (XC B n0).2.2.2.2.2.2 21 j = 0 := fun j => rfl
theorem kd_22 : kd (XR B n0) 22 = (5, 2) := rfl
theorem kc_22 : kd (XC B n0) 22 = (5, 2) := rfl
theorem ly_22_0 : (XR B n0).2.2.2.2.2.2 22 0 = 23 + 2 := rfl
theorem ly_22_1 : (XR B n0).2.2.2.2.2.2 22 1 = 0 := rfl
theorem kd_23 : kd (XR B n0) 23 = (20, 24) := rfl
theorem kc_23 : kd (XC B n0) 23 = (20, 24) := rfl
theorem ly_23 : ∀ j, (XR B n0).2.2.2.2.2.2 23 j = 0 := fun j => rfl
theorem lc_23 : ∀ j, (XC B n0).2.2.2.2.2.2 23 j = 0 := fun j => rfl
theorem kd_24 : kd (XR B n0) 24 = (5, 2) := rfl
theorem kc_24 : kd (XC B n0) 24 = (5, 2) := rfl
theorem ly_24_0 : (XR B n0).2.2.2.2.2.2 24 0 = 25 + 2 := rfl
theorem ly_24_1 : (XR B n0).2.2.2.2.2.2 24 1 = 0 := rfl
theorem kd_25 : kd (XR B n0) 25 = (20, 24) := rfl
theorem kc_25 : kd (XC B n0) 25 = (20, 24) := rfl
theorem ly_25 : ∀ j, (XR B n0).2.2.2.2.2.2 25 j = 0 := fun j => rfl
theorem lc_25 : ∀ j, (XC B n0).2.2.2.2.2.2 25 j = 0 := fun j => rfl
theorem kd_26 : kd (XR B n0) 26 = (5, 2) := rfl
theorem kc_26 : kd (XC B n0) 26 = (5, 2) := rfl
theorem ly_26_0 : (XR B n0).2.2.2.2.2.2 26 0 = 27 + 2 := rfl
theorem ly_26_1 : (XR B n0).2.2.2.2.2.2 26 1 = 0 := rfl
theorem kd_27 : kd (XR B n0) 27 = (20, 24) := rfl
theorem kc_27 : kd (XC B n0) 27 = (20, 24) := rfl
theorem ly_27 : ∀ j, (XR B n0).2.2.2.2.2.2 27 j = 0 := fun j => rfl
theorem lc_27 : ∀ j, (XC B n0).2.2.2.2.2.2 27 j = 0 := fun j => rfl
theorem kd_28 : kd (XR B n0) 28 = (5, 2) := rfl
theorem kc_28 : kd (XC B n0) 28 = (5, 2) := rfl
theorem ly_28_0 : (XR B n0).2.2.2.2.2.2 28 0 = 29 + 2 := rfl
theorem ly_28_1 : (XR B n0).2.2.2.2.2.2 28 1 = 0 := rfl
theorem kd_29 : kd (XR B n0) 29 = (20, 24) := rfl
theorem kc_29 : kd (XC B n0) 29 = (20, 24) := rfl
theorem ly_29 : ∀ j, (XR B n0).2.2.2.2.2.2 29 j = 0 := fun j => rfl
theorem lc_29 : ∀ j, (XC B n0).2.2.2.2.2.2 29 j = 0 := fun j => rfl
theorem kd_30 : kd (XR B n0) 30 = (30, 3) := rfl
theorem kc_30 : kd (XC B n0) 30 = (30, 3) := rfl
theorem kd_31 : kd (XR B n0) 31 = (30, 3) := rfl
theorem kc_31 : kd (XC B n0) 31 = (30, 3) := rfl
theorem kd_32 : kd (XR B n0) 32 = (31, 0) := rfl
theorem kc_32 : kd (XC B n0) 32 = (31, 0) := rfl
theorem kd_33 : kd (XR B n0) 33 = (30, n0) := rfl
theorem kc_33 : kd (XC B n0) 33 = (30, n0) := rfl
theorem kd_34 : kd (XR B n0) 34 = (32, 0) := rfl
theorem kc_34 : kd (XC B n0) 34 = (32, 0) := rfl
theorem kd_40 : kd (XR B n0) 40 = (11, 58) := rfl
theorem kc_40 : kd (XC B n0) 40 = (11, 58) := rfl
theorem ly_40_0 : (XR B n0).2.2.2.2.2.2 40 0 = 0 := rfl
theorem ly_40_1 : (XR B n0).2.2.2.2.2.2 40 1 = 0 := rfl
theorem ly_40_2 : (XR B n0).2.2.2.2.2.2 40 2 = 0 := rfl
theorem ly_40_3 : (XR B n0).2.2.2.2.2.2 40 3 = 0 := rfl
theorem ly_40_4 : (XR B n0).2.2.2.2.2.2 40 4 = 0 := rfl
theorem ly_40_5 : (XR B n0).2.2.2.2.2.2 40 5 = 0 := rfl
theorem ly_40_6 : (XR B n0).2.2.2.2.2.2 40 6 = 0 := rfl
theorem ly_40_7 : (XR B n0).2.2.2.2.2.2 40 7 = 0 := rfl
theorem ly_40_8 : (XR B n0).2.2.2.2.2.2 40 8 = 0 := rfl
theorem ly_40_9 : (XR B n0).2.2.2.2.2.2 40 9 = 0 := rfl
theorem ly_40_10 : (XR B n0).2.2.2.2.2.2 40 10 = 0 := rfl
theorem ly_40_11 : (XR B n0).2.2.2.2.2.2 40 11 = 0 := rfl
theorem ly_40_12 : (XR B n0).2.2.2.2.2.2 40 12 = 53 + 2 := rfl
theorem ly_40_13 : (XR B n0).2.2.2.2.2.2 40 13 = 54 + 2 := rfl
theorem ly_40_14 : (XR B n0).2.2.2.2.2.2 40 14 = 55 + 2 := rfl
theorem ly_40_15 : (XR B n0).2.2.2.2.2.2 40 15 = 56 + 2 := rfl
theorem ly_40_16 : (XR B n0).2.2.2.2.2.2 40 16 = 57 + 2 := rfl
theorem ly_40_17 : (XR B n0).2.2.2.2.2.2 40 17 = 58 + 2 := rfl
theorem ly_40_18 : (XR B n0).2.2.2.2.2.2 40 18 = 59 + 2 := rfl
theorem ly_40_19 : (XR B n0).2.2.2.2.2.2 40 19 = 60 + 2 := rfl
theorem ly_40_20 : (XR B n0).2.2.2.2.2.2 40 20 = 0 := rfl
theorem ly_40_21 : (XR B n0).2.2.2.2.2.2 40 21 = 62 + 2 := rfl
theorem ly_40_22 : (XR B n0).2.2.2.2.2.2 40 22 = 63 + 2 := rfl
theorem ly_40_23 : (XR B n0).2.2.2.2.2.2 40 23 = 64 + 2 := rfl
theorem ly_40_24 : (XR B n0).2.2.2.2.2.2 40 24 = 65 + 2 := rfl
theorem ly_40_25 : (XR B n0).2.2.2.2.2.2 40 25 = 66 + 2 := rfl
theorem ly_40_26 : (XR B n0).2.2.2.2.2.2 40 26 = 67 + 2 := rfl
theorem ly_40_27 : (XR B n0).2.2.2.2.2.2 40 27 = 68 + 2 := rfl
theorem ly_40_28 : (XR B n0).2.2.2.2.2.2 40 28 = 69 + 2 := rfl
theorem ly_40_29 : (XR B n0).2.2.2.2.2.2 40 29 = 70 + 2 := rfl
theorem ly_40_30 : (XR B n0).2.2.2.2.2.2 40 30 = 71 + 2 := rfl
theorem ly_40_31 : (XR B n0).2.2.2.2.2.2 40 31 = 0 := rfl
theorem ly_40_32 : (XR B n0).2.2.2.2.2.2 40 32 = 73 + 2 := rfl
theorem ly_40_33 : (XR B n0).2.2.2.2.2.2 40 33 = 74 + 2 := rfl
theorem ly_40_34 : (XR B n0).2.2.2.2.2.2 40 34 = 75 + 2 := rfl
theorem ly_40_35 : (XR B n0).2.2.2.2.2.2 40 35 = 76 + 2 := rfl
theorem ly_40_36 : (XR B n0).2.2.2.2.2.2 40 36 = 77 + 2 := rfl
theorem ly_40_37 : (XR B n0).2.2.2.2.2.2 40 37 = 0 := rfl
theorem ly_40_38 : (XR B n0).2.2.2.2.2.2 40 38 = 79 + 2 := rfl
theorem ly_40_39 : (XR B n0).2.2.2.2.2.2 40 39 = 80 + 2 := rfl
theorem ly_40_40 : (XR B n0).2.2.2.2.2.2 40 40 = 81 + 2 := rfl
theorem ly_40_41 : (XR B n0).2.2.2.2.2.2 40 41 = 0 := rfl
theorem ly_40_42 : (XR B n0).2.2.2.2.2.2 40 42 = 83 + 2 := rfl
theorem ly_40_43 : (XR B n0).2.2.2.2.2.2 40 43 = 84 + 2 := rfl
theorem ly_40_44 : (XR B n0).2.2.2.2.2.2 40 44 = 85 + 2 := rfl
theorem ly_40_45 : (XR B n0).2.2.2.2.2.2 40 45 = 86 + 2 := rfl
theorem ly_40_46 : (XR B n0).2.2.2.2.2.2 40 46 = 87 + 2 := rfl
theorem ly_40_47 : (XR B n0).2.2.2.2.2.2 40 47 = 88 + 2 := rfl
theorem ly_40_48 : (XR B n0).2.2.2.2.2.2 40 48 = 0 := rfl
theorem ly_40_49 : (XR B n0).2.2.2.2.2.2 40 49 = 90 + 2 := rfl
theorem ly_40_50 : (XR B n0).2.2.2.2.2.2 40 50 = 0 := rfl
theorem ly_40_51 : (XR B n0).2.2.2.2.2.2 40 51 = 0 := rfl
theorem ly_40_52 : (XR B n0).2.2.2.2.2.2 40 52 = 93 + 2 := rfl
theorem ly_40_53 : (XR B n0).2.2.2.2.2.2 40 53 = 94 + 2 := rfl
theorem ly_40_54 : (XR B n0).2.2.2.2.2.2 40 54 = 0 := rfl
theorem ly_40_55 : (XR B n0).2.2.2.2.2.2 40 55 = 96 + 2 := rfl
theorem ly_40_56 : (XR B n0).2.2.2.2.2.2 40 56 = 97 + 2 := rfl
theorem ly_40_57 : (XR B n0).2.2.2.2.2.2 40 57 = 98 + 2 := rfl
theorem kd_53 : kd (XR B n0) 53 = (20, 10) := rfl
theorem kc_53 : kd (XC B n0) 53 = (20, 10) := rfl
theorem ly_53 : ∀ j, (XR B n0).2.2.2.2.2.2 53 j = 0 := fun j => rfl
theorem lc_53 : ∀ j, (XC B n0).2.2.2.2.2.2 53 j = 0 := fun j => rfl
theorem kd_54 : kd (XR B n0) 54 = (20, 10) := rfl
theorem kc_54 : kd (XC B n0) 54 = (20, 10) := rfl
theorem ly_54 : ∀ j, (XR B n0).2.2.2.2.2.2 54 j = 0 := fun j => rfl
theorem lc_54 : ∀ j, (XC B n0).2.2.2.2.2.2 54 j = 0 := fun j => rfl
theorem kd_55 : kd (XR B n0) 55 = (20, 10) := rfl
theorem kc_55 : kd (XC B n0) 55 = (20, 10) := rfl
theorem ly_55 : ∀ j, (XR B n0).2.2.2.2.2.2 55 j = 0 := fun j => rfl
theorem lc_55 : ∀ j, (XC B n0).2.2.2.2.2.2 55 j = 0 := fun j => rfl
theorem kd_56 : kd (XR B n0) 56 = (21, 10) := rfl
theorem kc_56 : kd (XC B n0) 56 = (21, 10) := rfl
theorem ly_56 : ∀ j, (XR B n0).2.2.2.2.2.2 56 j = 0 := fun j => rfl
theorem lc_56 : ∀ j, (XC B n0).2.2.2.2.2.2 56 j = 0 := fun j => rfl
theorem kd_57 : kd (XR B n0) 57 = (20, 10) := rfl
theorem kc_57 : kd (XC B n0) 57 = (20, 10) := rfl
theorem ly_57 : ∀ j, (XR B n0).2.2.2.2.2.2 57 j = 0 := fun j => rfl
theorem lc_57 : ∀ j, (XC B n0).2.2.2.2.2.2 57 j = 0 := fun j => rfl
theorem kd_58 : kd (XR B n0) 58 = (20, 10) := rfl
theorem kc_58 : kd (XC B n0) 58 = (20, 10) := rfl
theorem ly_58 : ∀ j, (XR B n0).2.2.2.2.2.2 58 j = 0 := fun j => rfl
theorem lc_58 : ∀ j, (XC B n0).2.2.2.2.2.2 58 j = 0 := fun j => rfl
theorem kd_59 : kd (XR B n0) 59 = (20, 10) := rfl
theorem kc_59 : kd (XC B n0) 59 = (20, 10) := rfl
theorem ly_59 : ∀ j, (XR B n0).2.2.2.2.2.2 59 j = 0 := fun j => rfl
theorem lc_59 : ∀ j, (XC B n0).2.2.2.2.2.2 59 j = 0 := fun j => rfl
theorem kd_60 : kd (XR B n0) 60 = (21, 10) := rfl
theorem kc_60 : kd (XC B n0) 60 = (21, 10) := rfl
theorem ly_60 : ∀ j, (XR B n0).2.2.2.2.2.2 60 j = 0 := fun j => rfl
theorem lc_60 : ∀ j, (XC B n0).2.2.2.2.2.2 60 j = 0 := fun j => rfl
theorem kd_62 : kd (XR B n0) 62 = (20, 24) := rfl
theorem kc_62 : kd (XC B n0) 62 = (20, 24) := rfl
theorem ly_62 : ∀ j, (XR B n0).2.2.2.2.2.2 62 j = 0 := fun j => rfl
theorem lc_62 : ∀ j, (XC B n0).2.2.2.2.2.2 62 j = 0 := fun j => rfl
theorem kd_63 : kd (XR B n0) 63 = (20, 24) := rfl
theorem kc_63 : kd (XC B n0) 63 = (20, 24) := rfl
theorem ly_63 : ∀ j, (XR B n0).2.2.2.2.2.2 63 j = 0 := fun j => rfl
theorem lc_63 : ∀ j, (XC B n0).2.2.2.2.2.2 63 j = 0 := fun j => rfl
theorem kd_64 : kd (XR B n0) 64 = (20, 24) := rfl
theorem kc_64 : kd (XC B n0) 64 = (20, 24) := rfl
theorem ly_64 : ∀ j, (XR B n0).2.2.2.2.2.2 64 j = 0 := fun j => rfl
theorem lc_64 : ∀ j, (XC B n0).2.2.2.2.2.2 64 j = 0 := fun j => rfl
theorem kd_65 : kd (XR B n0) 65 = (20, 24) := rfl
theorem kc_65 : kd (XC B n0) 65 = (20, 24) := rfl
theorem ly_65 : ∀ j, (XR B n0).2.2.2.2.2.2 65 j = 0 := fun j => rfl
theorem lc_65 : ∀ j, (XC B n0).2.2.2.2.2.2 65 j = 0 := fun j => rfl
theorem kd_66 : kd (XR B n0) 66 = (21, 24) := rfl
theorem kc_66 : kd (XC B n0) 66 = (21, 24) := rfl
theorem ly_66 : ∀ j, (XR B n0).2.2.2.2.2.2 66 j = 0 := fun j => rfl
theorem lc_66 : ∀ j, (XC B n0).2.2.2.2.2.2 66 j = 0 := fun j => rfl
theorem kd_67 : kd (XR B n0) 67 = (20, 24) := rfl
theorem kc_67 : kd (XC B n0) 67 = (20, 24) := rfl
theorem ly_67 : ∀ j, (XR B n0).2.2.2.2.2.2 67 j = 0 := fun j => rfl
theorem lc_67 : ∀ j, (XC B n0).2.2.2.2.2.2 67 j = 0 := fun j => rfl
theorem kd_68 : kd (XR B n0) 68 = (20, 24) := rfl
theorem kc_68 : kd (XC B n0) 68 = (20, 24) := rfl
theorem ly_68 : ∀ j, (XR B n0).2.2.2.2.2.2 68 j = 0 := fun j => rfl
theorem lc_68 : ∀ j, (XC B n0).2.2.2.2.2.2 68 j = 0 := fun j => rfl
theorem kd_69 : kd (XR B n0) 69 = (20, 24) := rfl
theorem kc_69 : kd (XC B n0) 69 = (20, 24) := rfl
theorem ly_69 : ∀ j, (XR B n0).2.2.2.2.2.2 69 j = 0 := fun j => rfl
theorem lc_69 : ∀ j, (XC B n0).2.2.2.2.2.2 69 j = 0 := fun j => rfl
theorem kd_70 : kd (XR B n0) 70 = (20, 4) := rfl
theorem kc_70 : kd (XC B n0) 70 = (20, 4) := rfl
theorem ly_70 : ∀ j, (XR B n0).2.2.2.2.2.2 70 j = 0 := fun j => rfl
theorem lc_70 : ∀ j, (XC B n0).2.2.2.2.2.2 70 j = 0 := fun j => rfl
theorem kd_71 : kd (XR B n0) 71 = (20, 96) := rfl
theorem kc_71 : kd (XC B n0) 71 = (20, 96) := rfl
theorem ly_71 : ∀ j, (XR B n0).2.2.2.2.2.2 71 j = 0 := fun j => rfl
theorem lc_71 : ∀ j, (XC B n0).2.2.2.2.2.2 71 j = 0 := fun j => rfl
theorem kd_73 : kd (XR B n0) 73 = (20, 30) := rfl
theorem kc_73 : kd (XC B n0) 73 = (20, 30) := rfl
theorem ly_73 : ∀ j, (XR B n0).2.2.2.2.2.2 73 j = 0 := fun j => rfl
theorem lc_73 : ∀ j, (XC B n0).2.2.2.2.2.2 73 j = 0 := fun j => rfl
theorem kd_74 : kd (XR B n0) 74 = (20, 30) := rfl
theorem kc_74 : kd (XC B n0) 74 = (20, 30) := rfl
theorem ly_74 : ∀ j, (XR B n0).2.2.2.2.2.2 74 j = 0 := fun j => rfl
theorem lc_74 : ∀ j, (XC B n0).2.2.2.2.2.2 74 j = 0 := fun j => rfl
theorem kd_75 : kd (XR B n0) 75 = (20, 30) := rfl
theorem kc_75 : kd (XC B n0) 75 = (20, 30) := rfl
theorem ly_75 : ∀ j, (XR B n0).2.2.2.2.2.2 75 j = 0 := fun j => rfl
theorem lc_75 : ∀ j, (XC B n0).2.2.2.2.2.2 75 j = 0 := fun j => rfl
theorem kd_76 : kd (XR B n0) 76 = (20, 30) := rfl
theorem kc_76 : kd (XC B n0) 76 = (20, 30) := rfl
theorem ly_76 : ∀ j, (XR B n0).2.2.2.2.2.2 76 j = 0 := fun j => rfl
theorem lc_76 : ∀ j, (XC B n0).2.2.2.2.2.2 76 j = 0 := fun j => rfl
theorem kd_77 : kd (XR B n0) 77 = (20, 3) := rfl
theorem kc_77 : kd (XC B n0) 77 = (20, 3) := rfl
theorem ly_77 : ∀ j, (XR B n0).2.2.2.2.2.2 77 j = 0 := fun j => rfl
theorem lc_77 : ∀ j, (XC B n0).2.2.2.2.2.2 77 j = 0 := fun j => rfl
theorem kd_79 : kd (XR B n0) 79 = (20, 40) := rfl
theorem kc_79 : kd (XC B n0) 79 = (20, 40) := rfl
theorem ly_79 : ∀ j, (XR B n0).2.2.2.2.2.2 79 j = 0 := fun j => rfl
theorem lc_79 : ∀ j, (XC B n0).2.2.2.2.2.2 79 j = 0 := fun j => rfl
theorem kd_80 : kd (XR B n0) 80 = (20, 40) := rfl
theorem kc_80 : kd (XC B n0) 80 = (20, 40) := rfl
theorem ly_80 : ∀ j, (XR B n0).2.2.2.2.2.2 80 j = 0 := fun j => rfl
theorem lc_80 : ∀ j, (XC B n0).2.2.2.2.2.2 80 j = 0 := fun j => rfl
theorem kd_81 : kd (XR B n0) 81 = (20, 40) := rfl
theorem kc_81 : kd (XC B n0) 81 = (20, 40) := rfl
theorem ly_81 : ∀ j, (XR B n0).2.2.2.2.2.2 81 j = 0 := fun j => rfl
theorem lc_81 : ∀ j, (XC B n0).2.2.2.2.2.2 81 j = 0 := fun j => rfl
theorem kd_83 : kd (XR B n0) 83 = (20, 20) := rfl
theorem kc_83 : kd (XC B n0) 83 = (20, 20) := rfl
theorem ly_83 : ∀ j, (XR B n0).2.2.2.2.2.2 83 j = 0 := fun j => rfl
theorem lc_83 : ∀ j, (XC B n0).2.2.2.2.2.2 83 j = 0 := fun j => rfl
theorem kd_84 : kd (XR B n0) 84 = (20, 20) := rfl
theorem kc_84 : kd (XC B n0) 84 = (20, 20) := rfl
theorem ly_84 : ∀ j, (XR B n0).2.2.2.2.2.2 84 j = 0 := fun j => rfl
theorem lc_84 : ∀ j, (XC B n0).2.2.2.2.2.2 84 j = 0 := fun j => rfl
theorem kd_85 : kd (XR B n0) 85 = (20, 20) := rfl
theorem kc_85 : kd (XC B n0) 85 = (20, 20) := rfl
theorem ly_85 : ∀ j, (XR B n0).2.2.2.2.2.2 85 j = 0 := fun j => rfl
theorem lc_85 : ∀ j, (XC B n0).2.2.2.2.2.2 85 j = 0 := fun j => rfl
theorem kd_86 : kd (XR B n0) 86 = (20, 20) := rfl
theorem kc_86 : kd (XC B n0) 86 = (20, 20) := rfl
theorem ly_86 : ∀ j, (XR B n0).2.2.2.2.2.2 86 j = 0 := fun j => rfl
theorem lc_86 : ∀ j, (XC B n0).2.2.2.2.2.2 86 j = 0 := fun j => rfl
theorem kd_87 : kd (XR B n0) 87 = (20, 8) := rfl
theorem kc_87 : kd (XC B n0) 87 = (20, 8) := rfl
theorem ly_87 : ∀ j, (XR B n0).2.2.2.2.2.2 87 j = 0 := fun j => rfl
theorem lc_87 : ∀ j, (XC B n0).2.2.2.2.2.2 87 j = 0 := fun j => rfl
theorem kd_88 : kd (XR B n0) 88 = (20, 24) := rfl
theorem kc_88 : kd (XC B n0) 88 = (20, 24) := rfl
theorem ly_88 : ∀ j, (XR B n0).2.2.2.2.2.2 88 j = 0 := fun j => rfl
theorem lc_88 : ∀ j, (XC B n0).2.2.2.2.2.2 88 j = 0 := fun j => rfl
theorem kd_90 : kd (XR B n0) 90 = (20, 10) := rfl
theorem kc_90 : kd (XC B n0) 90 = (20, 10) := rfl
theorem ly_90 : ∀ j, (XR B n0).2.2.2.2.2.2 90 j = 0 := fun j => rfl
theorem lc_90 : ∀ j, (XC B n0).2.2.2.2.2.2 90 j = 0 := fun j => rfl
theorem kd_93 : kd (XR B n0) 93 = (20, 6) := rfl
theorem kc_93 : kd (XC B n0) 93 = (20, 6) := rfl
theorem ly_93 : ∀ j, (XR B n0).2.2.2.2.2.2 93 j = 0 := fun j => rfl
theorem lc_93 : ∀ j, (XC B n0).2.2.2.2.2.2 93 j = 0 := fun j => rfl
theorem kd_94 : kd (XR B n0) 94 = (20, 6) := rfl
theorem kc_94 : kd (XC B n0) 94 = (20, 6) := rfl
theorem ly_94 : ∀ j, (XR B n0).2.2.2.2.2.2 94 j = 0 := fun j => rfl
theorem lc_94 : ∀ j, (XC B n0).2.2.2.2.2.2 94 j = 0 := fun j => rfl
theorem kd_96 : kd (XR B n0) 96 = (20, 6) := rfl
theorem kc_96 : kd (XC B n0) 96 = (20, 6) := rfl
theorem ly_96 : ∀ j, (XR B n0).2.2.2.2.2.2 96 j = 0 := fun j => rfl
theorem lc_96 : ∀ j, (XC B n0).2.2.2.2.2.2 96 j = 0 := fun j => rfl
theorem kd_97 : kd (XR B n0) 97 = (20, 6) := rfl
theorem kc_97 : kd (XC B n0) 97 = (20, 6) := rfl
theorem ly_97 : ∀ j, (XR B n0).2.2.2.2.2.2 97 j = 0 := fun j => rfl
theorem lc_97 : ∀ j, (XC B n0).2.2.2.2.2.2 97 j = 0 := fun j => rfl
theorem kd_98 : kd (XR B n0) 98 = (20, 7) := rfl
theorem kc_98 : kd (XC B n0) 98 = (20, 7) := rfl
theorem ly_98 : ∀ j, (XR B n0).2.2.2.2.2.2 98 j = 0 := fun j => rfl
theorem lc_98 : ∀ j, (XC B n0).2.2.2.2.2.2 98 j = 0 := fun j => rfl
theorem kd_S {s : Nat} (h : s < 100) : kd (XR B n0) (100 + s) = (6, 11) := by
  show kdR n0 (100 + s) = _
  unfold kdR
  rw [if_neg (by omega), if_pos (by omega)]
theorem ly_S {s : Nat} (h : s < 100) (j : Nat) : (XR B n0).2.2.2.2.2.2 (100 + s) j = (if j = 10 then 1 else 0) := by
  show lyR (100 + s) j = _
  unfold lyR lyD
  rw [if_neg (by omega), if_pos (by omega)]
theorem kd_H {s : Nat} (h : s < 100) : kd (XR B n0) (200 + s) = (2, 9) := by
  show kdR n0 (200 + s) = _
  unfold kdR
  rw [if_neg (by omega), if_neg (by omega), if_pos (by omega)]
theorem ly_H {s : Nat} (h : s < 100) (j : Nat) : (XR B n0).2.2.2.2.2.2 (200 + s) j = (if j = 8 then 1 else 0) := by
  show lyR (200 + s) j = _
  unfold lyR lyD
  rw [if_neg (by omega), if_neg (by omega), if_pos (by omega)]
theorem kd_T {s : Nat} (h : s < 100) : kd (XR B n0) (300 + s) = (8, 4) := by
  show kdR n0 (300 + s) = _
  unfold kdR
  rw [if_neg (by omega), if_neg (by omega), if_neg (by omega), if_pos (by omega)]
theorem ly_T {s : Nat} (h : s < 100) (j : Nat) : (XR B n0).2.2.2.2.2.2 (300 + s) j = 0 := by
  show lyR (300 + s) j = _
  unfold lyR lyD
  rw [if_neg (by omega), if_neg (by omega), if_neg (by omega), if_pos (by omega)]
theorem kd_L {s : Nat} (h : s < 100) : kd (XR B n0) (400 + s) = (4, 4) := by
  show kdR n0 (400 + s) = _
  unfold kdR
  rw [if_neg (by omega), if_neg (by omega), if_neg (by omega), if_neg (by omega), if_pos (by omega)]
theorem ly_L {s : Nat} (h : s < 100) (j : Nat) : (XR B n0).2.2.2.2.2.2 (400 + s) j = 0 := by
  show lyR (400 + s) j = _
  unfold lyR lyD
  rw [if_neg (by omega), if_neg (by omega), if_neg (by omega), if_pos (by omega)]
theorem kd_E {k c : Nat} (h : c < 100) : kd (XR B n0) (1000 + 100 * k + c) = (22, c) := by
  show kdR n0 (1000 + 100 * k + c) = _
  unfold kdR
  rw [if_neg (by omega), if_neg (by omega), if_neg (by omega), if_neg (by omega), if_neg (by omega)]
  congr 1
  omega
theorem ly_E {t : Nat} (h : 500 ≤ t) (j : Nat) : (XR B n0).2.2.2.2.2.2 t j = 1 := by
  show lyR t j = _
  unfold lyR lyD
  rw [if_neg (by omega), if_neg (by omega), if_neg (by omega), if_neg (by omega)]
end F9
abbrev mX0_init : Mt := (yX0_init, cX0_init, 1, none)
abbrev mX0_begin : Mt := (yX0_begin, cX0_begin, 2, none)
abbrev mX0_tell : Mt := (yX0_tell, cX0_tell, 2, none)
abbrev mX0_bestDay : Mt := (yX0_bestDay, cX0_bestDay, 2, some .int)
abbrev mX0_search : Mt := (yX0_search, cX0_search, 1, none)
abbrev mX0_tryFrom : Mt := (yX0_tryFrom, cX0_tryFrom, 4, none)
abbrev mX0_weigh : Mt := (yX0_weigh, cX0_weigh, 4, none)
abbrev mX1_init : Mt := (yX1_init, cX1_init, 6, none)
abbrev mX1_roomInCistern : Mt := (yX1_roomInCistern, cX1_roomInCistern, 1, some .int)
abbrev mX1_takeFrom : Mt := (yX1_takeFrom, cX1_takeFrom, 5, some .int)
abbrev mX1_use : Mt := (yX1_use, cX1_use, 2, none)
abbrev mX2_init : Mt := (yX2_init, cX2_init, 1, none)
abbrev mX2_tell : Mt := (yX2_tell, cX2_tell, 4, none)
abbrev mX2_worthOf : Mt := (yX2_worthOf, cX2_worthOf, 2, some .int)
abbrev mX2_bestSet : Mt := (yX2_bestSet, cX2_bestSet, 6, some .int)
abbrev mX2_isBetter : Mt := (yX2_isBetter, cX2_isBetter, 3, some .boolean)
abbrev mX3_init : Mt := (yX3_init, cX3_init, 5, none)
abbrev mX3_rateFor : Mt := (yX3_rateFor, cX3_rateFor, 2, some .int)
abbrev mX4_init : Mt := (yX4_init, cX4_init, 1, none)
abbrev mX4_isMissing : Mt := (yX4_isMissing, cX4_isMissing, 1, some .boolean)
abbrev mX4_forget : Mt := (yX4_forget, cX4_forget, 1, none)
abbrev mX4_makeAnew : Mt := (yX4_makeAnew, cX4_makeAnew, 2, none)
abbrev mX4_hasPlaces : Mt := (yX4_hasPlaces, cX4_hasPlaces, 3, some .boolean)
abbrev mX5_init : Mt := (yX5_init, cX5_init, 4, none)
abbrev mX5_dripIn : Mt := (yX5_dripIn, cX5_dripIn, 2, some .int)
abbrev mX5_layAnew : Mt := (yX5_layAnew, cX5_layAnew, 3, some .int)
abbrev mX5_setAtEnd : Mt := (yX5_setAtEnd, cX5_setAtEnd, 3, none)
abbrev mX5_hemIn : Mt := (yX5_hemIn, cX5_hemIn, 3, none)
abbrev mX5_admit : Mt := (yX5_admit, cX5_admit, 4, none)
abbrev mX5_takeFrom : Mt := (yX5_takeFrom, cX5_takeFrom, 5, some .int)
abbrev mX5_takeByPlug : Mt := (yX5_takeByPlug, cX5_takeByPlug, 4, some .int)
abbrev mX5_takeByTun : Mt := (yX5_takeByTun, cX5_takeByTun, 4, some .int)
abbrev mX5_roomNow : Mt := (yX5_roomNow, cX5_roomNow, 3, some .int)
abbrev mX6_init : Mt := (yX6_init, cX6_init, 1, none)
abbrev mX7_init : Mt := (yX7_init, cX7_init, 5, none)
abbrev mX7_hoursUntil : Mt := (yX7_hoursUntil, cX7_hoursUntil, 2, some .int)
abbrev mX7_sharesHourWith : Mt := (yX7_sharesHourWith, cX7_sharesHourWith, 2, some .boolean)
abbrev mX8_init : Mt := (yX8_init, cX8_init, 1, none)
abbrev mX8_letStreets : Mt := (yX8_letStreets, cX8_letStreets, 2, some .int)
abbrev mX8_openStreets : Mt := (yX8_openStreets, cX8_openStreets, 2, some .int)
abbrev mX8_hoursOpen : Mt := (yX8_hoursOpen, cX8_hoursOpen, 4, some .int)
abbrev mX8_add : Mt := (yX8_add, cX8_add, 5, none)
abbrev mX8_openOf : Mt := (yX8_openOf, cX8_openOf, 6, some .int)
abbrev mX9_init : Mt := (yX9_init, cX9_init, 2, none)
abbrev mX9_street : Mt := (yX9_street, cX9_street, 3, some .int)
abbrev mX9_set : Mt := (yX9_set, cX9_set, 4, some .int)
abbrev mX9_coal : Mt := (yX9_coal, cX9_coal, 2, some .int)
abbrev mX9_house : Mt := (yX9_house, cX9_house, 8, some .int)
abbrev mX9_row : Mt := (yX9_row, cX9_row, 4, some .int)
abbrev mX9_lose : Mt := (yX9_lose, cX9_lose, 3, some .int)
abbrev mX9_put : Mt := (yX9_put, cX9_put, 6, some .int)
abbrev mX9_copy : Mt := (yX9_copy, cX9_copy, 8, some .int)
abbrev mX9_lead : Mt := (yX9_lead, cX9_lead, 5, some .int)
abbrev mX9_end : Mt := (yX9_end, cX9_end, 4, some .int)
abbrev mX9_clear : Mt := (yX9_clear, cX9_clear, 4, some .int)
abbrev mX9_draw : Mt := (yX9_draw, cX9_draw, 4, some .int)
abbrev mX9_brew : Mt := (yX9_brew, cX9_brew, 4, some .int)
abbrev mX9_turn : Mt := (yX9_turn, cX9_turn, 7, some .int)
abbrev mX9_let : Mt := (yX9_let, cX9_let, 5, some .int)
abbrev mX9_clashes : Mt := (yX9_clashes, cX9_clashes, 7, some .int)
abbrev mX9_hours : Mt := (yX9_hours, cX9_hours, 3, some .int)
abbrev mX9_iron : Mt := (yX9_iron, cX9_iron, 3, some .int)
abbrev mX9_renew : Mt := (yX9_renew, cX9_renew, 3, some .int)
abbrev mX9_stand : Mt := (yX9_stand, cX9_stand, 4, some .int)
abbrev mX9_way : Mt := (yX9_way, cX9_way, 3, some .int)
abbrev mX9_fire : Mt := (yX9_fire, cX9_fire, 7, some .int)
abbrev mX9_reading : Mt := (yX9_reading, cX9_reading, 6, some .int)
abbrev mX9_span : Mt := (yX9_span, cX9_span, 4, some .int)
abbrev mX9_best : Mt := (yX9_best, cX9_best, 3, some .int)
abbrev mX9_bestWorth : Mt := (yX9_bestWorth, cX9_bestWorth, 3, some .int)
abbrev mX9_days : Mt := (yX9_days, cX9_days, 4, some .int)
abbrev mX9_dayOf : Mt := (yX9_dayOf, cX9_dayOf, 6, some .int)
abbrev mX9_law : Mt := (yX9_law, cX9_law, 5, some .int)
abbrev mX9_rate : Mt := (yX9_rate, cX9_rate, 5, some .int)
abbrev mX9_houseOf : Mt := (yX9_houseOf, cX9_houseOf, 4, some .int)
abbrev mX9_streetOf : Mt := (yX9_streetOf, cX9_streetOf, 4, some .int)
abbrev mX9_count : Mt := (yX9_count, cX9_count, 2, some .int)
abbrev mX9_refuse : Mt := (yX9_refuse, cX9_refuse, 2, some .int)
abbrev mX9_refuseAside : Mt := (yX9_refuseAside, cX9_refuseAside, 2, some .int)
abbrev mX9_streetAt : Mt := (yX9_streetAt, cX9_streetAt, 2, some (.object "WoodenMains$Street"))
abbrev mX9_houseAt : Mt := (yX9_houseAt, cX9_houseAt, 2, some (.object "WoodenMains$House"))
abbrev mX9_rowAt : Mt := (yX9_rowAt, cX9_rowAt, 2, some (.object "WoodenMains$Row"))
abbrev mX9_isCock : Mt := (yX9_isCock, cX9_isCock, 1, some .boolean)
abbrev mX9_isPlace : Mt := (yX9_isPlace, cX9_isPlace, 2, some .boolean)
abbrev mX9_weekNow : Mt := (yX9_weekNow, cX9_weekNow, 1, some .int)
abbrev mX9_hasStreet : Mt := (yX9_hasStreet, cX9_hasStreet, 2, some .boolean)
abbrev mX9_passHour : Mt := (yX9_passHour, cX9_passHour, 3, none)
abbrev mX9_pump : Mt := (yX9_pump, cX9_pump, 1, some .int)
abbrev mX9_leak : Mt := (yX9_leak, cX9_leak, 6, some .int)
abbrev mX9_serve : Mt := (yX9_serve, cX9_serve, 5, some .int)
abbrev mX9_drink : Mt := (yX9_drink, cX9_drink, 3, none)
abbrev mX9_useNow : Mt := (yX9_useNow, cX9_useNow, 3, some .int)
abbrev mX9_stepsBetween : Mt := (yX9_stepsBetween, cX9_stepsBetween, 6, some .int)
abbrev mX9_placeAheadOf : Mt := (yX9_placeAheadOf, cX9_placeAheadOf, 3, some .int)
abbrev mX9_isClash : Mt := (yX9_isClash, cX9_isClash, 5, some .boolean)
abbrev mX9_shutUpTo : Mt := (yX9_shutUpTo, cX9_shutUpTo, 5, some .int)
abbrev mX9_quickestCock : Mt := (yX9_quickestCock, cX9_quickestCock, 4, some .int)
abbrev mX9_walkLength : Mt := (yX9_walkLength, cX9_walkLength, 7, some .int)
abbrev mX9_refusalOfIronSum : Mt := (yX9_refusalOfIronSum, cX9_refusalOfIronSum, 1, some .int)
abbrev mX9_findIron : Mt := (yX9_findIron, cX9_findIron, 5, some .int)
abbrev mX9_refusalOfDays : Mt := (yX9_refusalOfDays, cX9_refusalOfDays, 3, some .int)
abbrev mX9_findDays : Mt := (yX9_findDays, cX9_findDays, 4, none)
abbrev mX9_lawOn : Mt := (yX9_lawOn, cX9_lawOn, 5, some (.object "WoodenMains$Law"))
abbrev mX10_init : Mt := (yX10_init, cX10_init, 1, none)
abbrev mX10_in : Mt := (yX10_in, cX10_in, 3, some .boolean)
abbrev mX10_refuse : Mt := (yX10_refuse, cX10_refuse, 2, some .int)
abbrev mX10_least : Mt := (yX10_least, cX10_least, 2, some .int)
abbrev mX10_isStreet : Mt := (yX10_isStreet, cX10_isStreet, 2, some .boolean)
abbrev mX10_isHouse : Mt := (yX10_isHouse, cX10_isHouse, 2, some .boolean)
abbrev mX10_street : Mt := (yX10_street, cX10_street, 3, some .int)
abbrev mX10_set : Mt := (yX10_set, cX10_set, 4, some .int)
abbrev mX10_coal : Mt := (yX10_coal, cX10_coal, 2, some .int)
abbrev mX10_house : Mt := (yX10_house, cX10_house, 6, some .int)
abbrev mX10_row : Mt := (yX10_row, cX10_row, 4, some .int)
abbrev mX10_lose : Mt := (yX10_lose, cX10_lose, 3, some .int)
abbrev mX10_put : Mt := (yX10_put, cX10_put, 5, some .int)
abbrev mX10_copy : Mt := (yX10_copy, cX10_copy, 7, some .int)
abbrev mX10_lead : Mt := (yX10_lead, cX10_lead, 4, some .int)
abbrev mX10_useOf : Mt := (yX10_useOf, cX10_useOf, 3, some .int)
abbrev mX10_end : Mt := (yX10_end, cX10_end, 3, some .int)
abbrev mX10_clear : Mt := (yX10_clear, cX10_clear, 3, some .int)
abbrev mX10_draw : Mt := (yX10_draw, cX10_draw, 4, some .int)
abbrev mX10_brew : Mt := (yX10_brew, cX10_brew, 3, some .int)
abbrev mX10_turn : Mt := (yX10_turn, cX10_turn, 6, some .int)
abbrev mX10_isLet : Mt := (yX10_isLet, cX10_isLet, 4, some .boolean)
abbrev mX10_isOpen : Mt := (yX10_isOpen, cX10_isOpen, 5, some .boolean)
abbrev mX10_let : Mt := (yX10_let, cX10_let, 4, some .int)
abbrev mX10_isOnWay : Mt := (yX10_isOnWay, cX10_isOnWay, 4, some .boolean)
abbrev mX10_wayOf : Mt := (yX10_wayOf, cX10_wayOf, 6, some .int)
abbrev mX10_way : Mt := (yX10_way, cX10_way, 3, some .int)
abbrev mX10_clash : Mt := (yX10_clash, cX10_clash, 6, some .boolean)
abbrev mX10_clashes : Mt := (yX10_clashes, cX10_clashes, 5, some .int)
abbrev mX10_dripOf : Mt := (yX10_dripOf, cX10_dripOf, 2, some .int)
abbrev mX10_take : Mt := (yX10_take, cX10_take, 3, some .int)
abbrev mX10_fillHouse : Mt := (yX10_fillHouse, cX10_fillHouse, 2, none)
abbrev mX10_serve : Mt := (yX10_serve, cX10_serve, 4, none)
abbrev mX10_pass : Mt := (yX10_pass, cX10_pass, 5, none)
abbrev mX10_hours : Mt := (yX10_hours, cX10_hours, 3, some .int)
abbrev mX10_iron : Mt := (yX10_iron, cX10_iron, 3, some .int)
abbrev mX10_renew : Mt := (yX10_renew, cX10_renew, 3, some .int)
abbrev mX10_stand : Mt := (yX10_stand, cX10_stand, 4, some .int)
abbrev mX10_fire : Mt := (yX10_fire, cX10_fire, 10, some .int)
abbrev mX10_reading : Mt := (yX10_reading, cX10_reading, 5, some .int)
abbrev mX10_span : Mt := (yX10_span, cX10_span, 6, some .int)
abbrev mX10_worthOf : Mt := (yX10_worthOf, cX10_worthOf, 4, some .int)
abbrev mX10_ones : Mt := (yX10_ones, cX10_ones, 3, some .int)
abbrev mX10_findBest : Mt := (yX10_findBest, cX10_findBest, 8, none)
abbrev mX10_best : Mt := (yX10_best, cX10_best, 2, some .int)
abbrev mX10_bestWorth : Mt := (yX10_bestWorth, cX10_bestWorth, 2, some .int)
abbrev mX10_needOf : Mt := (yX10_needOf, cX10_needOf, 4, some .int)
abbrev mX10_wrongDays : Mt := (yX10_wrongDays, cX10_wrongDays, 3, some .int)
abbrev mX10_findDays : Mt := (yX10_findDays, cX10_findDays, 9, some .int)
abbrev mX10_days : Mt := (yX10_days, cX10_days, 4, some .int)
abbrev mX10_dayOf : Mt := (yX10_dayOf, cX10_dayOf, 7, some .int)
abbrev mX10_law : Mt := (yX10_law, cX10_law, 5, some .int)
abbrev mX10_rate : Mt := (yX10_rate, cX10_rate, 5, some .int)
abbrev mX10_houseOf : Mt := (yX10_houseOf, cX10_houseOf, 3, some .int)
abbrev mX10_streetOf : Mt := (yX10_streetOf, cX10_streetOf, 3, some .int)
abbrev mX10_count : Mt := (yX10_count, cX10_count, 2, some .int)
abbrev mJ6_numberOfLeadingZeros_0f7a4 : Mt := (yJ6_numberOfLeadingZeros_0f7a4, cJ6_numberOfLeadingZeros_0f7a4, 2, some .int)
abbrev mJ6_numberOfTrailingZeros_0f7a4 : Mt := (yJ6_numberOfTrailingZeros_0f7a4, cJ6_numberOfTrailingZeros_0f7a4, 2, some .int)
abbrev mJ6_bitCount_0f7a4 : Mt := (yJ6_bitCount_0f7a4, cJ6_bitCount_0f7a4, 1, some .int)
abbrev mJ9_floorMod_7cf53 : Mt := (yJ9_floorMod_7cf53, cJ9_floorMod_7cf53, 3, some .int)
abbrev mJ9_max_7cf53 : Mt := (yJ9_max_7cf53, cJ9_max_7cf53, 2, some .int)
abbrev mJ9_min_7cf53 : Mt := (yJ9_min_7cf53, cJ9_min_7cf53, 2, some .int)
abbrev mJxa1e45_init_da8c8 : Mt := (yJxa1e45_init_da8c8, cJxa1e45_init_da8c8, 1, none)
abbrev mJxc12de_init_da8c8 : Mt := (yJxc12de_init_da8c8, cJxc12de_init_da8c8, 1, none)
abbrev mJx4a65c_init_da8c8 : Mt := (yJx4a65c_init_da8c8, cJx4a65c_init_da8c8, 1, none)
abbrev mJx4a65c_grow_92f84 : Mt := (yJx4a65c_grow_92f84, cJx4a65c_grow_92f84, 4, some (.array (.object "java/lang/Object")))
abbrev mJx4a65c_grow_d5877 : Mt := (yJx4a65c_grow_d5877, cJx4a65c_grow_d5877, 1, some (.array (.object "java/lang/Object")))
abbrev mJx4a65c_size_8abf5 : Mt := (yJx4a65c_size_8abf5, cJx4a65c_size_8abf5, 1, some .int)
abbrev mJx4a65c_elementData_915e3 : Mt := (yJx4a65c_elementData_915e3, cJx4a65c_elementData_915e3, 2, some (.object "java/lang/Object"))
abbrev mJx4a65c_get_915e3 : Mt := (yJx4a65c_get_915e3, cJx4a65c_get_915e3, 2, some (.object "java/lang/Object"))
abbrev mJx4a65c_add_72be8 : Mt := (yJx4a65c_add_72be8, cJx4a65c_add_72be8, 4, none)
abbrev mJx4a65c_add_9ea2d : Mt := (yJx4a65c_add_9ea2d, cJx4a65c_add_9ea2d, 2, some .boolean)
abbrev mJ7_fill_53178 : Mt := (yJ7_fill_53178, cJ7_fill_53178, 4, none)
abbrev mJ7_copyOf_1904c : Mt := (yJ7_copyOf_1904c, cJ7_copyOf_1904c, 2, some (.array (.object "java/lang/Object")))
abbrev mJ7_copyOf_6403c : Mt := (yJ7_copyOf_6403c, cJ7_copyOf_6403c, 4, some (.array (.object "java/lang/Object")))
abbrev mJ15_checkIndex_7cf53 : Mt := (yJ15_checkIndex_7cf53, cJ15_checkIndex_7cf53, 2, some .int)
abbrev mJ8_newLength_cabcc : Mt := (yJ8_newLength_cabcc, cJ8_newLength_cabcc, 4, some .int)
abbrev mJ8_hugeLength_7cf53 : Mt := (yJ8_hugeLength_7cf53, cJ8_hugeLength_7cf53, 3, some .int)
abbrev mJ3_checkIndex_8e157 : Mt := (yJ3_checkIndex_8e157, cJ3_checkIndex_8e157, 3, some .int)
set_option maxRecDepth 20000 in
theorem mwX0_init : MWd 0 mX0_init := ⟨tbW 1 117 (by first | rfl | decide +kernel) (by decide +kernel), tbW 1 8 (by first | rfl | decide +kernel) (by decide +kernel), ⟨by decide +kernel, by decide +kernel, by decide +kernel⟩, by decide⟩
set_option maxRecDepth 20000 in
theorem mwX0_begin : MWd 1 mX0_begin := ⟨tbW 4 25 (by first | rfl | decide +kernel) (by decide +kernel), tbW 1 8 (by first | rfl | decide +kernel) (by decide +kernel), ⟨by decide +kernel, by decide +kernel, by decide +kernel⟩, by decide⟩
set_option maxRecDepth 20000 in
theorem mwX0_tell : MWd 1 mX0_tell := ⟨tbW 4 34 (by first | rfl | decide +kernel) (by decide +kernel), tbW 1 8 (by first | rfl | decide +kernel) (by decide +kernel), ⟨by decide +kernel, by decide +kernel, by decide +kernel⟩, by decide⟩
set_option maxRecDepth 20000 in
theorem mwX0_bestDay : MWd 1 mX0_bestDay := ⟨tbW 4 57 (by first | rfl | decide +kernel) (by decide +kernel), tbW 1 8 (by first | rfl | decide +kernel) (by decide +kernel), ⟨by decide +kernel, by decide +kernel, by decide +kernel⟩, by decide⟩
set_option maxRecDepth 20000 in
theorem mwX0_search : MWd 0 mX0_search := ⟨tbW 4 38 (by first | rfl | decide +kernel) (by decide +kernel), tbW 1 8 (by first | rfl | decide +kernel) (by decide +kernel), ⟨by decide +kernel, by decide +kernel, by decide +kernel⟩, by decide⟩
set_option maxRecDepth 20000 in
theorem mwX0_tryFrom : MWd 2 mX0_tryFrom := ⟨tbW 4 43 (by first | rfl | decide +kernel) (by decide +kernel), tbW 1 8 (by first | rfl | decide +kernel) (by decide +kernel), ⟨by decide +kernel, by decide +kernel, by decide +kernel⟩, by decide⟩
set_option maxRecDepth 20000 in
theorem mwX0_weigh : MWd 0 mX0_weigh := ⟨tbW 4 47 (by first | rfl | decide +kernel) (by decide +kernel), tbW 1 8 (by first | rfl | decide +kernel) (by decide +kernel), ⟨by decide +kernel, by decide +kernel, by decide +kernel⟩, by decide⟩
set_option maxRecDepth 20000 in
theorem mwX1_init : MWd 5 mX1_init := ⟨tbW 2 132 (by first | rfl | decide +kernel) (by decide +kernel), tbW 1 18 (by first | rfl | decide +kernel) (by decide +kernel), ⟨by decide +kernel, by decide +kernel, by decide +kernel⟩, by decide⟩
set_option maxRecDepth 20000 in
theorem mwX1_roomInCistern : MWd 0 mX1_roomInCistern := ⟨tbW 3 139 (by first | rfl | decide +kernel) (by decide +kernel), tbW 1 18 (by first | rfl | decide +kernel) (by decide +kernel), ⟨by decide +kernel, by decide +kernel, by decide +kernel⟩, by decide⟩
set_option maxRecDepth 20000 in
theorem mwX1_takeFrom : MWd 2 mX1_takeFrom := ⟨tbW 3 134 (by first | rfl | decide +kernel) (by decide +kernel), tbW 1 18 (by first | rfl | decide +kernel) (by decide +kernel), ⟨by decide +kernel, by decide +kernel, by decide +kernel⟩, by decide⟩
set_option maxRecDepth 20000 in
theorem mwX1_use : MWd 1 mX1_use := ⟨tbW 3 151 (by first | rfl | decide +kernel) (by decide +kernel), tbW 1 18 (by first | rfl | decide +kernel) (by decide +kernel), ⟨by decide +kernel, by decide +kernel, by decide +kernel⟩, by decide⟩
set_option maxRecDepth 20000 in
theorem mwX2_init : MWd 0 mX2_init := ⟨tbW 1 104 (by first | rfl | decide +kernel) (by decide +kernel), tbW 1 7 (by first | rfl | decide +kernel) (by decide +kernel), ⟨by decide +kernel, by decide +kernel, by decide +kernel⟩, by decide⟩
set_option maxRecDepth 20000 in
theorem mwX2_tell : MWd 3 mX2_tell := ⟨tbW 3 232 (by first | rfl | decide +kernel) (by decide +kernel), tbW 1 7 (by first | rfl | decide +kernel) (by decide +kernel), ⟨by decide +kernel, by decide +kernel, by decide +kernel⟩, by decide⟩
set_option maxRecDepth 20000 in
theorem mwX2_worthOf : MWd 1 mX2_worthOf := ⟨tbW 4 9 (by first | rfl | decide +kernel) (by decide +kernel), tbW 1 7 (by first | rfl | decide +kernel) (by decide +kernel), ⟨by decide +kernel, by decide +kernel, by decide +kernel⟩, by decide⟩
set_option maxRecDepth 20000 in
theorem mwX2_bestSet : MWd 2 mX2_bestSet := ⟨tbW 3 236 (by first | rfl | decide +kernel) (by decide +kernel), tbW 1 7 (by first | rfl | decide +kernel) (by decide +kernel), ⟨by decide +kernel, by decide +kernel, by decide +kernel⟩, by decide⟩
set_option maxRecDepth 20000 in
theorem mwX2_isBetter : MWd 2 mX2_isBetter := ⟨tbW 4 0 (by first | rfl | decide +kernel) (by decide +kernel), tbW 1 7 (by first | rfl | decide +kernel) (by decide +kernel), ⟨by decide +kernel, by decide +kernel, by decide +kernel⟩, by decide⟩
set_option maxRecDepth 20000 in
theorem mwX3_init : MWd 4 mX3_init := ⟨tbW 4 66 (by first | rfl | decide +kernel) (by decide +kernel), tbW 1 21 (by first | rfl | decide +kernel) (by decide +kernel), ⟨by decide +kernel, by decide +kernel, by decide +kernel⟩, by decide⟩
set_option maxRecDepth 20000 in
theorem mwX3_rateFor : MWd 1 mX3_rateFor := ⟨tbW 4 93 (by first | rfl | decide +kernel) (by decide +kernel), tbW 1 21 (by first | rfl | decide +kernel) (by decide +kernel), ⟨by decide +kernel, by decide +kernel, by decide +kernel⟩, by decide⟩
set_option maxRecDepth 20000 in
theorem mwX4_init : MWd 0 mX4_init := ⟨tbW 1 148 (by first | rfl | decide +kernel) (by decide +kernel), tbW 1 9 (by first | rfl | decide +kernel) (by decide +kernel), ⟨by decide +kernel, by decide +kernel, by decide +kernel⟩, by decide⟩
set_option maxRecDepth 20000 in
theorem mwX4_isMissing : MWd 0 mX4_isMissing := ⟨tbW 2 196 (by first | rfl | decide +kernel) (by decide +kernel), tbW 1 9 (by first | rfl | decide +kernel) (by decide +kernel), ⟨by decide +kernel, by decide +kernel, by decide +kernel⟩, by decide⟩
set_option maxRecDepth 20000 in
theorem mwX4_forget : MWd 0 mX4_forget := ⟨tbW 2 200 (by first | rfl | decide +kernel) (by decide +kernel), tbW 1 9 (by first | rfl | decide +kernel) (by decide +kernel), ⟨by decide +kernel, by decide +kernel, by decide +kernel⟩, by decide⟩
set_option maxRecDepth 20000 in
theorem mwX4_makeAnew : MWd 1 mX4_makeAnew := ⟨tbW 2 185 (by first | rfl | decide +kernel) (by decide +kernel), tbW 1 9 (by first | rfl | decide +kernel) (by decide +kernel), ⟨by decide +kernel, by decide +kernel, by decide +kernel⟩, by decide⟩
set_option maxRecDepth 20000 in
theorem mwX4_hasPlaces : MWd 2 mX4_hasPlaces := ⟨tbW 2 208 (by first | rfl | decide +kernel) (by decide +kernel), tbW 1 9 (by first | rfl | decide +kernel) (by decide +kernel), ⟨by decide +kernel, by decide +kernel, by decide +kernel⟩, by decide⟩
set_option maxRecDepth 20000 in
theorem mwX5_init : MWd 3 mX5_init := ⟨tbW 2 7 (by first | rfl | decide +kernel) (by decide +kernel), tbW 1 13 (by first | rfl | decide +kernel) (by decide +kernel), ⟨by decide +kernel, by decide +kernel, by decide +kernel⟩, by decide⟩
set_option maxRecDepth 20000 in
theorem mwX5_dripIn : MWd 1 mX5_dripIn := ⟨tbW 3 113 (by first | rfl | decide +kernel) (by decide +kernel), tbW 1 13 (by first | rfl | decide +kernel) (by decide +kernel), ⟨by decide +kernel, by decide +kernel, by decide +kernel⟩, by decide⟩
set_option maxRecDepth 20000 in
theorem mwX5_layAnew : MWd 1 mX5_layAnew := ⟨tbW 3 159 (by first | rfl | decide +kernel) (by decide +kernel), tbW 1 13 (by first | rfl | decide +kernel) (by decide +kernel), ⟨by decide +kernel, by decide +kernel, by decide +kernel⟩, by decide⟩
set_option maxRecDepth 20000 in
theorem mwX5_setAtEnd : MWd 2 mX5_setAtEnd := ⟨tbW 2 234 (by first | rfl | decide +kernel) (by decide +kernel), tbW 1 13 (by first | rfl | decide +kernel) (by decide +kernel), ⟨by decide +kernel, by decide +kernel, by decide +kernel⟩, by decide⟩
set_option maxRecDepth 20000 in
theorem mwX5_hemIn : MWd 2 mX5_hemIn := ⟨tbW 3 208 (by first | rfl | decide +kernel) (by decide +kernel), tbW 1 13 (by first | rfl | decide +kernel) (by decide +kernel), ⟨by decide +kernel, by decide +kernel, by decide +kernel⟩, by decide⟩
set_option maxRecDepth 20000 in
theorem mwX5_admit : MWd 1 mX5_admit := ⟨tbW 2 173 (by first | rfl | decide +kernel) (by decide +kernel), tbW 1 13 (by first | rfl | decide +kernel) (by decide +kernel), ⟨by decide +kernel, by decide +kernel, by decide +kernel⟩, by decide⟩
set_option maxRecDepth 20000 in
theorem mwX5_takeFrom : MWd 2 mX5_takeFrom := ⟨tbW 3 121 (by first | rfl | decide +kernel) (by decide +kernel), tbW 1 13 (by first | rfl | decide +kernel) (by decide +kernel), ⟨by decide +kernel, by decide +kernel, by decide +kernel⟩, by decide⟩
set_option maxRecDepth 20000 in
theorem mwX5_takeByPlug : MWd 2 mX5_takeByPlug := ⟨tbW 3 125 (by first | rfl | decide +kernel) (by decide +kernel), tbW 1 13 (by first | rfl | decide +kernel) (by decide +kernel), ⟨by decide +kernel, by decide +kernel, by decide +kernel⟩, by decide⟩
set_option maxRecDepth 20000 in
theorem mwX5_takeByTun : MWd 2 mX5_takeByTun := ⟨tbW 3 130 (by first | rfl | decide +kernel) (by decide +kernel), tbW 1 13 (by first | rfl | decide +kernel) (by decide +kernel), ⟨by decide +kernel, by decide +kernel, by decide +kernel⟩, by decide⟩
set_option maxRecDepth 20000 in
theorem mwX5_roomNow : MWd 0 mX5_roomNow := ⟨tbW 4 29 (by first | rfl | decide +kernel) (by decide +kernel), tbW 1 13 (by first | rfl | decide +kernel) (by decide +kernel), ⟨by decide +kernel, by decide +kernel, by decide +kernel⟩, by decide⟩
set_option maxRecDepth 20000 in
theorem mwX6_init : MWd 0 mX6_init := ⟨tbW 1 76 (by first | rfl | decide +kernel) (by decide +kernel), tbW 1 6 (by first | rfl | decide +kernel) (by decide +kernel), ⟨by decide +kernel, by decide +kernel, by decide +kernel⟩, by decide⟩
set_option maxRecDepth 20000 in
theorem mwX7_init : MWd 4 mX7_init := ⟨tbW 3 18 (by first | rfl | decide +kernel) (by decide +kernel), tbW 1 19 (by first | rfl | decide +kernel) (by decide +kernel), ⟨by decide +kernel, by decide +kernel, by decide +kernel⟩, by decide⟩
set_option maxRecDepth 20000 in
theorem mwX7_hoursUntil : MWd 1 mX7_hoursUntil := ⟨tbW 3 82 (by first | rfl | decide +kernel) (by decide +kernel), tbW 1 19 (by first | rfl | decide +kernel) (by decide +kernel), ⟨by decide +kernel, by decide +kernel, by decide +kernel⟩, by decide⟩
set_option maxRecDepth 20000 in
theorem mwX7_sharesHourWith : MWd 1 mX7_sharesHourWith := ⟨tbW 3 78 (by first | rfl | decide +kernel) (by decide +kernel), tbW 1 19 (by first | rfl | decide +kernel) (by decide +kernel), ⟨by decide +kernel, by decide +kernel, by decide +kernel⟩, by decide⟩
set_option maxRecDepth 20000 in
theorem mwX8_init : MWd 0 mX8_init := ⟨tbW 1 62 (by first | rfl | decide +kernel) (by decide +kernel), tbW 1 5 (by first | rfl | decide +kernel) (by decide +kernel), ⟨by decide +kernel, by decide +kernel, by decide +kernel⟩, by decide⟩
set_option maxRecDepth 20000 in
theorem mwX8_letStreets : MWd 1 mX8_letStreets := ⟨tbW 3 61 (by first | rfl | decide +kernel) (by decide +kernel), tbW 1 5 (by first | rfl | decide +kernel) (by decide +kernel), ⟨by decide +kernel, by decide +kernel, by decide +kernel⟩, by decide⟩
set_option maxRecDepth 20000 in
theorem mwX8_openStreets : MWd 1 mX8_openStreets := ⟨tbW 3 65 (by first | rfl | decide +kernel) (by decide +kernel), tbW 1 5 (by first | rfl | decide +kernel) (by decide +kernel), ⟨by decide +kernel, by decide +kernel, by decide +kernel⟩, by decide⟩
set_option maxRecDepth 20000 in
theorem mwX8_hoursOpen : MWd 1 mX8_hoursOpen := ⟨tbW 3 228 (by first | rfl | decide +kernel) (by decide +kernel), tbW 1 5 (by first | rfl | decide +kernel) (by decide +kernel), ⟨by decide +kernel, by decide +kernel, by decide +kernel⟩, by decide⟩
set_option maxRecDepth 20000 in
theorem mwX8_add : MWd 2 mX8_add := ⟨tbW 3 41 (by first | rfl | decide +kernel) (by decide +kernel), tbW 1 5 (by first | rfl | decide +kernel) (by decide +kernel), ⟨by decide +kernel, by decide +kernel, by decide +kernel⟩, by decide⟩
set_option maxRecDepth 20000 in
theorem mwX8_openOf : MWd 2 mX8_openOf := ⟨tbW 3 47 (by first | rfl | decide +kernel) (by decide +kernel), tbW 1 5 (by first | rfl | decide +kernel) (by decide +kernel), ⟨by decide +kernel, by decide +kernel, by decide +kernel⟩, by decide⟩
set_option maxRecDepth 20000 in
theorem mwX9_init : MWd 0 mX9_init := ⟨tbW 1 26 (by first | rfl | decide +kernel) (by decide +kernel), tbW 1 1 (by first | rfl | decide +kernel) (by decide +kernel), ⟨by decide +kernel, by decide +kernel, by decide +kernel⟩, by decide⟩
set_option maxRecDepth 20000 in
theorem mwX9_street : MWd 2 mX9_street := ⟨tbW 1 208 (by first | rfl | decide +kernel) (by decide +kernel), tbW 1 1 (by first | rfl | decide +kernel) (by decide +kernel), ⟨by decide +kernel, by decide +kernel, by decide +kernel⟩, by decide⟩
set_option maxRecDepth 20000 in
theorem mwX9_set : MWd 2 mX9_set := ⟨tbW 2 114 (by first | rfl | decide +kernel) (by decide +kernel), tbW 1 1 (by first | rfl | decide +kernel) (by decide +kernel), ⟨by decide +kernel, by decide +kernel, by decide +kernel⟩, by decide⟩
set_option maxRecDepth 20000 in
theorem mwX9_coal : MWd 1 mX9_coal := ⟨tbW 2 122 (by first | rfl | decide +kernel) (by decide +kernel), tbW 1 1 (by first | rfl | decide +kernel) (by decide +kernel), ⟨by decide +kernel, by decide +kernel, by decide +kernel⟩, by decide⟩
set_option maxRecDepth 20000 in
theorem mwX9_house : MWd 5 mX9_house := ⟨tbW 2 127 (by first | rfl | decide +kernel) (by decide +kernel), tbW 1 1 (by first | rfl | decide +kernel) (by decide +kernel), ⟨by decide +kernel, by decide +kernel, by decide +kernel⟩, by decide⟩
set_option maxRecDepth 20000 in
theorem mwX9_row : MWd 2 mX9_row := ⟨tbW 2 177 (by first | rfl | decide +kernel) (by decide +kernel), tbW 1 1 (by first | rfl | decide +kernel) (by decide +kernel), ⟨by decide +kernel, by decide +kernel, by decide +kernel⟩, by decide⟩
set_option maxRecDepth 20000 in
theorem mwX9_lose : MWd 1 mX9_lose := ⟨tbW 2 192 (by first | rfl | decide +kernel) (by decide +kernel), tbW 1 1 (by first | rfl | decide +kernel) (by decide +kernel), ⟨by decide +kernel, by decide +kernel, by decide +kernel⟩, by decide⟩
set_option maxRecDepth 20000 in
theorem mwX9_put : MWd 3 mX9_put := ⟨tbW 2 204 (by first | rfl | decide +kernel) (by decide +kernel), tbW 1 1 (by first | rfl | decide +kernel) (by decide +kernel), ⟨by decide +kernel, by decide +kernel, by decide +kernel⟩, by decide⟩
set_option maxRecDepth 20000 in
theorem mwX9_copy : MWd 5 mX9_copy := ⟨tbW 2 212 (by first | rfl | decide +kernel) (by decide +kernel), tbW 1 1 (by first | rfl | decide +kernel) (by decide +kernel), ⟨by decide +kernel, by decide +kernel, by decide +kernel⟩, by decide⟩
set_option maxRecDepth 20000 in
theorem mwX9_lead : MWd 2 mX9_lead := ⟨tbW 2 217 (by first | rfl | decide +kernel) (by decide +kernel), tbW 1 1 (by first | rfl | decide +kernel) (by decide +kernel), ⟨by decide +kernel, by decide +kernel, by decide +kernel⟩, by decide⟩
set_option maxRecDepth 20000 in
theorem mwX9_end : MWd 2 mX9_end := ⟨tbW 2 230 (by first | rfl | decide +kernel) (by decide +kernel), tbW 1 1 (by first | rfl | decide +kernel) (by decide +kernel), ⟨by decide +kernel, by decide +kernel, by decide +kernel⟩, by decide⟩
set_option maxRecDepth 20000 in
theorem mwX9_clear : MWd 1 mX9_clear := ⟨tbW 2 238 (by first | rfl | decide +kernel) (by decide +kernel), tbW 1 1 (by first | rfl | decide +kernel) (by decide +kernel), ⟨by decide +kernel, by decide +kernel, by decide +kernel⟩, by decide⟩
set_option maxRecDepth 20000 in
theorem mwX9_draw : MWd 2 mX9_draw := ⟨tbW 3 2 (by first | rfl | decide +kernel) (by decide +kernel), tbW 1 1 (by first | rfl | decide +kernel) (by decide +kernel), ⟨by decide +kernel, by decide +kernel, by decide +kernel⟩, by decide⟩
set_option maxRecDepth 20000 in
theorem mwX9_brew : MWd 2 mX9_brew := ⟨tbW 3 6 (by first | rfl | decide +kernel) (by decide +kernel), tbW 1 1 (by first | rfl | decide +kernel) (by decide +kernel), ⟨by decide +kernel, by decide +kernel, by decide +kernel⟩, by decide⟩
set_option maxRecDepth 20000 in
theorem mwX9_turn : MWd 5 mX9_turn := ⟨tbW 3 10 (by first | rfl | decide +kernel) (by decide +kernel), tbW 1 1 (by first | rfl | decide +kernel) (by decide +kernel), ⟨by decide +kernel, by decide +kernel, by decide +kernel⟩, by decide⟩
set_option maxRecDepth 20000 in
theorem mwX9_let : MWd 3 mX9_let := ⟨tbW 3 57 (by first | rfl | decide +kernel) (by decide +kernel), tbW 1 1 (by first | rfl | decide +kernel) (by decide +kernel), ⟨by decide +kernel, by decide +kernel, by decide +kernel⟩, by decide⟩
set_option maxRecDepth 20000 in
theorem mwX9_clashes : MWd 1 mX9_clashes := ⟨tbW 3 70 (by first | rfl | decide +kernel) (by decide +kernel), tbW 1 1 (by first | rfl | decide +kernel) (by decide +kernel), ⟨by decide +kernel, by decide +kernel, by decide +kernel⟩, by decide⟩
set_option maxRecDepth 20000 in
theorem mwX9_hours : MWd 1 mX9_hours := ⟨tbW 3 97 (by first | rfl | decide +kernel) (by decide +kernel), tbW 1 1 (by first | rfl | decide +kernel) (by decide +kernel), ⟨by decide +kernel, by decide +kernel, by decide +kernel⟩, by decide⟩
set_option maxRecDepth 20000 in
theorem mwX9_iron : MWd 1 mX9_iron := ⟨tbW 3 155 (by first | rfl | decide +kernel) (by decide +kernel), tbW 1 1 (by first | rfl | decide +kernel) (by decide +kernel), ⟨by decide +kernel, by decide +kernel, by decide +kernel⟩, by decide⟩
set_option maxRecDepth 20000 in
theorem mwX9_renew : MWd 1 mX9_renew := ⟨tbW 3 163 (by first | rfl | decide +kernel) (by decide +kernel), tbW 1 1 (by first | rfl | decide +kernel) (by decide +kernel), ⟨by decide +kernel, by decide +kernel, by decide +kernel⟩, by decide⟩
set_option maxRecDepth 20000 in
theorem mwX9_stand : MWd 2 mX9_stand := ⟨tbW 3 167 (by first | rfl | decide +kernel) (by decide +kernel), tbW 1 1 (by first | rfl | decide +kernel) (by decide +kernel), ⟨by decide +kernel, by decide +kernel, by decide +kernel⟩, by decide⟩
set_option maxRecDepth 20000 in
theorem mwX9_way : MWd 2 mX9_way := ⟨tbW 3 171 (by first | rfl | decide +kernel) (by decide +kernel), tbW 1 1 (by first | rfl | decide +kernel) (by decide +kernel), ⟨by decide +kernel, by decide +kernel, by decide +kernel⟩, by decide⟩
set_option maxRecDepth 20000 in
theorem mwX9_fire : MWd 2 mX9_fire := ⟨tbW 3 175 (by first | rfl | decide +kernel) (by decide +kernel), tbW 1 1 (by first | rfl | decide +kernel) (by decide +kernel), ⟨by decide +kernel, by decide +kernel, by decide +kernel⟩, by decide⟩
set_option maxRecDepth 20000 in
theorem mwX9_reading : MWd 4 mX9_reading := ⟨tbW 3 204 (by first | rfl | decide +kernel) (by decide +kernel), tbW 1 1 (by first | rfl | decide +kernel) (by decide +kernel), ⟨by decide +kernel, by decide +kernel, by decide +kernel⟩, by decide⟩
set_option maxRecDepth 20000 in
theorem mwX9_span : MWd 2 mX9_span := ⟨tbW 3 213 (by first | rfl | decide +kernel) (by decide +kernel), tbW 1 1 (by first | rfl | decide +kernel) (by decide +kernel), ⟨by decide +kernel, by decide +kernel, by decide +kernel⟩, by decide⟩
set_option maxRecDepth 20000 in
theorem mwX9_best : MWd 1 mX9_best := ⟨tbW 3 217 (by first | rfl | decide +kernel) (by decide +kernel), tbW 1 1 (by first | rfl | decide +kernel) (by decide +kernel), ⟨by decide +kernel, by decide +kernel, by decide +kernel⟩, by decide⟩
set_option maxRecDepth 20000 in
theorem mwX9_bestWorth : MWd 1 mX9_bestWorth := ⟨tbW 4 5 (by first | rfl | decide +kernel) (by decide +kernel), tbW 1 1 (by first | rfl | decide +kernel) (by decide +kernel), ⟨by decide +kernel, by decide +kernel, by decide +kernel⟩, by decide⟩
set_option maxRecDepth 20000 in
theorem mwX9_days : MWd 2 mX9_days := ⟨tbW 4 13 (by first | rfl | decide +kernel) (by decide +kernel), tbW 1 1 (by first | rfl | decide +kernel) (by decide +kernel), ⟨by decide +kernel, by decide +kernel, by decide +kernel⟩, by decide⟩
set_option maxRecDepth 20000 in
theorem mwX9_dayOf : MWd 3 mX9_dayOf := ⟨tbW 4 53 (by first | rfl | decide +kernel) (by decide +kernel), tbW 1 1 (by first | rfl | decide +kernel) (by decide +kernel), ⟨by decide +kernel, by decide +kernel, by decide +kernel⟩, by decide⟩
set_option maxRecDepth 20000 in
theorem mwX9_law : MWd 4 mX9_law := ⟨tbW 4 61 (by first | rfl | decide +kernel) (by decide +kernel), tbW 1 1 (by first | rfl | decide +kernel) (by decide +kernel), ⟨by decide +kernel, by decide +kernel, by decide +kernel⟩, by decide⟩
set_option maxRecDepth 20000 in
theorem mwX9_rate : MWd 2 mX9_rate := ⟨tbW 4 85 (by first | rfl | decide +kernel) (by decide +kernel), tbW 1 1 (by first | rfl | decide +kernel) (by decide +kernel), ⟨by decide +kernel, by decide +kernel, by decide +kernel⟩, by decide⟩
set_option maxRecDepth 20000 in
theorem mwX9_houseOf : MWd 2 mX9_houseOf := ⟨tbW 4 97 (by first | rfl | decide +kernel) (by decide +kernel), tbW 1 1 (by first | rfl | decide +kernel) (by decide +kernel), ⟨by decide +kernel, by decide +kernel, by decide +kernel⟩, by decide⟩
set_option maxRecDepth 20000 in
theorem mwX9_streetOf : MWd 2 mX9_streetOf := ⟨tbW 4 101 (by first | rfl | decide +kernel) (by decide +kernel), tbW 1 1 (by first | rfl | decide +kernel) (by decide +kernel), ⟨by decide +kernel, by decide +kernel, by decide +kernel⟩, by decide⟩
set_option maxRecDepth 20000 in
theorem mwX9_count : MWd 1 mX9_count := ⟨tbW 4 105 (by first | rfl | decide +kernel) (by decide +kernel), tbW 1 1 (by first | rfl | decide +kernel) (by decide +kernel), ⟨by decide +kernel, by decide +kernel, by decide +kernel⟩, by decide⟩
set_option maxRecDepth 20000 in
theorem mwX9_refuse : MWd 1 mX9_refuse := ⟨tbW 1 239 (by first | rfl | decide +kernel) (by decide +kernel), tbW 1 1 (by first | rfl | decide +kernel) (by decide +kernel), ⟨by decide +kernel, by decide +kernel, by decide +kernel⟩, by decide⟩
set_option maxRecDepth 20000 in
theorem mwX9_refuseAside : MWd 1 mX9_refuseAside := ⟨tbW 2 225 (by first | rfl | decide +kernel) (by decide +kernel), tbW 1 1 (by first | rfl | decide +kernel) (by decide +kernel), ⟨by decide +kernel, by decide +kernel, by decide +kernel⟩, by decide⟩
set_option maxRecDepth 20000 in
theorem mwX9_streetAt : MWd 1 mX9_streetAt := ⟨tbW 1 216 (by first | rfl | decide +kernel) (by decide +kernel), tbW 1 1 (by first | rfl | decide +kernel) (by decide +kernel), ⟨by decide +kernel, by decide +kernel, by decide +kernel⟩, by decide⟩
set_option maxRecDepth 20000 in
theorem mwX9_houseAt : MWd 1 mX9_houseAt := ⟨tbW 2 221 (by first | rfl | decide +kernel) (by decide +kernel), tbW 1 1 (by first | rfl | decide +kernel) (by decide +kernel), ⟨by decide +kernel, by decide +kernel, by decide +kernel⟩, by decide⟩
set_option maxRecDepth 20000 in
theorem mwX9_rowAt : MWd 1 mX9_rowAt := ⟨tbW 2 181 (by first | rfl | decide +kernel) (by decide +kernel), tbW 1 1 (by first | rfl | decide +kernel) (by decide +kernel), ⟨by decide +kernel, by decide +kernel, by decide +kernel⟩, by decide⟩
set_option maxRecDepth 20000 in
theorem mwX9_isCock : MWd 1 mX9_isCock := ⟨tbW 3 13 (by first | rfl | decide +kernel) (by decide +kernel), tbW 1 1 (by first | rfl | decide +kernel) (by decide +kernel), ⟨by decide +kernel, by decide +kernel, by decide +kernel⟩, by decide⟩
set_option maxRecDepth 20000 in
theorem mwX9_isPlace : MWd 1 mX9_isPlace := ⟨tbW 1 212 (by first | rfl | decide +kernel) (by decide +kernel), tbW 1 1 (by first | rfl | decide +kernel) (by decide +kernel), ⟨by decide +kernel, by decide +kernel, by decide +kernel⟩, by decide⟩
set_option maxRecDepth 20000 in
theorem mwX9_weekNow : MWd 0 mX9_weekNow := ⟨tbW 2 4 (by first | rfl | decide +kernel) (by decide +kernel), tbW 1 1 (by first | rfl | decide +kernel) (by decide +kernel), ⟨by decide +kernel, by decide +kernel, by decide +kernel⟩, by decide⟩
set_option maxRecDepth 20000 in
theorem mwX9_hasStreet : MWd 2 mX9_hasStreet := ⟨tbW 3 53 (by first | rfl | decide +kernel) (by decide +kernel), tbW 1 1 (by first | rfl | decide +kernel) (by decide +kernel), ⟨by decide +kernel, by decide +kernel, by decide +kernel⟩, by decide⟩
set_option maxRecDepth 20000 in
theorem mwX9_passHour : MWd 0 mX9_passHour := ⟨tbW 3 101 (by first | rfl | decide +kernel) (by decide +kernel), tbW 1 1 (by first | rfl | decide +kernel) (by decide +kernel), ⟨by decide +kernel, by decide +kernel, by decide +kernel⟩, by decide⟩
set_option maxRecDepth 20000 in
theorem mwX9_pump : MWd 0 mX9_pump := ⟨tbW 3 105 (by first | rfl | decide +kernel) (by decide +kernel), tbW 1 1 (by first | rfl | decide +kernel) (by decide +kernel), ⟨by decide +kernel, by decide +kernel, by decide +kernel⟩, by decide⟩
set_option maxRecDepth 20000 in
theorem mwX9_leak : MWd 2 mX9_leak := ⟨tbW 3 109 (by first | rfl | decide +kernel) (by decide +kernel), tbW 1 1 (by first | rfl | decide +kernel) (by decide +kernel), ⟨by decide +kernel, by decide +kernel, by decide +kernel⟩, by decide⟩
set_option maxRecDepth 20000 in
theorem mwX9_serve : MWd 2 mX9_serve := ⟨tbW 3 117 (by first | rfl | decide +kernel) (by decide +kernel), tbW 1 1 (by first | rfl | decide +kernel) (by decide +kernel), ⟨by decide +kernel, by decide +kernel, by decide +kernel⟩, by decide⟩
set_option maxRecDepth 20000 in
theorem mwX9_drink : MWd 0 mX9_drink := ⟨tbW 3 143 (by first | rfl | decide +kernel) (by decide +kernel), tbW 1 1 (by first | rfl | decide +kernel) (by decide +kernel), ⟨by decide +kernel, by decide +kernel, by decide +kernel⟩, by decide⟩
set_option maxRecDepth 20000 in
theorem mwX9_useNow : MWd 1 mX9_useNow := ⟨tbW 3 147 (by first | rfl | decide +kernel) (by decide +kernel), tbW 1 1 (by first | rfl | decide +kernel) (by decide +kernel), ⟨by decide +kernel, by decide +kernel, by decide +kernel⟩, by decide⟩
set_option maxRecDepth 20000 in
theorem mwX9_stepsBetween : MWd 2 mX9_stepsBetween := ⟨tbW 3 89 (by first | rfl | decide +kernel) (by decide +kernel), tbW 1 1 (by first | rfl | decide +kernel) (by decide +kernel), ⟨by decide +kernel, by decide +kernel, by decide +kernel⟩, by decide⟩
set_option maxRecDepth 20000 in
theorem mwX9_placeAheadOf : MWd 1 mX9_placeAheadOf := ⟨tbW 3 93 (by first | rfl | decide +kernel) (by decide +kernel), tbW 1 1 (by first | rfl | decide +kernel) (by decide +kernel), ⟨by decide +kernel, by decide +kernel, by decide +kernel⟩, by decide⟩
set_option maxRecDepth 20000 in
theorem mwX9_isClash : MWd 2 mX9_isClash := ⟨tbW 3 74 (by first | rfl | decide +kernel) (by decide +kernel), tbW 1 1 (by first | rfl | decide +kernel) (by decide +kernel), ⟨by decide +kernel, by decide +kernel, by decide +kernel⟩, by decide⟩
set_option maxRecDepth 20000 in
theorem mwX9_shutUpTo : MWd 1 mX9_shutUpTo := ⟨tbW 3 179 (by first | rfl | decide +kernel) (by decide +kernel), tbW 1 1 (by first | rfl | decide +kernel) (by decide +kernel), ⟨by decide +kernel, by decide +kernel, by decide +kernel⟩, by decide⟩
set_option maxRecDepth 20000 in
theorem mwX9_quickestCock : MWd 1 mX9_quickestCock := ⟨tbW 3 189 (by first | rfl | decide +kernel) (by decide +kernel), tbW 1 1 (by first | rfl | decide +kernel) (by decide +kernel), ⟨by decide +kernel, by decide +kernel, by decide +kernel⟩, by decide⟩
set_option maxRecDepth 20000 in
theorem mwX9_walkLength : MWd 2 mX9_walkLength := ⟨tbW 3 193 (by first | rfl | decide +kernel) (by decide +kernel), tbW 1 1 (by first | rfl | decide +kernel) (by decide +kernel), ⟨by decide +kernel, by decide +kernel, by decide +kernel⟩, by decide⟩
set_option maxRecDepth 20000 in
theorem mwX9_refusalOfIronSum : MWd 1 mX9_refusalOfIronSum := ⟨tbW 3 220 (by first | rfl | decide +kernel) (by decide +kernel), tbW 1 1 (by first | rfl | decide +kernel) (by decide +kernel), ⟨by decide +kernel, by decide +kernel, by decide +kernel⟩, by decide⟩
set_option maxRecDepth 20000 in
theorem mwX9_findIron : MWd 1 mX9_findIron := ⟨tbW 3 224 (by first | rfl | decide +kernel) (by decide +kernel), tbW 1 1 (by first | rfl | decide +kernel) (by decide +kernel), ⟨by decide +kernel, by decide +kernel, by decide +kernel⟩, by decide⟩
set_option maxRecDepth 20000 in
theorem mwX9_refusalOfDays : MWd 2 mX9_refusalOfDays := ⟨tbW 4 17 (by first | rfl | decide +kernel) (by decide +kernel), tbW 1 1 (by first | rfl | decide +kernel) (by decide +kernel), ⟨by decide +kernel, by decide +kernel, by decide +kernel⟩, by decide⟩
set_option maxRecDepth 20000 in
theorem mwX9_findDays : MWd 2 mX9_findDays := ⟨tbW 4 21 (by first | rfl | decide +kernel) (by decide +kernel), tbW 1 1 (by first | rfl | decide +kernel) (by decide +kernel), ⟨by decide +kernel, by decide +kernel, by decide +kernel⟩, by decide⟩
set_option maxRecDepth 20000 in
theorem mwX9_lawOn : MWd 1 mX9_lawOn := ⟨tbW 4 89 (by first | rfl | decide +kernel) (by decide +kernel), tbW 1 1 (by first | rfl | decide +kernel) (by decide +kernel), ⟨by decide +kernel, by decide +kernel, by decide +kernel⟩, by decide⟩
set_option maxRecDepth 20000 in
theorem mwX10_init : MWd 0 mX10_init := ⟨tbW 4 110 (by first | rfl | decide +kernel) (by decide +kernel), tbW 1 10 (by first | rfl | decide +kernel) (by decide +kernel), ⟨by decide +kernel, by decide +kernel, by decide +kernel⟩, by decide⟩
set_option maxRecDepth 20000 in
theorem mwX10_in : MWd 3 mX10_in := ⟨tbW 5 54 (by first | rfl | decide +kernel) (by decide +kernel), tbW 1 10 (by first | rfl | decide +kernel) (by decide +kernel), ⟨by decide +kernel, by decide +kernel, by decide +kernel⟩, by decide⟩
set_option maxRecDepth 20000 in
theorem mwX10_refuse : MWd 1 mX10_refuse := ⟨tbW 5 58 (by first | rfl | decide +kernel) (by decide +kernel), tbW 1 10 (by first | rfl | decide +kernel) (by decide +kernel), ⟨by decide +kernel, by decide +kernel, by decide +kernel⟩, by decide⟩
set_option maxRecDepth 20000 in
theorem mwX10_least : MWd 2 mX10_least := ⟨tbW 5 171 (by first | rfl | decide +kernel) (by decide +kernel), tbW 1 10 (by first | rfl | decide +kernel) (by decide +kernel), ⟨by decide +kernel, by decide +kernel, by decide +kernel⟩, by decide⟩
set_option maxRecDepth 20000 in
theorem mwX10_isStreet : MWd 1 mX10_isStreet := ⟨tbW 5 75 (by first | rfl | decide +kernel) (by decide +kernel), tbW 1 10 (by first | rfl | decide +kernel) (by decide +kernel), ⟨by decide +kernel, by decide +kernel, by decide +kernel⟩, by decide⟩
set_option maxRecDepth 20000 in
theorem mwX10_isHouse : MWd 1 mX10_isHouse := ⟨tbW 5 99 (by first | rfl | decide +kernel) (by decide +kernel), tbW 1 10 (by first | rfl | decide +kernel) (by decide +kernel), ⟨by decide +kernel, by decide +kernel, by decide +kernel⟩, by decide⟩
set_option maxRecDepth 20000 in
theorem mwX10_street : MWd 2 mX10_street := ⟨tbW 5 51 (by first | rfl | decide +kernel) (by decide +kernel), tbW 1 10 (by first | rfl | decide +kernel) (by decide +kernel), ⟨by decide +kernel, by decide +kernel, by decide +kernel⟩, by decide⟩
set_option maxRecDepth 20000 in
theorem mwX10_set : MWd 2 mX10_set := ⟨tbW 5 62 (by first | rfl | decide +kernel) (by decide +kernel), tbW 1 10 (by first | rfl | decide +kernel) (by decide +kernel), ⟨by decide +kernel, by decide +kernel, by decide +kernel⟩, by decide⟩
set_option maxRecDepth 20000 in
theorem mwX10_coal : MWd 1 mX10_coal := ⟨tbW 5 66 (by first | rfl | decide +kernel) (by decide +kernel), tbW 1 10 (by first | rfl | decide +kernel) (by decide +kernel), ⟨by decide +kernel, by decide +kernel, by decide +kernel⟩, by decide⟩
set_option maxRecDepth 20000 in
theorem mwX10_house : MWd 5 mX10_house := ⟨tbW 5 71 (by first | rfl | decide +kernel) (by decide +kernel), tbW 1 10 (by first | rfl | decide +kernel) (by decide +kernel), ⟨by decide +kernel, by decide +kernel, by decide +kernel⟩, by decide⟩
set_option maxRecDepth 20000 in
theorem mwX10_row : MWd 2 mX10_row := ⟨tbW 5 79 (by first | rfl | decide +kernel) (by decide +kernel), tbW 1 10 (by first | rfl | decide +kernel) (by decide +kernel), ⟨by decide +kernel, by decide +kernel, by decide +kernel⟩, by decide⟩
set_option maxRecDepth 20000 in
theorem mwX10_lose : MWd 1 mX10_lose := ⟨tbW 5 83 (by first | rfl | decide +kernel) (by decide +kernel), tbW 1 10 (by first | rfl | decide +kernel) (by decide +kernel), ⟨by decide +kernel, by decide +kernel, by decide +kernel⟩, by decide⟩
set_option maxRecDepth 20000 in
theorem mwX10_put : MWd 3 mX10_put := ⟨tbW 5 87 (by first | rfl | decide +kernel) (by decide +kernel), tbW 1 10 (by first | rfl | decide +kernel) (by decide +kernel), ⟨by decide +kernel, by decide +kernel, by decide +kernel⟩, by decide⟩
set_option maxRecDepth 20000 in
theorem mwX10_copy : MWd 5 mX10_copy := ⟨tbW 5 91 (by first | rfl | decide +kernel) (by decide +kernel), tbW 1 10 (by first | rfl | decide +kernel) (by decide +kernel), ⟨by decide +kernel, by decide +kernel, by decide +kernel⟩, by decide⟩
set_option maxRecDepth 20000 in
theorem mwX10_lead : MWd 2 mX10_lead := ⟨tbW 5 95 (by first | rfl | decide +kernel) (by decide +kernel), tbW 1 10 (by first | rfl | decide +kernel) (by decide +kernel), ⟨by decide +kernel, by decide +kernel, by decide +kernel⟩, by decide⟩
set_option maxRecDepth 20000 in
theorem mwX10_useOf : MWd 1 mX10_useOf := ⟨tbW 5 183 (by first | rfl | decide +kernel) (by decide +kernel), tbW 1 10 (by first | rfl | decide +kernel) (by decide +kernel), ⟨by decide +kernel, by decide +kernel, by decide +kernel⟩, by decide⟩
set_option maxRecDepth 20000 in
theorem mwX10_end : MWd 2 mX10_end := ⟨tbW 5 104 (by first | rfl | decide +kernel) (by decide +kernel), tbW 1 10 (by first | rfl | decide +kernel) (by decide +kernel), ⟨by decide +kernel, by decide +kernel, by decide +kernel⟩, by decide⟩
set_option maxRecDepth 20000 in
theorem mwX10_clear : MWd 1 mX10_clear := ⟨tbW 5 108 (by first | rfl | decide +kernel) (by decide +kernel), tbW 1 10 (by first | rfl | decide +kernel) (by decide +kernel), ⟨by decide +kernel, by decide +kernel, by decide +kernel⟩, by decide⟩
set_option maxRecDepth 20000 in
theorem mwX10_draw : MWd 2 mX10_draw := ⟨tbW 5 112 (by first | rfl | decide +kernel) (by decide +kernel), tbW 1 10 (by first | rfl | decide +kernel) (by decide +kernel), ⟨by decide +kernel, by decide +kernel, by decide +kernel⟩, by decide⟩
set_option maxRecDepth 20000 in
theorem mwX10_brew : MWd 2 mX10_brew := ⟨tbW 5 116 (by first | rfl | decide +kernel) (by decide +kernel), tbW 1 10 (by first | rfl | decide +kernel) (by decide +kernel), ⟨by decide +kernel, by decide +kernel, by decide +kernel⟩, by decide⟩
set_option maxRecDepth 20000 in
theorem mwX10_turn : MWd 5 mX10_turn := ⟨tbW 5 120 (by first | rfl | decide +kernel) (by decide +kernel), tbW 1 10 (by first | rfl | decide +kernel) (by decide +kernel), ⟨by decide +kernel, by decide +kernel, by decide +kernel⟩, by decide⟩
set_option maxRecDepth 20000 in
theorem mwX10_isLet : MWd 2 mX10_isLet := ⟨tbW 5 128 (by first | rfl | decide +kernel) (by decide +kernel), tbW 1 10 (by first | rfl | decide +kernel) (by decide +kernel), ⟨by decide +kernel, by decide +kernel, by decide +kernel⟩, by decide⟩
set_option maxRecDepth 20000 in
theorem mwX10_isOpen : MWd 2 mX10_isOpen := ⟨tbW 5 132 (by first | rfl | decide +kernel) (by decide +kernel), tbW 1 10 (by first | rfl | decide +kernel) (by decide +kernel), ⟨by decide +kernel, by decide +kernel, by decide +kernel⟩, by decide⟩
set_option maxRecDepth 20000 in
theorem mwX10_let : MWd 3 mX10_let := ⟨tbW 5 124 (by first | rfl | decide +kernel) (by decide +kernel), tbW 1 10 (by first | rfl | decide +kernel) (by decide +kernel), ⟨by decide +kernel, by decide +kernel, by decide +kernel⟩, by decide⟩
set_option maxRecDepth 20000 in
theorem mwX10_isOnWay : MWd 2 mX10_isOnWay := ⟨tbW 5 144 (by first | rfl | decide +kernel) (by decide +kernel), tbW 1 10 (by first | rfl | decide +kernel) (by decide +kernel), ⟨by decide +kernel, by decide +kernel, by decide +kernel⟩, by decide⟩
set_option maxRecDepth 20000 in
theorem mwX10_wayOf : MWd 2 mX10_wayOf := ⟨tbW 5 140 (by first | rfl | decide +kernel) (by decide +kernel), tbW 1 10 (by first | rfl | decide +kernel) (by decide +kernel), ⟨by decide +kernel, by decide +kernel, by decide +kernel⟩, by decide⟩
set_option maxRecDepth 20000 in
theorem mwX10_way : MWd 2 mX10_way := ⟨tbW 5 136 (by first | rfl | decide +kernel) (by decide +kernel), tbW 1 10 (by first | rfl | decide +kernel) (by decide +kernel), ⟨by decide +kernel, by decide +kernel, by decide +kernel⟩, by decide⟩
set_option maxRecDepth 20000 in
theorem mwX10_clash : MWd 2 mX10_clash := ⟨tbW 5 152 (by first | rfl | decide +kernel) (by decide +kernel), tbW 1 10 (by first | rfl | decide +kernel) (by decide +kernel), ⟨by decide +kernel, by decide +kernel, by decide +kernel⟩, by decide⟩
set_option maxRecDepth 20000 in
theorem mwX10_clashes : MWd 1 mX10_clashes := ⟨tbW 5 148 (by first | rfl | decide +kernel) (by decide +kernel), tbW 1 10 (by first | rfl | decide +kernel) (by decide +kernel), ⟨by decide +kernel, by decide +kernel, by decide +kernel⟩, by decide⟩
set_option maxRecDepth 20000 in
theorem mwX10_dripOf : MWd 1 mX10_dripOf := ⟨tbW 5 164 (by first | rfl | decide +kernel) (by decide +kernel), tbW 1 10 (by first | rfl | decide +kernel) (by decide +kernel), ⟨by decide +kernel, by decide +kernel, by decide +kernel⟩, by decide⟩
set_option maxRecDepth 20000 in
theorem mwX10_take : MWd 1 mX10_take := ⟨tbW 5 168 (by first | rfl | decide +kernel) (by decide +kernel), tbW 1 10 (by first | rfl | decide +kernel) (by decide +kernel), ⟨by decide +kernel, by decide +kernel, by decide +kernel⟩, by decide⟩
set_option maxRecDepth 20000 in
theorem mwX10_fillHouse : MWd 1 mX10_fillHouse := ⟨tbW 5 179 (by first | rfl | decide +kernel) (by decide +kernel), tbW 1 10 (by first | rfl | decide +kernel) (by decide +kernel), ⟨by decide +kernel, by decide +kernel, by decide +kernel⟩, by decide⟩
set_option maxRecDepth 20000 in
theorem mwX10_serve : MWd 1 mX10_serve := ⟨tbW 5 175 (by first | rfl | decide +kernel) (by decide +kernel), tbW 1 10 (by first | rfl | decide +kernel) (by decide +kernel), ⟨by decide +kernel, by decide +kernel, by decide +kernel⟩, by decide⟩
set_option maxRecDepth 20000 in
theorem mwX10_pass : MWd 0 mX10_pass := ⟨tbW 5 160 (by first | rfl | decide +kernel) (by decide +kernel), tbW 1 10 (by first | rfl | decide +kernel) (by decide +kernel), ⟨by decide +kernel, by decide +kernel, by decide +kernel⟩, by decide⟩
set_option maxRecDepth 20000 in
theorem mwX10_hours : MWd 1 mX10_hours := ⟨tbW 5 156 (by first | rfl | decide +kernel) (by decide +kernel), tbW 1 10 (by first | rfl | decide +kernel) (by decide +kernel), ⟨by decide +kernel, by decide +kernel, by decide +kernel⟩, by decide⟩
set_option maxRecDepth 20000 in
theorem mwX10_iron : MWd 1 mX10_iron := ⟨tbW 5 187 (by first | rfl | decide +kernel) (by decide +kernel), tbW 1 10 (by first | rfl | decide +kernel) (by decide +kernel), ⟨by decide +kernel, by decide +kernel, by decide +kernel⟩, by decide⟩
set_option maxRecDepth 20000 in
theorem mwX10_renew : MWd 1 mX10_renew := ⟨tbW 5 191 (by first | rfl | decide +kernel) (by decide +kernel), tbW 1 10 (by first | rfl | decide +kernel) (by decide +kernel), ⟨by decide +kernel, by decide +kernel, by decide +kernel⟩, by decide⟩
set_option maxRecDepth 20000 in
theorem mwX10_stand : MWd 2 mX10_stand := ⟨tbW 5 195 (by first | rfl | decide +kernel) (by decide +kernel), tbW 1 10 (by first | rfl | decide +kernel) (by decide +kernel), ⟨by decide +kernel, by decide +kernel, by decide +kernel⟩, by decide⟩
set_option maxRecDepth 20000 in
theorem mwX10_fire : MWd 2 mX10_fire := ⟨tbW 5 199 (by first | rfl | decide +kernel) (by decide +kernel), tbW 1 10 (by first | rfl | decide +kernel) (by decide +kernel), ⟨by decide +kernel, by decide +kernel, by decide +kernel⟩, by decide⟩
set_option maxRecDepth 20000 in
theorem mwX10_reading : MWd 4 mX10_reading := ⟨tbW 5 203 (by first | rfl | decide +kernel) (by decide +kernel), tbW 1 10 (by first | rfl | decide +kernel) (by decide +kernel), ⟨by decide +kernel, by decide +kernel, by decide +kernel⟩, by decide⟩
set_option maxRecDepth 20000 in
theorem mwX10_span : MWd 2 mX10_span := ⟨tbW 5 207 (by first | rfl | decide +kernel) (by decide +kernel), tbW 1 10 (by first | rfl | decide +kernel) (by decide +kernel), ⟨by decide +kernel, by decide +kernel, by decide +kernel⟩, by decide⟩
set_option maxRecDepth 20000 in
theorem mwX10_worthOf : MWd 1 mX10_worthOf := ⟨tbW 5 219 (by first | rfl | decide +kernel) (by decide +kernel), tbW 1 10 (by first | rfl | decide +kernel) (by decide +kernel), ⟨by decide +kernel, by decide +kernel, by decide +kernel⟩, by decide⟩
set_option maxRecDepth 20000 in
theorem mwX10_ones : MWd 1 mX10_ones := ⟨tbW 5 222 (by first | rfl | decide +kernel) (by decide +kernel), tbW 1 10 (by first | rfl | decide +kernel) (by decide +kernel), ⟨by decide +kernel, by decide +kernel, by decide +kernel⟩, by decide⟩
set_option maxRecDepth 20000 in
theorem mwX10_findBest : MWd 1 mX10_findBest := ⟨tbW 5 215 (by first | rfl | decide +kernel) (by decide +kernel), tbW 1 10 (by first | rfl | decide +kernel) (by decide +kernel), ⟨by decide +kernel, by decide +kernel, by decide +kernel⟩, by decide⟩
set_option maxRecDepth 20000 in
theorem mwX10_best : MWd 1 mX10_best := ⟨tbW 5 211 (by first | rfl | decide +kernel) (by decide +kernel), tbW 1 10 (by first | rfl | decide +kernel) (by decide +kernel), ⟨by decide +kernel, by decide +kernel, by decide +kernel⟩, by decide⟩
set_option maxRecDepth 20000 in
theorem mwX10_bestWorth : MWd 1 mX10_bestWorth := ⟨tbW 5 226 (by first | rfl | decide +kernel) (by decide +kernel), tbW 1 10 (by first | rfl | decide +kernel) (by decide +kernel), ⟨by decide +kernel, by decide +kernel, by decide +kernel⟩, by decide⟩
set_option maxRecDepth 20000 in
theorem mwX10_needOf : MWd 1 mX10_needOf := ⟨tbW 6 2 (by first | rfl | decide +kernel) (by decide +kernel), tbW 1 10 (by first | rfl | decide +kernel) (by decide +kernel), ⟨by decide +kernel, by decide +kernel, by decide +kernel⟩, by decide⟩
set_option maxRecDepth 20000 in
theorem mwX10_wrongDays : MWd 2 mX10_wrongDays := ⟨tbW 5 234 (by first | rfl | decide +kernel) (by decide +kernel), tbW 1 10 (by first | rfl | decide +kernel) (by decide +kernel), ⟨by decide +kernel, by decide +kernel, by decide +kernel⟩, by decide⟩
set_option maxRecDepth 20000 in
theorem mwX10_findDays : MWd 2 mX10_findDays := ⟨tbW 5 238 (by first | rfl | decide +kernel) (by decide +kernel), tbW 1 10 (by first | rfl | decide +kernel) (by decide +kernel), ⟨by decide +kernel, by decide +kernel, by decide +kernel⟩, by decide⟩
set_option maxRecDepth 20000 in
theorem mwX10_days : MWd 2 mX10_days := ⟨tbW 5 230 (by first | rfl | decide +kernel) (by decide +kernel), tbW 1 10 (by first | rfl | decide +kernel) (by decide +kernel), ⟨by decide +kernel, by decide +kernel, by decide +kernel⟩, by decide⟩
set_option maxRecDepth 20000 in
theorem mwX10_dayOf : MWd 3 mX10_dayOf := ⟨tbW 6 6 (by first | rfl | decide +kernel) (by decide +kernel), tbW 1 10 (by first | rfl | decide +kernel) (by decide +kernel), ⟨by decide +kernel, by decide +kernel, by decide +kernel⟩, by decide⟩
set_option maxRecDepth 20000 in
theorem mwX10_law : MWd 4 mX10_law := ⟨tbW 6 10 (by first | rfl | decide +kernel) (by decide +kernel), tbW 1 10 (by first | rfl | decide +kernel) (by decide +kernel), ⟨by decide +kernel, by decide +kernel, by decide +kernel⟩, by decide⟩
set_option maxRecDepth 20000 in
theorem mwX10_rate : MWd 2 mX10_rate := ⟨tbW 6 14 (by first | rfl | decide +kernel) (by decide +kernel), tbW 1 10 (by first | rfl | decide +kernel) (by decide +kernel), ⟨by decide +kernel, by decide +kernel, by decide +kernel⟩, by decide⟩
set_option maxRecDepth 20000 in
theorem mwX10_houseOf : MWd 2 mX10_houseOf := ⟨tbW 6 18 (by first | rfl | decide +kernel) (by decide +kernel), tbW 1 10 (by first | rfl | decide +kernel) (by decide +kernel), ⟨by decide +kernel, by decide +kernel, by decide +kernel⟩, by decide⟩
set_option maxRecDepth 20000 in
theorem mwX10_streetOf : MWd 2 mX10_streetOf := ⟨tbW 6 22 (by first | rfl | decide +kernel) (by decide +kernel), tbW 1 10 (by first | rfl | decide +kernel) (by decide +kernel), ⟨by decide +kernel, by decide +kernel, by decide +kernel⟩, by decide⟩
set_option maxRecDepth 20000 in
theorem mwX10_count : MWd 1 mX10_count := ⟨tbW 6 26 (by first | rfl | decide +kernel) (by decide +kernel), tbW 1 10 (by first | rfl | decide +kernel) (by decide +kernel), ⟨by decide +kernel, by decide +kernel, by decide +kernel⟩, by decide⟩
set_option maxRecDepth 20000 in
theorem mwJ6_numberOfLeadingZeros_0f7a4 : MWd 1 mJ6_numberOfLeadingZeros_0f7a4 := ⟨tbW 3 200 (by first | rfl | decide +kernel) (by decide +kernel), tbW 1 20 (by first | rfl | decide +kernel) (by decide +kernel), ⟨by decide +kernel, by decide +kernel, by decide +kernel⟩, by decide⟩
set_option maxRecDepth 20000 in
theorem mwJ6_numberOfTrailingZeros_0f7a4 : MWd 1 mJ6_numberOfTrailingZeros_0f7a4 := ⟨tbW 3 196 (by first | rfl | decide +kernel) (by decide +kernel), tbW 1 20 (by first | rfl | decide +kernel) (by decide +kernel), ⟨by decide +kernel, by decide +kernel, by decide +kernel⟩, by decide⟩
set_option maxRecDepth 20000 in
theorem mwJ6_bitCount_0f7a4 : MWd 1 mJ6_bitCount_0f7a4 := ⟨tbW 3 182 (by first | rfl | decide +kernel) (by decide +kernel), tbW 1 20 (by first | rfl | decide +kernel) (by decide +kernel), ⟨by decide +kernel, by decide +kernel, by decide +kernel⟩, by decide⟩
set_option maxRecDepth 20000 in
theorem mwJ9_floorMod_7cf53 : MWd 2 mJ9_floorMod_7cf53 := ⟨tbW 3 44 (by first | rfl | decide +kernel) (by decide +kernel), tbW 1 15 (by first | rfl | decide +kernel) (by decide +kernel), ⟨by decide +kernel, by decide +kernel, by decide +kernel⟩, by decide⟩
set_option maxRecDepth 20000 in
theorem mwJ9_max_7cf53 : MWd 2 mJ9_max_7cf53 := ⟨tbW 2 73 (by first | rfl | decide +kernel) (by decide +kernel), tbW 1 15 (by first | rfl | decide +kernel) (by decide +kernel), ⟨by decide +kernel, by decide +kernel, by decide +kernel⟩, by decide⟩
set_option maxRecDepth 20000 in
theorem mwJ9_min_7cf53 : MWd 2 mJ9_min_7cf53 := ⟨tbW 2 105 (by first | rfl | decide +kernel) (by decide +kernel), tbW 1 15 (by first | rfl | decide +kernel) (by decide +kernel), ⟨by decide +kernel, by decide +kernel, by decide +kernel⟩, by decide⟩
set_option maxRecDepth 20000 in
theorem mwJxa1e45_init_da8c8 : MWd 0 mJxa1e45_init_da8c8 := ⟨tbW 1 40 (by first | rfl | decide +kernel) (by decide +kernel), tbW 1 2 (by first | rfl | decide +kernel) (by decide +kernel), ⟨by decide +kernel, by decide +kernel, by decide +kernel⟩, by decide⟩
set_option maxRecDepth 20000 in
theorem mwJxc12de_init_da8c8 : MWd 0 mJxc12de_init_da8c8 := ⟨tbW 1 37 (by first | rfl | decide +kernel) (by decide +kernel), tbW 1 3 (by first | rfl | decide +kernel) (by decide +kernel), ⟨by decide +kernel, by decide +kernel, by decide +kernel⟩, by decide⟩
set_option maxRecDepth 20000 in
theorem mwJx4a65c_init_da8c8 : MWd 0 mJx4a65c_init_da8c8 := ⟨tbW 1 34 (by first | rfl | decide +kernel) (by decide +kernel), tbW 1 4 (by first | rfl | decide +kernel) (by decide +kernel), ⟨by decide +kernel, by decide +kernel, by decide +kernel⟩, by decide⟩
set_option maxRecDepth 20000 in
theorem mwJx4a65c_grow_92f84 : MWd 1 mJx4a65c_grow_92f84 := ⟨tbW 2 67 (by first | rfl | decide +kernel) (by decide +kernel), tbW 1 4 (by first | rfl | decide +kernel) (by decide +kernel), ⟨by decide +kernel, by decide +kernel, by decide +kernel⟩, by decide⟩
set_option maxRecDepth 20000 in
theorem mwJx4a65c_grow_d5877 : MWd 0 mJx4a65c_grow_d5877 := ⟨tbW 2 63 (by first | rfl | decide +kernel) (by decide +kernel), tbW 1 4 (by first | rfl | decide +kernel) (by decide +kernel), ⟨by decide +kernel, by decide +kernel, by decide +kernel⟩, by decide⟩
set_option maxRecDepth 20000 in
theorem mwJx4a65c_size_8abf5 : MWd 0 mJx4a65c_size_8abf5 := ⟨tbW 1 220 (by first | rfl | decide +kernel) (by decide +kernel), tbW 1 4 (by first | rfl | decide +kernel) (by decide +kernel), ⟨by decide +kernel, by decide +kernel, by decide +kernel⟩, by decide⟩
set_option maxRecDepth 20000 in
theorem mwJx4a65c_elementData_915e3 : MWd 1 mJx4a65c_elementData_915e3 := ⟨tbW 1 234 (by first | rfl | decide +kernel) (by decide +kernel), tbW 1 4 (by first | rfl | decide +kernel) (by decide +kernel), ⟨by decide +kernel, by decide +kernel, by decide +kernel⟩, by decide⟩
set_option maxRecDepth 20000 in
theorem mwJx4a65c_get_915e3 : MWd 1 mJx4a65c_get_915e3 := ⟨tbW 1 224 (by first | rfl | decide +kernel) (by decide +kernel), tbW 1 4 (by first | rfl | decide +kernel) (by decide +kernel), ⟨by decide +kernel, by decide +kernel, by decide +kernel⟩, by decide⟩
set_option maxRecDepth 20000 in
theorem mwJx4a65c_add_72be8 : MWd 3 mJx4a65c_add_72be8 := ⟨tbW 2 59 (by first | rfl | decide +kernel) (by decide +kernel), tbW 1 4 (by first | rfl | decide +kernel) (by decide +kernel), ⟨by decide +kernel, by decide +kernel, by decide +kernel⟩, by decide⟩
set_option maxRecDepth 20000 in
theorem mwJx4a65c_add_9ea2d : MWd 1 mJx4a65c_add_9ea2d := ⟨tbW 2 55 (by first | rfl | decide +kernel) (by decide +kernel), tbW 1 4 (by first | rfl | decide +kernel) (by decide +kernel), ⟨by decide +kernel, by decide +kernel, by decide +kernel⟩, by decide⟩
set_option maxRecDepth 20000 in
theorem mwJ7_fill_53178 : MWd 2 mJ7_fill_53178 := ⟨tbW 2 188 (by first | rfl | decide +kernel) (by decide +kernel), tbW 1 16 (by first | rfl | decide +kernel) (by decide +kernel), ⟨by decide +kernel, by decide +kernel, by decide +kernel⟩, by decide⟩
set_option maxRecDepth 20000 in
theorem mwJ7_copyOf_1904c : MWd 2 mJ7_copyOf_1904c := ⟨tbW 2 80 (by first | rfl | decide +kernel) (by decide +kernel), tbW 1 16 (by first | rfl | decide +kernel) (by decide +kernel), ⟨by decide +kernel, by decide +kernel, by decide +kernel⟩, by decide⟩
set_option maxRecDepth 20000 in
theorem mwJ7_copyOf_6403c : MWd 3 mJ7_copyOf_6403c := ⟨tbW 2 99 (by first | rfl | decide +kernel) (by decide +kernel), tbW 1 16 (by first | rfl | decide +kernel) (by decide +kernel), ⟨by decide +kernel, by decide +kernel, by decide +kernel⟩, by decide⟩
set_option maxRecDepth 20000 in
theorem mwJ15_checkIndex_7cf53 : MWd 2 mJ15_checkIndex_7cf53 := ⟨tbW 1 227 (by first | rfl | decide +kernel) (by decide +kernel), tbW 1 11 (by first | rfl | decide +kernel) (by decide +kernel), ⟨by decide +kernel, by decide +kernel, by decide +kernel⟩, by decide⟩
set_option maxRecDepth 20000 in
theorem mwJ8_newLength_cabcc : MWd 3 mJ8_newLength_cabcc := ⟨tbW 2 70 (by first | rfl | decide +kernel) (by decide +kernel), tbW 1 14 (by first | rfl | decide +kernel) (by decide +kernel), ⟨by decide +kernel, by decide +kernel, by decide +kernel⟩, by decide⟩
set_option maxRecDepth 20000 in
theorem mwJ8_hugeLength_7cf53 : MWd 2 mJ8_hugeLength_7cf53 := ⟨tbW 2 77 (by first | rfl | decide +kernel) (by decide +kernel), tbW 1 14 (by first | rfl | decide +kernel) (by decide +kernel), ⟨by decide +kernel, by decide +kernel, by decide +kernel⟩, by decide⟩
set_option maxRecDepth 20000 in
theorem mwJ3_checkIndex_8e157 : MWd 3 mJ3_checkIndex_8e157 := ⟨tbW 1 230 (by first | rfl | decide +kernel) (by decide +kernel), tbW 1 12 (by first | rfl | decide +kernel) (by decide +kernel), ⟨by decide +kernel, by decide +kernel, by decide +kernel⟩, by decide⟩
set_option maxRecDepth 20000 in
theorem oiX0_3 : Cond.methodLink RX0 3 Lib.objectInit ∈ tbG := tbW 1 118 (by first | rfl | decide +kernel) (by decide +kernel)
set_option maxRecDepth 20000 in
theorem fpX0_9 : FPt RX0 9 1 0 8 (.array .int) true := ⟨RX0, TX0, "WoodenMains$DaySearch", tyX0, rfl, inX0, by decide, by decide, tbW 1 119 (by first | rfl | decide +kernel) (by decide +kernel), Or.inl rfl, tyX0_ok, nmX0, by decide +kernel, rfl, fun _ => rfl⟩
set_option maxRecDepth 20000 in
theorem fpX0_15 : FPt RX0 15 1 1 8 (.array .int) true := ⟨RX0, TX0, "WoodenMains$DaySearch", tyX0, rfl, inX0, by decide, by decide, tbW 1 120 (by first | rfl | decide +kernel) (by decide +kernel), Or.inl rfl, tyX0_ok, nmX0, by decide +kernel, rfl, fun _ => rfl⟩
set_option maxRecDepth 20000 in
theorem fpX0_18 : FPt RX0 18 1 2 8 (.array .int) true := ⟨RX0, TX0, "WoodenMains$DaySearch", tyX0, rfl, inX0, by decide, by decide, tbW 1 121 (by first | rfl | decide +kernel) (by decide +kernel), Or.inl rfl, tyX0_ok, nmX0, by decide +kernel, rfl, fun _ => rfl⟩
set_option maxRecDepth 20000 in
theorem fpX0_21 : FPt RX0 21 1 3 8 (.array .int) true := ⟨RX0, TX0, "WoodenMains$DaySearch", tyX0, rfl, inX0, by decide, by decide, tbW 1 122 (by first | rfl | decide +kernel) (by decide +kernel), Or.inl rfl, tyX0_ok, nmX0, by decide +kernel, rfl, fun _ => rfl⟩
set_option maxRecDepth 20000 in
theorem fpX0_24 : FPt RX0 24 1 4 8 .int false := ⟨RX0, TX0, "WoodenMains$DaySearch", tyX0, rfl, inX0, by decide, by decide, tbW 1 123 (by first | rfl | decide +kernel) (by decide +kernel), Or.inl rfl, tyX0_ok, nmX0, by decide +kernel, rfl, fun _ => rfl⟩
set_option maxRecDepth 20000 in
theorem fpX0_28 : FPt RX0 28 1 5 8 .int false := ⟨RX0, TX0, "WoodenMains$DaySearch", tyX0, rfl, inX0, by decide, by decide, tbW 1 124 (by first | rfl | decide +kernel) (by decide +kernel), Or.inl rfl, tyX0_ok, nmX0, by decide +kernel, rfl, fun _ => rfl⟩
set_option maxRecDepth 20000 in
theorem fgX0_24 : FLd RX0 24 1 4 8 := ⟨RX0, TX0, "WoodenMains$DaySearch", rfl, inX0, by decide, by decide, tbW 1 123 (by first | rfl | decide +kernel) (by decide +kernel), Or.inl rfl⟩
set_option maxRecDepth 20000 in
theorem fgX0_9 : FLd RX0 9 1 0 8 := ⟨RX0, TX0, "WoodenMains$DaySearch", rfl, inX0, by decide, by decide, tbW 1 119 (by first | rfl | decide +kernel) (by decide +kernel), Or.inl rfl⟩
set_option maxRecDepth 20000 in
theorem fgX0_18 : FLd RX0 18 1 2 8 := ⟨RX0, TX0, "WoodenMains$DaySearch", rfl, inX0, by decide, by decide, tbW 1 121 (by first | rfl | decide +kernel) (by decide +kernel), Or.inl rfl⟩
set_option maxRecDepth 20000 in
theorem kcX0_31 : Cond.constant RX0 31 1000000 ∈ tbG := tbW 4 39 (by first | rfl | decide +kernel) (by decide +kernel)
set_option maxRecDepth 20000 in
theorem fpX0_32 : FPt RX0 32 1 7 8 .int false := ⟨RX0, TX0, "WoodenMains$DaySearch", tyX0, rfl, inX0, by decide, by decide, tbW 1 126 (by first | rfl | decide +kernel) (by decide +kernel), Or.inl rfl, tyX0_ok, nmX0, by decide +kernel, rfl, fun _ => rfl⟩
set_option maxRecDepth 20000 in
theorem fpX0_35 : FPt RX0 35 1 6 8 .int false := ⟨RX0, TX0, "WoodenMains$DaySearch", tyX0, rfl, inX0, by decide, by decide, tbW 1 125 (by first | rfl | decide +kernel) (by decide +kernel), Or.inl rfl, tyX0_ok, nmX0, by decide +kernel, rfl, fun _ => rfl⟩
set_option maxRecDepth 20000 in
theorem cvX0_38 : CVd RX0 38 1 mX0_tryFrom := ⟨tbW 4 40 (by first | rfl | decide +kernel) (by decide +kernel), tbW 4 42 (by first | rfl | decide +kernel) (by decide +kernel), tbW 0 28 (by first | rfl | decide +kernel) (by decide +kernel), by decide, _, _, rfl⟩
set_option maxRecDepth 20000 in
theorem cvX0_42 : CVd RX0 42 1 mX0_weigh := ⟨tbW 4 44 (by first | rfl | decide +kernel) (by decide +kernel), tbW 4 46 (by first | rfl | decide +kernel) (by decide +kernel), tbW 0 29 (by first | rfl | decide +kernel) (by decide +kernel), by decide, _, _, rfl⟩
set_option maxRecDepth 20000 in
theorem fgX0_15 : FLd RX0 15 1 1 8 := ⟨RX0, TX0, "WoodenMains$DaySearch", rfl, inX0, by decide, by decide, tbW 1 120 (by first | rfl | decide +kernel) (by decide +kernel), Or.inl rfl⟩
set_option maxRecDepth 20000 in
theorem fgX0_21 : FLd RX0 21 1 3 8 := ⟨RX0, TX0, "WoodenMains$DaySearch", rfl, inX0, by decide, by decide, tbW 1 122 (by first | rfl | decide +kernel) (by decide +kernel), Or.inl rfl⟩
set_option maxRecDepth 20000 in
theorem csX0_45 : CSd RX0 45 mJ9_max_7cf53 := ⟨tbW 4 48 (by first | rfl | decide +kernel) (by decide +kernel), tbW 2 72 (by first | rfl | decide +kernel) (by decide +kernel)⟩
set_option maxRecDepth 20000 in
theorem fgX0_28 : FLd RX0 28 1 5 8 := ⟨RX0, TX0, "WoodenMains$DaySearch", rfl, inX0, by decide, by decide, tbW 1 124 (by first | rfl | decide +kernel) (by decide +kernel), Or.inl rfl⟩
set_option maxRecDepth 20000 in
theorem fgX0_32 : FLd RX0 32 1 7 8 := ⟨RX0, TX0, "WoodenMains$DaySearch", rfl, inX0, by decide, by decide, tbW 1 126 (by first | rfl | decide +kernel) (by decide +kernel), Or.inl rfl⟩
set_option maxRecDepth 20000 in
theorem fgX0_35 : FLd RX0 35 1 6 8 := ⟨RX0, TX0, "WoodenMains$DaySearch", rfl, inX0, by decide, by decide, tbW 1 125 (by first | rfl | decide +kernel) (by decide +kernel), Or.inl rfl⟩
set_option maxRecDepth 20000 in
theorem acX0_51 : ACw RX0 51 := ⟨tbW 4 49 (by first | rfl | decide +kernel) (by decide +kernel), tbW 2 108 (by first | rfl | decide +kernel) (by decide +kernel), tbW 2 107 (by first | rfl | decide +kernel) (by decide +kernel), tbW 1 17 (by first | rfl | decide +kernel) (by decide +kernel)⟩
set_option maxRecDepth 20000 in
theorem oiX1_3 : Cond.methodLink RX1 3 Lib.objectInit ∈ tbG := tbW 2 133 (by first | rfl | decide +kernel) (by decide +kernel)
set_option maxRecDepth 20000 in
theorem fpX1_9 : FPt RX1 9 2 5 9 .int false := ⟨RX1, TX1, "WoodenMains$House", tyX1, rfl, inX1, by decide, by decide, tbW 2 144 (by first | rfl | decide +kernel) (by decide +kernel), Or.inl rfl, tyX1_ok, nmX1, by decide +kernel, rfl, fun _ => rfl⟩
set_option maxRecDepth 20000 in
theorem fpX1_15 : FPt RX1 15 2 0 9 .int true := ⟨RX1, TX1, "WoodenMains$House", tyX1, rfl, inX1, by decide, by decide, tbW 2 134 (by first | rfl | decide +kernel) (by decide +kernel), Or.inl rfl, tyX1_ok, nmX1, by decide +kernel, rfl, fun _ => rfl⟩
set_option maxRecDepth 20000 in
theorem fpX1_18 : FPt RX1 18 2 1 9 .int true := ⟨RX1, TX1, "WoodenMains$House", tyX1, rfl, inX1, by decide, by decide, tbW 2 136 (by first | rfl | decide +kernel) (by decide +kernel), Or.inl rfl, tyX1_ok, nmX1, by decide +kernel, rfl, fun _ => rfl⟩
set_option maxRecDepth 20000 in
theorem fpX1_21 : FPt RX1 21 2 2 9 .int true := ⟨RX1, TX1, "WoodenMains$House", tyX1, rfl, inX1, by decide, by decide, tbW 2 138 (by first | rfl | decide +kernel) (by decide +kernel), Or.inl rfl, tyX1_ok, nmX1, by decide +kernel, rfl, fun _ => rfl⟩
set_option maxRecDepth 20000 in
theorem fpX1_24 : FPt RX1 24 2 3 9 .int true := ⟨RX1, TX1, "WoodenMains$House", tyX1, rfl, inX1, by decide, by decide, tbW 2 141 (by first | rfl | decide +kernel) (by decide +kernel), Or.inl rfl, tyX1_ok, nmX1, by decide +kernel, rfl, fun _ => rfl⟩
set_option maxRecDepth 20000 in
theorem fpX1_27 : FPt RX1 27 2 4 9 .boolean true := ⟨RX1, TX1, "WoodenMains$House", tyX1, rfl, inX1, by decide, by decide, tbW 2 143 (by first | rfl | decide +kernel) (by decide +kernel), Or.inl rfl, tyX1_ok, nmX1, by decide +kernel, rfl, fun _ => rfl⟩
set_option maxRecDepth 20000 in
theorem fgX1_18 : FLd RX1 18 2 1 9 := ⟨RX1, TX1, "WoodenMains$House", rfl, inX1, by decide, by decide, tbW 2 136 (by first | rfl | decide +kernel) (by decide +kernel), Or.inl rfl⟩
set_option maxRecDepth 20000 in
theorem fgX1_31 : FLd RX1 31 2 6 9 := ⟨RX1, TX1, "WoodenMains$House", rfl, inX1, by decide, by decide, tbW 2 146 (by first | rfl | decide +kernel) (by decide +kernel), Or.inl rfl⟩
set_option maxRecDepth 20000 in
theorem csX1_34 : CSd RX1 34 mJ9_min_7cf53 := ⟨tbW 3 135 (by first | rfl | decide +kernel) (by decide +kernel), tbW 2 104 (by first | rfl | decide +kernel) (by decide +kernel)⟩
set_option maxRecDepth 20000 in
theorem cvX1_40 : CVd RX1 40 2 mX1_roomInCistern := ⟨tbW 3 136 (by first | rfl | decide +kernel) (by decide +kernel), tbW 3 137 (by first | rfl | decide +kernel) (by decide +kernel), tbW 3 138 (by first | rfl | decide +kernel) (by decide +kernel), by decide, _, _, rfl⟩
set_option maxRecDepth 20000 in
theorem fpX1_31 : FPt RX1 31 2 6 9 .int false := ⟨RX1, TX1, "WoodenMains$House", tyX1, rfl, inX1, by decide, by decide, tbW 2 146 (by first | rfl | decide +kernel) (by decide +kernel), Or.inl rfl, tyX1_ok, nmX1, by decide +kernel, rfl, fun _ => rfl⟩
set_option maxRecDepth 20000 in
theorem fgX1_27 : FLd RX1 27 2 4 9 := ⟨RX1, TX1, "WoodenMains$House", rfl, inX1, by decide, by decide, tbW 2 143 (by first | rfl | decide +kernel) (by decide +kernel), Or.inl rfl⟩
set_option maxRecDepth 20000 in
theorem fgX1_44 : FLd RX1 44 7 2 6 := ⟨RX6, TX6, "WoodenMains$Tally", rfl, inX6, by decide, by decide, tbW 1 81 (by first | rfl | decide +kernel) (by decide +kernel), Or.inl rfl⟩
set_option maxRecDepth 20000 in
theorem fpX1_44 : FPt RX1 44 7 2 6 .int false := ⟨RX6, TX6, "WoodenMains$Tally", tyX6, rfl, inX6, by decide, by decide, tbW 1 81 (by first | rfl | decide +kernel) (by decide +kernel), Or.inl rfl, tyX6_ok, nmX6, by decide +kernel, rfl, fun h => (nomatch h)⟩
set_option maxRecDepth 20000 in
theorem fgX1_49 : FLd RX1 49 2 7 9 := ⟨RX1, TX1, "WoodenMains$House", rfl, inX1, by decide, by decide, tbW 2 148 (by first | rfl | decide +kernel) (by decide +kernel), Or.inl rfl⟩
set_option maxRecDepth 20000 in
theorem fpX1_49 : FPt RX1 49 2 7 9 .int false := ⟨RX1, TX1, "WoodenMains$House", tyX1, rfl, inX1, by decide, by decide, tbW 2 148 (by first | rfl | decide +kernel) (by decide +kernel), Or.inl rfl, tyX1_ok, nmX1, by decide +kernel, rfl, fun _ => rfl⟩
set_option maxRecDepth 20000 in
theorem oiX2_3 : Cond.methodLink RX2 3 Lib.objectInit ∈ tbG := tbW 1 105 (by first | rfl | decide +kernel) (by decide +kernel)
set_option maxRecDepth 20000 in
theorem fpX2_9 : FPt RX2 9 3 0 2 (.array .int) true := ⟨RX2, TX2, "WoodenMains$IronSearch", tyX2, rfl, inX2, by decide, by decide, tbW 1 106 (by first | rfl | decide +kernel) (by decide +kernel), Or.inl rfl, tyX2_ok, nmX2, by decide +kernel, rfl, fun _ => rfl⟩
set_option maxRecDepth 20000 in
theorem fpX2_15 : FPt RX2 15 3 1 2 (.array .int) true := ⟨RX2, TX2, "WoodenMains$IronSearch", tyX2, rfl, inX2, by decide, by decide, tbW 1 107 (by first | rfl | decide +kernel) (by decide +kernel), Or.inl rfl, tyX2_ok, nmX2, by decide +kernel, rfl, fun _ => rfl⟩
set_option maxRecDepth 20000 in
theorem fgX2_9 : FLd RX2 9 3 0 2 := ⟨RX2, TX2, "WoodenMains$IronSearch", rfl, inX2, by decide, by decide, tbW 1 106 (by first | rfl | decide +kernel) (by decide +kernel), Or.inl rfl⟩
set_option maxRecDepth 20000 in
theorem fgX2_15 : FLd RX2 15 3 1 2 := ⟨RX2, TX2, "WoodenMains$IronSearch", rfl, inX2, by decide, by decide, tbW 1 107 (by first | rfl | decide +kernel) (by decide +kernel), Or.inl rfl⟩
set_option maxRecDepth 20000 in
theorem cvX2_18 : CVd RX2 18 3 mX2_isBetter := ⟨tbW 3 237 (by first | rfl | decide +kernel) (by decide +kernel), tbW 3 239 (by first | rfl | decide +kernel) (by decide +kernel), tbW 0 25 (by first | rfl | decide +kernel) (by decide +kernel), by decide, _, _, rfl⟩
set_option maxRecDepth 20000 in
theorem csX2_22 : CSd RX2 22 mJ6_bitCount_0f7a4 := ⟨tbW 4 1 (by first | rfl | decide +kernel) (by decide +kernel), tbW 3 181 (by first | rfl | decide +kernel) (by decide +kernel)⟩
set_option maxRecDepth 20000 in
theorem oiX3_1 : Cond.methodLink RX3 1 Lib.objectInit ∈ tbG := tbW 4 67 (by first | rfl | decide +kernel) (by decide +kernel)
set_option maxRecDepth 20000 in
theorem fpX3_7 : FPt RX3 7 4 0 4 .int true := ⟨RX3, TX3, "WoodenMains$Law", tyX3, rfl, inX3, by decide, by decide, tbW 4 68 (by first | rfl | decide +kernel) (by decide +kernel), Or.inl rfl, tyX3_ok, nmX3, by decide +kernel, rfl, fun _ => rfl⟩
set_option maxRecDepth 20000 in
theorem fpX3_13 : FPt RX3 13 4 1 4 .int true := ⟨RX3, TX3, "WoodenMains$Law", tyX3, rfl, inX3, by decide, by decide, tbW 4 69 (by first | rfl | decide +kernel) (by decide +kernel), Or.inl rfl, tyX3_ok, nmX3, by decide +kernel, rfl, fun _ => rfl⟩
set_option maxRecDepth 20000 in
theorem fpX3_16 : FPt RX3 16 4 2 4 .int true := ⟨RX3, TX3, "WoodenMains$Law", tyX3, rfl, inX3, by decide, by decide, tbW 4 70 (by first | rfl | decide +kernel) (by decide +kernel), Or.inl rfl, tyX3_ok, nmX3, by decide +kernel, rfl, fun _ => rfl⟩
set_option maxRecDepth 20000 in
theorem fpX3_19 : FPt RX3 19 4 3 4 .int true := ⟨RX3, TX3, "WoodenMains$Law", tyX3, rfl, inX3, by decide, by decide, tbW 4 71 (by first | rfl | decide +kernel) (by decide +kernel), Or.inl rfl, tyX3_ok, nmX3, by decide +kernel, rfl, fun _ => rfl⟩
set_option maxRecDepth 20000 in
theorem fgX3_7 : FLd RX3 7 4 0 4 := ⟨RX3, TX3, "WoodenMains$Law", rfl, inX3, by decide, by decide, tbW 4 68 (by first | rfl | decide +kernel) (by decide +kernel), Or.inl rfl⟩
set_option maxRecDepth 20000 in
theorem fgX3_13 : FLd RX3 13 4 1 4 := ⟨RX3, TX3, "WoodenMains$Law", rfl, inX3, by decide, by decide, tbW 4 69 (by first | rfl | decide +kernel) (by decide +kernel), Or.inl rfl⟩
set_option maxRecDepth 20000 in
theorem fgX3_22 : FLd RX3 22 2 2 9 := ⟨RX1, TX1, "WoodenMains$House", rfl, inX1, by decide, by decide, tbW 2 139 (by first | rfl | decide +kernel) (by decide +kernel), Or.inl rfl⟩
set_option maxRecDepth 20000 in
theorem fgX3_16 : FLd RX3 16 4 2 4 := ⟨RX3, TX3, "WoodenMains$Law", rfl, inX3, by decide, by decide, tbW 4 70 (by first | rfl | decide +kernel) (by decide +kernel), Or.inl rfl⟩
set_option maxRecDepth 20000 in
theorem fgX3_27 : FLd RX3 27 2 1 9 := ⟨RX1, TX1, "WoodenMains$House", rfl, inX1, by decide, by decide, tbW 2 137 (by first | rfl | decide +kernel) (by decide +kernel), Or.inl rfl⟩
set_option maxRecDepth 20000 in
theorem oiX4_3 : Cond.methodLink RX4 3 Lib.objectInit ∈ tbG := tbW 1 149 (by first | rfl | decide +kernel) (by decide +kernel)
set_option maxRecDepth 20000 in
theorem fpX4_9 : FPt RX4 9 5 0 2 (.array .int) true := ⟨RX4, TX4, "WoodenMains$Row", tyX4, rfl, inX4, by decide, by decide, tbW 1 150 (by first | rfl | decide +kernel) (by decide +kernel), Or.inl rfl, tyX4_ok, nmX4, by decide +kernel, rfl, fun _ => rfl⟩
set_option maxRecDepth 20000 in
theorem fpX4_15 : FPt RX4 15 5 1 2 .int false := ⟨RX4, TX4, "WoodenMains$Row", tyX4, rfl, inX4, by decide, by decide, tbW 1 152 (by first | rfl | decide +kernel) (by decide +kernel), Or.inl rfl, tyX4_ok, nmX4, by decide +kernel, rfl, fun _ => rfl⟩
set_option maxRecDepth 20000 in
theorem fgX4_15 : FLd RX4 15 5 1 2 := ⟨RX4, TX4, "WoodenMains$Row", rfl, inX4, by decide, by decide, tbW 1 152 (by first | rfl | decide +kernel) (by decide +kernel), Or.inl rfl⟩
set_option maxRecDepth 20000 in
theorem fgX4_9 : FLd RX4 9 5 0 2 := ⟨RX4, TX4, "WoodenMains$Row", rfl, inX4, by decide, by decide, tbW 1 150 (by first | rfl | decide +kernel) (by decide +kernel), Or.inl rfl⟩
set_option maxRecDepth 20000 in
theorem csX4_19 : CSd RX4 19 mJ7_fill_53178 := ⟨tbW 2 186 (by first | rfl | decide +kernel) (by decide +kernel), tbW 2 187 (by first | rfl | decide +kernel) (by decide +kernel)⟩
set_option maxRecDepth 20000 in
theorem oiX5_3 : Cond.methodLink RX5 3 Lib.objectInit ∈ tbG := tbW 2 8 (by first | rfl | decide +kernel) (by decide +kernel)
set_option maxRecDepth 20000 in
theorem fpX5_9 : FPt RX5 9 6 4 11 .int false := ⟨RX5, TX5, "WoodenMains$Street", tyX5, rfl, inX5, by decide, by decide, tbW 2 17 (by first | rfl | decide +kernel) (by decide +kernel), Or.inl rfl, tyX5_ok, nmX5, by decide +kernel, rfl, fun _ => rfl⟩
set_option maxRecDepth 20000 in
theorem fpX5_15 : FPt RX5 15 6 8 11 .int false := ⟨RX5, TX5, "WoodenMains$Street", tyX5, rfl, inX5, by decide, by decide, tbW 2 24 (by first | rfl | decide +kernel) (by decide +kernel), Or.inl rfl, tyX5_ok, nmX5, by decide +kernel, rfl, fun _ => rfl⟩
set_option maxRecDepth 20000 in
theorem fpX5_18 : FPt RX5 18 6 9 11 .int false := ⟨RX5, TX5, "WoodenMains$Street", tyX5, rfl, inX5, by decide, by decide, tbW 2 26 (by first | rfl | decide +kernel) (by decide +kernel), Or.inl rfl, tyX5_ok, nmX5, by decide +kernel, rfl, fun _ => rfl⟩
set_option maxRecDepth 20000 in
theorem fpX5_21 : FPt RX5 21 6 0 11 .int true := ⟨RX5, TX5, "WoodenMains$Street", tyX5, rfl, inX5, by decide, by decide, tbW 2 9 (by first | rfl | decide +kernel) (by decide +kernel), Or.inl rfl, tyX5_ok, nmX5, by decide +kernel, rfl, fun _ => rfl⟩
set_option maxRecDepth 20000 in
theorem fpX5_24 : FPt RX5 24 6 1 11 .int true := ⟨RX5, TX5, "WoodenMains$Street", tyX5, rfl, inX5, by decide, by decide, tbW 2 12 (by first | rfl | decide +kernel) (by decide +kernel), Or.inl rfl, tyX5_ok, nmX5, by decide +kernel, rfl, fun _ => rfl⟩
set_option maxRecDepth 20000 in
theorem fpX5_27 : FPt RX5 27 6 2 11 .int false := ⟨RX5, TX5, "WoodenMains$Street", tyX5, rfl, inX5, by decide, by decide, tbW 2 14 (by first | rfl | decide +kernel) (by decide +kernel), Or.inl rfl, tyX5_ok, nmX5, by decide +kernel, rfl, fun _ => rfl⟩
set_option maxRecDepth 20000 in
theorem fgX5_30 : FLd RX5 30 6 3 11 := ⟨RX5, TX5, "WoodenMains$Street", rfl, inX5, by decide, by decide, tbW 2 15 (by first | rfl | decide +kernel) (by decide +kernel), Or.inl rfl⟩
set_option maxRecDepth 20000 in
theorem fgX5_24 : FLd RX5 24 6 1 11 := ⟨RX5, TX5, "WoodenMains$Street", rfl, inX5, by decide, by decide, tbW 2 12 (by first | rfl | decide +kernel) (by decide +kernel), Or.inl rfl⟩
set_option maxRecDepth 20000 in
theorem fgX5_27 : FLd RX5 27 6 2 11 := ⟨RX5, TX5, "WoodenMains$Street", rfl, inX5, by decide, by decide, tbW 2 14 (by first | rfl | decide +kernel) (by decide +kernel), Or.inl rfl⟩
set_option maxRecDepth 20000 in
theorem fpX5_34 : FPt RX5 34 6 5 11 .int false := ⟨RX5, TX5, "WoodenMains$Street", tyX5, rfl, inX5, by decide, by decide, tbW 2 19 (by first | rfl | decide +kernel) (by decide +kernel), Or.inl rfl, tyX5_ok, nmX5, by decide +kernel, rfl, fun _ => rfl⟩
set_option maxRecDepth 20000 in
theorem fpX5_37 : FPt RX5 37 6 6 11 .int false := ⟨RX5, TX5, "WoodenMains$Street", tyX5, rfl, inX5, by decide, by decide, tbW 2 20 (by first | rfl | decide +kernel) (by decide +kernel), Or.inl rfl, tyX5_ok, nmX5, by decide +kernel, rfl, fun _ => rfl⟩
set_option maxRecDepth 20000 in
theorem fpX5_40 : FPt RX5 40 6 7 11 .boolean false := ⟨RX5, TX5, "WoodenMains$Street", tyX5, rfl, inX5, by decide, by decide, tbW 2 22 (by first | rfl | decide +kernel) (by decide +kernel), Or.inl rfl, tyX5_ok, nmX5, by decide +kernel, rfl, fun _ => rfl⟩
set_option maxRecDepth 20000 in
theorem fgX5_15 : FLd RX5 15 6 8 11 := ⟨RX5, TX5, "WoodenMains$Street", rfl, inX5, by decide, by decide, tbW 2 24 (by first | rfl | decide +kernel) (by decide +kernel), Or.inl rfl⟩
set_option maxRecDepth 20000 in
theorem csX5_43 : CSd RX5 43 mJ9_max_7cf53 := ⟨tbW 3 209 (by first | rfl | decide +kernel) (by decide +kernel), tbW 2 72 (by first | rfl | decide +kernel) (by decide +kernel)⟩
set_option maxRecDepth 20000 in
theorem fgX5_18 : FLd RX5 18 6 9 11 := ⟨RX5, TX5, "WoodenMains$Street", rfl, inX5, by decide, by decide, tbW 2 26 (by first | rfl | decide +kernel) (by decide +kernel), Or.inl rfl⟩
set_option maxRecDepth 20000 in
theorem csX5_49 : CSd RX5 49 mJ9_min_7cf53 := ⟨tbW 3 126 (by first | rfl | decide +kernel) (by decide +kernel), tbW 2 104 (by first | rfl | decide +kernel) (by decide +kernel)⟩
set_option maxRecDepth 20000 in
theorem fgX5_52 : FLd RX5 52 6 10 11 := ⟨RX5, TX5, "WoodenMains$Street", rfl, inX5, by decide, by decide, tbW 2 28 (by first | rfl | decide +kernel) (by decide +kernel), Or.inl rfl⟩
set_option maxRecDepth 20000 in
theorem fgX5_56 : FLd RX5 56 2 2 9 := ⟨RX1, TX1, "WoodenMains$House", rfl, inX1, by decide, by decide, tbW 2 140 (by first | rfl | decide +kernel) (by decide +kernel), Or.inl rfl⟩
set_option maxRecDepth 20000 in
theorem fgX5_61 : FLd RX5 61 2 8 9 := ⟨RX1, TX1, "WoodenMains$House", rfl, inX1, by decide, by decide, tbW 2 150 (by first | rfl | decide +kernel) (by decide +kernel), Or.inl rfl⟩
set_option maxRecDepth 20000 in
theorem fpX5_61 : FPt RX5 61 2 8 9 (.object "WoodenMains$House") false := ⟨RX1, TX1, "WoodenMains$House", tyX1, rfl, inX1, by decide, by decide, tbW 2 150 (by first | rfl | decide +kernel) (by decide +kernel), Or.inl rfl, tyX1_ok, nmX1, by decide +kernel, rfl, fun h => (nomatch h)⟩
set_option maxRecDepth 20000 in
theorem fpX5_52 : FPt RX5 52 6 10 11 (.object "WoodenMains$House") false := ⟨RX5, TX5, "WoodenMains$Street", tyX5, rfl, inX5, by decide, by decide, tbW 2 28 (by first | rfl | decide +kernel) (by decide +kernel), Or.inl rfl, tyX5_ok, nmX5, by decide +kernel, rfl, fun _ => rfl⟩
set_option maxRecDepth 20000 in
theorem cvX5_64 : CVd RX5 64 6 mX5_takeByPlug := ⟨tbW 3 122 (by first | rfl | decide +kernel) (by decide +kernel), tbW 3 124 (by first | rfl | decide +kernel) (by decide +kernel), tbW 0 17 (by first | rfl | decide +kernel) (by decide +kernel), by decide, _, _, rfl⟩
set_option maxRecDepth 20000 in
theorem cvX5_68 : CVd RX5 68 6 mX5_takeByTun := ⟨tbW 3 127 (by first | rfl | decide +kernel) (by decide +kernel), tbW 3 129 (by first | rfl | decide +kernel) (by decide +kernel), tbW 0 18 (by first | rfl | decide +kernel) (by decide +kernel), by decide, _, _, rfl⟩
set_option maxRecDepth 20000 in
theorem cvX5_71 : CVd RX5 71 2 mX1_takeFrom := ⟨tbW 3 131 (by first | rfl | decide +kernel) (by decide +kernel), tbW 3 132 (by first | rfl | decide +kernel) (by decide +kernel), tbW 3 133 (by first | rfl | decide +kernel) (by decide +kernel), by decide, _, _, rfl⟩
set_option maxRecDepth 20000 in
theorem fgX5_40 : FLd RX5 40 6 7 11 := ⟨RX5, TX5, "WoodenMains$Street", rfl, inX5, by decide, by decide, tbW 2 22 (by first | rfl | decide +kernel) (by decide +kernel), Or.inl rfl⟩
set_option maxRecDepth 20000 in
theorem fgX5_74 : FLd RX5 74 7 1 6 := ⟨RX6, TX6, "WoodenMains$Tally", rfl, inX6, by decide, by decide, tbW 1 79 (by first | rfl | decide +kernel) (by decide +kernel), Or.inl rfl⟩
set_option maxRecDepth 20000 in
theorem fpX5_74 : FPt RX5 74 7 1 6 .int false := ⟨RX6, TX6, "WoodenMains$Tally", tyX6, rfl, inX6, by decide, by decide, tbW 1 79 (by first | rfl | decide +kernel) (by decide +kernel), Or.inl rfl, tyX6_ok, nmX6, by decide +kernel, rfl, fun h => (nomatch h)⟩
set_option maxRecDepth 20000 in
theorem fgX5_34 : FLd RX5 34 6 5 11 := ⟨RX5, TX5, "WoodenMains$Street", rfl, inX5, by decide, by decide, tbW 2 19 (by first | rfl | decide +kernel) (by decide +kernel), Or.inl rfl⟩
set_option maxRecDepth 20000 in
theorem fgX5_37 : FLd RX5 37 6 6 11 := ⟨RX5, TX5, "WoodenMains$Street", rfl, inX5, by decide, by decide, tbW 2 20 (by first | rfl | decide +kernel) (by decide +kernel), Or.inl rfl⟩
set_option maxRecDepth 20000 in
theorem fgX5_79 : FLd RX5 79 7 4 6 := ⟨RX6, TX6, "WoodenMains$Tally", rfl, inX6, by decide, by decide, tbW 1 84 (by first | rfl | decide +kernel) (by decide +kernel), Or.inl rfl⟩
set_option maxRecDepth 20000 in
theorem fpX5_79 : FPt RX5 79 7 4 6 .int false := ⟨RX6, TX6, "WoodenMains$Tally", tyX6, rfl, inX6, by decide, by decide, tbW 1 84 (by first | rfl | decide +kernel) (by decide +kernel), Or.inl rfl, tyX6_ok, nmX6, by decide +kernel, rfl, fun h => (nomatch h)⟩
set_option maxRecDepth 20000 in
theorem cvX5_82 : CVd RX5 82 2 mX1_roomInCistern := ⟨tbW 4 30 (by first | rfl | decide +kernel) (by decide +kernel), tbW 3 137 (by first | rfl | decide +kernel) (by decide +kernel), tbW 3 138 (by first | rfl | decide +kernel) (by decide +kernel), by decide, _, _, rfl⟩
set_option maxRecDepth 20000 in
theorem oiX6_1 : Cond.methodLink RX6 1 Lib.objectInit ∈ tbG := tbW 1 77 (by first | rfl | decide +kernel) (by decide +kernel)
set_option maxRecDepth 20000 in
theorem oiX7_3 : Cond.methodLink RX7 3 Lib.objectInit ∈ tbG := tbW 3 19 (by first | rfl | decide +kernel) (by decide +kernel)
set_option maxRecDepth 20000 in
theorem fpX7_9 : FPt RX7 9 8 0 4 .int true := ⟨RX7, TX7, "WoodenMains$Turn", tyX7, rfl, inX7, by decide, by decide, tbW 3 20 (by first | rfl | decide +kernel) (by decide +kernel), Or.inl rfl, tyX7_ok, nmX7, by decide +kernel, rfl, fun _ => rfl⟩
set_option maxRecDepth 20000 in
theorem fpX7_15 : FPt RX7 15 8 1 4 .int true := ⟨RX7, TX7, "WoodenMains$Turn", tyX7, rfl, inX7, by decide, by decide, tbW 3 23 (by first | rfl | decide +kernel) (by decide +kernel), Or.inl rfl, tyX7_ok, nmX7, by decide +kernel, rfl, fun _ => rfl⟩
set_option maxRecDepth 20000 in
theorem fpX7_18 : FPt RX7 18 8 2 4 .int true := ⟨RX7, TX7, "WoodenMains$Turn", tyX7, rfl, inX7, by decide, by decide, tbW 3 25 (by first | rfl | decide +kernel) (by decide +kernel), Or.inl rfl, tyX7_ok, nmX7, by decide +kernel, rfl, fun _ => rfl⟩
set_option maxRecDepth 20000 in
theorem fpX7_21 : FPt RX7 21 8 3 4 .int true := ⟨RX7, TX7, "WoodenMains$Turn", tyX7, rfl, inX7, by decide, by decide, tbW 3 27 (by first | rfl | decide +kernel) (by decide +kernel), Or.inl rfl, tyX7_ok, nmX7, by decide +kernel, rfl, fun _ => rfl⟩
set_option maxRecDepth 20000 in
theorem fgX7_18 : FLd RX7 18 8 2 4 := ⟨RX7, TX7, "WoodenMains$Turn", rfl, inX7, by decide, by decide, tbW 3 25 (by first | rfl | decide +kernel) (by decide +kernel), Or.inl rfl⟩
set_option maxRecDepth 20000 in
theorem csX7_24 : CSd RX7 24 mJ9_floorMod_7cf53 := ⟨tbW 3 83 (by first | rfl | decide +kernel) (by decide +kernel), tbW 3 43 (by first | rfl | decide +kernel) (by decide +kernel)⟩
set_option maxRecDepth 20000 in
theorem cvX7_30 : CVd RX7 30 8 mX7_hoursUntil := ⟨tbW 3 79 (by first | rfl | decide +kernel) (by decide +kernel), tbW 3 80 (by first | rfl | decide +kernel) (by decide +kernel), tbW 3 81 (by first | rfl | decide +kernel) (by decide +kernel), by decide, _, _, rfl⟩
set_option maxRecDepth 20000 in
theorem fgX7_21 : FLd RX7 21 8 3 4 := ⟨RX7, TX7, "WoodenMains$Turn", rfl, inX7, by decide, by decide, tbW 3 27 (by first | rfl | decide +kernel) (by decide +kernel), Or.inl rfl⟩
set_option maxRecDepth 20000 in
theorem oiX8_3 : Cond.methodLink RX8 3 Lib.objectInit ∈ tbG := tbW 1 63 (by first | rfl | decide +kernel) (by decide +kernel)
set_option maxRecDepth 20000 in
theorem fpX8_9 : FPt RX8 9 9 0 2 (.array .int) true := ⟨RX8, TX8, "WoodenMains$Week", tyX8, rfl, inX8, by decide, by decide, tbW 1 64 (by first | rfl | decide +kernel) (by decide +kernel), Or.inl rfl, tyX8_ok, nmX8, by decide +kernel, rfl, fun _ => rfl⟩
set_option maxRecDepth 20000 in
theorem fpX8_15 : FPt RX8 15 9 1 2 (.array .int) true := ⟨RX8, TX8, "WoodenMains$Week", tyX8, rfl, inX8, by decide, by decide, tbW 1 65 (by first | rfl | decide +kernel) (by decide +kernel), Or.inl rfl, tyX8_ok, nmX8, by decide +kernel, rfl, fun _ => rfl⟩
set_option maxRecDepth 20000 in
theorem fgX8_9 : FLd RX8 9 9 0 2 := ⟨RX8, TX8, "WoodenMains$Week", rfl, inX8, by decide, by decide, tbW 1 64 (by first | rfl | decide +kernel) (by decide +kernel), Or.inl rfl⟩
set_option maxRecDepth 20000 in
theorem csX8_18 : CSd RX8 18 mJ9_floorMod_7cf53 := ⟨tbW 3 42 (by first | rfl | decide +kernel) (by decide +kernel), tbW 3 43 (by first | rfl | decide +kernel) (by decide +kernel)⟩
set_option maxRecDepth 20000 in
theorem fgX8_15 : FLd RX8 15 9 1 2 := ⟨RX8, TX8, "WoodenMains$Week", rfl, inX8, by decide, by decide, tbW 1 65 (by first | rfl | decide +kernel) (by decide +kernel), Or.inl rfl⟩
set_option maxRecDepth 20000 in
theorem fgX8_24 : FLd RX8 24 8 3 4 := ⟨RX7, TX7, "WoodenMains$Turn", rfl, inX7, by decide, by decide, tbW 3 28 (by first | rfl | decide +kernel) (by decide +kernel), Or.inl rfl⟩
set_option maxRecDepth 20000 in
theorem fgX8_30 : FLd RX8 30 8 2 4 := ⟨RX7, TX7, "WoodenMains$Turn", rfl, inX7, by decide, by decide, tbW 3 26 (by first | rfl | decide +kernel) (by decide +kernel), Or.inl rfl⟩
set_option maxRecDepth 20000 in
theorem fgX8_33 : FLd RX8 33 8 0 4 := ⟨RX7, TX7, "WoodenMains$Turn", rfl, inX7, by decide, by decide, tbW 3 21 (by first | rfl | decide +kernel) (by decide +kernel), Or.inl rfl⟩
set_option maxRecDepth 20000 in
theorem csX8_36 : CSd RX8 36 mX8_openOf := ⟨tbW 3 45 (by first | rfl | decide +kernel) (by decide +kernel), tbW 3 46 (by first | rfl | decide +kernel) (by decide +kernel)⟩
set_option maxRecDepth 20000 in
theorem cvX8_40 : CVd RX8 40 0 mJx4a65c_size_8abf5 := ⟨tbW 3 48 (by first | rfl | decide +kernel) (by decide +kernel), tbW 1 218 (by first | rfl | decide +kernel) (by decide +kernel), tbW 1 219 (by first | rfl | decide +kernel) (by decide +kernel), by decide, _, _, rfl⟩
set_option maxRecDepth 20000 in
theorem cvX8_46 : CVd RX8 46 0 mJx4a65c_get_915e3 := ⟨tbW 3 49 (by first | rfl | decide +kernel) (by decide +kernel), tbW 1 222 (by first | rfl | decide +kernel) (by decide +kernel), tbW 1 223 (by first | rfl | decide +kernel) (by decide +kernel), by decide, _, _, rfl⟩
set_option maxRecDepth 20000 in
theorem clX8_50 : Cond.classLink RX8 50 "WoodenMains$Street" ∈ tbG := tbW 3 50 (by first | rfl | decide +kernel) (by decide +kernel)
set_option maxRecDepth 20000 in
theorem fgX8_52 : FLd RX8 52 6 0 11 := ⟨RX5, TX5, "WoodenMains$Street", rfl, inX5, by decide, by decide, tbW 2 10 (by first | rfl | decide +kernel) (by decide +kernel), Or.inl rfl⟩
set_option maxRecDepth 20000 in
theorem csX8_55 : CSdN RX8 55 mX9_hasStreet := ⟨"WoodenMains", List.mem_filter.mpr ⟨tbA 3 51 (by first | rfl | decide +kernel), rfl⟩, tbW 3 52 (by first | rfl | decide +kernel) (by decide +kernel)⟩
set_option maxRecDepth 20000 in
theorem oiX9_1 : Cond.methodLink RX9 1 Lib.objectInit ∈ tbG := tbW 1 27 (by first | rfl | decide +kernel) (by decide +kernel)
set_option maxRecDepth 20000 in
theorem nwX9_7 : FNw RX9 7 0 3 (fun j => ([0, 1, 0] : List Nat).getD j 0) := ⟨RJx4a65c, TJx4a65c, tyJx4a65c, rfl, inJx4a65c, tyJx4a65c_ok, tbW 1 30 (by first | rfl | decide +kernel) (by decide +kernel), tbW 1 31 (by first | rfl | decide +kernel) (by decide +kernel), tbW 1 4 (by first | rfl | decide +kernel) (by decide +kernel), by decide, by decide +kernel⟩
set_option maxRecDepth 20000 in
theorem ciX9_9 : CId RX9 9 mJx4a65c_init_da8c8 := ⟨tbW 1 32 (by first | rfl | decide +kernel) (by decide +kernel), tbW 1 33 (by first | rfl | decide +kernel) (by decide +kernel), rfl, rfl⟩
set_option maxRecDepth 20000 in
theorem fpX9_10 : FPt RX9 10 10 0 15 (.object "java/util/ArrayList") true := ⟨RX9, TX9, "WoodenMains", tyX9, rfl, inX9, by decide, by decide, tbW 1 159 (by first | rfl | decide +kernel) (by decide +kernel), Or.inl rfl, tyX9_ok, nmX9, by decide +kernel, rfl, fun _ => rfl⟩
set_option maxRecDepth 20000 in
theorem fpX9_16 : FPt RX9 16 10 1 15 (.object "java/util/ArrayList") true := ⟨RX9, TX9, "WoodenMains", tyX9, rfl, inX9, by decide, by decide, tbW 1 160 (by first | rfl | decide +kernel) (by decide +kernel), Or.inl rfl, tyX9_ok, nmX9, by decide +kernel, rfl, fun _ => rfl⟩
set_option maxRecDepth 20000 in
theorem fpX9_19 : FPt RX9 19 10 2 15 (.object "java/util/ArrayList") true := ⟨RX9, TX9, "WoodenMains", tyX9, rfl, inX9, by decide, by decide, tbW 1 161 (by first | rfl | decide +kernel) (by decide +kernel), Or.inl rfl, tyX9_ok, nmX9, by decide +kernel, rfl, fun _ => rfl⟩
set_option maxRecDepth 20000 in
theorem fpX9_22 : FPt RX9 22 10 3 15 (.object "java/util/ArrayList") true := ⟨RX9, TX9, "WoodenMains", tyX9, rfl, inX9, by decide, by decide, tbW 1 162 (by first | rfl | decide +kernel) (by decide +kernel), Or.inl rfl, tyX9_ok, nmX9, by decide +kernel, rfl, fun _ => rfl⟩
set_option maxRecDepth 20000 in
theorem clX9_25 : Cond.classLink RX9 25 "WoodenMains$Row" ∈ tbG := tbW 1 56 (by first | rfl | decide +kernel) (by decide +kernel)
set_option maxRecDepth 20000 in
theorem fpX9_27 : FPt RX9 27 10 4 15 (.array (.object "WoodenMains$Row")) true := ⟨RX9, TX9, "WoodenMains", tyX9, rfl, inX9, by decide, by decide, tbW 1 163 (by first | rfl | decide +kernel) (by decide +kernel), Or.inl rfl, tyX9_ok, nmX9, by decide +kernel, rfl, fun _ => rfl⟩
set_option maxRecDepth 20000 in
theorem fpX9_31 : FPt RX9 31 10 5 15 (.array .int) true := ⟨RX9, TX9, "WoodenMains", tyX9, rfl, inX9, by decide, by decide, tbW 1 164 (by first | rfl | decide +kernel) (by decide +kernel), Or.inl rfl, tyX9_ok, nmX9, by decide +kernel, rfl, fun _ => rfl⟩
set_option maxRecDepth 20000 in
theorem fpX9_35 : FPt RX9 35 10 6 15 (.array .int) true := ⟨RX9, TX9, "WoodenMains", tyX9, rfl, inX9, by decide, by decide, tbW 1 165 (by first | rfl | decide +kernel) (by decide +kernel), Or.inl rfl, tyX9_ok, nmX9, by decide +kernel, rfl, fun _ => rfl⟩
set_option maxRecDepth 20000 in
theorem fpX9_38 : FPt RX9 38 10 7 15 (.array .int) true := ⟨RX9, TX9, "WoodenMains", tyX9, rfl, inX9, by decide, by decide, tbW 1 166 (by first | rfl | decide +kernel) (by decide +kernel), Or.inl rfl, tyX9_ok, nmX9, by decide +kernel, rfl, fun _ => rfl⟩
set_option maxRecDepth 20000 in
theorem nwX9_41 : FNw RX9 41 9 2 (fun j => ([1, 1] : List Nat).getD j 0) := ⟨RX8, TX8, tyX8, rfl, inX8, tyX8_ok, tbW 1 58 (by first | rfl | decide +kernel) (by decide +kernel), tbW 1 59 (by first | rfl | decide +kernel) (by decide +kernel), tbW 1 5 (by first | rfl | decide +kernel) (by decide +kernel), by decide, by decide +kernel⟩
set_option maxRecDepth 20000 in
theorem ciX9_43 : CIdN RX9 43 mX8_init := ⟨"WoodenMains", List.mem_filter.mpr ⟨tbA 1 60 (by first | rfl | decide +kernel), rfl⟩, tbW 1 61 (by first | rfl | decide +kernel) (by decide +kernel), rfl, rfl⟩
set_option maxRecDepth 20000 in
theorem fpX9_44 : FPt RX9 44 10 8 15 (.object "WoodenMains$Week") true := ⟨RX9, TX9, "WoodenMains", tyX9, rfl, inX9, by decide, by decide, tbW 1 167 (by first | rfl | decide +kernel) (by decide +kernel), Or.inl rfl, tyX9_ok, nmX9, by decide +kernel, rfl, fun _ => rfl⟩
set_option maxRecDepth 20000 in
theorem nwX9_48 : FNw RX9 48 7 6 (fun j => ([] : List Nat).getD j 0) := ⟨RX6, TX6, tyX6, rfl, inX6, tyX6_ok, tbW 1 72 (by first | rfl | decide +kernel) (by decide +kernel), tbW 1 73 (by first | rfl | decide +kernel) (by decide +kernel), tbW 1 6 (by first | rfl | decide +kernel) (by decide +kernel), by decide, by decide +kernel⟩
set_option maxRecDepth 20000 in
theorem ciX9_50 : CIdN RX9 50 mX6_init := ⟨"WoodenMains", List.mem_filter.mpr ⟨tbA 1 74 (by first | rfl | decide +kernel), rfl⟩, tbW 1 75 (by first | rfl | decide +kernel) (by decide +kernel), rfl, rfl⟩
set_option maxRecDepth 20000 in
theorem fpX9_51 : FPt RX9 51 10 9 15 (.object "WoodenMains$Tally") true := ⟨RX9, TX9, "WoodenMains", tyX9, rfl, inX9, by decide, by decide, tbW 1 168 (by first | rfl | decide +kernel) (by decide +kernel), Or.inl rfl, tyX9_ok, nmX9, by decide +kernel, rfl, fun _ => rfl⟩
set_option maxRecDepth 20000 in
theorem nwX9_55 : FNw RX9 55 3 2 (fun j => ([1, 1] : List Nat).getD j 0) := ⟨RX2, TX2, tyX2, rfl, inX2, tyX2_ok, tbW 1 100 (by first | rfl | decide +kernel) (by decide +kernel), tbW 1 101 (by first | rfl | decide +kernel) (by decide +kernel), tbW 1 7 (by first | rfl | decide +kernel) (by decide +kernel), by decide, by decide +kernel⟩
set_option maxRecDepth 20000 in
theorem ciX9_57 : CIdN RX9 57 mX2_init := ⟨"WoodenMains", List.mem_filter.mpr ⟨tbA 1 102 (by first | rfl | decide +kernel), rfl⟩, tbW 1 103 (by first | rfl | decide +kernel) (by decide +kernel), rfl, rfl⟩
set_option maxRecDepth 20000 in
theorem fpX9_58 : FPt RX9 58 10 10 15 (.object "WoodenMains$IronSearch") true := ⟨RX9, TX9, "WoodenMains", tyX9, rfl, inX9, by decide, by decide, tbW 1 169 (by first | rfl | decide +kernel) (by decide +kernel), Or.inl rfl, tyX9_ok, nmX9, by decide +kernel, rfl, fun _ => rfl⟩
set_option maxRecDepth 20000 in
theorem nwX9_62 : FNw RX9 62 1 8 (fun j => ([1, 1, 1, 1, 0, 0, 0, 0] : List Nat).getD j 0) := ⟨RX0, TX0, tyX0, rfl, inX0, tyX0_ok, tbW 1 113 (by first | rfl | decide +kernel) (by decide +kernel), tbW 1 114 (by first | rfl | decide +kernel) (by decide +kernel), tbW 1 8 (by first | rfl | decide +kernel) (by decide +kernel), by decide, by decide +kernel⟩
set_option maxRecDepth 20000 in
theorem ciX9_64 : CIdN RX9 64 mX0_init := ⟨"WoodenMains", List.mem_filter.mpr ⟨tbA 1 115 (by first | rfl | decide +kernel), rfl⟩, tbW 1 116 (by first | rfl | decide +kernel) (by decide +kernel), rfl, rfl⟩
set_option maxRecDepth 20000 in
theorem fpX9_65 : FPt RX9 65 10 11 15 (.object "WoodenMains$DaySearch") true := ⟨RX9, TX9, "WoodenMains", tyX9, rfl, inX9, by decide, by decide, tbW 1 170 (by first | rfl | decide +kernel) (by decide +kernel), Or.inl rfl, tyX9_ok, nmX9, by decide +kernel, rfl, fun _ => rfl⟩
set_option maxRecDepth 20000 in
theorem fgX9_27 : FLd RX9 27 10 4 15 := ⟨RX9, TX9, "WoodenMains", rfl, inX9, by decide, by decide, tbW 1 163 (by first | rfl | decide +kernel) (by decide +kernel), Or.inl rfl⟩
set_option maxRecDepth 20000 in
theorem nwX9_25 : FNw RX9 25 5 2 (fun j => ([1, 0] : List Nat).getD j 0) := ⟨RX4, TX4, tyX4, rfl, inX4, tyX4_ok, tbW 1 56 (by first | rfl | decide +kernel) (by decide +kernel), tbW 1 145 (by first | rfl | decide +kernel) (by decide +kernel), tbW 1 9 (by first | rfl | decide +kernel) (by decide +kernel), by decide, by decide +kernel⟩
set_option maxRecDepth 20000 in
theorem ciX9_69 : CIdN RX9 69 mX4_init := ⟨"WoodenMains", List.mem_filter.mpr ⟨tbA 1 146 (by first | rfl | decide +kernel), rfl⟩, tbW 1 147 (by first | rfl | decide +kernel) (by decide +kernel), rfl, rfl⟩
set_option maxRecDepth 20000 in
theorem cvX9_70 : CVd RX9 70 10 mX9_isPlace := ⟨tbW 1 209 (by first | rfl | decide +kernel) (by decide +kernel), tbW 1 211 (by first | rfl | decide +kernel) (by decide +kernel), tbW 0 0 (by first | rfl | decide +kernel) (by decide +kernel), by decide, _, _, rfl⟩
set_option maxRecDepth 20000 in
theorem cvX9_74 : CVd RX9 74 10 mX9_refuse := ⟨tbW 1 236 (by first | rfl | decide +kernel) (by decide +kernel), tbW 1 238 (by first | rfl | decide +kernel) (by decide +kernel), tbW 0 2 (by first | rfl | decide +kernel) (by decide +kernel), by decide, _, _, rfl⟩
set_option maxRecDepth 20000 in
theorem fgX9_10 : FLd RX9 10 10 0 15 := ⟨RX9, TX9, "WoodenMains", rfl, inX9, by decide, by decide, tbW 1 159 (by first | rfl | decide +kernel) (by decide +kernel), Or.inl rfl⟩
set_option maxRecDepth 20000 in
theorem cvX9_78 : CVd RX9 78 0 mJx4a65c_size_8abf5 := ⟨tbW 1 217 (by first | rfl | decide +kernel) (by decide +kernel), tbW 1 218 (by first | rfl | decide +kernel) (by decide +kernel), tbW 1 219 (by first | rfl | decide +kernel) (by decide +kernel), by decide, _, _, rfl⟩
set_option maxRecDepth 20000 in
theorem nwX9_82 : FNw RX9 82 6 11 (fun j => if j = 10 then 1 else 0) := ⟨RX5, TX5, tyX5, rfl, inX5, tyX5_ok, tbW 1 235 (by first | rfl | decide +kernel) (by decide +kernel), tbW 2 0 (by first | rfl | decide +kernel) (by decide +kernel), tbW 1 13 (by first | rfl | decide +kernel) (by decide +kernel), by decide, by decide +kernel⟩
set_option maxRecDepth 20000 in
theorem cvX9_84 : CVd RX9 84 10 mX9_weekNow := ⟨tbW 2 1 (by first | rfl | decide +kernel) (by decide +kernel), tbW 2 3 (by first | rfl | decide +kernel) (by decide +kernel), tbW 0 3 (by first | rfl | decide +kernel) (by decide +kernel), by decide, _, _, rfl⟩
set_option maxRecDepth 20000 in
theorem ciX9_87 : CId RX9 87 mX5_init := ⟨tbW 2 5 (by first | rfl | decide +kernel) (by decide +kernel), tbW 2 6 (by first | rfl | decide +kernel) (by decide +kernel), rfl, rfl⟩
set_option maxRecDepth 20000 in
theorem cvX9_90 : CVd RX9 90 0 mJx4a65c_add_9ea2d := ⟨tbW 2 52 (by first | rfl | decide +kernel) (by decide +kernel), tbW 2 53 (by first | rfl | decide +kernel) (by decide +kernel), tbW 2 54 (by first | rfl | decide +kernel) (by decide +kernel), by decide, _, _, rfl⟩
set_option maxRecDepth 20000 in
theorem gsX9_94 : Cond.fieldLink RX9 94 "WoodenMains" "LEAST_SETTINGS" "[I" ∈ tbG := tbW 2 115 (by first | rfl | decide +kernel) (by decide +kernel)
set_option maxRecDepth 20000 in
theorem gsX9_97 : Cond.fieldLink RX9 97 "WoodenMains" "MOST_SETTINGS" "[I" ∈ tbG := tbW 2 117 (by first | rfl | decide +kernel) (by decide +kernel)
set_option maxRecDepth 20000 in
theorem fgX9_35 : FLd RX9 35 10 6 15 := ⟨RX9, TX9, "WoodenMains", rfl, inX9, by decide, by decide, tbW 1 165 (by first | rfl | decide +kernel) (by decide +kernel), Or.inl rfl⟩
set_option maxRecDepth 20000 in
theorem kcX9_100 : Cond.constant RX9 100 100000 ∈ tbG := tbW 2 123 (by first | rfl | decide +kernel) (by decide +kernel)
set_option maxRecDepth 20000 in
theorem fgX9_101 : FLd RX9 101 10 13 15 := ⟨RX9, TX9, "WoodenMains", rfl, inX9, by decide, by decide, tbW 1 172 (by first | rfl | decide +kernel) (by decide +kernel), Or.inl rfl⟩
set_option maxRecDepth 20000 in
theorem fpX9_101 : FPt RX9 101 10 13 15 .int false := ⟨RX9, TX9, "WoodenMains", tyX9, rfl, inX9, by decide, by decide, tbW 1 172 (by first | rfl | decide +kernel) (by decide +kernel), Or.inl rfl, tyX9_ok, nmX9, by decide +kernel, rfl, fun _ => rfl⟩
set_option maxRecDepth 20000 in
theorem cvX9_105 : CVd RX9 105 10 mX9_streetAt := ⟨tbW 1 213 (by first | rfl | decide +kernel) (by decide +kernel), tbW 1 215 (by first | rfl | decide +kernel) (by decide +kernel), tbW 0 1 (by first | rfl | decide +kernel) (by decide +kernel), by decide, _, _, rfl⟩
set_option maxRecDepth 20000 in
theorem fgX9_16 : FLd RX9 16 10 1 15 := ⟨RX9, TX9, "WoodenMains", rfl, inX9, by decide, by decide, tbW 1 160 (by first | rfl | decide +kernel) (by decide +kernel), Or.inl rfl⟩
set_option maxRecDepth 20000 in
theorem nwX9_109 : FNw RX9 109 2 9 (fun j => if j = 8 then 1 else 0) := ⟨RX1, TX1, tyX1, rfl, inX1, tyX1_ok, tbW 2 128 (by first | rfl | decide +kernel) (by decide +kernel), tbW 2 129 (by first | rfl | decide +kernel) (by decide +kernel), tbW 1 18 (by first | rfl | decide +kernel) (by decide +kernel), by decide, by decide +kernel⟩
set_option maxRecDepth 20000 in
theorem ciX9_111 : CId RX9 111 mX1_init := ⟨tbW 2 130 (by first | rfl | decide +kernel) (by decide +kernel), tbW 2 131 (by first | rfl | decide +kernel) (by decide +kernel), rfl, rfl⟩
set_option maxRecDepth 20000 in
theorem cvX9_114 : CVd RX9 114 6 mX5_admit := ⟨tbW 2 170 (by first | rfl | decide +kernel) (by decide +kernel), tbW 2 171 (by first | rfl | decide +kernel) (by decide +kernel), tbW 2 172 (by first | rfl | decide +kernel) (by decide +kernel), by decide, _, _, rfl⟩
set_option maxRecDepth 20000 in
theorem cvX9_118 : CVd RX9 118 10 mX9_rowAt := ⟨tbW 2 178 (by first | rfl | decide +kernel) (by decide +kernel), tbW 2 180 (by first | rfl | decide +kernel) (by decide +kernel), tbW 0 7 (by first | rfl | decide +kernel) (by decide +kernel), by decide, _, _, rfl⟩
set_option maxRecDepth 20000 in
theorem cvX9_122 : CVd RX9 122 5 mX4_makeAnew := ⟨tbW 2 182 (by first | rfl | decide +kernel) (by decide +kernel), tbW 2 183 (by first | rfl | decide +kernel) (by decide +kernel), tbW 2 184 (by first | rfl | decide +kernel) (by decide +kernel), by decide, _, _, rfl⟩
set_option maxRecDepth 20000 in
theorem cvX9_126 : CVd RX9 126 5 mX4_isMissing := ⟨tbW 2 193 (by first | rfl | decide +kernel) (by decide +kernel), tbW 2 194 (by first | rfl | decide +kernel) (by decide +kernel), tbW 2 195 (by first | rfl | decide +kernel) (by decide +kernel), by decide, _, _, rfl⟩
set_option maxRecDepth 20000 in
theorem cvX9_130 : CVd RX9 130 5 mX4_forget := ⟨tbW 2 197 (by first | rfl | decide +kernel) (by decide +kernel), tbW 2 198 (by first | rfl | decide +kernel) (by decide +kernel), tbW 2 199 (by first | rfl | decide +kernel) (by decide +kernel), by decide, _, _, rfl⟩
set_option maxRecDepth 20000 in
theorem cvX9_133 : CVd RX9 133 5 mX4_hasPlaces := ⟨tbW 2 205 (by first | rfl | decide +kernel) (by decide +kernel), tbW 2 206 (by first | rfl | decide +kernel) (by decide +kernel), tbW 2 207 (by first | rfl | decide +kernel) (by decide +kernel), by decide, _, _, rfl⟩
set_option maxRecDepth 20000 in
theorem fgX9_137 : FLd RX9 137 5 0 2 := ⟨RX4, TX4, "WoodenMains$Row", rfl, inX4, by decide, by decide, tbW 1 151 (by first | rfl | decide +kernel) (by decide +kernel), Or.inl rfl⟩
set_option maxRecDepth 20000 in
theorem acX9_140 : ACw RX9 140 := ⟨tbW 2 213 (by first | rfl | decide +kernel) (by decide +kernel), tbW 2 108 (by first | rfl | decide +kernel) (by decide +kernel), tbW 2 107 (by first | rfl | decide +kernel) (by decide +kernel), tbW 1 17 (by first | rfl | decide +kernel) (by decide +kernel)⟩
set_option maxRecDepth 20000 in
theorem cvX9_146 : CVd RX9 146 10 mX9_houseAt := ⟨tbW 2 218 (by first | rfl | decide +kernel) (by decide +kernel), tbW 2 220 (by first | rfl | decide +kernel) (by decide +kernel), tbW 0 8 (by first | rfl | decide +kernel) (by decide +kernel), by decide, _, _, rfl⟩
set_option maxRecDepth 20000 in
theorem cvX9_150 : CVd RX9 150 10 mX9_refuseAside := ⟨tbW 2 222 (by first | rfl | decide +kernel) (by decide +kernel), tbW 2 224 (by first | rfl | decide +kernel) (by decide +kernel), tbW 0 9 (by first | rfl | decide +kernel) (by decide +kernel), by decide, _, _, rfl⟩
set_option maxRecDepth 20000 in
theorem fgX9_153 : FLd RX9 153 2 5 9 := ⟨RX1, TX1, "WoodenMains$House", rfl, inX1, by decide, by decide, tbW 2 145 (by first | rfl | decide +kernel) (by decide +kernel), Or.inl rfl⟩
set_option maxRecDepth 20000 in
theorem fpX9_153 : FPt RX9 153 2 5 9 .int false := ⟨RX1, TX1, "WoodenMains$House", tyX1, rfl, inX1, by decide, by decide, tbW 2 145 (by first | rfl | decide +kernel) (by decide +kernel), Or.inl rfl, tyX1_ok, nmX1, by decide +kernel, rfl, fun h => (nomatch h)⟩
set_option maxRecDepth 20000 in
theorem fgX9_156 : FLd RX9 156 6 4 11 := ⟨RX5, TX5, "WoodenMains$Street", rfl, inX5, by decide, by decide, tbW 2 18 (by first | rfl | decide +kernel) (by decide +kernel), Or.inl rfl⟩
set_option maxRecDepth 20000 in
theorem cvX9_159 : CVd RX9 159 6 mX5_setAtEnd := ⟨tbW 2 231 (by first | rfl | decide +kernel) (by decide +kernel), tbW 2 232 (by first | rfl | decide +kernel) (by decide +kernel), tbW 2 233 (by first | rfl | decide +kernel) (by decide +kernel), by decide, _, _, rfl⟩
set_option maxRecDepth 20000 in
theorem fgX9_163 : FLd RX9 163 6 6 11 := ⟨RX5, TX5, "WoodenMains$Street", rfl, inX5, by decide, by decide, tbW 2 21 (by first | rfl | decide +kernel) (by decide +kernel), Or.inl rfl⟩
set_option maxRecDepth 20000 in
theorem fgX9_166 : FLd RX9 166 6 7 11 := ⟨RX5, TX5, "WoodenMains$Street", rfl, inX5, by decide, by decide, tbW 2 23 (by first | rfl | decide +kernel) (by decide +kernel), Or.inl rfl⟩
set_option maxRecDepth 20000 in
theorem fpX9_166 : FPt RX9 166 6 7 11 .boolean false := ⟨RX5, TX5, "WoodenMains$Street", tyX5, rfl, inX5, by decide, by decide, tbW 2 23 (by first | rfl | decide +kernel) (by decide +kernel), Or.inl rfl, tyX5_ok, nmX5, by decide +kernel, rfl, fun h => (nomatch h)⟩
set_option maxRecDepth 20000 in
theorem fpX9_163 : FPt RX9 163 6 6 11 .int false := ⟨RX5, TX5, "WoodenMains$Street", tyX5, rfl, inX5, by decide, by decide, tbW 2 21 (by first | rfl | decide +kernel) (by decide +kernel), Or.inl rfl, tyX5_ok, nmX5, by decide +kernel, rfl, fun h => (nomatch h)⟩
set_option maxRecDepth 20000 in
theorem csX9_170 : CSd RX9 170 mX9_isCock := ⟨tbW 3 11 (by first | rfl | decide +kernel) (by decide +kernel), tbW 3 12 (by first | rfl | decide +kernel) (by decide +kernel)⟩
set_option maxRecDepth 20000 in
theorem fgX9_19 : FLd RX9 19 10 2 15 := ⟨RX9, TX9, "WoodenMains", rfl, inX9, by decide, by decide, tbW 1 161 (by first | rfl | decide +kernel) (by decide +kernel), Or.inl rfl⟩
set_option maxRecDepth 20000 in
theorem nwX9_173 : FNw RX9 173 8 4 (fun _ => 0) := ⟨RX7, TX7, tyX7, rfl, inX7, tyX7_ok, tbW 3 14 (by first | rfl | decide +kernel) (by decide +kernel), tbW 3 15 (by first | rfl | decide +kernel) (by decide +kernel), tbW 1 19 (by first | rfl | decide +kernel) (by decide +kernel), by decide, by decide +kernel⟩
set_option maxRecDepth 20000 in
theorem ciX9_175 : CId RX9 175 mX7_init := ⟨tbW 3 16 (by first | rfl | decide +kernel) (by decide +kernel), tbW 3 17 (by first | rfl | decide +kernel) (by decide +kernel), rfl, rfl⟩
set_option maxRecDepth 20000 in
theorem fgX9_44 : FLd RX9 44 10 8 15 := ⟨RX9, TX9, "WoodenMains", rfl, inX9, by decide, by decide, tbW 1 167 (by first | rfl | decide +kernel) (by decide +kernel), Or.inl rfl⟩
set_option maxRecDepth 20000 in
theorem cvX9_178 : CVd RX9 178 9 mX8_add := ⟨tbW 3 38 (by first | rfl | decide +kernel) (by decide +kernel), tbW 3 39 (by first | rfl | decide +kernel) (by decide +kernel), tbW 3 40 (by first | rfl | decide +kernel) (by decide +kernel), by decide, _, _, rfl⟩
set_option maxRecDepth 20000 in
theorem cvX9_181 : CVd RX9 181 9 mX8_letStreets := ⟨tbW 3 58 (by first | rfl | decide +kernel) (by decide +kernel), tbW 3 59 (by first | rfl | decide +kernel) (by decide +kernel), tbW 3 60 (by first | rfl | decide +kernel) (by decide +kernel), by decide, _, _, rfl⟩
set_option maxRecDepth 20000 in
theorem cvX9_184 : CVd RX9 184 9 mX8_openStreets := ⟨tbW 3 62 (by first | rfl | decide +kernel) (by decide +kernel), tbW 3 63 (by first | rfl | decide +kernel) (by decide +kernel), tbW 3 64 (by first | rfl | decide +kernel) (by decide +kernel), by decide, _, _, rfl⟩
set_option maxRecDepth 20000 in
theorem csX9_187 : CSd RX9 187 mX9_hasStreet := ⟨tbW 3 66 (by first | rfl | decide +kernel) (by decide +kernel), tbW 3 52 (by first | rfl | decide +kernel) (by decide +kernel)⟩
set_option maxRecDepth 20000 in
theorem cvX9_190 : CVd RX9 190 0 mJx4a65c_get_915e3 := ⟨tbW 1 221 (by first | rfl | decide +kernel) (by decide +kernel), tbW 1 222 (by first | rfl | decide +kernel) (by decide +kernel), tbW 1 223 (by first | rfl | decide +kernel) (by decide +kernel), by decide, _, _, rfl⟩
set_option maxRecDepth 20000 in
theorem clX9_173 : Cond.classLink RX9 173 "WoodenMains$Turn" ∈ tbG := tbW 3 14 (by first | rfl | decide +kernel) (by decide +kernel)
set_option maxRecDepth 20000 in
theorem fgX9_194 : FLd RX9 194 8 1 4 := ⟨RX7, TX7, "WoodenMains$Turn", rfl, inX7, by decide, by decide, tbW 3 24 (by first | rfl | decide +kernel) (by decide +kernel), Or.inl rfl⟩
set_option maxRecDepth 20000 in
theorem cvX9_197 : CVd RX9 197 10 mX9_isClash := ⟨tbW 3 71 (by first | rfl | decide +kernel) (by decide +kernel), tbW 3 73 (by first | rfl | decide +kernel) (by decide +kernel), tbW 0 10 (by first | rfl | decide +kernel) (by decide +kernel), by decide, _, _, rfl⟩
set_option maxRecDepth 20000 in
theorem fgX9_201 : FLd RX9 201 10 12 15 := ⟨RX9, TX9, "WoodenMains", rfl, inX9, by decide, by decide, tbW 1 171 (by first | rfl | decide +kernel) (by decide +kernel), Or.inl rfl⟩
set_option maxRecDepth 20000 in
theorem cvX9_204 : CVd RX9 204 10 mX9_passHour := ⟨tbW 3 98 (by first | rfl | decide +kernel) (by decide +kernel), tbW 3 100 (by first | rfl | decide +kernel) (by decide +kernel), tbW 0 13 (by first | rfl | decide +kernel) (by decide +kernel), by decide, _, _, rfl⟩
set_option maxRecDepth 20000 in
theorem fgX9_207 : FLd RX9 207 6 3 11 := ⟨RX5, TX5, "WoodenMains$Street", rfl, inX5, by decide, by decide, tbW 2 16 (by first | rfl | decide +kernel) (by decide +kernel), Or.inl rfl⟩
set_option maxRecDepth 20000 in
theorem fpX9_207 : FPt RX9 207 6 3 11 .boolean false := ⟨RX5, TX5, "WoodenMains$Street", tyX5, rfl, inX5, by decide, by decide, tbW 2 16 (by first | rfl | decide +kernel) (by decide +kernel), Or.inl rfl, tyX5_ok, nmX5, by decide +kernel, rfl, fun h => (nomatch h)⟩
set_option maxRecDepth 20000 in
theorem cvX9_210 : CVd RX9 210 6 mX5_layAnew := ⟨tbW 3 156 (by first | rfl | decide +kernel) (by decide +kernel), tbW 3 157 (by first | rfl | decide +kernel) (by decide +kernel), tbW 3 158 (by first | rfl | decide +kernel) (by decide +kernel), by decide, _, _, rfl⟩
set_option maxRecDepth 20000 in
theorem fgX9_31 : FLd RX9 31 10 5 15 := ⟨RX9, TX9, "WoodenMains", rfl, inX9, by decide, by decide, tbW 1 164 (by first | rfl | decide +kernel) (by decide +kernel), Or.inl rfl⟩
set_option maxRecDepth 20000 in
theorem cvX9_213 : CVd RX9 213 10 mX9_stepsBetween := ⟨tbW 3 86 (by first | rfl | decide +kernel) (by decide +kernel), tbW 3 88 (by first | rfl | decide +kernel) (by decide +kernel), tbW 0 11 (by first | rfl | decide +kernel) (by decide +kernel), by decide, _, _, rfl⟩
set_option maxRecDepth 20000 in
theorem cvX9_217 : CVd RX9 217 10 mX9_shutUpTo := ⟨tbW 3 176 (by first | rfl | decide +kernel) (by decide +kernel), tbW 3 178 (by first | rfl | decide +kernel) (by decide +kernel), tbW 0 21 (by first | rfl | decide +kernel) (by decide +kernel), by decide, _, _, rfl⟩
set_option maxRecDepth 20000 in
theorem csX9_220 : CSd RX9 220 mJ6_bitCount_0f7a4 := ⟨tbW 3 180 (by first | rfl | decide +kernel) (by decide +kernel), tbW 3 181 (by first | rfl | decide +kernel) (by decide +kernel)⟩
set_option maxRecDepth 20000 in
theorem cvX9_225 : CVd RX9 225 10 mX9_quickestCock := ⟨tbW 3 186 (by first | rfl | decide +kernel) (by decide +kernel), tbW 3 188 (by first | rfl | decide +kernel) (by decide +kernel), tbW 0 22 (by first | rfl | decide +kernel) (by decide +kernel), by decide, _, _, rfl⟩
set_option maxRecDepth 20000 in
theorem cvX9_228 : CVd RX9 228 10 mX9_walkLength := ⟨tbW 3 190 (by first | rfl | decide +kernel) (by decide +kernel), tbW 3 192 (by first | rfl | decide +kernel) (by decide +kernel), tbW 0 23 (by first | rfl | decide +kernel) (by decide +kernel), by decide, _, _, rfl⟩
set_option maxRecDepth 20000 in
theorem fgX9_231 : FLd RX9 231 10 14 15 := ⟨RX9, TX9, "WoodenMains", rfl, inX9, by decide, by decide, tbW 1 173 (by first | rfl | decide +kernel) (by decide +kernel), Or.inl rfl⟩
set_option maxRecDepth 20000 in
theorem cvX9_234 : CVd RX9 234 6 mX5_hemIn := ⟨tbW 3 205 (by first | rfl | decide +kernel) (by decide +kernel), tbW 3 206 (by first | rfl | decide +kernel) (by decide +kernel), tbW 3 207 (by first | rfl | decide +kernel) (by decide +kernel), by decide, _, _, rfl⟩
set_option maxRecDepth 20000 in
theorem fpX9_231 : FPt RX9 231 10 14 15 .int false := ⟨RX9, TX9, "WoodenMains", tyX9, rfl, inX9, by decide, by decide, tbW 1 173 (by first | rfl | decide +kernel) (by decide +kernel), Or.inl rfl, tyX9_ok, nmX9, by decide +kernel, rfl, fun _ => rfl⟩
set_option maxRecDepth 20000 in
theorem fgX9_237 : FLd RX9 237 6 8 11 := ⟨RX5, TX5, "WoodenMains$Street", rfl, inX5, by decide, by decide, tbW 2 25 (by first | rfl | decide +kernel) (by decide +kernel), Or.inl rfl⟩
set_option maxRecDepth 20000 in
theorem fgX9_240 : FLd RX9 240 6 9 11 := ⟨RX5, TX5, "WoodenMains$Street", rfl, inX5, by decide, by decide, tbW 2 27 (by first | rfl | decide +kernel) (by decide +kernel), Or.inl rfl⟩
set_option maxRecDepth 20000 in
theorem csX9_243 : CSd RX9 243 mX9_refusalOfIronSum := ⟨tbW 3 218 (by first | rfl | decide +kernel) (by decide +kernel), tbW 3 219 (by first | rfl | decide +kernel) (by decide +kernel)⟩
set_option maxRecDepth 20000 in
theorem cvX9_246 : CVd RX9 246 10 mX9_findIron := ⟨tbW 3 221 (by first | rfl | decide +kernel) (by decide +kernel), tbW 3 223 (by first | rfl | decide +kernel) (by decide +kernel), tbW 0 24 (by first | rfl | decide +kernel) (by decide +kernel), by decide, _, _, rfl⟩
set_option maxRecDepth 20000 in
theorem fgX9_58 : FLd RX9 58 10 10 15 := ⟨RX9, TX9, "WoodenMains", rfl, inX9, by decide, by decide, tbW 1 169 (by first | rfl | decide +kernel) (by decide +kernel), Or.inl rfl⟩
set_option maxRecDepth 20000 in
theorem cvX9_249 : CVd RX9 249 3 mX2_worthOf := ⟨tbW 4 6 (by first | rfl | decide +kernel) (by decide +kernel), tbW 4 7 (by first | rfl | decide +kernel) (by decide +kernel), tbW 4 8 (by first | rfl | decide +kernel) (by decide +kernel), by decide, _, _, rfl⟩
set_option maxRecDepth 20000 in
theorem cvX9_252 : CVd RX9 252 10 mX9_refusalOfDays := ⟨tbW 4 14 (by first | rfl | decide +kernel) (by decide +kernel), tbW 4 16 (by first | rfl | decide +kernel) (by decide +kernel), tbW 0 26 (by first | rfl | decide +kernel) (by decide +kernel), by decide, _, _, rfl⟩
set_option maxRecDepth 20000 in
theorem cvX9_255 : CVd RX9 255 10 mX9_findDays := ⟨tbW 4 18 (by first | rfl | decide +kernel) (by decide +kernel), tbW 4 20 (by first | rfl | decide +kernel) (by decide +kernel), tbW 0 27 (by first | rfl | decide +kernel) (by decide +kernel), by decide, _, _, rfl⟩
set_option maxRecDepth 20000 in
theorem fgX9_65 : FLd RX9 65 10 11 15 := ⟨RX9, TX9, "WoodenMains", rfl, inX9, by decide, by decide, tbW 1 170 (by first | rfl | decide +kernel) (by decide +kernel), Or.inl rfl⟩
set_option maxRecDepth 20000 in
theorem fgX9_258 : FLd RX9 258 1 7 8 := ⟨RX0, TX0, "WoodenMains$DaySearch", rfl, inX0, by decide, by decide, tbW 1 127 (by first | rfl | decide +kernel) (by decide +kernel), Or.inl rfl⟩
set_option maxRecDepth 20000 in
theorem cvX9_261 : CVd RX9 261 1 mX0_bestDay := ⟨tbW 4 54 (by first | rfl | decide +kernel) (by decide +kernel), tbW 4 55 (by first | rfl | decide +kernel) (by decide +kernel), tbW 4 56 (by first | rfl | decide +kernel) (by decide +kernel), by decide, _, _, rfl⟩
set_option maxRecDepth 20000 in
theorem fgX9_22 : FLd RX9 22 10 3 15 := ⟨RX9, TX9, "WoodenMains", rfl, inX9, by decide, by decide, tbW 1 162 (by first | rfl | decide +kernel) (by decide +kernel), Or.inl rfl⟩
set_option maxRecDepth 20000 in
theorem nwX9_264 : FNw RX9 264 4 4 (fun _ => 0) := ⟨RX3, TX3, tyX3, rfl, inX3, tyX3_ok, tbW 4 62 (by first | rfl | decide +kernel) (by decide +kernel), tbW 4 63 (by first | rfl | decide +kernel) (by decide +kernel), tbW 1 21 (by first | rfl | decide +kernel) (by decide +kernel), by decide, by decide +kernel⟩
set_option maxRecDepth 20000 in
theorem ciX9_266 : CId RX9 266 mX3_init := ⟨tbW 4 64 (by first | rfl | decide +kernel) (by decide +kernel), tbW 4 65 (by first | rfl | decide +kernel) (by decide +kernel), rfl, rfl⟩
set_option maxRecDepth 20000 in
theorem cvX9_267 : CVd RX9 267 10 mX9_lawOn := ⟨tbW 4 86 (by first | rfl | decide +kernel) (by decide +kernel), tbW 4 88 (by first | rfl | decide +kernel) (by decide +kernel), tbW 0 30 (by first | rfl | decide +kernel) (by decide +kernel), by decide, _, _, rfl⟩
set_option maxRecDepth 20000 in
theorem cvX9_271 : CVd RX9 271 4 mX3_rateFor := ⟨tbW 4 90 (by first | rfl | decide +kernel) (by decide +kernel), tbW 4 91 (by first | rfl | decide +kernel) (by decide +kernel), tbW 4 92 (by first | rfl | decide +kernel) (by decide +kernel), by decide, _, _, rfl⟩
set_option maxRecDepth 20000 in
theorem fgX9_275 : FLd RX9 275 2 6 9 := ⟨RX1, TX1, "WoodenMains$House", rfl, inX1, by decide, by decide, tbW 2 147 (by first | rfl | decide +kernel) (by decide +kernel), Or.inl rfl⟩
set_option maxRecDepth 20000 in
theorem fgX9_278 : FLd RX9 278 2 7 9 := ⟨RX1, TX1, "WoodenMains$House", rfl, inX1, by decide, by decide, tbW 2 149 (by first | rfl | decide +kernel) (by decide +kernel), Or.inl rfl⟩
set_option maxRecDepth 20000 in
theorem cvX9_281 : CVd RX9 281 10 mX9_useNow := ⟨tbW 3 144 (by first | rfl | decide +kernel) (by decide +kernel), tbW 3 146 (by first | rfl | decide +kernel) (by decide +kernel), tbW 0 20 (by first | rfl | decide +kernel) (by decide +kernel), by decide, _, _, rfl⟩
set_option maxRecDepth 20000 in
theorem fgX9_284 : FLd RX9 284 2 0 9 := ⟨RX1, TX1, "WoodenMains$House", rfl, inX1, by decide, by decide, tbW 2 135 (by first | rfl | decide +kernel) (by decide +kernel), Or.inl rfl⟩
set_option maxRecDepth 20000 in
theorem cvX9_287 : CVd RX9 287 6 mX5_dripIn := ⟨tbW 3 110 (by first | rfl | decide +kernel) (by decide +kernel), tbW 3 111 (by first | rfl | decide +kernel) (by decide +kernel), tbW 3 112 (by first | rfl | decide +kernel) (by decide +kernel), by decide, _, _, rfl⟩
set_option maxRecDepth 20000 in
theorem fgX9_290 : FLd RX9 290 6 0 11 := ⟨RX5, TX5, "WoodenMains$Street", rfl, inX5, by decide, by decide, tbW 2 11 (by first | rfl | decide +kernel) (by decide +kernel), Or.inl rfl⟩
set_option maxRecDepth 20000 in
theorem cvX9_293 : CVd RX9 293 6 mX5_roomNow := ⟨tbW 4 26 (by first | rfl | decide +kernel) (by decide +kernel), tbW 4 27 (by first | rfl | decide +kernel) (by decide +kernel), tbW 4 28 (by first | rfl | decide +kernel) (by decide +kernel), by decide, _, _, rfl⟩
set_option maxRecDepth 20000 in
theorem fgX9_51 : FLd RX9 51 10 9 15 := ⟨RX9, TX9, "WoodenMains", rfl, inX9, by decide, by decide, tbW 1 168 (by first | rfl | decide +kernel) (by decide +kernel), Or.inl rfl⟩
set_option maxRecDepth 20000 in
theorem fgX9_296 : FLd RX9 296 7 0 6 := ⟨RX6, TX6, "WoodenMains$Tally", rfl, inX6, by decide, by decide, tbW 1 78 (by first | rfl | decide +kernel) (by decide +kernel), Or.inl rfl⟩
set_option maxRecDepth 20000 in
theorem fgX9_299 : FLd RX9 299 7 1 6 := ⟨RX6, TX6, "WoodenMains$Tally", rfl, inX6, by decide, by decide, tbW 1 80 (by first | rfl | decide +kernel) (by decide +kernel), Or.inl rfl⟩
set_option maxRecDepth 20000 in
theorem fgX9_302 : FLd RX9 302 7 2 6 := ⟨RX6, TX6, "WoodenMains$Tally", rfl, inX6, by decide, by decide, tbW 1 82 (by first | rfl | decide +kernel) (by decide +kernel), Or.inl rfl⟩
set_option maxRecDepth 20000 in
theorem fgX9_305 : FLd RX9 305 7 3 6 := ⟨RX6, TX6, "WoodenMains$Tally", rfl, inX6, by decide, by decide, tbW 1 83 (by first | rfl | decide +kernel) (by decide +kernel), Or.inl rfl⟩
set_option maxRecDepth 20000 in
theorem fgX9_308 : FLd RX9 308 7 5 6 := ⟨RX6, TX6, "WoodenMains$Tally", rfl, inX6, by decide, by decide, tbW 1 86 (by first | rfl | decide +kernel) (by decide +kernel), Or.inl rfl⟩
set_option maxRecDepth 20000 in
theorem fgX9_311 : FLd RX9 311 7 4 6 := ⟨RX6, TX6, "WoodenMains$Tally", rfl, inX6, by decide, by decide, tbW 1 85 (by first | rfl | decide +kernel) (by decide +kernel), Or.inl rfl⟩
set_option maxRecDepth 20000 in
theorem fgX9_38 : FLd RX9 38 10 7 15 := ⟨RX9, TX9, "WoodenMains", rfl, inX9, by decide, by decide, tbW 1 166 (by first | rfl | decide +kernel) (by decide +kernel), Or.inl rfl⟩
set_option maxRecDepth 20000 in
theorem kcX9_314 : Cond.constant RX9 314 2000000000 ∈ tbG := tbW 2 226 (by first | rfl | decide +kernel) (by decide +kernel)
set_option maxRecDepth 20000 in
theorem clX9_82 : Cond.classLink RX9 82 "WoodenMains$Street" ∈ tbG := tbW 1 235 (by first | rfl | decide +kernel) (by decide +kernel)
set_option maxRecDepth 20000 in
theorem clX9_109 : Cond.classLink RX9 109 "WoodenMains$House" ∈ tbG := tbW 2 128 (by first | rfl | decide +kernel) (by decide +kernel)
set_option maxRecDepth 20000 in
theorem cvX9_315 : CVd RX9 315 10 mX9_pump := ⟨tbW 3 102 (by first | rfl | decide +kernel) (by decide +kernel), tbW 3 104 (by first | rfl | decide +kernel) (by decide +kernel), tbW 0 14 (by first | rfl | decide +kernel) (by decide +kernel), by decide, _, _, rfl⟩
set_option maxRecDepth 20000 in
theorem cvX9_318 : CVd RX9 318 10 mX9_leak := ⟨tbW 3 106 (by first | rfl | decide +kernel) (by decide +kernel), tbW 3 108 (by first | rfl | decide +kernel) (by decide +kernel), tbW 0 15 (by first | rfl | decide +kernel) (by decide +kernel), by decide, _, _, rfl⟩
set_option maxRecDepth 20000 in
theorem cvX9_321 : CVd RX9 321 10 mX9_serve := ⟨tbW 3 114 (by first | rfl | decide +kernel) (by decide +kernel), tbW 3 116 (by first | rfl | decide +kernel) (by decide +kernel), tbW 0 16 (by first | rfl | decide +kernel) (by decide +kernel), by decide, _, _, rfl⟩
set_option maxRecDepth 20000 in
theorem fpX9_305 : FPt RX9 305 7 3 6 .int false := ⟨RX6, TX6, "WoodenMains$Tally", tyX6, rfl, inX6, by decide, by decide, tbW 1 83 (by first | rfl | decide +kernel) (by decide +kernel), Or.inl rfl, tyX6_ok, nmX6, by decide +kernel, rfl, fun h => (nomatch h)⟩
set_option maxRecDepth 20000 in
theorem cvX9_324 : CVd RX9 324 10 mX9_drink := ⟨tbW 3 140 (by first | rfl | decide +kernel) (by decide +kernel), tbW 3 142 (by first | rfl | decide +kernel) (by decide +kernel), tbW 0 19 (by first | rfl | decide +kernel) (by decide +kernel), by decide, _, _, rfl⟩
set_option maxRecDepth 20000 in
theorem fpX9_201 : FPt RX9 201 10 12 15 .int false := ⟨RX9, TX9, "WoodenMains", tyX9, rfl, inX9, by decide, by decide, tbW 1 171 (by first | rfl | decide +kernel) (by decide +kernel), Or.inl rfl, tyX9_ok, nmX9, by decide +kernel, rfl, fun _ => rfl⟩
set_option maxRecDepth 20000 in
theorem fpX9_308 : FPt RX9 308 7 5 6 .int false := ⟨RX6, TX6, "WoodenMains$Tally", tyX6, rfl, inX6, by decide, by decide, tbW 1 86 (by first | rfl | decide +kernel) (by decide +kernel), Or.inl rfl, tyX6_ok, nmX6, by decide +kernel, rfl, fun h => (nomatch h)⟩
set_option maxRecDepth 20000 in
theorem csX9_327 : CSd RX9 327 mJ9_min_7cf53 := ⟨tbW 3 85 (by first | rfl | decide +kernel) (by decide +kernel), tbW 2 104 (by first | rfl | decide +kernel) (by decide +kernel)⟩
set_option maxRecDepth 20000 in
theorem fpX9_296 : FPt RX9 296 7 0 6 .int false := ⟨RX6, TX6, "WoodenMains$Tally", tyX6, rfl, inX6, by decide, by decide, tbW 1 78 (by first | rfl | decide +kernel) (by decide +kernel), Or.inl rfl, tyX6_ok, nmX6, by decide +kernel, rfl, fun h => (nomatch h)⟩
set_option maxRecDepth 20000 in
theorem cvX9_332 : CVd RX9 332 6 mX5_takeFrom := ⟨tbW 3 118 (by first | rfl | decide +kernel) (by decide +kernel), tbW 3 119 (by first | rfl | decide +kernel) (by decide +kernel), tbW 3 120 (by first | rfl | decide +kernel) (by decide +kernel), by decide, _, _, rfl⟩
set_option maxRecDepth 20000 in
theorem cvX9_336 : CVd RX9 336 2 mX1_use := ⟨tbW 3 148 (by first | rfl | decide +kernel) (by decide +kernel), tbW 3 149 (by first | rfl | decide +kernel) (by decide +kernel), tbW 3 150 (by first | rfl | decide +kernel) (by decide +kernel), by decide, _, _, rfl⟩
set_option maxRecDepth 20000 in
theorem fgX9_339 : FLd RX9 339 5 1 2 := ⟨RX4, TX4, "WoodenMains$Row", rfl, inX4, by decide, by decide, tbW 1 153 (by first | rfl | decide +kernel) (by decide +kernel), Or.inl rfl⟩
set_option maxRecDepth 20000 in
theorem fgX9_342 : FLd RX9 342 2 3 9 := ⟨RX1, TX1, "WoodenMains$House", rfl, inX1, by decide, by decide, tbW 2 142 (by first | rfl | decide +kernel) (by decide +kernel), Or.inl rfl⟩
set_option maxRecDepth 20000 in
theorem cvX9_345 : CVd RX9 345 10 mX9_placeAheadOf := ⟨tbW 3 90 (by first | rfl | decide +kernel) (by decide +kernel), tbW 3 92 (by first | rfl | decide +kernel) (by decide +kernel), tbW 0 12 (by first | rfl | decide +kernel) (by decide +kernel), by decide, _, _, rfl⟩
set_option maxRecDepth 20000 in
theorem fgX9_348 : FLd RX9 348 8 0 4 := ⟨RX7, TX7, "WoodenMains$Turn", rfl, inX7, by decide, by decide, tbW 3 22 (by first | rfl | decide +kernel) (by decide +kernel), Or.inl rfl⟩
set_option maxRecDepth 20000 in
theorem cvX9_349 : CVd RX9 349 8 mX7_sharesHourWith := ⟨tbW 3 75 (by first | rfl | decide +kernel) (by decide +kernel), tbW 3 76 (by first | rfl | decide +kernel) (by decide +kernel), tbW 3 77 (by first | rfl | decide +kernel) (by decide +kernel), by decide, _, _, rfl⟩
set_option maxRecDepth 20000 in
theorem cvX9_353 : CVd RX9 353 8 mX7_hoursUntil := ⟨tbW 3 84 (by first | rfl | decide +kernel) (by decide +kernel), tbW 3 80 (by first | rfl | decide +kernel) (by decide +kernel), tbW 3 81 (by first | rfl | decide +kernel) (by decide +kernel), by decide, _, _, rfl⟩
set_option maxRecDepth 20000 in
theorem csX9_357 : CSd RX9 357 mJ6_numberOfTrailingZeros_0f7a4 := ⟨tbW 3 194 (by first | rfl | decide +kernel) (by decide +kernel), tbW 3 195 (by first | rfl | decide +kernel) (by decide +kernel)⟩
set_option maxRecDepth 20000 in
theorem csX9_360 : CSd RX9 360 mJ6_numberOfLeadingZeros_0f7a4 := ⟨tbW 3 198 (by first | rfl | decide +kernel) (by decide +kernel), tbW 3 199 (by first | rfl | decide +kernel) (by decide +kernel)⟩
set_option maxRecDepth 20000 in
theorem fgX9_363 : FLd RX9 363 6 1 11 := ⟨RX5, TX5, "WoodenMains$Street", rfl, inX5, by decide, by decide, tbW 2 13 (by first | rfl | decide +kernel) (by decide +kernel), Or.inl rfl⟩
set_option maxRecDepth 20000 in
theorem cvX9_364 : CVd RX9 364 9 mX8_hoursOpen := ⟨tbW 3 225 (by first | rfl | decide +kernel) (by decide +kernel), tbW 3 226 (by first | rfl | decide +kernel) (by decide +kernel), tbW 3 227 (by first | rfl | decide +kernel) (by decide +kernel), by decide, _, _, rfl⟩
set_option maxRecDepth 20000 in
theorem cvX9_367 : CVd RX9 367 3 mX2_tell := ⟨tbW 3 229 (by first | rfl | decide +kernel) (by decide +kernel), tbW 3 230 (by first | rfl | decide +kernel) (by decide +kernel), tbW 3 231 (by first | rfl | decide +kernel) (by decide +kernel), by decide, _, _, rfl⟩
set_option maxRecDepth 20000 in
theorem cvX9_370 : CVd RX9 370 3 mX2_bestSet := ⟨tbW 3 233 (by first | rfl | decide +kernel) (by decide +kernel), tbW 3 234 (by first | rfl | decide +kernel) (by decide +kernel), tbW 3 235 (by first | rfl | decide +kernel) (by decide +kernel), by decide, _, _, rfl⟩
set_option maxRecDepth 20000 in
theorem cvX9_373 : CVd RX9 373 1 mX0_begin := ⟨tbW 4 22 (by first | rfl | decide +kernel) (by decide +kernel), tbW 4 23 (by first | rfl | decide +kernel) (by decide +kernel), tbW 4 24 (by first | rfl | decide +kernel) (by decide +kernel), by decide, _, _, rfl⟩
set_option maxRecDepth 20000 in
theorem cvX9_376 : CVd RX9 376 1 mX0_tell := ⟨tbW 4 31 (by first | rfl | decide +kernel) (by decide +kernel), tbW 4 32 (by first | rfl | decide +kernel) (by decide +kernel), tbW 4 33 (by first | rfl | decide +kernel) (by decide +kernel), by decide, _, _, rfl⟩
set_option maxRecDepth 20000 in
theorem cvX9_378 : CVd RX9 378 1 mX0_search := ⟨tbW 4 35 (by first | rfl | decide +kernel) (by decide +kernel), tbW 4 36 (by first | rfl | decide +kernel) (by decide +kernel), tbW 4 37 (by first | rfl | decide +kernel) (by decide +kernel), by decide, _, _, rfl⟩
set_option maxRecDepth 20000 in
theorem clX9_264 : Cond.classLink RX9 264 "WoodenMains$Law" ∈ tbG := tbW 4 62 (by first | rfl | decide +kernel) (by decide +kernel)
set_option maxRecDepth 20000 in
theorem fgX9_381 : FLd RX9 381 4 3 4 := ⟨RX3, TX3, "WoodenMains$Law", rfl, inX3, by decide, by decide, tbW 4 72 (by first | rfl | decide +kernel) (by decide +kernel), Or.inl rfl⟩
set_option maxRecDepth 20000 in
theorem oiX10_1 : Cond.methodLink RX10 1 Lib.objectInit ∈ tbG := tbW 4 111 (by first | rfl | decide +kernel) (by decide +kernel)
set_option maxRecDepth 20000 in
theorem fpX10_7 : FPt RX10 7 11 1 58 .int false := ⟨RX10, TX10, "WoodenMainsModel", tyX10, rfl, inX10, by decide, by decide, tbW 4 113 (by first | rfl | decide +kernel) (by decide +kernel), Or.inl rfl, tyX10_ok, nmX10, by decide +kernel, rfl, fun _ => rfl⟩
set_option maxRecDepth 20000 in
theorem fpX10_13 : FPt RX10 13 11 2 58 .int false := ⟨RX10, TX10, "WoodenMainsModel", tyX10, rfl, inX10, by decide, by decide, tbW 4 114 (by first | rfl | decide +kernel) (by decide +kernel), Or.inl rfl, tyX10_ok, nmX10, by decide +kernel, rfl, fun _ => rfl⟩
set_option maxRecDepth 20000 in
theorem fpX10_16 : FPt RX10 16 11 3 58 .int false := ⟨RX10, TX10, "WoodenMainsModel", tyX10, rfl, inX10, by decide, by decide, tbW 4 115 (by first | rfl | decide +kernel) (by decide +kernel), Or.inl rfl, tyX10_ok, nmX10, by decide +kernel, rfl, fun _ => rfl⟩
set_option maxRecDepth 20000 in
theorem fpX10_19 : FPt RX10 19 11 12 58 (.array .int) true := ⟨RX10, TX10, "WoodenMainsModel", tyX10, rfl, inX10, by decide, by decide, tbW 4 124 (by first | rfl | decide +kernel) (by decide +kernel), Or.inl rfl, tyX10_ok, nmX10, by decide +kernel, rfl, fun _ => rfl⟩
set_option maxRecDepth 20000 in
theorem fpX10_23 : FPt RX10 23 11 13 58 (.array .int) true := ⟨RX10, TX10, "WoodenMainsModel", tyX10, rfl, inX10, by decide, by decide, tbW 4 125 (by first | rfl | decide +kernel) (by decide +kernel), Or.inl rfl, tyX10_ok, nmX10, by decide +kernel, rfl, fun _ => rfl⟩
set_option maxRecDepth 20000 in
theorem fpX10_26 : FPt RX10 26 11 14 58 (.array .int) true := ⟨RX10, TX10, "WoodenMainsModel", tyX10, rfl, inX10, by decide, by decide, tbW 4 126 (by first | rfl | decide +kernel) (by decide +kernel), Or.inl rfl, tyX10_ok, nmX10, by decide +kernel, rfl, fun _ => rfl⟩
set_option maxRecDepth 20000 in
theorem fpX10_29 : FPt RX10 29 11 15 58 (.array .boolean) true := ⟨RX10, TX10, "WoodenMainsModel", tyX10, rfl, inX10, by decide, by decide, tbW 4 127 (by first | rfl | decide +kernel) (by decide +kernel), Or.inl rfl, tyX10_ok, nmX10, by decide +kernel, rfl, fun _ => rfl⟩
set_option maxRecDepth 20000 in
theorem fpX10_33 : FPt RX10 33 11 16 58 (.array .int) true := ⟨RX10, TX10, "WoodenMainsModel", tyX10, rfl, inX10, by decide, by decide, tbW 4 128 (by first | rfl | decide +kernel) (by decide +kernel), Or.inl rfl, tyX10_ok, nmX10, by decide +kernel, rfl, fun _ => rfl⟩
set_option maxRecDepth 20000 in
theorem fpX10_36 : FPt RX10 36 11 17 58 (.array .int) true := ⟨RX10, TX10, "WoodenMainsModel", tyX10, rfl, inX10, by decide, by decide, tbW 4 129 (by first | rfl | decide +kernel) (by decide +kernel), Or.inl rfl, tyX10_ok, nmX10, by decide +kernel, rfl, fun _ => rfl⟩
set_option maxRecDepth 20000 in
theorem fpX10_39 : FPt RX10 39 11 18 58 (.array .int) true := ⟨RX10, TX10, "WoodenMainsModel", tyX10, rfl, inX10, by decide, by decide, tbW 4 130 (by first | rfl | decide +kernel) (by decide +kernel), Or.inl rfl, tyX10_ok, nmX10, by decide +kernel, rfl, fun _ => rfl⟩
set_option maxRecDepth 20000 in
theorem fpX10_42 : FPt RX10 42 11 19 58 (.array .boolean) true := ⟨RX10, TX10, "WoodenMainsModel", tyX10, rfl, inX10, by decide, by decide, tbW 4 131 (by first | rfl | decide +kernel) (by decide +kernel), Or.inl rfl, tyX10_ok, nmX10, by decide +kernel, rfl, fun _ => rfl⟩
set_option maxRecDepth 20000 in
theorem fpX10_45 : FPt RX10 45 11 21 58 (.array .int) true := ⟨RX10, TX10, "WoodenMainsModel", tyX10, rfl, inX10, by decide, by decide, tbW 4 133 (by first | rfl | decide +kernel) (by decide +kernel), Or.inl rfl, tyX10_ok, nmX10, by decide +kernel, rfl, fun _ => rfl⟩
set_option maxRecDepth 20000 in
theorem fpX10_48 : FPt RX10 48 11 22 58 (.array .int) true := ⟨RX10, TX10, "WoodenMainsModel", tyX10, rfl, inX10, by decide, by decide, tbW 4 134 (by first | rfl | decide +kernel) (by decide +kernel), Or.inl rfl, tyX10_ok, nmX10, by decide +kernel, rfl, fun _ => rfl⟩
set_option maxRecDepth 20000 in
theorem fpX10_51 : FPt RX10 51 11 23 58 (.array .int) true := ⟨RX10, TX10, "WoodenMainsModel", tyX10, rfl, inX10, by decide, by decide, tbW 4 135 (by first | rfl | decide +kernel) (by decide +kernel), Or.inl rfl, tyX10_ok, nmX10, by decide +kernel, rfl, fun _ => rfl⟩
set_option maxRecDepth 20000 in
theorem fpX10_54 : FPt RX10 54 11 24 58 (.array .int) true := ⟨RX10, TX10, "WoodenMainsModel", tyX10, rfl, inX10, by decide, by decide, tbW 4 136 (by first | rfl | decide +kernel) (by decide +kernel), Or.inl rfl, tyX10_ok, nmX10, by decide +kernel, rfl, fun _ => rfl⟩
set_option maxRecDepth 20000 in
theorem fpX10_57 : FPt RX10 57 11 25 58 (.array .boolean) true := ⟨RX10, TX10, "WoodenMainsModel", tyX10, rfl, inX10, by decide, by decide, tbW 4 137 (by first | rfl | decide +kernel) (by decide +kernel), Or.inl rfl, tyX10_ok, nmX10, by decide +kernel, rfl, fun _ => rfl⟩
set_option maxRecDepth 20000 in
theorem fpX10_60 : FPt RX10 60 11 26 58 (.array .int) true := ⟨RX10, TX10, "WoodenMainsModel", tyX10, rfl, inX10, by decide, by decide, tbW 4 138 (by first | rfl | decide +kernel) (by decide +kernel), Or.inl rfl, tyX10_ok, nmX10, by decide +kernel, rfl, fun _ => rfl⟩
set_option maxRecDepth 20000 in
theorem fpX10_63 : FPt RX10 63 11 27 58 (.array .int) true := ⟨RX10, TX10, "WoodenMainsModel", tyX10, rfl, inX10, by decide, by decide, tbW 4 139 (by first | rfl | decide +kernel) (by decide +kernel), Or.inl rfl, tyX10_ok, nmX10, by decide +kernel, rfl, fun _ => rfl⟩
set_option maxRecDepth 20000 in
theorem fpX10_66 : FPt RX10 66 11 28 58 (.array .int) true := ⟨RX10, TX10, "WoodenMainsModel", tyX10, rfl, inX10, by decide, by decide, tbW 4 140 (by first | rfl | decide +kernel) (by decide +kernel), Or.inl rfl, tyX10_ok, nmX10, by decide +kernel, rfl, fun _ => rfl⟩
set_option maxRecDepth 20000 in
theorem fpX10_69 : FPt RX10 69 11 29 58 (.array .int) true := ⟨RX10, TX10, "WoodenMainsModel", tyX10, rfl, inX10, by decide, by decide, tbW 4 141 (by first | rfl | decide +kernel) (by decide +kernel), Or.inl rfl, tyX10_ok, nmX10, by decide +kernel, rfl, fun _ => rfl⟩
set_option maxRecDepth 20000 in
theorem fpX10_72 : FPt RX10 72 11 30 58 (.array .int) true := ⟨RX10, TX10, "WoodenMainsModel", tyX10, rfl, inX10, by decide, by decide, tbW 4 142 (by first | rfl | decide +kernel) (by decide +kernel), Or.inl rfl, tyX10_ok, nmX10, by decide +kernel, rfl, fun _ => rfl⟩
set_option maxRecDepth 20000 in
theorem fpX10_75 : FPt RX10 75 11 32 58 (.array .int) true := ⟨RX10, TX10, "WoodenMainsModel", tyX10, rfl, inX10, by decide, by decide, tbW 4 144 (by first | rfl | decide +kernel) (by decide +kernel), Or.inl rfl, tyX10_ok, nmX10, by decide +kernel, rfl, fun _ => rfl⟩
set_option maxRecDepth 20000 in
theorem fpX10_78 : FPt RX10 78 11 33 58 (.array .int) true := ⟨RX10, TX10, "WoodenMainsModel", tyX10, rfl, inX10, by decide, by decide, tbW 4 145 (by first | rfl | decide +kernel) (by decide +kernel), Or.inl rfl, tyX10_ok, nmX10, by decide +kernel, rfl, fun _ => rfl⟩
set_option maxRecDepth 20000 in
theorem fpX10_81 : FPt RX10 81 11 34 58 (.array .int) true := ⟨RX10, TX10, "WoodenMainsModel", tyX10, rfl, inX10, by decide, by decide, tbW 4 146 (by first | rfl | decide +kernel) (by decide +kernel), Or.inl rfl, tyX10_ok, nmX10, by decide +kernel, rfl, fun _ => rfl⟩
set_option maxRecDepth 20000 in
theorem fpX10_84 : FPt RX10 84 11 35 58 (.array .int) true := ⟨RX10, TX10, "WoodenMainsModel", tyX10, rfl, inX10, by decide, by decide, tbW 4 147 (by first | rfl | decide +kernel) (by decide +kernel), Or.inl rfl, tyX10_ok, nmX10, by decide +kernel, rfl, fun _ => rfl⟩
set_option maxRecDepth 20000 in
theorem fpX10_87 : FPt RX10 87 11 36 58 (.array .int) true := ⟨RX10, TX10, "WoodenMainsModel", tyX10, rfl, inX10, by decide, by decide, tbW 4 148 (by first | rfl | decide +kernel) (by decide +kernel), Or.inl rfl, tyX10_ok, nmX10, by decide +kernel, rfl, fun _ => rfl⟩
set_option maxRecDepth 20000 in
theorem fpX10_90 : FPt RX10 90 11 38 58 (.array .int) true := ⟨RX10, TX10, "WoodenMainsModel", tyX10, rfl, inX10, by decide, by decide, tbW 4 150 (by first | rfl | decide +kernel) (by decide +kernel), Or.inl rfl, tyX10_ok, nmX10, by decide +kernel, rfl, fun _ => rfl⟩
set_option maxRecDepth 20000 in
theorem fpX10_93 : FPt RX10 93 11 39 58 (.array .int) true := ⟨RX10, TX10, "WoodenMainsModel", tyX10, rfl, inX10, by decide, by decide, tbW 4 151 (by first | rfl | decide +kernel) (by decide +kernel), Or.inl rfl, tyX10_ok, nmX10, by decide +kernel, rfl, fun _ => rfl⟩
set_option maxRecDepth 20000 in
theorem fpX10_96 : FPt RX10 96 11 40 58 (.array .int) true := ⟨RX10, TX10, "WoodenMainsModel", tyX10, rfl, inX10, by decide, by decide, tbW 4 152 (by first | rfl | decide +kernel) (by decide +kernel), Or.inl rfl, tyX10_ok, nmX10, by decide +kernel, rfl, fun _ => rfl⟩
set_option maxRecDepth 20000 in
theorem fpX10_99 : FPt RX10 99 11 42 58 (.array .int) true := ⟨RX10, TX10, "WoodenMainsModel", tyX10, rfl, inX10, by decide, by decide, tbW 4 154 (by first | rfl | decide +kernel) (by decide +kernel), Or.inl rfl, tyX10_ok, nmX10, by decide +kernel, rfl, fun _ => rfl⟩
set_option maxRecDepth 20000 in
theorem fpX10_102 : FPt RX10 102 11 43 58 (.array .int) true := ⟨RX10, TX10, "WoodenMainsModel", tyX10, rfl, inX10, by decide, by decide, tbW 4 155 (by first | rfl | decide +kernel) (by decide +kernel), Or.inl rfl, tyX10_ok, nmX10, by decide +kernel, rfl, fun _ => rfl⟩
set_option maxRecDepth 20000 in
theorem fpX10_105 : FPt RX10 105 11 44 58 (.array .int) true := ⟨RX10, TX10, "WoodenMainsModel", tyX10, rfl, inX10, by decide, by decide, tbW 4 156 (by first | rfl | decide +kernel) (by decide +kernel), Or.inl rfl, tyX10_ok, nmX10, by decide +kernel, rfl, fun _ => rfl⟩
set_option maxRecDepth 20000 in
theorem fpX10_108 : FPt RX10 108 11 45 58 (.array .int) true := ⟨RX10, TX10, "WoodenMainsModel", tyX10, rfl, inX10, by decide, by decide, tbW 4 157 (by first | rfl | decide +kernel) (by decide +kernel), Or.inl rfl, tyX10_ok, nmX10, by decide +kernel, rfl, fun _ => rfl⟩
set_option maxRecDepth 20000 in
theorem fpX10_111 : FPt RX10 111 11 46 58 (.array .int) true := ⟨RX10, TX10, "WoodenMainsModel", tyX10, rfl, inX10, by decide, by decide, tbW 4 158 (by first | rfl | decide +kernel) (by decide +kernel), Or.inl rfl, tyX10_ok, nmX10, by decide +kernel, rfl, fun _ => rfl⟩
set_option maxRecDepth 20000 in
theorem fpX10_114 : FPt RX10 114 11 47 58 (.array .int) true := ⟨RX10, TX10, "WoodenMainsModel", tyX10, rfl, inX10, by decide, by decide, tbW 4 159 (by first | rfl | decide +kernel) (by decide +kernel), Or.inl rfl, tyX10_ok, nmX10, by decide +kernel, rfl, fun _ => rfl⟩
set_option maxRecDepth 20000 in
theorem fpX10_117 : FPt RX10 117 11 49 58 (.array .int) true := ⟨RX10, TX10, "WoodenMainsModel", tyX10, rfl, inX10, by decide, by decide, tbW 4 161 (by first | rfl | decide +kernel) (by decide +kernel), Or.inl rfl, tyX10_ok, nmX10, by decide +kernel, rfl, fun _ => rfl⟩
set_option maxRecDepth 20000 in
theorem fpX10_120 : FPt RX10 120 11 52 58 (.array .int) true := ⟨RX10, TX10, "WoodenMainsModel", tyX10, rfl, inX10, by decide, by decide, tbW 4 164 (by first | rfl | decide +kernel) (by decide +kernel), Or.inl rfl, tyX10_ok, nmX10, by decide +kernel, rfl, fun _ => rfl⟩
set_option maxRecDepth 20000 in
theorem fpX10_123 : FPt RX10 123 11 53 58 (.array .int) true := ⟨RX10, TX10, "WoodenMainsModel", tyX10, rfl, inX10, by decide, by decide, tbW 4 165 (by first | rfl | decide +kernel) (by decide +kernel), Or.inl rfl, tyX10_ok, nmX10, by decide +kernel, rfl, fun _ => rfl⟩
set_option maxRecDepth 20000 in
theorem fpX10_126 : FPt RX10 126 11 55 58 (.array .int) true := ⟨RX10, TX10, "WoodenMainsModel", tyX10, rfl, inX10, by decide, by decide, tbW 4 167 (by first | rfl | decide +kernel) (by decide +kernel), Or.inl rfl, tyX10_ok, nmX10, by decide +kernel, rfl, fun _ => rfl⟩
set_option maxRecDepth 20000 in
theorem fpX10_129 : FPt RX10 129 11 56 58 (.array .int) true := ⟨RX10, TX10, "WoodenMainsModel", tyX10, rfl, inX10, by decide, by decide, tbW 4 168 (by first | rfl | decide +kernel) (by decide +kernel), Or.inl rfl, tyX10_ok, nmX10, by decide +kernel, rfl, fun _ => rfl⟩
set_option maxRecDepth 20000 in
theorem fpX10_132 : FPt RX10 132 11 57 58 (.array .int) true := ⟨RX10, TX10, "WoodenMainsModel", tyX10, rfl, inX10, by decide, by decide, tbW 4 169 (by first | rfl | decide +kernel) (by decide +kernel), Or.inl rfl, tyX10_ok, nmX10, by decide +kernel, rfl, fun _ => rfl⟩
set_option maxRecDepth 20000 in
theorem fgX10_111 : FLd RX10 111 11 46 58 := ⟨RX10, TX10, "WoodenMainsModel", rfl, inX10, by decide, by decide, tbW 4 158 (by first | rfl | decide +kernel) (by decide +kernel), Or.inl rfl⟩
set_option maxRecDepth 20000 in
theorem fgX10_135 : FLd RX10 135 11 11 58 := ⟨RX10, TX10, "WoodenMainsModel", rfl, inX10, by decide, by decide, tbW 4 123 (by first | rfl | decide +kernel) (by decide +kernel), Or.inl rfl⟩
set_option maxRecDepth 20000 in
theorem csX10_138 : CSd RX10 138 mX10_in := ⟨tbW 5 52 (by first | rfl | decide +kernel) (by decide +kernel), tbW 5 53 (by first | rfl | decide +kernel) (by decide +kernel)⟩
set_option maxRecDepth 20000 in
theorem fgX10_142 : FLd RX10 142 11 20 58 := ⟨RX10, TX10, "WoodenMainsModel", rfl, inX10, by decide, by decide, tbW 4 132 (by first | rfl | decide +kernel) (by decide +kernel), Or.inl rfl⟩
set_option maxRecDepth 20000 in
theorem cvX10_145 : CVd RX10 145 11 mX10_refuse := ⟨tbW 5 55 (by first | rfl | decide +kernel) (by decide +kernel), tbW 5 57 (by first | rfl | decide +kernel) (by decide +kernel), tbW 0 31 (by first | rfl | decide +kernel) (by decide +kernel), by decide, _, _, rfl⟩
set_option maxRecDepth 20000 in
theorem fgX10_19 : FLd RX10 19 11 12 58 := ⟨RX10, TX10, "WoodenMainsModel", rfl, inX10, by decide, by decide, tbW 4 124 (by first | rfl | decide +kernel) (by decide +kernel), Or.inl rfl⟩
set_option maxRecDepth 20000 in
theorem fgX10_23 : FLd RX10 23 11 13 58 := ⟨RX10, TX10, "WoodenMainsModel", rfl, inX10, by decide, by decide, tbW 4 125 (by first | rfl | decide +kernel) (by decide +kernel), Or.inl rfl⟩
set_option maxRecDepth 20000 in
theorem fgX10_26 : FLd RX10 26 11 14 58 := ⟨RX10, TX10, "WoodenMainsModel", rfl, inX10, by decide, by decide, tbW 4 126 (by first | rfl | decide +kernel) (by decide +kernel), Or.inl rfl⟩
set_option maxRecDepth 20000 in
theorem fgX10_149 : FLd RX10 149 11 0 58 := ⟨RX10, TX10, "WoodenMainsModel", rfl, inX10, by decide, by decide, tbW 4 112 (by first | rfl | decide +kernel) (by decide +kernel), Or.inl rfl⟩
set_option maxRecDepth 20000 in
theorem fpX10_135 : FPt RX10 135 11 11 58 .int false := ⟨RX10, TX10, "WoodenMainsModel", tyX10, rfl, inX10, by decide, by decide, tbW 4 123 (by first | rfl | decide +kernel) (by decide +kernel), Or.inl rfl, tyX10_ok, nmX10, by decide +kernel, rfl, fun _ => rfl⟩
set_option maxRecDepth 20000 in
theorem fgX10_7 : FLd RX10 7 11 1 58 := ⟨RX10, TX10, "WoodenMainsModel", rfl, inX10, by decide, by decide, tbW 4 113 (by first | rfl | decide +kernel) (by decide +kernel), Or.inl rfl⟩
set_option maxRecDepth 20000 in
theorem fgX10_13 : FLd RX10 13 11 2 58 := ⟨RX10, TX10, "WoodenMainsModel", rfl, inX10, by decide, by decide, tbW 4 114 (by first | rfl | decide +kernel) (by decide +kernel), Or.inl rfl⟩
set_option maxRecDepth 20000 in
theorem fgX10_16 : FLd RX10 16 11 3 58 := ⟨RX10, TX10, "WoodenMainsModel", rfl, inX10, by decide, by decide, tbW 4 115 (by first | rfl | decide +kernel) (by decide +kernel), Or.inl rfl⟩
set_option maxRecDepth 20000 in
theorem kcX10_152 : Cond.constant RX10 152 100000 ∈ tbG := tbW 5 67 (by first | rfl | decide +kernel) (by decide +kernel)
set_option maxRecDepth 20000 in
theorem fgX10_153 : FLd RX10 153 11 4 58 := ⟨RX10, TX10, "WoodenMainsModel", rfl, inX10, by decide, by decide, tbW 4 116 (by first | rfl | decide +kernel) (by decide +kernel), Or.inl rfl⟩
set_option maxRecDepth 20000 in
theorem fpX10_153 : FPt RX10 153 11 4 58 .int false := ⟨RX10, TX10, "WoodenMainsModel", tyX10, rfl, inX10, by decide, by decide, tbW 4 116 (by first | rfl | decide +kernel) (by decide +kernel), Or.inl rfl, tyX10_ok, nmX10, by decide +kernel, rfl, fun _ => rfl⟩
set_option maxRecDepth 20000 in
theorem cvX10_156 : CVd RX10 156 11 mX10_isStreet := ⟨tbW 5 72 (by first | rfl | decide +kernel) (by decide +kernel), tbW 5 74 (by first | rfl | decide +kernel) (by decide +kernel), tbW 0 32 (by first | rfl | decide +kernel) (by decide +kernel), by decide, _, _, rfl⟩
set_option maxRecDepth 20000 in
theorem fgX10_45 : FLd RX10 45 11 21 58 := ⟨RX10, TX10, "WoodenMainsModel", rfl, inX10, by decide, by decide, tbW 4 133 (by first | rfl | decide +kernel) (by decide +kernel), Or.inl rfl⟩
set_option maxRecDepth 20000 in
theorem fgX10_48 : FLd RX10 48 11 22 58 := ⟨RX10, TX10, "WoodenMainsModel", rfl, inX10, by decide, by decide, tbW 4 134 (by first | rfl | decide +kernel) (by decide +kernel), Or.inl rfl⟩
set_option maxRecDepth 20000 in
theorem fgX10_51 : FLd RX10 51 11 23 58 := ⟨RX10, TX10, "WoodenMainsModel", rfl, inX10, by decide, by decide, tbW 4 135 (by first | rfl | decide +kernel) (by decide +kernel), Or.inl rfl⟩
set_option maxRecDepth 20000 in
theorem fgX10_54 : FLd RX10 54 11 24 58 := ⟨RX10, TX10, "WoodenMainsModel", rfl, inX10, by decide, by decide, tbW 4 136 (by first | rfl | decide +kernel) (by decide +kernel), Or.inl rfl⟩
set_option maxRecDepth 20000 in
theorem fgX10_57 : FLd RX10 57 11 25 58 := ⟨RX10, TX10, "WoodenMainsModel", rfl, inX10, by decide, by decide, tbW 4 137 (by first | rfl | decide +kernel) (by decide +kernel), Or.inl rfl⟩
set_option maxRecDepth 20000 in
theorem fgX10_60 : FLd RX10 60 11 26 58 := ⟨RX10, TX10, "WoodenMainsModel", rfl, inX10, by decide, by decide, tbW 4 138 (by first | rfl | decide +kernel) (by decide +kernel), Or.inl rfl⟩
set_option maxRecDepth 20000 in
theorem fpX10_142 : FPt RX10 142 11 20 58 .int false := ⟨RX10, TX10, "WoodenMainsModel", tyX10, rfl, inX10, by decide, by decide, tbW 4 132 (by first | rfl | decide +kernel) (by decide +kernel), Or.inl rfl, tyX10_ok, nmX10, by decide +kernel, rfl, fun _ => rfl⟩
set_option maxRecDepth 20000 in
theorem fgX10_69 : FLd RX10 69 11 29 58 := ⟨RX10, TX10, "WoodenMainsModel", rfl, inX10, by decide, by decide, tbW 4 141 (by first | rfl | decide +kernel) (by decide +kernel), Or.inl rfl⟩
set_option maxRecDepth 20000 in
theorem fgX10_72 : FLd RX10 72 11 30 58 := ⟨RX10, TX10, "WoodenMainsModel", rfl, inX10, by decide, by decide, tbW 4 142 (by first | rfl | decide +kernel) (by decide +kernel), Or.inl rfl⟩
set_option maxRecDepth 20000 in
theorem fgX10_114 : FLd RX10 114 11 47 58 := ⟨RX10, TX10, "WoodenMainsModel", rfl, inX10, by decide, by decide, tbW 4 159 (by first | rfl | decide +kernel) (by decide +kernel), Or.inl rfl⟩
set_option maxRecDepth 20000 in
theorem cvX10_160 : CVd RX10 160 11 mX10_isHouse := ⟨tbW 5 96 (by first | rfl | decide +kernel) (by decide +kernel), tbW 5 98 (by first | rfl | decide +kernel) (by decide +kernel), tbW 0 33 (by first | rfl | decide +kernel) (by decide +kernel), by decide, _, _, rfl⟩
set_option maxRecDepth 20000 in
theorem kcX10_163 : Cond.constant RX10 163 2000000001 ∈ tbG := tbW 5 100 (by first | rfl | decide +kernel) (by decide +kernel)
set_option maxRecDepth 20000 in
theorem fgX10_33 : FLd RX10 33 11 16 58 := ⟨RX10, TX10, "WoodenMainsModel", rfl, inX10, by decide, by decide, tbW 4 128 (by first | rfl | decide +kernel) (by decide +kernel), Or.inl rfl⟩
set_option maxRecDepth 20000 in
theorem fgX10_36 : FLd RX10 36 11 17 58 := ⟨RX10, TX10, "WoodenMainsModel", rfl, inX10, by decide, by decide, tbW 4 129 (by first | rfl | decide +kernel) (by decide +kernel), Or.inl rfl⟩
set_option maxRecDepth 20000 in
theorem fgX10_39 : FLd RX10 39 11 18 58 := ⟨RX10, TX10, "WoodenMainsModel", rfl, inX10, by decide, by decide, tbW 4 130 (by first | rfl | decide +kernel) (by decide +kernel), Or.inl rfl⟩
set_option maxRecDepth 20000 in
theorem fgX10_42 : FLd RX10 42 11 19 58 := ⟨RX10, TX10, "WoodenMainsModel", rfl, inX10, by decide, by decide, tbW 4 131 (by first | rfl | decide +kernel) (by decide +kernel), Or.inl rfl⟩
set_option maxRecDepth 20000 in
theorem fgX10_164 : FLd RX10 164 11 31 58 := ⟨RX10, TX10, "WoodenMainsModel", rfl, inX10, by decide, by decide, tbW 4 143 (by first | rfl | decide +kernel) (by decide +kernel), Or.inl rfl⟩
set_option maxRecDepth 20000 in
theorem fgX10_75 : FLd RX10 75 11 32 58 := ⟨RX10, TX10, "WoodenMainsModel", rfl, inX10, by decide, by decide, tbW 4 144 (by first | rfl | decide +kernel) (by decide +kernel), Or.inl rfl⟩
set_option maxRecDepth 20000 in
theorem fgX10_78 : FLd RX10 78 11 33 58 := ⟨RX10, TX10, "WoodenMainsModel", rfl, inX10, by decide, by decide, tbW 4 145 (by first | rfl | decide +kernel) (by decide +kernel), Or.inl rfl⟩
set_option maxRecDepth 20000 in
theorem fgX10_81 : FLd RX10 81 11 34 58 := ⟨RX10, TX10, "WoodenMainsModel", rfl, inX10, by decide, by decide, tbW 4 146 (by first | rfl | decide +kernel) (by decide +kernel), Or.inl rfl⟩
set_option maxRecDepth 20000 in
theorem fgX10_84 : FLd RX10 84 11 35 58 := ⟨RX10, TX10, "WoodenMainsModel", rfl, inX10, by decide, by decide, tbW 4 147 (by first | rfl | decide +kernel) (by decide +kernel), Or.inl rfl⟩
set_option maxRecDepth 20000 in
theorem fpX10_164 : FPt RX10 164 11 31 58 .int false := ⟨RX10, TX10, "WoodenMainsModel", tyX10, rfl, inX10, by decide, by decide, tbW 4 143 (by first | rfl | decide +kernel) (by decide +kernel), Or.inl rfl, tyX10_ok, nmX10, by decide +kernel, rfl, fun _ => rfl⟩
set_option maxRecDepth 20000 in
theorem cvX10_167 : CVd RX10 167 11 mX10_isLet := ⟨tbW 5 125 (by first | rfl | decide +kernel) (by decide +kernel), tbW 5 127 (by first | rfl | decide +kernel) (by decide +kernel), tbW 0 34 (by first | rfl | decide +kernel) (by decide +kernel), by decide, _, _, rfl⟩
set_option maxRecDepth 20000 in
theorem cvX10_171 : CVd RX10 171 11 mX10_isOpen := ⟨tbW 5 129 (by first | rfl | decide +kernel) (by decide +kernel), tbW 5 131 (by first | rfl | decide +kernel) (by decide +kernel), tbW 0 35 (by first | rfl | decide +kernel) (by decide +kernel), by decide, _, _, rfl⟩
set_option maxRecDepth 20000 in
theorem cvX10_174 : CVd RX10 174 11 mX10_isOnWay := ⟨tbW 5 141 (by first | rfl | decide +kernel) (by decide +kernel), tbW 5 143 (by first | rfl | decide +kernel) (by decide +kernel), tbW 0 37 (by first | rfl | decide +kernel) (by decide +kernel), by decide, _, _, rfl⟩
set_option maxRecDepth 20000 in
theorem cvX10_177 : CVd RX10 177 11 mX10_wayOf := ⟨tbW 5 137 (by first | rfl | decide +kernel) (by decide +kernel), tbW 5 139 (by first | rfl | decide +kernel) (by decide +kernel), tbW 0 36 (by first | rfl | decide +kernel) (by decide +kernel), by decide, _, _, rfl⟩
set_option maxRecDepth 20000 in
theorem cvX10_181 : CVd RX10 181 11 mX10_clash := ⟨tbW 5 149 (by first | rfl | decide +kernel) (by decide +kernel), tbW 5 151 (by first | rfl | decide +kernel) (by decide +kernel), tbW 0 38 (by first | rfl | decide +kernel) (by decide +kernel), by decide, _, _, rfl⟩
set_option maxRecDepth 20000 in
theorem fgX10_29 : FLd RX10 29 11 15 58 := ⟨RX10, TX10, "WoodenMainsModel", rfl, inX10, by decide, by decide, tbW 4 127 (by first | rfl | decide +kernel) (by decide +kernel), Or.inl rfl⟩
set_option maxRecDepth 20000 in
theorem fgX10_184 : FLd RX10 184 11 48 58 := ⟨RX10, TX10, "WoodenMainsModel", rfl, inX10, by decide, by decide, tbW 4 160 (by first | rfl | decide +kernel) (by decide +kernel), Or.inl rfl⟩
set_option maxRecDepth 20000 in
theorem csX10_187 : CSd RX10 187 mX10_least := ⟨tbW 5 169 (by first | rfl | decide +kernel) (by decide +kernel), tbW 5 170 (by first | rfl | decide +kernel) (by decide +kernel)⟩
set_option maxRecDepth 20000 in
theorem fpX10_184 : FPt RX10 184 11 48 58 .int false := ⟨RX10, TX10, "WoodenMainsModel", tyX10, rfl, inX10, by decide, by decide, tbW 4 160 (by first | rfl | decide +kernel) (by decide +kernel), Or.inl rfl, tyX10_ok, nmX10, by decide +kernel, rfl, fun _ => rfl⟩
set_option maxRecDepth 20000 in
theorem fgX10_63 : FLd RX10 63 11 27 58 := ⟨RX10, TX10, "WoodenMainsModel", rfl, inX10, by decide, by decide, tbW 4 139 (by first | rfl | decide +kernel) (by decide +kernel), Or.inl rfl⟩
set_option maxRecDepth 20000 in
theorem cvX10_190 : CVd RX10 190 11 mX10_take := ⟨tbW 5 165 (by first | rfl | decide +kernel) (by decide +kernel), tbW 5 167 (by first | rfl | decide +kernel) (by decide +kernel), tbW 0 41 (by first | rfl | decide +kernel) (by decide +kernel), by decide, _, _, rfl⟩
set_option maxRecDepth 20000 in
theorem fgX10_193 : FLd RX10 193 11 7 58 := ⟨RX10, TX10, "WoodenMainsModel", rfl, inX10, by decide, by decide, tbW 4 119 (by first | rfl | decide +kernel) (by decide +kernel), Or.inl rfl⟩
set_option maxRecDepth 20000 in
theorem fpX10_193 : FPt RX10 193 11 7 58 .int false := ⟨RX10, TX10, "WoodenMainsModel", tyX10, rfl, inX10, by decide, by decide, tbW 4 119 (by first | rfl | decide +kernel) (by decide +kernel), Or.inl rfl, tyX10_ok, nmX10, by decide +kernel, rfl, fun _ => rfl⟩
set_option maxRecDepth 20000 in
theorem fgX10_196 : FLd RX10 196 11 6 58 := ⟨RX10, TX10, "WoodenMainsModel", rfl, inX10, by decide, by decide, tbW 4 118 (by first | rfl | decide +kernel) (by decide +kernel), Or.inl rfl⟩
set_option maxRecDepth 20000 in
theorem fpX10_196 : FPt RX10 196 11 6 58 .int false := ⟨RX10, TX10, "WoodenMainsModel", tyX10, rfl, inX10, by decide, by decide, tbW 4 118 (by first | rfl | decide +kernel) (by decide +kernel), Or.inl rfl, tyX10_ok, nmX10, by decide +kernel, rfl, fun _ => rfl⟩
set_option maxRecDepth 20000 in
theorem fgX10_199 : FLd RX10 199 11 10 58 := ⟨RX10, TX10, "WoodenMainsModel", rfl, inX10, by decide, by decide, tbW 4 122 (by first | rfl | decide +kernel) (by decide +kernel), Or.inl rfl⟩
set_option maxRecDepth 20000 in
theorem fpX10_199 : FPt RX10 199 11 10 58 .int false := ⟨RX10, TX10, "WoodenMainsModel", tyX10, rfl, inX10, by decide, by decide, tbW 4 122 (by first | rfl | decide +kernel) (by decide +kernel), Or.inl rfl, tyX10_ok, nmX10, by decide +kernel, rfl, fun _ => rfl⟩
set_option maxRecDepth 20000 in
theorem cvX10_202 : CVd RX10 202 11 mX10_fillHouse := ⟨tbW 5 176 (by first | rfl | decide +kernel) (by decide +kernel), tbW 5 178 (by first | rfl | decide +kernel) (by decide +kernel), tbW 0 43 (by first | rfl | decide +kernel) (by decide +kernel), by decide, _, _, rfl⟩
set_option maxRecDepth 20000 in
theorem fgX10_206 : FLd RX10 206 11 9 58 := ⟨RX10, TX10, "WoodenMainsModel", rfl, inX10, by decide, by decide, tbW 4 121 (by first | rfl | decide +kernel) (by decide +kernel), Or.inl rfl⟩
set_option maxRecDepth 20000 in
theorem fpX10_206 : FPt RX10 206 11 9 58 .int false := ⟨RX10, TX10, "WoodenMainsModel", tyX10, rfl, inX10, by decide, by decide, tbW 4 121 (by first | rfl | decide +kernel) (by decide +kernel), Or.inl rfl, tyX10_ok, nmX10, by decide +kernel, rfl, fun _ => rfl⟩
set_option maxRecDepth 20000 in
theorem fgX10_209 : FLd RX10 209 11 5 58 := ⟨RX10, TX10, "WoodenMainsModel", rfl, inX10, by decide, by decide, tbW 4 117 (by first | rfl | decide +kernel) (by decide +kernel), Or.inl rfl⟩
set_option maxRecDepth 20000 in
theorem cvX10_212 : CVd RX10 212 11 mX10_dripOf := ⟨tbW 5 161 (by first | rfl | decide +kernel) (by decide +kernel), tbW 5 163 (by first | rfl | decide +kernel) (by decide +kernel), tbW 0 40 (by first | rfl | decide +kernel) (by decide +kernel), by decide, _, _, rfl⟩
set_option maxRecDepth 20000 in
theorem fpX10_209 : FPt RX10 209 11 5 58 .int false := ⟨RX10, TX10, "WoodenMainsModel", tyX10, rfl, inX10, by decide, by decide, tbW 4 117 (by first | rfl | decide +kernel) (by decide +kernel), Or.inl rfl, tyX10_ok, nmX10, by decide +kernel, rfl, fun _ => rfl⟩
set_option maxRecDepth 20000 in
theorem cvX10_215 : CVd RX10 215 11 mX10_serve := ⟨tbW 5 172 (by first | rfl | decide +kernel) (by decide +kernel), tbW 5 174 (by first | rfl | decide +kernel) (by decide +kernel), tbW 0 42 (by first | rfl | decide +kernel) (by decide +kernel), by decide, _, _, rfl⟩
set_option maxRecDepth 20000 in
theorem fgX10_218 : FLd RX10 218 11 8 58 := ⟨RX10, TX10, "WoodenMainsModel", rfl, inX10, by decide, by decide, tbW 4 120 (by first | rfl | decide +kernel) (by decide +kernel), Or.inl rfl⟩
set_option maxRecDepth 20000 in
theorem fpX10_218 : FPt RX10 218 11 8 58 .int false := ⟨RX10, TX10, "WoodenMainsModel", tyX10, rfl, inX10, by decide, by decide, tbW 4 120 (by first | rfl | decide +kernel) (by decide +kernel), Or.inl rfl, tyX10_ok, nmX10, by decide +kernel, rfl, fun _ => rfl⟩
set_option maxRecDepth 20000 in
theorem cvX10_221 : CVd RX10 221 11 mX10_useOf := ⟨tbW 5 180 (by first | rfl | decide +kernel) (by decide +kernel), tbW 5 182 (by first | rfl | decide +kernel) (by decide +kernel), tbW 0 44 (by first | rfl | decide +kernel) (by decide +kernel), by decide, _, _, rfl⟩
set_option maxRecDepth 20000 in
theorem fgX10_66 : FLd RX10 66 11 28 58 := ⟨RX10, TX10, "WoodenMainsModel", rfl, inX10, by decide, by decide, tbW 4 140 (by first | rfl | decide +kernel) (by decide +kernel), Or.inl rfl⟩
set_option maxRecDepth 20000 in
theorem fpX10_149 : FPt RX10 149 11 0 58 .int false := ⟨RX10, TX10, "WoodenMainsModel", tyX10, rfl, inX10, by decide, by decide, tbW 4 112 (by first | rfl | decide +kernel) (by decide +kernel), Or.inl rfl, tyX10_ok, nmX10, by decide +kernel, rfl, fun _ => rfl⟩
set_option maxRecDepth 20000 in
theorem cvX10_224 : CVd RX10 224 11 mX10_pass := ⟨tbW 5 157 (by first | rfl | decide +kernel) (by decide +kernel), tbW 5 159 (by first | rfl | decide +kernel) (by decide +kernel), tbW 0 39 (by first | rfl | decide +kernel) (by decide +kernel), by decide, _, _, rfl⟩
set_option maxRecDepth 20000 in
theorem fgX10_87 : FLd RX10 87 11 36 58 := ⟨RX10, TX10, "WoodenMainsModel", rfl, inX10, by decide, by decide, tbW 4 148 (by first | rfl | decide +kernel) (by decide +kernel), Or.inl rfl⟩
set_option maxRecDepth 20000 in
theorem fgX10_227 : FLd RX10 227 11 37 58 := ⟨RX10, TX10, "WoodenMainsModel", rfl, inX10, by decide, by decide, tbW 4 149 (by first | rfl | decide +kernel) (by decide +kernel), Or.inl rfl⟩
set_option maxRecDepth 20000 in
theorem fgX10_90 : FLd RX10 90 11 38 58 := ⟨RX10, TX10, "WoodenMainsModel", rfl, inX10, by decide, by decide, tbW 4 150 (by first | rfl | decide +kernel) (by decide +kernel), Or.inl rfl⟩
set_option maxRecDepth 20000 in
theorem fgX10_93 : FLd RX10 93 11 39 58 := ⟨RX10, TX10, "WoodenMainsModel", rfl, inX10, by decide, by decide, tbW 4 151 (by first | rfl | decide +kernel) (by decide +kernel), Or.inl rfl⟩
set_option maxRecDepth 20000 in
theorem fgX10_96 : FLd RX10 96 11 40 58 := ⟨RX10, TX10, "WoodenMainsModel", rfl, inX10, by decide, by decide, tbW 4 152 (by first | rfl | decide +kernel) (by decide +kernel), Or.inl rfl⟩
set_option maxRecDepth 20000 in
theorem fpX10_227 : FPt RX10 227 11 37 58 .int false := ⟨RX10, TX10, "WoodenMainsModel", tyX10, rfl, inX10, by decide, by decide, tbW 4 149 (by first | rfl | decide +kernel) (by decide +kernel), Or.inl rfl, tyX10_ok, nmX10, by decide +kernel, rfl, fun _ => rfl⟩
set_option maxRecDepth 20000 in
theorem fgX10_117 : FLd RX10 117 11 49 58 := ⟨RX10, TX10, "WoodenMainsModel", rfl, inX10, by decide, by decide, tbW 4 161 (by first | rfl | decide +kernel) (by decide +kernel), Or.inl rfl⟩
set_option maxRecDepth 20000 in
theorem cvX10_230 : CVd RX10 230 11 mX10_worthOf := ⟨tbW 5 216 (by first | rfl | decide +kernel) (by decide +kernel), tbW 5 218 (by first | rfl | decide +kernel) (by decide +kernel), tbW 0 46 (by first | rfl | decide +kernel) (by decide +kernel), by decide, _, _, rfl⟩
set_option maxRecDepth 20000 in
theorem fpX10_233 : FPt RX10 233 11 50 58 .int false := ⟨RX10, TX10, "WoodenMainsModel", tyX10, rfl, inX10, by decide, by decide, tbW 4 162 (by first | rfl | decide +kernel) (by decide +kernel), Or.inl rfl, tyX10_ok, nmX10, by decide +kernel, rfl, fun _ => rfl⟩
set_option maxRecDepth 20000 in
theorem fpX10_236 : FPt RX10 236 11 51 58 .int false := ⟨RX10, TX10, "WoodenMainsModel", tyX10, rfl, inX10, by decide, by decide, tbW 4 163 (by first | rfl | decide +kernel) (by decide +kernel), Or.inl rfl, tyX10_ok, nmX10, by decide +kernel, rfl, fun _ => rfl⟩
set_option maxRecDepth 20000 in
theorem fgX10_236 : FLd RX10 236 11 51 58 := ⟨RX10, TX10, "WoodenMainsModel", rfl, inX10, by decide, by decide, tbW 4 163 (by first | rfl | decide +kernel) (by decide +kernel), Or.inl rfl⟩
set_option maxRecDepth 20000 in
theorem csX10_239 : CSd RX10 239 mX10_ones := ⟨tbW 5 220 (by first | rfl | decide +kernel) (by decide +kernel), tbW 5 221 (by first | rfl | decide +kernel) (by decide +kernel)⟩
set_option maxRecDepth 20000 in
theorem fgX10_233 : FLd RX10 233 11 50 58 := ⟨RX10, TX10, "WoodenMainsModel", rfl, inX10, by decide, by decide, tbW 4 162 (by first | rfl | decide +kernel) (by decide +kernel), Or.inl rfl⟩
set_option maxRecDepth 20000 in
theorem cvX10_242 : CVd RX10 242 11 mX10_findBest := ⟨tbW 5 212 (by first | rfl | decide +kernel) (by decide +kernel), tbW 5 214 (by first | rfl | decide +kernel) (by decide +kernel), tbW 0 45 (by first | rfl | decide +kernel) (by decide +kernel), by decide, _, _, rfl⟩
set_option maxRecDepth 20000 in
theorem fpX10_245 : FPt RX10 245 11 54 58 .int false := ⟨RX10, TX10, "WoodenMainsModel", tyX10, rfl, inX10, by decide, by decide, tbW 4 166 (by first | rfl | decide +kernel) (by decide +kernel), Or.inl rfl, tyX10_ok, nmX10, by decide +kernel, rfl, fun _ => rfl⟩
set_option maxRecDepth 20000 in
theorem fgX10_120 : FLd RX10 120 11 52 58 := ⟨RX10, TX10, "WoodenMainsModel", rfl, inX10, by decide, by decide, tbW 4 164 (by first | rfl | decide +kernel) (by decide +kernel), Or.inl rfl⟩
set_option maxRecDepth 20000 in
theorem fgX10_245 : FLd RX10 245 11 54 58 := ⟨RX10, TX10, "WoodenMainsModel", rfl, inX10, by decide, by decide, tbW 4 166 (by first | rfl | decide +kernel) (by decide +kernel), Or.inl rfl⟩
set_option maxRecDepth 20000 in
theorem fgX10_123 : FLd RX10 123 11 53 58 := ⟨RX10, TX10, "WoodenMainsModel", rfl, inX10, by decide, by decide, tbW 4 165 (by first | rfl | decide +kernel) (by decide +kernel), Or.inl rfl⟩
set_option maxRecDepth 20000 in
theorem cvX10_248 : CVd RX10 248 11 mX10_needOf := ⟨tbW 5 239 (by first | rfl | decide +kernel) (by decide +kernel), tbW 6 1 (by first | rfl | decide +kernel) (by decide +kernel), tbW 0 49 (by first | rfl | decide +kernel) (by decide +kernel), by decide, _, _, rfl⟩
set_option maxRecDepth 20000 in
theorem fgX10_126 : FLd RX10 126 11 55 58 := ⟨RX10, TX10, "WoodenMainsModel", rfl, inX10, by decide, by decide, tbW 4 167 (by first | rfl | decide +kernel) (by decide +kernel), Or.inl rfl⟩
set_option maxRecDepth 20000 in
theorem fgX10_132 : FLd RX10 132 11 57 58 := ⟨RX10, TX10, "WoodenMainsModel", rfl, inX10, by decide, by decide, tbW 4 169 (by first | rfl | decide +kernel) (by decide +kernel), Or.inl rfl⟩
set_option maxRecDepth 20000 in
theorem fgX10_129 : FLd RX10 129 11 56 58 := ⟨RX10, TX10, "WoodenMainsModel", rfl, inX10, by decide, by decide, tbW 4 168 (by first | rfl | decide +kernel) (by decide +kernel), Or.inl rfl⟩
set_option maxRecDepth 20000 in
theorem cvX10_251 : CVd RX10 251 11 mX10_wrongDays := ⟨tbW 5 231 (by first | rfl | decide +kernel) (by decide +kernel), tbW 5 233 (by first | rfl | decide +kernel) (by decide +kernel), tbW 0 47 (by first | rfl | decide +kernel) (by decide +kernel), by decide, _, _, rfl⟩
set_option maxRecDepth 20000 in
theorem cvX10_254 : CVd RX10 254 11 mX10_findDays := ⟨tbW 5 235 (by first | rfl | decide +kernel) (by decide +kernel), tbW 5 237 (by first | rfl | decide +kernel) (by decide +kernel), tbW 0 48 (by first | rfl | decide +kernel) (by decide +kernel), by decide, _, _, rfl⟩
set_option maxRecDepth 20000 in
theorem fgX10_257 : FLd RX10 257 11 41 58 := ⟨RX10, TX10, "WoodenMainsModel", rfl, inX10, by decide, by decide, tbW 4 153 (by first | rfl | decide +kernel) (by decide +kernel), Or.inl rfl⟩
set_option maxRecDepth 20000 in
theorem fgX10_99 : FLd RX10 99 11 42 58 := ⟨RX10, TX10, "WoodenMainsModel", rfl, inX10, by decide, by decide, tbW 4 154 (by first | rfl | decide +kernel) (by decide +kernel), Or.inl rfl⟩
set_option maxRecDepth 20000 in
theorem fgX10_102 : FLd RX10 102 11 43 58 := ⟨RX10, TX10, "WoodenMainsModel", rfl, inX10, by decide, by decide, tbW 4 155 (by first | rfl | decide +kernel) (by decide +kernel), Or.inl rfl⟩
set_option maxRecDepth 20000 in
theorem fgX10_105 : FLd RX10 105 11 44 58 := ⟨RX10, TX10, "WoodenMainsModel", rfl, inX10, by decide, by decide, tbW 4 156 (by first | rfl | decide +kernel) (by decide +kernel), Or.inl rfl⟩
set_option maxRecDepth 20000 in
theorem fgX10_108 : FLd RX10 108 11 45 58 := ⟨RX10, TX10, "WoodenMainsModel", rfl, inX10, by decide, by decide, tbW 4 157 (by first | rfl | decide +kernel) (by decide +kernel), Or.inl rfl⟩
set_option maxRecDepth 20000 in
theorem fpX10_257 : FPt RX10 257 11 41 58 .int false := ⟨RX10, TX10, "WoodenMainsModel", tyX10, rfl, inX10, by decide, by decide, tbW 4 153 (by first | rfl | decide +kernel) (by decide +kernel), Or.inl rfl, tyX10_ok, nmX10, by decide +kernel, rfl, fun _ => rfl⟩
set_option maxRecDepth 20000 in
theorem kcJ6_264 : Cond.constant RJ6 264 65536 ∈ tbG := tbW 3 197 (by first | rfl | decide +kernel) (by decide +kernel)
set_option maxRecDepth 20000 in
theorem kcJ6_265 : Cond.constant RJ6 265 1431655765 ∈ tbG := tbW 3 183 (by first | rfl | decide +kernel) (by decide +kernel)
set_option maxRecDepth 20000 in
theorem kcJ6_266 : Cond.constant RJ6 266 858993459 ∈ tbG := tbW 3 184 (by first | rfl | decide +kernel) (by decide +kernel)
set_option maxRecDepth 20000 in
theorem kcJ6_267 : Cond.constant RJ6 267 252645135 ∈ tbG := tbW 3 185 (by first | rfl | decide +kernel) (by decide +kernel)
set_option maxRecDepth 20000 in
theorem oiJxa1e45_1 : Cond.methodLink RJxa1e45 1 Lib.objectInit ∈ tbG := tbW 1 41 (by first | rfl | decide +kernel) (by decide +kernel)
set_option maxRecDepth 20000 in
theorem ciJxc12de_1 : CId RJxc12de 1 mJxa1e45_init_da8c8 := ⟨tbW 1 38 (by first | rfl | decide +kernel) (by decide +kernel), tbW 1 39 (by first | rfl | decide +kernel) (by decide +kernel), rfl, rfl⟩
set_option maxRecDepth 20000 in
theorem fpJxc12de_7 : FPt RJxc12de 7 0 0 3 .int false := ⟨RJx4a65c, TJx4a65c, "java/util/AbstractList", tyJx4a65c, rfl, inJx4a65c, by decide, by decide, tbW 1 46 (by first | rfl | decide +kernel) (by decide +kernel), Or.inl rfl, tyJx4a65c_ok, nmJx4a65c, by decide +kernel, rfl, fun _ => rfl⟩
set_option maxRecDepth 20000 in
theorem ciJx4a65c_1 : CId RJx4a65c 1 mJxc12de_init_da8c8 := ⟨tbW 1 35 (by first | rfl | decide +kernel) (by decide +kernel), tbW 1 36 (by first | rfl | decide +kernel) (by decide +kernel), rfl, rfl⟩
set_option maxRecDepth 20000 in
theorem gsJx4a65c_39 : Cond.fieldLink RJx4a65c 39 "java/util/ArrayList" "DEFAULTCAPACITY_EMPTY_ELEMENTDATA" "[Ljava/lang/Object;" ∈ tbG := tbW 1 42 (by first | rfl | decide +kernel) (by decide +kernel)
set_option maxRecDepth 20000 in
theorem fpJx4a65c_9 : FPt RJx4a65c 9 0 1 3 (.array (.object "java/lang/Object")) false := ⟨RJx4a65c, TJx4a65c, "java/util/ArrayList", tyJx4a65c, rfl, inJx4a65c, by decide, by decide, tbW 1 44 (by first | rfl | decide +kernel) (by decide +kernel), Or.inl rfl, tyJx4a65c_ok, nmJx4a65c, by decide +kernel, rfl, fun _ => rfl⟩
set_option maxRecDepth 20000 in
theorem fgJx4a65c_9 : FLd RJx4a65c 9 0 1 3 := ⟨RJx4a65c, TJx4a65c, "java/util/ArrayList", rfl, inJx4a65c, by decide, by decide, tbW 1 44 (by first | rfl | decide +kernel) (by decide +kernel), Or.inl rfl⟩
set_option maxRecDepth 20000 in
theorem csJx4a65c_73 : CSd RJx4a65c 73 mJ8_newLength_cabcc := ⟨tbW 2 68 (by first | rfl | decide +kernel) (by decide +kernel), tbW 2 69 (by first | rfl | decide +kernel) (by decide +kernel)⟩
set_option maxRecDepth 20000 in
theorem csJx4a65c_66 : CSd RJx4a65c 66 mJ7_copyOf_1904c := ⟨tbW 2 78 (by first | rfl | decide +kernel) (by decide +kernel), tbW 2 79 (by first | rfl | decide +kernel) (by decide +kernel)⟩
set_option maxRecDepth 20000 in
theorem csJx4a65c_79 : CSd RJx4a65c 79 mJ9_max_7cf53 := ⟨tbW 2 109 (by first | rfl | decide +kernel) (by decide +kernel), tbW 2 72 (by first | rfl | decide +kernel) (by decide +kernel)⟩
set_option maxRecDepth 20000 in
theorem clJx4a65c_7 : Cond.classLink RJx4a65c 7 "java/lang/Object" ∈ tbG := tbW 2 110 (by first | rfl | decide +kernel) (by decide +kernel)
set_option maxRecDepth 20000 in
theorem fgJx4a65c_48 : FLd RJx4a65c 48 0 2 3 := ⟨RJx4a65c, TJx4a65c, "java/util/ArrayList", rfl, inJx4a65c, by decide, by decide, tbW 1 45 (by first | rfl | decide +kernel) (by decide +kernel), Or.inl rfl⟩
set_option maxRecDepth 20000 in
theorem cvJx4a65c_69 : CVd RJx4a65c 69 0 mJx4a65c_grow_92f84 := ⟨tbW 2 64 (by first | rfl | decide +kernel) (by decide +kernel), tbW 2 66 (by first | rfl | decide +kernel) (by decide +kernel), tbW 0 6 (by first | rfl | decide +kernel) (by decide +kernel), by decide, _, _, rfl⟩
set_option maxRecDepth 20000 in
theorem csJx4a65c_118 : CSd RJx4a65c 118 mJ15_checkIndex_7cf53 := ⟨tbW 1 225 (by first | rfl | decide +kernel) (by decide +kernel), tbW 1 226 (by first | rfl | decide +kernel) (by decide +kernel)⟩
set_option maxRecDepth 20000 in
theorem cvJx4a65c_123 : CVd RJx4a65c 123 0 mJx4a65c_elementData_915e3 := ⟨tbW 1 231 (by first | rfl | decide +kernel) (by decide +kernel), tbW 1 232 (by first | rfl | decide +kernel) (by decide +kernel), tbW 1 233 (by first | rfl | decide +kernel) (by decide +kernel), by decide, _, _, rfl⟩
set_option maxRecDepth 20000 in
theorem cvJx4a65c_129 : CVd RJx4a65c 129 0 mJx4a65c_grow_d5877 := ⟨tbW 2 60 (by first | rfl | decide +kernel) (by decide +kernel), tbW 2 62 (by first | rfl | decide +kernel) (by decide +kernel), tbW 0 5 (by first | rfl | decide +kernel) (by decide +kernel), by decide, _, _, rfl⟩
set_option maxRecDepth 20000 in
theorem fpJx4a65c_48 : FPt RJx4a65c 48 0 2 3 .int false := ⟨RJx4a65c, TJx4a65c, "java/util/ArrayList", tyJx4a65c, rfl, inJx4a65c, by decide, by decide, tbW 1 45 (by first | rfl | decide +kernel) (by decide +kernel), Or.inl rfl, tyJx4a65c_ok, nmJx4a65c, by decide +kernel, rfl, fun _ => rfl⟩
set_option maxRecDepth 20000 in
theorem fgJx4a65c_63 : FLd RJx4a65c 63 0 0 3 := ⟨RJx4a65c, TJx4a65c, "java/util/ArrayList", rfl, inJx4a65c, by decide, by decide, tbW 1 47 (by first | rfl | decide +kernel) (by decide +kernel), Or.inr (tbW 1 48 (by first | rfl | decide +kernel) (by decide +kernel))⟩
set_option maxRecDepth 20000 in
theorem fpJx4a65c_63 : FPt RJx4a65c 63 0 0 3 .int false := ⟨RJx4a65c, TJx4a65c, "java/util/ArrayList", tyJx4a65c, rfl, inJx4a65c, by decide, by decide, tbW 1 47 (by first | rfl | decide +kernel) (by decide +kernel), Or.inr (tbW 1 48 (by first | rfl | decide +kernel) (by decide +kernel)), tyJx4a65c_ok, nmJx4a65c, by decide +kernel, rfl, fun h => (nomatch h)⟩
set_option maxRecDepth 20000 in
theorem cvJx4a65c_131 : CVd RJx4a65c 131 0 mJx4a65c_add_72be8 := ⟨tbW 2 56 (by first | rfl | decide +kernel) (by decide +kernel), tbW 2 58 (by first | rfl | decide +kernel) (by decide +kernel), tbW 0 4 (by first | rfl | decide +kernel) (by decide +kernel), by decide, _, _, rfl⟩
set_option maxRecDepth 20000 in
theorem csJ7_300 : CSd RJ7 300 mJ7_copyOf_6403c := ⟨tbW 2 97 (by first | rfl | decide +kernel) (by decide +kernel), tbW 2 98 (by first | rfl | decide +kernel) (by decide +kernel)⟩
set_option maxRecDepth 20000 in
theorem clJ7_110 : Cond.classLink RJ7 110 "[Ljava/lang/Object;" ∈ tbG := tbW 2 100 (by first | rfl | decide +kernel) (by decide +kernel)
set_option maxRecDepth 20000 in
theorem clJ7_2 : Cond.classLink RJ7 2 "java/lang/Object" ∈ tbG := tbW 2 102 (by first | rfl | decide +kernel) (by decide +kernel)
set_option maxRecDepth 20000 in
theorem csJ7_304 : CSd RJ7 304 mJ9_min_7cf53 := ⟨tbW 2 103 (by first | rfl | decide +kernel) (by decide +kernel), tbW 2 104 (by first | rfl | decide +kernel) (by decide +kernel)⟩
set_option maxRecDepth 20000 in
theorem acJ7_150 : ACw RJ7 150 := ⟨tbW 2 106 (by first | rfl | decide +kernel) (by decide +kernel), tbW 2 108 (by first | rfl | decide +kernel) (by decide +kernel), tbW 2 107 (by first | rfl | decide +kernel) (by decide +kernel), tbW 1 17 (by first | rfl | decide +kernel) (by decide +kernel)⟩
set_option maxRecDepth 20000 in
theorem csJ15_105 : CSd RJ15 105 mJ3_checkIndex_8e157 := ⟨tbW 1 228 (by first | rfl | decide +kernel) (by decide +kernel), tbW 1 229 (by first | rfl | decide +kernel) (by decide +kernel)⟩
set_option maxRecDepth 20000 in
theorem csJ8_194 : CSd RJ8 194 mJ9_max_7cf53 := ⟨tbW 2 71 (by first | rfl | decide +kernel) (by decide +kernel), tbW 2 72 (by first | rfl | decide +kernel) (by decide +kernel)⟩
set_option maxRecDepth 20000 in
theorem kcJ8_200 : Cond.constant RJ8 200 2147483639 ∈ tbG := tbW 2 74 (by first | rfl | decide +kernel) (by decide +kernel)
set_option maxRecDepth 20000 in
theorem csJ8_201 : CSd RJ8 201 mJ8_hugeLength_7cf53 := ⟨tbW 2 75 (by first | rfl | decide +kernel) (by decide +kernel), tbW 2 76 (by first | rfl | decide +kernel) (by decide +kernel)⟩
set_option maxRecDepth 20000 in
theorem nwL_7 : FNw RL 7 10 15 (fun j => ([1, 1, 1, 1, 1, 1, 1, 1, 1, 1, 1, 1, 0, 0, 0] : List Nat).getD j 0) := ⟨RX9, TX9, tyX9, rfl, inX9, tyX9_ok, tbW 1 22 (by first | rfl | decide +kernel) (by decide +kernel), tbW 1 23 (by first | rfl | decide +kernel) (by decide +kernel), tbW 1 1 (by first | rfl | decide +kernel) (by decide +kernel), by decide, by decide +kernel⟩
set_option maxRecDepth 20000 in
theorem ciL_9 : CId RL 9 mX9_init := ⟨tbW 1 24 (by first | rfl | decide +kernel) (by decide +kernel), tbW 1 25 (by first | rfl | decide +kernel) (by decide +kernel), rfl, rfl⟩
set_option maxRecDepth 20000 in
theorem nwL_10 : FNw RL 10 11 58 (fun j => ([0, 0, 0, 0, 0, 0, 0, 0, 0, 0, 0, 0, 1, 1, 1, 1, 1, 1, 1, 1, 0, 1, 1, 1, 1, 1, 1, 1, 1, 1, 1, 0, 1, 1, 1, 1, 1, 0, 1, 1, 1, 0, 1, 1, 1, 1, 1, 1, 0, 1, 0, 0, 1, 1, 0, 1, 1, 1] : List Nat).getD j 0) := ⟨RX10, TX10, tyX10, rfl, inX10, tyX10_ok, tbW 4 106 (by first | rfl | decide +kernel) (by decide +kernel), tbW 4 107 (by first | rfl | decide +kernel) (by decide +kernel), tbW 1 10 (by first | rfl | decide +kernel) (by decide +kernel), by decide, by decide +kernel⟩
set_option maxRecDepth 20000 in
theorem ciL_12 : CId RL 12 mX10_init := ⟨tbW 4 108 (by first | rfl | decide +kernel) (by decide +kernel), tbW 4 109 (by first | rfl | decide +kernel) (by decide +kernel), rfl, rfl⟩
set_option maxRecDepth 20000 in
theorem cvL_13 : CVd RL 13 10 mX9_street := ⟨tbW 1 205 (by first | rfl | decide +kernel) (by decide +kernel), tbW 1 206 (by first | rfl | decide +kernel) (by decide +kernel), tbW 1 207 (by first | rfl | decide +kernel) (by decide +kernel), by decide, _, _, rfl⟩
set_option maxRecDepth 20000 in
theorem cvL_17 : CVd RL 17 11 mX10_street := ⟨tbW 5 48 (by first | rfl | decide +kernel) (by decide +kernel), tbW 5 49 (by first | rfl | decide +kernel) (by decide +kernel), tbW 5 50 (by first | rfl | decide +kernel) (by decide +kernel), by decide, _, _, rfl⟩
set_option maxRecDepth 20000 in
theorem cvL_18 : CVd RL 18 10 mX9_set := ⟨tbW 2 111 (by first | rfl | decide +kernel) (by decide +kernel), tbW 2 112 (by first | rfl | decide +kernel) (by decide +kernel), tbW 2 113 (by first | rfl | decide +kernel) (by decide +kernel), by decide, _, _, rfl⟩
set_option maxRecDepth 20000 in
theorem cvL_21 : CVd RL 21 11 mX10_set := ⟨tbW 5 59 (by first | rfl | decide +kernel) (by decide +kernel), tbW 5 60 (by first | rfl | decide +kernel) (by decide +kernel), tbW 5 61 (by first | rfl | decide +kernel) (by decide +kernel), by decide, _, _, rfl⟩
set_option maxRecDepth 20000 in
theorem cvL_22 : CVd RL 22 10 mX9_coal := ⟨tbW 2 119 (by first | rfl | decide +kernel) (by decide +kernel), tbW 2 120 (by first | rfl | decide +kernel) (by decide +kernel), tbW 2 121 (by first | rfl | decide +kernel) (by decide +kernel), by decide, _, _, rfl⟩
set_option maxRecDepth 20000 in
theorem cvL_26 : CVd RL 26 11 mX10_coal := ⟨tbW 5 63 (by first | rfl | decide +kernel) (by decide +kernel), tbW 5 64 (by first | rfl | decide +kernel) (by decide +kernel), tbW 5 65 (by first | rfl | decide +kernel) (by decide +kernel), by decide, _, _, rfl⟩
set_option maxRecDepth 20000 in
theorem cvL_27 : CVd RL 27 10 mX9_house := ⟨tbW 2 124 (by first | rfl | decide +kernel) (by decide +kernel), tbW 2 125 (by first | rfl | decide +kernel) (by decide +kernel), tbW 2 126 (by first | rfl | decide +kernel) (by decide +kernel), by decide, _, _, rfl⟩
set_option maxRecDepth 20000 in
theorem cvL_31 : CVd RL 31 11 mX10_house := ⟨tbW 5 68 (by first | rfl | decide +kernel) (by decide +kernel), tbW 5 69 (by first | rfl | decide +kernel) (by decide +kernel), tbW 5 70 (by first | rfl | decide +kernel) (by decide +kernel), by decide, _, _, rfl⟩
set_option maxRecDepth 20000 in
theorem cvL_32 : CVd RL 32 10 mX9_row := ⟨tbW 2 174 (by first | rfl | decide +kernel) (by decide +kernel), tbW 2 175 (by first | rfl | decide +kernel) (by decide +kernel), tbW 2 176 (by first | rfl | decide +kernel) (by decide +kernel), by decide, _, _, rfl⟩
set_option maxRecDepth 20000 in
theorem cvL_35 : CVd RL 35 11 mX10_row := ⟨tbW 5 76 (by first | rfl | decide +kernel) (by decide +kernel), tbW 5 77 (by first | rfl | decide +kernel) (by decide +kernel), tbW 5 78 (by first | rfl | decide +kernel) (by decide +kernel), by decide, _, _, rfl⟩
set_option maxRecDepth 20000 in
theorem cvL_36 : CVd RL 36 10 mX9_lose := ⟨tbW 2 189 (by first | rfl | decide +kernel) (by decide +kernel), tbW 2 190 (by first | rfl | decide +kernel) (by decide +kernel), tbW 2 191 (by first | rfl | decide +kernel) (by decide +kernel), by decide, _, _, rfl⟩
set_option maxRecDepth 20000 in
theorem cvL_39 : CVd RL 39 11 mX10_lose := ⟨tbW 5 80 (by first | rfl | decide +kernel) (by decide +kernel), tbW 5 81 (by first | rfl | decide +kernel) (by decide +kernel), tbW 5 82 (by first | rfl | decide +kernel) (by decide +kernel), by decide, _, _, rfl⟩
set_option maxRecDepth 20000 in
theorem cvL_40 : CVd RL 40 10 mX9_put := ⟨tbW 2 201 (by first | rfl | decide +kernel) (by decide +kernel), tbW 2 202 (by first | rfl | decide +kernel) (by decide +kernel), tbW 2 203 (by first | rfl | decide +kernel) (by decide +kernel), by decide, _, _, rfl⟩
set_option maxRecDepth 20000 in
theorem cvL_44 : CVd RL 44 11 mX10_put := ⟨tbW 5 84 (by first | rfl | decide +kernel) (by decide +kernel), tbW 5 85 (by first | rfl | decide +kernel) (by decide +kernel), tbW 5 86 (by first | rfl | decide +kernel) (by decide +kernel), by decide, _, _, rfl⟩
set_option maxRecDepth 20000 in
theorem cvL_45 : CVd RL 45 10 mX9_copy := ⟨tbW 2 209 (by first | rfl | decide +kernel) (by decide +kernel), tbW 2 210 (by first | rfl | decide +kernel) (by decide +kernel), tbW 2 211 (by first | rfl | decide +kernel) (by decide +kernel), by decide, _, _, rfl⟩
set_option maxRecDepth 20000 in
theorem cvL_49 : CVd RL 49 11 mX10_copy := ⟨tbW 5 88 (by first | rfl | decide +kernel) (by decide +kernel), tbW 5 89 (by first | rfl | decide +kernel) (by decide +kernel), tbW 5 90 (by first | rfl | decide +kernel) (by decide +kernel), by decide, _, _, rfl⟩
set_option maxRecDepth 20000 in
theorem cvL_50 : CVd RL 50 10 mX9_lead := ⟨tbW 2 214 (by first | rfl | decide +kernel) (by decide +kernel), tbW 2 215 (by first | rfl | decide +kernel) (by decide +kernel), tbW 2 216 (by first | rfl | decide +kernel) (by decide +kernel), by decide, _, _, rfl⟩
set_option maxRecDepth 20000 in
theorem cvL_53 : CVd RL 53 11 mX10_lead := ⟨tbW 5 92 (by first | rfl | decide +kernel) (by decide +kernel), tbW 5 93 (by first | rfl | decide +kernel) (by decide +kernel), tbW 5 94 (by first | rfl | decide +kernel) (by decide +kernel), by decide, _, _, rfl⟩
set_option maxRecDepth 20000 in
theorem cvL_54 : CVd RL 54 10 mX9_end := ⟨tbW 2 227 (by first | rfl | decide +kernel) (by decide +kernel), tbW 2 228 (by first | rfl | decide +kernel) (by decide +kernel), tbW 2 229 (by first | rfl | decide +kernel) (by decide +kernel), by decide, _, _, rfl⟩
set_option maxRecDepth 20000 in
theorem cvL_57 : CVd RL 57 11 mX10_end := ⟨tbW 5 101 (by first | rfl | decide +kernel) (by decide +kernel), tbW 5 102 (by first | rfl | decide +kernel) (by decide +kernel), tbW 5 103 (by first | rfl | decide +kernel) (by decide +kernel), by decide, _, _, rfl⟩
set_option maxRecDepth 20000 in
theorem cvL_58 : CVd RL 58 10 mX9_clear := ⟨tbW 2 235 (by first | rfl | decide +kernel) (by decide +kernel), tbW 2 236 (by first | rfl | decide +kernel) (by decide +kernel), tbW 2 237 (by first | rfl | decide +kernel) (by decide +kernel), by decide, _, _, rfl⟩
set_option maxRecDepth 20000 in
theorem cvL_61 : CVd RL 61 11 mX10_clear := ⟨tbW 5 105 (by first | rfl | decide +kernel) (by decide +kernel), tbW 5 106 (by first | rfl | decide +kernel) (by decide +kernel), tbW 5 107 (by first | rfl | decide +kernel) (by decide +kernel), by decide, _, _, rfl⟩
set_option maxRecDepth 20000 in
theorem cvL_62 : CVd RL 62 10 mX9_draw := ⟨tbW 2 239 (by first | rfl | decide +kernel) (by decide +kernel), tbW 3 0 (by first | rfl | decide +kernel) (by decide +kernel), tbW 3 1 (by first | rfl | decide +kernel) (by decide +kernel), by decide, _, _, rfl⟩
set_option maxRecDepth 20000 in
theorem cvL_66 : CVd RL 66 11 mX10_draw := ⟨tbW 5 109 (by first | rfl | decide +kernel) (by decide +kernel), tbW 5 110 (by first | rfl | decide +kernel) (by decide +kernel), tbW 5 111 (by first | rfl | decide +kernel) (by decide +kernel), by decide, _, _, rfl⟩
set_option maxRecDepth 20000 in
theorem cvL_67 : CVd RL 67 10 mX9_brew := ⟨tbW 3 3 (by first | rfl | decide +kernel) (by decide +kernel), tbW 3 4 (by first | rfl | decide +kernel) (by decide +kernel), tbW 3 5 (by first | rfl | decide +kernel) (by decide +kernel), by decide, _, _, rfl⟩
set_option maxRecDepth 20000 in
theorem cvL_70 : CVd RL 70 11 mX10_brew := ⟨tbW 5 113 (by first | rfl | decide +kernel) (by decide +kernel), tbW 5 114 (by first | rfl | decide +kernel) (by decide +kernel), tbW 5 115 (by first | rfl | decide +kernel) (by decide +kernel), by decide, _, _, rfl⟩
set_option maxRecDepth 20000 in
theorem cvL_71 : CVd RL 71 10 mX9_turn := ⟨tbW 3 7 (by first | rfl | decide +kernel) (by decide +kernel), tbW 3 8 (by first | rfl | decide +kernel) (by decide +kernel), tbW 3 9 (by first | rfl | decide +kernel) (by decide +kernel), by decide, _, _, rfl⟩
set_option maxRecDepth 20000 in
theorem cvL_74 : CVd RL 74 11 mX10_turn := ⟨tbW 5 117 (by first | rfl | decide +kernel) (by decide +kernel), tbW 5 118 (by first | rfl | decide +kernel) (by decide +kernel), tbW 5 119 (by first | rfl | decide +kernel) (by decide +kernel), by decide, _, _, rfl⟩
set_option maxRecDepth 20000 in
theorem cvL_75 : CVd RL 75 10 mX9_let := ⟨tbW 3 54 (by first | rfl | decide +kernel) (by decide +kernel), tbW 3 55 (by first | rfl | decide +kernel) (by decide +kernel), tbW 3 56 (by first | rfl | decide +kernel) (by decide +kernel), by decide, _, _, rfl⟩
set_option maxRecDepth 20000 in
theorem cvL_78 : CVd RL 78 11 mX10_let := ⟨tbW 5 121 (by first | rfl | decide +kernel) (by decide +kernel), tbW 5 122 (by first | rfl | decide +kernel) (by decide +kernel), tbW 5 123 (by first | rfl | decide +kernel) (by decide +kernel), by decide, _, _, rfl⟩
set_option maxRecDepth 20000 in
theorem cvL_79 : CVd RL 79 10 mX9_clashes := ⟨tbW 3 67 (by first | rfl | decide +kernel) (by decide +kernel), tbW 3 68 (by first | rfl | decide +kernel) (by decide +kernel), tbW 3 69 (by first | rfl | decide +kernel) (by decide +kernel), by decide, _, _, rfl⟩
set_option maxRecDepth 20000 in
theorem cvL_82 : CVd RL 82 11 mX10_clashes := ⟨tbW 5 145 (by first | rfl | decide +kernel) (by decide +kernel), tbW 5 146 (by first | rfl | decide +kernel) (by decide +kernel), tbW 5 147 (by first | rfl | decide +kernel) (by decide +kernel), by decide, _, _, rfl⟩
set_option maxRecDepth 20000 in
theorem cvL_83 : CVd RL 83 10 mX9_hours := ⟨tbW 3 94 (by first | rfl | decide +kernel) (by decide +kernel), tbW 3 95 (by first | rfl | decide +kernel) (by decide +kernel), tbW 3 96 (by first | rfl | decide +kernel) (by decide +kernel), by decide, _, _, rfl⟩
set_option maxRecDepth 20000 in
theorem cvL_86 : CVd RL 86 11 mX10_hours := ⟨tbW 5 153 (by first | rfl | decide +kernel) (by decide +kernel), tbW 5 154 (by first | rfl | decide +kernel) (by decide +kernel), tbW 5 155 (by first | rfl | decide +kernel) (by decide +kernel), by decide, _, _, rfl⟩
set_option maxRecDepth 20000 in
theorem cvL_87 : CVd RL 87 10 mX9_iron := ⟨tbW 3 152 (by first | rfl | decide +kernel) (by decide +kernel), tbW 3 153 (by first | rfl | decide +kernel) (by decide +kernel), tbW 3 154 (by first | rfl | decide +kernel) (by decide +kernel), by decide, _, _, rfl⟩
set_option maxRecDepth 20000 in
theorem cvL_90 : CVd RL 90 11 mX10_iron := ⟨tbW 5 184 (by first | rfl | decide +kernel) (by decide +kernel), tbW 5 185 (by first | rfl | decide +kernel) (by decide +kernel), tbW 5 186 (by first | rfl | decide +kernel) (by decide +kernel), by decide, _, _, rfl⟩
set_option maxRecDepth 20000 in
theorem cvL_91 : CVd RL 91 10 mX9_renew := ⟨tbW 3 160 (by first | rfl | decide +kernel) (by decide +kernel), tbW 3 161 (by first | rfl | decide +kernel) (by decide +kernel), tbW 3 162 (by first | rfl | decide +kernel) (by decide +kernel), by decide, _, _, rfl⟩
set_option maxRecDepth 20000 in
theorem cvL_94 : CVd RL 94 11 mX10_renew := ⟨tbW 5 188 (by first | rfl | decide +kernel) (by decide +kernel), tbW 5 189 (by first | rfl | decide +kernel) (by decide +kernel), tbW 5 190 (by first | rfl | decide +kernel) (by decide +kernel), by decide, _, _, rfl⟩
set_option maxRecDepth 20000 in
theorem cvL_95 : CVd RL 95 10 mX9_stand := ⟨tbW 3 164 (by first | rfl | decide +kernel) (by decide +kernel), tbW 3 165 (by first | rfl | decide +kernel) (by decide +kernel), tbW 3 166 (by first | rfl | decide +kernel) (by decide +kernel), by decide, _, _, rfl⟩
set_option maxRecDepth 20000 in
theorem cvL_98 : CVd RL 98 11 mX10_stand := ⟨tbW 5 192 (by first | rfl | decide +kernel) (by decide +kernel), tbW 5 193 (by first | rfl | decide +kernel) (by decide +kernel), tbW 5 194 (by first | rfl | decide +kernel) (by decide +kernel), by decide, _, _, rfl⟩
set_option maxRecDepth 20000 in
theorem cvL_99 : CVd RL 99 10 mX9_way := ⟨tbW 3 168 (by first | rfl | decide +kernel) (by decide +kernel), tbW 3 169 (by first | rfl | decide +kernel) (by decide +kernel), tbW 3 170 (by first | rfl | decide +kernel) (by decide +kernel), by decide, _, _, rfl⟩
set_option maxRecDepth 20000 in
theorem cvL_102 : CVd RL 102 11 mX10_way := ⟨tbW 5 133 (by first | rfl | decide +kernel) (by decide +kernel), tbW 5 134 (by first | rfl | decide +kernel) (by decide +kernel), tbW 5 135 (by first | rfl | decide +kernel) (by decide +kernel), by decide, _, _, rfl⟩
set_option maxRecDepth 20000 in
theorem cvL_103 : CVd RL 103 10 mX9_fire := ⟨tbW 3 172 (by first | rfl | decide +kernel) (by decide +kernel), tbW 3 173 (by first | rfl | decide +kernel) (by decide +kernel), tbW 3 174 (by first | rfl | decide +kernel) (by decide +kernel), by decide, _, _, rfl⟩
set_option maxRecDepth 20000 in
theorem cvL_106 : CVd RL 106 11 mX10_fire := ⟨tbW 5 196 (by first | rfl | decide +kernel) (by decide +kernel), tbW 5 197 (by first | rfl | decide +kernel) (by decide +kernel), tbW 5 198 (by first | rfl | decide +kernel) (by decide +kernel), by decide, _, _, rfl⟩
set_option maxRecDepth 20000 in
theorem cvL_107 : CVd RL 107 10 mX9_reading := ⟨tbW 3 201 (by first | rfl | decide +kernel) (by decide +kernel), tbW 3 202 (by first | rfl | decide +kernel) (by decide +kernel), tbW 3 203 (by first | rfl | decide +kernel) (by decide +kernel), by decide, _, _, rfl⟩
set_option maxRecDepth 20000 in
theorem cvL_111 : CVd RL 111 11 mX10_reading := ⟨tbW 5 200 (by first | rfl | decide +kernel) (by decide +kernel), tbW 5 201 (by first | rfl | decide +kernel) (by decide +kernel), tbW 5 202 (by first | rfl | decide +kernel) (by decide +kernel), by decide, _, _, rfl⟩
set_option maxRecDepth 20000 in
theorem cvL_112 : CVd RL 112 10 mX9_span := ⟨tbW 3 210 (by first | rfl | decide +kernel) (by decide +kernel), tbW 3 211 (by first | rfl | decide +kernel) (by decide +kernel), tbW 3 212 (by first | rfl | decide +kernel) (by decide +kernel), by decide, _, _, rfl⟩
set_option maxRecDepth 20000 in
theorem cvL_115 : CVd RL 115 11 mX10_span := ⟨tbW 5 204 (by first | rfl | decide +kernel) (by decide +kernel), tbW 5 205 (by first | rfl | decide +kernel) (by decide +kernel), tbW 5 206 (by first | rfl | decide +kernel) (by decide +kernel), by decide, _, _, rfl⟩
set_option maxRecDepth 20000 in
theorem cvL_116 : CVd RL 116 10 mX9_best := ⟨tbW 3 214 (by first | rfl | decide +kernel) (by decide +kernel), tbW 3 215 (by first | rfl | decide +kernel) (by decide +kernel), tbW 3 216 (by first | rfl | decide +kernel) (by decide +kernel), by decide, _, _, rfl⟩
set_option maxRecDepth 20000 in
theorem cvL_119 : CVd RL 119 11 mX10_best := ⟨tbW 5 208 (by first | rfl | decide +kernel) (by decide +kernel), tbW 5 209 (by first | rfl | decide +kernel) (by decide +kernel), tbW 5 210 (by first | rfl | decide +kernel) (by decide +kernel), by decide, _, _, rfl⟩
set_option maxRecDepth 20000 in
theorem cvL_120 : CVd RL 120 10 mX9_bestWorth := ⟨tbW 4 2 (by first | rfl | decide +kernel) (by decide +kernel), tbW 4 3 (by first | rfl | decide +kernel) (by decide +kernel), tbW 4 4 (by first | rfl | decide +kernel) (by decide +kernel), by decide, _, _, rfl⟩
set_option maxRecDepth 20000 in
theorem cvL_123 : CVd RL 123 11 mX10_bestWorth := ⟨tbW 5 223 (by first | rfl | decide +kernel) (by decide +kernel), tbW 5 224 (by first | rfl | decide +kernel) (by decide +kernel), tbW 5 225 (by first | rfl | decide +kernel) (by decide +kernel), by decide, _, _, rfl⟩
set_option maxRecDepth 20000 in
theorem cvL_124 : CVd RL 124 10 mX9_days := ⟨tbW 4 10 (by first | rfl | decide +kernel) (by decide +kernel), tbW 4 11 (by first | rfl | decide +kernel) (by decide +kernel), tbW 4 12 (by first | rfl | decide +kernel) (by decide +kernel), by decide, _, _, rfl⟩
set_option maxRecDepth 20000 in
theorem cvL_127 : CVd RL 127 11 mX10_days := ⟨tbW 5 227 (by first | rfl | decide +kernel) (by decide +kernel), tbW 5 228 (by first | rfl | decide +kernel) (by decide +kernel), tbW 5 229 (by first | rfl | decide +kernel) (by decide +kernel), by decide, _, _, rfl⟩
set_option maxRecDepth 20000 in
theorem cvL_128 : CVd RL 128 10 mX9_dayOf := ⟨tbW 4 50 (by first | rfl | decide +kernel) (by decide +kernel), tbW 4 51 (by first | rfl | decide +kernel) (by decide +kernel), tbW 4 52 (by first | rfl | decide +kernel) (by decide +kernel), by decide, _, _, rfl⟩
set_option maxRecDepth 20000 in
theorem cvL_131 : CVd RL 131 11 mX10_dayOf := ⟨tbW 6 3 (by first | rfl | decide +kernel) (by decide +kernel), tbW 6 4 (by first | rfl | decide +kernel) (by decide +kernel), tbW 6 5 (by first | rfl | decide +kernel) (by decide +kernel), by decide, _, _, rfl⟩
set_option maxRecDepth 20000 in
theorem cvL_132 : CVd RL 132 10 mX9_law := ⟨tbW 4 58 (by first | rfl | decide +kernel) (by decide +kernel), tbW 4 59 (by first | rfl | decide +kernel) (by decide +kernel), tbW 4 60 (by first | rfl | decide +kernel) (by decide +kernel), by decide, _, _, rfl⟩
set_option maxRecDepth 20000 in
theorem cvL_135 : CVd RL 135 11 mX10_law := ⟨tbW 6 7 (by first | rfl | decide +kernel) (by decide +kernel), tbW 6 8 (by first | rfl | decide +kernel) (by decide +kernel), tbW 6 9 (by first | rfl | decide +kernel) (by decide +kernel), by decide, _, _, rfl⟩
set_option maxRecDepth 20000 in
theorem cvL_136 : CVd RL 136 10 mX9_rate := ⟨tbW 4 82 (by first | rfl | decide +kernel) (by decide +kernel), tbW 4 83 (by first | rfl | decide +kernel) (by decide +kernel), tbW 4 84 (by first | rfl | decide +kernel) (by decide +kernel), by decide, _, _, rfl⟩
set_option maxRecDepth 20000 in
theorem cvL_139 : CVd RL 139 11 mX10_rate := ⟨tbW 6 11 (by first | rfl | decide +kernel) (by decide +kernel), tbW 6 12 (by first | rfl | decide +kernel) (by decide +kernel), tbW 6 13 (by first | rfl | decide +kernel) (by decide +kernel), by decide, _, _, rfl⟩
set_option maxRecDepth 20000 in
theorem cvL_140 : CVd RL 140 10 mX9_houseOf := ⟨tbW 4 94 (by first | rfl | decide +kernel) (by decide +kernel), tbW 4 95 (by first | rfl | decide +kernel) (by decide +kernel), tbW 4 96 (by first | rfl | decide +kernel) (by decide +kernel), by decide, _, _, rfl⟩
set_option maxRecDepth 20000 in
theorem cvL_143 : CVd RL 143 11 mX10_houseOf := ⟨tbW 6 15 (by first | rfl | decide +kernel) (by decide +kernel), tbW 6 16 (by first | rfl | decide +kernel) (by decide +kernel), tbW 6 17 (by first | rfl | decide +kernel) (by decide +kernel), by decide, _, _, rfl⟩
set_option maxRecDepth 20000 in
theorem cvL_144 : CVd RL 144 10 mX9_streetOf := ⟨tbW 4 98 (by first | rfl | decide +kernel) (by decide +kernel), tbW 4 99 (by first | rfl | decide +kernel) (by decide +kernel), tbW 4 100 (by first | rfl | decide +kernel) (by decide +kernel), by decide, _, _, rfl⟩
set_option maxRecDepth 20000 in
theorem cvL_147 : CVd RL 147 11 mX10_streetOf := ⟨tbW 6 19 (by first | rfl | decide +kernel) (by decide +kernel), tbW 6 20 (by first | rfl | decide +kernel) (by decide +kernel), tbW 6 21 (by first | rfl | decide +kernel) (by decide +kernel), by decide, _, _, rfl⟩
set_option maxRecDepth 20000 in
theorem cvL_148 : CVd RL 148 10 mX9_count := ⟨tbW 4 102 (by first | rfl | decide +kernel) (by decide +kernel), tbW 4 103 (by first | rfl | decide +kernel) (by decide +kernel), tbW 4 104 (by first | rfl | decide +kernel) (by decide +kernel), by decide, _, _, rfl⟩
set_option maxRecDepth 20000 in
theorem cvL_151 : CVd RL 151 11 mX10_count := ⟨tbW 6 23 (by first | rfl | decide +kernel) (by decide +kernel), tbW 6 24 (by first | rfl | decide +kernel) (by decide +kernel), tbW 6 25 (by first | rfl | decide +kernel) (by decide +kernel), by decide, _, _, rfl⟩
set_option maxRecDepth 20000 in
theorem oiI : Cond.instanceMethod Lib.objectInit ∈ tbG := tbW 1 28 (by first | rfl | decide +kernel) (by decide +kernel)
set_option maxRecDepth 20000 in
theorem oiC : Cond.code Lib.objectInit ⟨#[0xb1]⟩ 1 none ∈ tbG := tbW 1 29 (by first | rfl | decide +kernel) (by decide +kernel)
set_option maxRecDepth 20000 in
theorem wAI : Cond.arrayClass .int ∈ tbG := tbW 1 71 (by first | rfl | decide +kernel) (by decide +kernel)
set_option maxRecDepth 20000 in
theorem wAZ : Cond.arrayClass .boolean ∈ tbG := tbW 5 47 (by first | rfl | decide +kernel) (by decide +kernel)
set_option maxRecDepth 20000 in
theorem caX5 : Cond.castable RX5 "java/lang/Object" ∈ nwL := List.mem_filter.mpr ⟨tbA 6 35 (by first | rfl | decide +kernel), rfl⟩
set_option maxRecDepth 20000 in
theorem caX1 : Cond.castable RX1 "java/lang/Object" ∈ nwL := List.mem_filter.mpr ⟨tbA 6 36 (by first | rfl | decide +kernel), rfl⟩
set_option maxRecDepth 20000 in
theorem caX7 : Cond.castable RX7 "java/lang/Object" ∈ nwL := List.mem_filter.mpr ⟨tbA 6 37 (by first | rfl | decide +kernel), rfl⟩
set_option maxRecDepth 20000 in
theorem caX3 : Cond.castable RX3 "java/lang/Object" ∈ nwL := List.mem_filter.mpr ⟨tbA 6 38 (by first | rfl | decide +kernel), rfl⟩
set_option maxRecDepth 20000 in
theorem gcL : Cond.methodLink RJ7 86 gcN ∈ tbG := tbW 2 81 (by first | rfl | decide +kernel) (by decide +kernel)
set_option maxRecDepth 20000 in
theorem gcD : Cond.declares gcN ∈ nwL := List.mem_filter.mpr ⟨tbA 6 41 (by first | rfl | decide +kernel), rfl⟩
set_option maxRecDepth 20000 in
theorem gcS : Cond.selects "[Ljava/lang/Object;" gcN gcN ∈ tbG := tbW 6 40 (by first | rfl | decide +kernel) (by decide +kernel)
set_option maxRecDepth 20000 in
theorem gcI : Cond.instanceMethod gcN ∈ tbG := tbW 2 82 (by first | rfl | decide +kernel) (by decide +kernel)
set_option maxRecDepth 20000 in
theorem gcV : Cond.native gcN ∈ tbG := tbW 2 96 (by first | rfl | decide +kernel) (by decide +kernel)
