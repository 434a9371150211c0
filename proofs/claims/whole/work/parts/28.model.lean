/-! ===== the model, told as a ship ===== -/
theorem fup_sw {f : Nat → Int} {j k : Nat} {a b : Int} (h : k < j) : fup (fup f j b) k a = fup (fup f k a) j b := by
  funext n
  simp only [fup]
  by_cases h1 : n = k
  · subst h1
    have : ¬ n = j := by omega
    simp [this]
  · simp [h1]
theorem aup_sw {f : Nat → Int → Int} {j k : Nat} {a b : Int → Int} (h : k < j) : aup (aup f j b) k a = aup (aup f k a) j b := by
  funext n
  simp only [aup]
  by_cases h1 : n = k
  · subst h1
    have : ¬ n = j := by omega
    simp [this]
  · simp [h1]
theorem fs_1_2 (f : Nat → Int) (a b : Int) : fup (fup f 2 b) 1 a = fup (fup f 1 a) 2 b := fup_sw (by decide)
theorem fs_1_3 (f : Nat → Int) (a b : Int) : fup (fup f 3 b) 1 a = fup (fup f 1 a) 3 b := fup_sw (by decide)
theorem fs_1_4 (f : Nat → Int) (a b : Int) : fup (fup f 4 b) 1 a = fup (fup f 1 a) 4 b := fup_sw (by decide)
theorem fs_1_5 (f : Nat → Int) (a b : Int) : fup (fup f 5 b) 1 a = fup (fup f 1 a) 5 b := fup_sw (by decide)
theorem fs_1_6 (f : Nat → Int) (a b : Int) : fup (fup f 6 b) 1 a = fup (fup f 1 a) 6 b := fup_sw (by decide)
theorem fs_1_7 (f : Nat → Int) (a b : Int) : fup (fup f 7 b) 1 a = fup (fup f 1 a) 7 b := fup_sw (by decide)
theorem fs_1_8 (f : Nat → Int) (a b : Int) : fup (fup f 8 b) 1 a = fup (fup f 1 a) 8 b := fup_sw (by decide)
theorem fs_1_9 (f : Nat → Int) (a b : Int) : fup (fup f 9 b) 1 a = fup (fup f 1 a) 9 b := fup_sw (by decide)
theorem fs_1_18 (f : Nat → Int) (a b : Int) : fup (fup f 18 b) 1 a = fup (fup f 1 a) 18 b := fup_sw (by decide)
theorem fs_1_19 (f : Nat → Int) (a b : Int) : fup (fup f 19 b) 1 a = fup (fup f 1 a) 19 b := fup_sw (by decide)
theorem fs_1_20 (f : Nat → Int) (a b : Int) : fup (fup f 20 b) 1 a = fup (fup f 1 a) 20 b := fup_sw (by decide)
theorem fs_1_23 (f : Nat → Int) (a b : Int) : fup (fup f 23 b) 1 a = fup (fup f 1 a) 23 b := fup_sw (by decide)
theorem fs_1_25 (f : Nat → Int) (a b : Int) : fup (fup f 25 b) 1 a = fup (fup f 1 a) 25 b := fup_sw (by decide)
theorem fs_1_26 (f : Nat → Int) (a b : Int) : fup (fup f 26 b) 1 a = fup (fup f 1 a) 26 b := fup_sw (by decide)
theorem fs_1_29 (f : Nat → Int) (a b : Int) : fup (fup f 29 b) 1 a = fup (fup f 1 a) 29 b := fup_sw (by decide)
theorem fs_2_3 (f : Nat → Int) (a b : Int) : fup (fup f 3 b) 2 a = fup (fup f 2 a) 3 b := fup_sw (by decide)
theorem fs_2_4 (f : Nat → Int) (a b : Int) : fup (fup f 4 b) 2 a = fup (fup f 2 a) 4 b := fup_sw (by decide)
theorem fs_2_5 (f : Nat → Int) (a b : Int) : fup (fup f 5 b) 2 a = fup (fup f 2 a) 5 b := fup_sw (by decide)
theorem fs_2_6 (f : Nat → Int) (a b : Int) : fup (fup f 6 b) 2 a = fup (fup f 2 a) 6 b := fup_sw (by decide)
theorem fs_2_7 (f : Nat → Int) (a b : Int) : fup (fup f 7 b) 2 a = fup (fup f 2 a) 7 b := fup_sw (by decide)
theorem fs_2_8 (f : Nat → Int) (a b : Int) : fup (fup f 8 b) 2 a = fup (fup f 2 a) 8 b := fup_sw (by decide)
theorem fs_2_9 (f : Nat → Int) (a b : Int) : fup (fup f 9 b) 2 a = fup (fup f 2 a) 9 b := fup_sw (by decide)
theorem fs_2_18 (f : Nat → Int) (a b : Int) : fup (fup f 18 b) 2 a = fup (fup f 2 a) 18 b := fup_sw (by decide)
theorem fs_2_19 (f : Nat → Int) (a b : Int) : fup (fup f 19 b) 2 a = fup (fup f 2 a) 19 b := fup_sw (by decide)
theorem fs_2_20 (f : Nat → Int) (a b : Int) : fup (fup f 20 b) 2 a = fup (fup f 2 a) 20 b := fup_sw (by decide)
theorem fs_2_23 (f : Nat → Int) (a b : Int) : fup (fup f 23 b) 2 a = fup (fup f 2 a) 23 b := fup_sw (by decide)
theorem fs_2_25 (f : Nat → Int) (a b : Int) : fup (fup f 25 b) 2 a = fup (fup f 2 a) 25 b := fup_sw (by decide)
theorem fs_2_26 (f : Nat → Int) (a b : Int) : fup (fup f 26 b) 2 a = fup (fup f 2 a) 26 b := fup_sw (by decide)
theorem fs_2_29 (f : Nat → Int) (a b : Int) : fup (fup f 29 b) 2 a = fup (fup f 2 a) 29 b := fup_sw (by decide)
theorem fs_3_4 (f : Nat → Int) (a b : Int) : fup (fup f 4 b) 3 a = fup (fup f 3 a) 4 b := fup_sw (by decide)
theorem fs_3_5 (f : Nat → Int) (a b : Int) : fup (fup f 5 b) 3 a = fup (fup f 3 a) 5 b := fup_sw (by decide)
theorem fs_3_6 (f : Nat → Int) (a b : Int) : fup (fup f 6 b) 3 a = fup (fup f 3 a) 6 b := fup_sw (by decide)
theorem fs_3_7 (f : Nat → Int) (a b : Int) : fup (fup f 7 b) 3 a = fup (fup f 3 a) 7 b := fup_sw (by decide)
theorem fs_3_8 (f : Nat → Int) (a b : Int) : fup (fup f 8 b) 3 a = fup (fup f 3 a) 8 b := fup_sw (by decide)
theorem fs_3_9 (f : Nat → Int) (a b : Int) : fup (fup f 9 b) 3 a = fup (fup f 3 a) 9 b := fup_sw (by decide)
theorem fs_3_18 (f : Nat → Int) (a b : Int) : fup (fup f 18 b) 3 a = fup (fup f 3 a) 18 b := fup_sw (by decide)
theorem fs_3_19 (f : Nat → Int) (a b : Int) : fup (fup f 19 b) 3 a = fup (fup f 3 a) 19 b := fup_sw (by decide)
theorem fs_3_20 (f : Nat → Int) (a b : Int) : fup (fup f 20 b) 3 a = fup (fup f 3 a) 20 b := fup_sw (by decide)
theorem fs_3_23 (f : Nat → Int) (a b : Int) : fup (fup f 23 b) 3 a = fup (fup f 3 a) 23 b := fup_sw (by decide)
theorem fs_3_25 (f : Nat → Int) (a b : Int) : fup (fup f 25 b) 3 a = fup (fup f 3 a) 25 b := fup_sw (by decide)
theorem fs_3_26 (f : Nat → Int) (a b : Int) : fup (fup f 26 b) 3 a = fup (fup f 3 a) 26 b := fup_sw (by decide)
theorem fs_3_29 (f : Nat → Int) (a b : Int) : fup (fup f 29 b) 3 a = fup (fup f 3 a) 29 b := fup_sw (by decide)
theorem fs_4_5 (f : Nat → Int) (a b : Int) : fup (fup f 5 b) 4 a = fup (fup f 4 a) 5 b := fup_sw (by decide)
theorem fs_4_6 (f : Nat → Int) (a b : Int) : fup (fup f 6 b) 4 a = fup (fup f 4 a) 6 b := fup_sw (by decide)
theorem fs_4_7 (f : Nat → Int) (a b : Int) : fup (fup f 7 b) 4 a = fup (fup f 4 a) 7 b := fup_sw (by decide)
theorem fs_4_8 (f : Nat → Int) (a b : Int) : fup (fup f 8 b) 4 a = fup (fup f 4 a) 8 b := fup_sw (by decide)
theorem fs_4_9 (f : Nat → Int) (a b : Int) : fup (fup f 9 b) 4 a = fup (fup f 4 a) 9 b := fup_sw (by decide)
theorem fs_4_18 (f : Nat → Int) (a b : Int) : fup (fup f 18 b) 4 a = fup (fup f 4 a) 18 b := fup_sw (by decide)
theorem fs_4_19 (f : Nat → Int) (a b : Int) : fup (fup f 19 b) 4 a = fup (fup f 4 a) 19 b := fup_sw (by decide)
theorem fs_4_20 (f : Nat → Int) (a b : Int) : fup (fup f 20 b) 4 a = fup (fup f 4 a) 20 b := fup_sw (by decide)
theorem fs_4_23 (f : Nat → Int) (a b : Int) : fup (fup f 23 b) 4 a = fup (fup f 4 a) 23 b := fup_sw (by decide)
theorem fs_4_25 (f : Nat → Int) (a b : Int) : fup (fup f 25 b) 4 a = fup (fup f 4 a) 25 b := fup_sw (by decide)
theorem fs_4_26 (f : Nat → Int) (a b : Int) : fup (fup f 26 b) 4 a = fup (fup f 4 a) 26 b := fup_sw (by decide)
theorem fs_4_29 (f : Nat → Int) (a b : Int) : fup (fup f 29 b) 4 a = fup (fup f 4 a) 29 b := fup_sw (by decide)
theorem fs_5_6 (f : Nat → Int) (a b : Int) : fup (fup f 6 b) 5 a = fup (fup f 5 a) 6 b := fup_sw (by decide)
theorem fs_5_7 (f : Nat → Int) (a b : Int) : fup (fup f 7 b) 5 a = fup (fup f 5 a) 7 b := fup_sw (by decide)
theorem fs_5_8 (f : Nat → Int) (a b : Int) : fup (fup f 8 b) 5 a = fup (fup f 5 a) 8 b := fup_sw (by decide)
theorem fs_5_9 (f : Nat → Int) (a b : Int) : fup (fup f 9 b) 5 a = fup (fup f 5 a) 9 b := fup_sw (by decide)
theorem fs_5_18 (f : Nat → Int) (a b : Int) : fup (fup f 18 b) 5 a = fup (fup f 5 a) 18 b := fup_sw (by decide)
theorem fs_5_19 (f : Nat → Int) (a b : Int) : fup (fup f 19 b) 5 a = fup (fup f 5 a) 19 b := fup_sw (by decide)
theorem fs_5_20 (f : Nat → Int) (a b : Int) : fup (fup f 20 b) 5 a = fup (fup f 5 a) 20 b := fup_sw (by decide)
theorem fs_5_23 (f : Nat → Int) (a b : Int) : fup (fup f 23 b) 5 a = fup (fup f 5 a) 23 b := fup_sw (by decide)
theorem fs_5_25 (f : Nat → Int) (a b : Int) : fup (fup f 25 b) 5 a = fup (fup f 5 a) 25 b := fup_sw (by decide)
theorem fs_5_26 (f : Nat → Int) (a b : Int) : fup (fup f 26 b) 5 a = fup (fup f 5 a) 26 b := fup_sw (by decide)
theorem fs_5_29 (f : Nat → Int) (a b : Int) : fup (fup f 29 b) 5 a = fup (fup f 5 a) 29 b := fup_sw (by decide)
theorem fs_6_7 (f : Nat → Int) (a b : Int) : fup (fup f 7 b) 6 a = fup (fup f 6 a) 7 b := fup_sw (by decide)
theorem fs_6_8 (f : Nat → Int) (a b : Int) : fup (fup f 8 b) 6 a = fup (fup f 6 a) 8 b := fup_sw (by decide)
theorem fs_6_9 (f : Nat → Int) (a b : Int) : fup (fup f 9 b) 6 a = fup (fup f 6 a) 9 b := fup_sw (by decide)
theorem fs_6_18 (f : Nat → Int) (a b : Int) : fup (fup f 18 b) 6 a = fup (fup f 6 a) 18 b := fup_sw (by decide)
theorem fs_6_19 (f : Nat → Int) (a b : Int) : fup (fup f 19 b) 6 a = fup (fup f 6 a) 19 b := fup_sw (by decide)
theorem fs_6_20 (f : Nat → Int) (a b : Int) : fup (fup f 20 b) 6 a = fup (fup f 6 a) 20 b := fup_sw (by decide)
theorem fs_6_23 (f : Nat → Int) (a b : Int) : fup (fup f 23 b) 6 a = fup (fup f 6 a) 23 b := fup_sw (by decide)
theorem fs_6_25 (f : Nat → Int) (a b : Int) : fup (fup f 25 b) 6 a = fup (fup f 6 a) 25 b := fup_sw (by decide)
theorem fs_6_26 (f : Nat → Int) (a b : Int) : fup (fup f 26 b) 6 a = fup (fup f 6 a) 26 b := fup_sw (by decide)
theorem fs_6_29 (f : Nat → Int) (a b : Int) : fup (fup f 29 b) 6 a = fup (fup f 6 a) 29 b := fup_sw (by decide)
theorem fs_7_8 (f : Nat → Int) (a b : Int) : fup (fup f 8 b) 7 a = fup (fup f 7 a) 8 b := fup_sw (by decide)
theorem fs_7_9 (f : Nat → Int) (a b : Int) : fup (fup f 9 b) 7 a = fup (fup f 7 a) 9 b := fup_sw (by decide)
theorem fs_7_18 (f : Nat → Int) (a b : Int) : fup (fup f 18 b) 7 a = fup (fup f 7 a) 18 b := fup_sw (by decide)
theorem fs_7_19 (f : Nat → Int) (a b : Int) : fup (fup f 19 b) 7 a = fup (fup f 7 a) 19 b := fup_sw (by decide)
theorem fs_7_20 (f : Nat → Int) (a b : Int) : fup (fup f 20 b) 7 a = fup (fup f 7 a) 20 b := fup_sw (by decide)
theorem fs_7_23 (f : Nat → Int) (a b : Int) : fup (fup f 23 b) 7 a = fup (fup f 7 a) 23 b := fup_sw (by decide)
theorem fs_7_25 (f : Nat → Int) (a b : Int) : fup (fup f 25 b) 7 a = fup (fup f 7 a) 25 b := fup_sw (by decide)
theorem fs_7_26 (f : Nat → Int) (a b : Int) : fup (fup f 26 b) 7 a = fup (fup f 7 a) 26 b := fup_sw (by decide)
theorem fs_7_29 (f : Nat → Int) (a b : Int) : fup (fup f 29 b) 7 a = fup (fup f 7 a) 29 b := fup_sw (by decide)
theorem fs_8_9 (f : Nat → Int) (a b : Int) : fup (fup f 9 b) 8 a = fup (fup f 8 a) 9 b := fup_sw (by decide)
theorem fs_8_18 (f : Nat → Int) (a b : Int) : fup (fup f 18 b) 8 a = fup (fup f 8 a) 18 b := fup_sw (by decide)
theorem fs_8_19 (f : Nat → Int) (a b : Int) : fup (fup f 19 b) 8 a = fup (fup f 8 a) 19 b := fup_sw (by decide)
theorem fs_8_20 (f : Nat → Int) (a b : Int) : fup (fup f 20 b) 8 a = fup (fup f 8 a) 20 b := fup_sw (by decide)
theorem fs_8_23 (f : Nat → Int) (a b : Int) : fup (fup f 23 b) 8 a = fup (fup f 8 a) 23 b := fup_sw (by decide)
theorem fs_8_25 (f : Nat → Int) (a b : Int) : fup (fup f 25 b) 8 a = fup (fup f 8 a) 25 b := fup_sw (by decide)
theorem fs_8_26 (f : Nat → Int) (a b : Int) : fup (fup f 26 b) 8 a = fup (fup f 8 a) 26 b := fup_sw (by decide)
theorem fs_8_29 (f : Nat → Int) (a b : Int) : fup (fup f 29 b) 8 a = fup (fup f 8 a) 29 b := fup_sw (by decide)
theorem fs_9_18 (f : Nat → Int) (a b : Int) : fup (fup f 18 b) 9 a = fup (fup f 9 a) 18 b := fup_sw (by decide)
theorem fs_9_19 (f : Nat → Int) (a b : Int) : fup (fup f 19 b) 9 a = fup (fup f 9 a) 19 b := fup_sw (by decide)
theorem fs_9_20 (f : Nat → Int) (a b : Int) : fup (fup f 20 b) 9 a = fup (fup f 9 a) 20 b := fup_sw (by decide)
theorem fs_9_23 (f : Nat → Int) (a b : Int) : fup (fup f 23 b) 9 a = fup (fup f 9 a) 23 b := fup_sw (by decide)
theorem fs_9_25 (f : Nat → Int) (a b : Int) : fup (fup f 25 b) 9 a = fup (fup f 9 a) 25 b := fup_sw (by decide)
theorem fs_9_26 (f : Nat → Int) (a b : Int) : fup (fup f 26 b) 9 a = fup (fup f 9 a) 26 b := fup_sw (by decide)
theorem fs_9_29 (f : Nat → Int) (a b : Int) : fup (fup f 29 b) 9 a = fup (fup f 9 a) 29 b := fup_sw (by decide)
theorem fs_18_19 (f : Nat → Int) (a b : Int) : fup (fup f 19 b) 18 a = fup (fup f 18 a) 19 b := fup_sw (by decide)
theorem fs_18_20 (f : Nat → Int) (a b : Int) : fup (fup f 20 b) 18 a = fup (fup f 18 a) 20 b := fup_sw (by decide)
theorem fs_18_23 (f : Nat → Int) (a b : Int) : fup (fup f 23 b) 18 a = fup (fup f 18 a) 23 b := fup_sw (by decide)
theorem fs_18_25 (f : Nat → Int) (a b : Int) : fup (fup f 25 b) 18 a = fup (fup f 18 a) 25 b := fup_sw (by decide)
theorem fs_18_26 (f : Nat → Int) (a b : Int) : fup (fup f 26 b) 18 a = fup (fup f 18 a) 26 b := fup_sw (by decide)
theorem fs_18_29 (f : Nat → Int) (a b : Int) : fup (fup f 29 b) 18 a = fup (fup f 18 a) 29 b := fup_sw (by decide)
theorem fs_19_20 (f : Nat → Int) (a b : Int) : fup (fup f 20 b) 19 a = fup (fup f 19 a) 20 b := fup_sw (by decide)
theorem fs_19_23 (f : Nat → Int) (a b : Int) : fup (fup f 23 b) 19 a = fup (fup f 19 a) 23 b := fup_sw (by decide)
theorem fs_19_25 (f : Nat → Int) (a b : Int) : fup (fup f 25 b) 19 a = fup (fup f 19 a) 25 b := fup_sw (by decide)
theorem fs_19_26 (f : Nat → Int) (a b : Int) : fup (fup f 26 b) 19 a = fup (fup f 19 a) 26 b := fup_sw (by decide)
theorem fs_19_29 (f : Nat → Int) (a b : Int) : fup (fup f 29 b) 19 a = fup (fup f 19 a) 29 b := fup_sw (by decide)
theorem fs_20_23 (f : Nat → Int) (a b : Int) : fup (fup f 23 b) 20 a = fup (fup f 20 a) 23 b := fup_sw (by decide)
theorem fs_20_25 (f : Nat → Int) (a b : Int) : fup (fup f 25 b) 20 a = fup (fup f 20 a) 25 b := fup_sw (by decide)
theorem fs_20_26 (f : Nat → Int) (a b : Int) : fup (fup f 26 b) 20 a = fup (fup f 20 a) 26 b := fup_sw (by decide)
theorem fs_20_29 (f : Nat → Int) (a b : Int) : fup (fup f 29 b) 20 a = fup (fup f 20 a) 29 b := fup_sw (by decide)
theorem fs_23_25 (f : Nat → Int) (a b : Int) : fup (fup f 25 b) 23 a = fup (fup f 23 a) 25 b := fup_sw (by decide)
theorem fs_23_26 (f : Nat → Int) (a b : Int) : fup (fup f 26 b) 23 a = fup (fup f 23 a) 26 b := fup_sw (by decide)
theorem fs_23_29 (f : Nat → Int) (a b : Int) : fup (fup f 29 b) 23 a = fup (fup f 23 a) 29 b := fup_sw (by decide)
theorem fs_25_26 (f : Nat → Int) (a b : Int) : fup (fup f 26 b) 25 a = fup (fup f 25 a) 26 b := fup_sw (by decide)
theorem fs_25_29 (f : Nat → Int) (a b : Int) : fup (fup f 29 b) 25 a = fup (fup f 25 a) 29 b := fup_sw (by decide)
theorem fs_26_29 (f : Nat → Int) (a b : Int) : fup (fup f 29 b) 26 a = fup (fup f 26 a) 29 b := fup_sw (by decide)
theorem as_0_1 (f : Nat → Int → Int) (a b : Int → Int) : aup (aup f 1 b) 0 a = aup (aup f 0 a) 1 b := aup_sw (by decide)
theorem as_0_2 (f : Nat → Int → Int) (a b : Int → Int) : aup (aup f 2 b) 0 a = aup (aup f 0 a) 2 b := aup_sw (by decide)
theorem as_0_3 (f : Nat → Int → Int) (a b : Int → Int) : aup (aup f 3 b) 0 a = aup (aup f 0 a) 3 b := aup_sw (by decide)
theorem as_0_4 (f : Nat → Int → Int) (a b : Int → Int) : aup (aup f 4 b) 0 a = aup (aup f 0 a) 4 b := aup_sw (by decide)
theorem as_0_5 (f : Nat → Int → Int) (a b : Int → Int) : aup (aup f 5 b) 0 a = aup (aup f 0 a) 5 b := aup_sw (by decide)
theorem as_0_6 (f : Nat → Int → Int) (a b : Int → Int) : aup (aup f 6 b) 0 a = aup (aup f 0 a) 6 b := aup_sw (by decide)
theorem as_0_7 (f : Nat → Int → Int) (a b : Int → Int) : aup (aup f 7 b) 0 a = aup (aup f 0 a) 7 b := aup_sw (by decide)
theorem as_0_8 (f : Nat → Int → Int) (a b : Int → Int) : aup (aup f 8 b) 0 a = aup (aup f 0 a) 8 b := aup_sw (by decide)
theorem as_0_9 (f : Nat → Int → Int) (a b : Int → Int) : aup (aup f 9 b) 0 a = aup (aup f 0 a) 9 b := aup_sw (by decide)
theorem as_0_10 (f : Nat → Int → Int) (a b : Int → Int) : aup (aup f 10 b) 0 a = aup (aup f 0 a) 10 b := aup_sw (by decide)
theorem as_0_11 (f : Nat → Int → Int) (a b : Int → Int) : aup (aup f 11 b) 0 a = aup (aup f 0 a) 11 b := aup_sw (by decide)
theorem as_0_12 (f : Nat → Int → Int) (a b : Int → Int) : aup (aup f 12 b) 0 a = aup (aup f 0 a) 12 b := aup_sw (by decide)
theorem as_0_13 (f : Nat → Int → Int) (a b : Int → Int) : aup (aup f 13 b) 0 a = aup (aup f 0 a) 13 b := aup_sw (by decide)
theorem as_1_2 (f : Nat → Int → Int) (a b : Int → Int) : aup (aup f 2 b) 1 a = aup (aup f 1 a) 2 b := aup_sw (by decide)
theorem as_1_3 (f : Nat → Int → Int) (a b : Int → Int) : aup (aup f 3 b) 1 a = aup (aup f 1 a) 3 b := aup_sw (by decide)
theorem as_1_4 (f : Nat → Int → Int) (a b : Int → Int) : aup (aup f 4 b) 1 a = aup (aup f 1 a) 4 b := aup_sw (by decide)
theorem as_1_5 (f : Nat → Int → Int) (a b : Int → Int) : aup (aup f 5 b) 1 a = aup (aup f 1 a) 5 b := aup_sw (by decide)
theorem as_1_6 (f : Nat → Int → Int) (a b : Int → Int) : aup (aup f 6 b) 1 a = aup (aup f 1 a) 6 b := aup_sw (by decide)
theorem as_1_7 (f : Nat → Int → Int) (a b : Int → Int) : aup (aup f 7 b) 1 a = aup (aup f 1 a) 7 b := aup_sw (by decide)
theorem as_1_8 (f : Nat → Int → Int) (a b : Int → Int) : aup (aup f 8 b) 1 a = aup (aup f 1 a) 8 b := aup_sw (by decide)
theorem as_1_9 (f : Nat → Int → Int) (a b : Int → Int) : aup (aup f 9 b) 1 a = aup (aup f 1 a) 9 b := aup_sw (by decide)
theorem as_1_10 (f : Nat → Int → Int) (a b : Int → Int) : aup (aup f 10 b) 1 a = aup (aup f 1 a) 10 b := aup_sw (by decide)
theorem as_1_11 (f : Nat → Int → Int) (a b : Int → Int) : aup (aup f 11 b) 1 a = aup (aup f 1 a) 11 b := aup_sw (by decide)
theorem as_1_12 (f : Nat → Int → Int) (a b : Int → Int) : aup (aup f 12 b) 1 a = aup (aup f 1 a) 12 b := aup_sw (by decide)
theorem as_1_13 (f : Nat → Int → Int) (a b : Int → Int) : aup (aup f 13 b) 1 a = aup (aup f 1 a) 13 b := aup_sw (by decide)
theorem as_2_3 (f : Nat → Int → Int) (a b : Int → Int) : aup (aup f 3 b) 2 a = aup (aup f 2 a) 3 b := aup_sw (by decide)
theorem as_2_4 (f : Nat → Int → Int) (a b : Int → Int) : aup (aup f 4 b) 2 a = aup (aup f 2 a) 4 b := aup_sw (by decide)
theorem as_2_5 (f : Nat → Int → Int) (a b : Int → Int) : aup (aup f 5 b) 2 a = aup (aup f 2 a) 5 b := aup_sw (by decide)
theorem as_2_6 (f : Nat → Int → Int) (a b : Int → Int) : aup (aup f 6 b) 2 a = aup (aup f 2 a) 6 b := aup_sw (by decide)
theorem as_2_7 (f : Nat → Int → Int) (a b : Int → Int) : aup (aup f 7 b) 2 a = aup (aup f 2 a) 7 b := aup_sw (by decide)
theorem as_2_8 (f : Nat → Int → Int) (a b : Int → Int) : aup (aup f 8 b) 2 a = aup (aup f 2 a) 8 b := aup_sw (by decide)
theorem as_2_9 (f : Nat → Int → Int) (a b : Int → Int) : aup (aup f 9 b) 2 a = aup (aup f 2 a) 9 b := aup_sw (by decide)
theorem as_2_10 (f : Nat → Int → Int) (a b : Int → Int) : aup (aup f 10 b) 2 a = aup (aup f 2 a) 10 b := aup_sw (by decide)
theorem as_2_11 (f : Nat → Int → Int) (a b : Int → Int) : aup (aup f 11 b) 2 a = aup (aup f 2 a) 11 b := aup_sw (by decide)
theorem as_2_12 (f : Nat → Int → Int) (a b : Int → Int) : aup (aup f 12 b) 2 a = aup (aup f 2 a) 12 b := aup_sw (by decide)
theorem as_2_13 (f : Nat → Int → Int) (a b : Int → Int) : aup (aup f 13 b) 2 a = aup (aup f 2 a) 13 b := aup_sw (by decide)
theorem as_3_4 (f : Nat → Int → Int) (a b : Int → Int) : aup (aup f 4 b) 3 a = aup (aup f 3 a) 4 b := aup_sw (by decide)
theorem as_3_5 (f : Nat → Int → Int) (a b : Int → Int) : aup (aup f 5 b) 3 a = aup (aup f 3 a) 5 b := aup_sw (by decide)
theorem as_3_6 (f : Nat → Int → Int) (a b : Int → Int) : aup (aup f 6 b) 3 a = aup (aup f 3 a) 6 b := aup_sw (by decide)
theorem as_3_7 (f : Nat → Int → Int) (a b : Int → Int) : aup (aup f 7 b) 3 a = aup (aup f 3 a) 7 b := aup_sw (by decide)
theorem as_3_8 (f : Nat → Int → Int) (a b : Int → Int) : aup (aup f 8 b) 3 a = aup (aup f 3 a) 8 b := aup_sw (by decide)
theorem as_3_9 (f : Nat → Int → Int) (a b : Int → Int) : aup (aup f 9 b) 3 a = aup (aup f 3 a) 9 b := aup_sw (by decide)
theorem as_3_10 (f : Nat → Int → Int) (a b : Int → Int) : aup (aup f 10 b) 3 a = aup (aup f 3 a) 10 b := aup_sw (by decide)
theorem as_3_11 (f : Nat → Int → Int) (a b : Int → Int) : aup (aup f 11 b) 3 a = aup (aup f 3 a) 11 b := aup_sw (by decide)
theorem as_3_12 (f : Nat → Int → Int) (a b : Int → Int) : aup (aup f 12 b) 3 a = aup (aup f 3 a) 12 b := aup_sw (by decide)
theorem as_3_13 (f : Nat → Int → Int) (a b : Int → Int) : aup (aup f 13 b) 3 a = aup (aup f 3 a) 13 b := aup_sw (by decide)
theorem as_4_5 (f : Nat → Int → Int) (a b : Int → Int) : aup (aup f 5 b) 4 a = aup (aup f 4 a) 5 b := aup_sw (by decide)
theorem as_4_6 (f : Nat → Int → Int) (a b : Int → Int) : aup (aup f 6 b) 4 a = aup (aup f 4 a) 6 b := aup_sw (by decide)
theorem as_4_7 (f : Nat → Int → Int) (a b : Int → Int) : aup (aup f 7 b) 4 a = aup (aup f 4 a) 7 b := aup_sw (by decide)
theorem as_4_8 (f : Nat → Int → Int) (a b : Int → Int) : aup (aup f 8 b) 4 a = aup (aup f 4 a) 8 b := aup_sw (by decide)
theorem as_4_9 (f : Nat → Int → Int) (a b : Int → Int) : aup (aup f 9 b) 4 a = aup (aup f 4 a) 9 b := aup_sw (by decide)
theorem as_4_10 (f : Nat → Int → Int) (a b : Int → Int) : aup (aup f 10 b) 4 a = aup (aup f 4 a) 10 b := aup_sw (by decide)
theorem as_4_11 (f : Nat → Int → Int) (a b : Int → Int) : aup (aup f 11 b) 4 a = aup (aup f 4 a) 11 b := aup_sw (by decide)
theorem as_4_12 (f : Nat → Int → Int) (a b : Int → Int) : aup (aup f 12 b) 4 a = aup (aup f 4 a) 12 b := aup_sw (by decide)
theorem as_4_13 (f : Nat → Int → Int) (a b : Int → Int) : aup (aup f 13 b) 4 a = aup (aup f 4 a) 13 b := aup_sw (by decide)
theorem as_5_6 (f : Nat → Int → Int) (a b : Int → Int) : aup (aup f 6 b) 5 a = aup (aup f 5 a) 6 b := aup_sw (by decide)
theorem as_5_7 (f : Nat → Int → Int) (a b : Int → Int) : aup (aup f 7 b) 5 a = aup (aup f 5 a) 7 b := aup_sw (by decide)
theorem as_5_8 (f : Nat → Int → Int) (a b : Int → Int) : aup (aup f 8 b) 5 a = aup (aup f 5 a) 8 b := aup_sw (by decide)
theorem as_5_9 (f : Nat → Int → Int) (a b : Int → Int) : aup (aup f 9 b) 5 a = aup (aup f 5 a) 9 b := aup_sw (by decide)
theorem as_5_10 (f : Nat → Int → Int) (a b : Int → Int) : aup (aup f 10 b) 5 a = aup (aup f 5 a) 10 b := aup_sw (by decide)
theorem as_5_11 (f : Nat → Int → Int) (a b : Int → Int) : aup (aup f 11 b) 5 a = aup (aup f 5 a) 11 b := aup_sw (by decide)
theorem as_5_12 (f : Nat → Int → Int) (a b : Int → Int) : aup (aup f 12 b) 5 a = aup (aup f 5 a) 12 b := aup_sw (by decide)
theorem as_5_13 (f : Nat → Int → Int) (a b : Int → Int) : aup (aup f 13 b) 5 a = aup (aup f 5 a) 13 b := aup_sw (by decide)
theorem as_6_7 (f : Nat → Int → Int) (a b : Int → Int) : aup (aup f 7 b) 6 a = aup (aup f 6 a) 7 b := aup_sw (by decide)
theorem as_6_8 (f : Nat → Int → Int) (a b : Int → Int) : aup (aup f 8 b) 6 a = aup (aup f 6 a) 8 b := aup_sw (by decide)
theorem as_6_9 (f : Nat → Int → Int) (a b : Int → Int) : aup (aup f 9 b) 6 a = aup (aup f 6 a) 9 b := aup_sw (by decide)
theorem as_6_10 (f : Nat → Int → Int) (a b : Int → Int) : aup (aup f 10 b) 6 a = aup (aup f 6 a) 10 b := aup_sw (by decide)
theorem as_6_11 (f : Nat → Int → Int) (a b : Int → Int) : aup (aup f 11 b) 6 a = aup (aup f 6 a) 11 b := aup_sw (by decide)
theorem as_6_12 (f : Nat → Int → Int) (a b : Int → Int) : aup (aup f 12 b) 6 a = aup (aup f 6 a) 12 b := aup_sw (by decide)
theorem as_6_13 (f : Nat → Int → Int) (a b : Int → Int) : aup (aup f 13 b) 6 a = aup (aup f 6 a) 13 b := aup_sw (by decide)
theorem as_7_8 (f : Nat → Int → Int) (a b : Int → Int) : aup (aup f 8 b) 7 a = aup (aup f 7 a) 8 b := aup_sw (by decide)
theorem as_7_9 (f : Nat → Int → Int) (a b : Int → Int) : aup (aup f 9 b) 7 a = aup (aup f 7 a) 9 b := aup_sw (by decide)
theorem as_7_10 (f : Nat → Int → Int) (a b : Int → Int) : aup (aup f 10 b) 7 a = aup (aup f 7 a) 10 b := aup_sw (by decide)
theorem as_7_11 (f : Nat → Int → Int) (a b : Int → Int) : aup (aup f 11 b) 7 a = aup (aup f 7 a) 11 b := aup_sw (by decide)
theorem as_7_12 (f : Nat → Int → Int) (a b : Int → Int) : aup (aup f 12 b) 7 a = aup (aup f 7 a) 12 b := aup_sw (by decide)
theorem as_7_13 (f : Nat → Int → Int) (a b : Int → Int) : aup (aup f 13 b) 7 a = aup (aup f 7 a) 13 b := aup_sw (by decide)
theorem as_8_9 (f : Nat → Int → Int) (a b : Int → Int) : aup (aup f 9 b) 8 a = aup (aup f 8 a) 9 b := aup_sw (by decide)
theorem as_8_10 (f : Nat → Int → Int) (a b : Int → Int) : aup (aup f 10 b) 8 a = aup (aup f 8 a) 10 b := aup_sw (by decide)
theorem as_8_11 (f : Nat → Int → Int) (a b : Int → Int) : aup (aup f 11 b) 8 a = aup (aup f 8 a) 11 b := aup_sw (by decide)
theorem as_8_12 (f : Nat → Int → Int) (a b : Int → Int) : aup (aup f 12 b) 8 a = aup (aup f 8 a) 12 b := aup_sw (by decide)
theorem as_8_13 (f : Nat → Int → Int) (a b : Int → Int) : aup (aup f 13 b) 8 a = aup (aup f 8 a) 13 b := aup_sw (by decide)
theorem as_9_10 (f : Nat → Int → Int) (a b : Int → Int) : aup (aup f 10 b) 9 a = aup (aup f 9 a) 10 b := aup_sw (by decide)
theorem as_9_11 (f : Nat → Int → Int) (a b : Int → Int) : aup (aup f 11 b) 9 a = aup (aup f 9 a) 11 b := aup_sw (by decide)
theorem as_9_12 (f : Nat → Int → Int) (a b : Int → Int) : aup (aup f 12 b) 9 a = aup (aup f 9 a) 12 b := aup_sw (by decide)
theorem as_9_13 (f : Nat → Int → Int) (a b : Int → Int) : aup (aup f 13 b) 9 a = aup (aup f 9 a) 13 b := aup_sw (by decide)
theorem as_10_11 (f : Nat → Int → Int) (a b : Int → Int) : aup (aup f 11 b) 10 a = aup (aup f 10 a) 11 b := aup_sw (by decide)
theorem as_10_12 (f : Nat → Int → Int) (a b : Int → Int) : aup (aup f 12 b) 10 a = aup (aup f 10 a) 12 b := aup_sw (by decide)
theorem as_10_13 (f : Nat → Int → Int) (a b : Int → Int) : aup (aup f 13 b) 10 a = aup (aup f 10 a) 13 b := aup_sw (by decide)
theorem as_11_12 (f : Nat → Int → Int) (a b : Int → Int) : aup (aup f 12 b) 11 a = aup (aup f 11 a) 12 b := aup_sw (by decide)
theorem as_11_13 (f : Nat → Int → Int) (a b : Int → Int) : aup (aup f 13 b) 11 a = aup (aup f 11 a) 13 b := aup_sw (by decide)
theorem as_12_13 (f : Nat → Int → Int) (a b : Int → Int) : aup (aup f 13 b) 12 a = aup (aup f 12 a) 13 b := aup_sw (by decide)
def sg : Nat → Nat
  | 0 => 4
  | 1 => 5
  | 2 => 3
  | 3 => 6
  | 4 => 1
  | 5 => 2
  | n + 6 => n + 100
def ta : Nat → Nat
  | 0 => 4
  | 1 => 1
  | 2 => 2
  | 3 => 3
  | n + 4 => n + 100
/-- the ship of the model's cells -/
def shM (M : Rc) : Rc := (fun k => M.1 (sg k), fun j => M.2 (ta j))
/-- okS of it, in the model's own cells -/
def okM (D : Int) (M : Rc) : Prop := (0 ≤ M.1 4 ∧ M.1 4 < 100) ∧ (0 ≤ M.1 5 ∧ M.1 5 < 100) ∧ (0 ≤ M.1 3 ∧ M.1 3 ≤ 9) ∧ (0 ≤ M.1 6 ∧ M.1 6 ≤ D) ∧ (0 ≤ M.1 1 ∧ M.1 1 ≤ 6) ∧ (0 ≤ M.1 2 ∧ M.1 2 ≤ 3) ∧ (∀ k : Int, 0 ≤ k ∧ k < 6 → 0 ≤ M.2 4 k ∧ M.2 4 k ≤ 1) ∧ (∀ k : Int, 0 ≤ k ∧ k < 6 → 0 ≤ M.2 1 k ∧ M.2 1 k ≤ 5) ∧ (∀ k : Int, 0 ≤ k ∧ k < 6 → 0 ≤ M.2 2 k ∧ M.2 2 k ≤ 90) ∧ (∀ k : Int, 0 ≤ k ∧ k < 3 → 0 ≤ M.2 3 k ∧ M.2 3 k ≤ 5)
theorem okM_S {D : Int} {M : Rc} (h : okM D M) : okS D (shM M) := h
theorem okS_M {D : Int} {M : Rc} (h : okS D (shM M)) : okM D M := h
/-- the ship S laid into the model: where it is, its day, its SHAMES -/
def stM (M S : Rc) : Rc := (fup (fup (fup M.1 4 (S.1 0)) 5 (S.1 1)) 6 (S.1 3), aup M.2 2 (S.2 2))
def sam (S S0 : Rc) : Prop := (∀ k : Nat, k ≠ 0 → k ≠ 1 → k ≠ 3 → S.1 k = S0.1 k) ∧ ∀ j : Nat, j ≠ 2 → S.2 j = S0.2 j
theorem sam.rfl {S : Rc} : sam S S := ⟨fun _ _ _ _ => Eq.refl _, fun _ _ => Eq.refl _⟩
theorem sam.trans {S S1 S2 : Rc} (h : sam S S1) (g : sam S1 S2) : sam S S2 := ⟨fun k a b c => (h.1 k a b c).trans (g.1 k a b c), fun j a => (h.2 j a).trans (g.2 j a)⟩
/-- a noon with so much error -/
def sailB (S : Rc) (set e : Int) : Rc := (fup (fup (fup S.1 0 ((S.1 0 + S.1 2 + e) % 100)) 1 ((S.1 1 + S.1 2) % 100)) 3 (S.1 3 + 1), aup S.2 2 (if fogB S then S.2 2 else shN S set (S.1 4).toNat))
theorem sailB_S (S : Rc) (t r : Int) : sailB S t (errS S t r) = sailS S t r := rfl
theorem sailB_sam (S : Rc) (t e : Int) : sam (sailB S t e) S := by
  refine ⟨fun k a b c => ?_, fun j a => ?_⟩
  · show fup (fup (fup S.1 0 _) 1 _) 3 _ k = S.1 k
    rw [fup_app, if_neg c, fup_app, if_neg b, fup_app, if_neg a]
  · show aup S.2 2 _ j = S.2 j
    rw [aup_app, if_neg a]
theorem sail_sam (S : Rc) (t r : Int) : sam (sailS S t r) S := sailB_sam S t _
theorem shM_st {M S : Rc} (h : sam S (shM M)) : shM (stM M S) = S := by
  apply Prod.ext
  · funext k
    match k with
    | 0 => rfl
    | 1 => rfl
    | 2 => exact (h.1 2 (by decide) (by decide) (by decide)).symm
    | 3 => rfl
    | 4 => exact (h.1 4 (by decide) (by decide) (by decide)).symm
    | 5 => exact (h.1 5 (by decide) (by decide) (by decide)).symm
    | n + 6 =>
      have e := h.1 (n + 6) (by omega) (by omega) (by omega)
      rw [e]
      show fup (fup (fup M.1 4 (S.1 0)) 5 (S.1 1)) 6 (S.1 3) (n + 100) = M.1 (n + 100)
      rw [fup_app, if_neg (by omega), fup_app, if_neg (by omega), fup_app, if_neg (by omega)]
  · funext j
    match j with
    | 0 => exact (h.2 0 (by decide)).symm
    | 1 => exact (h.2 1 (by decide)).symm
    | 2 => rfl
    | 3 => exact (h.2 3 (by decide)).symm
    | n + 4 =>
      rw [h.2 (n + 4) (by omega)]
      show aup M.2 2 (S.2 2) (n + 100) = M.2 (n + 100)
      rw [aup_app, if_neg (by omega)]
theorem stM_stM (M S S' : Rc) : stM (stM M S) S' = stM M S' := by
  unfold stM
  simp only [fs_4_5, fs_4_6, fs_5_6, fup_fup, aup_aup]
theorem stM_self (M : Rc) : stM M (shM M) = M := by
  show (fup (fup (fup M.1 4 (M.1 4)) 5 (M.1 5)) 6 (M.1 6), aup M.2 2 (M.2 2)) = M
  rw [fup_self, fup_self, fup_self, aup_self]
theorem mea_st {m : Mem} {S : Rc} {f : Rc → Rc} (h : sam S (shM (m 10 0))) : mset (mset m 10 0 (stM (m 10 0) S)) 10 0 (stM (mset m 10 0 (stM (m 10 0) S) 10 0) (f (shM (mset m 10 0 (stM (m 10 0) S) 10 0)))) = mset m 10 0 (stM (m 10 0) (f S)) := by
  rw [mset_same, mset_mset, shM_st h, stM_stM]
theorem World_aup {κ : Kx} {m : Mem} {c i j : Nat} {F : Nat → Int} {A : Nat → Int → Int} {f g : Int → Int} (h : ∀ x : Int, 0 ≤ x → x < alen c j → f x = g x) : World κ (mset m c i (F, aup A j f)) = World κ (mset m c i (F, aup A j g)) := by
  refine World_set ⟨fun _ _ => Eq.refl _, fun j' _ x h0 h1 => ?_⟩
  show aup A j f j' x = aup A j g j' x
  simp only [aup_app]
  split
  · rename_i e
    subst e
    exact h x h0 h1
  · rfl
theorem al10 (j : Nat) : alen 10 j ≤ 1000 := by
  by_cases h : j < 14
  · revert j
    decide
  · have e : alen 10 j = 0 := by
      show [3, 6, 6, 3, 6, 18, 24, 24, 150, 180, 72, 9, 360, 2].getD j 0 = 0
      rw [List.getD_eq_getElem?_getD, List.getElem?_eq_none (by simpa using h)]
      rfl
    rw [e]
    decide
theorem g_ildM {κ : Kx} {Γ : Gm} {d mc ms : Nat} {μ : MX} {Z : State → Prop} {kc ks pc nx : Nat} {ls : List (Option Value)} {st : List Value} {m : Mem} {x : Int} {j : Nat} (F : Fx κ Γ d mc ms μ) (hd : AT 1 Γ.2.1 pc .iaload nx) (hx : j < 14 ∧ 0 ≤ x ∧ x < alen 10 j) (kk : GC κ μ Z kc ks nx ls (vi ((m 10 0).2 j x) :: st) (World κ m)) : GC κ μ Z kc ks pc ls (vi x :: .ref (aa κ 10 0 j) :: st) (World κ m) :=
  g_iald F hd (by decide) hx.1 (fun _ => rfl) (al10 j) hx.2.1 hx.2.2 kk
theorem g_istM {κ : Kx} {Γ : Gm} {d mc ms : Nat} {μ : MX} {Z : State → Prop} {kc ks pc nx : Nat} {ls : List (Option Value)} {st : List Value} {m : Mem} {x y : Int} {j : Nat} (F : Fx κ Γ d mc ms μ) (hd : AT 1 Γ.2.1 pc .iastore nx) (hx : j < 14 ∧ 0 ≤ x ∧ x < alen 10 j) (kk : GC κ μ Z kc ks nx ls st (World κ (mset m 10 0 ((m 10 0).1, aup (m 10 0).2 j (gup ((m 10 0).2 j) x y))))) : GC κ μ Z kc ks pc ls (vi y :: vi x :: .ref (aa κ 10 0 j) :: st) (World κ m) :=
  g_iast F hd (by decide) hx.1 (fun _ => rfl) (al10 j) hx.2.1 hx.2.2 kk
set_option maxHeartbeats 1000000 in
theorem sp_M_in {κ : Kx} {Q : Option Value → (Heap → Prop) → Prop} {P : Heap → Prop} {x a b : Int} (hx : R32 x) (ha : R32 a) (hb : R32 b) (k1 : a ≤ x ∧ x ≤ b → Q (some (vi 1)) P) (k0 : ¬ (a ≤ x ∧ x ≤ b) → Q (some (vi 0)) P) : GG κ G_M_in 0 0 0 [vi x, vi a, vi b] P Q := by
  refine GG.intro (ls := [some _, some _, some _]) (Nat.le_of_ble_eq_true rfl) rfl (fun μ F => ?_)
  refine g_iload_n F a_M_in_0 rfl ?_
  refine g_iload_n F a_M_in_1 rfl ?_
  refine g_icmp_lt F (by omega) (by omega) a_M_in_2 (fun h2 => ?_) (fun h2 => ?_)
  · refine g_iconst F a_M_in_14 ?_
    refine g_zret F a_M_in_15 rfl rfl ⟨Nat.le_refl _, Nat.le_refl _⟩ ?_
    first | exact k1 (by omega) | exact k0 (by omega)
  · refine g_iload_n F a_M_in_5 rfl ?_
    refine g_iload_n F a_M_in_6 rfl ?_
    refine g_icmp_gt F (by omega) (by omega) a_M_in_7 (fun h7 => ?_) (fun h7 => ?_)
    · refine g_iconst F a_M_in_14 ?_
      refine g_zret F a_M_in_15 rfl rfl ⟨Nat.le_refl _, Nat.le_refl _⟩ ?_
      first | exact k1 (by omega) | exact k0 (by omega)
    · refine g_iconst F a_M_in_10 ?_
      refine g_goto F a_M_in_11 ?_
      refine g_zret F a_M_in_15 rfl rfl ⟨Nat.le_refl _, Nat.le_refl _⟩ ?_
      first | exact k1 (by omega) | exact k0 (by omega)
set_option maxHeartbeats 1000000 in
theorem sp_M_has {κ : Kx} {Q : Option Value → (Heap → Prop) → Prop} {P : Heap → Prop} {s x : Int} {n : Nat} (hs : 0 ≤ s ∧ s < 64) (hx : x = n) (hn : n < 6) (k1 : s / 2 ^ n % 2 = 1 → Q (some (vi 1)) P) (k0 : ¬ s / 2 ^ n % 2 = 1 → Q (some (vi 0)) P) : GG κ G_M_has 0 0 0 [vi s, vi x] P Q := by
  refine GG.intro (ls := [some _, some _]) (Nat.le_of_ble_eq_true rfl) rfl (fun μ F => ?_)
  refine g_iload_n F a_M_has_0 rfl ?_
  refine g_iload_n F a_M_has_1 rfl ?_
  refine g_ishr F a_M_has_2 ?_
  refine g_iconst F a_M_has_3 ?_
  refine g_iand F a_M_has_4 ?_
  rw [bit_eq hs (by omega), hx, Int.toNat_natCast]
  refine g_iconst F a_M_has_5 ?_
  refine g_icmp_ne F (by omega) (by omega) a_M_has_6 (fun h6 => ?_) (fun h6 => ?_)
  · refine g_iconst F a_M_has_13 ?_
    refine g_zret F a_M_has_14 rfl rfl ⟨Nat.le_refl _, Nat.le_refl _⟩ ?_
    first | exact k1 (by omega) | exact k0 (by omega)
  · refine g_iconst F a_M_has_9 ?_
    refine g_goto F a_M_has_10 ?_
    refine g_zret F a_M_has_14 rfl rfl ⟨Nat.le_refl _, Nat.le_refl _⟩ ?_
    first | exact k1 (by omega) | exact k0 (by omega)
set_option maxHeartbeats 1000000 in
theorem sp_M_lesser {κ : Kx} {Q : Option Value → (Heap → Prop) → Prop} {P : Heap → Prop} {a b : Int} (ha : R32 a) (hb : R32 b) (k : Q (some (vi (min a b))) P) : GG κ G_M_lesser 0 0 0 [vi a, vi b] P Q := by
  refine GG.intro (ls := [some _, some _]) (Nat.le_of_ble_eq_true rfl) rfl (fun μ F => ?_)
  refine g_iload_n F a_M_lesser_0 rfl ?_
  refine g_iload_n F a_M_lesser_1 rfl ?_
  refine g_icmp_ge F (by omega) (by omega) a_M_lesser_2 (fun h2 => ?_) (fun h2 => ?_)
  · refine g_iload_n F a_M_lesser_9 rfl ?_
    refine g_iret F a_M_lesser_10 rfl ⟨Nat.le_refl _, Nat.le_refl _⟩ ?_
    exact qv k (by omega)
  · refine g_iload_n F a_M_lesser_5 rfl ?_
    refine g_goto F a_M_lesser_6 ?_
    refine g_iret F a_M_lesser_10 rfl ⟨Nat.le_refl _, Nat.le_refl _⟩ ?_
    exact qv k (by omega)
set_option maxHeartbeats 1000000 in
theorem sp_M_greater {κ : Kx} {Q : Option Value → (Heap → Prop) → Prop} {P : Heap → Prop} {a b : Int} (ha : R32 a) (hb : R32 b) (k : Q (some (vi (max a b))) P) : GG κ G_M_greater 0 0 0 [vi a, vi b] P Q := by
  refine GG.intro (ls := [some _, some _]) (Nat.le_of_ble_eq_true rfl) rfl (fun μ F => ?_)
  refine g_iload_n F a_M_greater_0 rfl ?_
  refine g_iload_n F a_M_greater_1 rfl ?_
  refine g_icmp_le F (by omega) (by omega) a_M_greater_2 (fun h2 => ?_) (fun h2 => ?_)
  · refine g_iload_n F a_M_greater_9 rfl ?_
    refine g_iret F a_M_greater_10 rfl ⟨Nat.le_refl _, Nat.le_refl _⟩ ?_
    exact qv k (by omega)
  · refine g_iload_n F a_M_greater_5 rfl ?_
    refine g_goto F a_M_greater_6 ?_
    refine g_iret F a_M_greater_10 rfl ⟨Nat.le_refl _, Nat.le_refl _⟩ ?_
    exact qv k (by omega)
theorem bits_dec : ∀ n : Nat, n < 64 → 0 + bAnd (bShr (n : Int) 0) 1 + bAnd (bShr (n : Int) 1) 1 + bAnd (bShr (n : Int) 2) 1 + bAnd (bShr (n : Int) 3) 1 + bAnd (bShr (n : Int) 4) 1 + bAnd (bShr (n : Int) 5) 1 = bc (n : Int) := by decide +kernel
theorem bits_eq {s : Int} (h : 0 ≤ s ∧ s < 64) : 0 + bAnd (bShr s 0) 1 + bAnd (bShr s 1) 1 + bAnd (bShr s 2) 1 + bAnd (bShr s 3) 1 + bAnd (bShr s 4) 1 + bAnd (bShr s 5) 1 = bc s := by
  have := bits_dec s.toNat (by omega)
  rw [Int.toNat_of_nonneg h.1] at this
  exact this
set_option maxHeartbeats 1000000 in
theorem sp_M_bits {κ : Kx} {Q : Option Value → (Heap → Prop) → Prop} {P : Heap → Prop} {s : Int} (hs : 0 ≤ s ∧ s < 64) (k : Q (some (vi (bc s))) P) : GG κ G_M_bits 0 0 0 [vi s] P Q := by
  refine GG.intro (ls := [some _, none, none]) (Nat.le_of_ble_eq_true rfl) rfl (fun μ F => ?_)
  refine g_iconst F a_M_bits_0 ?_
  refine g_istore_n (ls' := [_, _, _]) F a_M_bits_1 rfl rfl rfl ?_
  refine g_iconst F a_M_bits_2 ?_
  refine g_istore_n (ls' := [_, _, _]) F a_M_bits_3 rfl rfl rfl ?_
  refine g_iload_n F a_M_bits_4 rfl ?_
  refine g_bipush F a_M_bits_5 (by decide) ?_
  refine g_icmp_ge F (by decide) (by decide) a_M_bits_7 (fun hz => absurd hz (by decide)) (fun hz => ?_)
  refine g_iload_n F a_M_bits_10 rfl ?_
  refine g_iload_n F a_M_bits_11 rfl ?_
  refine g_iload_n F a_M_bits_12 rfl ?_
  refine g_ishr F a_M_bits_13 ?_
  refine g_iconst F a_M_bits_14 ?_
  refine g_iand F a_M_bits_15 ?_
  refine g_iadd F a_M_bits_16 ?_
  refine g_istore_n (ls' := [_, _, _]) F a_M_bits_17 rfl rfl rfl ?_
  refine g_iinc (ls' := [_, _, some (vi 1)]) F a_M_bits_18 rfl rfl rfl ?_
  refine g_goto F a_M_bits_21 ?_
  refine g_iload_n F a_M_bits_4 rfl ?_
  refine g_bipush F a_M_bits_5 (by decide) ?_
  refine g_icmp_ge F (by decide) (by decide) a_M_bits_7 (fun hz => absurd hz (by decide)) (fun hz => ?_)
  refine g_iload_n F a_M_bits_10 rfl ?_
  refine g_iload_n F a_M_bits_11 rfl ?_
  refine g_iload_n F a_M_bits_12 rfl ?_
  refine g_ishr F a_M_bits_13 ?_
  refine g_iconst F a_M_bits_14 ?_
  refine g_iand F a_M_bits_15 ?_
  refine g_iadd F a_M_bits_16 ?_
  refine g_istore_n (ls' := [_, _, _]) F a_M_bits_17 rfl rfl rfl ?_
  refine g_iinc (ls' := [_, _, some (vi 2)]) F a_M_bits_18 rfl rfl rfl ?_
  refine g_goto F a_M_bits_21 ?_
  refine g_iload_n F a_M_bits_4 rfl ?_
  refine g_bipush F a_M_bits_5 (by decide) ?_
  refine g_icmp_ge F (by decide) (by decide) a_M_bits_7 (fun hz => absurd hz (by decide)) (fun hz => ?_)
  refine g_iload_n F a_M_bits_10 rfl ?_
  refine g_iload_n F a_M_bits_11 rfl ?_
  refine g_iload_n F a_M_bits_12 rfl ?_
  refine g_ishr F a_M_bits_13 ?_
  refine g_iconst F a_M_bits_14 ?_
  refine g_iand F a_M_bits_15 ?_
  refine g_iadd F a_M_bits_16 ?_
  refine g_istore_n (ls' := [_, _, _]) F a_M_bits_17 rfl rfl rfl ?_
  refine g_iinc (ls' := [_, _, some (vi 3)]) F a_M_bits_18 rfl rfl rfl ?_
  refine g_goto F a_M_bits_21 ?_
  refine g_iload_n F a_M_bits_4 rfl ?_
  refine g_bipush F a_M_bits_5 (by decide) ?_
  refine g_icmp_ge F (by decide) (by decide) a_M_bits_7 (fun hz => absurd hz (by decide)) (fun hz => ?_)
  refine g_iload_n F a_M_bits_10 rfl ?_
  refine g_iload_n F a_M_bits_11 rfl ?_
  refine g_iload_n F a_M_bits_12 rfl ?_
  refine g_ishr F a_M_bits_13 ?_
  refine g_iconst F a_M_bits_14 ?_
  refine g_iand F a_M_bits_15 ?_
  refine g_iadd F a_M_bits_16 ?_
  refine g_istore_n (ls' := [_, _, _]) F a_M_bits_17 rfl rfl rfl ?_
  refine g_iinc (ls' := [_, _, some (vi 4)]) F a_M_bits_18 rfl rfl rfl ?_
  refine g_goto F a_M_bits_21 ?_
  refine g_iload_n F a_M_bits_4 rfl ?_
  refine g_bipush F a_M_bits_5 (by decide) ?_
  refine g_icmp_ge F (by decide) (by decide) a_M_bits_7 (fun hz => absurd hz (by decide)) (fun hz => ?_)
  refine g_iload_n F a_M_bits_10 rfl ?_
  refine g_iload_n F a_M_bits_11 rfl ?_
  refine g_iload_n F a_M_bits_12 rfl ?_
  refine g_ishr F a_M_bits_13 ?_
  refine g_iconst F a_M_bits_14 ?_
  refine g_iand F a_M_bits_15 ?_
  refine g_iadd F a_M_bits_16 ?_
  refine g_istore_n (ls' := [_, _, _]) F a_M_bits_17 rfl rfl rfl ?_
  refine g_iinc (ls' := [_, _, some (vi 5)]) F a_M_bits_18 rfl rfl rfl ?_
  refine g_goto F a_M_bits_21 ?_
  refine g_iload_n F a_M_bits_4 rfl ?_
  refine g_bipush F a_M_bits_5 (by decide) ?_
  refine g_icmp_ge F (by decide) (by decide) a_M_bits_7 (fun hz => absurd hz (by decide)) (fun hz => ?_)
  refine g_iload_n F a_M_bits_10 rfl ?_
  refine g_iload_n F a_M_bits_11 rfl ?_
  refine g_iload_n F a_M_bits_12 rfl ?_
  refine g_ishr F a_M_bits_13 ?_
  refine g_iconst F a_M_bits_14 ?_
  refine g_iand F a_M_bits_15 ?_
  refine g_iadd F a_M_bits_16 ?_
  refine g_istore_n (ls' := [_, _, _]) F a_M_bits_17 rfl rfl rfl ?_
  refine g_iinc (ls' := [_, _, some (vi 6)]) F a_M_bits_18 rfl rfl rfl ?_
  refine g_goto F a_M_bits_21 ?_
  refine g_iload_n F a_M_bits_4 rfl ?_
  refine g_bipush F a_M_bits_5 (by decide) ?_
  refine g_icmp_ge F (by decide) (by decide) a_M_bits_7 (fun hz => ?_) (fun hz => absurd hz (by decide))
  refine g_iload_n F a_M_bits_24 rfl ?_
  refine g_iret F a_M_bits_25 rfl ⟨Nat.le_refl _, Nat.le_refl _⟩ ?_
  exact qv k (bits_eq hs)
set_option maxHeartbeats 1000000 in
theorem sp_M_far {κ : Kx} {Q : Option Value → (Heap → Prop) → Prop} {P : Heap → Prop} {a : Int} (ha : -1000000 ≤ a ∧ a ≤ 1000000) (k : Q (some (vi (max a (-a)))) P) : GG κ G_M_far 0 0 0 [vi a] P Q := by
  refine GG.intro (ls := [some _]) (Nat.le_of_ble_eq_true rfl) rfl (fun μ F => ?_)
  refine g_iload_n F a_M_far_0 rfl ?_
  refine g_if_ge F (by omega) a_M_far_1 (fun h1 => ?_) (fun h1 => ?_)
  · refine g_iload_n F a_M_far_9 rfl ?_
    refine g_iret F a_M_far_10 rfl ⟨Nat.le_refl _, Nat.le_refl _⟩ ?_
    exact qv k (by omega)
  · refine g_iload_n F a_M_far_4 rfl ?_
    refine g_ineg F a_M_far_5 ?_
    refine g_goto F a_M_far_6 ?_
    refine g_iret F a_M_far_10 rfl ⟨Nat.le_refl _, Nat.le_refl _⟩ ?_
    exact qv k (by omega)
set_option maxHeartbeats 1000000 in
theorem sp_M_round {κ : Kx} {Q : Option Value → (Heap → Prop) → Prop} {P : Heap → Prop} {a : Int} (ha : R32 a) (k : Q (some (vi (a % 100))) P) : GG κ G_M_round 0 0 0 [vi a] P Q := by
  have htm1 : 0 ≤ a → a.tmod 100 = a % 100 := fun h => by rw [tm100, if_pos h]
  have htm2 : a < 0 → a.tmod 100 = -((-a) % 100) := fun h => by rw [tm100, if_neg (by omega)]
  have ht3 : R32 (a.tmod 100) := by rcases Int.lt_or_le a 0 with h | h
                                    · rw [htm2 h]; omega
                                    · rw [htm1 h]; omega
  have hcs : 0 ≤ a ∨ a < 0 := by omega
  have hz : (0 ≤ a ∧ a.tmod 100 = a % 100) ∨ (a < 0 ∧ a.tmod 100 = -((-a) % 100)) := hcs.imp (fun h => ⟨h, htm1 h⟩) (fun h => ⟨h, htm2 h⟩)
  refine GG.intro (ls := [some _, none]) (Nat.le_of_ble_eq_true rfl) rfl (fun μ F => ?_)
  refine g_iload_n F a_M_round_0 rfl ?_
  refine g_bipush F a_M_round_1 (by decide) ?_
  refine g_iremS F (by omega) (by omega) a_M_round_3 ?_
  refine g_istore_n (ls' := [_, _]) F a_M_round_4 rfl rfl rfl ?_
  refine g_iload_n F a_M_round_5 rfl ?_
  refine g_if_ge F (by omega) a_M_round_6 (fun h6 => ?_) (fun h6 => ?_)
  · refine g_iload_n F a_M_round_16 rfl ?_
    refine g_iret F a_M_round_17 rfl ⟨Nat.le_refl _, Nat.le_refl _⟩ ?_
    exact qv k (by omega)
  · refine g_iload_n F a_M_round_9 rfl ?_
    refine g_bipush F a_M_round_10 (by decide) ?_
    refine g_iadd F a_M_round_12 ?_
    refine g_goto F a_M_round_13 ?_
    refine g_iret F a_M_round_17 rfl ⟨Nat.le_refl _, Nat.le_refl _⟩ ?_
    exact qv k (by omega)
set_option maxHeartbeats 1000000 in
theorem sp_M_angleBy {κ : Kx} {Q : Option Value → (Heap → Prop) → Prop} {P : Heap → Prop} {a b c : Int} (ha : 0 ≤ a ∧ a ≤ 5) (hb : 0 ≤ b ∧ b ≤ 90) (hc : 0 ≤ c ∧ c ≤ 100000) (k : Q (some (vi (stn a b c))) P) : GG κ G_M_angleBy 1 0 0 [vi a, vi b, vi c] P Q := by
  refine GG.intro (ls := [some _, some _, some _, none]) (Nat.le_of_ble_eq_true rfl) rfl (fun μ F => ?_)
  refine g_iconst F a_M_angleBy_0 ?_
  refine g_iload_n F a_M_angleBy_1 rfl ?_
  refine g_bipush F a_M_angleBy_2 (by decide) ?_
  refine g_isub F a_M_angleBy_4 ?_
  refine g_s2 F a_M_angleBy_5 sc_M_193 mk_M_greater rfl (by decide) ⟨Nat.le_refl _, Nat.le_refl _⟩ rfl (Nat.le_of_ble_eq_true rfl) (sp_M_greater (by omega) (by omega) (GCr.v ?_))
  refine g_istore_n (ls' := [_, _, _, _]) F a_M_angleBy_8 rfl rfl rfl ?_
  refine g_iload_n F a_M_angleBy_9 rfl ?_
  rcases (show a = 1 ∨ a = 2 ∨ a = 3 ∨ a = 4 ∨ a = 5 ∨ a = 0 by omega) with h10 | h10 | h10 | h10 | h10 | h10
  · refine g_tsw (tg := 44) F (by omega) a_M_angleBy_10 (by omega) (by omega) (j := 0) (by omega) rfl (by decide) ?_
    refine g_bipush F a_M_angleBy_44 (by decide) ?_
    refine g_iload_n F a_M_angleBy_46 rfl ?_
    refine g_iconst F a_M_angleBy_47 ?_
    refine g_iadd F a_M_angleBy_48 ?_
    refine g_s2 F a_M_angleBy_49 sc_M_146 mk_M_lesser rfl (by decide) ⟨Nat.le_refl _, Nat.le_refl _⟩ rfl (Nat.le_of_ble_eq_true rfl) (sp_M_lesser (by omega) (by omega) (GCr.v ?_))
    refine g_iret F a_M_angleBy_52 rfl ⟨Nat.le_refl _, Nat.le_refl _⟩ ?_
    exact qv k (by simp [stn, h10] <;> omega)
  · refine g_tsw (tg := 53) F (by omega) a_M_angleBy_10 (by omega) (by omega) (j := 1) (by omega) rfl (by decide) ?_
    refine g_iload_n F a_M_angleBy_53 rfl ?_
    refine g_iret F a_M_angleBy_54 rfl ⟨Nat.le_refl _, Nat.le_refl _⟩ ?_
    exact qv k (by simp [stn, h10] <;> omega)
  · refine g_tsw (tg := 55) F (by omega) a_M_angleBy_10 (by omega) (by omega) (j := 2) (by omega) rfl (by decide) ?_
    refine g_iload_n F a_M_angleBy_55 rfl ?_
    refine g_bipush F a_M_angleBy_56 (by decide) ?_
    refine g_irem F (by omega) (by omega) a_M_angleBy_58 ?_
    refine g_if_ne F (by omega) a_M_angleBy_59 (fun h59 => ?_) (fun h59 => ?_)
    · refine g_bipush F a_M_angleBy_67 (by decide) ?_
      refine g_iload_n F a_M_angleBy_69 rfl ?_
      refine g_iconst F a_M_angleBy_70 ?_
      refine g_iadd F a_M_angleBy_71 ?_
      refine g_s2 F a_M_angleBy_72 sc_M_146 mk_M_lesser rfl (by decide) ⟨Nat.le_refl _, Nat.le_refl _⟩ rfl (Nat.le_of_ble_eq_true rfl) (sp_M_lesser (by omega) (by omega) (GCr.v ?_))
      refine g_iret F a_M_angleBy_75 rfl ⟨Nat.le_refl _, Nat.le_refl _⟩ ?_
      exact qv k (by simp [stn, h10] <;> omega)
    · refine g_bipush F a_M_angleBy_62 (by decide) ?_
      refine g_goto F a_M_angleBy_64 ?_
      refine g_iret F a_M_angleBy_75 rfl ⟨Nat.le_refl _, Nat.le_refl _⟩ ?_
      exact qv k (by simp [stn, h10] <;> omega)
  · refine g_tsw (tg := 76) F (by omega) a_M_angleBy_10 (by omega) (by omega) (j := 3) (by omega) rfl (by decide) ?_
    refine g_bipush F a_M_angleBy_76 (by decide) ?_
    refine g_iload_n F a_M_angleBy_78 rfl ?_
    refine g_iload_n F a_M_angleBy_79 rfl ?_
    refine g_iconst F a_M_angleBy_80 ?_
    refine g_iadd F a_M_angleBy_81 ?_
    refine g_iconst F a_M_angleBy_82 ?_
    refine g_idiv F (by omega) (by omega) a_M_angleBy_83 ?_
    refine g_iadd F a_M_angleBy_84 ?_
    refine g_s2 F a_M_angleBy_85 sc_M_146 mk_M_lesser rfl (by decide) ⟨Nat.le_refl _, Nat.le_refl _⟩ rfl (Nat.le_of_ble_eq_true rfl) (sp_M_lesser (by omega) (by omega) (GCr.v ?_))
    refine g_iret F a_M_angleBy_88 rfl ⟨Nat.le_refl _, Nat.le_refl _⟩ ?_
    exact qv k (by simp [stn, h10] <;> omega)
  · refine g_tsw (tg := 89) F (by omega) a_M_angleBy_10 (by omega) (by omega) (j := 4) (by omega) rfl (by decide) ?_
    refine g_iload_n F a_M_angleBy_89 rfl ?_
    refine g_iconst F a_M_angleBy_90 ?_
    refine g_idiv F (by omega) (by omega) a_M_angleBy_91 ?_
    refine g_iret F a_M_angleBy_92 rfl ⟨Nat.le_refl _, Nat.le_refl _⟩ ?_
    exact qv k (by simp [stn, h10] <;> omega)
  · refine g_tswD (tg := 93) F (by omega) a_M_angleBy_10 (by omega) (by decide) ?_
    refine g_iload_n F a_M_angleBy_93 rfl ?_
    refine g_iret F a_M_angleBy_94 rfl ⟨Nat.le_refl _, Nat.le_refl _⟩ ?_
    exact qv k (by simp [stn, h10] <;> omega)
set_option maxHeartbeats 1000000 in
theorem sp_M_readBy {κ : Kx} {Q : Option Value → (Heap → Prop) → Prop} {P : Heap → Prop} {a b c : Int} (ha : 0 ≤ a ∧ a ≤ 5) (hb : 0 ≤ b ∧ b ≤ 90) (hc : 0 ≤ c ∧ c ≤ 100000) (k : Q (some (vi (see a b c))) P) : GG κ G_M_readBy 1 0 0 [vi a, vi b, vi c] P Q := by
  refine GG.intro (ls := [some _, some _, some _, none]) (Nat.le_of_ble_eq_true rfl) rfl (fun μ F => ?_)
  refine g_iconst F a_M_readBy_0 ?_
  refine g_iload_n F a_M_readBy_1 rfl ?_
  refine g_iconst F a_M_readBy_2 ?_
  refine g_isub F a_M_readBy_3 ?_
  refine g_s2 F a_M_readBy_4 sc_M_193 mk_M_greater rfl (by decide) ⟨Nat.le_refl _, Nat.le_refl _⟩ rfl (Nat.le_of_ble_eq_true rfl) (sp_M_greater (by omega) (by omega) (GCr.v ?_))
  refine g_istore_n (ls' := [_, _, _, _]) F a_M_readBy_7 rfl rfl rfl ?_
  refine g_iload_n F a_M_readBy_8 rfl ?_
  rcases (show a = 1 ∨ a = 2 ∨ a = 3 ∨ a = 4 ∨ a = 5 ∨ a = 0 by omega) with h9 | h9 | h9 | h9 | h9 | h9
  · refine g_tsw (tg := 44) F (by omega) a_M_readBy_9 (by omega) (by omega) (j := 0) (by omega) rfl (by decide) ?_
    refine g_iload_n F a_M_readBy_44 rfl ?_
    refine g_iconst F a_M_readBy_45 ?_
    refine g_iadd F a_M_readBy_46 ?_
    refine g_iret F a_M_readBy_47 rfl ⟨Nat.le_refl _, Nat.le_refl _⟩ ?_
    exact qv k (by simp [see, h9] <;> omega)
  · refine g_tsw (tg := 48) F (by omega) a_M_readBy_9 (by omega) (by omega) (j := 1) (by omega) rfl (by decide) ?_
    refine g_iload_n F a_M_readBy_48 rfl ?_
    refine g_iret F a_M_readBy_49 rfl ⟨Nat.le_refl _, Nat.le_refl _⟩ ?_
    exact qv k (by simp [see, h9] <;> omega)
  · refine g_tsw (tg := 50) F (by omega) a_M_readBy_9 (by omega) (by omega) (j := 2) (by omega) rfl (by decide) ?_
    refine g_iload_n F a_M_readBy_50 rfl ?_
    refine g_iconst F a_M_readBy_51 ?_
    refine g_iadd F a_M_readBy_52 ?_
    refine g_iload_n F a_M_readBy_53 rfl ?_
    refine g_bipush F a_M_readBy_54 (by decide) ?_
    refine g_idiv F (by omega) (by omega) a_M_readBy_56 ?_
    refine g_iadd F a_M_readBy_57 ?_
    refine g_iret F a_M_readBy_58 rfl ⟨Nat.le_refl _, Nat.le_refl _⟩ ?_
    exact qv k (by simp [see, h9] <;> omega)
  · refine g_tsw (tg := 59) F (by omega) a_M_readBy_9 (by omega) (by omega) (j := 3) (by omega) rfl (by decide) ?_
    refine g_iload_n F a_M_readBy_59 rfl ?_
    refine g_bipush F a_M_readBy_60 (by decide) ?_
    refine g_idiv F (by omega) (by omega) a_M_readBy_62 ?_
    refine g_bipush F a_M_readBy_63 (by decide) ?_
    refine g_imul F a_M_readBy_65 ?_
    refine g_iret F a_M_readBy_66 rfl ⟨Nat.le_refl _, Nat.le_refl _⟩ ?_
    exact qv k (by simp [see, h9] <;> omega)
  · refine g_tsw (tg := 67) F (by omega) a_M_readBy_9 (by omega) (by omega) (j := 4) (by omega) rfl (by decide) ?_
    refine g_iload_n F a_M_readBy_67 rfl ?_
    refine g_iconst F a_M_readBy_68 ?_
    refine g_irem F (by omega) (by omega) a_M_readBy_69 ?_
    refine g_iconst F a_M_readBy_70 ?_
    refine g_icmp_ne F (by omega) (by omega) a_M_readBy_71 (fun h71 => ?_) (fun h71 => ?_)
    · refine g_iload_n F a_M_readBy_84 rfl ?_
      refine g_iret F a_M_readBy_85 rfl ⟨Nat.le_refl _, Nat.le_refl _⟩ ?_
      exact qv k (by simp [see, h9] <;> omega)
    · refine g_iconst F a_M_readBy_74 ?_
      refine g_iload_n F a_M_readBy_75 rfl ?_
      refine g_iconst F a_M_readBy_76 ?_
      refine g_isub F a_M_readBy_77 ?_
      refine g_s2 F a_M_readBy_78 sc_M_193 mk_M_greater rfl (by decide) ⟨Nat.le_refl _, Nat.le_refl _⟩ rfl (Nat.le_of_ble_eq_true rfl) (sp_M_greater (by omega) (by omega) (GCr.v ?_))
      refine g_goto F a_M_readBy_81 ?_
      refine g_iret F a_M_readBy_85 rfl ⟨Nat.le_refl _, Nat.le_refl _⟩ ?_
      exact qv k (by simp [see, h9] <;> omega)
  · refine g_tswD (tg := 86) F (by omega) a_M_readBy_9 (by omega) (by decide) ?_
    refine g_iload_n F a_M_readBy_86 rfl ?_
    refine g_iret F a_M_readBy_87 rfl ⟨Nat.le_refl _, Nat.le_refl _⟩ ?_
    exact qv k (by simp [see, h9] <;> omega)
def bmM (m : Mem) (j : Int) : Mem := mset m 10 0 ((m 10 0).1, aup (m 10 0).2 0 (gup ((m 10 0).2 0) j ((m 10 0).2 0 j + 1)))
set_option maxHeartbeats 1000000 in
theorem sp_M_bad {κ : Kx} {Q : Option Value → (Heap → Prop) → Prop} {m : Mem} (k : Q (some (vi (-2))) (World κ (bmM m 0))) : GG κ G_M_bad 0 0 0 [.ref (ad κ 10 0)] (World κ m) Q := by
  refine GG.intro (ls := [some _]) (Nat.le_of_ble_eq_true rfl) rfl (fun μ F => ?_)
  refine g_aload_n F a_M_bad_0 rfl ?_
  refine g_get_10_0 F a_M_bad_1 fl_M_1 ?_
  refine g_iconst F a_M_bad_4 ?_
  refine g_dup2 F a_M_bad_5 rfl rfl ?_
  refine g_ild_10_0 F a_M_bad_6 (by decide) ?_
  refine g_iconst F a_M_bad_7 ?_
  refine g_iadd F a_M_bad_8 ?_
  refine g_ist_10_0 F a_M_bad_9 (by decide) ?_
  (try simp only [mset_app, mset_mset, fup_app, aup_app, fup_fup, aup_aup, false_and, and_false, true_and, and_true, and_self, reduceIte, Nat.reduceEqDiff, reduceCtorEq, fup_10, fs_4_5, fs_4_6, fs_5_6])
  refine g_bipush F a_M_bad_10 (by decide) ?_
  refine g_iret F a_M_bad_12 rfl ⟨Nat.le_refl _, Nat.le_refl _⟩ ?_
  exact k
set_option maxHeartbeats 1000000 in
theorem sp_M_ten {κ : Kx} {Q : Option Value → (Heap → Prop) → Prop} {m : Mem} (k : Q (some (vi (-10))) (World κ (bmM m 0))) : GG κ G_M_ten 0 0 0 [.ref (ad κ 10 0)] (World κ m) Q := by
  refine GG.intro (ls := [some _]) (Nat.le_of_ble_eq_true rfl) rfl (fun μ F => ?_)
  refine g_aload_n F a_M_ten_0 rfl ?_
  refine g_get_10_0 F a_M_ten_1 fl_M_1 ?_
  refine g_iconst F a_M_ten_4 ?_
  refine g_dup2 F a_M_ten_5 rfl rfl ?_
  refine g_ild_10_0 F a_M_ten_6 (by decide) ?_
  refine g_iconst F a_M_ten_7 ?_
  refine g_iadd F a_M_ten_8 ?_
  refine g_ist_10_0 F a_M_ten_9 (by decide) ?_
  (try simp only [mset_app, mset_mset, fup_app, aup_app, fup_fup, aup_aup, false_and, and_false, true_and, and_true, and_self, reduceIte, Nat.reduceEqDiff, reduceCtorEq, fup_10, fs_4_5, fs_4_6, fs_5_6])
  refine g_bipush F a_M_ten_10 (by decide) ?_
  refine g_iret F a_M_ten_12 rfl ⟨Nat.le_refl _, Nat.le_refl _⟩ ?_
  exact k
set_option maxHeartbeats 1000000 in
theorem sp_M_no {κ : Kx} {Q : Option Value → (Heap → Prop) → Prop} {m : Mem} (k : Q (some (vi (-3))) (World κ (bmM m 1))) : GG κ G_M_no 0 0 0 [.ref (ad κ 10 0)] (World κ m) Q := by
  refine GG.intro (ls := [some _]) (Nat.le_of_ble_eq_true rfl) rfl (fun μ F => ?_)
  refine g_aload_n F a_M_no_0 rfl ?_
  refine g_get_10_0 F a_M_no_1 fl_M_1 ?_
  refine g_iconst F a_M_no_4 ?_
  refine g_dup2 F a_M_no_5 rfl rfl ?_
  refine g_ild_10_0 F a_M_no_6 (by decide) ?_
  refine g_iconst F a_M_no_7 ?_
  refine g_iadd F a_M_no_8 ?_
  refine g_ist_10_0 F a_M_no_9 (by decide) ?_
  (try simp only [mset_app, mset_mset, fup_app, aup_app, fup_fup, aup_aup, false_and, and_false, true_and, and_true, and_self, reduceIte, Nat.reduceEqDiff, reduceCtorEq, fup_10, fs_4_5, fs_4_6, fs_5_6])
  refine g_bipush F a_M_no_10 (by decide) ?_
  refine g_iret F a_M_no_12 rfl ⟨Nat.le_refl _, Nat.le_refl _⟩ ?_
  exact k
set_option maxHeartbeats 1000000 in
theorem sp_M_full {κ : Kx} {Q : Option Value → (Heap → Prop) → Prop} {m : Mem} (k : Q (some (vi (-4))) (World κ (bmM m 2))) : GG κ G_M_full 0 0 0 [.ref (ad κ 10 0)] (World κ m) Q := by
  refine GG.intro (ls := [some _]) (Nat.le_of_ble_eq_true rfl) rfl (fun μ F => ?_)
  refine g_aload_n F a_M_full_0 rfl ?_
  refine g_get_10_0 F a_M_full_1 fl_M_1 ?_
  refine g_iconst F a_M_full_4 ?_
  refine g_dup2 F a_M_full_5 rfl rfl ?_
  refine g_ild_10_0 F a_M_full_6 (by decide) ?_
  refine g_iconst F a_M_full_7 ?_
  refine g_iadd F a_M_full_8 ?_
  refine g_ist_10_0 F a_M_full_9 (by decide) ?_
  (try simp only [mset_app, mset_mset, fup_app, aup_app, fup_fup, aup_aup, false_and, and_false, true_and, and_true, and_self, reduceIte, Nat.reduceEqDiff, reduceCtorEq, fup_10, fs_4_5, fs_4_6, fs_5_6])
  refine g_bipush F a_M_full_10 (by decide) ?_
  refine g_iret F a_M_full_12 rfl ⟨Nat.le_refl _, Nat.le_refl _⟩ ?_
  exact k
set_option maxHeartbeats 1000000 in
theorem sp_M_isMan {κ : Kx} {Q : Option Value → (Heap → Prop) → Prop} {m : Mem} {D : Int} (hS : okM D (m 10 0)) (hD : D ≤ 100000) {x : Int} (hx : R32 x) (k1 : 0 ≤ x ∧ x < (m 10 0).1 1 → Q (some (vi 1)) (World κ m)) (k0 : ¬ (0 ≤ x ∧ x < (m 10 0).1 1) → Q (some (vi 0)) (World κ m)) : GG κ G_M_isMan 1 0 0 [.ref (ad κ 10 0), vi x] (World κ m) Q := by
  obtain ⟨s0, s1, s2, s3, s4, s5, hfg, hkd, hsh, hgl⟩ := id hS
  refine GG.intro (ls := [some _, some _]) (Nat.le_of_ble_eq_true rfl) rfl (fun μ F => ?_)
  refine g_iload_n F a_M_isMan_0 rfl ?_
  refine g_iconst F a_M_isMan_1 ?_
  refine g_aload_n F a_M_isMan_2 rfl ?_
  refine g_get_10_1 F a_M_isMan_3 fl_M_60 ?_
  refine g_iconst F a_M_isMan_6 ?_
  refine g_isub F a_M_isMan_7 ?_
  refine g_s3 F a_M_isMan_8 sc_M_91 mk_M_in rfl (by decide) ⟨Nat.le_refl _, Nat.le_refl _⟩ rfl (Nat.le_of_ble_eq_true rfl) (sp_M_in (by omega) (by omega) (by omega) (fun c8 => GCr.v ?_) (fun c8 => GCr.v ?_))
  · refine g_zret F a_M_isMan_11 rfl rfl ⟨Nat.le_refl _, Nat.le_refl _⟩ ?_
    first | exact k1 (by omega) | exact k0 (by omega)
  · refine g_zret F a_M_isMan_11 rfl rfl ⟨Nat.le_refl _, Nat.le_refl _⟩ ?_
    first | exact k1 (by omega) | exact k0 (by omega)
set_option maxHeartbeats 1000000 in
theorem sp_M_isReader {κ : Kx} {Q : Option Value → (Heap → Prop) → Prop} {m : Mem} {D : Int} (hS : okM D (m 10 0)) (hD : D ≤ 100000) {y : Int} (hy : R32 y) (k1 : 0 ≤ y ∧ y < (m 10 0).1 2 → Q (some (vi 1)) (World κ m)) (k0 : ¬ (0 ≤ y ∧ y < (m 10 0).1 2) → Q (some (vi 0)) (World κ m)) : GG κ G_M_isReader 1 0 0 [.ref (ad κ 10 0), vi y] (World κ m) Q := by
  obtain ⟨s0, s1, s2, s3, s4, s5, hfg, hkd, hsh, hgl⟩ := id hS
  refine GG.intro (ls := [some _, some _]) (Nat.le_of_ble_eq_true rfl) rfl (fun μ F => ?_)
  refine g_iload_n F a_M_isReader_0 rfl ?_
  refine g_iconst F a_M_isReader_1 ?_
  refine g_aload_n F a_M_isReader_2 rfl ?_
  refine g_get_10_2 F a_M_isReader_3 fl_M_64 ?_
  refine g_iconst F a_M_isReader_6 ?_
  refine g_isub F a_M_isReader_7 ?_
  refine g_s3 F a_M_isReader_8 sc_M_91 mk_M_in rfl (by decide) ⟨Nat.le_refl _, Nat.le_refl _⟩ rfl (Nat.le_of_ble_eq_true rfl) (sp_M_in (by omega) (by omega) (by omega) (fun c8 => GCr.v ?_) (fun c8 => GCr.v ?_))
  · refine g_zret F a_M_isReader_11 rfl rfl ⟨Nat.le_refl _, Nat.le_refl _⟩ ?_
    first | exact k1 (by omega) | exact k0 (by omega)
  · refine g_zret F a_M_isReader_11 rfl rfl ⟨Nat.le_refl _, Nat.le_refl _⟩ ?_
    first | exact k1 (by omega) | exact k0 (by omega)
set_option maxHeartbeats 1000000 in
theorem sp_M_areMen {κ : Kx} {Q : Option Value → (Heap → Prop) → Prop} {m : Mem} {D : Int} (hS : okM D (m 10 0)) (hD : D ≤ 100000) {x : Int} (hx : R32 x) (k1 : 0 ≤ x ∧ x < 2 ^ ((m 10 0).1 1).toNat → Q (some (vi 1)) (World κ m)) (k0 : ¬ (0 ≤ x ∧ x < 2 ^ ((m 10 0).1 1).toNat) → Q (some (vi 0)) (World κ m)) : GG κ G_M_areMen 1 0 0 [.ref (ad κ 10 0), vi x] (World κ m) Q := by
  obtain ⟨s0, s1, s2, s3, s4, s5, hfg, hkd, hsh, hgl⟩ := id hS
  have hpw := pow_le (i := (m 10 0).1 1) (by omega)
  refine GG.intro (ls := [some _, some _]) (Nat.le_of_ble_eq_true rfl) rfl (fun μ F => ?_)
  refine g_iload_n F a_M_areMen_0 rfl ?_
  refine g_iconst F a_M_areMen_1 ?_
  refine g_iconst F a_M_areMen_2 ?_
  refine g_aload_n F a_M_areMen_3 rfl ?_
  refine g_get_10_1 F a_M_areMen_4 fl_M_60 ?_
  refine g_ishl F a_M_areMen_7 ?_
  rw [shl_eq (by omega)]
  refine g_iconst F a_M_areMen_8 ?_
  refine g_isub F a_M_areMen_9 ?_
  refine g_s3 F a_M_areMen_10 sc_M_91 mk_M_in rfl (by decide) ⟨Nat.le_refl _, Nat.le_refl _⟩ rfl (Nat.le_of_ble_eq_true rfl) (sp_M_in (by omega) (by omega) (by omega) (fun c10 => GCr.v ?_) (fun c10 => GCr.v ?_))
  · refine g_zret F a_M_areMen_13 rfl rfl ⟨Nat.le_refl _, Nat.le_refl _⟩ ?_
    first | exact k1 (by omega) | exact k0 (by omega)
  · refine g_zret F a_M_areMen_13 rfl rfl ⟨Nat.le_refl _, Nat.le_refl _⟩ ?_
    first | exact k1 (by omega) | exact k0 (by omega)
set_option maxHeartbeats 1000000 in
theorem sp_M_isFog {κ : Kx} {Q : Option Value → (Heap → Prop) → Prop} {m : Mem} {D : Int} (hS : okM D (m 10 0)) (hD : D ≤ 100000) (k1 : fogB (shM (m 10 0)) → Q (some (vi 1)) (World κ m)) (k0 : ¬ (fogB (shM (m 10 0))) → Q (some (vi 0)) (World κ m)) : GG κ G_M_isFog 0 0 0 [.ref (ad κ 10 0)] (World κ m) Q := by
  obtain ⟨s0, s1, s2, s3, s4, s5, hfg, hkd, hsh, hgl⟩ := id hS
  have hf1 := hfg ((m 10 0).1 6 % 6) (by omega)
  refine GG.intro (ls := [some _]) (Nat.le_of_ble_eq_true rfl) rfl (fun μ F => ?_)
  refine g_aload_n F a_M_isFog_0 rfl ?_
  refine g_get_10_13 F a_M_isFog_1 fl_M_22 ?_
  refine g_aload_n F a_M_isFog_4 rfl ?_
  refine g_get_10_6 F a_M_isFog_5 fl_M_76 ?_
  refine g_bipush F a_M_isFog_8 (by decide) ?_
  refine g_irem F (by omega) (by omega) a_M_isFog_10 ?_
  refine g_ild_10_4 F a_M_isFog_11 (by omega) ?_
  refine g_iconst F a_M_isFog_12 ?_
  refine g_icmp_ne F (by omega) (by omega) a_M_isFog_13 (fun h13 => ?_) (fun h13 => ?_)
  · refine g_iconst F a_M_isFog_20 ?_
    refine g_zret F a_M_isFog_21 rfl rfl ⟨Nat.le_refl _, Nat.le_refl _⟩ ?_
    first | exact k1 (by show (m 10 0).2 4 ((m 10 0).1 6 % 6) ≠ 0; omega) | exact k0 (by show ¬ (m 10 0).2 4 ((m 10 0).1 6 % 6) ≠ 0; omega)
  · refine g_iconst F a_M_isFog_16 ?_
    refine g_goto F a_M_isFog_17 ?_
    refine g_zret F a_M_isFog_21 rfl rfl ⟨Nat.le_refl _, Nat.le_refl _⟩ ?_
    first | exact k1 (by show (m 10 0).2 4 ((m 10 0).1 6 % 6) ≠ 0; omega) | exact k0 (by show ¬ (m 10 0).2 4 ((m 10 0).1 6 % 6) ≠ 0; omega)
set_option maxHeartbeats 1000000 in
theorem sp_M_angleOf {κ : Kx} {Q : Option Value → (Heap → Prop) → Prop} {m : Mem} {D : Int} (hS : okM D (m 10 0)) (hD : D ≤ 100000) {x : Int} (hx : 0 ≤ x ∧ x < 6) (k : Q (some (vi (ang (shM (m 10 0)) x))) (World κ m)) : GG κ G_M_angleOf 2 0 0 [.ref (ad κ 10 0), vi x] (World κ m) Q := by
  obtain ⟨s0, s1, s2, s3, s4, s5, hfg, hkd, hsh, hgl⟩ := id hS
  refine GG.intro (ls := [some _, some _]) (Nat.le_of_ble_eq_true rfl) rfl (fun μ F => ?_)
  refine g_aload_n F a_M_angleOf_0 rfl ?_
  refine g_get_10_10 F a_M_angleOf_1 fl_M_13 ?_
  refine g_iload_n F a_M_angleOf_4 rfl ?_
  refine g_ild_10_1 F a_M_angleOf_5 (by omega) ?_
  refine g_aload_n F a_M_angleOf_6 rfl ?_
  refine g_get_10_11 F a_M_angleOf_7 fl_M_16 ?_
  refine g_iload_n F a_M_angleOf_10 rfl ?_
  refine g_ild_10_2 F a_M_angleOf_11 (by omega) ?_
  refine g_aload_n F a_M_angleOf_12 rfl ?_
  refine g_get_10_6 F a_M_angleOf_13 fl_M_76 ?_
  refine g_s3 F a_M_angleOf_16 sc_M_196 mk_M_angleBy rfl (by decide) ⟨Nat.le_refl _, Nat.le_refl _⟩ rfl (Nat.le_of_ble_eq_true rfl) (sp_M_angleBy (hkd _ (by omega)) (hsh _ (by omega)) (by omega) (GCr.v ?_))
  refine g_iret F a_M_angleOf_19 rfl ⟨Nat.le_refl _, Nat.le_refl _⟩ ?_
  exact k
set_option maxHeartbeats 1000000 in
theorem sp_M_readOf {κ : Kx} {Q : Option Value → (Heap → Prop) → Prop} {m : Mem} {D : Int} (hS : okM D (m 10 0)) (hD : D ≤ 100000) {x y : Int} (hx : 0 ≤ x ∧ x < 6) (hy : 0 ≤ y ∧ y < 3) (k : Q (some (vi (sgt (shM (m 10 0)) x y))) (World κ m)) : GG κ G_M_readOf 3 0 0 [.ref (ad κ 10 0), vi x, vi y] (World κ m) Q := by
  obtain ⟨s0, s1, s2, s3, s4, s5, hfg, hkd, hsh, hgl⟩ := id hS
  have ha := ang_r (okM_S hS) (x := x) (by omega)
  refine GG.intro (ls := [some _, some _, some _]) (Nat.le_of_ble_eq_true rfl) rfl (fun μ F => ?_)
  refine g_aload_n F a_M_readOf_0 rfl ?_
  refine g_get_10_12 F a_M_readOf_1 fl_M_19 ?_
  refine g_iload_n F a_M_readOf_4 rfl ?_
  refine g_ild_10_3 F a_M_readOf_5 (by omega) ?_
  refine g_aload_n F a_M_readOf_6 rfl ?_
  refine g_iload_n F a_M_readOf_7 rfl ?_
  refine g_v1 F a_M_readOf_8 vc_M_200 mk_M_angleOf ob_10 ck_10.1 rfl rfl (by decide) ⟨Nat.le_refl _, Nat.le_refl _⟩ rfl (Nat.le_of_ble_eq_true rfl) (sp_M_angleOf hS hD (by omega) (GCr.v ?_))
  refine g_aload_n F a_M_readOf_11 rfl ?_
  refine g_get_10_6 F a_M_readOf_12 fl_M_76 ?_
  refine g_s3 F a_M_readOf_15 sc_M_203 mk_M_readBy rfl (by decide) ⟨Nat.le_refl _, Nat.le_refl _⟩ rfl (Nat.le_of_ble_eq_true rfl) (sp_M_readBy (hgl _ (by omega)) ha (by omega) (GCr.v ?_))
  refine g_iret F a_M_readOf_18 rfl ⟨Nat.le_refl _, Nat.le_refl _⟩ ?_
  exact k
set_option maxHeartbeats 2000000 in
theorem lp_M_errorOf {κ : Kx} {μ : MX} {Q : Option Value → (Heap → Prop) → Prop} {m : Mem} {D : Int} (hS : okM D (m 10 0)) (hD : D ≤ 100000) {t y : Int} (hset : 0 ≤ t ∧ t < 64) (hy : 0 ≤ y ∧ y < (m 10 0).1 2) (k : Q (some (vi (errS (shM (m 10 0)) t y))) (World κ m)) (F : Fx κ G_M_errorOf 4 0 0 μ) :
    ∀ (n : Nat) (j : Nat) (x e : Int), (m 10 0).1 1 < j + n → (j : Int) ≤ (m 10 0).1 1 → (0 < j → ¬ fogB (shM (m 10 0))) → x = j → e = errN (shM (m 10 0)) t y j →  GC κ μ (ZZ κ μ 0 0 Q) 0 0 5 [some (.ref (ad κ 10 0)), some (vi t), some (vi y), some (vi e), some (vi x)] [] (World κ m) := by
  obtain ⟨s0, s1, s2, s3, s4, s5, hfg, hkd, hsh, hgl⟩ := id hS
  intro n
  induction n with
  | zero =>
    intro j x e hn hj hf hx he
    exact absurd hn (by omega)
  | succ n ih =>
    intro j x e hn hj hf hx he
    have ha := fun h : x < 6 => ang_r (okM_S hS) (x := x) (by omega)
    have hg := fun h : x < 6 => sgt_r (okM_S hS) (x := x) (r := y) (by omega)
    refine g_iload F a_M_errorOf_5 rfl ?_
    refine g_aload_n F a_M_errorOf_7 rfl ?_
    refine g_get_10_1 F a_M_errorOf_8 fl_M_60 ?_
    refine g_icmp_ge F (by omega) (by omega) a_M_errorOf_11 (fun h11 => ?_) (fun h11 => ?_)
    · refine g_iload_n F a_M_errorOf_57 rfl ?_
      refine g_iret F a_M_errorOf_58 rfl ⟨Nat.le_refl _, Nat.le_refl _⟩ ?_
      refine qv k ?_
      have ej : j = ((m 10 0).1 1).toNat := by omega
      unfold errS
      by_cases hfo : fogB (shM (m 10 0))
      · rw [if_neg (fun q => q.2 hfo), he]
        have : j = 0 := by
          rcases Nat.eq_zero_or_pos j with h | h
          · exact h
          · exact absurd hfo (hf h)
        rw [this]
        rfl
      · rw [if_pos ⟨hy, hfo⟩, he, ej]
        rfl
    · refine g_aload_n F a_M_errorOf_14 rfl ?_
      refine g_v0 F a_M_errorOf_15 vc_M_206 mk_M_isFog ob_10 ck_10.1 rfl rfl (by decide) ⟨Nat.le_refl _, Nat.le_refl _⟩ rfl (Nat.le_of_ble_eq_true rfl) (sp_M_isFog hS hD (fun c15 => GCr.v ?_) (fun c15 => GCr.v ?_))
      · refine g_ifne1 F a_M_errorOf_18 ?_
        refine g_iload_n F a_M_errorOf_57 rfl ?_
        refine g_iret F a_M_errorOf_58 rfl ⟨Nat.le_refl _, Nat.le_refl _⟩ ?_
        refine qv k ?_
        unfold errS
        rw [if_neg (fun q => q.2 c15), he]
        have : j = 0 := by
          rcases Nat.eq_zero_or_pos j with h | h
          · exact h
          · exact absurd c15 (hf h)
        rw [this]
        rfl
      · refine g_ifne0 F a_M_errorOf_18 ?_
        refine g_iload_n F a_M_errorOf_21 rfl ?_
        refine g_iload_n F a_M_errorOf_22 rfl ?_
        refine g_iload F a_M_errorOf_23 rfl ?_
        refine g_s2 F a_M_errorOf_25 sc_M_152 mk_M_has rfl (by decide) ⟨Nat.le_refl _, Nat.le_refl _⟩ rfl (Nat.le_of_ble_eq_true rfl) (sp_M_has (n := j) hset hx (by omega) (fun c25 => GCr.v ?_) (fun c25 => GCr.v ?_))
        · refine g_ifeq1 F a_M_errorOf_28 ?_
          refine g_aload_n F a_M_errorOf_31 rfl ?_
          refine g_iload F a_M_errorOf_32 rfl ?_
          refine g_iload_n F a_M_errorOf_34 rfl ?_
          refine g_v2 F a_M_errorOf_35 vc_M_209 mk_M_readOf ob_10 ck_10.1 rfl rfl (by decide) ⟨Nat.le_refl _, Nat.le_refl _⟩ rfl (Nat.le_of_ble_eq_true rfl) (sp_M_readOf hS hD (by omega) (by omega) (GCr.v ?_))
          refine g_aload_n F a_M_errorOf_38 rfl ?_
          refine g_iload F a_M_errorOf_39 rfl ?_
          refine g_v1 F a_M_errorOf_41 vc_M_200 mk_M_angleOf ob_10 ck_10.1 rfl rfl (by decide) ⟨Nat.le_refl _, Nat.le_refl _⟩ rfl (Nat.le_of_ble_eq_true rfl) (sp_M_angleOf hS hD (by omega) (GCr.v ?_))
          refine g_isub F a_M_errorOf_44 ?_
          refine g_goto F a_M_errorOf_45 ?_
          refine g_iadd F a_M_errorOf_49 ?_
          refine g_istore_n (ls' := [_, _, _, _, _]) F a_M_errorOf_50 rfl rfl rfl ?_
          refine g_iinc (ls' := [_, _, _, _, _]) F a_M_errorOf_51 rfl rfl rfl ?_
          refine g_goto F a_M_errorOf_54 ?_
          exact GC.loc2 (ih (j + 1) _ _ (by omega) (by omega) (fun _ => c15) (by omega) (by rw [errN_succ, he, if_pos c25, ← hx])) ⟨rfl, rfl, rfl, rfl, rfl, trivial⟩
        · refine g_ifeq0 F a_M_errorOf_28 ?_
          refine g_iconst F a_M_errorOf_48 ?_
          refine g_iadd F a_M_errorOf_49 ?_
          refine g_istore_n (ls' := [_, _, _, _, _]) F a_M_errorOf_50 rfl rfl rfl ?_
          refine g_iinc (ls' := [_, _, _, _, _]) F a_M_errorOf_51 rfl rfl rfl ?_
          refine g_goto F a_M_errorOf_54 ?_
          exact GC.loc2 (ih (j + 1) _ _ (by omega) (by omega) (fun _ => c15) (by omega) (by rw [errN_succ, he, if_neg c25])) ⟨rfl, rfl, rfl, rfl, rfl, trivial⟩
set_option maxHeartbeats 1000000 in
theorem sp_M_errorOf {κ : Kx} {Q : Option Value → (Heap → Prop) → Prop} {m : Mem} {D : Int} (hS : okM D (m 10 0)) (hD : D ≤ 100000) {t y : Int} (hset : 0 ≤ t ∧ t < 64) (hy : 0 ≤ y ∧ y < (m 10 0).1 2) (k : Q (some (vi (errS (shM (m 10 0)) t y))) (World κ m)) : GG κ G_M_errorOf 4 0 0 [.ref (ad κ 10 0), vi t, vi y] (World κ m) Q := by
  obtain ⟨s0, s1, s2, s3, s4, s5, hfg, hkd, hsh, hgl⟩ := id hS
  refine GG.intro (ls := [some _, some _, some _, none, none]) (Nat.le_of_ble_eq_true rfl) rfl (fun μ F => ?_)
  refine g_iconst F a_M_errorOf_0 ?_
  refine g_istore_n (ls' := [_, _, _, _, _]) F a_M_errorOf_1 rfl rfl rfl ?_
  refine g_iconst F a_M_errorOf_2 ?_
  refine g_istore (ls' := [_, _, _, _, _]) F a_M_errorOf_3 rfl rfl rfl ?_
  exact GC.loc2 (lp_M_errorOf hS hD hset hy k F (((m 10 0).1 1).toNat + 1) 0 _ _ (by omega) (by omega) (fun h => absurd h (by decide)) rfl rfl) ⟨rfl, rfl, rfl, rfl, rfl, trivial⟩
set_option maxHeartbeats 1000000 in
theorem sp_M_offNow {κ : Kx} {Q : Option Value → (Heap → Prop) → Prop} {m : Mem} {D : Int} (hS : okM D (m 10 0)) (hD : D ≤ 100000) (k : Q (some (vi (offS (shM (m 10 0))))) (World κ m)) : GG κ G_M_offNow 1 0 0 [.ref (ad κ 10 0)] (World κ m) Q := by
  obtain ⟨s0, s1, s2, s3, s4, s5, hfg, hkd, hsh, hgl⟩ := id hS
  refine GG.intro (ls := [some _, none]) (Nat.le_of_ble_eq_true rfl) rfl (fun μ F => ?_)
  refine g_aload_n F a_M_offNow_0 rfl ?_
  refine g_get_10_4 F a_M_offNow_1 fl_M_70 ?_
  refine g_aload_n F a_M_offNow_4 rfl ?_
  refine g_get_10_5 F a_M_offNow_5 fl_M_73 ?_
  refine g_isub F a_M_offNow_8 ?_
  refine g_s1 F a_M_offNow_9 sc_M_212 mk_M_round rfl (by decide) ⟨Nat.le_refl _, Nat.le_refl _⟩ rfl (Nat.le_of_ble_eq_true rfl) (sp_M_round (by omega) (GCr.v ?_))
  refine g_istore_n (ls' := [_, _]) F a_M_offNow_12 rfl rfl rfl ?_
  refine g_iload_n F a_M_offNow_13 rfl ?_
  refine g_bipush F a_M_offNow_14 (by decide) ?_
  refine g_icmp_ge F (by omega) (by omega) a_M_offNow_16 (fun h16 => ?_) (fun h16 => ?_)
  · refine g_iload_n F a_M_offNow_23 rfl ?_
    refine g_bipush F a_M_offNow_24 (by decide) ?_
    refine g_isub F a_M_offNow_26 ?_
    refine g_iret F a_M_offNow_27 rfl ⟨Nat.le_refl _, Nat.le_refl _⟩ ?_
    exact qv k (by show _ = ((m 10 0).1 4 - (m 10 0).1 5 + 50) % 100 - 50; omega)
  · refine g_iload_n F a_M_offNow_19 rfl ?_
    refine g_goto F a_M_offNow_20 ?_
    refine g_iret F a_M_offNow_27 rfl ⟨Nat.le_refl _, Nat.le_refl _⟩ ?_
    exact qv k (by show _ = ((m 10 0).1 4 - (m 10 0).1 5 + 50) % 100 - 50; omega)
def dayM (M : Rc) (set : Int) : Rc := (fup M.1 6 (M.1 6 + 1), aup M.2 2 (if fogB (shM M) then M.2 2 else shN (shM M) set (M.1 1).toNat))
theorem dayM_l {M : Rc} {set e : Int} : dayM (fup (fup M.1 4 ((M.1 4 + M.1 3 + e) % 100)) 5 ((M.1 5 + M.1 3) % 100), M.2) set = stM M (sailB (shM M) set e) := rfl
theorem shN_r {S : Rc} (h : ∀ k : Int, 0 ≤ k ∧ k < 6 → 0 ≤ S.2 2 k ∧ S.2 2 k ≤ 90) (t : Int) (j : Nat) : ∀ k : Int, 0 ≤ k ∧ k < 6 → 0 ≤ shN S t j k ∧ shN S t j k ≤ 90 := by
  intro k hk
  have := h k hk
  unfold shN
  repeat' split
  all_goals omega
set_option maxHeartbeats 2000000 in
theorem lp_M_goesOn {κ : Kx} {μ : MX} {Q : Option Value → (Heap → Prop) → Prop} {m : Mem} {D : Int} (hS : okM D (m 10 0)) (hD : D ≤ 100000) {t e : Int} (hset : 0 ≤ t ∧ t < 64) (k : Q none (World κ (mset m 10 0 (dayM (m 10 0) t)))) (F : Fx κ G_M_goesOn 1 0 0 μ) :
    ∀ (n : Nat) (j : Nat) (x : Int), (m 10 0).1 1 < j + n → (j : Int) ≤ (m 10 0).1 1 → (0 < j → ¬ fogB (shM (m 10 0))) → x = j →  GC κ μ (ZZ κ μ 0 0 Q) 0 0 36 [some (.ref (ad κ 10 0)), some (vi t), some (vi e), some (vi x)] [] (World κ (mset m 10 0 ((m 10 0).1, aup (m 10 0).2 2 (shN (shM (m 10 0)) t j)))) := by
  obtain ⟨s0, s1, s2, s3, s4, s5, hfg, hkd, hsh, hgl⟩ := id hS
  intro n
  induction n with
  | zero =>
    intro j x hn hj hf hx
    exact absurd hn (by omega)
  | succ n ih =>
    intro j x hn hj hf hx
    have hs9 : (j : Int) < 6 → 0 ≤ (shM (m 10 0)).2 2 x ∧ (shM (m 10 0)).2 2 x ≤ 90 := fun _ => hsh x (by omega)
    have hSj : okM D ((m 10 0).1, aup (m 10 0).2 2 (shN (shM (m 10 0)) t j)) := ⟨s0, s1, s2, s3, s4, s5, hfg, hkd, shN_r hsh t j, hgl⟩
    have hfn : ¬ fogB (shM ((m 10 0).1, aup (m 10 0).2 2 (shN (shM (m 10 0)) t j))) → ¬ fogB (shM (m 10 0)) := fun h => h
    have hfy : fogB (shM ((m 10 0).1, aup (m 10 0).2 2 (shN (shM (m 10 0)) t j))) → fogB (shM (m 10 0)) := fun h => h
    refine g_iload_n F a_M_goesOn_36 rfl ?_
    refine g_aload_n F a_M_goesOn_37 rfl ?_
    refine g_get_10_1 F a_M_goesOn_38 fl_M_60 ?_
    (try simp only [mset_app, mset_mset, fup_app, aup_app, fup_fup, aup_aup, false_and, and_false, true_and, and_true, and_self, reduceIte, Nat.reduceEqDiff, reduceCtorEq, fup_10, fs_4_5, fs_4_6, fs_5_6])
    refine g_icmp_ge F (by omega) (by omega) a_M_goesOn_41 (fun h41 => ?_) (fun h41 => ?_)
    · refine g_aload_n F a_M_goesOn_99 rfl ?_
      refine g_dup F a_M_goesOn_100 rfl ?_
      refine g_get_10_6 F a_M_goesOn_101 fl_M_76 ?_
      (try simp only [mset_app, mset_mset, fup_app, aup_app, fup_fup, aup_aup, false_and, and_false, true_and, and_true, and_self, reduceIte, Nat.reduceEqDiff, reduceCtorEq, fup_10, fs_4_5, fs_4_6, fs_5_6])
      refine g_iconst F a_M_goesOn_104 ?_
      refine g_iadd F a_M_goesOn_105 ?_
      refine g_put_10_6 F a_M_goesOn_106 fl_M_76 ?_
      (try simp only [mset_app, mset_mset, fup_app, aup_app, fup_fup, aup_aup, false_and, and_false, true_and, and_true, and_self, reduceIte, Nat.reduceEqDiff, reduceCtorEq, fup_10, fs_4_5, fs_4_6, fs_5_6])
      refine g_ret F a_M_goesOn_109 rfl ⟨Nat.le_refl _, Nat.le_refl _⟩ ?_
      unfold dayM at k
      have ej : ((m 10 0).1 1).toNat = j := by omega
      rw [ej] at k
      by_cases hfo : fogB (shM (m 10 0))
      · have : j = 0 := by
          rcases Nat.eq_zero_or_pos j with h | h
          · exact h
          · exact absurd hfo (hf h)
        rw [this, if_pos hfo] at *
        rw [shN_zero]
        exact k
      · rw [if_neg hfo] at k
        exact k
    · refine g_aload_n F a_M_goesOn_44 rfl ?_
      refine g_v0 F a_M_goesOn_45 vc_M_206 mk_M_isFog ob_10 ck_10.1 rfl rfl (by decide) ⟨Nat.le_refl _, Nat.le_refl _⟩ rfl (Nat.le_of_ble_eq_true rfl) (sp_M_isFog (D := D) hSj hD (fun c45 => GCr.v ?_) (fun c45 => GCr.v ?_))
      · refine g_ifne1 F a_M_goesOn_48 ?_
        refine g_aload_n F a_M_goesOn_99 rfl ?_
        refine g_dup F a_M_goesOn_100 rfl ?_
        refine g_get_10_6 F a_M_goesOn_101 fl_M_76 ?_
        (try simp only [mset_app, mset_mset, fup_app, aup_app, fup_fup, aup_aup, false_and, and_false, true_and, and_true, and_self, reduceIte, Nat.reduceEqDiff, reduceCtorEq, fup_10, fs_4_5, fs_4_6, fs_5_6])
        refine g_iconst F a_M_goesOn_104 ?_
        refine g_iadd F a_M_goesOn_105 ?_
        refine g_put_10_6 F a_M_goesOn_106 fl_M_76 ?_
        (try simp only [mset_app, mset_mset, fup_app, aup_app, fup_fup, aup_aup, false_and, and_false, true_and, and_true, and_self, reduceIte, Nat.reduceEqDiff, reduceCtorEq, fup_10, fs_4_5, fs_4_6, fs_5_6])
        refine g_ret F a_M_goesOn_109 rfl ⟨Nat.le_refl _, Nat.le_refl _⟩ ?_
        have hfo := hfy c45
        unfold dayM at k
        rw [if_pos hfo] at k
        have : j = 0 := by
          rcases Nat.eq_zero_or_pos j with h | h
          · exact h
          · exact absurd hfo (hf h)
        rw [this, shN_zero]
        exact k
      · refine g_ifne0 F a_M_goesOn_48 ?_
        refine g_aload_n F a_M_goesOn_51 rfl ?_
        refine g_get_10_11 F a_M_goesOn_52 fl_M_16 ?_
        (try simp only [mset_app, mset_mset, fup_app, aup_app, fup_fup, aup_aup, false_and, and_false, true_and, and_true, and_self, reduceIte, Nat.reduceEqDiff, reduceCtorEq, fup_10, fs_4_5, fs_4_6, fs_5_6])
        refine g_iload_n F a_M_goesOn_55 rfl ?_
        refine g_iload_n F a_M_goesOn_56 rfl ?_
        refine g_iload_n F a_M_goesOn_57 rfl ?_
        refine g_s2 F a_M_goesOn_58 sc_M_152 mk_M_has rfl (by decide) ⟨Nat.le_refl _, Nat.le_refl _⟩ rfl (Nat.le_of_ble_eq_true rfl) (sp_M_has (n := j) hset hx (by omega) (fun c58 => GCr.v ?_) (fun c58 => GCr.v ?_))
        · refine g_ifeq1 F a_M_goesOn_61 ?_
          refine g_iconst F a_M_goesOn_64 ?_
          refine g_aload_n F a_M_goesOn_65 rfl ?_
          refine g_get_10_11 F a_M_goesOn_66 fl_M_16 ?_
          (try simp only [mset_app, mset_mset, fup_app, aup_app, fup_fup, aup_aup, false_and, and_false, true_and, and_true, and_self, reduceIte, Nat.reduceEqDiff, reduceCtorEq, fup_10, fs_4_5, fs_4_6, fs_5_6])
          refine g_iload_n F a_M_goesOn_69 rfl ?_
          refine g_ild_10_2 F a_M_goesOn_70 (by omega) ?_
          (try simp only [mset_app, mset_mset, fup_app, aup_app, fup_fup, aup_aup, false_and, and_false, true_and, and_true, and_self, reduceIte, Nat.reduceEqDiff, reduceCtorEq, fup_10, fs_4_5, fs_4_6, fs_5_6])
          rw [shN_at hx]
          refine g_iconst F a_M_goesOn_71 ?_
          refine g_isub F a_M_goesOn_72 ?_
          refine g_s2 F a_M_goesOn_73 sc_M_193 mk_M_greater rfl (by decide) ⟨Nat.le_refl _, Nat.le_refl _⟩ rfl (Nat.le_of_ble_eq_true rfl) (sp_M_greater (by omega) (by omega) (GCr.v ?_))
          (try simp only [mset_app, mset_mset, fup_app, aup_app, fup_fup, aup_aup, false_and, and_false, true_and, and_true, and_self, reduceIte, Nat.reduceEqDiff, reduceCtorEq, fup_10, fs_4_5, fs_4_6, fs_5_6])
          refine g_goto F a_M_goesOn_76 ?_
          refine g_ist_10_2 F a_M_goesOn_92 (by omega) ?_
          (try simp only [mset_app, mset_mset, fup_app, aup_app, fup_fup, aup_aup, false_and, and_false, true_and, and_true, and_self, reduceIte, Nat.reduceEqDiff, reduceCtorEq, fup_10, fs_4_5, fs_4_6, fs_5_6])
          refine g_iinc (ls' := [_, _, _, _]) F a_M_goesOn_93 rfl rfl rfl ?_
          refine g_goto F a_M_goesOn_96 ?_
          rw [shN_succ hx _ (by rw [if_pos c58]; exact Int.max_comm _ _)]
          exact GC.loc2 (ih (j + 1) _ (by omega) (by omega) (fun _ => hfn c45) (by omega)) ⟨rfl, rfl, rfl, rfl, trivial⟩
        · refine g_ifeq0 F a_M_goesOn_61 ?_
          refine g_bipush F a_M_goesOn_79 (by decide) ?_
          refine g_aload_n F a_M_goesOn_81 rfl ?_
          refine g_get_10_11 F a_M_goesOn_82 fl_M_16 ?_
          (try simp only [mset_app, mset_mset, fup_app, aup_app, fup_fup, aup_aup, false_and, and_false, true_and, and_true, and_self, reduceIte, Nat.reduceEqDiff, reduceCtorEq, fup_10, fs_4_5, fs_4_6, fs_5_6])
          refine g_iload_n F a_M_goesOn_85 rfl ?_
          refine g_ild_10_2 F a_M_goesOn_86 (by omega) ?_
          (try simp only [mset_app, mset_mset, fup_app, aup_app, fup_fup, aup_aup, false_and, and_false, true_and, and_true, and_self, reduceIte, Nat.reduceEqDiff, reduceCtorEq, fup_10, fs_4_5, fs_4_6, fs_5_6])
          rw [shN_at hx]
          refine g_iconst F a_M_goesOn_87 ?_
          refine g_iadd F a_M_goesOn_88 ?_
          refine g_s2 F a_M_goesOn_89 sc_M_146 mk_M_lesser rfl (by decide) ⟨Nat.le_refl _, Nat.le_refl _⟩ rfl (Nat.le_of_ble_eq_true rfl) (sp_M_lesser (by omega) (by omega) (GCr.v ?_))
          (try simp only [mset_app, mset_mset, fup_app, aup_app, fup_fup, aup_aup, false_and, and_false, true_and, and_true, and_self, reduceIte, Nat.reduceEqDiff, reduceCtorEq, fup_10, fs_4_5, fs_4_6, fs_5_6])
          refine g_ist_10_2 F a_M_goesOn_92 (by omega) ?_
          (try simp only [mset_app, mset_mset, fup_app, aup_app, fup_fup, aup_aup, false_and, and_false, true_and, and_true, and_self, reduceIte, Nat.reduceEqDiff, reduceCtorEq, fup_10, fs_4_5, fs_4_6, fs_5_6])
          refine g_iinc (ls' := [_, _, _, _]) F a_M_goesOn_93 rfl rfl rfl ?_
          refine g_goto F a_M_goesOn_96 ?_
          rw [shN_succ hx _ (by rw [if_neg c58]; exact Int.min_comm _ _)]
          exact GC.loc2 (ih (j + 1) _ (by omega) (by omega) (fun _ => hfn c45) (by omega)) ⟨rfl, rfl, rfl, rfl, trivial⟩
set_option maxHeartbeats 1000000 in
theorem sp_M_goesOn {κ : Kx} {Q : Option Value → (Heap → Prop) → Prop} {m : Mem} {D : Int} (hS : okM D (m 10 0)) (hD : D ≤ 100000) {t e : Int} (hset : 0 ≤ t ∧ t < 64) (he : -1000 ≤ e ∧ e ≤ 1000) (k : Q none (World κ (mset m 10 0 (stM (m 10 0) (sailB (shM (m 10 0)) t e))))) : GG κ G_M_goesOn 1 0 0 [.ref (ad κ 10 0), vi t, vi e] (World κ m) Q := by
  obtain ⟨s0, s1, s2, s3, s4, s5, hfg, hkd, hsh, hgl⟩ := id hS
  refine GG.intro (ls := [some _, some _, some _, none]) (Nat.le_of_ble_eq_true rfl) rfl (fun μ F => ?_)
  refine g_aload_n F a_M_goesOn_0 rfl ?_
  refine g_aload_n F a_M_goesOn_1 rfl ?_
  refine g_get_10_5 F a_M_goesOn_2 fl_M_73 ?_
  refine g_aload_n F a_M_goesOn_5 rfl ?_
  refine g_get_10_3 F a_M_goesOn_6 fl_M_67 ?_
  refine g_iadd F a_M_goesOn_9 ?_
  refine g_s1 F a_M_goesOn_10 sc_M_212 mk_M_round rfl (by decide) ⟨Nat.le_refl _, Nat.le_refl _⟩ rfl (Nat.le_of_ble_eq_true rfl) (sp_M_round (by omega) (GCr.v ?_))
  refine g_put_10_5 F a_M_goesOn_13 fl_M_73 ?_
  (try simp only [mset_app, mset_mset, fup_app, aup_app, fup_fup, aup_aup, false_and, and_false, true_and, and_true, and_self, reduceIte, Nat.reduceEqDiff, reduceCtorEq, fup_10, fs_4_5, fs_4_6, fs_5_6])
  refine g_aload_n F a_M_goesOn_16 rfl ?_
  refine g_aload_n F a_M_goesOn_17 rfl ?_
  refine g_get_10_4 F a_M_goesOn_18 fl_M_70 ?_
  (try simp only [mset_app, mset_mset, fup_app, aup_app, fup_fup, aup_aup, false_and, and_false, true_and, and_true, and_self, reduceIte, Nat.reduceEqDiff, reduceCtorEq, fup_10, fs_4_5, fs_4_6, fs_5_6])
  refine g_aload_n F a_M_goesOn_21 rfl ?_
  refine g_get_10_3 F a_M_goesOn_22 fl_M_67 ?_
  (try simp only [mset_app, mset_mset, fup_app, aup_app, fup_fup, aup_aup, false_and, and_false, true_and, and_true, and_self, reduceIte, Nat.reduceEqDiff, reduceCtorEq, fup_10, fs_4_5, fs_4_6, fs_5_6])
  refine g_iadd F a_M_goesOn_25 ?_
  refine g_iload_n F a_M_goesOn_26 rfl ?_
  refine g_iadd F a_M_goesOn_27 ?_
  refine g_s1 F a_M_goesOn_28 sc_M_212 mk_M_round rfl (by decide) ⟨Nat.le_refl _, Nat.le_refl _⟩ rfl (Nat.le_of_ble_eq_true rfl) (sp_M_round (by omega) (GCr.v ?_))
  (try simp only [mset_app, mset_mset, fup_app, aup_app, fup_fup, aup_aup, false_and, and_false, true_and, and_true, and_self, reduceIte, Nat.reduceEqDiff, reduceCtorEq, fup_10, fs_4_5, fs_4_6, fs_5_6])
  refine g_put_10_4 F a_M_goesOn_31 fl_M_70 ?_
  (try simp only [mset_app, mset_mset, fup_app, aup_app, fup_fup, aup_aup, false_and, and_false, true_and, and_true, and_self, reduceIte, Nat.reduceEqDiff, reduceCtorEq, fup_10, fs_4_5, fs_4_6, fs_5_6])
  refine g_iconst F a_M_goesOn_34 ?_
  refine g_istore_n (ls' := [_, _, _, _]) F a_M_goesOn_35 rfl rfl rfl ?_
  have hS1 : okM D (mset m 10 0 (fup (fup (m 10 0).1 4 (((m 10 0).1 4 + (m 10 0).1 3 + e) % 100)) 5 (((m 10 0).1 5 + (m 10 0).1 3) % 100), (m 10 0).2) 10 0) := by
    rw [mset_same]
    exact ⟨⟨by show 0 ≤ (_ : Int) % 100; omega, by show (_ : Int) % 100 < 100; omega⟩, ⟨by show 0 ≤ (_ : Int) % 100; omega, by show (_ : Int) % 100 < 100; omega⟩, s2, s3, s4, s5, hfg, hkd, hsh, hgl⟩
  have hz := lp_M_goesOn (κ := κ) (Q := Q) (e := e) hS1 hD hset (by rw [mset_same, mset_mset, dayM_l]; exact k) F (((m 10 0).1 1).toNat + 1) 0 0 (by show (m 10 0).1 1 < _; omega) (by show _ ≤ (m 10 0).1 1; omega) (fun h => absurd h (by decide)) rfl
  rw [mset_same, mset_mset, shN_zero] at hz
  exact GC.loc2 (GC.pw hz (by show _ = World κ (mset m 10 0 (_, aup (m 10 0).2 2 ((m 10 0).2 2))); rw [aup_self])) ⟨rfl, rfl, rfl, rfl, trivial⟩
set_option maxHeartbeats 1000000 in
theorem sp_M_measures {κ : Kx} {Q : Option Value → (Heap → Prop) → Prop} {m : Mem} {D : Int} (hS : okM D (m 10 0)) (hD : D ≤ 100000) {t y : Int} (hset : 0 ≤ t ∧ t < 64) (hy : 0 ≤ y ∧ y < (m 10 0).1 2) (k : Q none (World κ (mset m 10 0 (stM (m 10 0) (sailS (shM (m 10 0)) t y))))) : GG κ G_M_measures 5 0 0 [.ref (ad κ 10 0), vi t, vi y] (World κ m) Q := by
  obtain ⟨s0, s1, s2, s3, s4, s5, hfg, hkd, hsh, hgl⟩ := id hS
  have her := errS_r (okM_S hS) t y
  refine GG.intro (ls := [some _, some _, some _]) (Nat.le_of_ble_eq_true rfl) rfl (fun μ F => ?_)
  refine g_aload_n F a_M_measures_0 rfl ?_
  refine g_iload_n F a_M_measures_1 rfl ?_
  refine g_aload_n F a_M_measures_2 rfl ?_
  refine g_iload_n F a_M_measures_3 rfl ?_
  refine g_iload_n F a_M_measures_4 rfl ?_
  refine g_v2 F a_M_measures_5 vc_M_215 mk_M_errorOf ob_10 ck_10.1 rfl rfl (by decide) ⟨Nat.le_refl _, Nat.le_refl _⟩ rfl (Nat.le_of_ble_eq_true rfl) (sp_M_errorOf hS hD hset (by omega) (GCr.v ?_))
  refine g_v2 F a_M_measures_8 vc_M_218 mk_M_goesOn ob_10 ck_10.1 rfl rfl (by decide) ⟨Nat.le_refl _, Nat.le_refl _⟩ rfl (Nat.le_of_ble_eq_true rfl) (sp_M_goesOn hS hD hset (by omega) (GCr.n ?_))
  (try simp only [mset_app, mset_mset, fup_app, aup_app, fup_fup, aup_aup, false_and, and_false, true_and, and_true, and_self, reduceIte, Nat.reduceEqDiff, reduceCtorEq, fup_10, fs_4_5, fs_4_6, fs_5_6])
  refine g_ret F a_M_measures_11 rfl ⟨Nat.le_refl _, Nat.le_refl _⟩ ?_
  exact k
/-- where it is, its day, its SHAMES, laid into a row -/
def lyI (S : Rc) (f : Int → Int) (a : Int) : Int → Int := fun k => if k = a then S.1 0 else if k = a + 1 then S.1 1 else if k = a + 2 then S.1 3 else if a + 3 ≤ k ∧ k < a + 9 then S.2 2 (k - a - 3) else f k
/-- and taken out of it -/
def tkS (f : Int → Int) (a : Int) (S : Rc) : Rc := (fup (fup (fup S.1 0 (f a)) 1 (f (a + 1))) 3 (f (a + 2)), aup S.2 2 (fun k => f (a + 3 + k)))
set_option maxHeartbeats 1000000 in
theorem sp_M_lays {κ : Kx} {Q : Option Value → (Heap → Prop) → Prop} {m : Mem} {j : Nat} {a : Int} (hj : 9 ≤ j ∧ j < 14) (ha : 0 ≤ a ∧ a + 9 ≤ alen 10 j) (hl : (alen 10 j : Int) ≤ 1000) (k : Q none (World κ (mset m 10 0 ((m 10 0).1, aup (m 10 0).2 j (lyI (shM (m 10 0)) ((m 10 0).2 j) a))))) : GG κ G_M_lays 0 0 0 [.ref (ad κ 10 0), .ref (aa κ 10 0 j), vi a] (World κ m) Q := by
  have hj2 : ¬ j = 2 := by omega
  have hj3 : ¬ 2 = j := by omega
  refine GG.intro (ls := [some _, some _, some _, none]) (Nat.le_of_ble_eq_true rfl) rfl (fun μ F => ?_)
  refine g_aload_n F a_M_lays_0 rfl ?_
  refine g_iload_n F a_M_lays_1 rfl ?_
  refine g_aload_n F a_M_lays_2 rfl ?_
  refine g_get_10_4 F a_M_lays_3 fl_M_70 ?_
  refine g_istM F a_M_lays_6 ⟨by omega, by omega, by omega⟩ ?_
  (try simp only [mset_app, mset_mset, fup_app, aup_app, fup_fup, aup_aup, false_and, and_false, true_and, and_true, and_self, reduceIte, Nat.reduceEqDiff, reduceCtorEq, fup_10, fs_4_5, fs_4_6, fs_5_6, hj2, hj3])
  refine g_aload_n F a_M_lays_7 rfl ?_
  refine g_iload_n F a_M_lays_8 rfl ?_
  refine g_iconst F a_M_lays_9 ?_
  refine g_iadd F a_M_lays_10 ?_
  refine g_aload_n F a_M_lays_11 rfl ?_
  refine g_get_10_5 F a_M_lays_12 fl_M_73 ?_
  (try simp only [mset_app, mset_mset, fup_app, aup_app, fup_fup, aup_aup, false_and, and_false, true_and, and_true, and_self, reduceIte, Nat.reduceEqDiff, reduceCtorEq, fup_10, fs_4_5, fs_4_6, fs_5_6, hj2, hj3])
  refine g_istM F a_M_lays_15 ⟨by omega, by omega, by omega⟩ ?_
  (try simp only [mset_app, mset_mset, fup_app, aup_app, fup_fup, aup_aup, false_and, and_false, true_and, and_true, and_self, reduceIte, Nat.reduceEqDiff, reduceCtorEq, fup_10, fs_4_5, fs_4_6, fs_5_6, hj2, hj3])
  refine g_aload_n F a_M_lays_16 rfl ?_
  refine g_iload_n F a_M_lays_17 rfl ?_
  refine g_iconst F a_M_lays_18 ?_
  refine g_iadd F a_M_lays_19 ?_
  refine g_aload_n F a_M_lays_20 rfl ?_
  refine g_get_10_6 F a_M_lays_21 fl_M_76 ?_
  (try simp only [mset_app, mset_mset, fup_app, aup_app, fup_fup, aup_aup, false_and, and_false, true_and, and_true, and_self, reduceIte, Nat.reduceEqDiff, reduceCtorEq, fup_10, fs_4_5, fs_4_6, fs_5_6, hj2, hj3])
  refine g_istM F a_M_lays_24 ⟨by omega, by omega, by omega⟩ ?_
  (try simp only [mset_app, mset_mset, fup_app, aup_app, fup_fup, aup_aup, false_and, and_false, true_and, and_true, and_self, reduceIte, Nat.reduceEqDiff, reduceCtorEq, fup_10, fs_4_5, fs_4_6, fs_5_6, hj2, hj3])
  refine g_iconst F a_M_lays_25 ?_
  refine g_istore_n (ls' := [_, _, _, _]) F a_M_lays_26 rfl rfl rfl ?_
  refine g_iload_n F a_M_lays_27 rfl ?_
  refine g_bipush F a_M_lays_28 (by decide) ?_
  refine g_icmp_ge F (by decide) (by decide) a_M_lays_30 (fun hz => absurd hz (by decide)) (fun hz => ?_)
  refine g_aload_n F a_M_lays_33 rfl ?_
  refine g_iload_n F a_M_lays_34 rfl ?_
  refine g_iconst F a_M_lays_35 ?_
  refine g_iadd F a_M_lays_36 ?_
  refine g_iload_n F a_M_lays_37 rfl ?_
  refine g_iadd F a_M_lays_38 ?_
  refine g_aload_n F a_M_lays_39 rfl ?_
  refine g_get_10_11 F a_M_lays_40 fl_M_16 ?_
  (try simp only [mset_app, mset_mset, fup_app, aup_app, fup_fup, aup_aup, false_and, and_false, true_and, and_true, and_self, reduceIte, Nat.reduceEqDiff, reduceCtorEq, fup_10, fs_4_5, fs_4_6, fs_5_6, hj2, hj3])
  refine g_iload_n F a_M_lays_43 rfl ?_
  refine g_ild_10_2 F a_M_lays_44 (by decide) ?_
  (try simp only [mset_app, mset_mset, fup_app, aup_app, fup_fup, aup_aup, false_and, and_false, true_and, and_true, and_self, reduceIte, Nat.reduceEqDiff, reduceCtorEq, fup_10, fs_4_5, fs_4_6, fs_5_6, hj2, hj3])
  refine g_istM F a_M_lays_45 ⟨by omega, by omega, by omega⟩ ?_
  (try simp only [mset_app, mset_mset, fup_app, aup_app, fup_fup, aup_aup, false_and, and_false, true_and, and_true, and_self, reduceIte, Nat.reduceEqDiff, reduceCtorEq, fup_10, fs_4_5, fs_4_6, fs_5_6, hj2, hj3])
  refine g_iinc (ls' := [_, _, _, some (vi 1)]) F a_M_lays_46 rfl rfl rfl ?_
  refine g_goto F a_M_lays_49 ?_
  refine g_iload_n F a_M_lays_27 rfl ?_
  refine g_bipush F a_M_lays_28 (by decide) ?_
  refine g_icmp_ge F (by decide) (by decide) a_M_lays_30 (fun hz => absurd hz (by decide)) (fun hz => ?_)
  refine g_aload_n F a_M_lays_33 rfl ?_
  refine g_iload_n F a_M_lays_34 rfl ?_
  refine g_iconst F a_M_lays_35 ?_
  refine g_iadd F a_M_lays_36 ?_
  refine g_iload_n F a_M_lays_37 rfl ?_
  refine g_iadd F a_M_lays_38 ?_
  refine g_aload_n F a_M_lays_39 rfl ?_
  refine g_get_10_11 F a_M_lays_40 fl_M_16 ?_
  (try simp only [mset_app, mset_mset, fup_app, aup_app, fup_fup, aup_aup, false_and, and_false, true_and, and_true, and_self, reduceIte, Nat.reduceEqDiff, reduceCtorEq, fup_10, fs_4_5, fs_4_6, fs_5_6, hj2, hj3])
  refine g_iload_n F a_M_lays_43 rfl ?_
  refine g_ild_10_2 F a_M_lays_44 (by decide) ?_
  (try simp only [mset_app, mset_mset, fup_app, aup_app, fup_fup, aup_aup, false_and, and_false, true_and, and_true, and_self, reduceIte, Nat.reduceEqDiff, reduceCtorEq, fup_10, fs_4_5, fs_4_6, fs_5_6, hj2, hj3])
  refine g_istM F a_M_lays_45 ⟨by omega, by omega, by omega⟩ ?_
  (try simp only [mset_app, mset_mset, fup_app, aup_app, fup_fup, aup_aup, false_and, and_false, true_and, and_true, and_self, reduceIte, Nat.reduceEqDiff, reduceCtorEq, fup_10, fs_4_5, fs_4_6, fs_5_6, hj2, hj3])
  refine g_iinc (ls' := [_, _, _, some (vi 2)]) F a_M_lays_46 rfl rfl rfl ?_
  refine g_goto F a_M_lays_49 ?_
  refine g_iload_n F a_M_lays_27 rfl ?_
  refine g_bipush F a_M_lays_28 (by decide) ?_
  refine g_icmp_ge F (by decide) (by decide) a_M_lays_30 (fun hz => absurd hz (by decide)) (fun hz => ?_)
  refine g_aload_n F a_M_lays_33 rfl ?_
  refine g_iload_n F a_M_lays_34 rfl ?_
  refine g_iconst F a_M_lays_35 ?_
  refine g_iadd F a_M_lays_36 ?_
  refine g_iload_n F a_M_lays_37 rfl ?_
  refine g_iadd F a_M_lays_38 ?_
  refine g_aload_n F a_M_lays_39 rfl ?_
  refine g_get_10_11 F a_M_lays_40 fl_M_16 ?_
  (try simp only [mset_app, mset_mset, fup_app, aup_app, fup_fup, aup_aup, false_and, and_false, true_and, and_true, and_self, reduceIte, Nat.reduceEqDiff, reduceCtorEq, fup_10, fs_4_5, fs_4_6, fs_5_6, hj2, hj3])
  refine g_iload_n F a_M_lays_43 rfl ?_
  refine g_ild_10_2 F a_M_lays_44 (by decide) ?_
  (try simp only [mset_app, mset_mset, fup_app, aup_app, fup_fup, aup_aup, false_and, and_false, true_and, and_true, and_self, reduceIte, Nat.reduceEqDiff, reduceCtorEq, fup_10, fs_4_5, fs_4_6, fs_5_6, hj2, hj3])
  refine g_istM F a_M_lays_45 ⟨by omega, by omega, by omega⟩ ?_
  (try simp only [mset_app, mset_mset, fup_app, aup_app, fup_fup, aup_aup, false_and, and_false, true_and, and_true, and_self, reduceIte, Nat.reduceEqDiff, reduceCtorEq, fup_10, fs_4_5, fs_4_6, fs_5_6, hj2, hj3])
  refine g_iinc (ls' := [_, _, _, some (vi 3)]) F a_M_lays_46 rfl rfl rfl ?_
  refine g_goto F a_M_lays_49 ?_
  refine g_iload_n F a_M_lays_27 rfl ?_
  refine g_bipush F a_M_lays_28 (by decide) ?_
  refine g_icmp_ge F (by decide) (by decide) a_M_lays_30 (fun hz => absurd hz (by decide)) (fun hz => ?_)
  refine g_aload_n F a_M_lays_33 rfl ?_
  refine g_iload_n F a_M_lays_34 rfl ?_
  refine g_iconst F a_M_lays_35 ?_
  refine g_iadd F a_M_lays_36 ?_
  refine g_iload_n F a_M_lays_37 rfl ?_
  refine g_iadd F a_M_lays_38 ?_
  refine g_aload_n F a_M_lays_39 rfl ?_
  refine g_get_10_11 F a_M_lays_40 fl_M_16 ?_
  (try simp only [mset_app, mset_mset, fup_app, aup_app, fup_fup, aup_aup, false_and, and_false, true_and, and_true, and_self, reduceIte, Nat.reduceEqDiff, reduceCtorEq, fup_10, fs_4_5, fs_4_6, fs_5_6, hj2, hj3])
  refine g_iload_n F a_M_lays_43 rfl ?_
  refine g_ild_10_2 F a_M_lays_44 (by decide) ?_
  (try simp only [mset_app, mset_mset, fup_app, aup_app, fup_fup, aup_aup, false_and, and_false, true_and, and_true, and_self, reduceIte, Nat.reduceEqDiff, reduceCtorEq, fup_10, fs_4_5, fs_4_6, fs_5_6, hj2, hj3])
  refine g_istM F a_M_lays_45 ⟨by omega, by omega, by omega⟩ ?_
  (try simp only [mset_app, mset_mset, fup_app, aup_app, fup_fup, aup_aup, false_and, and_false, true_and, and_true, and_self, reduceIte, Nat.reduceEqDiff, reduceCtorEq, fup_10, fs_4_5, fs_4_6, fs_5_6, hj2, hj3])
  refine g_iinc (ls' := [_, _, _, some (vi 4)]) F a_M_lays_46 rfl rfl rfl ?_
  refine g_goto F a_M_lays_49 ?_
  refine g_iload_n F a_M_lays_27 rfl ?_
  refine g_bipush F a_M_lays_28 (by decide) ?_
  refine g_icmp_ge F (by decide) (by decide) a_M_lays_30 (fun hz => absurd hz (by decide)) (fun hz => ?_)
  refine g_aload_n F a_M_lays_33 rfl ?_
  refine g_iload_n F a_M_lays_34 rfl ?_
  refine g_iconst F a_M_lays_35 ?_
  refine g_iadd F a_M_lays_36 ?_
  refine g_iload_n F a_M_lays_37 rfl ?_
  refine g_iadd F a_M_lays_38 ?_
  refine g_aload_n F a_M_lays_39 rfl ?_
  refine g_get_10_11 F a_M_lays_40 fl_M_16 ?_
  (try simp only [mset_app, mset_mset, fup_app, aup_app, fup_fup, aup_aup, false_and, and_false, true_and, and_true, and_self, reduceIte, Nat.reduceEqDiff, reduceCtorEq, fup_10, fs_4_5, fs_4_6, fs_5_6, hj2, hj3])
  refine g_iload_n F a_M_lays_43 rfl ?_
  refine g_ild_10_2 F a_M_lays_44 (by decide) ?_
  (try simp only [mset_app, mset_mset, fup_app, aup_app, fup_fup, aup_aup, false_and, and_false, true_and, and_true, and_self, reduceIte, Nat.reduceEqDiff, reduceCtorEq, fup_10, fs_4_5, fs_4_6, fs_5_6, hj2, hj3])
  refine g_istM F a_M_lays_45 ⟨by omega, by omega, by omega⟩ ?_
  (try simp only [mset_app, mset_mset, fup_app, aup_app, fup_fup, aup_aup, false_and, and_false, true_and, and_true, and_self, reduceIte, Nat.reduceEqDiff, reduceCtorEq, fup_10, fs_4_5, fs_4_6, fs_5_6, hj2, hj3])
  refine g_iinc (ls' := [_, _, _, some (vi 5)]) F a_M_lays_46 rfl rfl rfl ?_
  refine g_goto F a_M_lays_49 ?_
  refine g_iload_n F a_M_lays_27 rfl ?_
  refine g_bipush F a_M_lays_28 (by decide) ?_
  refine g_icmp_ge F (by decide) (by decide) a_M_lays_30 (fun hz => absurd hz (by decide)) (fun hz => ?_)
  refine g_aload_n F a_M_lays_33 rfl ?_
  refine g_iload_n F a_M_lays_34 rfl ?_
  refine g_iconst F a_M_lays_35 ?_
  refine g_iadd F a_M_lays_36 ?_
  refine g_iload_n F a_M_lays_37 rfl ?_
  refine g_iadd F a_M_lays_38 ?_
  refine g_aload_n F a_M_lays_39 rfl ?_
  refine g_get_10_11 F a_M_lays_40 fl_M_16 ?_
  (try simp only [mset_app, mset_mset, fup_app, aup_app, fup_fup, aup_aup, false_and, and_false, true_and, and_true, and_self, reduceIte, Nat.reduceEqDiff, reduceCtorEq, fup_10, fs_4_5, fs_4_6, fs_5_6, hj2, hj3])
  refine g_iload_n F a_M_lays_43 rfl ?_
  refine g_ild_10_2 F a_M_lays_44 (by decide) ?_
  (try simp only [mset_app, mset_mset, fup_app, aup_app, fup_fup, aup_aup, false_and, and_false, true_and, and_true, and_self, reduceIte, Nat.reduceEqDiff, reduceCtorEq, fup_10, fs_4_5, fs_4_6, fs_5_6, hj2, hj3])
  refine g_istM F a_M_lays_45 ⟨by omega, by omega, by omega⟩ ?_
  (try simp only [mset_app, mset_mset, fup_app, aup_app, fup_fup, aup_aup, false_and, and_false, true_and, and_true, and_self, reduceIte, Nat.reduceEqDiff, reduceCtorEq, fup_10, fs_4_5, fs_4_6, fs_5_6, hj2, hj3])
  refine g_iinc (ls' := [_, _, _, some (vi 6)]) F a_M_lays_46 rfl rfl rfl ?_
  refine g_goto F a_M_lays_49 ?_
  refine g_iload_n F a_M_lays_27 rfl ?_
  refine g_bipush F a_M_lays_28 (by decide) ?_
  refine g_icmp_ge F (by decide) (by decide) a_M_lays_30 (fun hz => ?_) (fun hz => absurd hz (by decide))
  refine g_ret F a_M_lays_52 rfl ⟨Nat.le_refl _, Nat.le_refl _⟩ ?_
  refine qw k (World_aup (fun x h0 h1 => ?_))
  unfold lyI gup
  simp only [Int.add_zero]
  repeat' split
  all_goals first | rfl | (exfalso; omega) | exact congrArg ((m 10 0).2 2) (by omega)
set_option maxHeartbeats 1000000 in
theorem sp_M_takes {κ : Kx} {Q : Option Value → (Heap → Prop) → Prop} {m : Mem} {j : Nat} {a : Int} (hj : 9 ≤ j ∧ j < 14) (ha : 0 ≤ a ∧ a + 9 ≤ alen 10 j) (hl : (alen 10 j : Int) ≤ 1000) (k : Q none (World κ (mset m 10 0 (stM (m 10 0) (tkS ((m 10 0).2 j) a (shM (m 10 0))))))) : GG κ G_M_takes 0 0 0 [.ref (ad κ 10 0), .ref (aa κ 10 0 j), vi a] (World κ m) Q := by
  have hj2 : ¬ j = 2 := by omega
  have hj3 : ¬ 2 = j := by omega
  refine GG.intro (ls := [some _, some _, some _, none]) (Nat.le_of_ble_eq_true rfl) rfl (fun μ F => ?_)
  refine g_aload_n F a_M_takes_0 rfl ?_
  refine g_aload_n F a_M_takes_1 rfl ?_
  refine g_iload_n F a_M_takes_2 rfl ?_
  refine g_ildM F a_M_takes_3 ⟨by omega, by omega, by omega⟩ ?_
  refine g_put_10_4 F a_M_takes_4 fl_M_70 ?_
  (try simp only [mset_app, mset_mset, fup_app, aup_app, fup_fup, aup_aup, false_and, and_false, true_and, and_true, and_self, reduceIte, Nat.reduceEqDiff, reduceCtorEq, fup_10, fs_4_5, fs_4_6, fs_5_6, hj2, hj3])
  refine g_aload_n F a_M_takes_7 rfl ?_
  refine g_aload_n F a_M_takes_8 rfl ?_
  refine g_iload_n F a_M_takes_9 rfl ?_
  refine g_iconst F a_M_takes_10 ?_
  refine g_iadd F a_M_takes_11 ?_
  refine g_ildM F a_M_takes_12 ⟨by omega, by omega, by omega⟩ ?_
  (try simp only [mset_app, mset_mset, fup_app, aup_app, fup_fup, aup_aup, false_and, and_false, true_and, and_true, and_self, reduceIte, Nat.reduceEqDiff, reduceCtorEq, fup_10, fs_4_5, fs_4_6, fs_5_6, hj2, hj3])
  refine g_put_10_5 F a_M_takes_13 fl_M_73 ?_
  (try simp only [mset_app, mset_mset, fup_app, aup_app, fup_fup, aup_aup, false_and, and_false, true_and, and_true, and_self, reduceIte, Nat.reduceEqDiff, reduceCtorEq, fup_10, fs_4_5, fs_4_6, fs_5_6, hj2, hj3])
  refine g_aload_n F a_M_takes_16 rfl ?_
  refine g_aload_n F a_M_takes_17 rfl ?_
  refine g_iload_n F a_M_takes_18 rfl ?_
  refine g_iconst F a_M_takes_19 ?_
  refine g_iadd F a_M_takes_20 ?_
  refine g_ildM F a_M_takes_21 ⟨by omega, by omega, by omega⟩ ?_
  (try simp only [mset_app, mset_mset, fup_app, aup_app, fup_fup, aup_aup, false_and, and_false, true_and, and_true, and_self, reduceIte, Nat.reduceEqDiff, reduceCtorEq, fup_10, fs_4_5, fs_4_6, fs_5_6, hj2, hj3])
  refine g_put_10_6 F a_M_takes_22 fl_M_76 ?_
  (try simp only [mset_app, mset_mset, fup_app, aup_app, fup_fup, aup_aup, false_and, and_false, true_and, and_true, and_self, reduceIte, Nat.reduceEqDiff, reduceCtorEq, fup_10, fs_4_5, fs_4_6, fs_5_6, hj2, hj3])
  refine g_iconst F a_M_takes_25 ?_
  refine g_istore_n (ls' := [_, _, _, _]) F a_M_takes_26 rfl rfl rfl ?_
  refine g_iload_n F a_M_takes_27 rfl ?_
  refine g_bipush F a_M_takes_28 (by decide) ?_
  refine g_icmp_ge F (by decide) (by decide) a_M_takes_30 (fun hz => absurd hz (by decide)) (fun hz => ?_)
  refine g_aload_n F a_M_takes_33 rfl ?_
  refine g_get_10_11 F a_M_takes_34 fl_M_16 ?_
  (try simp only [mset_app, mset_mset, fup_app, aup_app, fup_fup, aup_aup, false_and, and_false, true_and, and_true, and_self, reduceIte, Nat.reduceEqDiff, reduceCtorEq, fup_10, fs_4_5, fs_4_6, fs_5_6, hj2, hj3])
  refine g_iload_n F a_M_takes_37 rfl ?_
  refine g_aload_n F a_M_takes_38 rfl ?_
  refine g_iload_n F a_M_takes_39 rfl ?_
  refine g_iconst F a_M_takes_40 ?_
  refine g_iadd F a_M_takes_41 ?_
  refine g_iload_n F a_M_takes_42 rfl ?_
  refine g_iadd F a_M_takes_43 ?_
  refine g_ildM F a_M_takes_44 ⟨by omega, by omega, by omega⟩ ?_
  (try simp only [mset_app, mset_mset, fup_app, aup_app, fup_fup, aup_aup, false_and, and_false, true_and, and_true, and_self, reduceIte, Nat.reduceEqDiff, reduceCtorEq, fup_10, fs_4_5, fs_4_6, fs_5_6, hj2, hj3])
  refine g_ist_10_2 F a_M_takes_45 (by decide) ?_
  (try simp only [mset_app, mset_mset, fup_app, aup_app, fup_fup, aup_aup, false_and, and_false, true_and, and_true, and_self, reduceIte, Nat.reduceEqDiff, reduceCtorEq, fup_10, fs_4_5, fs_4_6, fs_5_6, hj2, hj3])
  refine g_iinc (ls' := [_, _, _, some (vi 1)]) F a_M_takes_46 rfl rfl rfl ?_
  refine g_goto F a_M_takes_49 ?_
  refine g_iload_n F a_M_takes_27 rfl ?_
  refine g_bipush F a_M_takes_28 (by decide) ?_
  refine g_icmp_ge F (by decide) (by decide) a_M_takes_30 (fun hz => absurd hz (by decide)) (fun hz => ?_)
  refine g_aload_n F a_M_takes_33 rfl ?_
  refine g_get_10_11 F a_M_takes_34 fl_M_16 ?_
  (try simp only [mset_app, mset_mset, fup_app, aup_app, fup_fup, aup_aup, false_and, and_false, true_and, and_true, and_self, reduceIte, Nat.reduceEqDiff, reduceCtorEq, fup_10, fs_4_5, fs_4_6, fs_5_6, hj2, hj3])
  refine g_iload_n F a_M_takes_37 rfl ?_
  refine g_aload_n F a_M_takes_38 rfl ?_
  refine g_iload_n F a_M_takes_39 rfl ?_
  refine g_iconst F a_M_takes_40 ?_
  refine g_iadd F a_M_takes_41 ?_
  refine g_iload_n F a_M_takes_42 rfl ?_
  refine g_iadd F a_M_takes_43 ?_
  refine g_ildM F a_M_takes_44 ⟨by omega, by omega, by omega⟩ ?_
  (try simp only [mset_app, mset_mset, fup_app, aup_app, fup_fup, aup_aup, false_and, and_false, true_and, and_true, and_self, reduceIte, Nat.reduceEqDiff, reduceCtorEq, fup_10, fs_4_5, fs_4_6, fs_5_6, hj2, hj3])
  refine g_ist_10_2 F a_M_takes_45 (by decide) ?_
  (try simp only [mset_app, mset_mset, fup_app, aup_app, fup_fup, aup_aup, false_and, and_false, true_and, and_true, and_self, reduceIte, Nat.reduceEqDiff, reduceCtorEq, fup_10, fs_4_5, fs_4_6, fs_5_6, hj2, hj3])
  refine g_iinc (ls' := [_, _, _, some (vi 2)]) F a_M_takes_46 rfl rfl rfl ?_
  refine g_goto F a_M_takes_49 ?_
  refine g_iload_n F a_M_takes_27 rfl ?_
  refine g_bipush F a_M_takes_28 (by decide) ?_
  refine g_icmp_ge F (by decide) (by decide) a_M_takes_30 (fun hz => absurd hz (by decide)) (fun hz => ?_)
  refine g_aload_n F a_M_takes_33 rfl ?_
  refine g_get_10_11 F a_M_takes_34 fl_M_16 ?_
  (try simp only [mset_app, mset_mset, fup_app, aup_app, fup_fup, aup_aup, false_and, and_false, true_and, and_true, and_self, reduceIte, Nat.reduceEqDiff, reduceCtorEq, fup_10, fs_4_5, fs_4_6, fs_5_6, hj2, hj3])
  refine g_iload_n F a_M_takes_37 rfl ?_
  refine g_aload_n F a_M_takes_38 rfl ?_
  refine g_iload_n F a_M_takes_39 rfl ?_
  refine g_iconst F a_M_takes_40 ?_
  refine g_iadd F a_M_takes_41 ?_
  refine g_iload_n F a_M_takes_42 rfl ?_
  refine g_iadd F a_M_takes_43 ?_
  refine g_ildM F a_M_takes_44 ⟨by omega, by omega, by omega⟩ ?_
  (try simp only [mset_app, mset_mset, fup_app, aup_app, fup_fup, aup_aup, false_and, and_false, true_and, and_true, and_self, reduceIte, Nat.reduceEqDiff, reduceCtorEq, fup_10, fs_4_5, fs_4_6, fs_5_6, hj2, hj3])
  refine g_ist_10_2 F a_M_takes_45 (by decide) ?_
  (try simp only [mset_app, mset_mset, fup_app, aup_app, fup_fup, aup_aup, false_and, and_false, true_and, and_true, and_self, reduceIte, Nat.reduceEqDiff, reduceCtorEq, fup_10, fs_4_5, fs_4_6, fs_5_6, hj2, hj3])
  refine g_iinc (ls' := [_, _, _, some (vi 3)]) F a_M_takes_46 rfl rfl rfl ?_
  refine g_goto F a_M_takes_49 ?_
  refine g_iload_n F a_M_takes_27 rfl ?_
  refine g_bipush F a_M_takes_28 (by decide) ?_
  refine g_icmp_ge F (by decide) (by decide) a_M_takes_30 (fun hz => absurd hz (by decide)) (fun hz => ?_)
  refine g_aload_n F a_M_takes_33 rfl ?_
  refine g_get_10_11 F a_M_takes_34 fl_M_16 ?_
  (try simp only [mset_app, mset_mset, fup_app, aup_app, fup_fup, aup_aup, false_and, and_false, true_and, and_true, and_self, reduceIte, Nat.reduceEqDiff, reduceCtorEq, fup_10, fs_4_5, fs_4_6, fs_5_6, hj2, hj3])
  refine g_iload_n F a_M_takes_37 rfl ?_
  refine g_aload_n F a_M_takes_38 rfl ?_
  refine g_iload_n F a_M_takes_39 rfl ?_
  refine g_iconst F a_M_takes_40 ?_
  refine g_iadd F a_M_takes_41 ?_
  refine g_iload_n F a_M_takes_42 rfl ?_
  refine g_iadd F a_M_takes_43 ?_
  refine g_ildM F a_M_takes_44 ⟨by omega, by omega, by omega⟩ ?_
  (try simp only [mset_app, mset_mset, fup_app, aup_app, fup_fup, aup_aup, false_and, and_false, true_and, and_true, and_self, reduceIte, Nat.reduceEqDiff, reduceCtorEq, fup_10, fs_4_5, fs_4_6, fs_5_6, hj2, hj3])
  refine g_ist_10_2 F a_M_takes_45 (by decide) ?_
  (try simp only [mset_app, mset_mset, fup_app, aup_app, fup_fup, aup_aup, false_and, and_false, true_and, and_true, and_self, reduceIte, Nat.reduceEqDiff, reduceCtorEq, fup_10, fs_4_5, fs_4_6, fs_5_6, hj2, hj3])
  refine g_iinc (ls' := [_, _, _, some (vi 4)]) F a_M_takes_46 rfl rfl rfl ?_
  refine g_goto F a_M_takes_49 ?_
  refine g_iload_n F a_M_takes_27 rfl ?_
  refine g_bipush F a_M_takes_28 (by decide) ?_
  refine g_icmp_ge F (by decide) (by decide) a_M_takes_30 (fun hz => absurd hz (by decide)) (fun hz => ?_)
  refine g_aload_n F a_M_takes_33 rfl ?_
  refine g_get_10_11 F a_M_takes_34 fl_M_16 ?_
  (try simp only [mset_app, mset_mset, fup_app, aup_app, fup_fup, aup_aup, false_and, and_false, true_and, and_true, and_self, reduceIte, Nat.reduceEqDiff, reduceCtorEq, fup_10, fs_4_5, fs_4_6, fs_5_6, hj2, hj3])
  refine g_iload_n F a_M_takes_37 rfl ?_
  refine g_aload_n F a_M_takes_38 rfl ?_
  refine g_iload_n F a_M_takes_39 rfl ?_
  refine g_iconst F a_M_takes_40 ?_
  refine g_iadd F a_M_takes_41 ?_
  refine g_iload_n F a_M_takes_42 rfl ?_
  refine g_iadd F a_M_takes_43 ?_
  refine g_ildM F a_M_takes_44 ⟨by omega, by omega, by omega⟩ ?_
  (try simp only [mset_app, mset_mset, fup_app, aup_app, fup_fup, aup_aup, false_and, and_false, true_and, and_true, and_self, reduceIte, Nat.reduceEqDiff, reduceCtorEq, fup_10, fs_4_5, fs_4_6, fs_5_6, hj2, hj3])
  refine g_ist_10_2 F a_M_takes_45 (by decide) ?_
  (try simp only [mset_app, mset_mset, fup_app, aup_app, fup_fup, aup_aup, false_and, and_false, true_and, and_true, and_self, reduceIte, Nat.reduceEqDiff, reduceCtorEq, fup_10, fs_4_5, fs_4_6, fs_5_6, hj2, hj3])
  refine g_iinc (ls' := [_, _, _, some (vi 5)]) F a_M_takes_46 rfl rfl rfl ?_
  refine g_goto F a_M_takes_49 ?_
  refine g_iload_n F a_M_takes_27 rfl ?_
  refine g_bipush F a_M_takes_28 (by decide) ?_
  refine g_icmp_ge F (by decide) (by decide) a_M_takes_30 (fun hz => absurd hz (by decide)) (fun hz => ?_)
  refine g_aload_n F a_M_takes_33 rfl ?_
  refine g_get_10_11 F a_M_takes_34 fl_M_16 ?_
  (try simp only [mset_app, mset_mset, fup_app, aup_app, fup_fup, aup_aup, false_and, and_false, true_and, and_true, and_self, reduceIte, Nat.reduceEqDiff, reduceCtorEq, fup_10, fs_4_5, fs_4_6, fs_5_6, hj2, hj3])
  refine g_iload_n F a_M_takes_37 rfl ?_
  refine g_aload_n F a_M_takes_38 rfl ?_
  refine g_iload_n F a_M_takes_39 rfl ?_
  refine g_iconst F a_M_takes_40 ?_
  refine g_iadd F a_M_takes_41 ?_
  refine g_iload_n F a_M_takes_42 rfl ?_
  refine g_iadd F a_M_takes_43 ?_
  refine g_ildM F a_M_takes_44 ⟨by omega, by omega, by omega⟩ ?_
  (try simp only [mset_app, mset_mset, fup_app, aup_app, fup_fup, aup_aup, false_and, and_false, true_and, and_true, and_self, reduceIte, Nat.reduceEqDiff, reduceCtorEq, fup_10, fs_4_5, fs_4_6, fs_5_6, hj2, hj3])
  refine g_ist_10_2 F a_M_takes_45 (by decide) ?_
  (try simp only [mset_app, mset_mset, fup_app, aup_app, fup_fup, aup_aup, false_and, and_false, true_and, and_true, and_self, reduceIte, Nat.reduceEqDiff, reduceCtorEq, fup_10, fs_4_5, fs_4_6, fs_5_6, hj2, hj3])
  refine g_iinc (ls' := [_, _, _, some (vi 6)]) F a_M_takes_46 rfl rfl rfl ?_
  refine g_goto F a_M_takes_49 ?_
  refine g_iload_n F a_M_takes_27 rfl ?_
  refine g_bipush F a_M_takes_28 (by decide) ?_
  refine g_icmp_ge F (by decide) (by decide) a_M_takes_30 (fun hz => ?_) (fun hz => absurd hz (by decide))
  refine g_ret F a_M_takes_52 rfl ⟨Nat.le_refl _, Nat.le_refl _⟩ ?_
  refine qw k (World_aup (fun x h0 h1 => ?_))
  show _ = (m 10 0).2 j (a + 3 + x)
  have h6 : x = 0 ∨ x = 1 ∨ x = 2 ∨ x = 3 ∨ x = 4 ∨ x = 5 := by
    have : x < ((6 : Nat) : Int) := h1
    omega
  rcases h6 with rfl | rfl | rfl | rfl | rfl | rfl <;> rfl
