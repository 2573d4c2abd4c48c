/-! what a picture shows -/
def ors : Nat → (Nat → Int32) → Int32
  | 0, _ => 0
  | n + 1, g => ors n g ||| g n
def mxs : Nat → (Nat → Int32) → Int32
  | 0, _ => 0
  | n + 1, g => if g n ≤ mxs n g then mxs n g else g n
theorem ors_s (n : Nat) (g : Nat → Int32) : ors (n + 1) g = ors n g ||| g n := rfl
theorem su_s (n : Nat) (g : Nat → Int32) : su (n + 1) g = su n g + g n := rfl
theorem px_c {px : Nat → Int32} {l c : Nat} (hl : l < 16) (hc : c < 24) : f_X3_pixelAt px (nI l) (nI c) = some (px (24 * l + c)) := by
  unfold f_X3_pixelAt
  rw [show (24 : Int32) = nI 24 from rfl, pk_mul, nI_add, Nat.mul_comm l 24, gd_ok (vp_in_nI (by omega) (by decide)), nI_clamp (by omega)]
theorem px_i {l c : Nat} : (81 + 24 * nI l) + nI c = nI (81 + (24 * l + c)) := by
  rw [show (24 : Int32) = nI 24 from rfl, show (81 : Int32) = nI 81 from rfl, pk_mul, nI_add, nI_add, Nat.add_assoc]
def litb (px : Nat → Int32) (l c : Nat) : Int32 := if px (24 * l + c) = 0 then 0 else 1 <<< (nI c &&& 31)
theorem lit_c {px : Nat → Int32} {l : Nat} (hl : l < 16) : f_X3_columnsNotDark px (nI l) = some (ors 24 (litb px l)) := by
  unfold f_X3_columnsNotDark
  obtain ⟨w, e, hw⟩ := loopI (fun N v i => f_X3_columnsNotDark_L4 px (nI l) (fun (w11 : Int32) (w12 : Int32) => some (w11)) N v (nI i)) 24 (fun v => some v) (fun i v => v = ors i (litb px l)) (fun N v h => by
    rw [f_X3_columnsNotDark_L4_s, if_pos (by decide)]) (fun N v i hi h => by
    refine ⟨_, ?_, rfl⟩
    rw [f_X3_columnsNotDark_L4_s, if_neg (show ¬ (24 : Int32) ≤ nI i from nI_ge hi (by decide)), px_c hl hi, bn_some, h, ors_s i]
    unfold litb
    by_cases q : px (24 * l + i) = 0
    · rw [if_pos q, if_pos q, bd_eq, nI_1, Int32.or_zero]
    · rw [if_neg q, if_neg q, bd_eq, bd_eq, nI_1]) 24 0 4000 0 rfl (by decide) rfl
  rw [hw] at e
  exact e
theorem lit_m {px S : Nat → Int32} {l : Nat} (hP : ∀ k : Nat, k < 384 → S (81 + k) = px k ∧ 0 ≤ px k) (hl : l < 16) : f_X8_lit S (nI l) = some (ors 24 (litb px l)) := by
  unfold f_X8_lit
  obtain ⟨w, e, hw⟩ := loopI (fun N v i => f_X8_lit_L4 S (nI l) (fun (w10 : Int32) (w11 : Int32) => some (w10)) N v (nI i)) 24 (fun v => some v) (fun i v => v = ors i (litb px l)) (fun N v h => by
    rw [f_X8_lit_L4_s, if_pos (by decide)]) (fun N v i hi h => by
    refine ⟨_, ?_, rfl⟩
    obtain ⟨p1, p2⟩ := hP (24 * l + i) (by omega)
    rw [f_X8_lit_L4_s, if_neg (show ¬ (24 : Int32) ≤ nI i from nI_ge hi (by decide)), px_i, gd_ok (vp_in_nI (by omega) (by decide)), nI_clamp (by omega), p1, h, ors_s i]
    simp only [jn_eq, bd_eq, nI_1]
    unfold litb
    by_cases q : px (24 * l + i) = 0
    · rw [if_pos q, if_pos (by rw [q]; decide)]
    · rw [if_neg q, if_neg (fun z => q (Int32.le_antisymm z p2))]) 24 0 4000 0 rfl (by decide) rfl
  rw [hw] at e
  exact e
theorem sum_c {px : Nat → Int32} {l : Nat} (hl : l < 16) : f_X3_sumOfLine px (nI l) = some (su 24 (fun c => px (24 * l + c))) := by
  unfold f_X3_sumOfLine
  obtain ⟨w, e, hw⟩ := loopI (fun N v i => f_X3_sumOfLine_L4 px (nI l) (fun (w9 : Int32) (w10 : Int32) => some (w9)) N v (nI i)) 24 (fun v => some v) (fun i v => v = su i (fun c => px (24 * l + c))) (fun N v h => by
    rw [f_X3_sumOfLine_L4_s, if_pos (by decide)]) (fun N v i hi h => by
    refine ⟨_, ?_, rfl⟩
    rw [f_X3_sumOfLine_L4_s, if_neg (show ¬ (24 : Int32) ≤ nI i from nI_ge hi (by decide)), px_c hl hi, bn_some, h, bd_eq, bd_eq, nI_1]
    rfl) 24 0 4000 0 rfl (by decide) rfl
  rw [hw] at e
  exact e
theorem sum_m {px S : Nat → Int32} {l : Nat} (hP : ∀ k : Nat, k < 384 → S (81 + k) = px k ∧ 0 ≤ px k) (hl : l < 16) : f_X8_sumOf S (nI l) = some (su 24 (fun c => px (24 * l + c))) := by
  unfold f_X8_sumOf
  obtain ⟨w, e, hw⟩ := loopI (fun N v i => f_X8_sumOf_L4 S (nI l) (fun (w8 : Int32) (w9 : Int32) => some (w8)) N v (nI i)) 24 (fun v => some v) (fun i v => v = su i (fun c => px (24 * l + c))) (fun N v h => by
    rw [f_X8_sumOf_L4_s, if_pos (by decide)]) (fun N v i hi h => by
    refine ⟨_, ?_, rfl⟩
    rw [f_X8_sumOf_L4_s, if_neg (show ¬ (24 : Int32) ≤ nI i from nI_ge hi (by decide)), px_i, gd_ok (vp_in_nI (by omega) (by decide)), nI_clamp (by omega), (hP (24 * l + i) (by omega)).1, h, bd_eq, bd_eq, nI_1]
    rfl) 24 0 4000 0 rfl (by decide) rfl
  rw [hw] at e
  exact e
theorem all_c {px : Nat → Int32} : f_X3_sumOfAll px = some (su 384 px) := by
  unfold f_X3_sumOfAll
  obtain ⟨w, e, hw⟩ := loopI (fun N v i => f_X3_sumOfAll_L4 px (fun (w9 : Int32) (w10 : Int32) => some (w9)) N v (nI i)) 16 (fun v => some v) (fun i v => v = su i (fun l => su 24 (fun c => px (24 * l + c)))) (fun N v h => by
    rw [f_X3_sumOfAll_L4_s, if_pos (by decide)]) (fun N v i hi h => by
    refine ⟨_, ?_, rfl⟩
    rw [f_X3_sumOfAll_L4_s, if_neg (show ¬ (16 : Int32) ≤ nI i from nI_ge hi (by decide)), sum_c hi, bn_some, h, bd_eq, bd_eq, nI_1]
    rfl) 16 0 4000 0 rfl (by decide) rfl
  rw [hw, ← su_mul 16 24 px] at e
  exact e
theorem dark_c {px : Nat → Int32} : f_X3_darkLines px = some (ors 16 (fun l => if ors 24 (litb px l) = 0 then 1 <<< (nI l &&& 31) else 0)) := by
  unfold f_X3_darkLines
  obtain ⟨w, e, hw⟩ := loopI (fun N v i => f_X3_darkLines_L4 px (fun (w11 : Int32) (w12 : Int32) => some (w11)) N v (nI i)) 16 (fun v => some v) (fun i v => v = ors i (fun l => if ors 24 (litb px l) = 0 then 1 <<< (nI l &&& 31) else 0)) (fun N v h => by
    rw [f_X3_darkLines_L4_s, if_pos (by decide)]) (fun N v i hi h => by
    refine ⟨_, ?_, rfl⟩
    rw [f_X3_darkLines_L4_s, if_neg (show ¬ (16 : Int32) ≤ nI i from nI_ge hi (by decide)), lit_c hi, bn_some, h, ors_s i]
    by_cases q : ors 24 (litb px i) = 0
    · rw [if_pos q, if_neg (not_not_intro q), bd_eq, bd_eq, nI_1]
    · rw [if_neg q, if_pos q, bd_eq, nI_1, Int32.or_zero]) 16 0 4000 0 rfl (by decide) rfl
  rw [hw] at e
  exact e
theorem dark_m {px S : Nat → Int32} (hP : ∀ k : Nat, k < 384 → S (81 + k) = px k ∧ 0 ≤ px k) : f_X8_darkLines S = some (ors 16 (fun l => if ors 24 (litb px l) = 0 then 1 <<< (nI l &&& 31) else 0)) := by
  unfold f_X8_darkLines
  obtain ⟨w, e, hw⟩ := loopI (fun N v i => f_X8_darkLines_L4 S (fun (w11 : Int32) (w12 : Int32) => some (w11)) N v (nI i)) 16 (fun v => some v) (fun i v => v = ors i (fun l => if ors 24 (litb px l) = 0 then 1 <<< (nI l &&& 31) else 0)) (fun N v h => by
    rw [f_X8_darkLines_L4_s, if_pos (by decide)]) (fun N v i hi h => by
    refine ⟨_, ?_, rfl⟩
    rw [f_X8_darkLines_L4_s, if_neg (show ¬ (16 : Int32) ≤ nI i from nI_ge hi (by decide)), lit_m hP hi, bn_some, h, ors_s i]
    simp only [jn_eq, bd_eq, nI_1]
    by_cases q : ors 24 (litb px i) = 0
    · rw [if_pos q, if_neg (not_not_intro q)]
    · rw [if_neg q, if_pos q]) 16 0 4000 0 rfl (by decide) rfl
  rw [hw] at e
  exact e
def dbl (px : Nat → Int32) (l : Nat) : Int32 := if ¬ ors 24 (litb px l) = 0 then 0 else 1
def bnd (px : Nat → Int32) (l : Nat) : Int32 := if l = 0 then 0 else if dbl px l = dbl px (l - 1) then 0 else 1
theorem nI_p {i : Nat} (h : 1 ≤ i) : nI i - 1 = nI (i - 1) := nI_sub (a := i) (b := 1) h
theorem bands_c {px : Nat → Int32} : f_X3_bands px = some (su 16 (bnd px)) := by
  unfold f_X3_bands
  obtain ⟨w, e, hw⟩ := loopI (fun N v i => f_X3_bands_L4 px (fun (w16 : Int32) (w17 : Int32) => some (w16)) N v (nI i)) 16 (fun v => some v) (fun i v => 1 ≤ i ∧ v = su i (bnd px)) (fun N v h => by
    rw [f_X3_bands_L4_s, if_pos (by decide)]) (fun N v i hi h => by
    refine ⟨_, ?_, by omega, rfl⟩
    rw [f_X3_bands_L4_s, if_neg (show ¬ (16 : Int32) ≤ nI i from nI_ge hi (by decide)), lit_c hi, nI_p h.1, lit_c (l := i - 1) (by omega), h.2]
    simp only [jn_eq, bd_eq, bn_some, nI_1]
    rw [su_s i]
    conv => rhs; rw [bnd, if_neg (by omega)]
    unfold dbl
    by_cases a : ors 24 (litb px i) = 0 <;> by_cases b : ors 24 (litb px (i - 1)) = 0 <;> simp [a, b]) 15 1 4000 0 rfl (by decide) ⟨Nat.le_refl _, rfl⟩
  rw [hw.2] at e
  exact e
theorem bands_m {px S : Nat → Int32} (hP : ∀ k : Nat, k < 384 → S (81 + k) = px k ∧ 0 ≤ px k) : f_X8_bands S = some (su 16 (bnd px)) := by
  unfold f_X8_bands
  obtain ⟨w, e, hw⟩ := loopI (fun N v i => f_X8_bands_L4 S (fun (w16 : Int32) (w17 : Int32) => some (w16)) N v (nI i)) 16 (fun v => some v) (fun i v => 1 ≤ i ∧ v = su i (bnd px)) (fun N v h => by
    rw [f_X8_bands_L4_s, if_pos (by decide)]) (fun N v i hi h => by
    refine ⟨_, ?_, by omega, rfl⟩
    rw [f_X8_bands_L4_s, if_neg (show ¬ (16 : Int32) ≤ nI i from nI_ge hi (by decide)), lit_m hP hi, nI_p h.1, lit_m hP (l := i - 1) (by omega), h.2]
    simp only [jn_eq, bd_eq, bn_some, nI_1]
    rw [su_s i]
    conv => rhs; rw [bnd, if_neg (by omega)]
    unfold dbl
    by_cases a : ors 24 (litb px i) = 0 <;> by_cases b : ors 24 (litb px (i - 1)) = 0 <;> simp [a, b]) 15 1 4000 0 rfl (by decide) ⟨Nat.le_refl _, rfl⟩
  rw [hw.2] at e
  exact e
theorem bright_c {px : Nat → Int32} : f_X3_brightest px = some (mxs 384 px) := by
  unfold f_X3_brightest
  obtain ⟨w, e, hw⟩ := loopI (fun N v i => f_X3_brightest_L4 px (fun (w17 : Int32) (w18 : Int32) => some (w17)) N v (nI i)) 16 (fun v => some v) (fun i v => v = mxs (24 * i) px) (fun N v h => by
    rw [f_X3_brightest_L4_s, if_pos (by decide)]) (fun N v i hi h => by
    refine ⟨_, ?_, rfl⟩
    rw [f_X3_brightest_L4_s, if_neg (show ¬ (16 : Int32) ≤ nI i from nI_ge hi (by decide))]
    obtain ⟨w, e, hw⟩ := loopI (fun M v c => f_X3_brightest_L12 px (nI i) (fun (w13 : Int32) (w14 : Int32) => bd (nI i + 1) (fun x15 => f_X3_brightest_L4 px (fun (w17 : Int32) (w18 : Int32) => some (w17)) N w13 x15)) M v (nI c)) 24 (fun v => f_X3_brightest_L4 px (fun (w17 : Int32) (w18 : Int32) => some (w17)) N v (nI (i + 1))) (fun c v => v = mxs (24 * i + c) px) (fun M v h => by
      rw [f_X3_brightest_L12_s, if_pos (by decide), bd_eq, nI_1]) (fun M v c hc h => by
      refine ⟨_, ?_, rfl⟩
      rw [f_X3_brightest_L12_s, if_neg (show ¬ (24 : Int32) ≤ nI c from nI_ge hc (by decide)), px_c hi hc, bn_some, bd_eq, bd_eq, nI_1 c, h, ← Nat.add_assoc, mxs]
      congr 1
      by_cases q : px (24 * i + c) ≤ mxs (24 * i + c) px
      · rw [if_pos q, if_neg (Int32.not_lt.mpr q)]
      · rw [if_neg q, if_pos (Int32.not_le.mp q)]) 24 0 4000 v rfl (by decide) h
    rw [hw] at e
    exact e) 16 0 4000 0 rfl (by decide) rfl
  rw [hw] at e
  exact e
theorem bright_m {px S : Nat → Int32} (hP : ∀ k : Nat, k < 384 → S (81 + k) = px k ∧ 0 ≤ px k) : f_X8_brightest S = some (mxs 384 px) := by
  unfold f_X8_brightest
  obtain ⟨w, e, hw⟩ := loopI (fun N v i => f_X8_brightest_L4 S (fun (w10 : Int32) (w11 : Int32) => some (w10)) N v (nI i)) 384 (fun v => some v) (fun i v => v = mxs i px) (fun N v h => by
    rw [f_X8_brightest_L4_s, if_pos (by decide)]) (fun N v i hi h => by
    refine ⟨_, ?_, rfl⟩
    rw [f_X8_brightest_L4_s, if_neg (show ¬ (384 : Int32) ≤ nI i from nI_ge hi (by decide)), show (81 : Int32) = nI 81 from rfl, nI_add, gd_ok (vp_in_nI (by omega) (by decide)), gd_ok (vp_in_nI (by omega) (by decide)), nI_clamp (by omega), (hP i hi).1, h, mxs, bd_eq, bd_eq, bd_eq, nI_1]
    by_cases q : px i ≤ mxs i px
    · rw [if_pos q, if_pos q]
    · rw [if_neg q, if_neg q]) 384 0 4000 0 rfl (by decide) rfl
  rw [hw] at e
  exact e
theorem leftmost_2 {px S : Nat → Int32} {l : Nat} (hP : ∀ k : Nat, k < 384 → S (81 + k) = px k ∧ 0 ≤ px k) (hl : l < 16) : ∃ r, f_X3_leftmostNotDark px (nI l) = some r ∧ f_X8_leftmost S (nI l) = some r := by
  unfold f_X3_leftmostNotDark f_X8_leftmost
  have key : ∀ (d i N : Nat), i + d = 24 → d < N → ∃ r, f_X3_leftmostNotDark_L2 px (nI l) (fun (w7 : Int32) => some ((-6))) N (nI i) = some r ∧ f_X8_leftmost_L2 S (nI l) (fun (w6 : Int32) => some ((-6))) N (nI i) = some r := by
    intro d
    induction d with
    | zero =>
      intro i N h1 h2
      obtain ⟨N, rfl⟩ : ∃ z, N = z + 1 := ⟨N - 1, by omega⟩
      obtain rfl : i = 24 := by omega
      rw [f_X3_leftmostNotDark_L2_s, f_X8_leftmost_L2_s, if_pos (by decide), if_pos (by decide)]
      exact ⟨_, rfl, rfl⟩
    | succ d ih =>
      intro i N h1 h2
      obtain ⟨N, rfl⟩ : ∃ z, N = z + 1 := ⟨N - 1, by omega⟩
      have hi : i < 24 := by omega
      obtain ⟨p1, p2⟩ := hP (24 * l + i) (by omega)
      have hz : ¬ (24 : Int32) ≤ nI i := nI_ge hi (by decide)
      rw [f_X3_leftmostNotDark_L2_s, f_X8_leftmost_L2_s, if_neg hz, if_neg hz, px_c hl hi, px_i, gd_ok (vp_in_nI (by omega) (by decide)), nI_clamp (by omega), p1, bn_some, bd_eq, bd_eq, nI_1]
      by_cases q : px (24 * l + i) = 0
      · rw [if_pos q, if_pos (by rw [q]; decide)]
        exact ih (i + 1) N (by omega) (by omega)
      · rw [if_neg q, if_neg (fun z => q (Int32.le_antisymm z p2))]
        exact ⟨_, rfl, rfl⟩
  exact key 24 0 4000 rfl (by decide)
