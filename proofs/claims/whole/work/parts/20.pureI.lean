/-! the arguments of a call -/
theorem n10 : ¬ (1 : Int32) = 0 := by decide
theorem e00 : (0 : Int32) = 0 := rfl
theorem nn0 : ¬ ¬ (0 : Int32) = 0 := not_not_intro rfl
theorem in_cases {a : Int32} {m : Nat} (hm : m < 2 ^ 31) : (bI (0 ≤ a ∧ a ≤ nI m) = 1 ∧ ∃ i : Nat, i ≤ m ∧ a = nI i) ∨ bI (0 ≤ a ∧ a ≤ nI m) = 0 := by
  by_cases h : 0 ≤ a ∧ a ≤ nI m
  · exact Or.inl ⟨if_pos h, nI_of2 (M := nI m) (n := m) (nI_toInt hm) (Int32.not_lt.mpr h.1) h.2⟩
  · exact Or.inr (if_neg h)
theorem place_cases (a b : Int32) : (f_X7_isPlace a b = some 1 ∧ f_X8_isPixel a b = some 1 ∧ ∃ l c : Nat, l < 16 ∧ c < 24 ∧ a = nI l ∧ b = nI c) ∨ (f_X7_isPlace a b = some 0 ∧ f_X8_isPixel a b = some 0) := by
  unfold f_X7_isPlace f_X8_isPixel
  simp only [wi_eq, in_eq, bn_some]
  rcases in_cases (a := a) (m := 15) (by decide) with ⟨e, i, hi, ha⟩ | e
  · rw [show (15 : Int32) = nI 15 from rfl, e, if_neg (by decide)]
    rcases in_cases (a := b) (m := 23) (by decide) with ⟨e', j, hj, hb⟩ | e'
    · rw [show (23 : Int32) = nI 23 from rfl, e', if_neg (by decide)]
      exact Or.inl ⟨rfl, rfl, i, j, by omega, by omega, ha, hb⟩
    · rw [show (23 : Int32) = nI 23 from rfl, e', if_pos rfl]
      exact Or.inr ⟨rfl, rfl⟩
  · rw [show (15 : Int32) = nI 15 from rfl, e, if_pos rfl]
    exact Or.inr ⟨rfl, rfl⟩
theorem thing_cases {mn : Int32} {S : Nat → Int32} {n : Nat} (n8 : n ≤ 8) (hn : mn = nI n) (h5 : S 5 = nI n) (a : Int32) : (f_X7_isThing mn a = some 1 ∧ f_X8_isThing S a = some 1 ∧ ∃ i : Nat, i < n ∧ a = nI i) ∨ (f_X7_isThing mn a = some 0 ∧ f_X8_isThing S a = some 0) := by
  unfold f_X7_isThing f_X8_isThing
  simp only [wi_eq, in_eq, bn_some, m5, c_5, h5, hn]
  by_cases h0 : n = 0
  · have e : bI (0 ≤ a ∧ a ≤ nI n - 1) = 0 := if_neg (fun z => by
      rw [h0] at z
      exact absurd (Int32.le_trans z.1 z.2) (by decide))
    rw [e]; exact Or.inr ⟨rfl, rfl⟩
  · rw [nI_p (by omega)]
    rcases in_cases (a := a) (m := n - 1) (by omega) with ⟨e, i, hi, ha⟩ | e
    · rw [e]; exact Or.inl ⟨rfl, rfl, i, by omega, ha⟩
    · rw [e]; exact Or.inr ⟨rfl, rfl⟩
/-! what there is -/
theorem sim_pixel {px S : Nat → Int32} (hP : ∀ k : Nat, k < 384 → S (81 + k) = px k ∧ 0 ≤ px k) (a b : Int32) : ∃ r, f_X7_pixel px a b = some r ∧ f_X8_pixel S a b = some r := by
  unfold f_X7_pixel f_X8_pixel
  rcases place_cases a b with ⟨e1, e2, l, c, hl, hc, rfl, rfl⟩ | ⟨e1, e2⟩
  · rw [e1, e2, bn_some, bn_some, if_pos n10, if_neg n10, px_c hl hc, bn_some, px_i, gd_ok (vp_in_nI (by omega) (by decide)), nI_clamp (by omega), (hP (24 * l + c) (by omega)).1]
    exact ⟨_, rfl, rfl⟩
  · rw [e1, e2, bn_some, bn_some, if_neg nn0, if_pos e00]
    exact ⟨_, rfl, rfl⟩
theorem sim_joined {se px S : Nat → Int32} {z : Nat} (z1 : 1 ≤ z) (z4 : z ≤ 4) (e3 : se 3 = nI z) (s3 : S 3 = nI z) (hP : ∀ k : Nat, k < 384 → S (81 + k) = px k ∧ 0 ≤ px k) (a b : Int32) : ∃ r, f_X7_joined se px a b = some r ∧ f_X8_joined S a b = some r := by
  unfold f_X7_joined f_X8_joined
  simp only [g34, m3, c_3, e3, s3, bd_eq]
  rcases place_cases a b with ⟨e1, e2, l, c, hl, hc, rfl, rfl⟩ | ⟨e1, e2⟩
  · rw [e1, e2, bn_some, bn_some, if_neg n10, if_neg n10, pk_mul, nI_add, show (16 : Int32) = nI 16 from rfl]
    have hz : l * z ≤ 15 * 4 := Nat.mul_le_mul (by omega) z4
    by_cases q : l * z < 16
    · have q' : nI (l * z) < nI 16 := (nI_ltI (by omega) (by decide)).mpr q
      rw [if_pos q', if_pos q']
      obtain ⟨E, hE, hE1, hE2⟩ : ∃ E : Nat, (if nI (l * z + z) < nI 16 then nI (l * z + z) else nI 16) = nI E ∧ (E ≤ 16 ∧ E ≤ l * z + z ∧ l * z ≤ E) ∧ (E = 16 ∨ E = l * z + z) := by
        by_cases q2 : l * z + z < 16
        · exact ⟨l * z + z, if_pos ((nI_ltI (by omega) (by decide)).mpr q2), by omega, Or.inr rfl⟩
        · exact ⟨16, if_neg (fun y => q2 ((nI_ltI (by omega) (by decide)).mp y)), by omega, Or.inl rfl⟩
      rw [hE]
      have key : ∀ (d i N : Nat) (v : Int32), i + d = E → d < N → ∃ r, f_X7_joined_L48 px (nI c) (nI E) (fun (w13 : Int32) (w14 : Int32) => some (w13)) N v (nI i) = some r ∧ f_X8_joined_L35 S (nI l) (nI c) (fun (w11 : Int32) (w12 : Int32) => some (w11)) N v (nI i) = some r := by
        intro d
        induction d with
        | zero =>
          intro i N v h1 h2
          obtain ⟨N, rfl⟩ : ∃ z, N = z + 1 := ⟨N - 1, by omega⟩
          obtain rfl : i = E := by omega
          rw [f_X7_joined_L48_s, f_X8_joined_L35_s, if_pos (Int32.le_refl _), m3, m3, c_3, s3, pk_mul, nI_add]
          rcases hE2 with h | h
          · by_cases q3 : nI (l * z + z) ≤ nI i
            · rw [if_pos q3]; exact ⟨_, rfl, rfl⟩
            · rw [if_neg q3, if_pos (by rw [h]; decide)]; exact ⟨_, rfl, rfl⟩
          · rw [if_pos (by rw [h]; exact Int32.le_refl _)]; exact ⟨_, rfl, rfl⟩
        | succ d ih =>
          intro i N v h1 h2
          obtain ⟨N, rfl⟩ : ∃ z, N = z + 1 := ⟨N - 1, by omega⟩
          have i16 : i < 16 := by omega
          rw [f_X7_joined_L48_s, f_X8_joined_L35_s, if_neg (nI_ge (by omega) (by omega)), m3, m3, c_3, s3, pk_mul, nI_add, if_neg (nI_ge (by omega) (by omega)), if_neg (show ¬ (16 : Int32) ≤ nI i from nI_ge i16 (by decide)), px_c i16 hc, px_i, gd_ok (vp_in_nI (by omega) (by decide)), nI_clamp (by omega), (hP (24 * i + c) (by omega)).1, bn_some, bd_eq, bd_eq, bd_eq, bd_eq, nI_1]
          exact ih (i + 1) N _ (by omega) (by omega)
      exact key (E - l * z) (l * z) 4000 0 (by omega) (by omega)
    · have q' : ¬ nI (l * z) < nI 16 := fun y => q ((nI_ltI (by omega) (by decide)).mp y)
      rw [if_neg q', if_neg q']
      exact ⟨_, rfl, rfl⟩
  · rw [e1, e2, bn_some, bn_some, if_pos e00, if_pos e00]
    exact ⟨_, rfl, rfl⟩
theorem sim_ofLine {px S : Nat → Int32} (hP : ∀ k : Nat, k < 384 → S (81 + k) = px k ∧ 0 ≤ px k) (a b : Int32) : ∃ r, f_X7_ofLine px a b = some r ∧ f_X8_ofLine S a b = some r := by
  unfold f_X7_ofLine f_X8_ofLine
  simp only [wi_eq, in_eq, bn_some]
  rcases in_cases (a := a) (m := 15) (by decide) with ⟨e, l, hl, rfl⟩ | e
  · rw [show (15 : Int32) = nI 15 from rfl, e, if_pos n10, if_pos n10]
    have hl : l < 16 := by omega
    obtain ⟨r, l1, l2⟩ := leftmost_2 hP hl
    rw [lit_c hl, lit_m hP hl, sum_c hl, sum_m hP hl, l1, l2]
    simp only [bn_some]
    by_cases h0 : b = 0
    · rw [if_pos h0, if_neg (not_not_intro h0)]; exact ⟨_, rfl, rfl⟩
    · rw [if_neg h0, if_pos h0]
      by_cases h1 : b = 1
      · rw [if_pos h1, if_neg (not_not_intro h1)]; exact ⟨_, rfl, rfl⟩
      · rw [if_neg h1, if_pos h1]
        by_cases h2 : b = 2
        · rw [if_pos h2, if_neg (not_not_intro h2)]; exact ⟨_, rfl, rfl⟩
        · rw [if_neg h2, if_pos h2]; exact ⟨_, rfl, rfl⟩
  · rw [show (15 : Int32) = nI 15 from rfl, e, if_neg nn0, if_neg nn0]
    exact ⟨_, rfl, rfl⟩
theorem sim_count {n T : Nat} {se : Nat → Int32} {mn : Int32} {ln hi wi br sp si le un ul px : Nat → Int32} {tm ps ft fk : Int32} {S : Nat → Int32} (h : ScR n T se mn ln hi wi br sp si le un ul px tm ps ft fk S) {pl le_ hm kn : Int32} (hl : pl = le_) (hk : hm = kn) (a : Int32) : ∃ r, f_X7_count se mn px tm ps ft fk pl hm a = some r ∧ f_X8_count kn le_ S a = some r := by
  obtain ⟨⟨n8, hn, h5⟩, ⟨T9, ht, h4⟩, ⟨z0, a0, b0, c0⟩, ⟨z1, a1, a1', b1, c1⟩, ⟨z2, a2, b2, c2⟩, ⟨z3, a3, a3', b3, c3⟩, ⟨h8, hF⟩, h6, hT, hR, hV, hB, hP⟩ := h
  unfold f_X7_count f_X8_count
  rw [dark_c, dark_m hP, bright_c, bright_m hP, bands_c, bands_m hP]
  simp only [m4, m5, m6, m7, m8, c_4, c_5, c_6, c_7, c_8, g04, g14, g24, g34, c_0, c_1, c_2, c_3, bn_some, jn_eq, h4, h5, h6, h8, ht, hn, b0, b1, b2, b3]
  have e7 : (if 0 ≤ S 7 then some (S 7) else some (-6)) = some ft := by
    rcases hF with ⟨f1, f2, f3⟩ | ⟨q, d, q1, q2, q3, f1, f3, f2⟩
    · rw [f3, if_neg (by decide), f1]
    · rw [f3, if_pos (nI_pos' (by omega)), f1]
  rw [e7, hl, hk]
  by_cases y0 : a = 0
  · rw [if_pos y0, if_pos y0]; exact ⟨_, rfl, rfl⟩
  rw [if_neg y0, if_neg y0]
  by_cases y1 : a = 1
  · rw [if_pos y1, if_pos y1]; exact ⟨_, rfl, rfl⟩
  rw [if_neg y1, if_neg y1]
  by_cases y2 : a = 2
  · rw [if_pos y2, if_pos y2]; exact ⟨_, rfl, rfl⟩
  rw [if_neg y2, if_neg y2]
  by_cases y3 : a = 3
  · rw [if_pos y3, if_pos y3]; exact ⟨_, rfl, rfl⟩
  rw [if_neg y3, if_neg y3]
  by_cases y4 : a = 4
  · rw [if_pos y4, if_pos y4]; exact ⟨_, rfl, rfl⟩
  rw [if_neg y4, if_neg y4]
  by_cases y5 : a = 5
  · rw [if_pos y5, if_pos y5]; exact ⟨_, rfl, rfl⟩
  rw [if_neg y5, if_neg y5]
  by_cases y6 : a = 6
  · rw [if_pos y6, if_pos y6]; exact ⟨_, rfl, rfl⟩
  rw [if_neg y6, if_neg y6]
  by_cases y7 : a = 7
  · rw [if_pos y7, if_pos y7]; exact ⟨_, rfl, rfl⟩
  rw [if_neg y7, if_neg y7]
  by_cases y8 : a = 8
  · rw [if_pos y8, if_pos y8, y8]; exact ⟨_, rfl, by rw [in_eq, bn_some, if_neg (by decide), show (8 : Int32) - 8 = 0 from rfl, m0, c_0, c0]⟩
  rw [if_neg y8, if_neg y8]
  by_cases y9 : a = 9
  · rw [if_pos y9, if_pos y9, y9]; exact ⟨_, rfl, by rw [in_eq, bn_some, if_neg (by decide), show (9 : Int32) - 8 = 1 from rfl, m1, c_1, c1]⟩
  rw [if_neg y9, if_neg y9]
  by_cases y10 : a = 10
  · rw [if_pos y10, if_pos y10, y10]; exact ⟨_, rfl, by rw [in_eq, bn_some, if_neg (by decide), show (10 : Int32) - 8 = 2 from rfl, m2, c_2, c2]⟩
  rw [if_neg y10, if_neg y10]
  by_cases y11 : a = 11
  · rw [if_pos y11, if_pos y11, y11]; exact ⟨_, rfl, by rw [in_eq, bn_some, if_neg (by decide), show (11 : Int32) - 8 = 3 from rfl, m3, c_3, c3]⟩
  rw [if_neg y11, if_neg y11]
  by_cases y12 : a = 12
  · rw [if_pos y12, if_pos y12]; exact ⟨_, rfl, rfl⟩
  rw [if_neg y12, if_neg y12]
  by_cases y13 : a = 13
  · rw [if_pos y13, if_pos y13]; exact ⟨_, rfl, rfl⟩
  rw [if_neg y13, if_neg y13]
  refine ⟨_, rfl, ?_⟩
  have hx : bI (8 ≤ a ∧ a ≤ 11) = 0 := if_neg (fun z => by
    obtain ⟨j, hj, e⟩ := nI_of2 (x := a) (M := 11) (n := 11) rfl (Int32.not_lt.mpr (Int32.le_trans (by decide) z.1)) z.2
    rw [e] at z y8 y9 y10 y11
    have h8 : 8 ≤ j := (nI_leI (a := 8) (by decide) (by omega)).mp z.1
    rcases (show j = 8 ∨ j = 9 ∨ j = 10 ∨ j = 11 by omega) with rfl | rfl | rfl | rfl
    · exact y8 rfl
    · exact y9 rfl
    · exact y10 rfl
    · exact y11 rfl)
  rw [in_eq, bn_some, if_pos hx]
