/-! what is seen of a line, in a column, at a time -/
theorem c_1 : (1 : Int32).toNatClampNeg = 1 := rfl
theorem c_2 : (2 : Int32).toNatClampNeg = 2 := rfl
theorem c_3 : (3 : Int32).toNatClampNeg = 3 := rfl
theorem c_4 : (4 : Int32).toNatClampNeg = 4 := rfl
theorem c_5 : (5 : Int32).toNatClampNeg = 5 := rfl
theorem c_6 : (6 : Int32).toNatClampNeg = 6 := rfl
theorem c_7 : (7 : Int32).toNatClampNeg = 7 := rfl
theorem c_8 : (8 : Int32).toNatClampNeg = 8 := rfl
theorem c_24 : (24 : Int32).toNatClampNeg = 24 := rfl
theorem c_384 : (384 : Int32).toNatClampNeg = 384 := rfl
theorem g04 {α : Type} (o : Option α) : gd 0 4 o = o := gd_ok (vp_in_nI (n := 0) (by decide) (by decide))
theorem g14 {α : Type} (o : Option α) : gd 1 4 o = o := gd_ok (vp_in_nI (n := 1) (by decide) (by decide))
theorem g24 {α : Type} (o : Option α) : gd 2 4 o = o := gd_ok (vp_in_nI (n := 2) (by decide) (by decide))
theorem g34 {α : Type} (o : Option α) : gd 3 4 o = o := gd_ok (vp_in_nI (n := 3) (by decide) (by decide))
theorem m0 {α : Type} (o : Option α) : gd 0 465 o = o := gd_ok (vp_in_nI (n := 0) (by decide) (by decide))
theorem m1 {α : Type} (o : Option α) : gd 1 465 o = o := gd_ok (vp_in_nI (n := 1) (by decide) (by decide))
theorem m2 {α : Type} (o : Option α) : gd 2 465 o = o := gd_ok (vp_in_nI (n := 2) (by decide) (by decide))
theorem m3 {α : Type} (o : Option α) : gd 3 465 o = o := gd_ok (vp_in_nI (n := 3) (by decide) (by decide))
theorem m4 {α : Type} (o : Option α) : gd 4 465 o = o := gd_ok (vp_in_nI (n := 4) (by decide) (by decide))
theorem m5 {α : Type} (o : Option α) : gd 5 465 o = o := gd_ok (vp_in_nI (n := 5) (by decide) (by decide))
theorem m6 {α : Type} (o : Option α) : gd 6 465 o = o := gd_ok (vp_in_nI (n := 6) (by decide) (by decide))
theorem m7 {α : Type} (o : Option α) : gd 7 465 o = o := gd_ok (vp_in_nI (n := 7) (by decide) (by decide))
theorem m8 {α : Type} (o : Option α) : gd 8 465 o = o := gd_ok (vp_in_nI (n := 8) (by decide) (by decide))
theorem upd_at (f : Nat → Int32) (k : Nat) (x : Int32) : upd f k x k = x := if_pos rfl
theorem upd_ne {f : Nat → Int32} {k j : Nat} (x : Int32) (h : ¬ j = k) : upd f k x j = f j := if_neg h
theorem ThR.its {i : Nat} {ln hi wi br sp si le un ul S : Nat → Int32} (h : ThR i ln hi wi br sp si le un ul S) (i8 : i < 8) : f_X8_its S (nI i) 0 = some (ln i) ∧ f_X8_its S (nI i) 1 = some (le i) ∧ f_X8_its S (nI i) 2 = some (hi i) ∧ f_X8_its S (nI i) 3 = some (wi i) ∧ f_X8_its S (nI i) 4 = some (br i) ∧ f_X8_its S (nI i) 5 = some (sp i) ∧ f_X8_its S (nI i) 6 = some (si i) ∧ f_X8_its S (nI i) 7 = some (S (9 + 9 * i + 7)) := by
  obtain ⟨r0, r1, r2, r3, r4, r5, r6, r7, r8⟩ := h
  refine ⟨?_, ?_, ?_, ?_, ?_, ?_, ?_, its_eq i8 (by decide)⟩
  · rw [← r0]; exact its_eq i8 (by decide)
  · rw [← r1]; exact its_eq i8 (by decide)
  · rw [← r2]; exact its_eq i8 (by decide)
  · rw [← r3]; exact its_eq i8 (by decide)
  · rw [← r4]; exact its_eq i8 (by decide)
  · rw [← r5]; exact its_eq i8 (by decide)
  · rw [← r6]; exact its_eq i8 (by decide)
abbrev inl (ln hi : Nat → Int32) (k l : Nat) : Prop := ln k ≤ nI l ∧ nI l ≤ ln k + hi k - 1
abbrev inc (L : Nat → Nat → Int) (wi : Nat → Int32) (k c t : Nat) : Prop := iI (L k t) ≤ nI c ∧ nI c ≤ iI (L k t) + wi k - 1
def cv (ln hi wi br : Nat → Int32) (L : Nat → Nat → Int) (l c t k : Nat) : Int32 := if inl ln hi k l then (if inc L wi k c t then br k else 0) else 0
def bs (ln hi wi br : Nat → Int32) (L : Nat → Nat → Int) (n l c t : Nat) : Int32 := su n (cv ln hi wi br L l c t)
def m30 (x : Int32) : Int32 := if 30 ≤ x then 30 else x
def li (se : Nat → Int32) (ft fk a : Int32) : Int32 := if ft ≤ a ∧ a ≤ ft + fk - 1 then 3 else if se 2 ≤ 0 then 1 else if a - a / se 2 * se 2 < se 2 / 2 then 1 else 0
def seI (se ln hi wi br : Nat → Int32) (L : Nat → Nat → Int) (ft fk : Int32) (n l c t : Nat) : Int32 := m30 (bs ln hi wi br L n l c t) * li se ft fk (nI t)
abbrev LL (sp si le un ul : Nat → Int32) : Nat → Nat → Int := fun k t => lpI sp si le un ul 8 k (t : Int)
theorem light_c {se : Nat → Int32} {ft fk a : Int32} : f_X5_lightAt se ft fk a = some (li se ft fk a) := by
  unfold f_X5_lightAt li
  rw [wi_eq]
  simp only [bd_eq, bn_some, g24, c_2]
  by_cases h : ft ≤ a ∧ a ≤ ft + fk - 1
  · rw [if_pos h, if_neg (fun z => (bI_0 _).mp z h)]
  · rw [if_neg h, if_pos ((bI_0 _).mpr h)]
    by_cases h0 : se 2 ≤ 0
    · rw [if_pos h0, if_pos h0]
    · rw [if_neg h0, if_neg h0, gz_ok (fun z => h0 (by rw [z]; decide))]
      by_cases h1 : a - a / se 2 * se 2 < se 2 / 2
      · rw [if_pos h1, if_pos h1]
      · rw [if_neg h1, if_neg h1]
/-- the reference -/
theorem covers_m {n : Nat} {ln hi wi br sp si le un ul S : Nat → Int32} (hT : ThOK n sp si un) (hR : ∀ i, i < n → ThR i ln hi wi br sp si le un ul S) {k l c t : Nat} (hk : k < n) (ht : t ≤ 20000) : f_X8_covers S (nI k) (nI l) (nI c) (nI t) = some (if inl ln hi k l then bI (inc (LL sp si le un ul) wi k c t) else 0) := by
  obtain ⟨e0, e1, e2, e3, e4, e5, e6, e7⟩ := (hR k hk).its (by have := hT.1; omega)
  unfold f_X8_covers
  rw [e0, e2, e3]
  simp only [bn_some, in_eq]
  by_cases h : inl ln hi k l
  · rw [if_pos h, if_pos (fun z => (bI_0 _).mp z h), ← iI_nat t, left_m hT hR (by omega) (by omega) hk, bn_some, gb_ok (bI_01 _)]
  · rw [if_neg h, if_neg (fun z => z ((bI_0 _).mpr h))]
theorem seen_m {n : Nat} {se ln hi_1 wi br sp si le un ul S : Nat → Int32} {ft fk : Int32} (hT : ThOK n sp si un) (hR : ∀ i, i < n → ThR i ln hi_1 wi br sp si le un ul S) (h5 : S 5 = nI n) (h2 : S 2 = se 2) (h8 : S 8 = fk) (hF : FlR ft fk (S 7)) {l c t : Nat} (ht : t ≤ 20000) : f_X8_seenAt S (nI l) (nI c) (nI t) = some (seI se ln hi_1 wi br (LL sp si le un ul) ft fk n l c t) := by
  have n8 := hT.1
  unfold f_X8_seenAt
  obtain ⟨w, e, hw⟩ := loopI (fun N v i => f_X8_seenAt_L6 S (nI l) (nI c) (nI t) (fun (w12 : Int32) (w13 : Int32) => jn (fun (j14 : Int32) => bn (f_X8_light S (nI t)) (fun r15 => some (j14 * r15))) (fun j65 => (if 30 ≤ w12 then j65 30 else j65 w12))) N v (nI i)) n (fun w => some (m30 w * li se ft fk (nI t))) (fun i v => v = su i (cv ln hi_1 wi br (LL sp si le un ul) l c t)) (fun N v h => by
      rw [f_X8_seenAt_L6_s, m5, c_5, h5, if_pos (Int32.le_refl _)]
      simp only [jn_eq, light_eq h2 h8 hF (nI_pos' (n := t) (by omega)), light_c, bn_some]
      unfold m30
      by_cases h30 : 30 ≤ v
      · rw [if_pos h30, if_pos h30]
      · rw [if_neg h30, if_neg h30]) (fun N v i hi h => by
      refine ⟨v + cv ln hi_1 wi br (LL sp si le un ul) l c t i, ?_, by rw [h, su]⟩
      obtain ⟨e0, e1, e2, e3, e4, e5, e6, e7⟩ := (hR i hi).its (by omega)
      rw [f_X8_seenAt_L6_s, m5, c_5, h5, if_neg (nI_ge hi (by omega)), covers_m hT hR hi ht, e4, nI_1]
      simp only [jn_eq, bn_some, bd_eq]
      unfold cv
      by_cases ha : inl ln hi_1 i l
      · rw [if_pos ha, if_pos ha]
        by_cases hb : inc (LL sp si le un ul) wi i c t
        · rw [if_pos hb, if_neg (fun z => (bI_0 _).mp z hb)]
        · rw [if_neg hb, if_pos ((bI_0 _).mpr hb)]
      · rw [if_neg ha, if_neg ha, if_pos rfl]) n 0 4000 0 (by omega) (by omega) rfl
  rw [hw] at e
  exact e
