/-! the reference's things -/
theorem its_eq {S : Nat → Int32} {i k : Nat} (hi : i < 8) (hk : k < 9) : f_X8_its S (nI i) (nI k) = some (S (9 + 9 * i + k)) := by
  unfold f_X8_its
  have e : (9 + 9 * nI i) + nI k = nI (9 + 9 * i + k) := by
    rw [show (9 : Int32) = nI 9 from rfl, pk_mul, nI_add, nI_add]
  rw [e, gd_ok (vp_in_nI (by omega) (by decide)), nI_clamp (by omega)]
/-- thing i of the class is thing i of the reference -/
def ThR (i : Nat) (ln hi wi br sp si le un ul S : Nat → Int32) : Prop :=
  S (9 + 9 * i + 0) = ln i ∧ S (9 + 9 * i + 1) = le i ∧ S (9 + 9 * i + 2) = hi i ∧ S (9 + 9 * i + 3) = wi i ∧ S (9 + 9 * i + 4) = br i ∧ S (9 + 9 * i + 5) = sp i ∧ S (9 + 9 * i + 6) = si i ∧ (un i = -6 → S (9 + 9 * i + 7) = -1 ∧ ul i = 0) ∧ (∀ j : Nat, j < 8 → un i = nI j → S (9 + 9 * i + 7) = nI j ∧ S (9 + 9 * i + 8) = ul i)
theorem fin_m (v a b : Int32) (q z : Int) : v + (a + iI q) - b + iI z = v + iI (a.toInt + q - b.toInt + z) := by
  have hv := iI_as v; generalize v.toInt = V at hv; subst hv
  have ha := iI_as a; generalize a.toInt = A at ha ⊢; subst ha
  have hb := iI_as b; generalize b.toInt = B at hb ⊢; subst hb
  rw [iI_add, iI_add, iI_sub, iI_add, iI_add]; congr 1; omega
theorem left_loopm {sp si le un ul ln hi wi br S : Nat → Int32} {n : Nat} {t : Int} (hT : ThOK n sp si un) (hR : ∀ i, i < n → ThR i ln hi wi br sp si le un ul S) (h1 : -20000 ≤ t) (h2 : t ≤ 20000) : ∀ (i k N : Nat) (v : Int32), i < n → i < k → i + 1 < N → f_X8_left_L5 S (iI t) (fun (w17 : Int32) (w18 : Int32) => some (w17)) N v (nI i) = some (v + iI (lpI sp si le un ul k i t)) := by
  intro i
  induction i using Nat.strongRecOn with
  | ind i ih =>
    intro k N v hi hk hN
    obtain ⟨k, rfl⟩ : ∃ z, k = z + 1 := ⟨k - 1, by omega⟩
    obtain ⟨N, rfl⟩ : ∃ z, N = z + 1 := ⟨N - 1, by omega⟩
    obtain ⟨hn8, hth⟩ := id hT
    obtain ⟨⟨a1, a2⟩, ⟨a3, a4⟩, hu⟩ := hth i hi
    obtain ⟨r0, r1, r2, r3, r4, r5, r6, r7, r8⟩ := hR i hi
    have hb := mul_bd a1 a2 (b := t - (si i).toInt) (by omega) (by omega)
    have i8 : i < 8 := by omega
    have e1 : f_X8_its S (nI i) 1 = some (le i) := by rw [← r1]; exact its_eq i8 (by decide)
    have e5 : f_X8_its S (nI i) 5 = some (sp i) := by rw [← r5]; exact its_eq i8 (by decide)
    have e6 : f_X8_its S (nI i) 6 = some (si i) := by rw [← r6]; exact its_eq i8 (by decide)
    have e7 : f_X8_its S (nI i) 7 = some (S (9 + 9 * i + 7)) := its_eq i8 (by decide)
    have e8 : f_X8_its S (nI i) 8 = some (S (9 + 9 * i + 8)) := its_eq i8 (by decide)
    have ht : f_X8_tenth (sp i * (iI t - si i)) = some (iI ((sp i).toInt * (t - (si i).toInt) / 10)) := by
      rw [← iI_as (si i), iI_sub, ← iI_as (sp i), iI_mul, iI_as, iI_as, tenth_eq (by omega) (by omega)]
    have fin : ∀ z : Int, v + (le i + iI ((sp i).toInt * (t - (si i).toInt) / 10)) - ul i + iI z = v + iI ((le i).toInt + (sp i).toInt * (t - (si i).toInt) / 10 - (ul i).toInt + z) := fun z => fin_m _ _ _ _ _
    rw [f_X8_left_L5_s, if_neg (nI_pos (by omega)), e1, bn_some, e5, bn_some, e6, bn_some, ht, bn_some, bd_eq, e7, bn_some, jn_eq]
    rcases hu with hu | ⟨j, hj, hu⟩
    · obtain ⟨g1, g2⟩ := r7 hu
      rw [g1, if_pos (by decide)]
      simp only [bd_eq, bn_some]
      obtain ⟨N, rfl⟩ : ∃ z, N = z + 1 := ⟨N - 1, by omega⟩
      rw [f_X8_left_L5_s, if_pos (by decide), lpI, if_pos (show un i < 0 by rw [hu]; decide)]
      have e0 := fin 0
      rw [show iI 0 = 0 from rfl, Int32.add_zero] at e0
      rw [← e0, g2]
    · obtain ⟨g1, g2⟩ := r8 j (by omega) hu
      rw [g1, if_neg (nI_pos (by omega)), e8]
      simp only [bd_eq, bn_some]
      rw [g2, lpI, if_neg (show ¬ un i < 0 by rw [hu]; exact nI_pos (by omega)), hu, nI_clamp (show j < 2 ^ 31 by omega)]
      rw [ih j hj k N _ (by omega) (by omega) (by omega), fin]
theorem left_m {sp si le un ul ln hi wi br S : Nat → Int32} {n : Nat} {t : Int} (hT : ThOK n sp si un) (hR : ∀ i, i < n → ThR i ln hi wi br sp si le un ul S) (h1 : -20000 ≤ t) (h2 : t ≤ 20000) {i : Nat} (hi : i < n) : f_X8_left S (nI i) (iI t) = some (iI (lpI sp si le un ul 8 i t)) := by
  have hn8 := hT.1
  unfold f_X8_left
  rw [left_loopm hT hR h1 h2 i 8 4000 0 hi (by omega) (by omega), Int32.zero_add]
/-! the light -/
def FlR (ft fk z : Int32) : Prop := (ft = -6 ∧ fk = 0 ∧ z = -1) ∨ ∃ q d : Nat, q ≤ 20000 ∧ 1 ≤ d ∧ d ≤ 20 ∧ ft = nI q ∧ z = nI q ∧ fk = nI d
theorem c_0 : (0 : Int32).toNatClampNeg = 0 := rfl
theorem light_eq {se : Nat → Int32} {ft fk : Int32} {S : Nat → Int32} {a : Int32} (h2 : S 2 = se 2) (h8 : S 8 = fk) (hF : FlR ft fk (S 7)) (ha : 0 ≤ a) : f_X8_light S a = f_X5_lightAt se ft fk a := by
  unfold f_X8_light f_X5_lightAt
  have hg : ∀ k : Nat, k < 465 → ∀ x : Int32, x = nI k → vp_in x 465 := fun k hk x e => by rw [e]; exact vp_in_nI hk (by decide)
  have hb : f_X8_burns S a = f_X7_within a ft ((ft + fk) - 1) := by
    unfold f_X8_burns
    rw [gd_ok (hg 7 (by decide) 7 rfl)]
    rw [show ((7 : Int32).toNatClampNeg) = 7 from rfl, show ((8 : Int32).toNatClampNeg) = 8 from rfl]
    rcases hF with ⟨f1, f2, f3⟩ | ⟨q, d, q1, q2, q3, f1, f3, f2⟩
    · rw [f3, if_pos (by decide), wi_eq, f1, f2]
      unfold bI
      rw [if_neg (fun z => absurd (Int32.le_trans ha z.2) (by decide))]
    · rw [f3, if_neg (nI_pos (by omega)), gd_ok (hg 7 (by decide) 7 rfl), gd_ok (hg 7 (by decide) 7 rfl), gd_ok (hg 8 (by decide) 8 rfl), h8, in_eq, wi_eq, f1, bn_some]
      rcases bI_01 (nI q ≤ a ∧ a ≤ nI q + fk - 1) with e | e
      · rw [e, if_pos rfl]
      · rw [e, if_neg (by decide)]
  have i2 : (2 : Int32).toNatClampNeg = 2 := rfl
  rw [hb, wi_eq]
  simp only [bd_eq, bn_some, jn_eq, i2, h2, gd_ok (hg 2 (by decide) 2 rfl), gd_ok (show vp_in 2 4 from vp_in_nI (n := 2) (by decide) (by decide))]
  by_cases hw : bI (ft ≤ a ∧ a ≤ ft + fk - 1) = 0
  · rw [if_pos hw, if_pos hw]
    by_cases h0 : se 2 ≤ 0
    · rw [if_pos h0, if_pos h0, if_pos trivial]
    · rw [if_neg h0, if_neg h0]
      have hz : ¬ se 2 = 0 := fun z => h0 (by rw [z]; decide)
      rw [gz_ok hz, gz_ok hz]
      by_cases hr : (a - a / se 2 * se 2) < (se 2 / 2)
      · rw [if_pos hr, if_pos hr, if_pos trivial]
      · rw [if_neg hr, if_neg hr, if_neg (by decide)]
  · rw [if_neg hw, if_neg hw]
