/-! the class: a line is exposed by sums of rises -/
theorem fill24 (r0 : Nat → Int32) : ∃ r, f_J7_fill_53178 r0 0 = some r ∧ ∀ j, j < 24 → r j = 0 := by
  obtain ⟨w, e, hw⟩ := loopI (fun N v i => f_J7_fill_53178_L5 0 (fun (w7 : Int32) (w8 : Nat → Int32) => some w8) N (nI i) v) 24 (fun v => some v) (fun i v => ∀ j, j < i → v j = 0) (fun N v h => by
    rw [f_J7_fill_53178_L5_s, if_pos (by decide)]) (fun N v i hi h => by
    refine ⟨upd v i 0, ?_, fun j hj => ?_⟩
    · rw [f_J7_fill_53178_L5_s, if_neg (show ¬ (24 : Int32) ≤ nI i from nI_ge hi (by decide)), gd_ok (vp_in_nI hi (by decide)), bd_eq, nI_clamp (by omega), nI_1]
    · by_cases q : j = i
      · rw [q, upd_at]
      · rw [upd_ne _ q]; exact h j (by omega)) 24 0 4000 r0 rfl (by decide) (fun j h => absurd h (by omega))
  exact ⟨w, e, hw⟩
theorem fill25 (r0 : Nat → Int32) : ∃ r, f_J7_fill_53178_25 r0 0 = some r ∧ ∀ j, j < 25 → r j = 0 := by
  obtain ⟨w, e, hw⟩ := loopI (fun N v i => f_J7_fill_53178_25_L5 0 (fun (w7 : Int32) (w8 : Nat → Int32) => some w8) N (nI i) v) 25 (fun v => some v) (fun i v => ∀ j, j < i → v j = 0) (fun N v h => by
    rw [f_J7_fill_53178_25_L5_s, if_pos (by decide)]) (fun N v i hi h => by
    refine ⟨upd v i 0, ?_, fun j hj => ?_⟩
    · rw [f_J7_fill_53178_25_L5_s, if_neg (show ¬ (25 : Int32) ≤ nI i from nI_ge hi (by decide)), gd_ok (vp_in_nI hi (by decide)), bd_eq, nI_clamp (by omega), nI_1]
    · by_cases q : j = i
      · rw [q, upd_at]
      · rw [upd_ne _ q]; exact h j (by omega)) 25 0 4000 r0 rfl (by decide) (fun j h => absurd h (by omega))
  exact ⟨w, e, hw⟩
theorem su_upd (r : Nat → Int32) (e : Nat) (x : Int32) : ∀ c : Nat, su (c + 1) (upd r e (r e + x)) = su (c + 1) r + (if e ≤ c then x else 0) := by
  intro c
  induction c with
  | zero =>
    rw [su, su, su, su]
    by_cases h : e = 0
    · rw [h, upd_at, if_pos (Nat.le_refl 0), Int32.add_assoc]
    · rw [upd_ne _ (fun z => h z.symm), if_neg (by omega), Int32.add_zero]
  | succ c ih =>
    show su (c + 1) (upd r e (r e + x)) + upd r e (r e + x) (c + 1) = su (c + 1) r + r (c + 1) + _
    rw [ih]
    by_cases h : e = c + 1
    · rw [h, upd_at, if_neg (by omega), if_pos (Nat.le_refl _), Int32.add_zero, Int32.add_assoc]
    · rw [upd_ne _ (fun z => h z.symm)]
      by_cases h2 : e ≤ c
      · rw [if_pos h2, if_pos (by omega), Int32.add_assoc, Int32.add_assoc, Int32.add_comm x]
      · rw [if_neg h2, if_neg (by omega), Int32.add_zero, Int32.add_zero]
theorem edge_eq {z : Int} (h1 : -2000000 ≤ z) (h2 : z ≤ 2000000) : ∃ e : Nat, e < 25 ∧ f_X0_nearestEdge (iI z) = some (nI e) ∧ ∀ c : Nat, c < 24 → (e ≤ c ↔ z ≤ c) := by
  unfold f_X0_nearestEdge
  simp only [bd_eq]
  have q : ∀ a b : Int, -2000000 ≤ a → a ≤ 2000000 → -2000000 ≤ b → b ≤ 2000000 → (iI a < iI b ↔ a < b) := fun a b a1 a2 b1 b2 => iI_lt (by omega) (by omega) (by omega) (by omega)
  by_cases ha : z < 24
  · rw [if_pos (show iI z < (24 : Int32) from (q z 24 h1 h2 (by decide) (by decide)).mpr ha)]
    by_cases hb : 0 < z
    · rw [if_pos (show (0 : Int32) < iI z from (q 0 z (by decide) (by decide) h1 h2).mpr hb)]
      obtain ⟨e, rfl⟩ := Int.eq_ofNat_of_zero_le (Int.le_of_lt hb)
      exact ⟨e, by omega, by rw [iI_nat], fun c hc => by omega⟩
    · rw [if_neg (show ¬ (0 : Int32) < iI z from fun y => hb ((q 0 z (by decide) (by decide) h1 h2).mp y))]
      exact ⟨0, by omega, rfl, fun c hc => by omega⟩
  · rw [if_neg (show ¬ iI z < (24 : Int32) from fun y => ha ((q z 24 h1 h2 (by decide) (by decide)).mp y)), if_pos (by decide)]
    exact ⟨24, by omega, rfl, fun c hc => by omega⟩
theorem rise_1 (b : Int32) {e1 e2 c : Nat} {z w : Int} (hw : 1 ≤ w) (h1 : e1 ≤ c ↔ z ≤ c) (h2 : e2 ≤ c ↔ z + w ≤ c) : (if e1 ≤ c then b else 0) + (if e2 ≤ c then -b else 0) = if z ≤ c ∧ c ≤ z + w - 1 then b else 0 := by
  by_cases a1 : z ≤ c
  · rw [if_pos (h1.mpr a1)]
    by_cases a2 : z + w ≤ c
    · rw [if_pos (h2.mpr a2), if_neg (by omega), ← Int32.sub_eq_add_neg, Int32.sub_self]
    · rw [if_neg (fun y => a2 (h2.mp y)), if_pos (by omega), Int32.add_zero]
  · rw [if_neg (fun y => a1 (h1.mp y)), if_neg (fun y => a1 (by have := h2.mp y; omega)), if_neg (fun y => a1 y.1), Int32.add_zero]
theorem rises_c {n T : Nat} {mn : Int32} {ln hi wi br sp si le un ul : Nat → Int32} (ris : Nat → Int32) (hn : mn = nI n) (hT : ThOK n sp si un) (hB : PosB n (T : Int) sp si le un ul) (hW : ∀ i, i < n → ∃ z : Nat, 1 ≤ z ∧ z ≤ 24 ∧ wi i = nI z) {l t : Nat} (htT : T ≤ t) (ht : t ≤ 20000) : ∃ r, f_X0_findRises ris mn ln hi wi br sp si le un ul (nI l) (nI t) = some r ∧ ∀ c, c < 24 → su (c + 1) r = bs ln hi wi br (LL sp si le un ul) n l c t := by
  have n8 := hT.1
  obtain ⟨r1, f1, f2⟩ := fill25 ris
  unfold f_X0_findRises
  rw [f1, bn_some]
  have hBt := hB.later hT (t := (t : Int)) (by omega)
  obtain ⟨w, e, hw⟩ := loopI (fun N v i => f_X0_findRises_L11 mn ln hi wi br sp si le un ul (nI l) (nI t) (fun (w15 : Int32) (w16 : Nat → Int32) => some w16) N (nI i) v) n (fun v => some v) (fun k v => ∀ c, c < 24 → su (c + 1) v = bs ln hi wi br (LL sp si le un ul) k l c t) (fun N v h => by
    rw [f_X0_findRises_L11_s, hn, if_pos (Int32.le_refl _)]) (fun N v i hi_ h => by
    have i8 : vp_in (nI i) 8 := vp_in_nI (by omega) (by decide)
    have hc : (nI i).toNatClampNeg = i := nI_clamp (by omega)
    have el : f_X6_isInLine ln hi (nI i) (nI l) = some (bI (inl ln hi i l)) := by
      unfold f_X6_isInLine
      rw [gd_ok i8, gd_ok i8, gd_ok i8, hc, wi_eq, bn_some, gb_ok (bI_01 _)]
    by_cases hin : inl ln hi i l
    · obtain ⟨W, w1, w2, w3⟩ := hW i hi_
      have hp := hBt i hi_
      obtain ⟨e1, a1, a2, a3⟩ := edge_eq (z := lpI sp si le un ul 8 i t) (by omega) (by omega)
      obtain ⟨e2, b1, b2, b3⟩ := edge_eq (z := lpI sp si le un ul 8 i t + W) (by omega) (by omega)
      refine ⟨upd (upd v e1 (v e1 + br i)) e2 ((upd v e1 (v e1 + br i)) e2 - br i), ?_, fun c hc => ?_⟩
      · rw [f_X0_findRises_L11_s, hn, if_neg (nI_ge hi_ (by omega)), el, bn_some, if_neg (fun z => (bI_0 _).mp z hin), ← hn, ← iI_nat t, left_x hn hT (by omega) (by omega) hi_, bn_some, a2, bn_some, hc, w3, ← iI_nat W, iI_add, b2]
        have g1 : vp_in (nI e1) 25 := vp_in_nI a1 (by decide)
        have g2 : vp_in (nI e2) 25 := vp_in_nI b1 (by decide)
        have d1 : (nI e1).toNatClampNeg = e1 := nI_clamp (by omega)
        have d2 : (nI e2).toNatClampNeg = e2 := nI_clamp (by omega)
        simp only [gd_ok g1, gd_ok g2, gd_ok i8, bn_some, bd_eq, d1, d2, nI_1]
      · rw [Int32.sub_eq_add_neg, su_upd, su_upd, h c hc, bs, bs, su, Int32.add_assoc, rise_1 (br i) (z := lpI sp si le un ul 8 i t) (w := W) (by omega) (a3 c hc) (b3 c hc)]
        unfold cv
        rw [if_pos hin]
        have hq : inc (LL sp si le un ul) wi i c t ↔ (lpI sp si le un ul 8 i t ≤ c ∧ (c : Int) ≤ lpI sp si le un ul 8 i t + W - 1) := by
          unfold inc LL
          rw [w3, ← iI_nat c, ← iI_nat W, iI_add, show (1 : Int32) = iI 1 from rfl, iI_sub, iI_le (by omega) (by omega) (by omega) (by omega), iI_le (by omega) (by omega) (by omega) (by omega)]
        by_cases hz : inc (LL sp si le un ul) wi i c t
        · rw [if_pos hz, if_pos (hq.mp hz)]
        · rw [if_neg hz, if_neg (fun y => hz (hq.mpr y))]
    · refine ⟨v, ?_, fun c hc => ?_⟩
      · rw [f_X0_findRises_L11_s, hn, if_neg (nI_ge hi_ (by omega)), el, bn_some, if_pos ((bI_0 _).mpr hin), bd_eq, nI_1]
      · rw [h c hc, bs, bs, su]
        unfold cv
        rw [if_neg hin, Int32.add_zero]) n 0 4000 r1 (by omega) (by omega) (fun c hc => by
    show su (c + 1) r1 = 0
    obtain ⟨z, z1, z2⟩ := su_bd (n := c + 1) (B := 0) (g := r1) (fun i hi => ⟨0, Nat.le_refl 0, f2 i (by omega)⟩)
    obtain rfl : z = 0 := by omega
    exact z2)
  exact ⟨w, e, hw⟩
theorem addl_c (ris row : Nat → Int32) (a : Int32) : ∃ r, f_X0_addLight ris row a = some r ∧ ∀ c, c < 24 → r c = row c + m30 (su (c + 1) ris) * a := by
  unfold f_X0_addLight
  obtain ⟨w, e, hw⟩ := loopI (fun N (v : Int32 × (Nat → Int32)) i => f_X0_addLight_L5 ris a (fun (w11 : Int32) (w12 : Int32) (w13 : Nat → Int32) => some w13) N v.1 (nI i) v.2) 24 (fun v => some v.2) (fun i v => v.1 = su i ris ∧ (∀ c, c < i → v.2 c = row c + m30 (su (c + 1) ris) * a) ∧ ∀ c, i ≤ c → v.2 c = row c) (fun N v h => by
    rw [f_X0_addLight_L5_s, if_pos (by decide)]) (fun N v i hi h => by
    obtain ⟨h1, h2, h3⟩ := h
    refine ⟨(v.1 + ris i, upd v.2 i (v.2 i + m30 (v.1 + ris i) * a)), ?_, by rw [h1, su], fun c hc => ?_, fun c hc => by
      show upd v.2 i _ c = _
      rw [upd_ne _ (by omega)]; exact h3 c (by omega)⟩
    · have hm : (if v.1 + ris i < 30 then v.1 + ris i else 30) = m30 (v.1 + ris i) := by
        unfold m30
        by_cases q : v.1 + ris i < 30
        · rw [if_pos q, if_neg (Int32.not_le.mpr q)]
        · rw [if_neg q, if_pos (Int32.not_lt.mp q)]
      rw [f_X0_addLight_L5_s, if_neg (show ¬ (24 : Int32) ≤ nI i from nI_ge hi (by decide)), gd_ok (vp_in_nI (by omega) (by decide))]
      have g : vp_in (nI i) 24 := vp_in_nI hi (by decide)
      have hc : (nI i).toNatClampNeg = i := nI_clamp (by omega)
      simp only [bd_eq, gd_ok g, hc, nI_1, hm]
    · show upd v.2 i _ c = _
      by_cases q : c = i
      · rw [q, upd_at, h3 i (Nat.le_refl i), h1, su]
      · rw [upd_ne _ q]; exact h2 c (by omega)) 24 0 4000 (0, row) rfl (by decide) ⟨rfl, fun c hc => absurd hc (by omega), fun c hc => rfl⟩
  exact ⟨w.2, e, hw.2.1⟩
