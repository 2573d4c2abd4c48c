theorem m30_nn (x : Int32) (h : 0 ≤ x) : ∃ z : Nat, z ≤ 30 ∧ m30 x = nI z := by
  unfold m30
  by_cases q : 30 ≤ x
  · rw [if_pos q]; exact ⟨30, Nat.le_refl _, rfl⟩
  · rw [if_neg q]
    obtain ⟨j, hj, e⟩ := nI_of2 (M := 30) (n := 30) rfl (Int32.not_lt.mpr h) (Int32.le_of_lt (Int32.not_le.mp q))
    exact ⟨j, hj, e⟩
theorem li_nn (se : Nat → Int32) (ft fk a : Int32) : ∃ z : Nat, z ≤ 3 ∧ li se ft fk a = nI z := by
  unfold li
  split
  · exact ⟨3, by omega, rfl⟩
  · split
    · exact ⟨1, by omega, rfl⟩
    · split
      · exact ⟨1, by omega, rfl⟩
      · exact ⟨0, by omega, rfl⟩
theorem bs_nn {n : Nat} {ln hi wi br : Nat → Int32} {L : Nat → Nat → Int} {l c t : Nat} (hb : ∀ i, i < n → ∃ z : Nat, 1 ≤ z ∧ z ≤ 9 ∧ br i = nI z) (n8 : n ≤ 8) : 0 ≤ bs ln hi wi br L n l c t := by
  obtain ⟨z, z1, z2⟩ := su_bd (n := n) (B := 9) (g := cv ln hi wi br L l c t) (fun i hi => by
    obtain ⟨z, -, z1, z2⟩ := hb i hi
    unfold cv
    split
    · split
      · exact ⟨z, z1, z2⟩
      · exact ⟨0, by omega, rfl⟩
    · exact ⟨0, by omega, rfl⟩)
  unfold bs
  rw [z2]; exact nI_pos' (by omega)
theorem seI_nn {n : Nat} {se ln hi wi br : Nat → Int32} {L : Nat → Nat → Int} {ft fk : Int32} {l c t : Nat} (hb : ∀ i, i < n → ∃ z : Nat, 1 ≤ z ∧ z ≤ 9 ∧ br i = nI z) (n8 : n ≤ 8) : ∃ z : Nat, z ≤ 90 ∧ seI se ln hi wi br L ft fk n l c t = nI z := by
  unfold seI
  obtain ⟨a, a1, a2⟩ := m30_nn _ (bs_nn (ln := ln) (hi := hi) (wi := wi) (L := L) (l := l) (c := c) (t := t) hb n8)
  obtain ⟨b, b1, b2⟩ := li_nn se ft fk (nI t)
  rw [a2, b2, pk_mul]
  exact ⟨a * b, Nat.le_trans (Nat.mul_le_mul a1 b1) (by decide), rfl⟩
/-- exposed in d ticks from a time on -/
def exI (se ln hi wi br : Nat → Int32) (L : Nat → Nat → Int) (ft fk : Int32) (n l c fr d : Nat) : Int32 := su d (fun j => seI se ln hi wi br L ft fk n l c (fr + j))
theorem exI_nn {n : Nat} {se ln hi wi br : Nat → Int32} {L : Nat → Nat → Int} {ft fk : Int32} {l c fr d : Nat} (hb : ∀ i, i < n → ∃ z : Nat, 1 ≤ z ∧ z ≤ 9 ∧ br i = nI z) (n8 : n ≤ 8) (hd : d ≤ 20) : 0 ≤ exI se ln hi wi br L ft fk n l c fr d := by
  obtain ⟨z, z1, z2⟩ := su_bd (n := d) (B := 90) (g := fun j => seI se ln hi wi br L ft fk n l c (fr + j)) (fun i hi => seI_nn hb n8)
  unfold exI
  rw [z2]; exact nI_pos' (by omega)
theorem expose_c {n T : Nat} {mn ft fk : Int32} {se ln hi wi br sp si le un ul : Nat → Int32} (ris row : Nat → Int32) (hn : mn = nI n) (hT : ThOK n sp si un) (hB : PosB n (T : Int) sp si le un ul) (hW : ∀ i, i < n → ∃ z : Nat, 1 ≤ z ∧ z ≤ 24 ∧ wi i = nI z) {l fr d : Nat} (htT : T ≤ fr) (ht : fr + d ≤ 20000) (hd : d ≤ 20) : ∃ r, f_X0_exposeLine ris se mn ln hi wi br sp si le un ul ft fk row (nI l) (nI fr) (nI d) = some r ∧ ∀ c, c < 24 → r.2 c = exI se ln hi wi br (LL sp si le un ul) ft fk n l c fr d := by
  unfold f_X0_exposeLine
  obtain ⟨r1, f1, f2⟩ := fill24 row
  rw [f1, bn_some]
  obtain ⟨w, e, hw⟩ := loopI (fun N (v : (Nat → Int32) × (Nat → Int32)) i => f_X0_exposeLine_L9 se mn ln hi wi br sp si le un ul ft fk (nI l) (nI fr) (nI d) (fun (w15 : Int32) (w16 : Nat → Int32) (w17 : Nat → Int32) => some (w16, w17)) N (nI (fr + i)) v.1 v.2) d (fun v => some v) (fun i v => ∀ c, c < 24 → v.2 c = exI se ln hi wi br (LL sp si le un ul) ft fk n l c fr i) (fun N v h => by
    rw [f_X0_exposeLine_L9_s, nI_add, if_pos (Int32.le_refl _)]) (fun N v i hi_ h => by
    by_cases h0 : li se ft fk (nI (fr + i)) = 0
    · refine ⟨v, ?_, fun c hc => ?_⟩
      · rw [f_X0_exposeLine_L9_s, nI_add, if_neg (nI_ge (by omega) (by omega)), light_c, bn_some, if_pos h0, bd_eq, nI_1]; rfl
      · rw [h c hc, exI, exI, su]
        show _ = _ + m30 _ * _
        rw [h0, Int32.mul_zero, Int32.add_zero]
    · obtain ⟨rs, g1, g2⟩ := rises_c (br := br) (ln := ln) (hi := hi) (l := l) (t := fr + i) v.1 hn hT hB hW (by omega) (by omega)
      obtain ⟨rw_, k1, k2⟩ := addl_c rs v.2 (li se ft fk (nI (fr + i)))
      refine ⟨(rs, rw_), ?_, fun c hc => ?_⟩
      · rw [f_X0_exposeLine_L9_s, nI_add, if_neg (nI_ge (by omega) (by omega)), light_c, bn_some, if_neg h0, g1, bn_some, k1, bn_some, bd_eq, nI_1]; rfl
      · show rw_ c = _
        rw [k2 c hc, h c hc, g2 c hc, exI, exI, su]
        rfl) d 0 4000 (ris, r1) (by omega) (by omega) (fun c hc => f2 c hc)
  exact ⟨w, e, hw⟩
theorem exposed_m {n d : Nat} {se ln hi wi br sp si le un ul S : Nat → Int32} {ft fk : Int32} (hT : ThOK n sp si un) (hR : ∀ i, i < n → ThR i ln hi wi br sp si le un ul S) (h5 : S 5 = nI n) (h1 : S 1 = nI d) (hd : d ≤ 20) (h2 : S 2 = se 2) (h8 : S 8 = fk) (hF : FlR ft fk (S 7)) {l c fr : Nat} (ht : fr + d ≤ 20000) : f_X8_exposed S (nI l) (nI c) (nI fr) = some (exI se ln hi wi br (LL sp si le un ul) ft fk n l c fr d) := by
  unfold f_X8_exposed
  obtain ⟨w, e, hw⟩ := loopI (fun N v i => f_X8_exposed_L6 S (nI l) (nI c) (nI fr) (fun (w9 : Int32) (w10 : Int32) => some (w9)) N v (nI i)) d (fun v => some v) (fun i v => v = exI se ln hi wi br (LL sp si le un ul) ft fk n l c fr i) (fun N v h => by
    rw [f_X8_exposed_L6_s, m1, c_1, h1, if_pos (Int32.le_refl _)]) (fun N v i hi_ h => by
    refine ⟨_, ?_, rfl⟩
    rw [f_X8_exposed_L6_s, m1, c_1, h1, if_neg (nI_ge hi_ (by omega)), nI_add, seen_m hT hR h5 h2 h8 hF (by omega), bn_some, bd_eq, bd_eq, nI_1, h]
    rfl) d 0 4000 0 (by omega) (by omega) rfl
  rw [hw] at e
  exact e
