theorem nI_and {a b : Nat} (ha : a < 2 ^ 31) (hb : b < 2 ^ 31) : nI a &&& nI b = nI (Nat.land a b) := by
  apply Int32.toBitVec_inj.mp
  apply BitVec.eq_of_toNat_eq
  have h3 : Nat.land a b ≤ a := Nat.and_le_left
  rw [Int32.toBitVec_and, BitVec.toNat_and, pk_tn (by omega), pk_tn (by omega), pk_tn (by omega)]
  rfl
theorem land_r (a b : Nat) : Nat.land a b ≤ b := Nat.and_le_right
theorem land_l (a b : Nat) : Nat.land a b ≤ a := Nat.and_le_left
theorem bits_c {m : Nat} (h : m < 65536) : f_J6_bitCount_0f7a4 (nI m) = some (nI (bcN m)) := by
  unfold f_J6_bitCount_0f7a4 bcN
  have h1 := land_l (m / 2) 1431655765
  simp only [bd_eq]
  rw [pk_ushrN (n := m) (by omega) 1 1 (by decide), show (1431655765 : Int32) = nI 1431655765 from rfl, nI_and (by omega) (by decide), show m / 2 ^ 1 = m / 2 from rfl, nI_sub (by omega)]
  generalize hA : m - Nat.land (m / 2) 1431655765 = A
  have h2 := land_r A 858993459
  have h3 := land_r (A / 4) 858993459
  rw [pk_ushrN (n := A) (by omega) 2 2 (by decide), show (858993459 : Int32) = nI 858993459 from rfl, nI_and (by omega) (by decide), show A / 2 ^ 2 = A / 4 from rfl, nI_and (by omega) (by decide), nI_add]
  have h2' := land_l A 858993459
  have h3' := land_l (A / 4) 858993459
  generalize hB : Nat.land A 858993459 + Nat.land (A / 4) 858993459 = B
  rw [pk_ushrN (n := B) (by omega) 4 4 (by decide), show (252645135 : Int32) = nI 252645135 from rfl, show B / 2 ^ 4 = B / 16 from rfl, nI_add, nI_and (by omega) (by decide)]
  have h4 := land_r (B + B / 16) 252645135
  generalize hC : Nat.land (B + B / 16) 252645135 = C at *
  rw [pk_ushrN (n := C) (by omega) 8 8 (by decide), show C / 2 ^ 8 = C / 256 from rfl, nI_add]
  generalize hD : C + C / 256 = D
  rw [pk_ushrN (n := D) (by omega) 16 16 (by decide), show D / 2 ^ 16 = D / 65536 from rfl, nI_add, show (63 : Int32) = nI 63 from rfl, nI_and (by omega) (by decide)]
theorem sm_k : ∀ k : Nat, k < 16 → ((nI k &&& 31).toBitVec.smod 32).toNat = k := by decide
theorem ors_lt {n : Nat} {g : Nat → Int32} (h : ∀ i, i < n → (g i).toBitVec.toNat < 2 ^ 16) : (ors n g).toBitVec.toNat < 2 ^ 16 := by
  induction n with
  | zero => show (0 : Int32).toBitVec.toNat < 2 ^ 16; decide
  | succ n ih =>
    rw [ors_s, Int32.toBitVec_or, BitVec.toNat_or]
    exact Nat.or_lt_two_pow (ih (fun i hi => h i (by omega))) (h n (by omega))
theorem ors_nI {n : Nat} {g : Nat → Int32} (h : ∀ i, i < n → (g i).toBitVec.toNat < 2 ^ 16) : ∃ m : Nat, m < 65536 ∧ ors n g = nI m := by
  refine ⟨(ors n g).toBitVec.toNat, ors_lt h, ?_⟩
  apply Int32.toBitVec_inj.mp
  apply BitVec.eq_of_toNat_eq
  rw [pk_tn (by have := ors_lt h; omega)]
theorem bit_lt : ∀ i : Nat, i < 16 → ((1 : Int32) <<< (nI i &&& 31)).toBitVec.toNat < 2 ^ 16 := by decide
def fb (T z0 z1 q d l : Nat) : Int32 := if T + l * z0 < q + d ∧ q < T + l * z0 + z1 then 1 <<< (nI l &&& 31) else 0
theorem flash_c {T z0 z1 q d : Nat} {se : Nat → Int32} {tm : Int32} (ht : tm = nI T) (T9 : T ≤ 9999) (a0 : z0 ≤ 9) (a1 : z1 ≤ 20) (b0 : se 0 = nI z0) (b1 : se 1 = nI z1) (hq : q ≤ 20000) (hd : d ≤ 20) : f_X5_linesFlashed se tm (nI q) (nI d) = some (ors 16 (fb T z0 z1 q d)) := by
  unfold f_X5_linesFlashed
  obtain ⟨w, e, hw⟩ := loopI (fun N v i => f_X5_linesFlashed_L5 se tm (nI q) (nI d) (fun (w13 : Int32) (w14 : Int32) => some (w13)) N v (nI i)) 16 (fun v => some v) (fun i v => v = ors i (fb T z0 z1 q d)) (fun N v h => by
    rw [f_X5_linesFlashed_L5_s, if_pos (by decide)]) (fun N v i hi h => by
    refine ⟨_, ?_, rfl⟩
    have hz : i * z0 ≤ 15 * 9 := Nat.mul_le_mul (by omega) a0
    have hbeg : f_X5_beginOf se tm (nI i) = some (nI (T + i * z0)) := by
      unfold f_X5_beginOf
      rw [g04, c_0, b0, ht, pk_mul, nI_add]
    rw [f_X5_linesFlashed_L5_s, if_neg (show ¬ (16 : Int32) ≤ nI i from nI_ge hi (by decide)), hbeg, bn_some, nI_add, g14, c_1, b1, nI_add, h, ors_s i]
    simp only [bd_eq, nI_1]
    unfold fb
    by_cases y : q + d ≤ T + i * z0
    · rw [if_pos ((nI_leI (by omega) (by omega)).mpr y), if_neg (by omega), Int32.or_zero]
    · rw [if_neg (fun z => y ((nI_leI (by omega) (by omega)).mp z))]
      by_cases y2 : T + i * z0 + z1 ≤ q
      · rw [if_pos ((nI_leI (by omega) (by omega)).mpr y2), if_neg (by omega), Int32.or_zero]
      · rw [if_neg (fun z => y2 ((nI_leI (by omega) (by omega)).mp z)), if_pos ⟨by omega, by omega⟩]) 16 0 4000 0 rfl (by decide) rfl
  rw [hw] at e
  exact e
theorem in_cases1 {a : Int32} {m : Nat} (hm : m < 2 ^ 31) : (bI (1 ≤ a ∧ a ≤ nI m) = 1 ∧ ∃ i : Nat, 1 ≤ i ∧ i ≤ m ∧ a = nI i) ∨ bI (1 ≤ a ∧ a ≤ nI m) = 0 := by
  by_cases h : 1 ≤ a ∧ a ≤ nI m
  · obtain ⟨i, hi, e⟩ := nI_of2 (x := a) (M := nI m) (n := m) (nI_toInt hm) (Int32.not_lt.mpr (Int32.le_trans (by decide) h.1)) h.2
    refine Or.inl ⟨if_pos h, i, ?_, hi, e⟩
    rw [e] at h
    exact (nI_leI (a := 1) (by decide) (by omega)).mp h.1
  · exact Or.inr (if_neg h)
theorem upd_lt {f : Nat → Int32} {n i : Nat} (x : Int32) (h : i < n) : upd f n x i = f i := upd_ne x (by omega)
theorem ThOK.mono {n m : Nat} {sp si un : Nat → Int32} (h : ThOK n sp si un) (hm : m ≤ n) : ThOK m sp si un := ⟨by have := h.1; omega, fun i hi => h.2 i (by omega)⟩
theorem lpI_s (sp si le un ul : Nat → Int32) (k i : Nat) (t : Int) : lpI sp si le un ul (k + 1) i t = (le i).toInt + ((sp i).toInt * (t - (si i).toInt)) / 10 - (ul i).toInt + (if un i < 0 then 0 else lpI sp si le un ul k (un i).toNatClampNeg t) := rfl
theorem lp_anew {n i : Nat} {T s : Int} {sp si le un ul sp' si' le' un' ul' : Nat → Int32} (hT : ThOK n sp si un) (hT' : ThOK n sp' si' un') (hi : i < n) (c1 : ∀ k, ¬ k = i → sp' k = sp k) (c2 : ∀ k, ¬ k = i → si' k = si k) (c3 : ∀ k, ¬ k = i → le' k = le k) (c4 : ∀ k, ¬ k = i → un' k = un k) (c5 : ∀ k, ¬ k = i → ul' k = ul k) (d2 : (si' i).toInt = T) (d3 : (le' i).toInt = lpI sp si le un ul 8 i T) (d5 : (un' i = -6 ∧ ul' i = 0) ∨ ∃ j : Nat, j < i ∧ un' i = nI j ∧ (ul' i).toInt = lpI sp si le un ul 8 j T) : ∀ k : Nat, k < n → lpI sp' si' le' un' ul' 8 k T = lpI sp si le un ul 8 k T := by
  intro k
  induction k using Nat.strongRecOn with
  | ind k ih =>
    intro hk
    have n8 := hT.1
    by_cases q : k = i
    · rw [show lpI sp' si' le' un' ul' 8 k T = lpI sp' si' le' un' ul' (7 + 1) k T from rfl, lpI_s sp' si' le' un' ul' 7 k, q, d2, d3]
      rw [show T - T = 0 by omega, Int.mul_zero]
      rcases d5 with ⟨u1, u2⟩ | ⟨j, hj, u1, u2⟩
      · rw [u1, if_pos (show (-6 : Int32) < 0 by decide), u2, show (0 : Int32).toInt = 0 from rfl]; omega
      · rw [u1, if_neg (show ¬ nI j < 0 from nI_pos (by omega)), nI_clamp (show j < 2 ^ 31 by omega), lp_fuel hT' T j 7 8 (by omega) (by omega) (by omega), ih j (by omega) (by omega), u2]; omega
    · rw [show lpI sp' si' le' un' ul' 8 k T = lpI sp' si' le' un' ul' (7 + 1) k T from rfl, show lpI sp si le un ul 8 k T = lpI sp si le un ul (7 + 1) k T from rfl, lpI_s sp' si' le' un' ul' 7 k, lpI_s sp si le un ul 7 k, c1 k q, c2 k q, c3 k q, c4 k q, c5 k q]
      obtain ⟨-, -, hu⟩ := hT.2 k hk
      rcases hu with hu | ⟨j, hj, hu⟩
      · rw [hu, if_pos (show (-6 : Int32) < 0 by decide), if_pos (show (-6 : Int32) < 0 by decide)]
      · have hz : ¬ nI j < 0 := nI_pos (by omega)
        rw [hu, if_neg hz, if_neg hz, nI_clamp (show j < 2 ^ 31 by omega), lp_fuel hT' T j 7 8 (by omega) (by omega) (by omega), lp_fuel hT T j 7 8 (by omega) (by omega) (by omega), ih j hj (by omega)]
/-! what is known of an object -/
def FlC (ft fk : Int32) : Prop := (ft = -6 ∧ fk = 0) ∨ ∃ q d : Nat, q ≤ 20000 ∧ 1 ≤ d ∧ d ≤ 20 ∧ ft = nI q ∧ fk = nI d
def VOK (n : Nat) (ln hi wi br : Nat → Int32) : Prop := ∀ i : Nat, i < n → (∃ z : Nat, z ≤ 15 ∧ ln i = nI z) ∧ (∃ z : Nat, 1 ≤ z ∧ z ≤ 16 ∧ hi i = nI z) ∧ (∃ z : Nat, 1 ≤ z ∧ z ≤ 24 ∧ wi i = nI z) ∧ (∃ z : Nat, 1 ≤ z ∧ z ≤ 9 ∧ br i = nI z)
def PxB (px : Nat → Int32) : Prop := ∀ k : Nat, k < 384 → ∃ z : Nat, z ≤ 1800 ∧ px k = nI z
def SI (n T z0 z1 z2 z3 : Nat) (se : Nat → Int32) (mn : Int32) (ln hi wi br sp si le un ul px : Nat → Int32) (tm ft fk : Int32) : Prop :=
  (n ≤ 8 ∧ mn = nI n) ∧ (T ≤ 9999 ∧ tm = nI T) ∧ (z0 ≤ 9 ∧ se 0 = nI z0) ∧ (1 ≤ z1 ∧ z1 ≤ 20 ∧ se 1 = nI z1) ∧ (z2 ≤ 40 ∧ se 2 = nI z2) ∧ (1 ≤ z3 ∧ z3 ≤ 4 ∧ se 3 = nI z3) ∧ FlC ft fk ∧ ThOK n sp si un ∧ VOK n ln hi wi br ∧ PosB n (T : Int) sp si le un ul ∧ PxB px
def SO (n T z0 z1 z2 z3 : Nat) (o : OB) : Prop := SI n T z0 z1 z2 z3 o.1.1 o.1.2.1 o.1.2.2.1 o.1.2.2.2.1 o.1.2.2.2.2.1 o.1.2.2.2.2.2.1 o.1.2.2.2.2.2.2.1 o.1.2.2.2.2.2.2.2.1 o.1.2.2.2.2.2.2.2.2.1 o.1.2.2.2.2.2.2.2.2.2.1 o.1.2.2.2.2.2.2.2.2.2.2.1 o.1.2.2.2.2.2.2.2.2.2.2.2.1 o.1.2.2.2.2.2.2.2.2.2.2.2.2.1 o.1.2.2.2.2.2.2.2.2.2.2.2.2.2.2.1 o.1.2.2.2.2.2.2.2.2.2.2.2.2.2.2.2
def HO (o : OB) : Prop := ∃ X : Nat, X < 6 ∧ o.2.2.2.1.1 = nI X
abbrev oc (o : OB) (cam : CAMV) : OB := (o.1, cam, o.2.2)
abbrev oh (o : OB) (v : SCV) (hv : HIV) : OB := (v, o.2.1, o.2.2.1, hv, o.2.2.2.2)
abbrev LO (o : OB) : Nat → Nat → Int := LL o.1.2.2.2.2.2.2.1 o.1.2.2.2.2.2.2.2.1 o.1.2.2.2.2.2.2.2.2.1 o.1.2.2.2.2.2.2.2.2.2.1 o.1.2.2.2.2.2.2.2.2.2.2.1
abbrev SEE (o : OB) (n l c t : Nat) : Int32 := seI o.1.1 o.1.2.2.1 o.1.2.2.2.1 o.1.2.2.2.2.1 o.1.2.2.2.2.2.1 (LO o) o.1.2.2.2.2.2.2.2.2.2.2.2.2.2.2.1 o.1.2.2.2.2.2.2.2.2.2.2.2.2.2.2.2 n l c t
abbrev LPo (o : OB) (i : Nat) (t : Int) : Int := lpI o.1.2.2.2.2.2.2.1 o.1.2.2.2.2.2.2.2.1 o.1.2.2.2.2.2.2.2.2.1 o.1.2.2.2.2.2.2.2.2.2.1 o.1.2.2.2.2.2.2.2.2.2.2.1 8 i t
theorem seenC_of {n T z0 z1 z2 z3 : Nat} {o : OB} (h : SO n T z0 z1 z2 z3 o) : SeenC n T o.1.1 o.1.2.1 o.1.2.2.2.2.1 o.1.2.2.2.2.2.1 o.1.2.2.2.2.2.2.1 o.1.2.2.2.2.2.2.2.1 o.1.2.2.2.2.2.2.2.2.1 o.1.2.2.2.2.2.2.2.2.2.1 o.1.2.2.2.2.2.2.2.2.2.2.1 o.1.2.2.2.2.2.2.2.2.2.2.2.2.1 z0 z1 := by
  obtain ⟨hn, ht, h0, h1, -, -, -, hT, hV, hB, -⟩ := h
  exact ⟨hn, ht, h0, h1, hT, fun i hi => (hV i hi).2.2, hB⟩
theorem nI_nle0 {n : Nat} (h : 1 ≤ n) (hb : n < 2 ^ 31) : ¬ nI n ≤ 0 := nI_ge (a := 0) (b := n) h hb
theorem ad_sub (x y : Int32) : x + y - y = x := Int32.add_sub_cancel x y
theorem thing_1 {mn : Int32} {n i : Nat} (n8 : n ≤ 8) (hn : mn = nI n) (hi : i < n) : f_X7_isThing mn (nI i) = some 1 := by
  unfold f_X7_isThing
  have e : bI ((0 : Int32) ≤ nI i ∧ nI i ≤ nI (n - 1)) = 1 := if_pos ⟨nI_pos' (by omega), nI_le (by omega) (by omega)⟩
  rw [wi_eq, hn, nI_p (by omega), e, bn_some, gb_ok (Or.inr rfl)]
theorem thing_0 {mn : Int32} (hn : mn = nI 0) (a : Int32) : f_X7_isThing mn a = some 0 := by
  unfold f_X7_isThing
  have e : bI ((0 : Int32) ≤ a ∧ a ≤ nI 0 - 1) = 0 := if_neg (fun z => absurd (Int32.le_trans z.1 z.2) (by decide))
  rw [wi_eq, hn, e, bn_some, gb_ok (Or.inl rfl)]
theorem place_1 {l c : Nat} (hl : l < 16) (hc : c < 24) : f_X7_isPlace (nI l) (nI c) = some 1 := by
  unfold f_X7_isPlace
  have e1 : bI ((0 : Int32) ≤ nI l ∧ nI l ≤ 15) = 1 := if_pos ⟨nI_pos' (by omega), nI_le (b := 15) (by omega) (by decide)⟩
  have e2 : bI ((0 : Int32) ≤ nI c ∧ nI c ≤ 23) = 1 := if_pos ⟨nI_pos' (by omega), nI_le (b := 23) (by omega) (by decide)⟩
  simp only [wi_eq, bn_some, e1, e2]
  rfl
theorem cnt_0 (o : OB) : F_count o 0 = some (o.1.2.2.2.2.2.2.2.2.2.2.2.2.1) := by
  unfold F_count f_X7_count
  rw [if_pos (show (0 : Int32) = 0 from rfl)]
theorem cnt_1 (o : OB) : F_count o 1 = some (o.1.2.1) := by
  unfold F_count f_X7_count
  rw [if_neg (show ¬ (1 : Int32) = 0 by decide), if_pos (show (1 : Int32) = 1 from rfl)]
theorem cnt_2 (o : OB) : F_count o 2 = some (o.1.2.2.2.2.2.2.2.2.2.2.2.2.2.1) := by
  unfold F_count f_X7_count
  rw [if_neg (show ¬ (2 : Int32) = 0 by decide), if_neg (show ¬ (2 : Int32) = 1 by decide), if_pos (show (2 : Int32) = 2 from rfl)]
theorem cnt_6 (o : OB) : F_count o 6 = some (o.1.2.2.2.2.2.2.2.2.2.2.2.2.2.2.1) := by
  unfold F_count f_X7_count
  rw [if_neg (show ¬ (6 : Int32) = 0 by decide), if_neg (show ¬ (6 : Int32) = 1 by decide), if_neg (show ¬ (6 : Int32) = 2 by decide), if_neg (show ¬ (6 : Int32) = 3 by decide), if_neg (show ¬ (6 : Int32) = 4 by decide), if_neg (show ¬ (6 : Int32) = 5 by decide), if_pos (show (6 : Int32) = 6 from rfl)]
theorem cnt_7 (o : OB) : F_count o 7 = some (o.1.2.2.2.2.2.2.2.2.2.2.2.2.2.2.2) := by
  unfold F_count f_X7_count
  rw [if_neg (show ¬ (7 : Int32) = 0 by decide), if_neg (show ¬ (7 : Int32) = 1 by decide), if_neg (show ¬ (7 : Int32) = 2 by decide), if_neg (show ¬ (7 : Int32) = 3 by decide), if_neg (show ¬ (7 : Int32) = 4 by decide), if_neg (show ¬ (7 : Int32) = 5 by decide), if_neg (show ¬ (7 : Int32) = 6 by decide), if_pos (show (7 : Int32) = 7 from rfl)]
theorem cnt_8 (o : OB) : F_count o 8 = some (o.1.1 0) := by
  unfold F_count f_X7_count
  rw [if_neg (show ¬ (8 : Int32) = 0 by decide), if_neg (show ¬ (8 : Int32) = 1 by decide), if_neg (show ¬ (8 : Int32) = 2 by decide), if_neg (show ¬ (8 : Int32) = 3 by decide), if_neg (show ¬ (8 : Int32) = 4 by decide), if_neg (show ¬ (8 : Int32) = 5 by decide), if_neg (show ¬ (8 : Int32) = 6 by decide), if_neg (show ¬ (8 : Int32) = 7 by decide), if_pos (show (8 : Int32) = 8 from rfl), g04, c_0]
theorem cnt_9 (o : OB) : F_count o 9 = some (o.1.1 1) := by
  unfold F_count f_X7_count
  rw [if_neg (show ¬ (9 : Int32) = 0 by decide), if_neg (show ¬ (9 : Int32) = 1 by decide), if_neg (show ¬ (9 : Int32) = 2 by decide), if_neg (show ¬ (9 : Int32) = 3 by decide), if_neg (show ¬ (9 : Int32) = 4 by decide), if_neg (show ¬ (9 : Int32) = 5 by decide), if_neg (show ¬ (9 : Int32) = 6 by decide), if_neg (show ¬ (9 : Int32) = 7 by decide), if_neg (show ¬ (9 : Int32) = 8 by decide), if_pos (show (9 : Int32) = 9 from rfl), g14, c_1]
theorem cnt_10 (o : OB) : F_count o 10 = some (o.1.1 2) := by
  unfold F_count f_X7_count
  rw [if_neg (show ¬ (10 : Int32) = 0 by decide), if_neg (show ¬ (10 : Int32) = 1 by decide), if_neg (show ¬ (10 : Int32) = 2 by decide), if_neg (show ¬ (10 : Int32) = 3 by decide), if_neg (show ¬ (10 : Int32) = 4 by decide), if_neg (show ¬ (10 : Int32) = 5 by decide), if_neg (show ¬ (10 : Int32) = 6 by decide), if_neg (show ¬ (10 : Int32) = 7 by decide), if_neg (show ¬ (10 : Int32) = 8 by decide), if_neg (show ¬ (10 : Int32) = 9 by decide), if_pos (show (10 : Int32) = 10 from rfl), g24, c_2]
theorem cnt_11 (o : OB) : F_count o 11 = some (o.1.1 3) := by
  unfold F_count f_X7_count
  rw [if_neg (show ¬ (11 : Int32) = 0 by decide), if_neg (show ¬ (11 : Int32) = 1 by decide), if_neg (show ¬ (11 : Int32) = 2 by decide), if_neg (show ¬ (11 : Int32) = 3 by decide), if_neg (show ¬ (11 : Int32) = 4 by decide), if_neg (show ¬ (11 : Int32) = 5 by decide), if_neg (show ¬ (11 : Int32) = 6 by decide), if_neg (show ¬ (11 : Int32) = 7 by decide), if_neg (show ¬ (11 : Int32) = 8 by decide), if_neg (show ¬ (11 : Int32) = 9 by decide), if_neg (show ¬ (11 : Int32) = 10 by decide), if_pos (show (11 : Int32) = 11 from rfl), g34, c_3]
theorem cnt_3 (o : OB) : F_count o 3 = some (ors 16 (fun l => if ors 24 (litb o.1.2.2.2.2.2.2.2.2.2.2.2.1 l) = 0 then 1 <<< (nI l &&& 31) else 0)) := by
  unfold F_count f_X7_count
  rw [if_neg (show ¬ (3 : Int32) = 0 by decide), if_neg (show ¬ (3 : Int32) = 1 by decide), if_neg (show ¬ (3 : Int32) = 2 by decide), if_pos (show (3 : Int32) = 3 from rfl), dark_c, bn_some]
theorem cnt_4 (o : OB) : F_count o 4 = some (mxs 384 o.1.2.2.2.2.2.2.2.2.2.2.2.1) := by
  unfold F_count f_X7_count
  rw [if_neg (show ¬ (4 : Int32) = 0 by decide), if_neg (show ¬ (4 : Int32) = 1 by decide), if_neg (show ¬ (4 : Int32) = 2 by decide), if_neg (show ¬ (4 : Int32) = 3 by decide), if_pos (show (4 : Int32) = 4 from rfl), bright_c, bn_some]
theorem cnt_5 (o : OB) : F_count o 5 = some (su 16 (bnd o.1.2.2.2.2.2.2.2.2.2.2.2.1)) := by
  unfold F_count f_X7_count
  rw [if_neg (show ¬ (5 : Int32) = 0 by decide), if_neg (show ¬ (5 : Int32) = 1 by decide), if_neg (show ¬ (5 : Int32) = 2 by decide), if_neg (show ¬ (5 : Int32) = 3 by decide), if_neg (show ¬ (5 : Int32) = 4 by decide), if_pos (show (5 : Int32) = 5 from rfl), bands_c, bn_some]
theorem cnt_14 (o : OB) : F_count o 14 = some (-2) := by
  unfold F_count f_X7_count
  rw [if_neg (show ¬ (14 : Int32) = 0 by decide), if_neg (show ¬ (14 : Int32) = 1 by decide), if_neg (show ¬ (14 : Int32) = 2 by decide), if_neg (show ¬ (14 : Int32) = 3 by decide), if_neg (show ¬ (14 : Int32) = 4 by decide), if_neg (show ¬ (14 : Int32) = 5 by decide), if_neg (show ¬ (14 : Int32) = 6 by decide), if_neg (show ¬ (14 : Int32) = 7 by decide), if_neg (show ¬ (14 : Int32) = 8 by decide), if_neg (show ¬ (14 : Int32) = 9 by decide), if_neg (show ¬ (14 : Int32) = 10 by decide), if_neg (show ¬ (14 : Int32) = 11 by decide), if_neg (show ¬ (14 : Int32) = 12 by decide), if_neg (show ¬ (14 : Int32) = 13 by decide)]
theorem pix_v (o : OB) {l c : Nat} (hl : l < 16) (hc : c < 24) : F_pixel o (nI l) (nI c) = some (o.1.2.2.2.2.2.2.2.2.2.2.2.1 (24 * l + c)) := by
  unfold F_pixel f_X7_pixel
  rw [place_1 hl hc, bn_some, if_pos n10, px_c hl hc, bn_some]
theorem pix_a (o : OB) : F_pixel o 16 0 = some (-1) := by
  unfold F_pixel f_X7_pixel
  rw [show f_X7_isPlace 16 0 = some 0 from rfl, bn_some, if_neg nn0]
theorem pix_b (o : OB) : F_pixel o 0 24 = some (-1) := by
  unfold F_pixel f_X7_pixel
  rw [show f_X7_isPlace 0 24 = some 0 from rfl, bn_some, if_neg nn0]
/-- the leftmost column that isn't dark, found from the right -/
def fD (px : Nat → Int32) (l : Nat) : Nat → Int32
  | 0 => -6
  | m + 1 => if px (24 * l + (23 - m)) = 0 then fD px l m else nI (23 - m)
theorem fD_s (px : Nat → Int32) (l m : Nat) : fD px l (m + 1) = if px (24 * l + (23 - m)) = 0 then fD px l m else nI (23 - m) := rfl
theorem lm_c {px : Nat → Int32} {l : Nat} (hl : l < 16) : f_X3_leftmostNotDark px (nI l) = some (fD px l 24) := by
  unfold f_X3_leftmostNotDark
  have key : ∀ (d i N : Nat), i + d = 24 → d < N → f_X3_leftmostNotDark_L2 px (nI l) (fun (w7 : Int32) => some ((-6))) N (nI i) = some (fD px l d) := by
    intro d
    induction d with
    | zero =>
      intro i N h1 h2
      obtain ⟨N, rfl⟩ : ∃ z, N = z + 1 := ⟨N - 1, by omega⟩
      obtain rfl : i = 24 := by omega
      rw [f_X3_leftmostNotDark_L2_s, if_pos (by decide)]
      rfl
    | succ d ih =>
      intro i N h1 h2
      obtain ⟨N, rfl⟩ : ∃ z, N = z + 1 := ⟨N - 1, by omega⟩
      have hi : i < 24 := by omega
      have hz : ¬ (24 : Int32) ≤ nI i := nI_ge hi (by decide)
      rw [f_X3_leftmostNotDark_L2_s, if_neg hz, px_c hl hi, bn_some, bd_eq, nI_1, fD_s, show 23 - d = i by omega]
      by_cases q : px (24 * l + i) = 0
      · rw [if_pos q, if_pos q]
        exact ih (i + 1) N (by omega) (by omega)
      · rw [if_neg q, if_neg q]
  exact key 24 0 4000 rfl (by decide)
theorem line_v (o : OB) {l : Nat} (hl : l < 16) : F_ofLine o (nI l) 0 = some (ors 24 (litb o.1.2.2.2.2.2.2.2.2.2.2.2.1 l)) ∧ F_ofLine o (nI l) 1 = some (su 24 (fun c => o.1.2.2.2.2.2.2.2.2.2.2.2.1 (24 * l + c))) ∧ F_ofLine o (nI l) 2 = some (fD o.1.2.2.2.2.2.2.2.2.2.2.2.1 l 24) := by
  have e1 : bI ((0 : Int32) ≤ nI l ∧ nI l ≤ 15) = 1 := if_pos ⟨nI_pos' (by omega), nI_le (b := 15) (by omega) (by decide)⟩
  refine ⟨?_, ?_, ?_⟩
  · unfold F_ofLine f_X7_ofLine
    rw [wi_eq, e1, bn_some, if_pos n10, if_pos (show (0 : Int32) = 0 from rfl), lit_c hl, bn_some]
  · unfold F_ofLine f_X7_ofLine
    rw [wi_eq, e1, bn_some, if_pos n10, if_neg (show ¬ (1 : Int32) = 0 by decide), if_pos (show (1 : Int32) = 1 from rfl), sum_c hl, bn_some]
  · unfold F_ofLine f_X7_ofLine
    rw [wi_eq, e1, bn_some, if_pos n10, if_neg (show ¬ (2 : Int32) = 0 by decide), if_neg (show ¬ (2 : Int32) = 1 by decide), if_pos (show (2 : Int32) = 2 from rfl), lm_c hl, bn_some]
theorem of_v {n T z0 z1 z2 z3 : Nat} {o : OB} (h : SO n T z0 z1 z2 z3 o) {i : Nat} (hi_ : i < n) : F_of o (nI i) 0 = some (o.1.2.2.1 i) ∧ F_of o (nI i) 1 = some (iI (LPo o i T) + 1000) ∧ F_of o (nI i) 2 = some (o.1.2.2.2.1 i) ∧ F_of o (nI i) 3 = some (o.1.2.2.2.2.1 i) ∧ F_of o (nI i) 4 = some (o.1.2.2.2.2.2.1 i) ∧ F_of o (nI i) 5 = some (o.1.2.2.2.2.2.2.1 i + 100) ∧ F_of o (nI i) 6 = some (o.1.2.2.2.2.2.2.2.2.2.1 i) ∧ F_of o (nI i) 7 = some (spS o.1.2.2.2.2.2.2.1 o.1.2.2.2.2.2.2.2.2.2.1 8 i + 1000) := by
  obtain ⟨⟨n8, hn⟩, ⟨T9, ht⟩, -, -, -, -, -, hT, hV, hB, hP⟩ := h
  have hin : vp_in (nI i) 8 := vp_in_nI (by omega) (by decide)
  have hc : (nI i).toNatClampNeg = i := nI_clamp (by omega)
  have e1 := thing_1 n8 hn hi_
  have lx := left_x (le := o.1.2.2.2.2.2.2.2.2.1) (ul := o.1.2.2.2.2.2.2.2.2.2.2.1) hn hT (t := (T : Int)) (by omega) (by omega) hi_
  rw [iI_nat, ← ht] at lx
  have eg : f_X6_speedWithAllUnder o.1.2.1 o.1.2.2.2.2.2.2.1 o.1.2.2.2.2.2.2.2.2.2.1 (nI i) = some (spS o.1.2.2.2.2.2.2.1 o.1.2.2.2.2.2.2.2.2.2.1 8 i) := by
    have := goes_c hn hT i 8 4000 0 0 hi_ (by omega) (by omega) (by omega)
    rw [Int32.zero_add] at this
    exact this
  refine ⟨?_, ?_, ?_, ?_, ?_, ?_, ?_, ?_⟩
  · unfold F_of f_X7_of
    rw [e1, bn_some, if_pos n10, if_pos (show (0 : Int32) = 0 from rfl), gd_ok hin, hc]
  · unfold F_of f_X7_of
    rw [e1, bn_some, if_pos n10, if_neg (show ¬ (1 : Int32) = 0 by decide), if_pos (show (1 : Int32) = 1 from rfl), lx, bn_some]
  · unfold F_of f_X7_of
    rw [e1, bn_some, if_pos n10, if_neg (show ¬ (2 : Int32) = 0 by decide), if_neg (show ¬ (2 : Int32) = 1 by decide), if_pos (show (2 : Int32) = 2 from rfl), gd_ok hin, hc]
  · unfold F_of f_X7_of
    rw [e1, bn_some, if_pos n10, if_neg (show ¬ (3 : Int32) = 0 by decide), if_neg (show ¬ (3 : Int32) = 1 by decide), if_neg (show ¬ (3 : Int32) = 2 by decide), if_pos (show (3 : Int32) = 3 from rfl), gd_ok hin, hc]
  · unfold F_of f_X7_of
    rw [e1, bn_some, if_pos n10, if_neg (show ¬ (4 : Int32) = 0 by decide), if_neg (show ¬ (4 : Int32) = 1 by decide), if_neg (show ¬ (4 : Int32) = 2 by decide), if_neg (show ¬ (4 : Int32) = 3 by decide), if_pos (show (4 : Int32) = 4 from rfl), gd_ok hin, hc]
  · unfold F_of f_X7_of
    rw [e1, bn_some, if_pos n10, if_neg (show ¬ (5 : Int32) = 0 by decide), if_neg (show ¬ (5 : Int32) = 1 by decide), if_neg (show ¬ (5 : Int32) = 2 by decide), if_neg (show ¬ (5 : Int32) = 3 by decide), if_neg (show ¬ (5 : Int32) = 4 by decide), if_pos (show (5 : Int32) = 5 from rfl), gd_ok hin, hc]
  · unfold F_of f_X7_of
    rw [e1, bn_some, if_pos n10, if_neg (show ¬ (6 : Int32) = 0 by decide), if_neg (show ¬ (6 : Int32) = 1 by decide), if_neg (show ¬ (6 : Int32) = 2 by decide), if_neg (show ¬ (6 : Int32) = 3 by decide), if_neg (show ¬ (6 : Int32) = 4 by decide), if_neg (show ¬ (6 : Int32) = 5 by decide), if_pos (show (6 : Int32) = 6 from rfl), gd_ok hin, hc]
  · unfold F_of f_X7_of
    rw [e1, bn_some, if_pos n10, if_neg (show ¬ (7 : Int32) = 0 by decide), if_neg (show ¬ (7 : Int32) = 1 by decide), if_neg (show ¬ (7 : Int32) = 2 by decide), if_neg (show ¬ (7 : Int32) = 3 by decide), if_neg (show ¬ (7 : Int32) = 4 by decide), if_neg (show ¬ (7 : Int32) = 5 by decide), if_neg (show ¬ (7 : Int32) = 6 by decide), if_pos (show (7 : Int32) = 7 from rfl), eg, bn_some]
theorem seen_v {n T z0 z1 z2 z3 : Nat} {o : OB} (h : SO n T z0 z1 z2 z3 o) {l c t : Nat} (hl : l < 16) (hc : c < 24) (ht99 : t ≤ 99) : ∃ cam : CAMV, F_seen o (nI l) (nI c) (nI t) = some (SEE o n l c (T + t), oc o cam) := by
  obtain ⟨⟨n8, hn⟩, ⟨T9, ht⟩, ⟨a0, b0⟩, ⟨a1, a1', b1⟩, hT, hV, hB⟩ := seenC_of h
  have e : bI ((0 : Int32) ≤ nI t ∧ nI t ≤ 99) = 1 := if_pos ⟨nI_pos' (by omega), nI_le (b := 99) (by omega) (by decide)⟩
  obtain ⟨r, q1, q2⟩ := expose_c (se := o.1.1) (ft := o.1.2.2.2.2.2.2.2.2.2.2.2.2.2.2.1) (fk := o.1.2.2.2.2.2.2.2.2.2.2.2.2.2.2.2) (ln := o.1.2.2.1) (hi := o.1.2.2.2.1) (br := o.1.2.2.2.2.2.1) (l := l) (fr := T + t) (d := 1) o.2.1.2.2 o.2.1.2.1 hn hT hB (fun i hi => (hV i hi).1) (by omega) (by omega) (by decide)
  have e2 : r.2 (nI c).toNatClampNeg = SEE o n l c (T + t) := by
    rw [nI_clamp (by omega), q2 c hc]
    show (0 : Int32) + seI _ _ _ _ _ _ _ _ _ _ _ _ = _
    rw [Int32.zero_add]; rfl
  unfold F_seen f_X7_seen
  rw [place_1 hl hc, bn_some, if_pos n10, wi_eq, e, bn_some, if_pos n10, ht, nI_add]
  unfold f_X0_brightnessAt
  rw [show (1 : Int32) = nI 1 from rfl, q1, bn_some, gd_ok (vp_in_nI hc (by decide)), bn_some, bn_some, ← e2]
  exact ⟨(o.2.1.1, r.2, r.1), rfl⟩
theorem leans_v {n T z0 z1 z2 z3 : Nat} {o : OB} (h : SO n T z0 z1 z2 z3 o) {i : Nat} (hi_ : i < n) {L E : Nat} (hL : o.1.2.2.1 i = nI L) (hE : o.1.2.2.2.1 i = nI E) (L1 : L ≤ 15) (E1 : 1 ≤ E) (E2 : E ≤ 16) : F_leans o (nI i) = some (iI (LPo o i ((T + (L * z0 + (E - 1) * z0) : Nat) : Int)) - iI (LPo o i ((T + L * z0 : Nat) : Int)) + 1000) := by
  obtain ⟨⟨n8, hn⟩, ⟨T9, ht⟩, ⟨a0, b0⟩, -, -, -, -, hT, hV, hB, hP⟩ := h
  have hin : vp_in (nI i) 8 := vp_in_nI (by omega) (by decide)
  have hc : (nI i).toNatClampNeg = i := nI_clamp (by omega)
  have hbeg : ∀ l : Nat, f_X5_beginOf o.1.1 o.1.2.2.2.2.2.2.2.2.2.2.2.2.1 (nI l) = some (nI (T + l * z0)) := fun l => by
    unfold f_X5_beginOf
    rw [g04, c_0, b0, ht, pk_mul, nI_add]
  have hA : L * z0 ≤ 15 * 9 := Nat.mul_le_mul L1 a0
  have hD' : (E - 1) * z0 ≤ 15 * 9 := Nat.mul_le_mul (by omega) a0
  have e3 : (L + E - 1) * z0 = L * z0 + (E - 1) * z0 := by rw [← Nat.add_mul]; congr 1; omega
  have lx : ∀ t : Nat, t ≤ 20000 → f_X6_leftAt o.1.2.1 o.1.2.2.2.2.2.2.1 o.1.2.2.2.2.2.2.2.1 o.1.2.2.2.2.2.2.2.2.1 o.1.2.2.2.2.2.2.2.2.2.1 o.1.2.2.2.2.2.2.2.2.2.2.1 (nI i) (nI t) = some (iI (LPo o i t)) := fun t ht => by
    rw [← iI_nat t]; exact left_x hn hT (by omega) (by omega) hi_
  unfold F_leans f_X7_leans
  rw [thing_1 n8 hn hi_, bn_some, if_pos n10]
  simp only [gd_ok hin, hc, bd_eq, hL, hE]
  rw [nI_add, show (1 : Int32) = nI 1 from rfl, nI_sub (by omega), hbeg, hbeg, e3]
  simp only [bn_some]
  rw [lx _ (by omega), lx _ (by omega)]
  rfl
theorem bent_v {n T z1 z2 z3 : Nat} {o : OB} (h : SO n T 0 z1 z2 z3 o) : ∃ cam : CAMV, F_bent o = some (0, oc o cam) := by
  obtain ⟨⟨n8, hn⟩, ⟨T9, ht⟩, ⟨a0, b0⟩, ⟨a1, a1', b1⟩, hT, hV, hB⟩ := seenC_of h
  have hbeg : ∀ l : Nat, f_X5_beginOf o.1.1 o.1.2.2.2.2.2.2.2.2.2.2.2.2.1 (nI l) = some (nI T) := fun l => by
    unfold f_X5_beginOf
    rw [g04, c_0, b0, ht, pk_mul, nI_add, Nat.mul_zero, Nat.add_zero]
  unfold F_bent f_X7_bent f_X0_pixelsBent
  obtain ⟨w, e, hw⟩ := loopI (fun N (v : Int32 × (Nat → Int32) × (Nat → Int32) × (Nat → Int32)) i => f_X0_pixelsBent_L4 o.1.1 o.1.2.1 o.1.2.2.1 o.1.2.2.2.1 o.1.2.2.2.2.1 o.1.2.2.2.2.2.1 o.1.2.2.2.2.2.2.1 o.1.2.2.2.2.2.2.2.1 o.1.2.2.2.2.2.2.2.2.1 o.1.2.2.2.2.2.2.2.2.2.1 o.1.2.2.2.2.2.2.2.2.2.2.1 o.1.2.2.2.2.2.2.2.2.2.2.2.2.1 o.1.2.2.2.2.2.2.2.2.2.2.2.2.2.2.1 o.1.2.2.2.2.2.2.2.2.2.2.2.2.2.2.2 (fun (w27 : Int32) (w28 : Int32) (w29 : Nat → Int32) (w30 : Nat → Int32) (w31 : Nat → Int32) => some ((w27, w29, w30, w31))) N v.1 (nI i) v.2.1 v.2.2.1 v.2.2.2) 16 (fun v => some v) (fun i v => v.1 = 0) (fun N v h => by
    rw [f_X0_pixelsBent_L4_s, if_pos (by decide)]) (fun N v i hi_ h => by
    obtain ⟨r, e1, e2⟩ := expose_c (se := o.1.1) (ft := o.1.2.2.2.2.2.2.2.2.2.2.2.2.2.2.1) (fk := o.1.2.2.2.2.2.2.2.2.2.2.2.2.2.2.2) (ln := o.1.2.2.1) (hi := o.1.2.2.2.1) (br := o.1.2.2.2.2.2.1) (l := i) (fr := T) (d := z1) v.2.2.2 v.2.1 hn hT hB (fun i hi => (hV i hi).1) (by omega) (by omega) a1'
    obtain ⟨r', e1', e2'⟩ := expose_c (se := o.1.1) (ft := o.1.2.2.2.2.2.2.2.2.2.2.2.2.2.2.1) (fk := o.1.2.2.2.2.2.2.2.2.2.2.2.2.2.2.2) (ln := o.1.2.2.1) (hi := o.1.2.2.2.1) (br := o.1.2.2.2.2.2.1) (l := i) (fr := T) (d := z1) r.1 v.2.2.1 hn hT hB (fun i hi => (hV i hi).1) (by omega) (by omega) a1'
    obtain ⟨w, e, hw⟩ := loopI (fun M x c => f_X0_pixelsBent_L54 r r' (fun (w23 : Int32) (w24 : Int32) => bd (nI i + 1) (fun x25 => f_X0_pixelsBent_L4 o.1.1 o.1.2.1 o.1.2.2.1 o.1.2.2.2.1 o.1.2.2.2.2.1 o.1.2.2.2.2.2.1 o.1.2.2.2.2.2.2.1 o.1.2.2.2.2.2.2.2.1 o.1.2.2.2.2.2.2.2.2.1 o.1.2.2.2.2.2.2.2.2.2.1 o.1.2.2.2.2.2.2.2.2.2.2.1 o.1.2.2.2.2.2.2.2.2.2.2.2.2.1 o.1.2.2.2.2.2.2.2.2.2.2.2.2.2.2.1 o.1.2.2.2.2.2.2.2.2.2.2.2.2.2.2.2 (fun (w27 : Int32) (w28 : Int32) (w29 : Nat → Int32) (w30 : Nat → Int32) (w31 : Nat → Int32) => some ((w27, w29, w30, w31))) N w23 x25 r.2 r'.2 r'.1)) M x (nI c)) 24 (fun x => f_X0_pixelsBent_L4 o.1.1 o.1.2.1 o.1.2.2.1 o.1.2.2.2.1 o.1.2.2.2.2.1 o.1.2.2.2.2.2.1 o.1.2.2.2.2.2.2.1 o.1.2.2.2.2.2.2.2.1 o.1.2.2.2.2.2.2.2.2.1 o.1.2.2.2.2.2.2.2.2.2.1 o.1.2.2.2.2.2.2.2.2.2.2.1 o.1.2.2.2.2.2.2.2.2.2.2.2.2.1 o.1.2.2.2.2.2.2.2.2.2.2.2.2.2.2.1 o.1.2.2.2.2.2.2.2.2.2.2.2.2.2.2.2 (fun (w27 : Int32) (w28 : Int32) (w29 : Nat → Int32) (w30 : Nat → Int32) (w31 : Nat → Int32) => some ((w27, w29, w30, w31))) N x (nI (i + 1)) r.2 r'.2 r'.1) (fun c x => x = 0) (fun M x h => by
      rw [f_X0_pixelsBent_L54_s, if_pos (by decide), bd_eq, nI_1]) (fun M x c hc h => by
      refine ⟨0, ?_, rfl⟩
      have g : vp_in (nI c) 24 := vp_in_nI hc (by decide)
      rw [f_X0_pixelsBent_L54_s, if_neg (show ¬ (24 : Int32) ≤ nI c from nI_ge hc (by decide)), gd_ok g, gd_ok g, nI_clamp (by omega), e2 c hc, e2' c hc, if_pos rfl, bd_eq, nI_1 c, h]) 24 0 4000 v.1 rfl (by decide) h
    refine ⟨(w, r.2, r'.2, r'.1), ?_, hw⟩
    rw [f_X0_pixelsBent_L4_s, if_neg (show ¬ (16 : Int32) ≤ nI i from nI_ge hi_ (by decide)), hbeg, bn_some, g14, c_1, b1, e1, bn_some, g14, ht, e1', bn_some]
    rw [ht] at e
    exact e) 16 0 4000 (0, o.2.1.1, o.2.1.2.1, o.2.1.2.2) rfl (by decide) rfl
  have hw0 : w.1 = 0 := hw
  rw [show (0 : Int32) = nI 0 from rfl] at e hw0 ⊢
  rw [e, bn_some, bn_some]
  show ∃ cam : CAMV, some (w.1, oc o (w.2.1, w.2.2.1, w.2.2.2)) = _
  rw [hw0]
  exact ⟨_, rfl⟩
