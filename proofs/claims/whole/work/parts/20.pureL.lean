theorem nI_and {a b : Nat} (ha : a < 2 ^ 31) (hb : b < 2 ^ 31) : nI a &&& nI b = nI (Nat.land a b) := by
  apply Int32.toBitVec_inj.mp
  apply BitVec.eq_of_toNat_eq
  have h3 : Nat.land a b ≤ a := Nat.and_le_left
  rw [Int32.toBitVec_and, BitVec.toNat_and, pk_tn (by omega), pk_tn (by omega), pk_tn (by omega)]
  rfl
theorem land_r (a b : Nat) : Nat.land a b ≤ b := Nat.and_le_right
theorem land_l (a b : Nat) : Nat.land a b ≤ a := Nat.and_le_left
theorem bits_c {m : Nat} (h : m < 65536) : f_J6_bitCount_0f7a4 (nI m) = some (nI (bcN m)) := by
  unfold f_J6_bitCount_0f7a4 bcN
  have h1 := land_l (m / 2) 1431655765
  simp only [bd_eq]
  rw [pk_ushrN (n := m) (by omega) 1 1 (by decide), show (1431655765 : Int32) = nI 1431655765 from rfl, nI_and (by omega) (by decide), show m / 2 ^ 1 = m / 2 from rfl, nI_sub (by omega)]
  generalize hA : m - Nat.land (m / 2) 1431655765 = A
  have h2 := land_r A 858993459
  have h3 := land_r (A / 4) 858993459
  rw [pk_ushrN (n := A) (by omega) 2 2 (by decide), show (858993459 : Int32) = nI 858993459 from rfl, nI_and (by omega) (by decide), show A / 2 ^ 2 = A / 4 from rfl, nI_and (by omega) (by decide), nI_add]
  have h2' := land_l A 858993459
  have h3' := land_l (A / 4) 858993459
  generalize hB : Nat.land A 858993459 + Nat.land (A / 4) 858993459 = B
  rw [pk_ushrN (n := B) (by omega) 4 4 (by decide), show (252645135 : Int32) = nI 252645135 from rfl, show B / 2 ^ 4 = B / 16 from rfl, nI_add, nI_and (by omega) (by decide)]
  have h4 := land_r (B + B / 16) 252645135
  generalize hC : Nat.land (B + B / 16) 252645135 = C at *
  rw [pk_ushrN (n := C) (by omega) 8 8 (by decide), show C / 2 ^ 8 = C / 256 from rfl, nI_add]
  generalize hD : C + C / 256 = D
  rw [pk_ushrN (n := D) (by omega) 16 16 (by decide), show D / 2 ^ 16 = D / 65536 from rfl, nI_add, show (63 : Int32) = nI 63 from rfl, nI_and (by omega) (by decide)]
theorem sm_k : ∀ k : Nat, k < 16 → ((nI k &&& 31).toBitVec.smod 32).toNat = k := by decide
theorem ones_m {m : Nat} (h : m < 65536) : f_X8_ones (nI m) = some (nI (onN m)) := by
  unfold f_X8_ones
  obtain ⟨w, e, hw⟩ := loopI (fun N v i => f_X8_ones_L4 (nI m) (fun (w8 : Int32) (w9 : Int32) => some (w8)) N v (nI i)) 16 (fun v => some v) (fun i v => v = su i (fun k => nI (m / 2 ^ k % 2))) (fun N v h => by
    rw [f_X8_ones_L4_s, if_pos (by decide)]) (fun N v i hi hv => by
    refine ⟨_, ?_, rfl⟩
    rw [f_X8_ones_L4_s, if_neg (show ¬ (16 : Int32) ≤ nI i from nI_ge hi (by decide)), pk_shrN (by omega) _ i (sm_k i hi), pk_andN (by have := Nat.div_le_self m (2 ^ i); omega) 1 (by decide), hv, bd_eq, bd_eq, nI_1, su_s i]) 16 0 4000 0 rfl (by decide) rfl
  rw [hw] at e
  rw [show (0 : Int32) = nI 0 from rfl] at e ⊢
  rw [e]
  simp only [su, nI_add, Nat.reducePow]
  rw [show (0 : Int32) = nI 0 from rfl]
  simp only [nI_add]
  unfold onN
  rw [Nat.zero_add]
theorem ors_lt {n : Nat} {g : Nat → Int32} (h : ∀ i, i < n → (g i).toBitVec.toNat < 2 ^ 16) : (ors n g).toBitVec.toNat < 2 ^ 16 := by
  induction n with
  | zero => show (0 : Int32).toBitVec.toNat < 2 ^ 16; decide
  | succ n ih =>
    rw [ors_s, Int32.toBitVec_or, BitVec.toNat_or]
    exact Nat.or_lt_two_pow (ih (fun i hi => h i (by omega))) (h n (by omega))
theorem ors_nI {n : Nat} {g : Nat → Int32} (h : ∀ i, i < n → (g i).toBitVec.toNat < 2 ^ 16) : ∃ m : Nat, m < 65536 ∧ ors n g = nI m := by
  refine ⟨(ors n g).toBitVec.toNat, ors_lt h, ?_⟩
  apply Int32.toBitVec_inj.mp
  apply BitVec.eq_of_toNat_eq
  rw [pk_tn (by have := ors_lt h; omega)]
theorem bit_lt : ∀ i : Nat, i < 16 → ((1 : Int32) <<< (nI i &&& 31)).toBitVec.toNat < 2 ^ 16 := by decide
/-- a flash of d ticks from q on burns in a line that begins at B and is exposed z ticks -/
def fb (T z0 z1 q d l : Nat) : Int32 := if T + l * z0 < q + d ∧ q < T + l * z0 + z1 then 1 <<< (nI l &&& 31) else 0
theorem flash_c {T z0 z1 q d : Nat} {se : Nat → Int32} {tm : Int32} (ht : tm = nI T) (T9 : T ≤ 9999) (a0 : z0 ≤ 9) (a1 : z1 ≤ 20) (b0 : se 0 = nI z0) (b1 : se 1 = nI z1) (hq : q ≤ 20000) (hd : d ≤ 20) : f_X5_linesFlashed se tm (nI q) (nI d) = some (ors 16 (fb T z0 z1 q d)) := by
  unfold f_X5_linesFlashed
  obtain ⟨w, e, hw⟩ := loopI (fun N v i => f_X5_linesFlashed_L5 se tm (nI q) (nI d) (fun (w13 : Int32) (w14 : Int32) => some (w13)) N v (nI i)) 16 (fun v => some v) (fun i v => v = ors i (fb T z0 z1 q d)) (fun N v h => by
    rw [f_X5_linesFlashed_L5_s, if_pos (by decide)]) (fun N v i hi h => by
    refine ⟨_, ?_, rfl⟩
    have hz : i * z0 ≤ 15 * 9 := Nat.mul_le_mul (by omega) a0
    have hbeg : f_X5_beginOf se tm (nI i) = some (nI (T + i * z0)) := by
      unfold f_X5_beginOf
      rw [g04, c_0, b0, ht, pk_mul, nI_add]
    rw [f_X5_linesFlashed_L5_s, if_neg (show ¬ (16 : Int32) ≤ nI i from nI_ge hi (by decide)), hbeg, bn_some, nI_add, g14, c_1, b1, nI_add, h, ors_s i]
    simp only [bd_eq, nI_1]
    unfold fb
    by_cases y : q + d ≤ T + i * z0
    · rw [if_pos ((nI_leI (by omega) (by omega)).mpr y), if_neg (by omega), Int32.or_zero]
    · rw [if_neg (fun z => y ((nI_leI (by omega) (by omega)).mp z))]
      by_cases y2 : T + i * z0 + z1 ≤ q
      · rw [if_pos ((nI_leI (by omega) (by omega)).mpr y2), if_neg (by omega), Int32.or_zero]
      · rw [if_neg (fun z => y2 ((nI_leI (by omega) (by omega)).mp z)), if_pos ⟨by omega, by omega⟩]) 16 0 4000 0 rfl (by decide) rfl
  rw [hw] at e
  exact e
theorem or_self2 (a b : Int32) : (a ||| b) ||| b = a ||| b := by rw [Int32.or_assoc, Int32.or_self]
theorem burns_m {T z0 z1 q d : Nat} {S : Nat → Int32} (T9 : T ≤ 9999) (a0 : z0 ≤ 9) (a1 : z1 ≤ 20) (h4 : S 4 = nI T) (c0 : S 0 = nI z0) (c1 : S 1 = nI z1) (hz1 : 1 ≤ z1) (hq : q ≤ 20000) (hd1 : 1 ≤ d) (hd : d ≤ 20) : f_X8_burnsIn S (nI q) (nI d) = some (ors 16 (fb T z0 z1 q d)) := by
  unfold f_X8_burnsIn
  obtain ⟨w, e, hw⟩ := loopI (fun N v i => f_X8_burnsIn_L5 S (nI q) (nI d) (fun (w19 : Int32) (w20 : Int32) => some (w19)) N v (nI i)) 16 (fun v => some v) (fun i v => v = ors i (fb T z0 z1 q d)) (fun N v h => by
    rw [f_X8_burnsIn_L5_s, if_pos (by decide)]) (fun N v i hi h => by
    refine ⟨_, ?_, rfl⟩
    have hz : i * z0 ≤ 15 * 9 := Nat.mul_le_mul (by omega) a0
    rw [f_X8_burnsIn_L5_s, if_neg (show ¬ (16 : Int32) ≤ nI i from nI_ge hi (by decide)), h]
    obtain ⟨w, e, hw⟩ := loopI (fun M v t => f_X8_burnsIn_L15 S (nI q) (nI d) (nI i) (fun (w15 : Int32) (w16 : Int32) => bd (nI i + 1) (fun x17 => f_X8_burnsIn_L5 S (nI q) (nI d) (fun (w19 : Int32) (w20 : Int32) => some (w19)) N w15 x17)) M v (nI t)) z1 (fun v => f_X8_burnsIn_L5 S (nI q) (nI d) (fun (w19 : Int32) (w20 : Int32) => some (w19)) N v (nI (i + 1))) (fun t v => v = ors i (fb T z0 z1 q d) ||| (if 0 < t ∧ T + i * z0 < q + d ∧ q < T + i * z0 + t then 1 <<< (nI i &&& 31) else 0)) (fun M v h => by
      rw [f_X8_burnsIn_L15_s, m1, c_1, c1, if_pos (Int32.le_refl _), bd_eq, nI_1]) (fun M v t ht h => by
      refine ⟨_, ?_, rfl⟩
      rw [f_X8_burnsIn_L15_s, m1, c_1, c1, if_neg (nI_ge ht (by omega)), m4, m0, c_4, c_0, h4, c0, pk_mul, nI_add, nI_add, nI_add, nI_p (by omega), in_eq, bn_some, h]
      simp only [jn_eq, bd_eq, nI_1]
      have hb : bI (nI q ≤ nI (T + i * z0 + t) ∧ nI (T + i * z0 + t) ≤ nI (q + d - 1)) = if q ≤ T + i * z0 + t ∧ T + i * z0 + t ≤ q + d - 1 then 1 else 0 := by
        unfold bI
        have k1 := nI_leI (a := q) (b := T + i * z0 + t) (by omega) (by omega)
        have k2 := nI_leI (a := T + i * z0 + t) (b := q + d - 1) (by omega) (by omega)
        by_cases y : q ≤ T + i * z0 + t ∧ T + i * z0 + t ≤ q + d - 1
        · rw [if_pos y, if_pos ⟨k1.mpr y.1, k2.mpr y.2⟩]
        · rw [if_neg y, if_neg (fun z => y ⟨k1.mp z.1, k2.mp z.2⟩)]
      rw [hb]
      by_cases y : q ≤ T + i * z0 + t ∧ T + i * z0 + t ≤ q + d - 1
      · rw [if_pos y, if_neg n10, if_pos (show 0 < t + 1 ∧ T + i * z0 < q + d ∧ q < T + i * z0 + (t + 1) by omega)]
        by_cases y2 : 0 < t ∧ T + i * z0 < q + d ∧ q < T + i * z0 + t
        · rw [if_pos y2, or_self2]
        · rw [if_neg y2, Int32.or_zero]
      · rw [if_neg y, if_pos e00, Int32.or_zero]
        by_cases y2 : 0 < t ∧ T + i * z0 < q + d ∧ q < T + i * z0 + t
        · rw [if_pos y2, if_pos (by omega)]
        · rw [if_neg y2, if_neg (by omega)]) z1 0 4000 (ors i (fb T z0 z1 q d)) (by omega) (by omega) (by rw [if_neg (by omega), Int32.or_zero])
    have hf : (if 0 < z1 ∧ T + i * z0 < q + d ∧ q < T + i * z0 + z1 then 1 <<< (nI i &&& 31) else 0) = fb T z0 z1 q d i := by
      unfold fb
      by_cases y : T + i * z0 < q + d ∧ q < T + i * z0 + z1
      · rw [if_pos y, if_pos ⟨by omega, y⟩]
      · rw [if_neg y, if_neg (fun z => y z.2)]
    rw [hw, hf, ← ors_s] at e
    exact e) 16 0 4000 0 rfl (by decide) rfl
  rw [hw] at e
  exact e
theorem sim_flashed {n T : Nat} {se : Nat → Int32} {mn : Int32} {ln hi wi br sp si le un ul px : Nat → Int32} {tm ps ft fk : Int32} {S : Nat → Int32} (h : ScR n T se mn ln hi wi br sp si le un ul px tm ps ft fk S) : ∃ r, f_X7_flashed se tm ft fk = some r ∧ f_X8_flashed S = some r := by
  obtain ⟨⟨n8, hn, h5⟩, ⟨T9, ht, h4⟩, ⟨z0, a0, b0, c0⟩, ⟨z1, a1, a1', b1, c1⟩, -, -, ⟨h8, hF⟩, -, -, -, -, -, -⟩ := h
  unfold f_X7_flashed f_X8_flashed
  rw [m7, m7, m8, c_7, c_8, h8]
  rcases hF with ⟨f1, f2, f3⟩ | ⟨q, d, q1, q2, q3, f1, f3, f2⟩
  · rw [f3, if_neg (by decide), f1, f2]
    refine ⟨0, ?_, rfl⟩
    have e0 : f_X5_linesFlashed se tm (-6) 0 = some 0 := by
      unfold f_X5_linesFlashed
      obtain ⟨w, e, hw⟩ := loopI (fun N v i => f_X5_linesFlashed_L5 se tm (-6) 0 (fun (w13 : Int32) (w14 : Int32) => some (w13)) N v (nI i)) 16 (fun v => some v) (fun i v => v = 0) (fun N v h => by
        rw [f_X5_linesFlashed_L5_s, if_pos (by decide)]) (fun N v i hi h => by
        refine ⟨_, ?_, h⟩
        have hz : i * z0 ≤ 15 * 9 := Nat.mul_le_mul (by omega) a0
        have hbeg : f_X5_beginOf se tm (nI i) = some (nI (T + i * z0)) := by
          unfold f_X5_beginOf
          rw [g04, c_0, b0, ht, pk_mul, nI_add]
        rw [f_X5_linesFlashed_L5_s, if_neg (show ¬ (16 : Int32) ≤ nI i from nI_ge hi (by decide)), hbeg, bn_some, if_pos (Int32.le_trans (show (-6 : Int32) + 0 ≤ 0 by decide) (nI_pos' (by omega))), bd_eq, nI_1]) 16 0 4000 0 rfl (by decide) rfl
      rw [hw] at e
      exact e
    rw [e0, bn_some]
  · rw [f3, if_pos (nI_pos' (by omega)), f1, f2, flash_c ht T9 a0 a1' b0 b1 q1 q3, burns_m T9 a0 a1' h4 c0 c1 a1 q1 q2 q3]
    exact ⟨_, rfl, rfl⟩
/-- how many lines a flash after k ticks would be in -/
theorem pop_fb {T z0 z1 q d : Nat} : ∃ c : Nat, c ≤ 63 ∧ f_J6_bitCount_0f7a4 (ors 16 (fb T z0 z1 q d)) = some (nI c) ∧ f_X8_ones (ors 16 (fb T z0 z1 q d)) = some (nI c) := by
  obtain ⟨m, hm, e⟩ := ors_nI (n := 16) (g := fb T z0 z1 q d) (fun i hi => by
    unfold fb
    split
    · exact bit_lt i hi
    · decide)
  refine ⟨bcN m, ?_, ?_, ?_⟩
  · exact land_r _ 63
  · rw [e, bits_c hm]
  · rw [e, ones_m hm, pop_eq hm]
theorem pop_fn (T z0 z1 d : Nat) : ∃ cn : Nat → Nat, ∀ q : Nat, cn q ≤ 63 ∧ f_J6_bitCount_0f7a4 (ors 16 (fb T z0 z1 q d)) = some (nI (cn q)) ∧ f_X8_ones (ors 16 (fb T z0 z1 q d)) = some (nI (cn q)) :=
  ⟨fun q => (pop_fb (T := T) (z0 := z0) (z1 := z1) (q := q) (d := d)).choose, fun q => (pop_fb (T := T) (z0 := z0) (z1 := z1) (q := q) (d := d)).choose_spec⟩
theorem sim_bestFlash {n T : Nat} {se : Nat → Int32} {mn : Int32} {ln hi wi br sp si le un ul px : Nat → Int32} {tm ps ft fk : Int32} {S : Nat → Int32} (h : ScR n T se mn ln hi wi br sp si le un ul px tm ps ft fk S) (a b : Int32) : ∃ r, f_X7_bestFlash se tm a b = some r ∧ f_X8_bestFlash S a b = some r := by
  obtain ⟨⟨n8, hn, h5⟩, ⟨T9, ht, h4⟩, ⟨z0, a0, b0, c0⟩, ⟨z1, a1, a1', b1, c1⟩, -, -, -, -, -, -, -, -, -⟩ := h
  unfold f_X7_bestFlash f_X8_bestFlash
  simp only [wi_eq, in_eq, bn_some]
  by_cases ha : 1 ≤ a ∧ a ≤ 20
  · rw [if_neg (fun z => (bI_0 _).mp z ha), if_neg (fun z => (bI_0 _).mp z ha)]
    by_cases hb : 0 ≤ b ∧ b ≤ 1
    · have hb' : ¬ bI (0 ≤ b ∧ b ≤ 1) = 0 := fun z => (bI_0 _).mp z hb
      rw [if_pos hb', if_pos hb']
      obtain ⟨d, hd, rfl⟩ := nI_of2 (x := a) (M := 20) (n := 20) rfl (Int32.not_lt.mpr (Int32.le_trans (by decide) ha.1)) ha.2
      have hd1 : 1 ≤ d := (nI_leI (a := 1) (by decide) (by omega)).mp ha.1
      obtain ⟨cn, hcn⟩ := pop_fn T z0 z1 d
      have ec : ∀ i : Nat, i ≤ 99 → f_X5_linesFlashed se tm (tm + nI i) (nI d) = some (ors 16 (fb T z0 z1 (T + i) d)) := fun i hi => by
        rw [ht, nI_add, ← ht]
        exact flash_c ht T9 a0 a1' b0 b1 (by omega) hd
      have em : ∀ i : Nat, i ≤ 99 → f_X8_burnsIn S (S 4 + nI i) (nI d) = some (ors 16 (fb T z0 z1 (T + i) d)) := fun i hi => by
        rw [h4, nI_add]
        exact burns_m T9 a0 a1' h4 c0 c1 a1 (by omega) hd1 hd
      have key : ∀ (k i N : Nat) (x y : Nat), i + k = 100 → k < N → y ≤ 63 → ∃ r, f_X7_bestFlash_L30 se tm (nI d) (fun (w15 : Int32) (w16 : Int32) (w17 : Int32) => (if ¬ b = 0 then some (w16) else some (w15))) N (nI x) (nI y) (nI i) = some r ∧ f_X8_bestFlash_L30 S (nI d) (fun (w17 : Int32) (w18 : Int32) (w19 : Int32) => (if ¬ b = 0 then some (w18) else some (w17))) N (nI x) (nI y) (nI i) = some r := by
        intro k
        induction k with
        | zero =>
          intro i N x y h1 h2 h3
          obtain ⟨N, rfl⟩ : ∃ z, N = z + 1 := ⟨N - 1, by omega⟩
          obtain rfl : i = 100 := by omega
          rw [f_X7_bestFlash_L30_s, f_X8_bestFlash_L30_s, if_pos (show (99 : Int32) < nI 100 by decide), if_pos (show (99 : Int32) < nI 100 by decide)]
          by_cases q : ¬ b = 0
          · rw [if_pos q]; exact ⟨_, rfl, rfl⟩
          · rw [if_neg q]; exact ⟨_, rfl, rfl⟩
        | succ k ih =>
          intro i N x y h1 h2 h3
          obtain ⟨N, rfl⟩ : ∃ z, N = z + 1 := ⟨N - 1, by omega⟩
          obtain ⟨q1, q2, q3⟩ := hcn (T + i)
          have hi99 : ¬ (99 : Int32) < nI i := nI_nlt (a := 99) (b := i) (by omega) (by decide)
          rw [f_X7_bestFlash_L30_s, f_X8_bestFlash_L30_s, if_neg hi99, if_neg hi99, m4, c_4, ec i (by omega), em i (by omega), bn_some, bn_some, q2, q3]
          simp only [bn_some, jn_eq, bd_eq, nI_1]
          by_cases y1 : nI (cn (T + i)) ≤ nI y
          · rw [if_pos y1, if_pos y1, if_pos y1]
            exact ih (i + 1) N x y (by omega) (by omega) h3
          · rw [if_neg y1, if_neg y1, if_neg y1]
            exact ih (i + 1) N i (cn (T + i)) (by omega) (by omega) q1
      obtain ⟨q1, q2, q3⟩ := hcn (T + 0)
      have hi99 : ¬ (99 : Int32) < nI 0 := by decide
      rw [show (4000 : Nat) = 3999 + 1 from rfl, show (0 : Int32) = nI 0 from rfl, f_X7_bestFlash_L30_s, f_X8_bestFlash_L30_s, if_neg hi99, if_neg hi99, m4, c_4, ec 0 (by omega), em 0 (by omega), bn_some, bn_some, q2, q3]
      simp only [bn_some, jn_eq, bd_eq, nI_1]
      have yn : ¬ nI (cn (T + 0)) ≤ -1 := fun z => absurd (Int32.le_trans (nI_pos' (n := cn (T + 0)) (by omega)) z) (by decide)
      rw [if_neg yn, if_neg yn]
      by_cases y1 : nI (cn (T + 0)) ≤ nI 0
      · rw [if_pos y1]
        have : cn (T + 0) = 0 := by
          have := (nI_leI (a := cn (T + 0)) (b := 0) (by omega) (by decide)).mp y1
          omega
        rw [this]
        exact key 99 1 3999 0 0 rfl (by decide) (by decide)
      · rw [if_neg y1]
        exact key 99 1 3999 0 (cn (T + 0)) rfl (by decide) q1
    · have hb' : ¬ ¬ bI (0 ≤ b ∧ b ≤ 1) = 0 := not_not_intro ((bI_0 _).mpr hb)
      rw [if_neg hb', if_neg hb']
      exact ⟨_, rfl, rfl⟩
  · rw [if_pos ((bI_0 _).mpr ha), if_pos ((bI_0 _).mpr ha)]
    exact ⟨_, rfl, rfl⟩
