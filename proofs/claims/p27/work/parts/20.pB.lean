def pic (se ln hi wi br : Nat → Int32) (L : Nat → Nat → Int) (ft fk : Int32) (n T z0 z1 k : Nat) : Int32 := exI se ln hi wi br L ft fk n (k / 24) (k % 24) (T + k / 24 * z0) z1
abbrev SeenC (n T : Nat) (se : Nat → Int32) (mn : Int32) (wi br sp si le un ul : Nat → Int32) (tm : Int32) (z0 z1 : Nat) : Prop :=
  (n ≤ 8 ∧ mn = nI n) ∧ (T ≤ 9999 ∧ tm = nI T) ∧ (z0 ≤ 9 ∧ se 0 = nI z0) ∧ (1 ≤ z1 ∧ z1 ≤ 20 ∧ se 1 = nI z1) ∧ ThOK n sp si un ∧ (∀ i : Nat, i < n → (∃ z : Nat, 1 ≤ z ∧ z ≤ 24 ∧ wi i = nI z) ∧ (∃ z : Nat, 1 ≤ z ∧ z ≤ 9 ∧ br i = nI z)) ∧ PosB n (T : Int) sp si le un ul
theorem take_c {n T z0 z1 : Nat} {se : Nat → Int32} {mn : Int32} {ln hi wi br sp si le un ul : Nat → Int32} {tm ft fk : Int32} (h : SeenC n T se mn wi br sp si le un ul tm z0 z1) (lea ris px : Nat → Int32) (ps : Int32) : ∃ r, f_X0_takePicture lea ris se mn ln hi wi br sp si le un ul px tm ps ft fk = some r ∧ (∀ k, k < 384 → r.2.2.2.2 k = pic se ln hi wi br (LL sp si le un ul) ft fk n T z0 z1 k) ∧ r.2.2.1 = nI (T + (15 * z0 + z1)) ∧ r.2.2.2.1 = ps + 1 := by
  obtain ⟨⟨n8, hn⟩, ⟨T9, ht⟩, ⟨a0, b0⟩, ⟨a1, a1', b1⟩, hT, hV, hB⟩ := h
  unfold f_X0_takePicture
  have hbeg : ∀ l : Nat, f_X5_beginOf se tm (nI l) = some (nI (T + l * z0)) := fun l => by
    unfold f_X5_beginOf
    rw [g04, c_0, b0, ht, pk_mul, nI_add]
  have hend : f_X5_endOfPicture se tm = some (nI (T + (15 * z0 + z1))) := by
    unfold f_X5_endOfPicture
    rw [show (15 : Int32) = nI 15 from rfl, hbeg, bn_some, g14, c_1, b1, nI_add, Nat.add_assoc]
  obtain ⟨w, e, hw⟩ := loopI (fun N (v : (Nat → Int32) × (Nat → Int32) × (Nat → Int32)) i => f_X0_takePicture_L2 se mn ln hi wi br sp si le un ul tm ft fk (fun (w14 : Int32) (w15 : Nat → Int32) (w16 : Nat → Int32) (w17 : Nat → Int32) => bn (f_X5_endOfPicture se tm) (fun r18 => some (w15, w16, r18, ps + 1, w17))) N (nI i) v.1 v.2.1 v.2.2) 16 (fun v => some (v.1, v.2.1, nI (T + (15 * z0 + z1)), ps + 1, v.2.2)) (fun i v => ∀ k, k < 24 * i → v.2.2 k = pic se ln hi wi br (LL sp si le un ul) ft fk n T z0 z1 k) (fun N v h => by
    rw [f_X0_takePicture_L2_s, if_pos (by decide), hend, bn_some]) (fun N v i hi_ h => by
    have hz : i * z0 ≤ 15 * 9 := Nat.mul_le_mul (by omega) a0
    obtain ⟨r, e1, e2⟩ := expose_c (se := se) (ft := ft) (fk := fk) (ln := ln) (hi := hi) (br := br) (l := i) (fr := T + i * z0) (d := z1) v.2.1 v.1 hn hT hB (fun i hi => (hV i hi).1) (by omega) (by omega) a1'
    refine ⟨(r.2, r.1, va_cpy r.2 v.2.2 0 (i * 24) 24), ?_, fun k hk => ?_⟩
    · rw [f_X0_takePicture_L2_s, if_neg (show ¬ (16 : Int32) ≤ nI i from nI_ge hi_ (by decide)), hbeg, bn_some, g14, c_1, b1, e1, bn_some]
      have hp : f_X3_putLine v.2.2 r.2 (nI i) = some (va_cpy r.2 v.2.2 0 (i * 24) 24) := by
        unfold f_X3_putLine
        rw [show (24 : Int32) = nI 24 from rfl, pk_mul, gr_ok2 (nI_pos (by omega)) (by rw [nI_clamp (by omega)]; omega), nI_clamp (by omega), nI_clamp (by omega)]
        rfl
      rw [hp, bn_some, bd_eq, nI_1]
    · show va_cpy r.2 v.2.2 0 (i * 24) 24 k = _
      unfold va_cpy
      by_cases q : i * 24 ≤ k
      · rw [if_pos ⟨q, by omega⟩, Nat.zero_add, e2 _ (by omega)]
        unfold pic
        rw [show k / 24 = i by omega, show k % 24 = k - i * 24 by omega]
      · rw [if_neg (fun y => q y.1)]; exact h k (by omega)) 16 0 4000 (lea, ris, px) rfl (by decide) (fun k hk => absurd hk (by omega))
  exact ⟨_, e, fun k hk => hw k hk, rfl, rfl⟩
def ors : Nat → (Nat → Int32) → Int32
  | 0, _ => 0
  | n + 1, g => ors n g ||| g n
def mxs : Nat → (Nat → Int32) → Int32
  | 0, _ => 0
  | n + 1, g => if g n ≤ mxs n g then mxs n g else g n
theorem ors_s (n : Nat) (g : Nat → Int32) : ors (n + 1) g = ors n g ||| g n := rfl
theorem su_s (n : Nat) (g : Nat → Int32) : su (n + 1) g = su n g + g n := rfl
theorem px_c {px : Nat → Int32} {l c : Nat} (hl : l < 16) (hc : c < 24) : f_X3_pixelAt px (nI l) (nI c) = some (px (24 * l + c)) := by
  unfold f_X3_pixelAt
  rw [show (24 : Int32) = nI 24 from rfl, pk_mul, nI_add, Nat.mul_comm l 24, gd_ok (vp_in_nI (by omega) (by decide)), nI_clamp (by omega)]
def litb (px : Nat → Int32) (l c : Nat) : Int32 := if px (24 * l + c) = 0 then 0 else 1 <<< (nI c &&& 31)
theorem lit_c {px : Nat → Int32} {l : Nat} (hl : l < 16) : f_X3_columnsNotDark px (nI l) = some (ors 24 (litb px l)) := by
  unfold f_X3_columnsNotDark
  obtain ⟨w, e, hw⟩ := loopI (fun N v i => f_X3_columnsNotDark_L4 px (nI l) (fun (w11 : Int32) (w12 : Int32) => some (w11)) N v (nI i)) 24 (fun v => some v) (fun i v => v = ors i (litb px l)) (fun N v h => by
    rw [f_X3_columnsNotDark_L4_s, if_pos (by decide)]) (fun N v i hi h => by
    refine ⟨_, ?_, rfl⟩
    rw [f_X3_columnsNotDark_L4_s, if_neg (show ¬ (24 : Int32) ≤ nI i from nI_ge hi (by decide)), px_c hl hi, bn_some, h, ors_s i]
    unfold litb
    by_cases q : px (24 * l + i) = 0
    · rw [if_pos q, if_pos q, bd_eq, nI_1, Int32.or_zero]
    · rw [if_neg q, if_neg q, bd_eq, bd_eq, nI_1]) 24 0 4000 0 rfl (by decide) rfl
  rw [hw] at e
  exact e
theorem sum_c {px : Nat → Int32} {l : Nat} (hl : l < 16) : f_X3_sumOfLine px (nI l) = some (su 24 (fun c => px (24 * l + c))) := by
  unfold f_X3_sumOfLine
  obtain ⟨w, e, hw⟩ := loopI (fun N v i => f_X3_sumOfLine_L4 px (nI l) (fun (w9 : Int32) (w10 : Int32) => some (w9)) N v (nI i)) 24 (fun v => some v) (fun i v => v = su i (fun c => px (24 * l + c))) (fun N v h => by
    rw [f_X3_sumOfLine_L4_s, if_pos (by decide)]) (fun N v i hi h => by
    refine ⟨_, ?_, rfl⟩
    rw [f_X3_sumOfLine_L4_s, if_neg (show ¬ (24 : Int32) ≤ nI i from nI_ge hi (by decide)), px_c hl hi, bn_some, h, bd_eq, bd_eq, nI_1]
    rfl) 24 0 4000 0 rfl (by decide) rfl
  rw [hw] at e
  exact e
theorem all_c {px : Nat → Int32} : f_X3_sumOfAll px = some (su 384 px) := by
  unfold f_X3_sumOfAll
  obtain ⟨w, e, hw⟩ := loopI (fun N v i => f_X3_sumOfAll_L4 px (fun (w9 : Int32) (w10 : Int32) => some (w9)) N v (nI i)) 16 (fun v => some v) (fun i v => v = su i (fun l => su 24 (fun c => px (24 * l + c)))) (fun N v h => by
    rw [f_X3_sumOfAll_L4_s, if_pos (by decide)]) (fun N v i hi h => by
    refine ⟨_, ?_, rfl⟩
    rw [f_X3_sumOfAll_L4_s, if_neg (show ¬ (16 : Int32) ≤ nI i from nI_ge hi (by decide)), sum_c hi, bn_some, h, bd_eq, bd_eq, nI_1]
    rfl) 16 0 4000 0 rfl (by decide) rfl
  rw [hw, ← su_mul 16 24 px] at e
  exact e
theorem dark_c {px : Nat → Int32} : f_X3_darkLines px = some (ors 16 (fun l => if ors 24 (litb px l) = 0 then 1 <<< (nI l &&& 31) else 0)) := by
  unfold f_X3_darkLines
  obtain ⟨w, e, hw⟩ := loopI (fun N v i => f_X3_darkLines_L4 px (fun (w11 : Int32) (w12 : Int32) => some (w11)) N v (nI i)) 16 (fun v => some v) (fun i v => v = ors i (fun l => if ors 24 (litb px l) = 0 then 1 <<< (nI l &&& 31) else 0)) (fun N v h => by
    rw [f_X3_darkLines_L4_s, if_pos (by decide)]) (fun N v i hi h => by
    refine ⟨_, ?_, rfl⟩
    rw [f_X3_darkLines_L4_s, if_neg (show ¬ (16 : Int32) ≤ nI i from nI_ge hi (by decide)), lit_c hi, bn_some, h, ors_s i]
    by_cases q : ors 24 (litb px i) = 0
    · rw [if_pos q, if_neg (not_not_intro q), bd_eq, bd_eq, nI_1]
    · rw [if_neg q, if_pos q, bd_eq, nI_1, Int32.or_zero]) 16 0 4000 0 rfl (by decide) rfl
  rw [hw] at e
  exact e
def dbl (px : Nat → Int32) (l : Nat) : Int32 := if ¬ ors 24 (litb px l) = 0 then 0 else 1
def bnd (px : Nat → Int32) (l : Nat) : Int32 := if l = 0 then 0 else if dbl px l = dbl px (l - 1) then 0 else 1
theorem nI_p {i : Nat} (h : 1 ≤ i) : nI i - 1 = nI (i - 1) := nI_sub (a := i) (b := 1) h
theorem bands_c {px : Nat → Int32} : f_X3_bands px = some (su 16 (bnd px)) := by
  unfold f_X3_bands
  obtain ⟨w, e, hw⟩ := loopI (fun N v i => f_X3_bands_L4 px (fun (w16 : Int32) (w17 : Int32) => some (w16)) N v (nI i)) 16 (fun v => some v) (fun i v => 1 ≤ i ∧ v = su i (bnd px)) (fun N v h => by
    rw [f_X3_bands_L4_s, if_pos (by decide)]) (fun N v i hi h => by
    refine ⟨_, ?_, by omega, rfl⟩
    rw [f_X3_bands_L4_s, if_neg (show ¬ (16 : Int32) ≤ nI i from nI_ge hi (by decide)), lit_c hi, nI_p h.1, lit_c (l := i - 1) (by omega), h.2]
    simp only [jn_eq, bd_eq, bn_some, nI_1]
    rw [su_s i]
    conv => rhs; rw [bnd, if_neg (by omega)]
    unfold dbl
    by_cases a : ors 24 (litb px i) = 0 <;> by_cases b : ors 24 (litb px (i - 1)) = 0 <;> simp [a, b]) 15 1 4000 0 rfl (by decide) ⟨Nat.le_refl _, rfl⟩
  rw [hw.2] at e
  exact e
theorem bright_c {px : Nat → Int32} : f_X3_brightest px = some (mxs 384 px) := by
  unfold f_X3_brightest
  obtain ⟨w, e, hw⟩ := loopI (fun N v i => f_X3_brightest_L4 px (fun (w17 : Int32) (w18 : Int32) => some (w17)) N v (nI i)) 16 (fun v => some v) (fun i v => v = mxs (24 * i) px) (fun N v h => by
    rw [f_X3_brightest_L4_s, if_pos (by decide)]) (fun N v i hi h => by
    refine ⟨_, ?_, rfl⟩
    rw [f_X3_brightest_L4_s, if_neg (show ¬ (16 : Int32) ≤ nI i from nI_ge hi (by decide))]
    obtain ⟨w, e, hw⟩ := loopI (fun M v c => f_X3_brightest_L12 px (nI i) (fun (w13 : Int32) (w14 : Int32) => bd (nI i + 1) (fun x15 => f_X3_brightest_L4 px (fun (w17 : Int32) (w18 : Int32) => some (w17)) N w13 x15)) M v (nI c)) 24 (fun v => f_X3_brightest_L4 px (fun (w17 : Int32) (w18 : Int32) => some (w17)) N v (nI (i + 1))) (fun c v => v = mxs (24 * i + c) px) (fun M v h => by
      rw [f_X3_brightest_L12_s, if_pos (by decide), bd_eq, nI_1]) (fun M v c hc h => by
      refine ⟨_, ?_, rfl⟩
      rw [f_X3_brightest_L12_s, if_neg (show ¬ (24 : Int32) ≤ nI c from nI_ge hc (by decide)), px_c hi hc, bn_some, bd_eq, bd_eq, nI_1 c, h, ← Nat.add_assoc, mxs]
      congr 1
      by_cases q : px (24 * i + c) ≤ mxs (24 * i + c) px
      · rw [if_pos q, if_neg (Int32.not_lt.mpr q)]
      · rw [if_neg q, if_pos (Int32.not_le.mp q)]) 24 0 4000 v rfl (by decide) h
    rw [hw] at e
    exact e) 16 0 4000 0 rfl (by decide) rfl
  rw [hw] at e
  exact e
theorem n10 : ¬ (1 : Int32) = 0 := by decide
theorem e00 : (0 : Int32) = 0 := rfl
theorem nn0 : ¬ ¬ (0 : Int32) = 0 := not_not_intro rfl
theorem in_cases {a : Int32} {m : Nat} (hm : m < 2 ^ 31) : (bI (0 ≤ a ∧ a ≤ nI m) = 1 ∧ ∃ i : Nat, i ≤ m ∧ a = nI i) ∨ bI (0 ≤ a ∧ a ≤ nI m) = 0 := by
  by_cases h : 0 ≤ a ∧ a ≤ nI m
  · exact Or.inl ⟨if_pos h, nI_of2 (M := nI m) (n := m) (nI_toInt hm) (Int32.not_lt.mpr h.1) h.2⟩
  · exact Or.inr (if_neg h)
def spS (sp un : Nat → Int32) : Nat → Nat → Int32
  | 0, _ => 0
  | k + 1, i => sp i + (if un i < 0 then 0 else spS sp un k (un i).toNatClampNeg)
theorem goes_c {mn : Int32} {sp si un : Nat → Int32} {n : Nat} (hn : mn = nI n) (hT : ThOK n sp si un) : ∀ (i k N st : Nat) (v : Int32), i < n → i < k → i + 1 < N → st + i < 8 → f_X6_speedWithAllUnder_L7 mn sp un (fun (w13 : Int32) (w14 : Int32) (w15 : Int32) => some (w13)) N v (nI i) (nI st) = some (v + spS sp un k i) := by
  intro i
  induction i using Nat.strongRecOn with
  | ind i ih =>
    intro k N st v hi hk hN hst
    obtain ⟨k, rfl⟩ : ∃ z, k = z + 1 := ⟨k - 1, by omega⟩
    obtain ⟨N, rfl⟩ : ∃ z, N = z + 1 := ⟨N - 1, by omega⟩
    obtain ⟨hn8, hth⟩ := hT
    obtain ⟨-, -, hu⟩ := hth i hi
    have hin : vp_in (nI i) 8 := vp_in_nI (by omega) (by decide)
    have hc : (nI i).toNatClampNeg = i := nI_clamp (by omega)
    rw [f_X6_speedWithAllUnder_L7_s, if_neg (show ¬ (8 : Int32) ≤ nI st from nI_ge (a := st) (b := 8) (by omega) (by decide)), if_neg (nI_pos (by omega)), hn, if_neg (nI_ge hi (by omega)), gd_ok hin, hc, bd_eq, gd_ok hin, bd_eq, bd_eq, nI_1, spS]
    rcases hu with hu | ⟨j, hj, hu⟩
    · rw [hu, if_pos (show (-6 : Int32) < 0 by decide), Int32.add_zero]
      obtain ⟨N, rfl⟩ : ∃ z, N = z + 1 := ⟨N - 1, by omega⟩
      rw [f_X6_speedWithAllUnder_L7_s]
      by_cases h8 : 8 ≤ nI (st + 1)
      · rw [if_pos h8]
      · rw [if_neg h8, if_pos (show (-6 : Int32) < 0 by decide)]
    · rw [hu, if_neg (show ¬ nI j < 0 from nI_pos (by omega)), nI_clamp (show j < 2 ^ 31 by omega)]
      have := ih j hj k N (st + 1) (v + sp i) (by omega) (by omega) (by omega) (by omega)
      rw [hn] at this
      rw [this, Int32.add_assoc]
def bcN (m : Nat) : Nat :=
  let a := m - Nat.land (m / 2) 1431655765
  let b := Nat.land a 858993459 + Nat.land (a / 4) 858993459
  let c := Nat.land (b + b / 16) 252645135
  let d := c + c / 256
  Nat.land (d + d / 65536) 63
def onN (m : Nat) : Nat := m / 1 % 2 + m / 2 % 2 + m / 4 % 2 + m / 8 % 2 + m / 16 % 2 + m / 32 % 2 + m / 64 % 2 + m / 128 % 2 + m / 256 % 2 + m / 512 % 2 + m / 1024 % 2 + m / 2048 % 2 + m / 4096 % 2 + m / 8192 % 2 + m / 16384 % 2 + m / 32768 % 2
def allB (f : Nat → Bool) (n : Nat) : Bool := Nat.rec true (fun k ih => f k && ih) n
theorem allB_sp {f : Nat → Bool} : ∀ {n : Nat}, allB f n = true → ∀ k, k < n → f k = true
  | 0, _, k, hk => absurd hk (Nat.not_lt_zero k)
  | n + 1, h, k, hk => by
    have h' : (f n && allB f n) = true := h
    rw [Bool.and_eq_true] at h'
    rcases Nat.lt_succ_iff_lt_or_eq.mp hk with q | q
    · exact allB_sp h'.2 k q
    · rw [q]; exact h'.1
theorem pop_all : allB (fun h => allB (fun l => Nat.beq (bcN (256 * h + l)) (onN (256 * h + l))) 256) 256 = true := by decide +kernel
theorem pop_eq {m : Nat} (h : m < 65536) : bcN m = onN m := by
  have h1 := allB_sp (allB_sp pop_all (m / 256) (by omega)) (m % 256) (by omega)
  rw [show 256 * (m / 256) + m % 256 = m by omega] at h1
  exact Nat.eq_of_beq_eq_true h1
