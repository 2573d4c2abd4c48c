/-! numbers as Int: iI z is z as an int of Java -/
def iI (z : Int) : Int32 := Int32.ofInt z
theorem bm_id {z : Int} (h1 : -2147483648 ≤ z) (h2 : z < 2147483648) : z.bmod (2 ^ 32) = z := by
  rw [Int.bmod_eq_of_le (by omega) (by omega)]
theorem iI_T {z : Int} (h1 : -2147483648 ≤ z) (h2 : z < 2147483648) : (iI z).toInt = z := by
  rw [iI, Int32.toInt_ofInt]; exact bm_id h1 h2
theorem iI_as (x : Int32) : iI x.toInt = x := Int32.ofInt_toInt x
theorem iI_rng (x : Int32) : -2147483648 ≤ x.toInt ∧ x.toInt < 2147483648 := by
  have h1 := Int32.le_toInt x
  have h2 := Int32.toInt_lt x
  omega
theorem iI_add (a b : Int) : iI a + iI b = iI (a + b) := by
  apply Int32.toInt_inj.mp
  rw [Int32.toInt_add, iI, iI, iI, Int32.toInt_ofInt, Int32.toInt_ofInt, Int32.toInt_ofInt, ← Int.bmod_add_bmod, Int.add_comm, ← Int.bmod_add_bmod, Int.add_comm]
  simp
theorem iI_neg (a : Int) : -iI a = iI (-a) := by
  apply Int32.toInt_inj.mp
  rw [Int32.toInt_neg, iI, iI, Int32.toInt_ofInt, Int32.toInt_ofInt]
  simp
theorem iI_sub (a b : Int) : iI a - iI b = iI (a - b) := by
  rw [Int32.sub_eq_add_neg, iI_neg, iI_add, Int.sub_eq_add_neg]
theorem iI_mul (a b : Int) : iI a * iI b = iI (a * b) := by
  apply Int32.toInt_inj.mp
  rw [Int32.toInt_mul, iI, iI, iI, Int32.toInt_ofInt, Int32.toInt_ofInt, Int32.toInt_ofInt]
  simp
theorem iI_lt {a b : Int} (h1 : -2147483648 ≤ a) (h2 : a < 2147483648) (h3 : -2147483648 ≤ b) (h4 : b < 2147483648) : iI a < iI b ↔ a < b := by
  rw [Int32.lt_iff_toInt_lt, iI_T h1 h2, iI_T h3 h4]
theorem iI_le {a b : Int} (h1 : -2147483648 ≤ a) (h2 : a < 2147483648) (h3 : -2147483648 ≤ b) (h4 : b < 2147483648) : iI a ≤ iI b ↔ a ≤ b := by
  rw [Int32.le_iff_toInt_le, iI_T h1 h2, iI_T h3 h4]
theorem iI_eq {a b : Int} (h1 : -2147483648 ≤ a) (h2 : a < 2147483648) (h3 : -2147483648 ≤ b) (h4 : b < 2147483648) : iI a = iI b ↔ a = b := by
  rw [← Int32.toInt_inj, iI_T h1 h2, iI_T h3 h4]
theorem iI_nat (n : Nat) : iI (n : Int) = nI n := by
  rw [iI, nI]; exact Int32.ofInt_eq_ofNat
theorem iI_cl {z : Nat} (h : z < 2147483648) : (iI (z : Int)).toNatClampNeg = z := by
  rw [iI_nat]; exact nI_clamp h
theorem iI_vp {z n : Nat} (h1 : z < n) (hn : n < 2147483648) : vp_in (iI (z : Int)) n := by
  rw [iI_nat]; exact vp_in_nI h1 hn
theorem nI_T {n : Nat} (h : n < 2147483648) : (nI n).toInt = (n : Int) := nI_toInt h
theorem bn_some {α β : Type} (a : α) (k : α → Option β) : bn (some a) k = k a := rfl
theorem bd_eq {α β : Type} (a : α) (k : α → Option β) : bd a k = k a := rfl
theorem jn_eq {α β : Type} (k : α) (b : α → Option β) : jn k b = b k := rfl
theorem gz_ok {α : Type} {y : Int32} {k : Option α} (h : ¬ y = 0) : gz y k = k := if_neg h
theorem gb_ok {α : Type} {y : Int32} {k : Option α} (h : y = 0 ∨ y = 1) : gb y k = k := if_pos h
theorem gc_ok {α : Type} {y : Int32} {k : Option α} (h : 0 ≤ y ∧ y ≤ 65535) : gc y k = k := if_pos h
theorem gr_ok2 {α : Type} {i : Int32} {n : Nat} {k : Option α} (h1 : ¬ i < 0) (h2 : i.toNatClampNeg ≤ n) : gr i n k = k := if_neg (fun z => z.elim h1 (Nat.not_lt.mpr h2))
/-- a truth as a number -/
def bI (p : Prop) [Decidable p] : Int32 := if p then 1 else 0
theorem bI_01 (p : Prop) [Decidable p] : bI p = 0 ∨ bI p = 1 := by unfold bI; by_cases h : p <;> simp [h]
theorem bI_0 (p : Prop) [Decidable p] : bI p = 0 ↔ ¬ p := by unfold bI; by_cases h : p <;> simp [h]
theorem in_eq (a b c : Int32) : f_X8_in a b c = some (bI (b ≤ a ∧ a ≤ c)) := by
  unfold f_X8_in bI
  by_cases h1 : a < b
  · rw [if_pos h1, if_neg (fun h => Int32.not_le.mpr h1 h.1)]
  · rw [if_neg h1]
    by_cases h2 : c < a
    · rw [if_pos h2, if_neg (fun h => Int32.not_le.mpr h2 h.2)]
    · rw [if_neg h2, if_pos ⟨Int32.not_lt.mp h1, Int32.not_lt.mp h2⟩]
theorem wi_eq (a b c : Int32) : f_X7_within a b c = some (bI (b ≤ a ∧ a ≤ c)) := in_eq a b c
theorem div_nn {z : Int} (h1 : 0 ≤ z) (h2 : z < 2147483648) : iI z / 10 = iI (z / 10) := by
  obtain ⟨n, rfl⟩ := Int.eq_ofNat_of_zero_le h1
  rw [iI_nat, show (10 : Int32) = nI 10 from rfl, pk_div (by omega) (by decide) (by decide), ← iI_nat]
  rfl
theorem div_neg {z : Int} (h1 : z < 0) (h2 : -2147483648 < z) : iI z / 10 = iI (-((-z) / 10)) := by
  have e : iI z = -iI (-z) := by rw [iI_neg, Int.neg_neg]
  rw [← iI_neg, ← div_nn (by omega) (by omega), e]
  apply Int32.toInt_inj.mp
  have hT : (iI (-z)).toInt = -z := iI_T (by omega) (by omega)
  have hD : (iI (-z) / 10).toInt = (-z) / 10 := by rw [div_nn (by omega) (by omega)]; exact iI_T (by omega) (by omega)
  rw [Int32.toInt_neg, hD, Int32.toInt_div, Int32.toInt_neg, hT]
  rw [show ((10 : Int32).toInt) = 10 from rfl]
  rw [Int.bmod_eq_of_le (n := -(-z)) (by omega) (by omega), Int.neg_tdiv, Int.tdiv_eq_ediv_of_nonneg (by omega)]
theorem tenth_eq {z : Int} (h1 : -1000000000 ≤ z) (h2 : z ≤ 1000000000) : f_X8_tenth (iI z) = some (iI (z / 10)) := by
  unfold f_X8_tenth
  by_cases h : z < 0
  · rw [if_pos (show iI z < (0 : Int32) from (iI_lt (b := 0) (by omega) (by omega) (by decide) (by decide)).mpr h)]
    rw [show (9 : Int32) = iI 9 from rfl, iI_sub, div_nn (by omega) (by omega), iI_neg]
    congr 2
    omega
  · rw [if_neg (show ¬ iI z < (0 : Int32) from fun q => h ((iI_lt (b := 0) (by omega) (by omega) (by decide) (by decide)).mp q)), div_nn (by omega) (by omega)]
theorem xor10 (x : Int32) : 0 ≤ (x ^^^ 10) ↔ 0 ≤ x := by
  have key : ∀ y : Int32, 0 ≤ y ↔ y.toBitVec.msb = false := fun y => by
    rw [Int32.le_iff_toInt_le, show (0 : Int32).toInt = 0 from rfl, ← Int32.toInt_toBitVec, BitVec.msb_eq_toInt]
    simp
  rw [key, key, Int32.toBitVec_xor, BitVec.msb_xor]
  rw [show (10 : Int32).toBitVec.msb = false from by decide, Bool.xor_false]
theorem fdiv_eq {z : Int} (h1 : -1000000000 ≤ z) (h2 : z ≤ 1000000000) : f_J9_floorDiv_7cf53 (iI z) 10 = some (iI (z / 10)) := by
  unfold f_J9_floorDiv_7cf53
  rw [gz_ok (by decide), bd_eq]
  have hx : (0 ≤ (iI z ^^^ 10)) ↔ 0 ≤ z := by rw [xor10, show (0 : Int32) = iI 0 from rfl, iI_le (by decide) (by decide) (by omega) (by omega)]
  by_cases h : z < 0
  · rw [if_neg (fun q => by have := hx.mp q; omega), div_neg h (by omega)]
    rw [show (10 : Int32) = iI 10 from rfl, iI_mul]
    by_cases hd : -((-z) / 10) * 10 = z
    · rw [if_pos (congrArg iI hd)]
      congr 2; omega
    · rw [if_neg (fun q => hd ((iI_eq (by omega) (by omega) (by omega) (by omega)).mp q))]
      rw [show (1 : Int32) = iI 1 from rfl, iI_sub]
      congr 2; omega
  · rw [if_pos (hx.mpr (by omega)), div_nn (by omega) (by omega)]
/-- where a thing is, as a number: its own way, and that of what it rides on -/
def lpI (sp si le un ul : Nat → Int32) : Nat → Nat → Int → Int
  | 0, _, _ => 0
  | k + 1, i, t => (le i).toInt + ((sp i).toInt * (t - (si i).toInt)) / 10 - (ul i).toInt + (if un i < 0 then 0 else lpI sp si le un ul k (un i).toNatClampNeg t)
/-- what is known of the things below n -/
def ThOK (n : Nat) (sp si un : Nat → Int32) : Prop := n ≤ 8 ∧ ∀ i : Nat, i < n → (-40 ≤ (sp i).toInt ∧ (sp i).toInt ≤ 40) ∧ (0 ≤ (si i).toInt ∧ (si i).toInt ≤ 9999) ∧ (un i = -6 ∨ ∃ j : Nat, j < i ∧ un i = nI j)
theorem mul_bd {a b : Int} (h1 : -40 ≤ a) (h2 : a ≤ 40) (h3 : -40000 ≤ b) (h4 : b ≤ 40000) : -1600000 ≤ a * b ∧ a * b ≤ 1600000 := by
  have e1 : a * b ≤ 40 * 40000 ∧ -(40 * 40000) ≤ a * b := by
    rcases Int.le_total 0 a with h | h <;> rcases Int.le_total 0 b with g | g
    · exact ⟨Int.mul_le_mul h2 h4 g (by decide), Int.le_trans (by decide) (Int.mul_nonneg h g)⟩
    · refine ⟨Int.le_trans (Int.mul_nonpos_of_nonneg_of_nonpos h g) (by decide), ?_⟩
      have := Int.mul_le_mul h2 (show -b ≤ 40000 by omega) (by omega) (by decide)
      rw [Int.mul_neg] at this
      omega
    · refine ⟨Int.le_trans (Int.mul_nonpos_of_nonpos_of_nonneg h g) (by decide), ?_⟩
      have := Int.mul_le_mul (show -a ≤ 40 by omega) h4 g (by decide)
      rw [Int.neg_mul] at this
      omega
    · have := Int.mul_le_mul (show -a ≤ 40 by omega) (show -b ≤ 40000 by omega) (by omega) (by decide)
      rw [Int.neg_mul_neg] at this
      exact ⟨this, Int.le_trans (by decide) (Int.mul_nonneg_of_nonpos_of_nonpos h g)⟩
  omega
theorem left_loop {mn : Int32} {sp si le un ul : Nat → Int32} {n : Nat} {t : Int} (hn : mn = nI n) (hT : ThOK n sp si un) (h1 : -20000 ≤ t) (h2 : t ≤ 20000) : ∀ (i k N st : Nat) (v : Int32), i < n → i < k → i + 1 < N → st + i < 8 → f_X6_leftAt_L8 mn sp si le un ul (iI t) (fun (w14 : Int32) (w15 : Int32) (w16 : Int32) => some (w14)) N v (nI i) (nI st) = some (v + iI (lpI sp si le un ul k i t)) := by
  intro i
  induction i using Nat.strongRecOn with
  | ind i ih =>
    intro k N st v hi hk hN hst
    obtain ⟨k, rfl⟩ : ∃ z, k = z + 1 := ⟨k - 1, by omega⟩
    obtain ⟨N, rfl⟩ : ∃ z, N = z + 1 := ⟨N - 1, by omega⟩
    obtain ⟨hn8, hth⟩ := hT
    obtain ⟨⟨a1, a2⟩, ⟨a3, a4⟩, hu⟩ := hth i hi
    have hin : vp_in (nI i) 8 := vp_in_nI (by omega) (by decide)
    have hc : (nI i).toNatClampNeg = i := nI_clamp (by omega)
    have hb := mul_bd a1 a2 (b := t - (si i).toInt) (by omega) (by omega)
    have hfd : f_J9_floorDiv_7cf53 (sp (nI i).toNatClampNeg * (iI t - si (nI i).toNatClampNeg)) 10 = some (iI ((sp i).toInt * (t - (si i).toInt) / 10)) := by
      rw [hc, ← iI_as (si i), iI_sub, ← iI_as (sp i), iI_mul, iI_as, iI_as, fdiv_eq (by omega) (by omega)]
    rw [f_X6_leftAt_L8_s]
    rw [if_neg (show ¬ (8 : Int32) ≤ nI st from nI_ge (a := st) (b := 8) (by omega) (by decide)), if_neg (nI_pos (by omega)), hn, if_neg (nI_ge hi (by omega)), gd_ok hin, gd_ok hin, gd_ok hin, hfd, bn_some, gd_ok hin, bd_eq, gd_ok hin, bd_eq, bd_eq, hc, show nI st + 1 = nI (st + 1) from nI_1 st]
    have fin : ∀ z : Int, v + (le i + iI ((sp i).toInt * (t - (si i).toInt) / 10) - ul i) + iI z = v + iI ((le i).toInt + (sp i).toInt * (t - (si i).toInt) / 10 - (ul i).toInt + z) := fun z => by
      rw [← iI_as (le i), ← iI_as (ul i), iI_add, iI_sub, iI_as, iI_as, Int32.add_assoc, iI_add]
    rcases hu with hu | ⟨j, hj, hu⟩
    · rw [hu, lpI, if_pos (show un i < 0 by rw [hu]; decide)]
      obtain ⟨N, rfl⟩ : ∃ z, N = z + 1 := ⟨N - 1, by omega⟩
      rw [f_X6_leftAt_L8_s]
      have e0 := fin 0
      rw [show iI 0 = 0 from rfl, Int32.add_zero] at e0
      by_cases h8 : 8 ≤ nI (st + 1)
      · rw [if_pos h8, e0]
      · rw [if_neg h8, if_pos (by decide), e0]
    · rw [hu, lpI, if_neg (show ¬ un i < 0 by rw [hu]; exact nI_pos (by omega)), hu, nI_clamp (show j < 2 ^ 31 by omega)]
      have := ih j hj k N (st + 1) (v + (le i + iI ((sp i).toInt * (t - (si i).toInt) / 10) - ul i)) (by omega) (by omega) (by omega) (by omega)
      rw [hn] at this
      rw [this, fin]
theorem left_x {mn : Int32} {sp si le un ul : Nat → Int32} {n : Nat} {t : Int} (hn : mn = nI n) (hT : ThOK n sp si un) (h1 : -20000 ≤ t) (h2 : t ≤ 20000) {i : Nat} (hi : i < n) : f_X6_leftAt mn sp si le un ul (nI i) (iI t) = some (iI (lpI sp si le un ul 8 i t)) := by
  have hn8 := hT.1
  unfold f_X6_leftAt
  have := left_loop (le := le) (ul := ul) hn hT h1 h2 i 8 4000 0 0 hi (by omega) (by omega) (by omega)
  rw [show (0 : Int32) = nI 0 from rfl] at this ⊢
  rw [this, show nI 0 = 0 from rfl, Int32.zero_add]
theorem left_x_ground {mn : Int32} {sp si le un ul : Nat → Int32} {t : Int32} : f_X6_leftAt mn sp si le un ul (-6) t = some 0 := by
  unfold f_X6_leftAt
  rw [show (4000 : Nat) = 3999 + 1 from rfl, f_X6_leftAt_L8_s, if_neg (by decide), if_pos (by decide)]
