/-! the bytes of a long -/
theorem b_and (x : BitVec 64) : (x &&& 255#64).toNat = x.toNat % 256 := by
  rw [BitVec.toNat_and]
  exact Nat.and_two_pow_sub_one_eq_mod _ 8
theorem b_ssh (x : BitVec 64) (n : Nat) (h : n ≤ 56) : (x.sshiftRight n &&& 255#64) = (x >>> n) &&& 255#64 := by
  apply BitVec.eq_of_getLsbD_eq
  intro i hi
  rw [BitVec.getLsbD_and, BitVec.getLsbD_and, BitVec.getLsbD_sshiftRight, BitVec.getLsbD_ushiftRight]
  by_cases q : i < 8
  · rw [if_pos (by omega), decide_eq_false (by omega : ¬ 64 ≤ i)]; simp
  · have e : (255#64 : BitVec 64).getLsbD i = false := by
      have : ∀ i : Nat, i < 64 → ¬ i < 8 → (255#64 : BitVec 64).getLsbD i = false := by decide
      exact this i hi q
    rw [e, Bool.and_false, Bool.and_false]
def byt (c : Int64) (k : Nat) : Nat := c.toBitVec.toNat / 2 ^ (8 * k) % 256
theorem i32_of {y : Int64} {n : Nat} (h : y.toBitVec.toNat = n) (hn : n < 256) : y.toInt32 = nI n := by
  apply Int32.toBitVec_inj.mp
  apply BitVec.eq_of_toNat_eq
  rw [Int64.toBitVec_toInt32, BitVec.signExtend_eq_setWidth_of_le _ (by decide), BitVec.toNat_setWidth, h, pk_tn (by omega)]
  omega
theorem sh_k : ∀ k : Nat, k < 8 → (((8 * nI k : Int32).toInt64 &&& 63).toBitVec.smod 64).toNat = 8 * k := by decide
theorem ush_k : ∀ k : Nat, k < 8 → (((8 * nI k : Int32).toInt64.toUInt64 &&& Int64.toUInt64 63).toBitVec % 64).toNat = 8 * k := by decide
theorem byt_m (c : Int64) {k : Nat} (hk : k < 8) : (((c >>> ((8 * nI k : Int32).toInt64 &&& 63)) &&& 255) : Int64).toInt32 = nI (byt c k) := by
  refine i32_of ?_ (Nat.mod_lt _ (by decide))
  rw [Int64.toBitVec_and, Int64.toBitVec_shiftRight, BitVec.sshiftRight_eq', sh_k k hk]
  show (c.toBitVec.sshiftRight (8 * k) &&& 255#64).toNat = _
  rw [b_ssh _ _ (by omega), b_and, BitVec.toNat_ushiftRight, Nat.shiftRight_eq_div_pow]
  rfl
theorem byt_c (c : Int64) {k : Nat} (hk : k < 8) : (((c.toUInt64 >>> ((8 * nI k : Int32).toInt64.toUInt64 &&& Int64.toUInt64 63)).toInt64 &&& 255) : Int64).toInt32 = nI (byt c k) := by
  refine i32_of ?_ (Nat.mod_lt _ (by decide))
  have e : (c.toUInt64 >>> ((8 * nI k : Int32).toInt64.toUInt64 &&& Int64.toUInt64 63)).toInt64.toBitVec = c.toBitVec >>> (8 * k) := by
    rw [← ush_k k hk]
    exact UInt64.toBitVec_shiftRight _ _
  rw [Int64.toBitVec_and, e]
  show (c.toBitVec >>> (8 * k) &&& 255#64).toNat = _
  rw [b_and, BitVec.toNat_ushiftRight, Nat.shiftRight_eq_div_pow]
  rfl
/-- what is left of a long after k bytes -/
theorem rest_0 {r : Int64} {n : Nat} (h : r.toBitVec.toNat = n) : lg_cmp r 0 = 0 ↔ n = 0 := by
  unfold lg_cmp
  have e : r = 0 ↔ n = 0 := by
    rw [← h, ← Int64.toBitVec_inj]
    constructor
    · intro z; rw [z]; rfl
    · intro z; exact BitVec.eq_of_toNat_eq z
  by_cases g : r > 0
  · rw [if_pos g]
    refine ⟨fun z => absurd z (by decide), fun z => ?_⟩
    rw [e.mpr z] at g
    exact absurd g (by decide)
  · rw [if_neg g]
    by_cases q : r = 0
    · rw [if_pos q]; exact ⟨fun _ => e.mp q, fun _ => rfl⟩
    · rw [if_neg q]; exact ⟨fun z => absurd z (by decide), fun z => absurd (e.mpr z) q⟩
theorem rest_b {r : Int64} {n : Nat} (h : r.toBitVec.toNat = n) : (r &&& 255 : Int64).toBitVec.toNat = n % 256 := by
  rw [Int64.toBitVec_and]
  show (r.toBitVec &&& 255#64).toNat = _
  rw [b_and, h]
theorem rest_s {r : Int64} {n : Nat} (h : r.toBitVec.toNat = n) : (r.toUInt64 >>> ((8 : Int32).toInt64.toUInt64 &&& Int64.toUInt64 63)).toInt64.toBitVec.toNat = n / 256 := by
  have e : (r.toUInt64 >>> ((8 : Int32).toInt64.toUInt64 &&& Int64.toUInt64 63)).toInt64.toBitVec = r.toBitVec >>> 8 := by
    have e8 : (((8 : Int32).toInt64.toUInt64 &&& Int64.toUInt64 63).toBitVec % 64).toNat = 8 := by decide
    rw [show r.toBitVec >>> 8 = r.toBitVec >>> (((8 : Int32).toInt64.toUInt64 &&& Int64.toUInt64 63).toBitVec % 64).toNat by rw [e8]]
    exact UInt64.toBitVec_shiftRight _ _
  rw [e, BitVec.toNat_ushiftRight, Nat.shiftRight_eq_div_pow, h]
/-- the text that a long gives: K characters, K ≤ 8; none, if it gives none or gives them wrongly -/
def okc (c : Int64) (K : Nat) : Prop := ∀ k, k < K → 33 ≤ byt c k ∧ byt c k ≤ 126
theorem div_step (u k : Nat) : u / 2 ^ (8 * k) / 256 = u / 2 ^ (8 * (k + 1)) := by
  rw [Nat.div_div_eq_div_mul, show 256 = 2 ^ 8 from rfl, ← Nat.pow_add]
  rfl
theorem u64 (c : Int64) : c.toBitVec.toNat / 2 ^ (8 * 8) = 0 := by
  have := c.toBitVec.isLt
  omega
/-- the reference, once no more may come -/
theorem putE (c : Int64) (K : Int32 → Int32 → Int32 → Int32 → Option OUT_X8_put) : ∀ (d k N : Nat) (v5 : Int32) (b : Bool), k + d = 8 → d < N → f_X8_put_L11 c K N v5 (if b = true then 1 else 0) 1 (nI k) = K v5 (if b = true ∧ c.toBitVec.toNat / 2 ^ (8 * k) = 0 then 1 else 0) 1 8 := by
  intro d
  induction d with
  | zero =>
    intro k N v5 b h1 h2
    obtain ⟨N, rfl⟩ : ∃ z, N = z + 1 := ⟨N - 1, by omega⟩
    obtain rfl : k = 8 := by omega
    rw [f_X8_put_L11_s, if_pos (by decide), u64]
    cases b
    · rw [if_neg (by decide), if_neg (by decide)]; rfl
    · rw [if_pos rfl, if_pos ⟨rfl, rfl⟩]; rfl
  | succ d ih =>
    intro k N v5 b h1 h2
    obtain ⟨N, rfl⟩ : ∃ z, N = z + 1 := ⟨N - 1, by omega⟩
    have hk : k < 8 := by omega
    rw [f_X8_put_L11_s, if_neg (show ¬ (8 : Int32) ≤ nI k from nI_ge hk (by decide)), byt_m c hk, bd_eq]
    have key : ∀ b' : Bool, b' = (b && decide (byt c k = 0)) → f_X8_put_L11 c K N (v5 + 0) (if b' = true then 1 else 0) 1 (nI (k + 1)) = K v5 (if b = true ∧ c.toBitVec.toNat / 2 ^ (8 * k) = 0 then 1 else 0) 1 8 := fun b' hb => by
      rw [ih (k + 1) N (v5 + 0) b' (by omega) (by omega), Int32.add_zero]
      congr 1
      have e := div_step c.toBitVec.toNat k
      have hz : (b = true ∧ c.toBitVec.toNat / 2 ^ (8 * k) = 0) ↔ (b' = true ∧ c.toBitVec.toNat / 2 ^ (8 * (k + 1)) = 0) := by
        rw [hb, Bool.and_eq_true, decide_eq_true_iff, ← e]
        unfold byt
        generalize c.toBitVec.toNat / 2 ^ (8 * k) = y
        constructor
        · rintro ⟨q1, q2⟩; exact ⟨⟨q1, by omega⟩, by omega⟩
        · rintro ⟨⟨q1, q2⟩, q3⟩; exact ⟨q1, by omega⟩
      by_cases q : b = true ∧ c.toBitVec.toNat / 2 ^ (8 * k) = 0
      · rw [if_pos q, if_pos (hz.mp q)]
      · rw [if_neg q, if_neg (fun z => q (hz.mpr z))]
    rw [jn_eq]
    dsimp only
    rw [if_pos n10, jn_eq]
    dsimp only
    cases b with
    | false =>
      rw [if_neg (show ¬ (false = true) by decide), if_pos e00, jn_eq]
      dsimp only
      rw [if_neg n10, bd_eq, bd_eq, nI_1]
      exact key false rfl
    | true =>
      rw [if_pos (show (true = true) from rfl), if_neg n10, if_neg n10]
      by_cases z : byt c k = 0
      · rw [if_neg (show ¬ ¬ nI (byt c k) = 0 from not_not_intro (by rw [z]; rfl)), jn_eq]
        dsimp only
        rw [if_neg n10, bd_eq, bd_eq, nI_1]
        exact key true (by rw [z]; rfl)
      · rw [if_pos (show ¬ nI (byt c k) = 0 from nI_ne0 (by omega) (by have : byt c k < 256 := Nat.mod_lt _ (by decide); omega)), jn_eq]
        dsimp only
        rw [if_neg n10, bd_eq, bd_eq, nI_1]
        exact key false (by rw [decide_eq_false z]; rfl)
