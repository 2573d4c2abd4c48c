theorem pass_89 {n T z0 z1 z2 z3 : Nat} {o : OB} (h : SO n T z0 z1 z2 z3 o) (hh : HO o) {m : Nat} (hm : m ≤ 135) (h9 : T + m ≤ 9999) (K : Int32 → Int32 → OB → Option OUT_L_leans) : ∃ o2 : OB, SO n (T + m) z0 z1 z2 z3 o2 ∧ HO o2 ∧ o2.2.2.2.2 = o.2.2.2.2 ∧ (∀ i t, LPo o2 i t = LPo o i t) ∧ f_L_leans_L89 (nI m) K 136 1 0 o = K 1 (nI m) o2 := by
  obtain ⟨w, e, h1, h2, h3, h4⟩ := loopI (fun N (v : OB) j => f_L_leans_L89 (nI m) K N 1 (nI j) v) m (fun v => K 1 (nI m) v) (fun j v => SO n (T + j) z0 z1 z2 z3 v ∧ HO v ∧ v.2.2.2.2 = o.2.2.2.2 ∧ ∀ i t, LPo v i t = LPo o i t) (fun N v hv => by
    rw [f_L_leans_L89_s, if_pos (Int32.le_refl _)]) (fun N v j hj hv => by
    obtain ⟨g1, g2, g3, g4⟩ := hv
    obtain ⟨hv', s1, X, hX, s2⟩ := pass_v g2 g1.2.1.2 (t := 1) (by decide) (by decide) (by omega)
    obtain ⟨o2, ho2⟩ : ∃ o2 : OB, o2 = oh v (v.1.1, v.1.2.1, v.1.2.2.1, v.1.2.2.2.1, v.1.2.2.2.2.1, v.1.2.2.2.2.2.1, v.1.2.2.2.2.2.2.1, v.1.2.2.2.2.2.2.2.1, v.1.2.2.2.2.2.2.2.2.1, v.1.2.2.2.2.2.2.2.2.2.1, v.1.2.2.2.2.2.2.2.2.2.2.1, v.1.2.2.2.2.2.2.2.2.2.2.2.1, nI (T + j + 1), v.1.2.2.2.2.2.2.2.2.2.2.2.2.2.1, v.1.2.2.2.2.2.2.2.2.2.2.2.2.2.2.1, v.1.2.2.2.2.2.2.2.2.2.2.2.2.2.2.2) hv' := ⟨_, rfl⟩
    rw [show nI 1 = 1 from rfl, ← ho2] at s1
    have f1 := SI.retime g1 (T' := T + j + 1) (by omega) (by omega) g1.2.2.2.2.2.2.2.2.2.2
    refine ⟨o2, ?_, by rw [ho2]; exact f1, by rw [ho2]; exact ⟨X, hX, s2⟩, by rw [ho2]; exact g3, by rw [ho2]; exact g4⟩
    rw [f_L_leans_L89_s, if_neg (nI_ge hj (by omega)), if_neg n10, s1, bn_some, if_neg (nI_nle0 (show 1 ≤ T + j + 1 by omega) (by omega)), bd_eq, nI_1]) m 0 136 o (by omega) (by omega) ⟨h, hh, rfl, fun _ _ => rfl⟩
  exact ⟨w, h1, h2, h3, h4, e⟩
theorem pass_133 {n T z0 z1 z2 z3 : Nat} {o : OB} (h : SO n T z0 z1 z2 z3 o) (hh : HO o) {m : Nat} (hm : m ≤ 135) (h9 : T + m ≤ 9999) (K : Int32 → Int32 → OB → Option OUT_L_leans) : ∃ o2 : OB, SO n (T + m) z0 z1 z2 z3 o2 ∧ HO o2 ∧ o2.2.2.2.2 = o.2.2.2.2 ∧ (∀ i t, LPo o2 i t = LPo o i t) ∧ f_L_leans_L133 (nI m) K 136 1 0 o = K 1 (nI m) o2 := by
  obtain ⟨w, e, h1, h2, h3, h4⟩ := loopI (fun N (v : OB) j => f_L_leans_L133 (nI m) K N 1 (nI j) v) m (fun v => K 1 (nI m) v) (fun j v => SO n (T + j) z0 z1 z2 z3 v ∧ HO v ∧ v.2.2.2.2 = o.2.2.2.2 ∧ ∀ i t, LPo v i t = LPo o i t) (fun N v hv => by
    rw [f_L_leans_L133_s, if_pos (Int32.le_refl _)]) (fun N v j hj hv => by
    obtain ⟨g1, g2, g3, g4⟩ := hv
    obtain ⟨hv', s1, X, hX, s2⟩ := pass_v g2 g1.2.1.2 (t := 1) (by decide) (by decide) (by omega)
    obtain ⟨o2, ho2⟩ : ∃ o2 : OB, o2 = oh v (v.1.1, v.1.2.1, v.1.2.2.1, v.1.2.2.2.1, v.1.2.2.2.2.1, v.1.2.2.2.2.2.1, v.1.2.2.2.2.2.2.1, v.1.2.2.2.2.2.2.2.1, v.1.2.2.2.2.2.2.2.2.1, v.1.2.2.2.2.2.2.2.2.2.1, v.1.2.2.2.2.2.2.2.2.2.2.1, v.1.2.2.2.2.2.2.2.2.2.2.2.1, nI (T + j + 1), v.1.2.2.2.2.2.2.2.2.2.2.2.2.2.1, v.1.2.2.2.2.2.2.2.2.2.2.2.2.2.2.1, v.1.2.2.2.2.2.2.2.2.2.2.2.2.2.2.2) hv' := ⟨_, rfl⟩
    rw [show nI 1 = 1 from rfl, ← ho2] at s1
    have f1 := SI.retime g1 (T' := T + j + 1) (by omega) (by omega) g1.2.2.2.2.2.2.2.2.2.2
    refine ⟨o2, ?_, by rw [ho2]; exact f1, by rw [ho2]; exact ⟨X, hX, s2⟩, by rw [ho2]; exact g3, by rw [ho2]; exact g4⟩
    rw [f_L_leans_L133_s, if_neg (nI_ge hj (by omega)), if_neg n10, s1, bn_some, if_neg (nI_nle0 (show 1 ≤ T + j + 1 by omega) (by omega)), bd_eq, nI_1]) m 0 136 o (by omega) (by omega) ⟨h, hh, rfl, fun _ _ => rfl⟩
  exact ⟨w, h1, h2, h3, h4, e⟩
theorem sub_k (x y : Int32) : x + 1000 - (y + 1000) = x - y := by
  have h1 := iI_as x; have h2 := iI_as y
  rw [← h1, ← h2, show (1000 : Int32) = iI 1000 from rfl, iI_add, iI_add, iI_sub, iI_sub]
  congr 1; omega
theorem leansL_v {n T z0 z1 z2 z3 : Nat} {o : OB} (h : SO n T z0 z1 z2 z3 o) (hh : HO o) {i : Nat} (hi_ : i < n) : ∃ o' T', f_L_leans o (nI i) = some (1, o') ∧ SO n T' z0 z1 z2 z3 o' ∧ HO o' := by
  obtain ⟨⟨n8, hn⟩, ⟨T9, ht⟩, ⟨a0, b0⟩, -, -, -, -, hT, hV, hB, hP⟩ := id h
  obtain ⟨⟨L, L1, L2⟩, ⟨E, E1, E2, E3⟩, -, -⟩ := hV i hi_
  obtain ⟨o0, -, o2, -, -, -, -, -⟩ := of_v h hi_
  have hA : L * z0 ≤ 15 * 9 := Nat.mul_le_mul L1 a0
  have hD' : (E - 1) * z0 ≤ 15 * 9 := Nat.mul_le_mul (by omega) a0
  unfold f_L_leans
  rw [leans_v h hi_ L2 E3 L1 E1 E2, bn_some, bd_eq, ad_sub, cnt_8, bn_some, b0, o0, bn_some, L2, pk_mul, bd_eq, o2, bn_some, E3, nI_p E1, pk_mul, bd_eq]
  by_cases z : z0 = 0
  · subst z
    obtain ⟨cam, eb⟩ := bent_v h
    rw [if_neg (not_not_intro (show nI 0 = 0 from rfl)), Nat.mul_zero, Nat.mul_zero, Int32.sub_self, if_neg (not_not_intro rfl), eb, bn_some, if_neg (not_not_intro rfl)]
    exact ⟨_, T, rfl, h, hh⟩
  · rw [if_pos (nI_ne0 (by omega) (by omega)), cnt_0, bn_some, ht]
    by_cases q : T ≤ 9500
    · rw [if_pos (show nI T ≤ 9500 from nI_le (b := 9500) q (by decide)), save_v, bn_some]
      obtain ⟨o1, ho1⟩ : ∃ o1 : OB, o1 = (o.1, o.2.1, o.2.2.1, o.2.2.2.1, (fun j => if j = 0 then true else o.2.2.2.2.1 j), (fun j => if j = 0 then o.1 else o.2.2.2.2.2 j)) := ⟨_, rfl⟩
      have h1 : SO n T z0 z1 z2 z3 o1 := by rw [ho1]; exact h
      have hh1 : HO o1 := by rw [ho1]; exact hh
      have hl1 : ∀ i t, LPo o1 i t = LPo o i t := by rw [ho1]; exact fun _ _ => rfl
      rw [← ho1]
      obtain ⟨o2, h2, hh2, k2, l2, e2⟩ := pass_89 h1 hh1 (m := L * z0) (by omega) (by omega) _
      rw [e2]
      obtain ⟨-, p2, -, -, -, -, -, -⟩ := of_v h2 hi_
      rw [p2, bn_some]
      obtain ⟨o3, h3, hh3, k3, l3, e3⟩ := pass_133 h2 hh2 (m := (E - 1) * z0) (by omega) (by omega) _
      rw [e3]
      obtain ⟨-, p3, -, -, -, -, -, -⟩ := of_v h3 hi_
      have ks : o3.2.2.2.2 = o1.2.2.2.2 := k3.trans k2
      have kp : o3.2.2.2.2.1 0 = true := by rw [ks, ho1]; rfl
      have kv : o3.2.2.2.2.2 0 = o.1 := by rw [ks, ho1]; rfl
      obtain ⟨o4, r1, r2, r3⟩ := restore_v hh3 kp kv h
      have el : LPo o3 i ((T + L * z0 + (E - 1) * z0 : Nat) : Int) = LPo o i ((T + (L * z0 + (E - 1) * z0) : Nat) : Int) := by rw [l3, l2, hl1, Nat.add_assoc]
      have el2 : LPo o2 i ((T + L * z0 : Nat) : Int) = LPo o i ((T + L * z0 : Nat) : Int) := by rw [l2, hl1]
      rw [if_neg n10, p3, bn_some, sub_k, el, el2, if_neg (not_not_intro rfl), r1, bn_some, hn, if_neg (not_not_intro rfl)]
      exact ⟨o4, T, rfl, r2, r3⟩
    · rw [if_neg (show ¬ nI T ≤ 9500 from nI_ge (a := 9500) (by omega) (by omega))]
      exact ⟨o, T, rfl, h, hh⟩
/-! how many lines a flash is in -/
theorem sm_24 : ∀ k : Nat, k < 24 → ((nI k &&& 31).toBitVec.smod 32).toNat = k := by decide
theorem ones_v {m : Nat} (h : m < 65536) : f_L_ones (nI m) = some (nI (onN m)) := by
  unfold f_L_ones
  obtain ⟨w, e, hw⟩ := loopI (fun N v i => f_L_ones_L4 (nI m) (fun (w8 : Int32) (w9 : Int32) => some (w8)) N v (nI i)) 24 (fun v => some v) (fun i v => v = su i (fun k => nI (m / 2 ^ k % 2))) (fun N v h => by
    rw [f_L_ones_L4_s, if_pos (by decide)]) (fun N v i hi hv => by
    refine ⟨_, ?_, rfl⟩
    rw [f_L_ones_L4_s, if_neg (show ¬ (24 : Int32) ≤ nI i from nI_ge hi (by decide)), pk_shrN (by omega) _ i (sm_24 i hi), pk_andN (by have := Nat.div_le_self m (2 ^ i); omega) 1 (by decide), hv, bd_eq, bd_eq, nI_1, su_s i]) 24 0 4000 0 rfl (by decide) rfl
  rw [hw, show (24 : Nat) = 16 + 8 from rfl, su_split 16 8, su_zero (n := 8) (fun j hj => by
    have : m / 2 ^ (16 + j) = 0 := Nat.div_eq_of_lt (Nat.lt_of_lt_of_le h (Nat.pow_le_pow_right (n := 2) (by decide) (show 16 ≤ 16 + j by omega)))
    rw [this]; rfl), Int32.add_zero] at e
  rw [show (0 : Int32) = nI 0 from rfl] at e ⊢
  rw [e]
  simp only [su, nI_add, Nat.reducePow]
  rw [show (0 : Int32) = nI 0 from rfl]
  simp only [nI_add]
  unfold onN
  rw [Nat.zero_add]
theorem on_le (m : Nat) : onN m ≤ 16 := by
  unfold onN
  have g : ∀ x : Nat, x % 2 ≤ 1 := fun x => by omega
  exact Nat.add_le_add (Nat.add_le_add (Nat.add_le_add (Nat.add_le_add (Nat.add_le_add (Nat.add_le_add (Nat.add_le_add (Nat.add_le_add (Nat.add_le_add (Nat.add_le_add (Nat.add_le_add (Nat.add_le_add (Nat.add_le_add (Nat.add_le_add (Nat.add_le_add (g (m / 1)) (g (m / 2))) (g (m / 4))) (g (m / 8))) (g (m / 16))) (g (m / 32))) (g (m / 64))) (g (m / 128))) (g (m / 256))) (g (m / 512))) (g (m / 1024))) (g (m / 2048))) (g (m / 4096))) (g (m / 8192))) (g (m / 16384))) (g (m / 32768))
theorem bdn_32768 {m : Nat} (a : m < 65536) (b : m / 32768 % 2 = 0) : m < 32768 := by omega
theorem bdn_16384 {m : Nat} (a : m < 32768) (b : m / 16384 % 2 = 0) : m < 16384 := by omega
theorem bdn_8192 {m : Nat} (a : m < 16384) (b : m / 8192 % 2 = 0) : m < 8192 := by omega
theorem bdn_4096 {m : Nat} (a : m < 8192) (b : m / 4096 % 2 = 0) : m < 4096 := by omega
theorem bdn_2048 {m : Nat} (a : m < 4096) (b : m / 2048 % 2 = 0) : m < 2048 := by omega
theorem bdn_1024 {m : Nat} (a : m < 2048) (b : m / 1024 % 2 = 0) : m < 1024 := by omega
theorem bdn_512 {m : Nat} (a : m < 1024) (b : m / 512 % 2 = 0) : m < 512 := by omega
theorem bdn_256 {m : Nat} (a : m < 512) (b : m / 256 % 2 = 0) : m < 256 := by omega
theorem bdn_128 {m : Nat} (a : m < 256) (b : m / 128 % 2 = 0) : m < 128 := by omega
theorem bdn_64 {m : Nat} (a : m < 128) (b : m / 64 % 2 = 0) : m < 64 := by omega
theorem bdn_32 {m : Nat} (a : m < 64) (b : m / 32 % 2 = 0) : m < 32 := by omega
theorem bdn_16 {m : Nat} (a : m < 32) (b : m / 16 % 2 = 0) : m < 16 := by omega
theorem bdn_8 {m : Nat} (a : m < 16) (b : m / 8 % 2 = 0) : m < 8 := by omega
theorem bdn_4 {m : Nat} (a : m < 8) (b : m / 4 % 2 = 0) : m < 4 := by omega
theorem bdn_2 {m : Nat} (a : m < 4) (b : m / 2 % 2 = 0) : m < 2 := by omega
theorem bdn_1 {m : Nat} (a : m < 2) (b : m / 1 % 2 = 0) : m < 1 := by omega
theorem ad0 {a b : Nat} (h : a + b = 0) : a = 0 ∧ b = 0 := ⟨by omega, by omega⟩
theorem on_pos {m : Nat} (h : m < 65536) (h0 : ¬ m = 0) : 1 ≤ onN m := by
  refine Nat.pos_of_ne_zero (fun e => h0 ?_)
  unfold onN at e
  obtain ⟨e, e32768⟩ := ad0 e
  obtain ⟨e, e16384⟩ := ad0 e
  obtain ⟨e, e8192⟩ := ad0 e
  obtain ⟨e, e4096⟩ := ad0 e
  obtain ⟨e, e2048⟩ := ad0 e
  obtain ⟨e, e1024⟩ := ad0 e
  obtain ⟨e, e512⟩ := ad0 e
  obtain ⟨e, e256⟩ := ad0 e
  obtain ⟨e, e128⟩ := ad0 e
  obtain ⟨e, e64⟩ := ad0 e
  obtain ⟨e, e32⟩ := ad0 e
  obtain ⟨e, e16⟩ := ad0 e
  obtain ⟨e, e8⟩ := ad0 e
  obtain ⟨e, e4⟩ := ad0 e
  obtain ⟨e, e2⟩ := ad0 e
  exact Nat.lt_one_iff.mp (bdn_1 (bdn_2 (bdn_4 (bdn_8 (bdn_16 (bdn_32 (bdn_64 (bdn_128 (bdn_256 (bdn_512 (bdn_1024 (bdn_2048 (bdn_4096 (bdn_8192 (bdn_16384 (bdn_32768 (h) e32768) e16384) e8192) e4096) e2048) e1024) e512) e256) e128) e64) e32) e16) e8) e4) e2) e)
theorem or_r0 {a b : Int32} (h : a ||| b = 0) : b = 0 := by
  have h1 : (a.toBitVec ||| b.toBitVec).toNat = 0 := by rw [← Int32.toBitVec_or, h]; rfl
  rw [BitVec.toNat_or] at h1
  apply Int32.toBitVec_inj.mp
  apply BitVec.eq_of_toNat_eq
  have h2 : b.toBitVec.toNat ≤ a.toBitVec.toNat ||| b.toBitVec.toNat := Nat.right_le_or
  rw [h1] at h2
  show b.toBitVec.toNat = 0
  omega
theorem or_l0 {a b : Int32} (h : a ||| b = 0) : a = 0 := or_r0 (a := b) (b := a) (by rw [Int32.or_comm]; exact h)
theorem ors_0 {g : Nat → Int32} : ∀ n : Nat, ors n g = 0 → ∀ i, i < n → g i = 0
  | 0, _, i, hi => absurd hi (Nat.not_lt_zero i)
  | n + 1, h, i, hi => by
    rw [ors_s] at h
    by_cases q : i = n
    · rw [q]; exact or_r0 h
    · exact ors_0 n (or_l0 h) i (by omega)
theorem pop_q (T z0 z1 q d : Nat) : ∃ c : Nat, c ≤ 16 ∧ f_J6_bitCount_0f7a4 (ors 16 (fb T z0 z1 q d)) = some (nI c) ∧ f_L_ones (ors 16 (fb T z0 z1 q d)) = some (nI c) ∧ (¬ ors 16 (fb T z0 z1 q d) = 0 → 1 ≤ c) := by
  obtain ⟨m, hm, e⟩ := ors_nI (n := 16) (g := fb T z0 z1 q d) (fun i hi => by
    unfold fb
    split
    · exact bit_lt i hi
    · decide)
  refine ⟨onN m, on_le m, ?_, ?_, fun h0 => on_pos hm (fun z => h0 ?_)⟩
  · rw [e, bits_c hm, pop_eq hm]
  · rw [e, ones_v hm]
  · rw [e, z]; rfl
theorem best_run {n T z0 z1 z2 z3 : Nat} {o : OB} (h : SO n T z0 z1 z2 z3 o) {d : Nat} (hd1 : 1 ≤ d) (hd : d ≤ 20) {cn : Nat → Nat} (hcn : ∀ q, cn q ≤ 16 ∧ f_J6_bitCount_0f7a4 (ors 16 (fb T z0 z1 q d)) = some (nI (cn q)) ∧ f_L_ones (ors 16 (fb T z0 z1 q d)) = some (nI (cn q)) ∧ (¬ ors 16 (fb T z0 z1 q d) = 0 → 1 ≤ cn q)) : ∃ b m : Nat, b < 100 ∧ 1 ≤ m ∧ m ≤ 16 ∧ (∀ k, k < 100 → cn (T + k) ≤ m) ∧ cn (T + b) = m ∧ (∀ k, k < b → cn (T + k) < m) ∧ ∀ K : Int32 → Int32 → Int32 → Option OUT_X7_bestFlash, f_X7_bestFlash_L30 o.1.1 o.1.2.2.2.2.2.2.2.2.2.2.2.2.1 (nI d) K 4000 0 0 0 = K (nI b) (nI m) (nI 100) := by
  obtain ⟨-, ⟨T9, ht⟩, ⟨a0, b0⟩, ⟨a1, a1', b1⟩, -⟩ := id h
  have ec : ∀ i : Nat, i ≤ 99 → f_X5_linesFlashed o.1.1 o.1.2.2.2.2.2.2.2.2.2.2.2.2.1 (o.1.2.2.2.2.2.2.2.2.2.2.2.2.1 + nI i) (nI d) = some (ors 16 (fb T z0 z1 (T + i) d)) := fun i hi => by
    have := flash_c (q := T + i) (d := d) ht T9 a0 a1' b0 b1 (by omega) hd
    rw [← nI_add, ← ht] at this
    exact this
  have key : ∀ (k i N x y : Nat), i + k = 100 → k < N → y ≤ 16 → x < 100 → (∀ j, j < i → cn (T + j) ≤ y) → (0 < y → cn (T + x) = y ∧ ∀ j, j < x → cn (T + j) < y) → ∃ b m : Nat, b < 100 ∧ m ≤ 16 ∧ (∀ j, j < 100 → cn (T + j) ≤ m) ∧ (0 < m → cn (T + b) = m ∧ ∀ j, j < b → cn (T + j) < m) ∧ ∀ K : Int32 → Int32 → Int32 → Option OUT_X7_bestFlash, f_X7_bestFlash_L30 o.1.1 o.1.2.2.2.2.2.2.2.2.2.2.2.2.1 (nI d) K N (nI x) (nI y) (nI i) = K (nI b) (nI m) (nI 100) := by
    intro k
    induction k with
    | zero =>
      intro i N x y h1 h2 h3 h4 h5 h6
      obtain ⟨N, rfl⟩ : ∃ z, N = z + 1 := ⟨N - 1, by omega⟩
      obtain rfl : i = 100 := by omega
      refine ⟨x, y, h4, h3, h5, h6, fun K => ?_⟩
      rw [f_X7_bestFlash_L30_s, if_pos (show (99 : Int32) < nI 100 by decide)]
    | succ k ih =>
      intro i N x y h1 h2 h3 h4 h5 h6
      obtain ⟨N, rfl⟩ : ∃ z, N = z + 1 := ⟨N - 1, by omega⟩
      obtain ⟨q1, q2, q3, q4⟩ := hcn (T + i)
      have hi99 : ¬ (99 : Int32) < nI i := nI_nlt (a := 99) (b := i) (by omega) (by decide)
      by_cases y1 : cn (T + i) ≤ y
      · obtain ⟨b, m, r1, r2, r3, r4, r5⟩ := ih (i + 1) N x y (by omega) (by omega) h3 h4 (fun j hj => by
          by_cases z : j = i
          · rw [z]; exact y1
          · exact h5 j (by omega)) h6
        refine ⟨b, m, r1, r2, r3, r4, fun K => ?_⟩
        rw [f_X7_bestFlash_L30_s, if_neg hi99, ec i (by omega), bn_some, q2, bn_some, if_pos (nI_le y1 (by omega)), bd_eq, nI_1, r5]
      · obtain ⟨b, m, r1, r2, r3, r4, r5⟩ := ih (i + 1) N i (cn (T + i)) (by omega) (by omega) q1 (by omega) (fun j hj => by
          by_cases z : j = i
          · rw [z]; exact Nat.le_refl _
          · have := h5 j (by omega); omega) (fun _ => ⟨rfl, fun j hj => by have := h5 j hj; omega⟩)
        refine ⟨b, m, r1, r2, r3, r4, fun K => ?_⟩
        rw [f_X7_bestFlash_L30_s, if_neg hi99, ec i (by omega), bn_some, q2, bn_some, if_neg (nI_ge (show y < cn (T + i) by omega) (by omega)), bd_eq, nI_1, r5]
  obtain ⟨b, m, r1, r2, r3, r4, r5⟩ := key 100 0 4000 0 0 rfl (by decide) (by decide) (by decide) (fun j hj => absurd hj (by omega)) (fun z => absurd z (by decide))
  have hm : 1 ≤ m := by
    obtain ⟨q1, q2, q3, q4⟩ := hcn (T + 0)
    have q5 := q4 (fun z => by
      have := ors_0 16 z 0 (by decide)
      unfold fb at this
      rw [if_pos (show T + 0 * z0 < T + 0 + d ∧ T + 0 < T + 0 * z0 + z1 by omega)] at this
      exact absurd this (by decide))
    have := r3 0 (by decide)
    omega
  exact ⟨b, m, r1, hm, r2, r3, (r4 hm).1, (r4 hm).2, r5⟩
theorem flashed_v {n T z0 z1 z2 z3 : Nat} {o : OB} (h : SO n T z0 z1 z2 z3 o) {q d : Nat} (hq : q ≤ 20000) (hd : d ≤ 20) (hf : o.1.2.2.2.2.2.2.2.2.2.2.2.2.2.2.1 = nI q) (hk : o.1.2.2.2.2.2.2.2.2.2.2.2.2.2.2.2 = nI d) : F_flashed o = some (ors 16 (fb T z0 z1 q d)) := by
  obtain ⟨-, ⟨T9, ht⟩, ⟨a0, b0⟩, ⟨a1, a1', b1⟩, -⟩ := id h
  unfold F_flashed f_X7_flashed
  rw [hf, hk, flash_c ht T9 a0 a1' b0 b1 hq hd, bn_some]
theorem isBest_v {n T z0 z1 z2 z3 : Nat} {o : OB} (h : SO n T z0 z1 z2 z3 o) (hh : HO o) {d : Nat} (hd1 : 1 ≤ d) (hd : d ≤ 20) : ∃ o', f_L_isBestFlash o (nI d) = some (1, o') ∧ SO n T z0 z1 z2 z3 o' ∧ HO o' := by
  obtain ⟨cn, hcn⟩ : ∃ cn : Nat → Nat, ∀ q, cn q ≤ 16 ∧ f_J6_bitCount_0f7a4 (ors 16 (fb T z0 z1 q d)) = some (nI (cn q)) ∧ f_L_ones (ors 16 (fb T z0 z1 q d)) = some (nI (cn q)) ∧ (¬ ors 16 (fb T z0 z1 q d) = 0 → 1 ≤ cn q) := ⟨fun q => (pop_q T z0 z1 q d).choose, fun q => (pop_q T z0 z1 q d).choose_spec⟩
  obtain ⟨b, m, r1, r2, r3, r4, r5, r6, r7⟩ := best_run h hd1 hd hcn
  obtain ⟨-, ⟨T9, ht⟩, -⟩ := id h
  have w1 : f_X7_within (nI d) 1 20 = some 1 := wi_1 (a := 1) (b := 20) hd1 hd (by decide)
  have e0 : F_bestFlash o (nI d) 0 = some (nI b) := by
    unfold F_bestFlash f_X7_bestFlash
    rw [w1, bn_some, if_neg n10, show f_X7_within 0 0 1 = some 1 from rfl, bn_some, if_pos n10, r7, if_neg nn0]
  have e1 : F_bestFlash o (nI d) 1 = some (nI m) := by
    unfold F_bestFlash f_X7_bestFlash
    rw [w1, bn_some, if_neg n10, show f_X7_within 1 0 1 = some 1 from rfl, bn_some, if_pos n10, r7, if_pos n10]
  unfold f_L_isBestFlash
  rw [e0, bn_some, e1, bn_some, if_neg (nI_pos (show b < 2 ^ 31 by omega)), if_neg (show ¬ (100 : Int32) ≤ nI b from nI_ge (b := 100) r1 (by decide)), if_neg (nI_nle0 r2 (by omega)), if_neg (show ¬ (16 : Int32) < nI m from nI_nlt (a := 16) r3 (by decide))]
  obtain ⟨w, e, h1, h2⟩ := loopI (fun N (v : OB) k => f_L_isBestFlash_L44 (nI d) (nI b) (nI m) (fun (w22 : Int32) (w23 : Int32) (w24 : OB) => gb w22 (some (w22, w24))) N 1 (nI k) v) 100 (fun v => some (1, v)) (fun k v => SO n T z0 z1 z2 z3 v ∧ HO v) (fun N v hv => by
    rw [f_L_isBestFlash_L44_s, if_pos (show (100 : Int32) ≤ nI 100 from Int32.le_refl _), gb_ok (Or.inr rfl)]) (fun N v k hk hv => by
    obtain ⟨g1, g2⟩ := hv
    obtain ⟨hv', s1, X, hX, s2⟩ := flash_v g2 g1.2.1.2 (x := k) (d := d) (by omega) hd1 hd
    have f1 := SI.flash g1 (x := k) (d := d) (by omega) hd1 hd
    obtain ⟨o2, ho2⟩ : ∃ o2 : OB, o2 = oh v (v.1.1, v.1.2.1, v.1.2.2.1, v.1.2.2.2.1, v.1.2.2.2.2.1, v.1.2.2.2.2.2.1, v.1.2.2.2.2.2.2.1, v.1.2.2.2.2.2.2.2.1, v.1.2.2.2.2.2.2.2.2.1, v.1.2.2.2.2.2.2.2.2.2.1, v.1.2.2.2.2.2.2.2.2.2.2.1, v.1.2.2.2.2.2.2.2.2.2.2.2.1, v.1.2.2.2.2.2.2.2.2.2.2.2.2.1, v.1.2.2.2.2.2.2.2.2.2.2.2.2.2.1, nI (T + k), nI d) hv' := ⟨_, rfl⟩
    have h2 : SO n T z0 z1 z2 z3 o2 := by rw [ho2]; exact f1
    have k1 : o2.1.2.2.2.2.2.2.2.2.2.2.2.2.2.2.1 = nI (T + k) := by rw [ho2]
    have k2 : o2.1.2.2.2.2.2.2.2.2.2.2.2.2.2.2.2 = nI d := by rw [ho2]
    have k3 : o2.1.2.2.2.2.2.2.2.2.2.2.2.2.1 = nI T := h2.2.1.2
    have hh2 : HO o2 := by rw [ho2]; exact ⟨X, hX, s2⟩
    obtain ⟨q1, q2, q3, q4⟩ := hcn (T + k)
    refine ⟨o2, ?_, h2, hh2⟩
    rw [f_L_isBestFlash_L44_s, if_neg (show ¬ (100 : Int32) ≤ nI k from nI_ge (b := 100) hk (by decide)), if_neg n10, s1, ← ho2, bn_some]
    rw [flashed_v h2 (q := T + k) (d := d) (by omega) hd k1 k2, bn_some, q3, bn_some, cnt_0, bn_some, k3, nI_add, if_neg (not_not_intro rfl), jn_eq]
    by_cases y1 : b ≤ k
    · rw [if_pos (nI_le y1 (by omega))]
      by_cases y2 : k = b
      · rw [if_neg (not_not_intro (congrArg nI y2)), if_neg (not_not_intro (by rw [y2, r5])), bd_eq, nI_1]
      · rw [if_pos (fun z => y2 ((nI_eq (by omega) (by omega)).mp z)), if_neg (nI_nlt (r4 k hk) (by omega)), bd_eq, nI_1]
    · rw [if_neg (nI_ge (by omega) (by omega)), if_neg (nI_ge (r6 k (by omega)) (by omega)), bd_eq, nI_1]) 100 0 101 o rfl (by decide) ⟨h, hh⟩
  rw [show nI 0 = 0 from rfl] at e
  exact ⟨w, e, h1, h2⟩
