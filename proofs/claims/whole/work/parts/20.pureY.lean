theorem putF (c : Int64) (K : Int32 → Int32 → Int32 → Int32 → Option OUT_X8_put) : ∀ (d k N : Nat) (v5 : Int32), k + d = 8 → d < N → ∃ w24 w26, f_X8_put_L11 c K N v5 0 0 (nI k) = K w24 0 w26 8 := by
  intro d
  induction d with
  | zero =>
    intro k N v5 h1 h2
    obtain ⟨N, rfl⟩ : ∃ z, N = z + 1 := ⟨N - 1, by omega⟩
    obtain rfl : k = 8 := by omega
    rw [f_X8_put_L11_s, if_pos (by decide)]
    exact ⟨_, _, rfl⟩
  | succ d ih =>
    intro k N v5 h1 h2
    obtain ⟨N, rfl⟩ : ∃ z, N = z + 1 := ⟨N - 1, by omega⟩
    have hk : k < 8 := by omega
    rw [f_X8_put_L11_s, if_neg (show ¬ (8 : Int32) ≤ nI k from nI_ge hk (by decide)), byt_m c hk, bd_eq, jn_eq]
    dsimp only
    rw [if_neg nn0]
    by_cases z : byt c k = 0
    · rw [if_neg (show ¬ ¬ nI (byt c k) = 0 from not_not_intro (by rw [z]; rfl)), jn_eq]
      dsimp only
      rw [if_pos e00, jn_eq]
      dsimp only
      rw [if_neg n10, bd_eq, bd_eq, nI_1]
      have e := putE c K d (k + 1) N (v5 + 0) false (by omega) (by omega)
      rw [if_neg (show ¬ (false = true) by decide), if_neg (fun y => absurd y.1 (by decide))] at e
      exact ⟨_, _, e⟩
    · rw [if_pos (show ¬ nI (byt c k) = 0 from nI_ne0 (by omega) (by have : byt c k < 256 := Nat.mod_lt _ (by decide); omega)), jn_eq]
      dsimp only
      rw [if_pos e00, jn_eq]
      dsimp only
      rw [if_pos e00, bd_eq, bd_eq, nI_1]
      exact ih (k + 1) N _ (by omega) (by omega)
theorem chars_2 (c : Int64) (K : Int32 → Int32 → Int32 → Int32 → Option OUT_X8_put) : ∀ (d k N : Nat) (r : Int64), k + d = 8 → d + 1 < N → r.toBitVec.toNat = c.toBitVec.toNat / 2 ^ (8 * k) → okc c k → ∃ (q w24 w25 w26 : Int32), f_X2_charactersIn_L4 (fun (w11 : Int32) (w12 : Int64) => (if ¬ (lg_cmp w12 0) = 0 then some (0) else some (w11))) N (nI k) r = some q ∧ f_X8_put_L11 c K N (nI k) 1 0 (nI k) = K w24 w25 w26 8 ∧ ((w25 = 0 ∧ q = 0) ∨ (w25 = 1 ∧ ∃ M : Nat, M ≤ 8 ∧ w24 = nI M ∧ q = nI M ∧ okc c M)) := by
  intro d
  induction d with
  | zero =>
    intro k N r h1 h2 hr ho
    obtain ⟨N, rfl⟩ : ∃ z, N = z + 1 := ⟨N - 1, by omega⟩
    obtain rfl : k = 8 := by omega
    rw [f_X8_put_L11_s, f_X2_charactersIn_L4_s, if_pos (show (8 : Int32) ≤ nI 8 by decide), if_pos (show (8 : Int32) ≤ nI 8 by decide), if_neg (not_not_intro ((rest_0 hr).mpr (u64 c)))]
    exact ⟨nI 8, nI 8, 1, 0, rfl, rfl, Or.inr ⟨rfl, 8, by omega, rfl, rfl, ho⟩⟩
  | succ d ih =>
    intro k N r h1 h2 hr ho
    obtain ⟨N, rfl⟩ : ∃ z, N = z + 1 := ⟨N - 1, by omega⟩
    have hk : k < 8 := by omega
    have h8 : ¬ (8 : Int32) ≤ nI k := nI_ge hk (by decide)
    have hb256 : byt c k < 256 := Nat.mod_lt _ (by decide)
    have hrb : (r &&& 255 : Int64).toBitVec.toNat = byt c k := rest_b hr
    have hri : (r &&& 255 : Int64).toInt32 = nI (byt c k) := i32_of hrb hb256
    have e := div_step c.toBitVec.toNat k
    rw [f_X8_put_L11_s, f_X2_charactersIn_L4_s, if_neg h8, if_neg h8, byt_m c hk, bd_eq (nI (byt c k)), jn_eq]
    dsimp only
    rw [if_neg nn0]
    by_cases z : byt c k = 0
    · rw [if_pos ((rest_0 hrb).mpr z), if_neg (show ¬ ¬ nI (byt c k) = 0 from not_not_intro (by rw [z]; rfl)), jn_eq]
      dsimp only
      rw [if_neg n10, if_neg n10, if_neg (show ¬ ¬ nI (byt c k) = 0 from not_not_intro (by rw [z]; rfl)), jn_eq]
      dsimp only
      rw [if_neg n10, bd_eq, bd_eq, nI_1, Int32.add_zero]
      have e2 := putE c K d (k + 1) N (nI k) true (by omega) (by omega)
      rw [if_pos (show (true = true) from rfl)] at e2
      rw [e2]
      have hz : c.toBitVec.toNat / 2 ^ (8 * k) = 0 ↔ c.toBitVec.toNat / 2 ^ (8 * (k + 1)) = 0 := by
        rw [← e]
        unfold byt at z
        generalize c.toBitVec.toNat / 2 ^ (8 * k) = y at *
        omega
      by_cases q : c.toBitVec.toNat / 2 ^ (8 * k) = 0
      · rw [if_neg (not_not_intro ((rest_0 hr).mpr q)), if_pos ⟨rfl, hz.mp q⟩]
        exact ⟨_, _, _, _, rfl, rfl, Or.inr ⟨rfl, k, by omega, rfl, rfl, ho⟩⟩
      · rw [if_pos (fun y => q ((rest_0 hr).mp y)), if_neg (fun y => q (hz.mpr y.2))]
        exact ⟨_, _, _, _, rfl, rfl, Or.inl ⟨rfl, rfl⟩⟩
    · rw [if_neg (fun y => z ((rest_0 hrb).mp y)), if_pos (show ¬ nI (byt c k) = 0 from nI_ne0 (by omega) (by omega)), jn_eq]
      dsimp only
      rw [if_neg n10, if_pos e00, hri, wi_eq, in_eq, bn_some, bn_some, jn_eq]
      dsimp only
      have k1 := nI_leI (a := 33) (b := byt c k) (by omega) (by omega)
      have k2 := nI_leI (a := byt c k) (b := 126) (by omega) (by omega)
      by_cases y : 33 ≤ byt c k ∧ byt c k ≤ 126
      · have hx : ¬ bI (33 ≤ nI (byt c k) ∧ nI (byt c k) ≤ 126) = 0 := fun w => (bI_0 _).mp w ⟨k1.mpr y.1, k2.mpr y.2⟩
        rw [if_pos hx, if_neg hx, jn_eq]
        dsimp only
        rw [if_pos e00, bd_eq, bd_eq, bd_eq, bd_eq, nI_1]
        exact ih (k + 1) N _ (by omega) (by omega) (by rw [rest_s hr, e]) (fun j hj => by
          by_cases qj : j = k
          · rw [qj]; exact y
          · exact ho j (by omega))
      · have hx : bI (33 ≤ nI (byt c k) ∧ nI (byt c k) ≤ 126) = 0 := (bI_0 _).mpr (fun w => y ⟨k1.mp w.1, k2.mp w.2⟩)
        rw [if_neg (not_not_intro hx), if_pos hx, if_pos e00, bd_eq, bd_eq, nI_1]
        obtain ⟨w24, w26, e3⟩ := putF c K d (k + 1) N (nI (k + 1)) (by omega) (by omega)
        rw [e3]
        exact ⟨_, _, _, _, rfl, rfl, Or.inl ⟨rfl, rfl⟩⟩
theorem char_n {n : Nat} (h : n < 65536) : vp_nar .char ((nI n).toUInt32 % 65536).toInt32 = nI n := by
  rw [pk_vc, pk_char, pk_tn (by omega), Nat.mod_eq_of_lt h]
theorem app_2 (c : Int64) (M : Nat) (hM : M ≤ 8) (ho : okc c M) : ∀ (j N L : Nat) (tx pad_ : Nat → Int32) (x : Nat → Nat), j ≤ M → j < N → L + j ≤ 80 → TxR (nI L) tx (nI L) pad_ L x → ∃ tx' pad' x', f_X2_append_L5 c (fun (w11 : Int32) (w12 : Int32) (w13 : Nat → Int32) => some (w12, w13)) N (nI j - 1) (nI L) tx = some (nI (L + j), tx') ∧ f_X8_put_L136 c (fun (w37 : Int32) (w38 : Int32) (w39 : Nat → Int32) => some ((w38, w38, w39))) N (nI j - 1) (nI L) pad_ = some (nI (L + j), nI (L + j), pad') ∧ TxR (nI (L + j)) tx' (nI (L + j)) pad' (L + j) x' := by
  intro j
  induction j with
  | zero =>
    intro N L tx pad_ x h1 h2 h3 h4
    obtain ⟨N, rfl⟩ : ∃ z, N = z + 1 := ⟨N - 1, by omega⟩
    rw [f_X2_append_L5_s, f_X8_put_L136_s, if_pos (show nI 0 - 1 < 0 by decide), if_pos (show nI 0 - 1 < 0 by decide)]
    exact ⟨tx, pad_, x, rfl, rfl, h4⟩
  | succ j ih =>
    intro N L tx pad_ x h1 h2 h3 h4
    obtain ⟨N, rfl⟩ : ∃ z, N = z + 1 := ⟨N - 1, by omega⟩
    have hj : j < 8 := by omega
    obtain ⟨b1, b2⟩ := ho j (by omega)
    have g : vp_in (nI L) 80 := vp_in_nI (by omega) (by decide)
    have hc : (nI L).toNatClampNeg = L := nI_clamp (by omega)
    have hn : ¬ nI j < 0 := nI_pos (by omega)
    rw [f_X2_append_L5_s, f_X8_put_L136_s, nI_p (by omega), show j + 1 - 1 = j by omega, if_neg hn, if_neg hn, gd_ok g, gd_ok g, byt_m c hj, byt_c c hj, char_n (by omega), hc, bd_eq, bd_eq, bd_eq, ← Int32.sub_eq_add_neg, nI_1, show L + (j + 1) = L + 1 + j by omega]
    obtain ⟨a1, a2, a3, a4⟩ := h4
    refine ih N (L + 1) (upd tx L (nI (byt c j))) (upd pad_ L (nI (byt c j))) (fun i => if i = L then byt c j else x i) (by omega) (by omega) (by omega) ⟨rfl, rfl, by omega, fun i hi => ?_⟩
    dsimp only
    by_cases q : i = L
    · rw [if_pos q, q, upd_at, upd_at]; exact ⟨b1, b2, rfl, rfl⟩
    · rw [if_neg q, upd_ne _ q, upd_ne _ q]; exact a4 i (by omega)
theorem sim_put {pl le_ : Int32} {tx pad_ : Nat → Int32} {m : Nat} {x : Nat → Nat} (hx : TxR pl tx le_ pad_ m x) (c : Int64) : ∃ r r', f_X7_put pl tx c = some r ∧ f_X8_put le_ pad_ c = some r' ∧ r.1 = r'.1 ∧ ∃ m x, TxR r.2.1 r.2.2 r'.2.1 r'.2.2 m x := by
  unfold f_X7_put f_X8_put f_X2_charactersIn
  obtain ⟨q, w24, w25, w26, e1, e2, e3⟩ := chars_2 c (fun (w24 : Int32) (w25 : Int32) (w26 : Int32) (w27 : Int32) => (if w25 = 0 then some (((-2), le_, pad_)) else (if ¬ w24 = 0 then (if (le_ + w24) ≤ 80 then bd (w24 - 1) (fun x28 => f_X8_put_L136 c (fun (w37 : Int32) (w38 : Int32) (w39 : Nat → Int32) => some ((w38, w38, w39))) 4000 x28 le_ pad_) else some (((-4), le_, pad_))) else some (((-2), le_, pad_))))) 8 0 4000 c rfl (by decide) (by rw [Nat.mul_zero, Nat.pow_zero, Nat.div_one]) (fun k hk => absurd hk (by omega))
  rw [show f_X2_charactersIn_L4 _ 4000 0 c = some q from e1, bn_some, show f_X8_put_L11 c _ 4000 0 1 0 0 = _ from e2]
  rcases e3 with ⟨rfl, rfl⟩ | ⟨rfl, M, hM, rfl, rfl, ho⟩
  · rw [if_neg nn0, if_pos e00]
    exact ⟨_, _, rfl, rfl, rfl, m, x, hx⟩
  · rw [if_neg n10]
    by_cases M0 : M = 0
    · rw [M0, if_neg (show ¬ ¬ nI 0 = 0 from not_not_intro rfl), if_neg (show ¬ ¬ nI 0 = 0 from not_not_intro rfl)]
      exact ⟨_, _, rfl, rfl, rfl, m, x, hx⟩
    · have hM0 : ¬ nI M = 0 := nI_ne0 (by omega) (by omega)
      obtain ⟨a1, a2, a3, a4⟩ := id hx
      rw [if_pos hM0, if_pos hM0, a1, a2, nI_add]
      by_cases q : m + M ≤ 80
      · have q' : nI (m + M) ≤ 80 := (nI_leI (b := 80) (by omega) (by decide)).mpr q
        rw [if_pos q', if_pos q', bd_eq]
        obtain ⟨tx', pad', x', s1, s2, s3⟩ := app_2 c M hM ho M 4000 m tx pad_ x (Nat.le_refl _) (by omega) q (by rw [a1, a2] at hx; exact hx)
        unfold f_X2_append
        rw [bd_eq, s1, s2, bn_some]
        exact ⟨_, _, rfl, rfl, rfl, m + M, x', s3⟩
      · have q' : ¬ nI (m + M) ≤ 80 := fun z => q ((nI_leI (b := 80) (by omega) (by decide)).mp z)
        rw [if_neg q', if_neg q']
        refine ⟨_, _, rfl, rfl, rfl, m, x, ?_⟩
        rw [a1, a2] at hx; exact hx
