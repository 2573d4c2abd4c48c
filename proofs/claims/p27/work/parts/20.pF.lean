theorem su_hd (m : Nat) (g : Nat → Int32) : su (m + 1) g = g 0 + su m (fun j => g (j + 1)) := by
  induction m with
  | zero => rw [su, su, su, Int32.zero_add, Int32.add_zero]
  | succ m ih => rw [su_s, ih, su_s, Int32.add_assoc]
theorem su_rev (n : Nat) : ∀ g : Nat → Int32, su n (fun j => g (n - 1 - j)) = su n g := by
  induction n with
  | zero => intro g; rfl
  | succ n ih =>
    intro g
    rw [su_s, su_hd n g, ← ih (fun j => g (j + 1)), Int32.add_comm (g 0), show n + 1 - 1 - n = 0 by omega]
    rw [su_cg (n := n) (g := fun j => g (n + 1 - 1 - j)) (h := fun j => g (n - 1 - j + 1)) (fun i hi => congrArg g (by omega))]
theorem ors_cg {n : Nat} {g h : Nat → Int32} (e : ∀ i, i < n → g i = h i) : ors n g = ors n h := by
  induction n with
  | zero => rfl
  | succ n ih => rw [ors_s, ors_s, ih (fun i hi => e i (by omega)), e n (by omega)]
theorem ors_hd (m : Nat) (g : Nat → Int32) : ors (m + 1) g = g 0 ||| ors m (fun j => g (j + 1)) := by
  induction m with
  | zero => rw [ors_s, ors, ors, Int32.zero_or, Int32.or_zero]
  | succ m ih => rw [ors_s, ih, ors_s, Int32.or_assoc]
theorem ors_rev (n : Nat) : ∀ g : Nat → Int32, ors n (fun j => g (n - 1 - j)) = ors n g := by
  induction n with
  | zero => intro g; rfl
  | succ n ih =>
    intro g
    rw [ors_s, ors_hd n g, ← ih (fun j => g (j + 1)), Int32.or_comm (g 0), show n + 1 - 1 - n = 0 by omega]
    rw [ors_cg (n := n) (g := fun j => g (n + 1 - 1 - j)) (h := fun j => g (n - 1 - j + 1)) (fun i hi => congrArg g (by omega))]
theorem mxs_v {px : Nat → Int32} {p : Nat → Nat} (n : Nat) (hp : ∀ k, k < n → p k ≤ 1800 ∧ px k = nI (p k)) : ∃ M, M ≤ 1800 ∧ mxs n px = nI M ∧ (∀ k, k < n → p k ≤ M) ∧ (M = 0 ∨ ∃ k, k < n ∧ p k = M) := by
  induction n with
  | zero => exact ⟨0, by omega, rfl, fun k hk => absurd hk (by omega), Or.inl rfl⟩
  | succ n ih =>
    obtain ⟨M, m1, m2, m3, m4⟩ := ih (fun k hk => hp k (by omega))
    obtain ⟨q1, q2⟩ := hp n (by omega)
    by_cases q : p n ≤ M
    · refine ⟨M, m1, ?_, fun k hk => ?_, ?_⟩
      · rw [mxs, m2, q2, if_pos (nI_le q (by omega))]
      · by_cases y : k = n
        · rw [y]; exact q
        · exact m3 k (by omega)
      · rcases m4 with z | ⟨k, k1, k2⟩
        · exact Or.inl z
        · exact Or.inr ⟨k, by omega, k2⟩
    · refine ⟨p n, q1, ?_, fun k hk => ?_, Or.inr ⟨n, by omega, rfl⟩⟩
      · rw [mxs, m2, q2, if_neg (nI_ge (by omega) (by omega))]
      · by_cases y : k = n
        · rw [y]; exact Nat.le_refl _
        · have := m3 k (by omega); omega
theorem col_loop {o : OB} {p : Nat → Nat} (hp : ∀ k, k < 384 → p k ≤ 1800 ∧ o.1.2.2.2.2.2.2.2.2.2.2.2.1 k = nI (p k)) {l : Nat} (hl : l < 16) {x : Nat} (hx : x ≤ 1800) : ∃ y, y ≤ 1800 ∧ x ≤ y ∧ (∀ M, x ≤ M → (∀ k, k < 384 → p k ≤ M) → y ≤ M) ∧ (∀ c, c < 24 → p (24 * l + c) ≤ y) ∧ ∀ K : Int32 → Int32 → Int32 → Int32 → Int32 → Option OUT_L_isPicture, f_L_isPicture_L33 o (nI l) K 4000 (nI x) 0 0 (-6) 23 = K (nI y) (ors 24 (litb o.1.2.2.2.2.2.2.2.2.2.2.2.1 l)) (su 24 (fun c => o.1.2.2.2.2.2.2.2.2.2.2.2.1 (24 * l + c))) (fD o.1.2.2.2.2.2.2.2.2.2.2.2.1 l 24) (-1) := by
  have step : ∀ (i : Nat) (y : Nat), ∃ y', (i < 24 → y ≤ 1800 → y' ≤ 1800 ∧ y ≤ y' ∧ p (24 * l + (23 - i)) ≤ y' ∧ (∀ M, y ≤ M → (∀ k, k < 384 → p k ≤ M) → y' ≤ M) ∧ ∀ (K : Int32 → Int32 → Int32 → Int32 → Int32 → Option OUT_L_isPicture) (N : Nat) (a b c : Int32), f_L_isPicture_L33 o (nI l) K (N + 1) (nI y) a b c (iI (23 - (i : Int))) = f_L_isPicture_L33 o (nI l) K N (nI y') (a ||| litb o.1.2.2.2.2.2.2.2.2.2.2.2.1 l (23 - i)) (b + o.1.2.2.2.2.2.2.2.2.2.2.2.1 (24 * l + (23 - i))) (if o.1.2.2.2.2.2.2.2.2.2.2.2.1 (24 * l + (23 - i)) = 0 then c else nI (23 - i)) (iI (23 - ((i + 1 : Nat) : Int)))) := by
    intro i y
    by_cases hi : i < 24
    · obtain ⟨p1, p2⟩ := hp (24 * l + (23 - i)) (by omega)
      have ec : iI (23 - (i : Int)) = nI (23 - i) := by rw [← iI_nat]; congr 1; omega
      have ed : nI (23 - i) + -1 = iI (23 - ((i + 1 : Nat) : Int)) := by rw [← iI_nat, show (-1 : Int32) = iI (-1) from rfl, iI_add]; congr 1; omega
      refine ⟨if p (24 * l + (23 - i)) ≤ y then y else p (24 * l + (23 - i)), fun _ hy => ⟨?_, ?_, ?_, fun M h1 h2 => ?_, fun K N a b c => ?_⟩⟩
      · split <;> omega
      · split <;> omega
      · split <;> omega
      · have := h2 (24 * l + (23 - i)) (by omega)
        split <;> omega
      · have g0 : ¬ nI (p (24 * l + (23 - i))) < 0 := nI_pos (by omega)
        have g1 : nI (p (24 * l + (23 - i))) ≤ 1800 := nI_le (b := 1800) p1 (by decide)
        rw [f_L_isPicture_L33_s, ec, if_neg (nI_pos (show 23 - i < 2 ^ 31 by omega)), pix_v o hl (show 23 - i < 24 by omega), bn_some, p2, if_neg g0, if_pos g1]
        unfold litb
        simp only [jn_ite, bd_eq, ed]
        simp only [jn_eq, p2]
        by_cases z : p (24 * l + (23 - i)) = 0
        · rw [z]
          by_cases w : 0 ≤ y
          · rw [if_pos (show nI 0 ≤ nI y from nI_le w (by omega)), if_pos w, if_pos (show nI 0 ≤ 0 from Int32.le_refl _), if_pos (show nI 0 ≤ 0 from Int32.le_refl _), if_pos (show nI 0 = 0 from rfl), if_pos (show nI 0 = 0 from rfl)]
          · omega
        · rw [if_neg (nI_nle0 (show 1 ≤ p (24 * l + (23 - i)) by omega) (by omega)), if_neg (nI_nle0 (show 1 ≤ p (24 * l + (23 - i)) by omega) (by omega)), if_neg (nI_ne0 (show 0 < p (24 * l + (23 - i)) by omega) (by omega)), if_neg (nI_ne0 (show 0 < p (24 * l + (23 - i)) by omega) (by omega))]
          by_cases w : p (24 * l + (23 - i)) ≤ y
          · rw [if_pos (nI_le w (by omega)), if_pos w]
          · rw [if_neg (nI_ge (show y < p (24 * l + (23 - i)) by omega) (by omega)), if_neg w]
    · exact ⟨0, fun z => absurd z hi⟩
  have key : ∀ (d i N y : Nat) (a b c : Int32), i + d = 24 → d < N → y ≤ 1800 → ∃ y', y' ≤ 1800 ∧ y ≤ y' ∧ (∀ M, y ≤ M → (∀ k, k < 384 → p k ≤ M) → y' ≤ M) ∧ (∀ j, i ≤ j → j < 24 → p (24 * l + (23 - j)) ≤ y') ∧ ∀ K : Int32 → Int32 → Int32 → Int32 → Int32 → Option OUT_L_isPicture, a = ors i (fun j => litb o.1.2.2.2.2.2.2.2.2.2.2.2.1 l (23 - j)) → b = su i (fun j => o.1.2.2.2.2.2.2.2.2.2.2.2.1 (24 * l + (23 - j))) → c = fD o.1.2.2.2.2.2.2.2.2.2.2.2.1 l i → f_L_isPicture_L33 o (nI l) K N (nI y) a b c (iI (23 - (i : Int))) = K (nI y') (ors 24 (fun j => litb o.1.2.2.2.2.2.2.2.2.2.2.2.1 l (23 - j))) (su 24 (fun j => o.1.2.2.2.2.2.2.2.2.2.2.2.1 (24 * l + (23 - j)))) (fD o.1.2.2.2.2.2.2.2.2.2.2.2.1 l 24) (-1) := by
    intro d
    induction d with
    | zero =>
      intro i N y a b c h1 h2 h3
      obtain ⟨N, rfl⟩ : ∃ z, N = z + 1 := ⟨N - 1, by omega⟩
      obtain rfl : i = 24 := by omega
      refine ⟨y, h3, Nat.le_refl _, fun M q _ => q, fun j j1 j2 => absurd j1 (by omega), fun K ea eb ec => ?_⟩
      rw [f_L_isPicture_L33_s, if_pos (show iI (23 - ((24 : Nat) : Int)) < 0 by decide), ea, eb, ec]
      rfl
    | succ d ih =>
      intro i N y a b c h1 h2 h3
      obtain ⟨N, rfl⟩ : ∃ z, N = z + 1 := ⟨N - 1, by omega⟩
      obtain ⟨y1, hy1⟩ := step i y
      obtain ⟨s1, s2, s3, s4, s5⟩ := hy1 (by omega) h3
      obtain ⟨y2, t1, t2, t3, t4, t5⟩ := ih (i + 1) N y1 (a ||| litb o.1.2.2.2.2.2.2.2.2.2.2.2.1 l (23 - i)) (b + o.1.2.2.2.2.2.2.2.2.2.2.2.1 (24 * l + (23 - i))) (if o.1.2.2.2.2.2.2.2.2.2.2.2.1 (24 * l + (23 - i)) = 0 then c else nI (23 - i)) (by omega) (by omega) s1
      refine ⟨y2, t1, by omega, fun M q1 q2 => t3 M (s4 M q1 q2) q2, fun j j1 j2 => ?_, fun K ea eb ec => ?_⟩
      · by_cases q : j = i
        · rw [q]; omega
        · exact t4 j (by omega) j2
      · rw [s5 K N a b c, t5 K (by rw [ea, ors_s]) (by rw [eb, su_s]) (by rw [ec, fD_s])]
  obtain ⟨y', k1, k2, k3, k4, k5⟩ := key 24 0 4000 x 0 0 (-6) rfl (by decide) hx
  refine ⟨y', k1, k2, k3, fun c hc => ?_, fun K => ?_⟩
  · have := k4 (23 - c) (by omega) (by omega)
    rw [show 23 - (23 - c) = c by omega] at this
    exact this
  · have := k5 K rfl rfl rfl
    rw [show iI (23 - ((0 : Nat) : Int)) = 23 from rfl] at this
    rw [this, ← ors_rev 24 (litb o.1.2.2.2.2.2.2.2.2.2.2.2.1 l), ← su_rev 24 (fun c => o.1.2.2.2.2.2.2.2.2.2.2.2.1 (24 * l + c))]
abbrev dkf (px : Nat → Int32) (l : Nat) : Int32 := if ors 24 (litb px l) = 0 then 1 <<< (nI l &&& 31) else 0
theorem line_loop {o : OB} {p : Nat → Nat} (hp : ∀ k, k < 384 → p k ≤ 1800 ∧ o.1.2.2.2.2.2.2.2.2.2.2.2.1 k = nI (p k)) (K : Int32 → Int32 → Int32 → Int32 → Int32 → Option OUT_L_isPicture) : ∃ z : Int32, f_L_isPicture_L12 o K 4000 0 0 0 0 0 = K (ors 16 (dkf o.1.2.2.2.2.2.2.2.2.2.2.2.1)) (mxs 384 o.1.2.2.2.2.2.2.2.2.2.2.2.1) (su 16 (bnd o.1.2.2.2.2.2.2.2.2.2.2.2.1)) z (nI 16) := by
  obtain ⟨w, e, y, h1, h2, h3, h4, h5, h6, h7⟩ := loopI (fun N (v : Int32 × Int32 × Int32 × Int32) i => f_L_isPicture_L12 o K N v.1 v.2.1 v.2.2.1 v.2.2.2 (nI i)) 16 (fun v => K v.1 v.2.1 v.2.2.1 v.2.2.2 (nI 16)) (fun i v => ∃ y : Nat, v.1 = ors i (dkf o.1.2.2.2.2.2.2.2.2.2.2.2.1) ∧ v.2.1 = nI y ∧ v.2.2.1 = su i (bnd o.1.2.2.2.2.2.2.2.2.2.2.2.1) ∧ (v.2.2.2 = if i = 0 then 0 else dbl o.1.2.2.2.2.2.2.2.2.2.2.2.1 (i - 1)) ∧ y ≤ 1800 ∧ (∀ M, (∀ k, k < 384 → p k ≤ M) → y ≤ M) ∧ ∀ k, k < 24 * i → p k ≤ y) (fun N v h => by
    rw [f_L_isPicture_L12_s, if_pos (by decide)]) (fun N v i hi h => by
    obtain ⟨y, g1, g2, g3, g4, g5, g6, g7⟩ := h
    obtain ⟨y', a1, a2, a3, a4, a5⟩ := col_loop hp hi g5
    obtain ⟨l0, l1, l2⟩ := line_v o hi
    rw [f_L_isPicture_L12_s, if_neg (show ¬ (16 : Int32) ≤ nI i from nI_ge hi (by decide)), g2, a5]
    simp only [l0, l1, l2, bn_some, jn_ite, jn_ite3, bd_eq, nI_1]
    rw [if_neg (not_not_intro trivial), if_neg (not_not_intro trivial), if_pos trivial]
    refine ⟨(_, _, _, _), rfl, y', ?_, rfl, ?_, ?_, a1, fun M hM => a3 M (g6 M hM) hM, fun k hk => ?_⟩
    · show v.1 ||| (if ¬ ors 24 (litb o.1.2.2.2.2.2.2.2.2.2.2.2.1 i) = 0 then (0 : Int32) else 1 <<< (nI i &&& 31)) = ors i (dkf o.1.2.2.2.2.2.2.2.2.2.2.2.1) ||| dkf o.1.2.2.2.2.2.2.2.2.2.2.2.1 i
      rw [g1]
      by_cases q : ors 24 (litb o.1.2.2.2.2.2.2.2.2.2.2.2.1 i) = 0
      · rw [if_neg (not_not_intro q), dkf, if_pos q]
      · rw [if_pos q, dkf, if_neg q]
    · show v.2.2.1 + (if nI i ≤ 0 then (0 : Int32) else if v.2.2.2 = (if ¬ ors 24 (litb o.1.2.2.2.2.2.2.2.2.2.2.2.1 i) = 0 then (0 : Int32) else 1) then 0 else 1) = su i (bnd o.1.2.2.2.2.2.2.2.2.2.2.2.1) + bnd o.1.2.2.2.2.2.2.2.2.2.2.2.1 i
      rw [g3, g4]
      by_cases q : i = 0
      · rw [q]; rfl
      · rw [if_neg (nI_nle0 (by omega) (by omega)), if_neg q]
        show _ = su i (bnd o.1.2.2.2.2.2.2.2.2.2.2.2.1) + (if i = 0 then 0 else if dbl o.1.2.2.2.2.2.2.2.2.2.2.2.1 i = dbl o.1.2.2.2.2.2.2.2.2.2.2.2.1 (i - 1) then 0 else 1)
        rw [if_neg q]
        show su i (bnd o.1.2.2.2.2.2.2.2.2.2.2.2.1) + (if dbl o.1.2.2.2.2.2.2.2.2.2.2.2.1 (i - 1) = dbl o.1.2.2.2.2.2.2.2.2.2.2.2.1 i then 0 else 1) = _
        by_cases q2 : dbl o.1.2.2.2.2.2.2.2.2.2.2.2.1 i = dbl o.1.2.2.2.2.2.2.2.2.2.2.2.1 (i - 1)
        · rw [if_pos q2.symm, if_pos q2]
        · rw [if_neg (fun z => q2 z.symm), if_neg q2]
    · show _ = if i + 1 = 0 then 0 else dbl o.1.2.2.2.2.2.2.2.2.2.2.2.1 (i + 1 - 1)
      rw [if_neg (show ¬ i + 1 = 0 by omega), Nat.add_sub_cancel]; rfl
    · by_cases q : k < 24 * i
      · have := g7 k q; omega
      · have := a4 (k - 24 * i) (by omega)
        rw [show 24 * i + (k - 24 * i) = k by omega] at this
        exact this) 16 0 4000 (0, 0, 0, 0) rfl (by decide) ⟨0, rfl, rfl, rfl, rfl, by omega, fun M _ => Nat.zero_le M, fun k hk => absurd hk (by omega)⟩
  obtain ⟨M, m1, m2, m3, m4⟩ := mxs_v 384 hp
  have hyM : y = M := by
    have q1 := h6 M m3
    rcases m4 with q | ⟨k, k1, k2⟩
    · omega
    · have := h7 k (by omega)
      omega
  refine ⟨w.2.2.2, ?_⟩
  rw [m2, ← hyM, ← h2, ← h1, ← h3]
  exact e
/-! lines that are joined -/
def jsf (px : Nat → Int32) (z k : Nat) : Int32 := su z (fun q => if k * z + q < 16 then px (24 * (k * z + q) + 7) else 0)
theorem su_zero {n : Nat} {g : Nat → Int32} (h : ∀ i, i < n → g i = 0) : su n g = 0 := by
  induction n with
  | zero => rfl
  | succ n ih => rw [su_s, ih (fun i hi => h i (by omega)), h n (by omega)]; rfl
theorem joined_v {n T z0 z1 z2 z3 : Nat} {o : OB} (h : SO n T z0 z1 z2 z3 o) {k : Nat} (hk : k < 16) : F_joined o (nI k) 7 = some (if k * z3 < 16 then jsf o.1.2.2.2.2.2.2.2.2.2.2.2.1 z3 k else -1) := by
  obtain ⟨-, -, -, -, -, ⟨z1', z4, e3⟩, -⟩ := h
  have hz : k * z3 ≤ 15 * 4 := Nat.mul_le_mul (by omega) z4
  unfold F_joined f_X7_joined
  rw [g34, c_3, e3, bd_eq, show f_X7_isPlace (nI k) 7 = some 1 from place_1 (c := 7) hk (by decide), bn_some, if_neg n10, pk_mul, nI_add, show (16 : Int32) = nI 16 from rfl]
  by_cases q : k * z3 < 16
  · obtain ⟨E, hE, hE1, hE2⟩ : ∃ E : Nat, (if nI (k * z3 + z3) < nI 16 then nI (k * z3 + z3) else nI 16) = nI E ∧ (E ≤ 16 ∧ E ≤ k * z3 + z3 ∧ k * z3 ≤ E) ∧ (E = 16 ∨ E = k * z3 + z3) := by
      by_cases q2 : k * z3 + z3 < 16
      · exact ⟨k * z3 + z3, if_pos ((nI_ltI (by omega) (by decide)).mpr q2), by omega, Or.inr rfl⟩
      · exact ⟨16, if_neg (fun y => q2 ((nI_ltI (by omega) (by decide)).mp y)), by omega, Or.inl rfl⟩
    rw [if_pos ((nI_ltI (by omega) (by decide)).mpr q), bd_eq, hE, bd_eq, if_pos q]
    obtain ⟨w, e, hw⟩ := loopI (fun N v i => f_X7_joined_L48 o.1.2.2.2.2.2.2.2.2.2.2.2.1 7 (nI E) (fun (w13 : Int32) (w14 : Int32) => some (w13)) N v (nI i)) E (fun v => some v) (fun i v => k * z3 ≤ i ∧ v = su (i - k * z3) (fun q => o.1.2.2.2.2.2.2.2.2.2.2.2.1 (24 * (k * z3 + q) + 7))) (fun N v h => by
      rw [f_X7_joined_L48_s, if_pos (Int32.le_refl _)]) (fun N v i hi h => by
      refine ⟨_, ?_, by omega, rfl⟩
      rw [f_X7_joined_L48_s, if_neg (nI_ge hi (by omega)), show f_X3_pixelAt o.1.2.2.2.2.2.2.2.2.2.2.2.1 (nI i) 7 = some (o.1.2.2.2.2.2.2.2.2.2.2.2.1 (24 * i + 7)) from px_c (c := 7) (by omega) (by decide), bn_some, bd_eq, bd_eq, nI_1, h.2, show i + 1 - k * z3 = (i - k * z3) + 1 by omega, su_s, show k * z3 + (i - k * z3) = i by omega]) (E - k * z3) (k * z3) 4000 0 (by omega) (by omega) ⟨Nat.le_refl _, by rw [Nat.sub_self]; rfl⟩
    rw [e, hw.2]
    have es : jsf o.1.2.2.2.2.2.2.2.2.2.2.2.1 z3 k = su ((E - k * z3) + (z3 - (E - k * z3))) (fun q => if k * z3 + q < 16 then o.1.2.2.2.2.2.2.2.2.2.2.2.1 (24 * (k * z3 + q) + 7) else 0) := by
      rw [show (E - k * z3) + (z3 - (E - k * z3)) = z3 by omega]; rfl
    rw [es, su_split, su_zero (n := z3 - (E - k * z3)) (fun i hi => if_neg (by omega)), Int32.add_zero]
    exact congrArg some (su_cg (fun i hi => (if_pos (by omega)).symm))
  · rw [if_neg (fun y => q ((nI_ltI (by omega) (by decide)).mp y)), if_neg q]
theorem join_in {o : OB} {k z : Nat} (hk : k < 16) (z4 : z ≤ 4) (K : Int32 → Int32 → Option OUT_L_isPicture) : f_L_isPicture_L245 o (nI z) (nI k) K 4000 0 0 = K (jsf o.1.2.2.2.2.2.2.2.2.2.2.2.1 z k) (nI z) := by
  have hz : k * z ≤ 15 * 4 := Nat.mul_le_mul (by omega) z4
  obtain ⟨w, e, hw⟩ := loopI (fun N v i => f_L_isPicture_L245 o (nI z) (nI k) K N v (nI i)) z (fun v => K v (nI z)) (fun i v => v = su i (fun q => if k * z + q < 16 then o.1.2.2.2.2.2.2.2.2.2.2.2.1 (24 * (k * z + q) + 7) else 0)) (fun N v h => by
    rw [f_L_isPicture_L245_s, if_pos (Int32.le_refl _)]) (fun N v i hi h => by
    refine ⟨_, ?_, rfl⟩
    rw [f_L_isPicture_L245_s, if_neg (nI_ge hi (by omega)), pk_mul, nI_add, h, su_s]
    simp only [jn_eq, bd_eq, nI_1]
    by_cases q : k * z + i < 16
    · rw [if_neg (show ¬ (16 : Int32) ≤ nI (k * z + i) from nI_ge (b := 16) q (by decide)), show F_pixel o (nI (k * z + i)) 7 = some (o.1.2.2.2.2.2.2.2.2.2.2.2.1 (24 * (k * z + i) + 7)) from pix_v o (c := 7) q (by decide), bn_some, if_pos q]
    · rw [if_pos (show (16 : Int32) ≤ nI (k * z + i) from nI_le (a := 16) (by omega) (by omega)), if_neg q]) z 0 4000 0 (by omega) (by omega) rfl
  rw [show nI 0 = 0 from rfl] at e
  rw [e, hw]
  rfl
theorem join_loop {n T z0 z1 z2 z3 : Nat} {o : OB} (h : SO n T z0 z1 z2 z3 o) (K : Int32 → Option OUT_L_isPicture) : f_L_isPicture_L232 o (nI z3) K 4000 0 = K (nI 16) := by
  obtain ⟨-, -, -, -, -, ⟨z1', z4, e3⟩, -⟩ := id h
  obtain ⟨w, e, hw⟩ := loopI (fun N (_ : Unit) i => f_L_isPicture_L232 o (nI z3) K N (nI i)) 16 (fun _ => K (nI 16)) (fun i v => True) (fun N v h => by
    rw [f_L_isPicture_L232_s, if_pos (by decide)]) (fun N v i hi _ => by
    refine ⟨(), ?_, trivial⟩
    have hz : i * z3 ≤ 15 * 4 := Nat.mul_le_mul (by omega) z4
    rw [f_L_isPicture_L232_s, if_neg (show ¬ (16 : Int32) ≤ nI i from nI_ge hi (by decide)), join_in hi z4, joined_v h hi, bn_some, pk_mul]
    simp only [jn_ite, bd_eq, nI_1]
    by_cases q : i * z3 < 16
    · rw [if_pos q, if_neg (show ¬ (16 : Int32) ≤ nI (i * z3) from nI_ge (b := 16) q (by decide)), if_pos rfl]
    · rw [if_neg q, if_pos (show (16 : Int32) ≤ nI (i * z3) from nI_le (a := 16) (by omega) (by omega)), if_pos rfl]) 16 0 4000 () rfl (by decide) trivial
  rw [show nI 0 = 0 from rfl] at e
  exact e
theorem isPicture_v {n T z0 z1 z2 z3 : Nat} {o : OB} (h : SO n T z0 z1 z2 z3 o) : f_L_isPicture o = some 1 := by
  obtain ⟨-, -, -, -, -, ⟨-, -, e3⟩, -, -, -, -, hP⟩ := id h
  obtain ⟨p, hp⟩ : ∃ p : Nat → Nat, ∀ k, k < 384 → p k ≤ 1800 ∧ o.1.2.2.2.2.2.2.2.2.2.2.2.1 k = nI (p k) := ⟨fun k => (o.1.2.2.2.2.2.2.2.2.2.2.2.1 k).toNatClampNeg, fun k hk => by
    obtain ⟨z, h1, h2⟩ := hP k hk
    show (o.1.2.2.2.2.2.2.2.2.2.2.2.1 k).toNatClampNeg ≤ 1800 ∧ o.1.2.2.2.2.2.2.2.2.2.2.2.1 k = nI (o.1.2.2.2.2.2.2.2.2.2.2.2.1 k).toNatClampNeg
    rw [h2, nI_clamp (by omega)]
    exact ⟨h1, rfl⟩⟩
  unfold f_L_isPicture
  obtain ⟨z, e⟩ := line_loop hp (fun (w58 : Int32) (w59 : Int32) (w60 : Int32) (w61 : Int32) (w62 : Int32) => bn (F_count o 11) (fun r63 => f_L_isPicture_L232 o r63 (fun (w84 : Int32) => bn (F_count o 3) (fun r85 => (if ¬ r85 = w58 then none else bn (F_count o 4) (fun r86 => (if ¬ r86 = w59 then none else bn (F_count o 5) (fun r87 => (if ¬ r87 = w60 then none else bn (F_pixel o 16 0) (fun r88 => (if ¬ r88 = (-1) then none else bn (F_pixel o 0 24) (fun r89 => (if ¬ r89 = (-1) then none else some 1))))))))))) 4000 0))
  rw [e, cnt_11, bn_some, e3, join_loop h, cnt_3, bn_some, if_neg (not_not_intro rfl), cnt_4, bn_some, if_neg (not_not_intro rfl), cnt_5, bn_some, if_neg (not_not_intro rfl), pix_a, bn_some, if_neg (not_not_intro rfl), pix_b, bn_some, if_neg (not_not_intro rfl)]
