theorem low_v (a : Int32) {m : Nat} {M : Int32} (hM : M = nI m) (h0 : 0 < m) (hm : m < 2 ^ 31) : ∃ j, j < m ∧ f_L_low a M = some (nI j) := by
  obtain ⟨j, hj, e⟩ := pk_andE a (m := 2147483647) 31 (by first | rfl | decide)
  unfold f_L_low
  rw [hM, gz_ok (nI_ne0 h0 hm), e, pk_rem (by omega) h0 hm]
  exact ⟨j % m, Nat.mod_lt _ h0, rfl⟩
theorem jn_ite {α β : Type} {c : Prop} [Decidable c] (K : α → Option β) (a b : α) : jn K (fun j => if c then j a else j b) = K (if c then a else b) := by
  unfold jn; split <;> rfl
theorem jn_ite3 {α β : Type} {c d : Prop} [Decidable c] [Decidable d] (K : α → Option β) (a b e : α) : jn K (fun j => if c then j a else (if d then j b else j e)) = K (if c then a else (if d then b else e)) := by
  unfold jn; split
  · rfl
  · split <;> rfl
theorem spS_s (sp un : Nat → Int32) (k i : Nat) : spS sp un (k + 1) i = sp i + (if un i < 0 then 0 else spS sp un k (un i).toNatClampNeg) := rfl
theorem sp_fuel {n : Nat} {sp si un : Nat → Int32} (hT : ThOK n sp si un) : ∀ (i k k' : Nat), i < n → i < k → i < k' → spS sp un k i = spS sp un k' i := by
  intro i
  induction i using Nat.strongRecOn with
  | ind i ih =>
    intro k k' hi hk hk'
    obtain ⟨k, rfl⟩ : ∃ z, k = z + 1 := ⟨k - 1, by omega⟩
    obtain ⟨k', rfl⟩ : ∃ z, k' = z + 1 := ⟨k' - 1, by omega⟩
    have h8 := hT.1
    obtain ⟨-, -, hu⟩ := hT.2 i hi
    rw [spS_s, spS_s]
    rcases hu with hu | ⟨j, hj, hu⟩
    · have hz : un i < 0 := by rw [hu]; decide
      rw [if_pos hz, if_pos hz]
    · have hz : ¬ un i < 0 := by rw [hu]; exact nI_pos (by omega)
      rw [if_neg hz, if_neg hz, hu, nI_clamp (show j < 2 ^ 31 by omega), ih j hj k k' (by omega) (by omega) (by omega)]
theorem isThing_v {n T z0 z1 z2 z3 : Nat} {o : OB} (h : SO n T z0 z1 z2 z3 o) {i : Nat} (hi_ : i < n) : f_L_isThing o (nI i) = some 1 := by
  obtain ⟨o0, o1, o2, o3, o4, o5, o6, o7⟩ := of_v h hi_
  obtain ⟨⟨n8, hn⟩, -, -, -, -, -, -, hT, hV, -, -⟩ := id h
  obtain ⟨⟨L, L1, L2⟩, ⟨E, E1, E2, E3⟩, ⟨W, W1, W2, W3⟩, ⟨Q, B1, B2, B3⟩⟩ := hV i hi_
  obtain ⟨⟨s1, s2⟩, -, hu⟩ := hT.2 i hi_
  have k1 : ¬ o.1.2.2.2.2.2.2.1 i < -40 := fun z => by
    have := Int32.lt_iff_toInt_lt.mp z
    rw [show (-40 : Int32).toInt = -40 from rfl] at this
    omega
  have k2 : ¬ (40 : Int32) < o.1.2.2.2.2.2.2.1 i := fun z => by
    have := Int32.lt_iff_toInt_lt.mp z
    rw [show (40 : Int32).toInt = 40 from rfl] at this
    omega
  unfold f_L_isThing
  simp only [o0, o2, o3, o4, o5, o6, o7, bn_some, bd_eq, ad_sub, L2, E3, W3, B3]
  rw [if_neg (nI_pos (show L < 2 ^ 31 by omega)), if_neg (show ¬ (16 : Int32) ≤ nI L from nI_ge (b := 16) (by omega) (by decide)), if_neg (nI_nle0 E1 (by omega)), if_neg (nI_nle0 W1 (by omega)), if_neg (nI_nle0 B1 (by omega)), if_neg k1, if_neg k2]
  simp only [jn_eq]
  have es := spS_s o.1.2.2.2.2.2.2.1 o.1.2.2.2.2.2.2.2.2.2.1 7 i
  rcases hu with hu | ⟨j, hj, hu⟩
  · rw [hu, if_pos (show (-6 : Int32) < 0 by decide)] at es
    rw [hu, if_pos (show (-6 : Int32) = -6 from rfl), if_neg (not_not_intro (show (-6 : Int32) = -6 from rfl)), if_neg (not_not_intro es)]
  · have j6 : ¬ nI j = -6 := fun z => absurd (show (-6 : Int32) < 0 by decide) (by rw [← z]; exact nI_pos (by omega))
    obtain ⟨-, -, -, -, -, -, -, q7⟩ := of_v h (show j < n by omega)
    rw [hu, if_neg (nI_pos (show j < 2 ^ 31 by omega)), nI_clamp (show j < 2 ^ 31 by omega), sp_fuel hT j 7 8 (by omega) (by omega) (by omega)] at es
    rw [hu, if_neg j6, if_neg (nI_pos (show j < 2 ^ 31 by omega)), if_neg (nI_ge hj (by omega)), if_pos j6, q7, bn_some, ad_sub, if_neg (not_not_intro es)]
/-! what is seen now, as a sum of things -/
theorem isSeen_loop {n T z0 z1 z2 z3 : Nat} {o : OB} (h : SO n T z0 z1 z2 z3 o) {l c : Nat} (hl : l < 16) (hc : c < 24) (K : Int32 → Int32 → Option OUT_L_isSeen) : f_L_isSeen_L5 o (nI l) (nI c) K 4000 0 0 = K (bs o.1.2.2.1 o.1.2.2.2.1 o.1.2.2.2.2.1 o.1.2.2.2.2.2.1 (LO o) n l c T) (nI n) := by
  obtain ⟨⟨n8, hn⟩, ⟨T9, ht⟩, -, -, -, -, -, hT, hV, hB, -⟩ := id h
  obtain ⟨w, e, hw⟩ := loopI (fun N v i => f_L_isSeen_L5 o (nI l) (nI c) K N v (nI i)) n (fun v => K v (nI n)) (fun i v => v = bs o.1.2.2.1 o.1.2.2.2.1 o.1.2.2.2.2.1 o.1.2.2.2.2.2.1 (LO o) i l c T) (fun N v hv => by
    rw [f_L_isSeen_L5_s, cnt_1, hn, bn_some, if_pos (Int32.le_refl _)]) (fun N v i hi_ hv => by
    obtain ⟨o0, o1, o2, o3, o4, o5, o6, o7⟩ := of_v h hi_
    obtain ⟨⟨L, L1, L2⟩, ⟨E, E1, E2, E3⟩, ⟨W, W1, W2, W3⟩, ⟨Q, B1, B2, B3⟩⟩ := hV i hi_
    have hp : -(23 + 32 * (T : Int)) ≤ LPo o i T ∧ LPo o i T ≤ 23 + 32 * (T : Int) := hB i hi_
    refine ⟨v + cv o.1.2.2.1 o.1.2.2.2.1 o.1.2.2.2.2.1 o.1.2.2.2.2.2.1 (LO o) l c T i, ?_, by rw [hv]; rfl⟩
    have hinl : inl o.1.2.2.1 o.1.2.2.2.1 i l ↔ (L ≤ l ∧ l < L + E) := by
      show (o.1.2.2.1 i ≤ nI l ∧ nI l ≤ o.1.2.2.1 i + o.1.2.2.2.1 i - 1) ↔ _
      rw [L2, E3, nI_add, nI_p (by omega), nI_leI (by omega) (by omega), nI_leI (by omega) (by omega)]
      omega
    have hinc : inc (LO o) o.1.2.2.2.2.1 i c T ↔ (LPo o i T ≤ c ∧ (c : Int) < LPo o i T + W) := by
      show (iI (LPo o i T) ≤ nI c ∧ nI c ≤ iI (LPo o i T) + o.1.2.2.2.2.1 i - 1) ↔ _
      rw [W3, ← iI_nat c, ← iI_nat W, iI_add, show (1 : Int32) = iI 1 from rfl, iI_sub, iI_le (by omega) (by omega) (by omega) (by omega), iI_le (by omega) (by omega) (by omega) (by omega)]
      omega
    rw [f_L_isSeen_L5_s, cnt_1, hn, bn_some, if_neg (nI_ge hi_ (by omega)), if_neg (show ¬ (8 : Int32) ≤ nI i from nI_ge (b := 8) (by omega) (by decide))]
    simp only [o0, o1, o2, o3, o4, bn_some, bd_eq, ad_sub, jn_eq, nI_1, L2, E3, W3, nI_add]
    have c1 : nI l < nI L ↔ l < L := nI_ltI (by omega) (by omega)
    have c2 : nI (L + E) ≤ nI l ↔ L + E ≤ l := nI_leI (by omega) (by omega)
    have c3 : nI c < iI (LPo o i T) ↔ (c : Int) < LPo o i T := by
      rw [← iI_nat c, iI_lt (by omega) (by omega) (by omega) (by omega)]
    have c4 : iI (LPo o i T) + nI W ≤ nI c ↔ LPo o i T + W ≤ c := by
      rw [← iI_nat c, ← iI_nat W, iI_add, iI_le (by omega) (by omega) (by omega) (by omega)]
    have z0 : ∀ x : Int32, x + 0 = x := fun x => Int32.add_zero x
    unfold cv
    by_cases q1 : l < L
    · rw [if_pos (c1.mpr q1), if_pos trivial, if_neg (fun z => by have := hinl.mp z; omega)]
    · rw [if_neg (fun z => q1 (c1.mp z))]
      by_cases q2 : L + E ≤ l
      · rw [if_pos (c2.mpr q2), if_pos trivial, if_neg (fun z => by have := hinl.mp z; omega)]
      · rw [if_neg (fun z => q2 (c2.mp z)), if_pos (hinl.mpr ⟨by omega, by omega⟩)]
        by_cases q3 : (c : Int) < LPo o i T
        · rw [if_pos (c3.mpr q3), if_pos trivial, if_neg (fun z => by have := hinc.mp z; omega)]
        · rw [if_neg (fun z => q3 (c3.mp z))]
          by_cases q4 : LPo o i T + W ≤ c
          · rw [if_pos (c4.mpr q4), if_pos trivial, if_neg (fun z => by have := hinc.mp z; omega)]
          · rw [if_neg (fun z => q4 (c4.mp z)), if_neg n10, if_pos (hinc.mpr ⟨by omega, by omega⟩)]) n 0 4000 0 (by omega) (by omega) rfl
  rw [show nI 0 = 0 from rfl] at e
  rw [e, hw]
theorem m30_2 (w : Int32) : (if w ≤ 30 then w else 30) = m30 w := by
  unfold m30
  by_cases q : w ≤ 30
  · rw [if_pos q]
    by_cases q2 : (30 : Int32) ≤ w
    · rw [if_pos q2]; exact Int32.le_antisymm q q2
    · rw [if_neg q2]
  · rw [if_neg q, if_pos (Int32.le_of_lt (Int32.not_le.mp q))]
theorem burn_j {α : Type} (K : Int32 → Option α) {ft fk tm : Int32} {T : Nat} (hF : FlC ft fk) (T9 : T ≤ 9999) (ht : tm = nI T) : jn K (fun j => if ft < 0 then j 0 else bn (some ft) (fun r37 => if tm < r37 then j 0 else bn (some ft) (fun r38 => bn (some fk) (fun r39 => if r38 + r39 ≤ tm then j 0 else j 1)))) = K (if ft ≤ tm ∧ tm ≤ ft + fk - 1 then 1 else 0) := by
  simp only [jn_eq, bn_some, ht]
  rcases hF with ⟨f1, f2⟩ | ⟨q, d, q1, q2, q3, f1, f2⟩
  · have hn : ¬ ((-6 : Int32) ≤ nI T ∧ nI T ≤ -6 + 0 - 1) := fun z => absurd (Int32.le_trans (nI_pos' (n := T) (by omega)) z.2) (by decide)
    rw [f1, f2, if_pos (show (-6 : Int32) < 0 by decide), if_neg hn]
  · have e1 : nI q < 0 ↔ False := ⟨fun z => nI_pos (by omega) z, fun z => z.elim⟩
    rw [f1, f2, if_neg (nI_pos (by omega)), nI_add, nI_p (by omega)]
    by_cases y1 : T < q
    · rw [if_pos ((nI_ltI (by omega) (by omega)).mpr y1), if_neg (fun z => by have := (nI_leI (by omega) (by omega)).mp z.1; omega)]
    · rw [if_neg (fun z => y1 ((nI_ltI (by omega) (by omega)).mp z))]
      by_cases y2 : q + d ≤ T
      · rw [if_pos ((nI_leI (by omega) (by omega)).mpr y2), if_neg (fun z => by have := (nI_leI (by omega) (by omega)).mp z.2; omega)]
      · rw [if_neg (fun z => y2 ((nI_leI (by omega) (by omega)).mp z)), if_pos ⟨nI_le (by omega) (by omega), nI_le (by omega) (by omega)⟩]
theorem light_j {α : Type} (K : Int32 → Option α) {se : Nat → Int32} {ft fk a : Int32} : jn K (fun j => if (if ft ≤ a ∧ a ≤ ft + fk - 1 then (1 : Int32) else 0) = 0 then (if se 2 ≤ 0 then j 1 else gz (se 2) (if a - a / se 2 * se 2 < se 2 / 2 then j 1 else j 0)) else j 3) = K (li se ft fk a) := by
  rw [jn_eq]
  unfold li
  by_cases q : ft ≤ a ∧ a ≤ ft + fk - 1
  · rw [if_pos q, if_neg n10, if_pos q]
  · rw [if_neg q, if_pos e00, if_neg q]
    by_cases q0 : se 2 ≤ 0
    · rw [if_pos q0, if_pos q0]
    · rw [if_neg q0, if_neg q0, gz_ok (fun z => q0 (by rw [z]; decide))]
      by_cases q1 : a - a / se 2 * se 2 < se 2 / 2
      · rw [if_pos q1, if_pos q1]
      · rw [if_neg q1, if_neg q1]
theorem isSeen_v {n T z0 z1 z2 z3 : Nat} {o : OB} (h : SO n T z0 z1 z2 z3 o) {l c : Nat} (hl : l < 16) (hc : c < 24) : ∃ cam : CAMV, f_L_isSeen o (nI l) (nI c) = some (1, oc o cam) := by
  obtain ⟨cam, es⟩ := seen_v h hl hc (t := 0) (by decide)
  obtain ⟨⟨n8, hn⟩, ⟨T9, ht⟩, -, -, -, -, hF, hT, hV, hB, -⟩ := id h
  have es' : F_seen o (nI l) (nI c) 0 = some (m30 (bs o.1.2.2.1 o.1.2.2.2.1 o.1.2.2.2.2.1 o.1.2.2.2.2.2.1 (LO o) n l c T) * li o.1.1 o.1.2.2.2.2.2.2.2.2.2.2.2.2.2.2.1 o.1.2.2.2.2.2.2.2.2.2.2.2.2.2.2.2 o.1.2.2.2.2.2.2.2.2.2.2.2.2.1, oc o cam) := by rw [ht]; exact es
  unfold f_L_isSeen
  rw [isSeen_loop h hl hc]
  simp only [jn_ite]
  rw [m30_2, cnt_0, bn_some, cnt_10, bn_some, cnt_6, bn_some, cnt_7, burn_j _ hF T9 ht, light_j, es', bn_some, if_neg (not_not_intro rfl)]
  exact ⟨cam, rfl⟩
