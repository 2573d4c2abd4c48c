/-! what changes a scene -/
theorem in_cases1 {a : Int32} {m : Nat} (hm : m < 2 ^ 31) : (bI (1 ≤ a ∧ a ≤ nI m) = 1 ∧ ∃ i : Nat, 1 ≤ i ∧ i ≤ m ∧ a = nI i) ∨ bI (1 ≤ a ∧ a ≤ nI m) = 0 := by
  by_cases h : 1 ≤ a ∧ a ≤ nI m
  · obtain ⟨i, hi, e⟩ := nI_of2 (x := a) (M := nI m) (n := m) (nI_toInt hm) (Int32.not_lt.mpr (Int32.le_trans (by decide) h.1)) h.2
    refine Or.inl ⟨if_pos h, i, ?_, hi, e⟩
    rw [e] at h
    exact (nI_leI (a := 1) (by decide) (by omega)).mp h.1
  · exact Or.inr (if_neg h)
theorem errT_cases {mn : Int32} {S : Nat → Int32} {n : Nat} (n8 : n ≤ 8) (hn : mn = nI n) (h5 : S 5 = nI n) (a b c d e : Int32) : (∃ x : Int32, f_X7_errorOfThing mn a b c d e = some x ∧ f_X8_whyNotThing S a b c d e = some x ∧ (x = -2 ∨ x = -4)) ∨ (f_X7_errorOfThing mn a b c d e = some 0 ∧ f_X8_whyNotThing S a b c d e = some 0 ∧ n < 8 ∧ ∃ l f h w z : Nat, l ≤ 15 ∧ f ≤ 23 ∧ (1 ≤ h ∧ h ≤ 16) ∧ (1 ≤ w ∧ w ≤ 24) ∧ (1 ≤ z ∧ z ≤ 9) ∧ a = nI l ∧ b = nI f ∧ c = nI h ∧ d = nI w ∧ e = nI z) := by
  unfold f_X7_errorOfThing f_X8_whyNotThing f_X7_isPlace
  simp only [wi_eq, in_eq, bn_some, jn_eq, m5, c_5, h5, hn]
  rw [show (15 : Int32) = nI 15 from rfl, show (23 : Int32) = nI 23 from rfl, show (16 : Int32) = nI 16 from rfl, show (24 : Int32) = nI 24 from rfl, show (9 : Int32) = nI 9 from rfl]
  rcases in_cases (a := a) (m := 15) (by decide) with ⟨e1, l, hl, rfl⟩ | e1
  · rcases in_cases (a := b) (m := 23) (by decide) with ⟨e2, f, hf, rfl⟩ | e2
    · rcases in_cases1 (a := c) (m := 16) (by decide) with ⟨e3, h, hh1, hh2, rfl⟩ | e3
      · rcases in_cases1 (a := d) (m := 24) (by decide) with ⟨e4, w, hw1, hw2, rfl⟩ | e4
        · rcases in_cases1 (a := e) (m := 9) (by decide) with ⟨e5, z, hz1, hz2, rfl⟩ | e5
          · by_cases q : n = 8
            · refine Or.inl ⟨-4, ?_, ?_, Or.inr rfl⟩
              · rw [e1, e2, e3, e4, e5, q]; rfl
              · rw [e1, e2, e3, e4, e5, q]; rfl
            · refine Or.inr ⟨?_, ?_, by omega, l, f, h, w, z, hl, hf, ⟨hh1, hh2⟩, ⟨hw1, hw2⟩, ⟨hz1, hz2⟩, rfl, rfl, rfl, rfl, rfl⟩
              · rw [e1, e2, e3, e4, e5, if_neg (show ¬ (8 : Int32) ≤ nI n from nI_ge (b := 8) (by omega) (by decide))]; rfl
              · rw [e1, e2, e3, e4, e5, if_pos (show ¬ nI n = (8 : Int32) from fun y => q ((nI_eq (b := 8) (by omega) (by decide)).mp y))]; rfl
          · refine Or.inl ⟨-2, ?_, ?_, Or.inl rfl⟩
            · rw [e1, e2, e3, e4, e5]; rfl
            · rw [e1, e2, e3, e4, e5]; rfl
        · refine Or.inl ⟨-2, ?_, ?_, Or.inl rfl⟩
          · rw [e1, e2, e3, e4]; rfl
          · rw [e1, e2, e3, e4]; rfl
      · refine Or.inl ⟨-2, ?_, ?_, Or.inl rfl⟩
        · rw [e1, e2, e3]; rfl
        · rw [e1, e2, e3]; rfl
    · refine Or.inl ⟨-2, ?_, ?_, Or.inl rfl⟩
      · rw [e1, e2]; rfl
      · rw [e1, e2]; rfl
  · refine Or.inl ⟨-2, ?_, ?_, Or.inl rfl⟩
    · rw [e1]; rfl
    · rw [e1]; rfl
theorem ThR.cg2 {i : Nat} {ln hi wi br sp si le un ul ln' hi' wi' br' sp' si' le' un' ul' S S' : Nat → Int32} (h : ThR i ln hi wi br sp si le un ul S) (q1 : ln' i = ln i) (q2 : hi' i = hi i) (q3 : wi' i = wi i) (q4 : br' i = br i) (q5 : sp' i = sp i) (q6 : si' i = si i) (q7 : le' i = le i) (q8 : un' i = un i) (q9 : ul' i = ul i) (e : ∀ j, 9 + 9 * i ≤ j → j < 9 + 9 * i + 9 → S' j = S j) : ThR i ln' hi' wi' br' sp' si' le' un' ul' S' := by
  unfold ThR at h ⊢
  rw [q1, q2, q3, q4, q5, q6, q7, q8, q9, e _ (by omega) (by omega), e _ (by omega) (by omega), e _ (by omega) (by omega), e _ (by omega) (by omega), e _ (by omega) (by omega), e _ (by omega) (by omega), e _ (by omega) (by omega), e _ (by omega) (by omega), e _ (by omega) (by omega)]
  exact h
theorem comes_m {n T : Nat} {S : Nat → Int32} (n8 : n < 8) (h5 : S 5 = nI n) (h4 : S 4 = nI T) (a b c d e : Int32) : ∃ S', f_X8_comes S a b c d e = some (nI n, S') ∧ S' (9 + 9 * n + 0) = a ∧ S' (9 + 9 * n + 1) = b ∧ S' (9 + 9 * n + 2) = c ∧ S' (9 + 9 * n + 3) = d ∧ S' (9 + 9 * n + 4) = e ∧ S' (9 + 9 * n + 5) = 0 ∧ S' (9 + 9 * n + 6) = nI T ∧ S' (9 + 9 * n + 7) = -1 ∧ S' (9 + 9 * n + 8) = 0 ∧ S' 5 = nI (n + 1) ∧ ∀ j, ¬ j = 5 → (j < 9 + 9 * n ∨ 9 + 9 * n + 9 ≤ j) → S' j = S j := by
  unfold f_X8_comes
  have k : ∀ k : Nat, k < 9 → nI (9 + 9 * n) + nI k = nI (9 + 9 * n + k) := fun k hk => nI_add _ _
  have g : ∀ k : Nat, k < 9 → vp_in (nI (9 + 9 * n + k)) 465 := fun k hk => vp_in_nI (by omega) (by decide)
  have cc : ∀ k : Nat, k < 9 → (nI (9 + 9 * n + k)).toNatClampNeg = 9 + 9 * n + k := fun k hk => nI_clamp (by omega)
  have b0 : (9 : Int32) + 9 * S 5 = nI (9 + 9 * n) := by rw [h5, show (9 : Int32) = nI 9 from rfl, pk_mul, nI_add]
  have k0 : nI (9 + 9 * n) + 0 = nI (9 + 9 * n + 0) := k 0 (by decide)
  have k1 : nI (9 + 9 * n) + 1 = nI (9 + 9 * n + 1) := k 1 (by decide)
  have k2 : nI (9 + 9 * n) + 2 = nI (9 + 9 * n + 2) := k 2 (by decide)
  have k3 : nI (9 + 9 * n) + 3 = nI (9 + 9 * n + 3) := k 3 (by decide)
  have k4 : nI (9 + 9 * n) + 4 = nI (9 + 9 * n + 4) := k 4 (by decide)
  have k5 : nI (9 + 9 * n) + 5 = nI (9 + 9 * n + 5) := k 5 (by decide)
  have k6 : nI (9 + 9 * n) + 6 = nI (9 + 9 * n + 6) := k 6 (by decide)
  have k7 : nI (9 + 9 * n) + 7 = nI (9 + 9 * n + 7) := k 7 (by decide)
  have k8 : nI (9 + 9 * n) + 8 = nI (9 + 9 * n + 8) := k 8 (by decide)
  rw [m5, c_5, b0, bd_eq, k0, k1, k2, k3, k4, k5, k6, k7, k8, gd_ok (g 0 (by decide)), gd_ok (g 1 (by decide)), gd_ok (g 2 (by decide)), bd_eq, gd_ok (g 3 (by decide)), gd_ok (g 4 (by decide)), gd_ok (g 5 (by decide)), bd_eq, m4, gd_ok (g 6 (by decide)), gd_ok (g 7 (by decide)), gd_ok (g 8 (by decide)), bd_eq, m5, m5, m5, cc 0 (by decide), cc 1 (by decide), cc 2 (by decide), cc 3 (by decide), cc 4 (by decide), cc 5 (by decide), cc 6 (by decide), cc 7 (by decide), cc 8 (by decide), c_4]
  rw [upd_at]
  refine ⟨_, congrArg some (Prod.ext ?_ rfl), ?_, ?_, ?_, ?_, ?_, ?_, ?_, ?_, ?_, ?_, ?_⟩
  rotate_left
  · repeat (first | rw [upd_at] | rw [upd_ne _ (by omega)])
  · repeat (first | rw [upd_at] | rw [upd_ne _ (by omega)])
  · repeat (first | rw [upd_at] | rw [upd_ne _ (by omega)])
  · repeat (first | rw [upd_at] | rw [upd_ne _ (by omega)])
  · repeat (first | rw [upd_at] | rw [upd_ne _ (by omega)])
  · repeat (first | rw [upd_at] | rw [upd_ne _ (by omega)])
  · repeat (first | rw [upd_at] | rw [upd_ne _ (by omega)])
    exact h4
  · repeat (first | rw [upd_at] | rw [upd_ne _ (by omega)])
  · repeat (first | rw [upd_at] | rw [upd_ne _ (by omega)])
  · repeat (first | rw [upd_at] | rw [upd_ne _ (by omega)])
    rw [h5, nI_1]
  · intro j j5 hj
    repeat (first | rw [upd_ne _ (by omega)])
  · show _ = nI n
    repeat (first | rw [upd_at] | rw [upd_ne _ (by omega)])
    rw [h5, nI_1, nI_p (by omega)]; rfl
