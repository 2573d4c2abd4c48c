theorem upd_lt {f : Nat → Int32} {n i : Nat} (x : Int32) (h : i < n) : upd f n x i = f i := upd_ne x (by omega)
theorem add_sim {n T : Nat} {se : Nat → Int32} {mn : Int32} {ln hi wi br sp si le un ul px : Nat → Int32} {tm ps ft fk : Int32} {S : Nat → Int32} (h : ScR n T se mn ln hi wi br sp si le un ul px tm ps ft fk S) (n8 : n < 8) {l f hh w z : Nat} (hl : l ≤ 15) (hf : f ≤ 23) (hh1 : 1 ≤ hh ∧ hh ≤ 16) (hw1 : 1 ≤ w ∧ w ≤ 24) (hz1 : 1 ≤ z ∧ z ≤ 9) : f_X6_add mn ln hi wi br sp si le un ul (nI l) (nI f) (nI hh) (nI w) (nI z) tm = some (nI n, nI (n + 1), upd ln n (nI l), upd hi n (nI hh), upd wi n (nI w), upd br n (nI z), upd sp n 0, upd si n (nI T), upd le n (nI f), upd un n (-6), upd ul n 0) ∧ ∃ S', f_X8_comes S (nI l) (nI f) (nI hh) (nI w) (nI z) = some (nI n, S') ∧ ScR (n + 1) T se (nI (n + 1)) (upd ln n (nI l)) (upd hi n (nI hh)) (upd wi n (nI w)) (upd br n (nI z)) (upd sp n 0) (upd si n (nI T)) (upd le n (nI f)) (upd un n (-6)) (upd ul n 0) px tm ps ft fk S' := by
  obtain ⟨⟨-, hn, h5⟩, ⟨T9, ht, h4⟩, ⟨z0, a0, b0, c0⟩, ⟨z1, a1, a1', b1, c1⟩, ⟨z2, a2, b2, c2⟩, ⟨z3, a3, a3', b3, c3⟩, ⟨h8, hF⟩, h6, hT, hR, hV, hB, hP⟩ := h
  constructor
  · unfold f_X6_add
    have g : vp_in (nI n) 8 := vp_in_nI n8 (by decide)
    rw [hn, nI_clamp (by omega), nI_1, ht]
    simp only [gd_ok g]
  · obtain ⟨S', e, v0, v1, v2, v3, v4, v5, v6, v7, v8, w5, ot⟩ := comes_m (T := T) n8 h5 h4 (nI l) (nI f) (nI hh) (nI w) (nI z)
    have lw : ∀ j, j < 9 → ¬ j = 5 → S' j = S j := fun j h1 h2 => ot j h2 (Or.inl (by omega))
    refine ⟨S', e, ⟨by omega, rfl, w5⟩, ⟨T9, ht, by rw [lw 4 (by decide) (by decide), h4]⟩, ⟨z0, a0, b0, by rw [lw 0 (by decide) (by decide), c0]⟩, ⟨z1, a1, a1', b1, by rw [lw 1 (by decide) (by decide), c1]⟩, ⟨z2, a2, b2, by rw [lw 2 (by decide) (by decide), c2]⟩, ⟨z3, a3, a3', b3, by rw [lw 3 (by decide) (by decide), c3]⟩, ⟨by rw [lw 8 (by decide) (by decide), h8], by rw [lw 7 (by decide) (by decide)]; exact hF⟩, by rw [lw 6 (by decide) (by decide), h6], ⟨by omega, fun i hi => ?_⟩, fun i hi => ?_, fun i hi => ?_, fun i hi => ?_, fun k hk => ?_⟩
    · by_cases q : i = n
      · rw [q, upd_at, upd_at, upd_at, nI_T (by omega)]
        exact ⟨by decide, by omega, Or.inl rfl⟩
      · rw [upd_ne _ q, upd_ne _ q, upd_ne _ q]; exact hT.2 i (by omega)
    · by_cases q : i = n
      · rw [q]
        refine ⟨by rw [v0, upd_at], by rw [v1, upd_at], by rw [v2, upd_at], by rw [v3, upd_at], by rw [v4, upd_at], by rw [v5, upd_at], by rw [v6, upd_at], fun _ => ⟨v7, upd_at _ _ _⟩, fun j hj hu => ?_⟩
        rw [upd_at] at hu
        exact absurd (show (-6 : Int32) < 0 by decide) (by rw [hu]; exact nI_pos (by omega))
      · exact (hR i (by omega)).cg2 (upd_ne _ q) (upd_ne _ q) (upd_ne _ q) (upd_ne _ q) (upd_ne _ q) (upd_ne _ q) (upd_ne _ q) (upd_ne _ q) (upd_ne _ q) (fun j h1 h2 => ot j (by omega) (by omega))
    · by_cases q : i = n
      · rw [q, upd_at, upd_at, upd_at, upd_at]
        exact ⟨⟨l, hl, rfl⟩, ⟨hh, hh1.1, hh1.2, rfl⟩, ⟨w, hw1.1, hw1.2, rfl⟩, ⟨z, hz1.1, hz1.2, rfl⟩⟩
      · rw [upd_ne _ q, upd_ne _ q, upd_ne _ q, upd_ne _ q]; exact hV i (by omega)
    · by_cases q : i = n
      · rw [q, lpI, upd_at, upd_at, upd_at, upd_at, upd_at, if_pos (by decide), nI_T (by omega), nI_T (by omega), show (0 : Int32).toInt = 0 from rfl]
        omega
      · rw [lp_cg hT T (fun i hi => upd_lt _ hi) (fun i hi => upd_lt _ hi) (fun i hi => upd_lt _ hi) (fun i hi => upd_lt _ hi) (fun i hi => upd_lt _ hi) 8 i (by omega)]
        exact hB i (by omega)
    · rw [ot (81 + k) (by omega) (by omega)]; exact hP k hk
theorem ThOK.mono {n m : Nat} {sp si un : Nat → Int32} (h : ThOK n sp si un) (hm : m ≤ n) : ThOK m sp si un := ⟨by have := h.1; omega, fun i hi => h.2 i (by omega)⟩
theorem anew_m {T : Nat} {S : Nat → Int32} {i : Nat} (i8 : i < 8) (h4 : S 4 = nI T) {a u P Q : Int32} (hP : f_X8_left S (nI i) (nI T) = some P) (hQ : (u < 0 ∧ Q = 0) ∨ (¬ u < 0 ∧ ∀ S', (∀ j, (j < 9 + 9 * i) → S' j = S j) → f_X8_left S' u (nI T) = some Q)) : ∃ S', f_X8_anew S (nI i) a u = some S' ∧ S' (9 + 9 * i + 0) = S (9 + 9 * i + 0) ∧ S' (9 + 9 * i + 1) = P ∧ S' (9 + 9 * i + 2) = S (9 + 9 * i + 2) ∧ S' (9 + 9 * i + 3) = S (9 + 9 * i + 3) ∧ S' (9 + 9 * i + 4) = S (9 + 9 * i + 4) ∧ S' (9 + 9 * i + 5) = a ∧ S' (9 + 9 * i + 6) = nI T ∧ S' (9 + 9 * i + 7) = u ∧ S' (9 + 9 * i + 8) = Q ∧ ∀ j, (j < 9 + 9 * i ∨ 9 + 9 * i + 9 ≤ j) → S' j = S j := by
  unfold f_X8_anew
  have k : ∀ k : Nat, k < 9 → nI (9 + 9 * i) + nI k = nI (9 + 9 * i + k) := fun k hk => nI_add _ _
  have g : ∀ k : Nat, k < 9 → vp_in (nI (9 + 9 * i + k)) 465 := fun k hk => vp_in_nI (by omega) (by decide)
  have cc : ∀ k : Nat, k < 9 → (nI (9 + 9 * i + k)).toNatClampNeg = 9 + 9 * i + k := fun k hk => nI_clamp (by omega)
  have b0 : (9 : Int32) + 9 * nI i = nI (9 + 9 * i) := by rw [show (9 : Int32) = nI 9 from rfl, pk_mul, nI_add]
  have k1 : nI (9 + 9 * i) + 1 = nI (9 + 9 * i + 1) := k 1 (by decide)
  have k5 : nI (9 + 9 * i) + 5 = nI (9 + 9 * i + 5) := k 5 (by decide)
  have k6 : nI (9 + 9 * i) + 6 = nI (9 + 9 * i + 6) := k 6 (by decide)
  have k7 : nI (9 + 9 * i) + 7 = nI (9 + 9 * i + 7) := k 7 (by decide)
  have k8 : nI (9 + 9 * i) + 8 = nI (9 + 9 * i + 8) := k 8 (by decide)
  rw [b0, bd_eq, m4, c_4, h4, hP, bn_some, k1, k5, k6, k7, k8, gd_ok (g 1 (by decide)), gd_ok (g 5 (by decide)), m4, gd_ok (g 6 (by decide)), bd_eq, gd_ok (g 7 (by decide)), gd_ok (g 8 (by decide)), m4, cc 1 (by decide), cc 5 (by decide), cc 6 (by decide), cc 7 (by decide), cc 8 (by decide)]
  have e4 : upd (upd (upd (upd S (9 + 9 * i + 1) P) (9 + 9 * i + 5) a) (9 + 9 * i + 6) (upd (upd S (9 + 9 * i + 1) P) (9 + 9 * i + 5) a 4)) (9 + 9 * i + 7) u 4 = nI T := by
    repeat (first | rw [upd_at] | rw [upd_ne _ (by omega)])
    exact h4
  have e4' : upd (upd S (9 + 9 * i + 1) P) (9 + 9 * i + 5) a 4 = nI T := by
    repeat (first | rw [upd_at] | rw [upd_ne _ (by omega)])
    exact h4
  rw [e4, e4']
  have fin : ∃ S', some (upd (upd (upd (upd (upd S (9 + 9 * i + 1) P) (9 + 9 * i + 5) a) (9 + 9 * i + 6) (nI T)) (9 + 9 * i + 7) u) (9 + 9 * i + 8) Q) = some S' ∧ S' (9 + 9 * i + 0) = S (9 + 9 * i + 0) ∧ S' (9 + 9 * i + 1) = P ∧ S' (9 + 9 * i + 2) = S (9 + 9 * i + 2) ∧ S' (9 + 9 * i + 3) = S (9 + 9 * i + 3) ∧ S' (9 + 9 * i + 4) = S (9 + 9 * i + 4) ∧ S' (9 + 9 * i + 5) = a ∧ S' (9 + 9 * i + 6) = nI T ∧ S' (9 + 9 * i + 7) = u ∧ S' (9 + 9 * i + 8) = Q ∧ ∀ j, (j < 9 + 9 * i ∨ 9 + 9 * i + 9 ≤ j) → S' j = S j := by
    refine ⟨_, rfl, ?_, ?_, ?_, ?_, ?_, ?_, ?_, ?_, ?_, ?_⟩
    · repeat (first | rw [upd_at] | rw [upd_ne _ (by omega)])
    · repeat (first | rw [upd_at] | rw [upd_ne _ (by omega)])
    · repeat (first | rw [upd_at] | rw [upd_ne _ (by omega)])
    · repeat (first | rw [upd_at] | rw [upd_ne _ (by omega)])
    · repeat (first | rw [upd_at] | rw [upd_ne _ (by omega)])
    · repeat (first | rw [upd_at] | rw [upd_ne _ (by omega)])
    · repeat (first | rw [upd_at] | rw [upd_ne _ (by omega)])
    · repeat (first | rw [upd_at] | rw [upd_ne _ (by omega)])
    · repeat (first | rw [upd_at] | rw [upd_ne _ (by omega)])
    · intro j hj
      repeat (first | rw [upd_ne _ (by omega)])
  rcases hQ with ⟨q1, q2⟩ | ⟨q1, q2⟩
  · subst q2
    rw [if_pos q1]
    exact fin
  · rw [if_neg q1, q2 _ (fun j hj => by repeat (first | rw [upd_ne _ (by omega)])), bn_some, gd_ok (g 8 (by decide))]
    exact fin
