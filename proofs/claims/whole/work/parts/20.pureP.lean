theorem lpI_s (sp si le un ul : Nat → Int32) (k i : Nat) (t : Int) : lpI sp si le un ul (k + 1) i t = (le i).toInt + ((sp i).toInt * (t - (si i).toInt)) / 10 - (ul i).toInt + (if un i < 0 then 0 else lpI sp si le un ul k (un i).toNatClampNeg t) := rfl
/-- a thing that comes anew is where it was, and so is all that rides on it -/
theorem lp_anew {n i : Nat} {T s : Int} {sp si le un ul sp' si' le' un' ul' : Nat → Int32} (hT : ThOK n sp si un) (hT' : ThOK n sp' si' un') (hi : i < n) (c1 : ∀ k, ¬ k = i → sp' k = sp k) (c2 : ∀ k, ¬ k = i → si' k = si k) (c3 : ∀ k, ¬ k = i → le' k = le k) (c4 : ∀ k, ¬ k = i → un' k = un k) (c5 : ∀ k, ¬ k = i → ul' k = ul k) (d2 : (si' i).toInt = T) (d3 : (le' i).toInt = lpI sp si le un ul 8 i T) (d5 : (un' i = -6 ∧ ul' i = 0) ∨ ∃ j : Nat, j < i ∧ un' i = nI j ∧ (ul' i).toInt = lpI sp si le un ul 8 j T) : ∀ k : Nat, k < n → lpI sp' si' le' un' ul' 8 k T = lpI sp si le un ul 8 k T := by
  intro k
  induction k using Nat.strongRecOn with
  | ind k ih =>
    intro hk
    have n8 := hT.1
    by_cases q : k = i
    · rw [show lpI sp' si' le' un' ul' 8 k T = lpI sp' si' le' un' ul' (7 + 1) k T from rfl, lpI_s sp' si' le' un' ul' 7 k, q, d2, d3]
      rw [show T - T = 0 by omega, Int.mul_zero]
      rcases d5 with ⟨u1, u2⟩ | ⟨j, hj, u1, u2⟩
      · rw [u1, if_pos (show (-6 : Int32) < 0 by decide), u2, show (0 : Int32).toInt = 0 from rfl]; omega
      · rw [u1, if_neg (show ¬ nI j < 0 from nI_pos (by omega)), nI_clamp (show j < 2 ^ 31 by omega), lp_fuel hT' T j 7 8 (by omega) (by omega) (by omega), ih j (by omega) (by omega), u2]; omega
    · rw [show lpI sp' si' le' un' ul' 8 k T = lpI sp' si' le' un' ul' (7 + 1) k T from rfl, show lpI sp si le un ul 8 k T = lpI sp si le un ul (7 + 1) k T from rfl, lpI_s sp' si' le' un' ul' 7 k, lpI_s sp si le un ul 7 k, c1 k q, c2 k q, c3 k q, c4 k q, c5 k q]
      obtain ⟨-, -, hu⟩ := hT.2 k hk
      rcases hu with hu | ⟨j, hj, hu⟩
      · rw [hu, if_pos (show (-6 : Int32) < 0 by decide), if_pos (show (-6 : Int32) < 0 by decide)]
      · have hz : ¬ nI j < 0 := nI_pos (by omega)
        rw [hu, if_neg hz, if_neg hz, nI_clamp (show j < 2 ^ 31 by omega), lp_fuel hT' T j 7 8 (by omega) (by omega) (by omega), lp_fuel hT T j 7 8 (by omega) (by omega) (by omega), ih j hj (by omega)]
theorem anew_sim {n T : Nat} {se : Nat → Int32} {mn : Int32} {ln hi wi br sp si le un ul px : Nat → Int32} {tm ps ft fk : Int32} {S : Nat → Int32} (h : ScR n T se mn ln hi wi br sp si le un ul px tm ps ft fk S) {i : Nat} (hi_ : i < n) {a u u' : Int32} (ha : -40 ≤ a.toInt ∧ a.toInt ≤ 40) (hu : (u = -6 ∧ u' = -1) ∨ ∃ j : Nat, j < i ∧ u = nI j ∧ u' = nI j) : ∃ r S', f_X6_comeAnew mn sp si le un ul (nI i) a u tm = some r ∧ f_X8_anew S (nI i) a u' = some S' ∧ ScR n T se mn ln hi wi br r.1 r.2.1 r.2.2.1 r.2.2.2.1 r.2.2.2.2 px tm ps ft fk S' := by
  obtain ⟨⟨n8, hn, h5⟩, ⟨T9, ht, h4⟩, ⟨z0, a0, b0, c0⟩, ⟨z1, a1, a1', b1, c1⟩, ⟨z2, a2, b2, c2⟩, ⟨z3, a3, a3', b3, c3⟩, ⟨h8, hF⟩, h6, hT, hR, hV, hB, hP⟩ := h
  have hb := hB i hi_
  have lx := left_x (le := le) (ul := ul) hn hT (t := (T : Int)) (by omega) (by omega) hi_
  have lm := left_m hT hR (t := (T : Int)) (by omega) (by omega) hi_
  rw [iI_nat] at lx lm
  have g : vp_in (nI i) 8 := vp_in_nI (by omega) (by decide)
  have hc : (nI i).toNatClampNeg = i := nI_clamp (by omega)
  have hT' : ThOK n (upd sp i a) (upd si i (nI T)) (upd un i u) := ⟨n8, fun k hk => by
    by_cases q : k = i
    · rw [q, upd_at, upd_at, upd_at, nI_T (by omega)]
      refine ⟨ha, by omega, ?_⟩
      rcases hu with ⟨x, -⟩ | ⟨j, hj, x, -⟩
      · exact Or.inl x
      · exact Or.inr ⟨j, hj, x⟩
    · rw [upd_ne _ q, upd_ne _ q, upd_ne _ q]; exact hT.2 k hk⟩
  have hQ : ∃ Q : Int32, f_X6_leftAt mn (upd sp i a) (upd si i (nI T)) (upd le i (iI (lpI sp si le un ul 8 i T))) (upd un i u) ul u (nI T) = some Q ∧ ((u' < 0 ∧ Q = 0) ∨ (¬ u' < 0 ∧ ∀ S', (∀ j, (j < 9 + 9 * i) → S' j = S j) → f_X8_left S' u' (nI T) = some Q)) ∧ ((u = -6 ∧ Q = 0) ∨ ∃ j : Nat, j < i ∧ u = nI j ∧ Q.toInt = lpI sp si le un ul 8 j T) := by
    rcases hu with ⟨x, y⟩ | ⟨j, hj, x, y⟩
    · exact ⟨0, by rw [x]; exact left_x_ground, Or.inl ⟨by rw [y]; decide, rfl⟩, Or.inl ⟨x, rfl⟩⟩
    · subst x
      have hbj := hB j (by omega)
      refine ⟨iI (lpI sp si le un ul 8 j T), ?_, Or.inr ⟨by rw [y]; exact nI_pos (by omega), fun S' hS => ?_⟩, Or.inr ⟨j, hj, rfl, iI_T (by omega) (by omega)⟩⟩
      · have := left_x (le := upd le i (iI (lpI sp si le un ul 8 i T))) (ul := ul) hn hT' (t := (T : Int)) (by omega) (by omega) (i := j) (by omega)
        rw [iI_nat, lp_cg (sp := sp) (si := si) (le := le) (un := un) (ul := ul) (hT.mono (show i ≤ n by omega)) T (fun k hk => upd_lt _ hk) (fun k hk => upd_lt _ hk) (fun k hk => upd_lt _ hk) (fun k hk => upd_lt _ hk) (fun k hk => rfl) 8 j hj] at this
        exact this
      · have hR' : ∀ k, k < i → ThR k ln hi wi br sp si le un ul S' := fun k hk => (hR k (by omega)).cg2 rfl rfl rfl rfl rfl rfl rfl rfl rfl (fun j h1 h2 => hS j (by omega))
        have := left_m (hT.mono (show i ≤ n by omega)) hR' (t := (T : Int)) (by omega) (by omega) hj
        rw [iI_nat] at this
        rw [y]; exact this
  obtain ⟨Q, q1, q2, q3⟩ := hQ
  obtain ⟨S', e, v0, v1, v2, v3, v4, v5, v6, v7, v8, ot⟩ := anew_m (a := a) (u := u') (i := i) (by omega) h4 lm q2
  refine ⟨(upd sp i a, upd si i (nI T), upd le i (iI (lpI sp si le un ul 8 i T)), upd un i u, upd ul i Q), S', ?_, e, ?_⟩
  · unfold f_X6_comeAnew
    rw [ht, lx, bn_some, hc]
    simp only [gd_ok g, q1, bn_some]
  · have lw : ∀ j, j < 9 → S' j = S j := fun j h1 => ot j (Or.inl (by omega))
    refine ⟨⟨n8, hn, by rw [lw 5 (by decide), h5]⟩, ⟨T9, ht, by rw [lw 4 (by decide), h4]⟩, ⟨z0, a0, b0, by rw [lw 0 (by decide), c0]⟩, ⟨z1, a1, a1', b1, by rw [lw 1 (by decide), c1]⟩, ⟨z2, a2, b2, by rw [lw 2 (by decide), c2]⟩, ⟨z3, a3, a3', b3, by rw [lw 3 (by decide), c3]⟩, ⟨by rw [lw 8 (by decide), h8], by rw [lw 7 (by decide)]; exact hF⟩, by rw [lw 6 (by decide), h6], hT', fun k hk => ?_, hV, fun k hk => ?_, fun k hk => ?_⟩
    · by_cases q : k = i
      · obtain ⟨r0, r1, r2, r3, r4, r5, r6, r7, r8⟩ := hR i hi_
        rw [q]
        show ThR i ln hi wi br (upd sp i a) (upd si i (nI T)) (upd le i (iI (lpI sp si le un ul 8 i T))) (upd un i u) (upd ul i Q) S'
        refine ⟨by rw [v0, r0], by rw [v1, upd_at], by rw [v2, r2], by rw [v3, r3], by rw [v4, r4], by rw [v5, upd_at], by rw [v6, upd_at], fun hx => ?_, fun j hj hx => ?_⟩
        · rw [upd_at] at hx ⊢
          rcases hu with ⟨x, y⟩ | ⟨j, hj, x, y⟩
          · refine ⟨by rw [v7, y], ?_⟩
            rcases q3 with ⟨-, y3⟩ | ⟨j, hj, y3, -⟩
            · exact y3
            · rw [hx] at y3
              exact absurd (show (-6 : Int32) < 0 by decide) (by rw [y3]; exact nI_pos (by omega))
          · rw [hx] at x
            exact absurd (show (-6 : Int32) < 0 by decide) (by rw [x]; exact nI_pos (by omega))
        · rw [upd_at] at hx ⊢
          refine ⟨?_, v8⟩
          rcases hu with ⟨x, y⟩ | ⟨j', hj', x, y⟩
          · rw [x] at hx
            exact absurd (show (-6 : Int32) < 0 by decide) (by rw [hx]; exact nI_pos (by omega))
          · rw [v7, y, ← x, hx]
      · show ThR k ln hi wi br (upd sp i a) (upd si i (nI T)) (upd le i (iI (lpI sp si le un ul 8 i T))) (upd un i u) (upd ul i Q) S'
        exact (hR k hk).cg2 rfl rfl rfl rfl (upd_ne _ q) (upd_ne _ q) (upd_ne _ q) (upd_ne _ q) (upd_ne _ q) (fun j h1 h2 => ot j (by omega))
    · show -(23 + 32 * (T : Int)) ≤ lpI (upd sp i a) (upd si i (nI T)) (upd le i (iI (lpI sp si le un ul 8 i T))) (upd un i u) (upd ul i Q) 8 k T ∧ lpI (upd sp i a) (upd si i (nI T)) (upd le i (iI (lpI sp si le un ul 8 i T))) (upd un i u) (upd ul i Q) 8 k T ≤ 23 + 32 * (T : Int)
      rw [lp_anew (s := 0) hT hT' hi_ (fun k q => upd_ne _ q) (fun k q => upd_ne _ q) (fun k q => upd_ne _ q) (fun k q => upd_ne _ q) (fun k q => upd_ne _ q) (by rw [upd_at, nI_T (by omega)]) (by rw [upd_at, iI_T (by omega) (by omega)]) (by rw [upd_at, upd_at]; exact q3) k hk]
      exact hB k hk
    · rw [ot (81 + k) (by omega)]; exact hP k hk
