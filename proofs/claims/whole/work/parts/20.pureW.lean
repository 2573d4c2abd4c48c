/-! carrying a text out -/
theorem carry_2 {pl le_ : Int32} {tx pad_ : Nat → Int32} {m : Nat} {x : Nat → Nat} (hx : TxR pl tx le_ pad_ m x) (se : Nat → Int32) (K : Int32 → Int32 → Int32 → Int32 → Int32 → Int32 → Int32 → Int32 → (Nat → Int32) → (Nat → Int32) → (Nat → Int32) → (Nat → Int32) → (Nat → Int32) → (Nat → Int32) → (Nat → Int32) → (Nat → Int32) → (Nat → Int32) → (Nat → Int32) → (Nat → Int32) → (Nat → Int32) → Int32 → Int32 → (Nat → Int32) → Option OUT_X7_carryOut) (K' : Int32 → Int32 → (Nat → Int32) → Option OUT_X8_carryOut) : ∀ (d i k N : Nat) (cnt : Int32) (n T : Nat) (tm ps ft fk mn : Int32) (ln hi wi br sp si le un ul px lea ris S : Nat → Int32) (kd : Int32) (va : Nat → Int32), ScR n T se mn ln hi wi br sp si le un ul px tm ps ft fk S → WFn le_ pad_ m x d i → 2 * k ≤ i → d + 1 < N → ∃ (cnt' more' ord' : Int32) (tm' : Int32) (ps' : Int32) (ft' : Int32) (fk' : Int32) (mn' : Int32) (ln' : Nat → Int32) (hi' : Nat → Int32) (wi' : Nat → Int32) (br' : Nat → Int32) (sp' : Nat → Int32) (si' : Nat → Int32) (le' : Nat → Int32) (un' : Nat → Int32) (ul' : Nat → Int32) (px' : Nat → Int32) (lea' : Nat → Int32) (ris' : Nat → Int32) (at' kd' : Int32) (va' : Nat → Int32) (pc : Int32) (S' : Nat → Int32), f_X7_carryOut_L40 se pl tx K N cnt 1 (nI k) tm ps ft fk mn ln hi wi br sp si le un ul px lea ris (nI i) kd va = K cnt' more' ord' tm' ps' ft' fk' mn' ln' hi' wi' br' sp' si' le' un' ul' px' lea' ris' at' kd' va' ∧ f_X8_carryOut_L20 le_ pad_ K' N cnt (nI i) S = K' cnt' pc S' ∧ ∃ n T, ScR n T se mn' ln' hi' wi' br' sp' si' le' un' ul' px' tm' ps' ft' fk' S' := by
  intro d
  induction d with
  | zero => intro i k N cnt n T tm ps ft fk mn ln hi wi br sp si le un ul px lea ris S kd va h hw; exact absurd hw (by unfold WFn; exact id)
  | succ d ih =>
    intro i k N cnt n T tm ps ft fk mn ln hi wi br sp si le un ul px lea ris S kd va h hw h2 h3
    have m80 := hx.2.2.1
    obtain ⟨p, w1, w2, w3, w4⟩ := hw
    obtain ⟨N, rfl⟩ : ∃ z, N = z + 1 + 1 := ⟨N - 2, by omega⟩
    obtain ⟨ok, p', kd', va', o1, o2, o3, o4⟩ := order_2 hx (i := i) (by omega) va
    have hk : ¬ (80 : Int32) ≤ nI k := nI_ge (a := k) (b := 80) (by omega) (by decide)
    rw [w1] at o2
    have o2 : nI p = st ok p' := Option.some.inj o2
    cases ok with
    | false => exact absurd (nI_pos' (n := p) (by omega)) (by rw [o2]; exact (st_neg (by omega)).1)
    | true =>
      obtain ⟨q1, q2, q3, q4, q5⟩ := o4 rfl
      have hpp : p = p' := (nI_eq (by omega) (by omega)).mp o2
      subst hpp
      have o1 : f_X4_readOrder pl tx (nI i) va = some (1, nI p, kd', va') := o1
      subst q4
      obtain ⟨r, r', d1, d2, d3, n', T', d4⟩ := order_do h hx q3 q5 lea ris
      have et := take_x hx (p := p) (w := 59) (by omega) (by decide) (by decide)
      have hle := hx.2.1
      have hstop : ¬ le_ ≤ nI i := by rw [hle]; exact nI_ge q3 (by omega)
      rw [f_X7_carryOut_L40_s, f_X8_carryOut_L20_s, if_neg n10, if_neg hk, if_neg hstop, o1, d2, bn_some, bn_some, jn_eq]
      dsimp only
      rw [if_neg n10, d1, bn_some]
      by_cases e : r.1 = 0
      · have e' : r'.1 = 0 := by rw [← d3]; exact e
        rw [if_neg (not_not_intro e), if_neg (not_not_intro e'), if_neg n10, bd_eq, bd_eq, w1, bn_some, bd_eq, nI_1]
        by_cases c : isC m x p 59
        · rw [if_pos c] at et
          have et : f_X4_take pl tx (nI p) 59 = some (1, nI (p + 1)) := et
          have wn : WFn le_ pad_ m x d (p + 1) := by
            rcases w4 with w4 | w4
            · exact absurd c.1 (by omega)
            · exact w4.2
          rw [et, bn_some, bd_eq, nI_1]
          exact ih (p + 1) (k + 1) (N + 1) (cnt + 1) n' T' (r.2.1) (r.2.2.1) (r.2.2.2.1) (r.2.2.2.2.1) (r.2.2.2.2.2.1) (r.2.2.2.2.2.2.1) (r.2.2.2.2.2.2.2.1) (r.2.2.2.2.2.2.2.2.1) (r.2.2.2.2.2.2.2.2.2.1) (r.2.2.2.2.2.2.2.2.2.2.1) (r.2.2.2.2.2.2.2.2.2.2.2.1) (r.2.2.2.2.2.2.2.2.2.2.2.2.1) (r.2.2.2.2.2.2.2.2.2.2.2.2.2.1) (r.2.2.2.2.2.2.2.2.2.2.2.2.2.2.1) (r.2.2.2.2.2.2.2.2.2.2.2.2.2.2.2.1) (r.2.2.2.2.2.2.2.2.2.2.2.2.2.2.2.2.1) (r.2.2.2.2.2.2.2.2.2.2.2.2.2.2.2.2.2) r'.2 (nI (x i)) va' d4 wn (by omega) (by omega)
        · rw [if_neg c] at et
          have et : f_X4_take pl tx (nI p) 59 = some (0, nI p) := et
          have epm : p = m := by
            rcases w4 with w4 | w4
            · exact w4
            · exact absurd w4.1 c
          rw [et, bn_some, bd_eq]
          dsimp only
          rw [f_X7_carryOut_L40_s, if_pos e00, f_X8_carryOut_L20_s, if_pos (show le_ ≤ nI p + 1 by rw [hle, nI_1]; exact nI_le (by omega) (by omega))]
          exact ⟨_, _, _, _, _, _, _, _, _, _, _, _, _, _, _, _, _, _, _, _, _, _, _, _, _, rfl, rfl, n', T', d4⟩
      · have e' : ¬ r'.1 = 0 := by rw [← d3]; exact e
        rw [if_pos e, if_pos e', if_pos e00, bd_eq, f_X7_carryOut_L40_s, if_pos e00]
        exact ⟨_, _, _, _, _, _, _, _, _, _, _, _, _, _, _, _, _, _, _, _, _, _, _, _, _, rfl, rfl, n', T', d4⟩
theorem sim_carryOut {n T : Nat} {se : Nat → Int32} {mn : Int32} {ln hi wi br sp si le un ul px : Nat → Int32} {tm ps ft fk : Int32} {S : Nat → Int32} (h : ScR n T se mn ln hi wi br sp si le un ul px tm ps ft fk S) {nx hm : Int32} {pr : Nat → Bool} {sv : Nat → SCV} {kn : Int32} {past : Nat → Int32} (hH : HiR nx hm pr sv kn past) {pl le_ : Int32} {tx pad_ : Nat → Int32} {m : Nat} {x : Nat → Nat} (hx : TxR pl tx le_ pad_ m x) (lea ris : Nat → Int32) (kd : Int32) (va : Nat → Int32) : ∃ r r', f_X7_carryOut se mn ln hi wi br sp si le un ul px tm ps ft fk lea ris pl tx kd va nx hm pr sv = some r ∧ f_X8_carryOut kn le_ S past pad_ = some r' ∧ r.1 = r'.1 ∧ (∃ n T, ScR n T se (r.2.2.2.2.2.2.2.1) (r.2.2.2.2.2.2.2.2.1) (r.2.2.2.2.2.2.2.2.2.1) (r.2.2.2.2.2.2.2.2.2.2.1) (r.2.2.2.2.2.2.2.2.2.2.2.1) (r.2.2.2.2.2.2.2.2.2.2.2.2.1) (r.2.2.2.2.2.2.2.2.2.2.2.2.2.1) (r.2.2.2.2.2.2.2.2.2.2.2.2.2.2.1) (r.2.2.2.2.2.2.2.2.2.2.2.2.2.2.2.1) (r.2.2.2.2.2.2.2.2.2.2.2.2.2.2.2.2.1) (r.2.2.2.2.2.2.2.2.2.2.2.2.2.2.2.2.2.1) (r.2.2.2.1) (r.2.2.2.2.1) (r.2.2.2.2.2.1) (r.2.2.2.2.2.2.1) r'.2.2.2.1) ∧ HiR r.2.2.2.2.2.2.2.2.2.2.2.2.2.2.2.2.2.2.2.2.2.2.2.2.1 r.2.2.2.2.2.2.2.2.2.2.2.2.2.2.2.2.2.2.2.2.2.2.2.2.2 r.2.1 r.2.2.1 r'.2.1 r'.2.2.2.2 ∧ ∃ m, TxR (r.2.2.2.2.2.2.2.2.2.2.2.2.2.2.2.2.2.2.2.2.1) tx r'.2.2.1 pad_ m x := by
  have m80 := hx.2.2.1
  unfold f_X7_carryOut f_X8_carryOut
  obtain ⟨r1, r1', f1, f2, f3, f4⟩ := sim_fault hx kd va
  rw [f1, f2, bn_some, bn_some, f3]
  by_cases e : r1' = -6
  · obtain ⟨r2, r2', p1, p2, p3⟩ := sim_record h hH
    rw [if_pos e, if_pos e, p1, p2, bn_some, bn_some]
    obtain ⟨cnt', more', ord', tm', ps', ft', fk', mn', ln', hi', wi', br', sp', si', le', un', ul', px', lea', ris', at', kd', va', pc, S', s1, s2, n', T', s3⟩ := carry_2 hx se (fun (w79 : Int32) (w80 : Int32) (w81 : Int32) (w82 : Int32) (w83 : Int32) (w84 : Int32) (w85 : Int32) (w86 : Int32) (w87 : Nat → Int32) (w88 : Nat → Int32) (w89 : Nat → Int32) (w90 : Nat → Int32) (w91 : Nat → Int32) (w92 : Nat → Int32) (w93 : Nat → Int32) (w94 : Nat → Int32) (w95 : Nat → Int32) (w96 : Nat → Int32) (w97 : Nat → Int32) (w98 : Nat → Int32) (w99 : Int32) (w100 : Int32) (w101 : Nat → Int32) => some ((w79, r2.1, r2.2.1, w82, w83, w84, w85, w86, w87, w88, w89, w90, w91, w92, w93, w94, w95, w96, w97, w98, 0, w99, w100, w101, r2.2.2.1, r2.2.2.2))) (fun (w15 : Int32) (w16 : Int32) (w17 : Nat → Int32) => some ((w15, r2'.1, 0, w17, r2'.2))) (m + 2) 0 0 4000 0 n T tm ps ft fk mn ln hi wi br sp si le un ul px lea ris S r1.2.2.1 r1.2.2.2 h (f4 e) (by omega) (by omega)
    refine ⟨_, _, s1, s2, rfl, ⟨n', T', s3⟩, p3, 0, rfl, rfl, by omega, fun i hi => absurd hi (by omega)⟩
  · rw [if_neg e, if_neg e]
    exact ⟨_, _, rfl, rfl, rfl, ⟨n, T, h⟩, hH, m, hx⟩
