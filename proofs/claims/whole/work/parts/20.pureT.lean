/-! the speed and that on which it rides -/
def ON (pl : Int32) (tx : Nat → Int32) (p : Int32) (v : Nat → Int32) : Option OUT_X4_readThing := bn (f_X4_take pl tx p 64) (fun r11 => (if r11.1 = 0 then some ((1, r11.2, v)) else bn (f_X4_readDigit pl tx r11.2 v 6) (fun r12 => (if r12.1 = 0 then some ((0, r12.2.1, r12.2.2)) else some ((1, r12.2.1, r12.2.2))))))
def MT (le_ : Int32) (pad_ : Nat → Int32) (j10 : Int32) : Option OUT_X8_orderEnd := if j10 ≤ 0 then some (j10) else bn (f_X8_sign le_ pad_ j10) (fun r11 => (if ¬ r11 = 64 then some (j10) else bn (f_X8_digitEnd le_ pad_ (j10 + 1)) (fun r12 => some (r12))))
def OC (le_ : Int32) (pad_ : Nat → Int32) (j15 : Int32) (K : Int32 → Option OUT_X8_comesBy) : Option OUT_X8_comesBy := bn (f_X8_sign le_ pad_ j15) (fun r16 => (if ¬ r16 = 64 then K (-1) else bn (f_X8_digit le_ pad_ (j15 + 1)) (fun r35 => K r35)))
def CBT (le_ : Int32) (pad_ : Nat → Int32) (x9 : Int32) (K : Int32 → Int32 → Option OUT_X8_comesBy) : Option OUT_X8_comesBy := bn (f_X8_isSpeed le_ pad_ x9) (fun r10 => jn (fun (j11 : Int32) => bn (f_X8_isSpeed le_ pad_ x9) (fun r12 => jn (fun (j13 : Int32) => bn (f_X8_isSpeed le_ pad_ x9) (fun r14 => jn (fun (j15 : Int32) => bn (f_X8_sign le_ pad_ j15) (fun r16 => jn (K j13) (fun j143 => (if ¬ r16 = 64 then j143 (-1) else bn (f_X8_digit le_ pad_ (j15 + 1)) (fun r35 => j143 r35))))) (fun j118 => (if r14 = 0 then j118 x9 else bn (f_X8_numberEnd le_ pad_ (x9 + 1)) (fun r37 => j118 r37))))) (fun j94 => (if r12 = 0 then j94 j11 else bn (f_X8_sign le_ pad_ x9) (fun r39 => (if ¬ r39 = 45 then j94 j11 else j94 (-j11))))))) (fun j64 => (if r10 = 0 then j64 0 else bn (f_X8_numberAt le_ pad_ (x9 + 1)) (fun r42 => j64 r42))))
theorem C97_0 {pl : Int32} {tx : Nat → Int32} {f : Int32} {va : Nat → Int32} : C97 pl tx 0 f va = some (0, f, va) := by
  unfold C97
  simp only [jn_eq, ite_true]
  rw [if_neg (not_not_intro trivial)]
theorem ON_2 {pl le_ : Int32} {tx pad_ : Nat → Int32} {m : Nat} {x : Nat → Nat} (h : TxR pl tx le_ pad_ m x) {p : Nat} (hp1 : 1 ≤ p) (hp : p ≤ 110) (va : Nat → Int32) : ∃ ok p' va', ON pl tx (nI p) va = some (if ok = true then 1 else 0, nI p', va') ∧ MT le_ pad_ (nI p) = some (st ok p') ∧ p ≤ p' ∧ p' ≤ 111 ∧ (ok = true → (p ≤ m → p' ≤ m) ∧ (∀ j, ¬ j = 6 → va' j = va j) ∧ ∃ o : Int32, (∀ K, OC le_ pad_ (nI p) K = K o) ∧ ((va' 6 = va 6 ∧ o = -1) ∨ ∃ d : Nat, d ≤ 9 ∧ va' 6 = nI d ∧ o = nI d)) := by
  have m80 := h.2.2.1
  unfold ON MT OC
  have e1 := take_x h (p := p) (w := 64) (by omega) (by decide) (by decide)
  have s1 := sgn_is h (p := p) (w := 64) (by decide)
  rw [if_neg (nI_nle (by omega) (by omega)), sgn_m h (by omega), bn_some, nI_1, dige_m h (p := p + 1) (by omega)]
  by_cases c : isC m x p 64
  · rw [if_pos c] at e1
    have e1 : f_X4_take pl tx (nI p) 64 = some (1, nI (p + 1)) := e1
    have s2 : ¬ ¬ (if p < m then nI (x p) else (-1 : Int32)) = 64 := not_not_intro (s1.mpr c)
    have e2 := rdig_c h (p := p + 1) (w := 6) (by omega) (by decide) va
    rw [e1, bn_some, if_neg s2, if_neg n10]
    by_cases d : isD m x (p + 1)
    · rw [if_pos d] at e2 ⊢
      have e2 : f_X4_readDigit pl tx (nI (p + 1)) va 6 = some (1, nI (p + 1 + 1), upd va 6 (nI (x (p + 1) - 48))) := e2
      rw [e2, bn_some, bn_some, if_neg n10]
      refine ⟨true, p + 1 + 1, upd va 6 (nI (x (p + 1) - 48)), rfl, rfl, by omega, by omega, fun _ => ⟨fun _ => d.1, fun j hj => upd_ne _ hj, nI (x (p + 1) - 48), fun K => ?_, Or.inr ⟨x (p + 1) - 48, by have := d.2.2; omega, upd_at _ _ _, rfl⟩⟩⟩
      rw [bn_some, if_neg s2, dig_m h (by omega), if_pos d, bn_some]
    · rw [if_neg d] at e2 ⊢
      have e2 : f_X4_readDigit pl tx (nI (p + 1)) va 6 = some (0, nI (p + 1), va) := e2
      rw [e2, bn_some, bn_some, if_pos e00]
      exact ⟨false, p + 1, va, rfl, rfl, by omega, by omega, fun z => absurd z (by decide)⟩
  · rw [if_neg c] at e1
    have e1 : f_X4_take pl tx (nI p) 64 = some (0, nI p) := e1
    have s2 : ¬ (if p < m then nI (x p) else (-1 : Int32)) = 64 := fun z => c (s1.mp z)
    rw [e1, bn_some, if_pos s2, if_pos e00]
    refine ⟨true, p, va, rfl, rfl, by omega, by omega, fun _ => ⟨fun q => q, fun j hj => rfl, -1, fun K => ?_, Or.inl ⟨rfl, rfl⟩⟩⟩
    rw [bn_some, if_pos s2]
theorem C97_2 {pl le_ : Int32} {tx pad_ : Nat → Int32} {m : Nat} {x : Nat → Nat} (h : TxR pl tx le_ pad_ m x) {q : Nat} (hq1 : 1 ≤ q) (hq : q ≤ 100) (va : Nat → Int32) (h5 : va 5 = 0) (h6 : va 6 = -6) : ∃ ok p va', C97 pl tx 1 (nI q) va = some (if ok = true then 1 else 0, nI p, va') ∧ OET le_ pad_ (nI q) = some (st ok p) ∧ q ≤ p ∧ p ≤ 111 ∧ (ok = true → (q ≤ m → p ≤ m) ∧ (∀ j, j < 5 → va' j = va j) ∧ ∃ s o : Int32, (∀ K, CBT le_ pad_ (nI q) K = K s o) ∧ va' 5 = s ∧ ((va' 6 = -6 ∧ o = -1) ∨ ∃ d : Nat, d ≤ 9 ∧ va' 6 = nI d ∧ o = nI d)) := by
  have m80 := h.2.2.1
  have e45 := take_x h (p := q) (w := 45) (by omega) (by decide) (by decide)
  have e43 := take_x h (p := q) (w := 43) (by omega) (by decide) (by decide)
  have s45 := sgn_is h (p := q) (w := 45) (by decide)
  have ei := isp_m h (p := q) hq1 (by omega)
  have en := rnum_c h (p := q + 1) (w := 5) (by omega) (by decide) va
  have ek := num_m h (p := q + 1) (by omega)
  have es := sgn_m h (p := q) (by omega)
  have oet : ∀ z : Int32, f_X8_isSpeed le_ pad_ (nI q) = some z → OET le_ pad_ (nI q) = if z = 0 then MT le_ pad_ (nI q) else bn (f_X8_numberEnd le_ pad_ (nI (q + 1))) (fun r15 => MT le_ pad_ r15) := fun z hz => by
    unfold OET
    rw [hz, bn_some, nI_1]
    rfl
  have MTf : ∀ f : Nat, f ≤ 200 → MT le_ pad_ (st false f) = some (st false f) := fun f hf => if_pos (st_neg (by omega)).2.1
  by_cases c45 : isC m x q 45
  · have hi1 : f_X8_isSpeed le_ pad_ (nI q) = some 1 := by rw [ei, if_pos (Or.inr c45)]
    rw [if_pos c45] at e45
    have e45 : f_X4_take pl tx (nI q) 45 = some (1, nI (q + 1)) := e45
    by_cases d : isD m x (q + 1)
    · rw [if_pos d] at en ek
      have en : f_X4_readNumber pl tx (nI (q + 1)) va 5 = some (1, nI (NE m x (q + 1)), upd va 5 (nI (NV m x (q + 1)))) := en
      have hne := NE_le d
      have ec : C97 pl tx 1 (nI q) va = ON pl tx (nI (NE m x (q + 1))) (upd (upd va 5 (nI (NV m x (q + 1)))) 5 (-(nI (NV m x (q + 1))))) := by
        unfold C97 ON
        simp only [jn_eq, if_neg n10, e45, bn_some, en]
        have g : vp_in 5 7 := vp_in_nI (n := 5) (by decide) (by decide)
        rw [if_pos n10, gd_ok g, gd_ok g]
        rfl
      obtain ⟨ok, p', va', o1, o2, o3, o4, o5⟩ := ON_2 h (p := NE m x (q + 1)) (by omega) (by omega) (upd (upd va 5 (nI (NV m x (q + 1)))) 5 (-(nI (NV m x (q + 1)))))
      refine ⟨ok, p', va', by rw [ec, o1], by rw [oet 1 hi1, if_neg n10, ek, bn_some, o2], by omega, o4, fun z => ?_⟩
      obtain ⟨w1, w2, o, w3, w4⟩ := o5 z
      refine ⟨fun _ => w1 (by omega), fun j hj => by rw [w2 j (by omega), upd_ne _ (by omega), upd_ne _ (by omega)], -(nI (NV m x (q + 1))), o, fun K => ?_, by rw [w2 5 (by decide), upd_at], ?_⟩
      · unfold CBT
        simp only [hi1, bn_some, jn_eq, if_neg n10, nI_1, numv_m h (p := q + 1) (by omega) d, ek, es]
        rw [if_neg (show ¬ ¬ (if q < m then nI (x q) else (-1 : Int32)) = 45 from not_not_intro (s45.mpr c45))]
        have w9 := w3 (fun o => K (-(nI (NV m x (q + 1)))) o)
        unfold OC at w9
        rw [nI_1] at w9
        exact w9
      · rcases w4 with ⟨y1, y2⟩ | y
        · exact Or.inl ⟨by rw [y1, upd_ne _ (by decide), upd_ne _ (by decide), h6], y2⟩
        · exact Or.inr y
    · rw [if_neg d] at en ek
      have en : f_X4_readNumber pl tx (nI (q + 1)) va 5 = some (0, nI (q + 1), va) := en
      refine ⟨false, q + 1, upd va 5 (-(va 5)), ?_, by rw [oet 1 hi1, if_neg n10, ek, bn_some, MTf _ (by omega)], by omega, by omega, fun z => absurd z (by decide)⟩
      unfold C97
      simp only [jn_eq, if_neg n10, e45, bn_some, en]
      have g : vp_in 5 7 := vp_in_nI (n := 5) (by decide) (by decide)
      rw [if_pos n10, gd_ok g, gd_ok g]
      rfl
  · rw [if_neg c45] at e45
    have e45 : f_X4_take pl tx (nI q) 45 = some (0, nI q) := e45
    by_cases c43 : isC m x q 43
    · have hi1 : f_X8_isSpeed le_ pad_ (nI q) = some 1 := by rw [ei, if_pos (Or.inl c43)]
      rw [if_pos c43] at e43
      have e43 : f_X4_take pl tx (nI q) 43 = some (1, nI (q + 1)) := e43
      by_cases d : isD m x (q + 1)
      · rw [if_pos d] at en ek
        have en : f_X4_readNumber pl tx (nI (q + 1)) va 5 = some (1, nI (NE m x (q + 1)), upd va 5 (nI (NV m x (q + 1)))) := en
        have hne := NE_le d
        have ec : C97 pl tx 1 (nI q) va = ON pl tx (nI (NE m x (q + 1))) (upd va 5 (nI (NV m x (q + 1)))) := by
          unfold C97 ON
          simp only [jn_eq, if_neg n10, e45, e43, bn_some, en, ite_true]
          rw [if_neg (not_not_intro trivial)]
        obtain ⟨ok, p', va', o1, o2, o3, o4, o5⟩ := ON_2 h (p := NE m x (q + 1)) (by omega) (by omega) (upd va 5 (nI (NV m x (q + 1))))
        refine ⟨ok, p', va', by rw [ec, o1], by rw [oet 1 hi1, if_neg n10, ek, bn_some, o2], by omega, o4, fun z => ?_⟩
        obtain ⟨w1, w2, o, w3, w4⟩ := o5 z
        refine ⟨fun _ => w1 (by omega), fun j hj => by rw [w2 j (by omega), upd_ne _ (by omega)], nI (NV m x (q + 1)), o, fun K => ?_, by rw [w2 5 (by decide), upd_at], ?_⟩
        · unfold CBT
          simp only [hi1, bn_some, jn_eq, if_neg n10, nI_1, numv_m h (p := q + 1) (by omega) d, ek, es]
          rw [if_pos (show ¬ (if q < m then nI (x q) else (-1 : Int32)) = 45 from fun z => c45 (s45.mp z))]
          have w9 := w3 (fun o => K (nI (NV m x (q + 1))) o)
          unfold OC at w9
          rw [nI_1] at w9
          exact w9
        · rcases w4 with ⟨y1, y2⟩ | y
          · exact Or.inl ⟨by rw [y1, upd_ne _ (by decide), h6], y2⟩
          · exact Or.inr y
      · rw [if_neg d] at en ek
        have en : f_X4_readNumber pl tx (nI (q + 1)) va 5 = some (0, nI (q + 1), va) := en
        refine ⟨false, q + 1, va, ?_, by rw [oet 1 hi1, if_neg n10, ek, bn_some, MTf _ (by omega)], by omega, by omega, fun z => absurd z (by decide)⟩
        unfold C97
        simp only [jn_eq, if_neg n10, e45, e43, bn_some, en, ite_true]
        rw [if_neg (not_not_intro trivial)]
        rfl
    · have hi0 : f_X8_isSpeed le_ pad_ (nI q) = some 0 := by rw [ei, if_neg (fun z => z.elim c43 c45)]
      rw [if_neg c43] at e43
      have e43 : f_X4_take pl tx (nI q) 43 = some (0, nI q) := e43
      have ec : C97 pl tx 1 (nI q) va = ON pl tx (nI q) va := by
        unfold C97 ON
        simp only [jn_eq, if_neg n10, e45, e43, bn_some, ite_true]
        rw [if_neg (not_not_intro trivial)]
      obtain ⟨ok, p', va', o1, o2, o3, o4, o5⟩ := ON_2 h (p := q) (by omega) (by omega) va
      refine ⟨ok, p', va', by rw [ec, o1], by rw [oet 0 hi0, if_pos e00, o2], by omega, o4, fun z => ?_⟩
      obtain ⟨w1, w2, o, w3, w4⟩ := o5 z
      refine ⟨fun y => w1 y, fun j hj => by rw [w2 j (by omega)], 0, o, fun K => ?_, by rw [w2 5 (by decide), h5], ?_⟩
      · unfold CBT
        simp only [hi0, bn_some, jn_eq, ite_true]
        exact w3 (fun o => K 0 o)
      · rcases w4 with ⟨y1, y2⟩ | y
        · exact Or.inl ⟨by rw [y1, h6], y2⟩
        · exact Or.inr y
