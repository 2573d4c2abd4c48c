/-! orders -/
theorem comesBy_eq {pl le_ : Int32} {tx pad_ : Nat → Int32} {m : Nat} {x : Nat → Nat} (h : TxR pl tx le_ pad_ m x) {i : Nat} (hi : i ≤ 90) (hz : SZ m x (i + 1)) {s o : Int32} (w : ∀ K, CBT le_ pad_ (nI ((P2 m x (P2 m x (P2 m x (P2 m x (i + 1))))) + 1)) K = K s o) (S : Nat → Int32) : f_X8_comesBy le_ S pad_ (nI i) = ctail S (nI (NV m x (i + 1))) (nI (NV m x (P2 m x (i + 1)))) (nI (NV m x (P2 m x (P2 m x (i + 1))))) (nI (NV m x (P2 m x (P2 m x (P2 m x (i + 1)))))) (nI (x (P2 m x (P2 m x (P2 m x (P2 m x (i + 1))))) - 48)) s o := by
  have m80 := h.2.2.1
  obtain ⟨c0, c1, c2, c3, c4, c5, c6, c7, c8⟩ := hz
  have b0 := NE_le c0
  have b2 := NE_le c2
  have b4 := NE_le c4
  have b6 := NE_le c6
  have pp0 : P2 m x (i + 1) = NE m x (i + 1) + 1 := rfl
  have pp1 : P2 m x (P2 m x (i + 1)) = NE m x (P2 m x (i + 1)) + 1 := rfl
  have pp2 : P2 m x (P2 m x (P2 m x (i + 1))) = NE m x (P2 m x (P2 m x (i + 1))) + 1 := rfl
  have pp3 : P2 m x (P2 m x (P2 m x (P2 m x (i + 1)))) = NE m x (P2 m x (P2 m x (P2 m x (i + 1)))) + 1 := rfl
  have k0 : f_X8_numberEnd le_ pad_ (nI (i + 1)) = some (nI (NE m x (i + 1))) := by rw [num_m h (by omega), if_pos c0]
  have k1 : f_X8_numberEnd le_ pad_ (nI (P2 m x (i + 1))) = some (nI (NE m x (P2 m x (i + 1)))) := by rw [num_m h (by omega), if_pos c2]
  have k2 : f_X8_numberEnd le_ pad_ (nI (P2 m x (P2 m x (i + 1)))) = some (nI (NE m x (P2 m x (P2 m x (i + 1))))) := by rw [num_m h (by omega), if_pos c4]
  have k3 : f_X8_numberEnd le_ pad_ (nI (P2 m x (P2 m x (P2 m x (i + 1))))) = some (nI (NE m x (P2 m x (P2 m x (P2 m x (i + 1)))))) := by rw [num_m h (by omega), if_pos c6]
  have v0 : f_X8_numberAt le_ pad_ (nI (i + 1)) = some (nI (NV m x (i + 1))) := numv_m h (by omega) c0
  have v1 : f_X8_numberAt le_ pad_ (nI (P2 m x (i + 1))) = some (nI (NV m x (P2 m x (i + 1)))) := numv_m h (by omega) c2
  have v2 : f_X8_numberAt le_ pad_ (nI (P2 m x (P2 m x (i + 1)))) = some (nI (NV m x (P2 m x (P2 m x (i + 1))))) := numv_m h (by omega) c4
  have v3 : f_X8_numberAt le_ pad_ (nI (P2 m x (P2 m x (P2 m x (i + 1))))) = some (nI (NV m x (P2 m x (P2 m x (P2 m x (i + 1)))))) := numv_m h (by omega) c6
  have v4 : f_X8_digit le_ pad_ (nI (P2 m x (P2 m x (P2 m x (P2 m x (i + 1)))))) = some (nI (x (P2 m x (P2 m x (P2 m x (P2 m x (i + 1))))) - 48)) := by rw [dig_m h (by omega), if_pos c8]
  unfold f_X8_comesBy
  rw [nI_1 i, k0, bn_some, nI_1, bd_eq, k1, bn_some, nI_1, bd_eq, k2, bn_some, nI_1, bd_eq, k3, bn_some, nI_1, bd_eq, nI_1, bd_eq]
  refine (w _).trans ?_
  unfold ctail
  simp only [v0, v1, v2, v3, v4, bn_some]
/-- what an order that was read tells -/
def CT (le_ : Int32) (pad_ : Nat → Int32) (x : Nat → Nat) (i : Nat) (va : Nat → Int32) : Prop :=
  (x i = 103 ∧ ∃ o : Int32, ((va 6 = -6 ∧ o = -1) ∨ ∃ d : Nat, d ≤ 9 ∧ va 6 = nI d ∧ o = nI d) ∧ ∀ S, f_X8_comesBy le_ S pad_ (nI i) = ctail S (va 0) (va 1) (va 2) (va 3) (va 4) (va 5) o) ∨ (x i = 102 ∧ ∃ dg r4 : Int32, f_X8_digit le_ pad_ (nI (i + 1)) = some dg ∧ 0 ≤ dg ∧ f_X8_numberAt le_ pad_ (nI (i + 1)) = some (va 0) ∧ f_X8_numberEnd le_ pad_ (nI (i + 1)) = some r4 ∧ f_X8_numberAt le_ pad_ (r4 + 1) = some (va 1)) ∨ (x i = 119 ∧ ∃ dg : Int32, f_X8_digit le_ pad_ (nI (i + 1)) = some dg ∧ 0 ≤ dg ∧ f_X8_numberAt le_ pad_ (nI (i + 1)) = some (va 0)) ∨ x i = 112
theorem bn3 {α β γ δ : Type} (a : Option α) (f : α → Option β) (g : β → Option γ) (k : γ → Option δ) : bn a (fun x => bn (f x) (fun y => bn (g y) (fun z => k z))) = bn (bn a (fun x => bn (f x) (fun y => g y))) k := by
  cases a with
  | none => rfl
  | some x =>
    rw [bn_some, bn_some]
    cases f x with
    | none => rfl
    | some y => rfl
theorem thing_2 {pl le_ : Int32} {tx pad_ : Nat → Int32} {m : Nat} {x : Nat → Nat} (h : TxR pl tx le_ pad_ m x) {i : Nat} (hi : i < m) (hx : x i = 103) (va : Nat → Int32) : ∃ ok p va', f_X4_readThing pl tx (nI (i + 1)) va = some (if ok = true then 1 else 0, nI p, va') ∧ bn (f_X8_sizesEnd le_ pad_ (nI (i + 1))) (fun r6 => bn (f_X8_behind le_ pad_ r6 42) (fun r7 => bn (f_X8_digitEnd le_ pad_ r7) (fun r8 => OET le_ pad_ r8))) = some (st ok p) ∧ p ≤ 111 ∧ (ok = true → i < p ∧ p ≤ m ∧ CT le_ pad_ x i va') := by
  have m80 := h.2.2.1
  rw [readThing_CH]
  rw [bn3 (f_X8_sizesEnd le_ pad_ (nI (i + 1))) (fun r6 => f_X8_behind le_ pad_ r6 42) (fun r7 => f_X8_digitEnd le_ pad_ r7) (OET le_ pad_)]
  rcases sizes_2 h (p := i + 1) (by omega) (upd (upd va 5 0) 6 (-6)) with ⟨f, v, f1, f2, f3⟩ | ⟨z, f2, f3⟩
  · rw [f2, f3, C97_0, bn_some]
    refine ⟨false, f, v, rfl, ?_, by omega, fun y => absurd y (by decide)⟩
    unfold OET
    rw [isp_f (by omega), bn_some, jn_eq, if_pos e00]
    exact if_pos (st_neg (by omega)).2.1
  · rw [f2, f3, bn_some]
    have hP5 := z.2.2.2.2.2.2.2.2.1
    have b0 := (NE_le z.1).1
    have b2 := (NE_le z.2.2.1).1
    have b4 := (NE_le z.2.2.2.2.1).1
    have b6 := (NE_le z.2.2.2.2.2.2.1).1
    have pp0 : P2 m x (i + 1) = NE m x (i + 1) + 1 := rfl
    have pp1 : P2 m x (P2 m x (i + 1)) = NE m x (P2 m x (i + 1)) + 1 := rfl
    have pp2 : P2 m x (P2 m x (P2 m x (i + 1))) = NE m x (P2 m x (P2 m x (i + 1))) + 1 := rfl
    have pp3 : P2 m x (P2 m x (P2 m x (P2 m x (i + 1)))) = NE m x (P2 m x (P2 m x (P2 m x (i + 1)))) + 1 := rfl
    obtain ⟨ok, p, va', o1, o2, o3, o4, o5⟩ := C97_2 h (q := (P2 m x (P2 m x (P2 m x (P2 m x (i + 1))))) + 1) (by omega) (by omega) (va9 (upd (upd va 5 0) 6 (-6)) m x (i + 1)) (by
      unfold va9
      repeat (first | rw [upd_at] | rw [upd_ne _ (by decide)])) (by
      unfold va9
      repeat (first | rw [upd_at] | rw [upd_ne _ (by decide)]))
    refine ⟨ok, p, va', o1, o2, o4, fun y => ?_⟩
    obtain ⟨y1, y2, s, o, y3, y4, y5⟩ := o5 y
    refine ⟨by omega, y1 (by omega), Or.inl ⟨hx, o, y5, fun S => ?_⟩⟩
    rw [comesBy_eq h (by omega) z y3 S, y2 0 (by decide), y2 1 (by decide), y2 2 (by decide), y2 3 (by decide), y2 4 (by decide), y4]
    have g0 : va9 (upd (upd va 5 0) 6 (-6)) m x (i + 1) 0 = nI (NV m x (i + 1)) := by unfold va9; repeat (first | rw [upd_at] | rw [upd_ne _ (by decide)])
    have g1 : va9 (upd (upd va 5 0) 6 (-6)) m x (i + 1) 1 = nI (NV m x (P2 m x (i + 1))) := by unfold va9; repeat (first | rw [upd_at] | rw [upd_ne _ (by decide)])
    have g2 : va9 (upd (upd va 5 0) 6 (-6)) m x (i + 1) 2 = nI (NV m x (P2 m x (P2 m x (i + 1)))) := by unfold va9; repeat (first | rw [upd_at] | rw [upd_ne _ (by decide)])
    have g3 : va9 (upd (upd va 5 0) 6 (-6)) m x (i + 1) 3 = nI (NV m x (P2 m x (P2 m x (P2 m x (i + 1))))) := by unfold va9; repeat (first | rw [upd_at] | rw [upd_ne _ (by decide)])
    have g4 : va9 (upd (upd va 5 0) 6 (-6)) m x (i + 1) 4 = nI (x (P2 m x (P2 m x (P2 m x (P2 m x (i + 1))))) - 48) := by unfold va9; repeat (first | rw [upd_at] | rw [upd_ne _ (by decide)])
    rw [g0, g1, g2, g3, g4]
theorem order_2 {pl le_ : Int32} {tx pad_ : Nat → Int32} {m : Nat} {x : Nat → Nat} (h : TxR pl tx le_ pad_ m x) {i : Nat} (hi : i ≤ 90) (va : Nat → Int32) : ∃ ok p kd va', f_X4_readOrder pl tx (nI i) va = some (if ok = true then 1 else 0, nI p, kd, va') ∧ f_X8_orderEnd le_ pad_ (nI i) = some (st ok p) ∧ p ≤ 111 ∧ (ok = true → i < p ∧ p ≤ m ∧ i < m ∧ kd = nI (x i) ∧ CT le_ pad_ x i va') := by
  have m80 := h.2.2.1
  unfold f_X4_readOrder f_X8_orderEnd
  have e103 := take_x h (p := i) (w := 103) (by omega) (by decide) (by decide)
  have e102 := take_x h (p := i) (w := 102) (by omega) (by decide) (by decide)
  have e119 := take_x h (p := i) (w := 119) (by omega) (by decide) (by decide)
  have e112 := take_x h (p := i) (w := 112) (by omega) (by decide) (by decide)
  have s103 := sgn_is h (p := i) (w := 103) (by decide)
  have s102 := sgn_is h (p := i) (w := 102) (by decide)
  have s119 := sgn_is h (p := i) (w := 119) (by decide)
  have s112 := sgn_is h (p := i) (w := 112) (by decide)
  have hg : ∀ o : Option OUT_X4_readOrder, gc (if i < m then nI (x i) else 32) o = o := fun o => by
    by_cases q : i < m
    · obtain ⟨a1, a2, a3, a4⟩ := h.2.2.2 i q
      rw [if_pos q]; exact gc_ok ⟨nI_pos' (by omega), nI_le (b := 65535) (by omega) (by decide)⟩
    · rw [if_neg q]; exact gc_ok (by decide)
  have hB : ∀ (ok : Bool) (o : Option OUT_X4_readOrder), gb (if ok = true then 1 else 0) o = o := fun ok o => by
    cases ok
    · exact gb_ok (Or.inl rfl)
    · exact gb_ok (Or.inr rfl)
  rw [chr_c h (by omega), bn_some, hg, sgn_m h (by omega), bn_some, nI_1 i]
  by_cases c103 : isC m x i 103
  · rw [if_pos c103] at e103
    have e103 : f_X4_take pl tx (nI i) 103 = some (1, nI (i + 1)) := e103
    have n102 : ¬ (if i < m then nI (x i) else (-1 : Int32)) = 102 := fun z => by have := (s102.mp z).2; have := c103.2; omega
    obtain ⟨ok, p, va', o1, o2, o3, o4⟩ := thing_2 h c103.1 c103.2 va
    rw [e103, bn_some, if_neg n10, o1, bn_some, if_neg n102, if_pos (show _ = (103 : Int32) from s103.mpr c103)]
    have hb := hB ok (some ((if ok = true then 1 else 0), nI p, (if i < m then nI (x i) else 32), va'))
    refine ⟨ok, p, _, va', hb, o2, o3, fun y => ?_⟩
    obtain ⟨y1, y2, y3⟩ := o4 y
    exact ⟨y1, y2, c103.1, if_pos c103.1, y3⟩
  · rw [if_neg c103] at e103
    have e103 : f_X4_take pl tx (nI i) 103 = some (0, nI i) := e103
    have n103 : ¬ (if i < m then nI (x i) else (-1 : Int32)) = 103 := fun z => c103 (s103.mp z)
    rw [e103, bn_some, if_pos e00]
    by_cases c102 : isC m x i 102
    · rw [if_pos c102] at e102
      have e102 : f_X4_take pl tx (nI i) 102 = some (1, nI (i + 1)) := e102
      have ci := c102.1
      rw [e102, bn_some, if_neg n10, if_pos (show _ = (102 : Int32) from s102.mpr c102)]
      have en := rnum_c h (p := i + 1) (w := 0) (by omega) (by decide) va
      have ek := num_m h (p := i + 1) (by omega)
      by_cases d : isD m x (i + 1)
      · have bd0 := NE_le d
        rw [if_pos d] at en ek
        have en : f_X4_readNumber pl tx (nI (i + 1)) va 0 = some (1, nI (NE m x (i + 1)), upd va 0 (nI (NV m x (i + 1)))) := en
        have et := take_x h (p := NE m x (i + 1)) (w := 46) (by omega) (by decide) (by decide)
        have eb := beh_m h (p := NE m x (i + 1)) (w := 46) (by omega) (by decide)
        rw [en, bn_some, if_neg n10, ek, bn_some]
        by_cases c46 : isC m x (NE m x (i + 1)) 46
        · have c46' := c46.1
          rw [if_pos c46] at et eb
          have et : f_X4_take pl tx (nI (NE m x (i + 1))) 46 = some (1, nI (NE m x (i + 1) + 1)) := et
          have eb : f_X8_behind le_ pad_ (nI (NE m x (i + 1))) 46 = some (nI (NE m x (i + 1) + 1)) := eb
          have en2 := rnum_c h (p := NE m x (i + 1) + 1) (w := 1) (by omega) (by decide) (upd va 0 (nI (NV m x (i + 1))))
          have ek2 := num_m h (p := NE m x (i + 1) + 1) (by omega)
          rw [et, bn_some, if_neg n10, eb, bn_some]
          by_cases d2 : isD m x (NE m x (i + 1) + 1)
          · have bd2 := NE_le d2
            rw [if_pos d2] at en2 ek2
            have en2 : f_X4_readNumber pl tx (nI (NE m x (i + 1) + 1)) (upd va 0 (nI (NV m x (i + 1)))) 1 = some (1, nI (NE m x (NE m x (i + 1) + 1)), upd (upd va 0 (nI (NV m x (i + 1)))) 1 (nI (NV m x (NE m x (i + 1) + 1)))) := en2
            rw [en2, bn_some, if_neg n10, ek2, bn_some]
            refine ⟨true, NE m x (NE m x (i + 1) + 1), _, upd (upd va 0 (nI (NV m x (i + 1)))) 1 (nI (NV m x (NE m x (i + 1) + 1))), rfl, rfl, by omega, fun _ => ⟨by omega, bd2.2, ci, if_pos ci, Or.inr (Or.inl ⟨c102.2, nI (x (i + 1) - 48), nI (NE m x (i + 1)), by rw [dig_m h (by omega), if_pos d], nI_pos' (by have := d.2.2; omega), by rw [numv_m h (by omega) d, upd_ne _ (by decide), upd_at], ek, by rw [nI_1, numv_m h (by omega) d2, upd_at]⟩)⟩⟩
          · rw [if_neg d2] at en2 ek2
            have en2 : f_X4_readNumber pl tx (nI (NE m x (i + 1) + 1)) (upd va 0 (nI (NV m x (i + 1)))) 1 = some (0, nI (NE m x (i + 1) + 1), upd va 0 (nI (NV m x (i + 1)))) := en2
            rw [en2, bn_some, if_pos e00, ek2, bn_some]
            exact ⟨false, NE m x (i + 1) + 1, _, _, rfl, rfl, by omega, fun y => absurd y (by decide)⟩
        · rw [if_neg c46] at et eb
          have et : f_X4_take pl tx (nI (NE m x (i + 1))) 46 = some (0, nI (NE m x (i + 1))) := et
          have eb : f_X8_behind le_ pad_ (nI (NE m x (i + 1))) 46 = some (st false (NE m x (i + 1))) := eb
          rw [et, bn_some, if_pos e00, eb, bn_some, num_f (by omega), bn_some]
          exact ⟨false, NE m x (i + 1), _, _, rfl, rfl, by omega, fun y => absurd y (by decide)⟩
      · rw [if_neg d] at en ek
        have en : f_X4_readNumber pl tx (nI (i + 1)) va 0 = some (0, nI (i + 1), va) := en
        rw [en, bn_some, if_pos e00, ek, bn_some, beh_f (by omega), bn_some, num_f (by omega), bn_some]
        exact ⟨false, i + 1, _, _, rfl, rfl, by omega, fun y => absurd y (by decide)⟩
    · rw [if_neg c102] at e102
      have e102 : f_X4_take pl tx (nI i) 102 = some (0, nI i) := e102
      have n102 : ¬ (if i < m then nI (x i) else (-1 : Int32)) = 102 := fun z => c102 (s102.mp z)
      rw [e102, bn_some, if_pos e00, if_neg n102, if_neg n103]
      by_cases c119 : isC m x i 119
      · rw [if_pos c119] at e119
        have e119 : f_X4_take pl tx (nI i) 119 = some (1, nI (i + 1)) := e119
        have ci := c119.1
        have n112 : ¬ (if i < m then nI (x i) else (-1 : Int32)) = 112 := fun z => by have := (s112.mp z).2; have := c119.2; omega
        rw [e119, bn_some, if_neg n10, if_neg n112, if_pos (show _ = (119 : Int32) from s119.mpr c119)]
        have en := rnum_c h (p := i + 1) (w := 0) (by omega) (by decide) va
        have ek := num_m h (p := i + 1) (by omega)
        by_cases d : isD m x (i + 1)
        · have bd0 := NE_le d
          rw [if_pos d] at en ek
          have en : f_X4_readNumber pl tx (nI (i + 1)) va 0 = some (1, nI (NE m x (i + 1)), upd va 0 (nI (NV m x (i + 1)))) := en
          rw [en, bn_some, ek, bn_some]
          refine ⟨true, NE m x (i + 1), _, upd va 0 (nI (NV m x (i + 1))), gb_ok (Or.inr rfl), rfl, by omega, fun _ => ⟨by omega, bd0.2, ci, if_pos ci, Or.inr (Or.inr (Or.inl ⟨c119.2, nI (x (i + 1) - 48), by rw [dig_m h (by omega), if_pos d], nI_pos' (by have := d.2.2; omega), by rw [numv_m h (by omega) d, upd_at]⟩))⟩⟩
        · rw [if_neg d] at en ek
          have en : f_X4_readNumber pl tx (nI (i + 1)) va 0 = some (0, nI (i + 1), va) := en
          rw [en, bn_some, ek, bn_some]
          exact ⟨false, i + 1, _, _, gb_ok (Or.inl rfl), rfl, by omega, fun y => absurd y (by decide)⟩
      · rw [if_neg c119] at e119
        have e119 : f_X4_take pl tx (nI i) 119 = some (0, nI i) := e119
        have n119 : ¬ (if i < m then nI (x i) else (-1 : Int32)) = 119 := fun z => c119 (s119.mp z)
        rw [e119, bn_some, if_pos e00]
        by_cases c112 : isC m x i 112
        · rw [if_pos c112] at e112
          have e112 : f_X4_take pl tx (nI i) 112 = some (1, nI (i + 1)) := e112
          rw [e112, bn_some, if_pos (show _ = (112 : Int32) from s112.mpr c112)]
          exact ⟨true, i + 1, _, _, gb_ok (Or.inr rfl), rfl, by omega, fun _ => ⟨by omega, c112.1, c112.1, if_pos c112.1, Or.inr (Or.inr (Or.inr c112.2))⟩⟩
        · rw [if_neg c112] at e112
          have e112 : f_X4_take pl tx (nI i) 112 = some (0, nI i) := e112
          have n112 : ¬ (if i < m then nI (x i) else (-1 : Int32)) = 112 := fun z => c112 (s112.mp z)
          rw [e112, bn_some, if_neg n112, if_neg n119]
          exact ⟨false, i, _, _, gb_ok (Or.inl rfl), rfl, by omega, fun y => absurd y (by decide)⟩
