/-! an order that makes a thing -/
def C97 (pl : Int32) (tx : Nat → Int32) : Int32 → Int32 → (Nat → Int32) → Option OUT_X4_readThing :=
  (fun (j2 : Int32) (j3 : Int32) (j4 : Nat → Int32) => jn (fun (j5 : Int32) (j6 : Int32) => jn (fun (j7 : Int32) (j8 : Int32) (j9 : Nat → Int32) => jn (fun (j10 : Nat → Int32) => (if j7 = 0 then some ((0, j8, j10)) else bn (f_X4_take pl tx j8 64) (fun r11 => (if r11.1 = 0 then some ((1, r11.2, j10)) else bn (f_X4_readDigit pl tx r11.2 j10 6) (fun r12 => (if r12.1 = 0 then some ((0, r12.2.1, r12.2.2)) else some ((1, r12.2.1, r12.2.2)))))))) (fun j157 => (if j5 = 0 then j157 j9 else gd 5 7 (gd 5 7 (j157 (upd j9 (5 : Int32).toNatClampNeg (-(j9 (5 : Int32).toNatClampNeg)))))))) (fun j140 => jn (fun (j17 : Int32) => bn (f_X4_readNumber pl tx j17 j4 5) (fun r18 => j140 r18.1 r18.2.1 r18.2.2)) (fun j134 => (if ¬ j5 = 0 then j134 j6 else (if j2 = 0 then j140 j2 j6 j4 else bn (f_X4_take pl tx j6 43) (fun r19 => (if r19.1 = 0 then j140 j2 r19.2 j4 else j134 r19.2))))))) (fun j116 => (if j2 = 0 then j116 0 j3 else bn (f_X4_take pl tx j3 45) (fun r23 => (if r23.1 = 0 then j116 0 r23.2 else j116 1 r23.2)))))
def CH (pl : Int32) (tx : Nat → Int32) (at_ : Int32) (va : Nat → Int32) (j97 : Int32 → Int32 → (Nat → Int32) → Option OUT_X4_readThing) : Option OUT_X4_readThing :=
  bn (f_X4_readNumber pl tx at_ va 0) (fun r1 => (if r1.1 = 0 then j97 0 r1.2.1 r1.2.2 else bn (f_X4_take pl tx r1.2.1 44) (fun r26 => (if r26.1 = 0 then j97 0 r26.2 r1.2.2 else bn (f_X4_readNumber pl tx r26.2 r1.2.2 1) (fun r27 => (if r27.1 = 0 then j97 0 r27.2.1 r27.2.2 else bn (f_X4_take pl tx r27.2.1 44) (fun r28 => (if r28.1 = 0 then j97 0 r28.2 r27.2.2 else bn (f_X4_readNumber pl tx r28.2 r27.2.2 2) (fun r29 => (if r29.1 = 0 then j97 0 r29.2.1 r29.2.2 else bn (f_X4_take pl tx r29.2.1 44) (fun r30 => (if r30.1 = 0 then j97 0 r30.2 r29.2.2 else bn (f_X4_readNumber pl tx r30.2 r29.2.2 3) (fun r31 => (if r31.1 = 0 then j97 0 r31.2.1 r31.2.2 else bn (f_X4_take pl tx r31.2.1 42) (fun r32 => (if r32.1 = 0 then j97 0 r32.2 r31.2.2 else bn (f_X4_readDigit pl tx r32.2 r31.2.2 4) (fun r33 => (if r33.1 = 0 then j97 0 r33.2.1 r33.2.2 else j97 1 r33.2.1 r33.2.2))))))))))))))))))
theorem readThing_CH {pl : Int32} {tx : Nat → Int32} {at_ : Int32} {va : Nat → Int32} : f_X4_readThing pl tx at_ va = CH pl tx at_ (upd (upd va 5 0) 6 (-6)) (C97 pl tx) := by
  unfold f_X4_readThing
  rw [gd_ok (show vp_in 5 7 from vp_in_nI (n := 5) (by decide) (by decide)), gd_ok (show vp_in 6 7 from vp_in_nI (n := 6) (by decide) (by decide))]
  rfl
def OET (le_ : Int32) (pad_ : Nat → Int32) (r8 : Int32) : Option OUT_X8_orderEnd := bn (f_X8_isSpeed le_ pad_ r8) (fun r9 => jn (fun (j10 : Int32) => (if j10 ≤ 0 then some (j10) else bn (f_X8_sign le_ pad_ j10) (fun r11 => (if ¬ r11 = 64 then some (j10) else bn (f_X8_digitEnd le_ pad_ (j10 + 1)) (fun r12 => some (r12)))))) (fun j85 => (if r9 = 0 then j85 r8 else bn (f_X8_numberEnd le_ pad_ (r8 + 1)) (fun r15 => j85 r15))))
def ctail (S : Nat → Int32) (a b c d e s o : Int32) : Option OUT_X8_comesBy := bn (f_X8_whyNotThing S a b c d e) (fun r23 => (if 0 ≤ r23 then bn (f_X8_in s (-40) 40) (fun r24 => (if r24 = 0 then some (((-2), S)) else gd 5 465 ((if o < (S (5 : Int32).toNatClampNeg) then bn (f_X8_comes S a b c d e) (fun r30 => bn (f_X8_anew r30.2 r30.1 s o) (fun r31 => some ((0, r31)))) else some (((-2), S)))))) else some ((r23, S))))
abbrev P2 (m : Nat) (x : Nat → Nat) (p : Nat) : Nat := NE m x p + 1
abbrev va9 (va : Nat → Int32) (m : Nat) (x : Nat → Nat) (p : Nat) : Nat → Int32 := upd (upd (upd (upd (upd va 0 (nI (NV m x p))) 1 (nI (NV m x (P2 m x p)))) 2 (nI (NV m x (P2 m x (P2 m x p))))) 3 (nI (NV m x (P2 m x (P2 m x (P2 m x p)))))) 4 (nI (x (P2 m x (P2 m x (P2 m x (P2 m x p)))) - 48))
/-- place, size and brightness stand there -/
def SZ (m : Nat) (x : Nat → Nat) (p : Nat) : Prop := isD m x p ∧ isC m x (NE m x p) 44 ∧ isD m x (P2 m x p) ∧ isC m x (NE m x (P2 m x p)) 44 ∧ isD m x (P2 m x (P2 m x p)) ∧ isC m x (NE m x (P2 m x (P2 m x p))) 44 ∧ isD m x (P2 m x (P2 m x (P2 m x p))) ∧ isC m x (NE m x (P2 m x (P2 m x (P2 m x p)))) 42 ∧ isD m x (P2 m x (P2 m x (P2 m x (P2 m x p))))
theorem sizes_2 {pl le_ : Int32} {tx pad_ : Nat → Int32} {m : Nat} {x : Nat → Nat} (h : TxR pl tx le_ pad_ m x) {p : Nat} (hp : p ≤ 100) (va : Nat → Int32) : (∃ f va', f ≤ 110 ∧ (∀ J, CH pl tx (nI p) va J = J 0 (nI f) va') ∧ bn (f_X8_sizesEnd le_ pad_ (nI p)) (fun r6 => bn (f_X8_behind le_ pad_ r6 42) (fun r7 => f_X8_digitEnd le_ pad_ r7)) = some (st false f)) ∨ (SZ m x p ∧ (∀ J, CH pl tx (nI p) va J = J 1 (nI (P2 m x (P2 m x (P2 m x (P2 m x p))) + 1)) (va9 va m x p)) ∧ bn (f_X8_sizesEnd le_ pad_ (nI p)) (fun r6 => bn (f_X8_behind le_ pad_ r6 42) (fun r7 => f_X8_digitEnd le_ pad_ r7)) = some (nI (P2 m x (P2 m x (P2 m x (P2 m x p))) + 1))) := by
  have m80 := h.2.2.1
  unfold CH
  have sz0 : ∀ v : Int32, f_X8_sizesEnd_L8 le_ pad_ (fun (w10 : Int32) (w11 : Int32) => some (w10)) 4000 v 0 = bn (f_X8_behind le_ pad_ v 44) (fun r6 => bn (f_X8_numberEnd le_ pad_ r6) (fun v1 => bn (f_X8_behind le_ pad_ v1 44) (fun r6 => bn (f_X8_numberEnd le_ pad_ r6) (fun v2 => bn (f_X8_behind le_ pad_ v2 44) (fun r6 => f_X8_numberEnd le_ pad_ r6))))) := fun v => by
    rw [show (4000 : Nat) = 3996 + 1 + 1 + 1 + 1 from rfl, f_X8_sizesEnd_L8_s, if_neg (by decide)]
    congr 1; funext r6; congr 1; funext v1
    rw [bd_eq, f_X8_sizesEnd_L8_s, if_neg (by decide)]
    congr 1; funext r6; congr 1; funext v2
    rw [bd_eq, f_X8_sizesEnd_L8_s, if_neg (by decide)]
    congr 1; funext r6
    have : ∀ o : Option Int32, bn o (fun r7 => bd (0 + 1 + 1 + 1) (fun x8 => f_X8_sizesEnd_L8 le_ pad_ (fun (w10 : Int32) (w11 : Int32) => some (w10)) (3996 + 1) r7 x8)) = o := fun o => by
      cases o with
      | none => rfl
      | some a => rw [bn_some, bd_eq, f_X8_sizesEnd_L8_s, if_pos (by decide)]
    exact this _
  have fl : ∀ f : Nat, f ≤ 110 → bn (f_X8_behind le_ pad_ (st false f) 42) (fun r7 => f_X8_digitEnd le_ pad_ r7) = some (st false f) := fun f hf => by rw [beh_f (by omega), bn_some, dig_f (by omega)]
  have fl3 : ∀ f : Nat, f ≤ 110 → bn (f_X8_behind le_ pad_ (st false f) 44) (fun r6 => f_X8_numberEnd le_ pad_ r6) = some (st false f) := fun f hf => by rw [beh_f (by omega), bn_some, num_f (by omega)]
  have fl2 : ∀ f : Nat, f ≤ 110 → bn (f_X8_behind le_ pad_ (st false f) 44) (fun r6 => bn (f_X8_numberEnd le_ pad_ r6) (fun v2 => bn (f_X8_behind le_ pad_ v2 44) (fun r6 => f_X8_numberEnd le_ pad_ r6))) = some (st false f) := fun f hf => by rw [beh_f (by omega), bn_some, num_f (by omega), bn_some, fl3 f hf]
  have fl1 : ∀ f : Nat, f ≤ 110 → bn (f_X8_behind le_ pad_ (st false f) 44) (fun r6 => bn (f_X8_numberEnd le_ pad_ r6) (fun v1 => bn (f_X8_behind le_ pad_ v1 44) (fun r6 => bn (f_X8_numberEnd le_ pad_ r6) (fun v2 => bn (f_X8_behind le_ pad_ v2 44) (fun r6 => f_X8_numberEnd le_ pad_ r6))))) = some (st false f) := fun f hf => by rw [beh_f (by omega), bn_some, num_f (by omega), bn_some, fl2 f hf]
  unfold f_X8_sizesEnd
  simp only [sz0]
  have R : ∀ (w p : Nat) (va : Nat → Int32), w < 7 → p ≤ 100 → f_X4_readNumber pl tx (nI p) va (nI w) = some (if isD m x p then (1, nI (NE m x p), upd va w (nI (NV m x p))) else (0, nI p, va)) := fun w p va hw hp => rnum_c h (by omega) hw va
  have T : ∀ (w p : Nat), 33 ≤ w → w ≤ 200 → p ≤ 100 → f_X4_take pl tx (nI p) (nI w) = some (if isC m x p w then (1, nI (p + 1)) else (0, nI p)) := fun w p h1 h2 hp => take_x h (by omega) h1 h2
  by_cases c0 : isD m x p
  · have b0 := NE_le c0
    have r0 : f_X4_readNumber pl tx (nI p) va 0 = some (1, nI (NE m x p), (upd va 0 (nI (NV m x p)))) := by have e := R 0 p va (by decide) (by omega); rw [if_pos c0] at e; exact e
    have k0 : f_X8_numberEnd le_ pad_ (nI p) = some (nI (NE m x p)) := by rw [num_m h (by omega), if_pos c0]
    have pp1 : P2 m x p = NE m x p + 1 := rfl
    by_cases c1 : isC m x (NE m x p) 44
    · have b1 := c1.1
      have r1 : f_X4_take pl tx (nI (NE m x p)) 44 = some (1, nI ((NE m x p) + 1)) := by have e := T 44 (NE m x p) (by decide) (by decide) (by omega); rw [if_pos c1] at e; exact e
      have k1 : f_X8_behind le_ pad_ (nI (NE m x p)) 44 = some (nI ((NE m x p) + 1)) := by have e := beh_m h (p := (NE m x p)) (w := 44) (by omega) (by decide); rw [if_pos c1] at e; exact e
      by_cases c2 : isD m x (P2 m x p)
      · have b2 := NE_le c2
        have r2 : f_X4_readNumber pl tx (nI (P2 m x p)) (upd va 0 (nI (NV m x p))) 1 = some (1, nI (NE m x (P2 m x p)), (upd (upd va 0 (nI (NV m x p))) 1 (nI (NV m x (P2 m x p))))) := by have e := R 1 (P2 m x p) (upd va 0 (nI (NV m x p))) (by decide) (by omega); rw [if_pos c2] at e; exact e
        have k2 : f_X8_numberEnd le_ pad_ (nI (P2 m x p)) = some (nI (NE m x (P2 m x p))) := by rw [num_m h (by omega), if_pos c2]
        have pp3 : P2 m x (P2 m x p) = NE m x (P2 m x p) + 1 := rfl
        by_cases c3 : isC m x (NE m x (P2 m x p)) 44
        · have b3 := c3.1
          have r3 : f_X4_take pl tx (nI (NE m x (P2 m x p))) 44 = some (1, nI ((NE m x (P2 m x p)) + 1)) := by have e := T 44 (NE m x (P2 m x p)) (by decide) (by decide) (by omega); rw [if_pos c3] at e; exact e
          have k3 : f_X8_behind le_ pad_ (nI (NE m x (P2 m x p))) 44 = some (nI ((NE m x (P2 m x p)) + 1)) := by have e := beh_m h (p := (NE m x (P2 m x p))) (w := 44) (by omega) (by decide); rw [if_pos c3] at e; exact e
          by_cases c4 : isD m x (P2 m x (P2 m x p))
          · have b4 := NE_le c4
            have r4 : f_X4_readNumber pl tx (nI (P2 m x (P2 m x p))) (upd (upd va 0 (nI (NV m x p))) 1 (nI (NV m x (P2 m x p)))) 2 = some (1, nI (NE m x (P2 m x (P2 m x p))), (upd (upd (upd va 0 (nI (NV m x p))) 1 (nI (NV m x (P2 m x p)))) 2 (nI (NV m x (P2 m x (P2 m x p)))))) := by have e := R 2 (P2 m x (P2 m x p)) (upd (upd va 0 (nI (NV m x p))) 1 (nI (NV m x (P2 m x p)))) (by decide) (by omega); rw [if_pos c4] at e; exact e
            have k4 : f_X8_numberEnd le_ pad_ (nI (P2 m x (P2 m x p))) = some (nI (NE m x (P2 m x (P2 m x p)))) := by rw [num_m h (by omega), if_pos c4]
            have pp5 : P2 m x (P2 m x (P2 m x p)) = NE m x (P2 m x (P2 m x p)) + 1 := rfl
            by_cases c5 : isC m x (NE m x (P2 m x (P2 m x p))) 44
            · have b5 := c5.1
              have r5 : f_X4_take pl tx (nI (NE m x (P2 m x (P2 m x p)))) 44 = some (1, nI ((NE m x (P2 m x (P2 m x p))) + 1)) := by have e := T 44 (NE m x (P2 m x (P2 m x p))) (by decide) (by decide) (by omega); rw [if_pos c5] at e; exact e
              have k5 : f_X8_behind le_ pad_ (nI (NE m x (P2 m x (P2 m x p)))) 44 = some (nI ((NE m x (P2 m x (P2 m x p))) + 1)) := by have e := beh_m h (p := (NE m x (P2 m x (P2 m x p)))) (w := 44) (by omega) (by decide); rw [if_pos c5] at e; exact e
              by_cases c6 : isD m x (P2 m x (P2 m x (P2 m x p)))
              · have b6 := NE_le c6
                have r6 : f_X4_readNumber pl tx (nI (P2 m x (P2 m x (P2 m x p)))) (upd (upd (upd va 0 (nI (NV m x p))) 1 (nI (NV m x (P2 m x p)))) 2 (nI (NV m x (P2 m x (P2 m x p))))) 3 = some (1, nI (NE m x (P2 m x (P2 m x (P2 m x p)))), (upd (upd (upd (upd va 0 (nI (NV m x p))) 1 (nI (NV m x (P2 m x p)))) 2 (nI (NV m x (P2 m x (P2 m x p))))) 3 (nI (NV m x (P2 m x (P2 m x (P2 m x p))))))) := by have e := R 3 (P2 m x (P2 m x (P2 m x p))) (upd (upd (upd va 0 (nI (NV m x p))) 1 (nI (NV m x (P2 m x p)))) 2 (nI (NV m x (P2 m x (P2 m x p))))) (by decide) (by omega); rw [if_pos c6] at e; exact e
                have k6 : f_X8_numberEnd le_ pad_ (nI (P2 m x (P2 m x (P2 m x p)))) = some (nI (NE m x (P2 m x (P2 m x (P2 m x p))))) := by rw [num_m h (by omega), if_pos c6]
                have pp7 : P2 m x (P2 m x (P2 m x (P2 m x p))) = NE m x (P2 m x (P2 m x (P2 m x p))) + 1 := rfl
                by_cases c7 : isC m x (NE m x (P2 m x (P2 m x (P2 m x p)))) 42
                · have b7 := c7.1
                  have r7 : f_X4_take pl tx (nI (NE m x (P2 m x (P2 m x (P2 m x p))))) 42 = some (1, nI ((NE m x (P2 m x (P2 m x (P2 m x p)))) + 1)) := by have e := T 42 (NE m x (P2 m x (P2 m x (P2 m x p)))) (by decide) (by decide) (by omega); rw [if_pos c7] at e; exact e
                  have k7 : f_X8_behind le_ pad_ (nI (NE m x (P2 m x (P2 m x (P2 m x p))))) 42 = some (nI ((NE m x (P2 m x (P2 m x (P2 m x p)))) + 1)) := by have e := beh_m h (p := (NE m x (P2 m x (P2 m x (P2 m x p))))) (w := 42) (by omega) (by decide); rw [if_pos c7] at e; exact e
                  by_cases c8 : isD m x (P2 m x (P2 m x (P2 m x (P2 m x p))))
                  · have b8 := c8.1
                    have r8 : f_X4_readDigit pl tx (nI (P2 m x (P2 m x (P2 m x (P2 m x p))))) (upd (upd (upd (upd va 0 (nI (NV m x p))) 1 (nI (NV m x (P2 m x p)))) 2 (nI (NV m x (P2 m x (P2 m x p))))) 3 (nI (NV m x (P2 m x (P2 m x (P2 m x p)))))) 4 = some (1, nI ((P2 m x (P2 m x (P2 m x (P2 m x p)))) + 1), (upd (upd (upd (upd (upd va 0 (nI (NV m x p))) 1 (nI (NV m x (P2 m x p)))) 2 (nI (NV m x (P2 m x (P2 m x p))))) 3 (nI (NV m x (P2 m x (P2 m x (P2 m x p)))))) 4 (nI (x (P2 m x (P2 m x (P2 m x (P2 m x p)))) - 48)))) := by have e := rdig_c h (p := (P2 m x (P2 m x (P2 m x (P2 m x p))))) (w := 4) (by omega) (by decide) (upd (upd (upd (upd va 0 (nI (NV m x p))) 1 (nI (NV m x (P2 m x p)))) 2 (nI (NV m x (P2 m x (P2 m x p))))) 3 (nI (NV m x (P2 m x (P2 m x (P2 m x p)))))); rw [if_pos c8] at e; exact e
                    have k8 : f_X8_digitEnd le_ pad_ (nI (P2 m x (P2 m x (P2 m x (P2 m x p))))) = some (nI ((P2 m x (P2 m x (P2 m x (P2 m x p)))) + 1)) := by rw [dige_m h (by omega), if_pos c8]
                    refine Or.inr ⟨⟨c0, c1, c2, c3, c4, c5, c6, c7, c8⟩, fun J => ?_, ?_⟩
                    · simp only [r0, r1, r2, r3, r4, r5, r6, r7, r8, bn_some, if_neg n10] <;> rfl
                    · rw [k0, bn_some, k1, bn_some, k2, bn_some, k3, bn_some, k4, bn_some, k5, bn_some, k6, bn_some, k7, bn_some, k8]
                  · have r8 : f_X4_readDigit pl tx (nI (P2 m x (P2 m x (P2 m x (P2 m x p))))) (upd (upd (upd (upd va 0 (nI (NV m x p))) 1 (nI (NV m x (P2 m x p)))) 2 (nI (NV m x (P2 m x (P2 m x p))))) 3 (nI (NV m x (P2 m x (P2 m x (P2 m x p)))))) 4 = some (0, nI (P2 m x (P2 m x (P2 m x (P2 m x p)))), (upd (upd (upd (upd va 0 (nI (NV m x p))) 1 (nI (NV m x (P2 m x p)))) 2 (nI (NV m x (P2 m x (P2 m x p))))) 3 (nI (NV m x (P2 m x (P2 m x (P2 m x p))))))) := by have e := rdig_c h (p := (P2 m x (P2 m x (P2 m x (P2 m x p))))) (w := 4) (by omega) (by decide) (upd (upd (upd (upd va 0 (nI (NV m x p))) 1 (nI (NV m x (P2 m x p)))) 2 (nI (NV m x (P2 m x (P2 m x p))))) 3 (nI (NV m x (P2 m x (P2 m x (P2 m x p)))))); rw [if_neg c8] at e; exact e
                    have k8 : f_X8_digitEnd le_ pad_ (nI (P2 m x (P2 m x (P2 m x (P2 m x p))))) = some (st false (P2 m x (P2 m x (P2 m x (P2 m x p))))) := by rw [dige_m h (by omega), if_neg c8]
                    refine Or.inl ⟨(P2 m x (P2 m x (P2 m x (P2 m x p)))), (upd (upd (upd (upd va 0 (nI (NV m x p))) 1 (nI (NV m x (P2 m x p)))) 2 (nI (NV m x (P2 m x (P2 m x p))))) 3 (nI (NV m x (P2 m x (P2 m x (P2 m x p)))))), by omega, fun J => ?_, ?_⟩
                    · simp only [r0, r1, r2, r3, r4, r5, r6, r7, r8, bn_some, if_neg n10, ite_true] <;> rfl
                    · rw [k0, bn_some, k1, bn_some, k2, bn_some, k3, bn_some, k4, bn_some, k5, bn_some, k6, bn_some, k7, bn_some, k8]
                · have r7 : f_X4_take pl tx (nI (NE m x (P2 m x (P2 m x (P2 m x p))))) 42 = some (0, nI (NE m x (P2 m x (P2 m x (P2 m x p))))) := by have e := T 42 (NE m x (P2 m x (P2 m x (P2 m x p)))) (by decide) (by decide) (by omega); rw [if_neg c7] at e; exact e
                  have k7 : f_X8_behind le_ pad_ (nI (NE m x (P2 m x (P2 m x (P2 m x p))))) 42 = some (st false (NE m x (P2 m x (P2 m x (P2 m x p))))) := by have e := beh_m h (p := (NE m x (P2 m x (P2 m x (P2 m x p))))) (w := 42) (by omega) (by decide); rw [if_neg c7] at e; exact e
                  refine Or.inl ⟨(NE m x (P2 m x (P2 m x (P2 m x p)))), (upd (upd (upd (upd va 0 (nI (NV m x p))) 1 (nI (NV m x (P2 m x p)))) 2 (nI (NV m x (P2 m x (P2 m x p))))) 3 (nI (NV m x (P2 m x (P2 m x (P2 m x p)))))), by omega, fun J => ?_, ?_⟩
                  · simp only [r0, r1, r2, r3, r4, r5, r6, r7, bn_some, if_neg n10, ite_true] <;> rfl
                  · rw [k0, bn_some, k1, bn_some, k2, bn_some, k3, bn_some, k4, bn_some, k5, bn_some, k6, bn_some, k7, bn_some, dig_f (p := (NE m x (P2 m x (P2 m x (P2 m x p))))) (by omega)]
              · have r6 : f_X4_readNumber pl tx (nI (P2 m x (P2 m x (P2 m x p)))) (upd (upd (upd va 0 (nI (NV m x p))) 1 (nI (NV m x (P2 m x p)))) 2 (nI (NV m x (P2 m x (P2 m x p))))) 3 = some (0, nI (P2 m x (P2 m x (P2 m x p))), (upd (upd (upd va 0 (nI (NV m x p))) 1 (nI (NV m x (P2 m x p)))) 2 (nI (NV m x (P2 m x (P2 m x p)))))) := by have e := R 3 (P2 m x (P2 m x (P2 m x p))) (upd (upd (upd va 0 (nI (NV m x p))) 1 (nI (NV m x (P2 m x p)))) 2 (nI (NV m x (P2 m x (P2 m x p))))) (by decide) (by omega); rw [if_neg c6] at e; exact e
                have k6 : f_X8_numberEnd le_ pad_ (nI (P2 m x (P2 m x (P2 m x p)))) = some (st false (P2 m x (P2 m x (P2 m x p)))) := by rw [num_m h (by omega), if_neg c6]
                refine Or.inl ⟨(P2 m x (P2 m x (P2 m x p))), (upd (upd (upd va 0 (nI (NV m x p))) 1 (nI (NV m x (P2 m x p)))) 2 (nI (NV m x (P2 m x (P2 m x p))))), by omega, fun J => ?_, ?_⟩
                · simp only [r0, r1, r2, r3, r4, r5, r6, bn_some, if_neg n10, ite_true] <;> rfl
                · rw [k0, bn_some, k1, bn_some, k2, bn_some, k3, bn_some, k4, bn_some, k5, bn_some, k6, bn_some, beh_f (p := (P2 m x (P2 m x (P2 m x p)))) (by omega), bn_some, dig_f (p := (P2 m x (P2 m x (P2 m x p)))) (by omega)]
            · have r5 : f_X4_take pl tx (nI (NE m x (P2 m x (P2 m x p)))) 44 = some (0, nI (NE m x (P2 m x (P2 m x p)))) := by have e := T 44 (NE m x (P2 m x (P2 m x p))) (by decide) (by decide) (by omega); rw [if_neg c5] at e; exact e
              have k5 : f_X8_behind le_ pad_ (nI (NE m x (P2 m x (P2 m x p)))) 44 = some (st false (NE m x (P2 m x (P2 m x p)))) := by have e := beh_m h (p := (NE m x (P2 m x (P2 m x p)))) (w := 44) (by omega) (by decide); rw [if_neg c5] at e; exact e
              refine Or.inl ⟨(NE m x (P2 m x (P2 m x p))), (upd (upd (upd va 0 (nI (NV m x p))) 1 (nI (NV m x (P2 m x p)))) 2 (nI (NV m x (P2 m x (P2 m x p))))), by omega, fun J => ?_, ?_⟩
              · simp only [r0, r1, r2, r3, r4, r5, bn_some, if_neg n10, ite_true] <;> rfl
              · rw [k0, bn_some, k1, bn_some, k2, bn_some, k3, bn_some, k4, bn_some, k5, bn_some, num_f (p := (NE m x (P2 m x (P2 m x p)))) (by omega), bn_some, beh_f (p := (NE m x (P2 m x (P2 m x p)))) (by omega), bn_some, dig_f (p := (NE m x (P2 m x (P2 m x p)))) (by omega)]
          · have r4 : f_X4_readNumber pl tx (nI (P2 m x (P2 m x p))) (upd (upd va 0 (nI (NV m x p))) 1 (nI (NV m x (P2 m x p)))) 2 = some (0, nI (P2 m x (P2 m x p)), (upd (upd va 0 (nI (NV m x p))) 1 (nI (NV m x (P2 m x p))))) := by have e := R 2 (P2 m x (P2 m x p)) (upd (upd va 0 (nI (NV m x p))) 1 (nI (NV m x (P2 m x p)))) (by decide) (by omega); rw [if_neg c4] at e; exact e
            have k4 : f_X8_numberEnd le_ pad_ (nI (P2 m x (P2 m x p))) = some (st false (P2 m x (P2 m x p))) := by rw [num_m h (by omega), if_neg c4]
            refine Or.inl ⟨(P2 m x (P2 m x p)), (upd (upd va 0 (nI (NV m x p))) 1 (nI (NV m x (P2 m x p)))), by omega, fun J => ?_, ?_⟩
            · simp only [r0, r1, r2, r3, r4, bn_some, if_neg n10, ite_true] <;> rfl
            · rw [k0, bn_some, k1, bn_some, k2, bn_some, k3, bn_some, k4, bn_some, beh_f (p := (P2 m x (P2 m x p))) (by omega), bn_some, num_f (p := (P2 m x (P2 m x p))) (by omega), bn_some, beh_f (p := (P2 m x (P2 m x p))) (by omega), bn_some, dig_f (p := (P2 m x (P2 m x p))) (by omega)]
        · have r3 : f_X4_take pl tx (nI (NE m x (P2 m x p))) 44 = some (0, nI (NE m x (P2 m x p))) := by have e := T 44 (NE m x (P2 m x p)) (by decide) (by decide) (by omega); rw [if_neg c3] at e; exact e
          have k3 : f_X8_behind le_ pad_ (nI (NE m x (P2 m x p))) 44 = some (st false (NE m x (P2 m x p))) := by have e := beh_m h (p := (NE m x (P2 m x p))) (w := 44) (by omega) (by decide); rw [if_neg c3] at e; exact e
          refine Or.inl ⟨(NE m x (P2 m x p)), (upd (upd va 0 (nI (NV m x p))) 1 (nI (NV m x (P2 m x p)))), by omega, fun J => ?_, ?_⟩
          · simp only [r0, r1, r2, r3, bn_some, if_neg n10, ite_true] <;> rfl
          · rw [k0, bn_some, k1, bn_some, k2, bn_some, k3, bn_some, num_f (p := (NE m x (P2 m x p))) (by omega), bn_some, beh_f (p := (NE m x (P2 m x p))) (by omega), bn_some, num_f (p := (NE m x (P2 m x p))) (by omega), bn_some, beh_f (p := (NE m x (P2 m x p))) (by omega), bn_some, dig_f (p := (NE m x (P2 m x p))) (by omega)]
      · have r2 : f_X4_readNumber pl tx (nI (P2 m x p)) (upd va 0 (nI (NV m x p))) 1 = some (0, nI (P2 m x p), (upd va 0 (nI (NV m x p)))) := by have e := R 1 (P2 m x p) (upd va 0 (nI (NV m x p))) (by decide) (by omega); rw [if_neg c2] at e; exact e
        have k2 : f_X8_numberEnd le_ pad_ (nI (P2 m x p)) = some (st false (P2 m x p)) := by rw [num_m h (by omega), if_neg c2]
        refine Or.inl ⟨(P2 m x p), (upd va 0 (nI (NV m x p))), by omega, fun J => ?_, ?_⟩
        · simp only [r0, r1, r2, bn_some, if_neg n10, ite_true] <;> rfl
        · rw [k0, bn_some, k1, bn_some, k2, bn_some, beh_f (p := (P2 m x p)) (by omega), bn_some, num_f (p := (P2 m x p)) (by omega), bn_some, beh_f (p := (P2 m x p)) (by omega), bn_some, num_f (p := (P2 m x p)) (by omega), bn_some, beh_f (p := (P2 m x p)) (by omega), bn_some, dig_f (p := (P2 m x p)) (by omega)]
    · have r1 : f_X4_take pl tx (nI (NE m x p)) 44 = some (0, nI (NE m x p)) := by have e := T 44 (NE m x p) (by decide) (by decide) (by omega); rw [if_neg c1] at e; exact e
      have k1 : f_X8_behind le_ pad_ (nI (NE m x p)) 44 = some (st false (NE m x p)) := by have e := beh_m h (p := (NE m x p)) (w := 44) (by omega) (by decide); rw [if_neg c1] at e; exact e
      refine Or.inl ⟨(NE m x p), (upd va 0 (nI (NV m x p))), by omega, fun J => ?_, ?_⟩
      · simp only [r0, r1, bn_some, if_neg n10, ite_true] <;> rfl
      · rw [k0, bn_some, k1, bn_some, num_f (p := (NE m x p)) (by omega), bn_some, beh_f (p := (NE m x p)) (by omega), bn_some, num_f (p := (NE m x p)) (by omega), bn_some, beh_f (p := (NE m x p)) (by omega), bn_some, num_f (p := (NE m x p)) (by omega), bn_some, beh_f (p := (NE m x p)) (by omega), bn_some, dig_f (p := (NE m x p)) (by omega)]
  · have r0 : f_X4_readNumber pl tx (nI p) va 0 = some (0, nI p, va) := by have e := R 0 p va (by decide) (by omega); rw [if_neg c0] at e; exact e
    have k0 : f_X8_numberEnd le_ pad_ (nI p) = some (st false p) := by rw [num_m h (by omega), if_neg c0]
    refine Or.inl ⟨p, va, by omega, fun J => ?_, ?_⟩
    · simp only [r0, bn_some, if_neg n10, ite_true] <;> rfl
    · rw [k0, bn_some, beh_f (p := p) (by omega), bn_some, num_f (p := p) (by omega), bn_some, beh_f (p := p) (by omega), bn_some, num_f (p := p) (by omega), bn_some, beh_f (p := p) (by omega), bn_some, num_f (p := p) (by omega), bn_some, beh_f (p := p) (by omega), bn_some, dig_f (p := p) (by omega)]
