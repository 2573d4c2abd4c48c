
-- LeaningLinesModel.comesBy
abbrev OUT_X8_comesBy : Type := Int32 × (Nat → Int32)
def f_X8_comesBy (le_ : Int32) (s_ : Nat → Int32) (pad_ : Nat → Int32) (a0 : Int32) : Option OUT_X8_comesBy :=
  bn (f_X8_numberEnd le_ pad_ (a0 + 1)) (fun r1 => bd (r1 + 1) (fun x2 => bn (f_X8_numberEnd le_ pad_ x2) (fun r3 => bd (r3 + 1) (fun x4 => bn (f_X8_numberEnd le_ pad_ x4) (fun r5 => bd (r5 + 1) (fun x6 => bn (f_X8_numberEnd le_ pad_ x6) (fun r7 => bd (r7 + 1) (fun x8 => bd (x8 + 1) (fun x9 => bn (f_X8_isSpeed le_ pad_ x9) (fun r10 => jn (fun (j11 : Int32) => bn (f_X8_isSpeed le_ pad_ x9) (fun r12 => jn (fun (j13 : Int32) => bn (f_X8_isSpeed le_ pad_ x9) (fun r14 => jn (fun (j15 : Int32) => bn (f_X8_sign le_ pad_ j15) (fun r16 => jn (fun (j17 : Int32) => bn (f_X8_numberAt le_ pad_ (a0 + 1)) (fun r18 => bn (f_X8_numberAt le_ pad_ x2) (fun r19 => bn (f_X8_numberAt le_ pad_ x4) (fun r20 => bn (f_X8_numberAt le_ pad_ x6) (fun r21 => bn (f_X8_digit le_ pad_ x8) (fun r22 => bn (f_X8_whyNotThing s_ r18 r19 r20 r21 r22) (fun r23 => (if 0 ≤ r23 then bn (f_X8_in j13 (-40) 40) (fun r24 => (if r24 = 0 then some (((-2), s_)) else gd 5 465 ((if j17 < (s_ (5 : Int32).toNatClampNeg) then bn (f_X8_numberAt le_ pad_ (a0 + 1)) (fun r25 => bn (f_X8_numberAt le_ pad_ x2) (fun r26 => bn (f_X8_numberAt le_ pad_ x4) (fun r27 => bn (f_X8_numberAt le_ pad_ x6) (fun r28 => bn (f_X8_digit le_ pad_ x8) (fun r29 => bn (f_X8_comes s_ r25 r26 r27 r28 r29) (fun r30 => bn (f_X8_anew r30.2 r30.1 j13 j17) (fun r31 => some ((0, r31))))))))) else some (((-2), s_)))))) else some ((r23, s_)))))))))) (fun j143 => (if ¬ r16 = 64 then j143 (-1) else bn (f_X8_digit le_ pad_ (j15 + 1)) (fun r35 => j143 r35))))) (fun j118 => (if r14 = 0 then j118 x9 else bn (f_X8_numberEnd le_ pad_ (x9 + 1)) (fun r37 => j118 r37))))) (fun j94 => (if r12 = 0 then j94 j11 else bn (f_X8_sign le_ pad_ x9) (fun r39 => (if ¬ r39 = 45 then j94 j11 else j94 (-j11))))))) (fun j64 => (if r10 = 0 then j64 0 else bn (f_X8_numberAt le_ pad_ (x9 + 1)) (fun r42 => j64 r42)))))))))))))
theorem uX8_comesBy_X8 : ∀ w ∈ wsX80, w ∈ wsX8_comesBy := by decide +kernel
theorem kX8_comesBy_1 : Cond.fieldLink RX8 7 "LeaningLinesModel" "s" "[I" ∈ wsX8_comesBy := by decide +kernel
abbrev R_X8_comesBy : Room := { frames := 4, cells := 0, slots := 0, locals := 85 }
set_option maxHeartbeats 4000000 in
set_option maxRecDepth 100000 in
theorem m_X8_comesBy (l : Launch) (D : va_G) (cI cC cZ cR : ClassId) (mo mo1 mo2 mo3 mo4 mo5 : Nat) (sz : Nat) (kn : Int32) (le_ : Int32) (s_ : Nat → Int32) (past : Nat → Int32) (slo : Nat → Int32) (isv : Nat → Int32) (pad_ : Nat → Int32)  (a0 : Int32)   (r : OUT_X8_comesBy) (hf : f_X8_comesBy le_ s_ pad_ a0 = some r) : Met l yX8_comesBy wsX8_comesBy R_X8_comesBy (cPc D cI cC cZ cR [.ref mo, .int a0] sz (ws_model cI cC cZ cR mo mo1 mo2 mo3 mo4 mo5 kn le_ s_ past slo isv pad_)) (cQi D (ws_model cI cC cZ cR mo mo1 mo2 mo3 mo4 mo5 kn le_ r.2 past slo isv pad_) (va_A (ws_model cI cC cZ cR mo mo1 mo2 mo3 mo4 mo5 kn le_ s_ past slo isv pad_) sz) r.1) 0 0 (va_A (ws_model cI cC cZ cR mo mo1 mo2 mo3 mo4 mo5 kn le_ s_ past slo isv pad_) sz) := by
  refine Met.ofW (cc := cX8_comesBy) (maxL := 11) (ret := (some .int)) (by decide) rfl ?_
  intro p e s m args below meth c s₁ B hml hv
  obtain ⟨rfl, hsz, hP, hK, hD0⟩ := hv
  have hx := B.exec
  have hb := B.bytes
  have hr := B.returns
  have hts := atoms_spec (ws := wsX8_comesBy) B.pre
  have hown : s.vm.findClass RX8 = some m.cls := findClass_of_methodNamed B.named
  have hlocks := B.notSynchronized
  subst hsz
  have hD := hD0.self (sz := s.heap.size)
  generalize hAe : va_A (ws_model cI cC cZ cR mo mo1 mo2 mo3 mo4 mo5 kn le_ s_ past slo isv pad_) s.heap.size = A at hD ⊢
  skip
  have hA : ∀ q : Nat, s.heap.size ≤ q → A q := fun q h => by rw [← hAe]; exact Or.inr h
  have hS : va_S A s.heap s.heap [] := va_S.rf
  have hl := lv_entry ([.ref mo, .int a0]) (n := 11) (Nat.le_of_ble_eq_true rfl)
  rw [lg_entry_eq]
  generalize (lg_sl ([.ref mo, .int a0]) ++ List.replicate (11 - (lg_sl ([.ref mo, .int a0])).length) Slot.unset).toArray = ls at hl ⊢
  have hl : lv_has ls 11 [(0, .ref mo), (1, .int a0)] := hl
  refine W_absQ (fun Q hQ => ?_)
  refine W.eq (g2 := F0 m 0 ls []) rfl ?_
  have h := hf
  unfold f_X8_comesBy at h
  refine lv_aload_n hx hb dX8_comesBy_0 rfl (lv_at hl 0 rfl) ?_
  refine lv_iload_n hx hb dX8_comesBy_1 rfl (lv_at hl 1 rfl) ?_
  refine lv_iconst (v := 1) hx hb dX8_comesBy_2 (by decide) ?_
  refine lv_iadd hx hb dX8_comesBy_3 ?_
  obtain ⟨r1, hcr1, h⟩ := bn_sp h
  have hPc := hP.sub (ws' := (ws_model cI cC cZ cR mo mo1 mo2 mo3 mo4 mo5 kn le_ s_ past slo isv pad_)) [0, 1, 2, 3, 4, 5] rfl
  have hDc := hD.sub (ws' := (ws_model cI cC cZ cR mo mo1 mo2 mo3 mo4 mo5 kn le_ s_ past slo isv pad_)) [0, 1, 2, 3, 4, 5] (by decide) rfl
  have hFc := va_free (wc := (ws_model cI cC cZ cR mo mo1 mo2 mo3 mo4 mo5 kn le_ s_ past slo isv pad_)) hD hS hA [0, 1, 2, 3, 4, 5] rfl
  refine va_calli (va_runV (As := [.int (a0 + 1)]) (rest := []) ⟨hx, hb, hml, hown, hts⟩ (m_X8_numberEnd l D cI cC cZ cR mo mo1 mo2 mo3 mo4 mo5 _ kn le_ s_ past slo isv pad_ (a0 + 1)   r1 hcr1) (cwV 1 hts gX8_comesBy_X8_numberEnd rfl rfl rfl (by decide +kernel) ⟨Nat.le_of_ble_eq_true rfl, Nat.le_of_ble_eq_true rfl⟩) (cPc_pv hPc hK hDc (ci := 8) (q0 := 0) rfl rfl) rfl rfl hl.1 rfl (lv_room (Nat.le_of_ble_eq_true rfl)) dX8_comesBy_4 ⟨Nat.le_of_ble_eq_true rfl, Nat.le_of_ble_eq_true rfl⟩) hS (fun q _ h => hFc q h) hFc (fun xq u t H1 locs ht hvm hw hB hz1 hk1 hS => ?_)
  rw [hw]
  obtain ⟨hP1, hD1⟩ := hB
  rw [ht] at hP1
  obtain ⟨hP, hD⟩ := va_join (wr := []) (w1 := (ws_model cI cC cZ cR mo mo1 mo2 mo3 mo4 mo5 kn le_ s_ past slo isv pad_)) hP hD [0, 1, 2, 3, 4, 5] [] rfl rfl (by decide) (by decide) hk1 hFc hP1 hD1
  generalize H1 = H at hP hS ⊢
  have hP : va_P D vwCl (ws_model cI cC cZ cR mo mo1 mo2 mo3 mo4 mo5 kn le_ s_ past slo isv pad_) H := hP
  have hD : va_D A (ws_model cI cC cZ cR mo mo1 mo2 mo3 mo4 mo5 kn le_ s_ past slo isv pad_) := hD
  refine lv_iconst (v := 1) hx hb dX8_comesBy_7 (by decide) ?_
  refine lv_iadd hx hb dX8_comesBy_8 ?_
  refine lv_topi (fun x2 ex2 => ?_)
  replace h := bd_s2 h ex2
  refine lv_istore_n (lv' := [(2, .int x2), (0, .ref mo), (1, .int a0)]) hx hb dX8_comesBy_9 rfl hl (by decide) rfl (fun ls hl => ?_)
  refine lv_aload_n hx hb dX8_comesBy_10 rfl (lv_at hl 1 rfl) ?_
  refine lv_iload_n hx hb dX8_comesBy_11 rfl (lv_at hl 0 rfl) ?_
  obtain ⟨r3, hcr3, h⟩ := bn_sp h
  have hPc := hP.sub (ws' := (ws_model cI cC cZ cR mo mo1 mo2 mo3 mo4 mo5 kn le_ s_ past slo isv pad_)) [0, 1, 2, 3, 4, 5] rfl
  have hDc := hD.sub (ws' := (ws_model cI cC cZ cR mo mo1 mo2 mo3 mo4 mo5 kn le_ s_ past slo isv pad_)) [0, 1, 2, 3, 4, 5] (by decide) rfl
  have hFc := va_free (wc := (ws_model cI cC cZ cR mo mo1 mo2 mo3 mo4 mo5 kn le_ s_ past slo isv pad_)) hD hS hA [0, 1, 2, 3, 4, 5] rfl
  refine va_calli (va_runV (As := [.int x2]) (rest := []) ⟨hx, hb, hml, hown, hts⟩ (m_X8_numberEnd l D cI cC cZ cR mo mo1 mo2 mo3 mo4 mo5 _ kn le_ s_ past slo isv pad_ x2   r3 hcr3) (cwV 1 hts gX8_comesBy_X8_numberEnd rfl rfl rfl (by decide +kernel) ⟨Nat.le_of_ble_eq_true rfl, Nat.le_of_ble_eq_true rfl⟩) (cPc_pv hPc hK hDc (ci := 8) (q0 := 0) rfl rfl) rfl rfl hl.1 rfl (lv_room (Nat.le_of_ble_eq_true rfl)) dX8_comesBy_12 ⟨Nat.le_of_ble_eq_true rfl, Nat.le_of_ble_eq_true rfl⟩) hS (fun q _ h => hFc q h) hFc (fun xq u t H1 locs ht hvm hw hB hz1 hk1 hS => ?_)
  rw [hw]
  obtain ⟨hP1, hD1⟩ := hB
  rw [ht] at hP1
  obtain ⟨hP, hD⟩ := va_join (wr := []) (w1 := (ws_model cI cC cZ cR mo mo1 mo2 mo3 mo4 mo5 kn le_ s_ past slo isv pad_)) hP hD [0, 1, 2, 3, 4, 5] [] rfl rfl (by decide) (by decide) hk1 hFc hP1 hD1
  generalize H1 = H at hP hS ⊢
  have hP : va_P D vwCl (ws_model cI cC cZ cR mo mo1 mo2 mo3 mo4 mo5 kn le_ s_ past slo isv pad_) H := hP
  have hD : va_D A (ws_model cI cC cZ cR mo mo1 mo2 mo3 mo4 mo5 kn le_ s_ past slo isv pad_) := hD
  refine lv_iconst (v := 1) hx hb dX8_comesBy_15 (by decide) ?_
  refine lv_iadd hx hb dX8_comesBy_16 ?_
  refine lv_topi (fun x4 ex4 => ?_)
  replace h := bd_s2 h ex4
  refine lv_istore_n (lv' := [(3, .int x4), (2, .int x2), (0, .ref mo), (1, .int a0)]) hx hb dX8_comesBy_17 rfl hl (by decide) rfl (fun ls hl => ?_)
  refine lv_aload_n hx hb dX8_comesBy_18 rfl (lv_at hl 2 rfl) ?_
  refine lv_iload_n hx hb dX8_comesBy_19 rfl (lv_at hl 0 rfl) ?_
  obtain ⟨r5, hcr5, h⟩ := bn_sp h
  have hPc := hP.sub (ws' := (ws_model cI cC cZ cR mo mo1 mo2 mo3 mo4 mo5 kn le_ s_ past slo isv pad_)) [0, 1, 2, 3, 4, 5] rfl
  have hDc := hD.sub (ws' := (ws_model cI cC cZ cR mo mo1 mo2 mo3 mo4 mo5 kn le_ s_ past slo isv pad_)) [0, 1, 2, 3, 4, 5] (by decide) rfl
  have hFc := va_free (wc := (ws_model cI cC cZ cR mo mo1 mo2 mo3 mo4 mo5 kn le_ s_ past slo isv pad_)) hD hS hA [0, 1, 2, 3, 4, 5] rfl
  refine va_calli (va_runV (As := [.int x4]) (rest := []) ⟨hx, hb, hml, hown, hts⟩ (m_X8_numberEnd l D cI cC cZ cR mo mo1 mo2 mo3 mo4 mo5 _ kn le_ s_ past slo isv pad_ x4   r5 hcr5) (cwV 1 hts gX8_comesBy_X8_numberEnd rfl rfl rfl (by decide +kernel) ⟨Nat.le_of_ble_eq_true rfl, Nat.le_of_ble_eq_true rfl⟩) (cPc_pv hPc hK hDc (ci := 8) (q0 := 0) rfl rfl) rfl rfl hl.1 rfl (lv_room (Nat.le_of_ble_eq_true rfl)) dX8_comesBy_20 ⟨Nat.le_of_ble_eq_true rfl, Nat.le_of_ble_eq_true rfl⟩) hS (fun q _ h => hFc q h) hFc (fun xq u t H1 locs ht hvm hw hB hz1 hk1 hS => ?_)
  rw [hw]
  obtain ⟨hP1, hD1⟩ := hB
  rw [ht] at hP1
  obtain ⟨hP, hD⟩ := va_join (wr := []) (w1 := (ws_model cI cC cZ cR mo mo1 mo2 mo3 mo4 mo5 kn le_ s_ past slo isv pad_)) hP hD [0, 1, 2, 3, 4, 5] [] rfl rfl (by decide) (by decide) hk1 hFc hP1 hD1
  generalize H1 = H at hP hS ⊢
  have hP : va_P D vwCl (ws_model cI cC cZ cR mo mo1 mo2 mo3 mo4 mo5 kn le_ s_ past slo isv pad_) H := hP
  have hD : va_D A (ws_model cI cC cZ cR mo mo1 mo2 mo3 mo4 mo5 kn le_ s_ past slo isv pad_) := hD
  refine lv_iconst (v := 1) hx hb dX8_comesBy_23 (by decide) ?_
  refine lv_iadd hx hb dX8_comesBy_24 ?_
  refine lv_topi (fun x6 ex6 => ?_)
  replace h := bd_s2 h ex6
  refine lv_istore (lv' := [(4, .int x6), (3, .int x4), (2, .int x2), (0, .ref mo), (1, .int a0)]) hx hb dX8_comesBy_25 hl (by decide) rfl (fun ls hl => ?_)
  refine lv_aload_n hx hb dX8_comesBy_27 rfl (lv_at hl 3 rfl) ?_
  refine lv_iload hx hb dX8_comesBy_28 (lv_at hl 0 rfl) ?_
  obtain ⟨r7, hcr7, h⟩ := bn_sp h
  have hPc := hP.sub (ws' := (ws_model cI cC cZ cR mo mo1 mo2 mo3 mo4 mo5 kn le_ s_ past slo isv pad_)) [0, 1, 2, 3, 4, 5] rfl
  have hDc := hD.sub (ws' := (ws_model cI cC cZ cR mo mo1 mo2 mo3 mo4 mo5 kn le_ s_ past slo isv pad_)) [0, 1, 2, 3, 4, 5] (by decide) rfl
  have hFc := va_free (wc := (ws_model cI cC cZ cR mo mo1 mo2 mo3 mo4 mo5 kn le_ s_ past slo isv pad_)) hD hS hA [0, 1, 2, 3, 4, 5] rfl
  refine va_calli (va_runV (As := [.int x6]) (rest := []) ⟨hx, hb, hml, hown, hts⟩ (m_X8_numberEnd l D cI cC cZ cR mo mo1 mo2 mo3 mo4 mo5 _ kn le_ s_ past slo isv pad_ x6   r7 hcr7) (cwV 1 hts gX8_comesBy_X8_numberEnd rfl rfl rfl (by decide +kernel) ⟨Nat.le_of_ble_eq_true rfl, Nat.le_of_ble_eq_true rfl⟩) (cPc_pv hPc hK hDc (ci := 8) (q0 := 0) rfl rfl) rfl rfl hl.1 rfl (lv_room (Nat.le_of_ble_eq_true rfl)) dX8_comesBy_30 ⟨Nat.le_of_ble_eq_true rfl, Nat.le_of_ble_eq_true rfl⟩) hS (fun q _ h => hFc q h) hFc (fun xq u t H1 locs ht hvm hw hB hz1 hk1 hS => ?_)
  rw [hw]
  obtain ⟨hP1, hD1⟩ := hB
  rw [ht] at hP1
  obtain ⟨hP, hD⟩ := va_join (wr := []) (w1 := (ws_model cI cC cZ cR mo mo1 mo2 mo3 mo4 mo5 kn le_ s_ past slo isv pad_)) hP hD [0, 1, 2, 3, 4, 5] [] rfl rfl (by decide) (by decide) hk1 hFc hP1 hD1
  generalize H1 = H at hP hS ⊢
  have hP : va_P D vwCl (ws_model cI cC cZ cR mo mo1 mo2 mo3 mo4 mo5 kn le_ s_ past slo isv pad_) H := hP
  have hD : va_D A (ws_model cI cC cZ cR mo mo1 mo2 mo3 mo4 mo5 kn le_ s_ past slo isv pad_) := hD
  refine lv_iconst (v := 1) hx hb dX8_comesBy_33 (by decide) ?_
  refine lv_iadd hx hb dX8_comesBy_34 ?_
  refine lv_topi (fun x8 ex8 => ?_)
  replace h := bd_s2 h ex8
  refine lv_istore (lv' := [(5, .int x8), (4, .int x6), (3, .int x4), (2, .int x2), (0, .ref mo), (1, .int a0)]) hx hb dX8_comesBy_35 hl (by decide) rfl (fun ls hl => ?_)
  refine lv_iload hx hb dX8_comesBy_37 (lv_at hl 0 rfl) ?_
  refine lv_iconst (v := 1) hx hb dX8_comesBy_39 (by decide) ?_
  refine lv_iadd hx hb dX8_comesBy_40 ?_
  refine lv_topi (fun x9 ex9 => ?_)
  replace h := bd_s2 h ex9
  refine lv_istore (lv' := [(6, .int x9), (5, .int x8), (4, .int x6), (3, .int x4), (2, .int x2), (0, .ref mo), (1, .int a0)]) hx hb dX8_comesBy_41 hl (by decide) rfl (fun ls hl => ?_)
  refine lv_aload_n hx hb dX8_comesBy_43 rfl (lv_at hl 5 rfl) ?_
  refine lv_iload hx hb dX8_comesBy_44 (lv_at hl 0 rfl) ?_
  obtain ⟨r10, hcr10, h⟩ := bn_sp h
  have hPc := hP.sub (ws' := (ws_model cI cC cZ cR mo mo1 mo2 mo3 mo4 mo5 kn le_ s_ past slo isv pad_)) [0, 1, 2, 3, 4, 5] rfl
  have hDc := hD.sub (ws' := (ws_model cI cC cZ cR mo mo1 mo2 mo3 mo4 mo5 kn le_ s_ past slo isv pad_)) [0, 1, 2, 3, 4, 5] (by decide) rfl
  have hFc := va_free (wc := (ws_model cI cC cZ cR mo mo1 mo2 mo3 mo4 mo5 kn le_ s_ past slo isv pad_)) hD hS hA [0, 1, 2, 3, 4, 5] rfl
  refine va_calli (va_runV (As := [.int x9]) (rest := []) ⟨hx, hb, hml, hown, hts⟩ (m_X8_isSpeed l D cI cC cZ cR mo mo1 mo2 mo3 mo4 mo5 _ kn le_ s_ past slo isv pad_ x9   r10 hcr10) (cwV 1 hts gX8_comesBy_X8_isSpeed rfl rfl rfl (by decide +kernel) ⟨Nat.le_of_ble_eq_true rfl, Nat.le_of_ble_eq_true rfl⟩) (cPc_pv hPc hK hDc (ci := 8) (q0 := 0) rfl rfl) rfl rfl hl.1 rfl (lv_room (Nat.le_of_ble_eq_true rfl)) dX8_comesBy_46 ⟨Nat.le_of_ble_eq_true rfl, Nat.le_of_ble_eq_true rfl⟩) hS (fun q _ h => hFc q h) hFc (fun xq u t H1 locs ht hvm hw hB hz1 hk1 hS => ?_)
  rw [hw]
  obtain ⟨hP1, hD1⟩ := hB
  rw [ht] at hP1
  obtain ⟨hP, hD⟩ := va_join (wr := []) (w1 := (ws_model cI cC cZ cR mo mo1 mo2 mo3 mo4 mo5 kn le_ s_ past slo isv pad_)) hP hD [0, 1, 2, 3, 4, 5] [] rfl rfl (by decide) (by decide) hk1 hFc hP1 hD1
  generalize H1 = H at hP hS ⊢
  have hP : va_P D vwCl (ws_model cI cC cZ cR mo mo1 mo2 mo3 mo4 mo5 kn le_ s_ past slo isv pad_) H := hP
  have hD : va_D A (ws_model cI cC cZ cR mo mo1 mo2 mo3 mo4 mo5 kn le_ s_ past slo isv pad_) := hD
  obtain ⟨j64, hj64, h⟩ := jn_sp h
  have J64 : ∀ (j11 : Int32) (H : Heap) (locs : List Loc) (ls : Array Slot), j64 j11 = some r → va_P D vwCl (ws_model cI cC cZ cR mo mo1 mo2 mo3 mo4 mo5 kn le_ s_ past slo isv pad_) H → va_D A (ws_model cI cC cZ cR mo mo1 mo2 mo3 mo4 mo5 kn le_ s_ past slo isv pad_) → va_S A s.heap H locs → lv_has ls 11 [(0, .ref mo), (1, .int a0), (2, .int x2), (3, .int x4), (4, .int x6), (5, .int x8), (6, .int x9)] → W p l e R_X8_comesBy s m ([.ref mo, .int a0] : List Value).toArray below meth c H locs 0 0 Q (F0 m 64 ls [.int j11]) := by
    intro j11 H locs ls h hP hD hS hl
    rw [hj64] at h
    refine lv_istore (lv' := [(7, .int j11), (0, .ref mo), (1, .int a0), (2, .int x2), (3, .int x4), (4, .int x6), (5, .int x8), (6, .int x9)]) hx hb dX8_comesBy_64 hl (by decide) rfl (fun ls hl => ?_)
    refine lv_aload_n hx hb dX8_comesBy_66 rfl (lv_at hl 1 rfl) ?_
    refine lv_iload hx hb dX8_comesBy_67 (lv_at hl 7 rfl) ?_
    obtain ⟨r12, hcr12, h⟩ := bn_sp h
    have hPc := hP.sub (ws' := (ws_model cI cC cZ cR mo mo1 mo2 mo3 mo4 mo5 kn le_ s_ past slo isv pad_)) [0, 1, 2, 3, 4, 5] rfl
    have hDc := hD.sub (ws' := (ws_model cI cC cZ cR mo mo1 mo2 mo3 mo4 mo5 kn le_ s_ past slo isv pad_)) [0, 1, 2, 3, 4, 5] (by decide) rfl
    have hFc := va_free (wc := (ws_model cI cC cZ cR mo mo1 mo2 mo3 mo4 mo5 kn le_ s_ past slo isv pad_)) hD hS hA [0, 1, 2, 3, 4, 5] rfl
    refine va_calli (va_runV (As := [.int x9]) (rest := []) ⟨hx, hb, hml, hown, hts⟩ (m_X8_isSpeed l D cI cC cZ cR mo mo1 mo2 mo3 mo4 mo5 _ kn le_ s_ past slo isv pad_ x9   r12 hcr12) (cwV 1 hts gX8_comesBy_X8_isSpeed rfl rfl rfl (by decide +kernel) ⟨Nat.le_of_ble_eq_true rfl, Nat.le_of_ble_eq_true rfl⟩) (cPc_pv hPc hK hDc (ci := 8) (q0 := 0) rfl rfl) rfl rfl hl.1 rfl (lv_room (Nat.le_of_ble_eq_true rfl)) dX8_comesBy_69 ⟨Nat.le_of_ble_eq_true rfl, Nat.le_of_ble_eq_true rfl⟩) hS (fun q _ h => hFc q h) hFc (fun xq u t H1 locs ht hvm hw hB hz1 hk1 hS => ?_)
    rw [hw]
    obtain ⟨hP1, hD1⟩ := hB
    rw [ht] at hP1
    obtain ⟨hP, hD⟩ := va_join (wr := []) (w1 := (ws_model cI cC cZ cR mo mo1 mo2 mo3 mo4 mo5 kn le_ s_ past slo isv pad_)) hP hD [0, 1, 2, 3, 4, 5] [] rfl rfl (by decide) (by decide) hk1 hFc hP1 hD1
    generalize H1 = H at hP hS ⊢
    have hP : va_P D vwCl (ws_model cI cC cZ cR mo mo1 mo2 mo3 mo4 mo5 kn le_ s_ past slo isv pad_) H := hP
    have hD : va_D A (ws_model cI cC cZ cR mo mo1 mo2 mo3 mo4 mo5 kn le_ s_ past slo isv pad_) := hD
    obtain ⟨j94, hj94, h⟩ := jn_sp h
    have J94 : ∀ (j13 : Int32) (H : Heap) (locs : List Loc) (ls : Array Slot), j94 j13 = some r → va_P D vwCl (ws_model cI cC cZ cR mo mo1 mo2 mo3 mo4 mo5 kn le_ s_ past slo isv pad_) H → va_D A (ws_model cI cC cZ cR mo mo1 mo2 mo3 mo4 mo5 kn le_ s_ past slo isv pad_) → va_S A s.heap H locs → lv_has ls 11 [(0, .ref mo), (1, .int a0), (2, .int x2), (3, .int x4), (4, .int x6), (5, .int x8), (6, .int x9), (7, .int j11)] → W p l e R_X8_comesBy s m ([.ref mo, .int a0] : List Value).toArray below meth c H locs 0 0 Q (F0 m 94 ls [.int j13]) := by
      intro j13 H locs ls h hP hD hS hl
      rw [hj94] at h
      refine lv_istore (lv' := [(7, .int j13), (0, .ref mo), (1, .int a0), (2, .int x2), (3, .int x4), (4, .int x6), (5, .int x8), (6, .int x9)]) hx hb dX8_comesBy_94 hl (by decide) rfl (fun ls hl => ?_)
      refine lv_aload_n hx hb dX8_comesBy_96 rfl (lv_at hl 1 rfl) ?_
      refine lv_iload hx hb dX8_comesBy_97 (lv_at hl 7 rfl) ?_
      obtain ⟨r14, hcr14, h⟩ := bn_sp h
      have hPc := hP.sub (ws' := (ws_model cI cC cZ cR mo mo1 mo2 mo3 mo4 mo5 kn le_ s_ past slo isv pad_)) [0, 1, 2, 3, 4, 5] rfl
      have hDc := hD.sub (ws' := (ws_model cI cC cZ cR mo mo1 mo2 mo3 mo4 mo5 kn le_ s_ past slo isv pad_)) [0, 1, 2, 3, 4, 5] (by decide) rfl
      have hFc := va_free (wc := (ws_model cI cC cZ cR mo mo1 mo2 mo3 mo4 mo5 kn le_ s_ past slo isv pad_)) hD hS hA [0, 1, 2, 3, 4, 5] rfl
      refine va_calli (va_runV (As := [.int x9]) (rest := []) ⟨hx, hb, hml, hown, hts⟩ (m_X8_isSpeed l D cI cC cZ cR mo mo1 mo2 mo3 mo4 mo5 _ kn le_ s_ past slo isv pad_ x9   r14 hcr14) (cwV 1 hts gX8_comesBy_X8_isSpeed rfl rfl rfl (by decide +kernel) ⟨Nat.le_of_ble_eq_true rfl, Nat.le_of_ble_eq_true rfl⟩) (cPc_pv hPc hK hDc (ci := 8) (q0 := 0) rfl rfl) rfl rfl hl.1 rfl (lv_room (Nat.le_of_ble_eq_true rfl)) dX8_comesBy_99 ⟨Nat.le_of_ble_eq_true rfl, Nat.le_of_ble_eq_true rfl⟩) hS (fun q _ h => hFc q h) hFc (fun xq u t H1 locs ht hvm hw hB hz1 hk1 hS => ?_)
      rw [hw]
      obtain ⟨hP1, hD1⟩ := hB
      rw [ht] at hP1
      obtain ⟨hP, hD⟩ := va_join (wr := []) (w1 := (ws_model cI cC cZ cR mo mo1 mo2 mo3 mo4 mo5 kn le_ s_ past slo isv pad_)) hP hD [0, 1, 2, 3, 4, 5] [] rfl rfl (by decide) (by decide) hk1 hFc hP1 hD1
      generalize H1 = H at hP hS ⊢
      have hP : va_P D vwCl (ws_model cI cC cZ cR mo mo1 mo2 mo3 mo4 mo5 kn le_ s_ past slo isv pad_) H := hP
      have hD : va_D A (ws_model cI cC cZ cR mo mo1 mo2 mo3 mo4 mo5 kn le_ s_ past slo isv pad_) := hD
      obtain ⟨j118, hj118, h⟩ := jn_sp h
      have J118 : ∀ (j15 : Int32) (H : Heap) (locs : List Loc) (ls : Array Slot), j118 j15 = some r → va_P D vwCl (ws_model cI cC cZ cR mo mo1 mo2 mo3 mo4 mo5 kn le_ s_ past slo isv pad_) H → va_D A (ws_model cI cC cZ cR mo mo1 mo2 mo3 mo4 mo5 kn le_ s_ past slo isv pad_) → va_S A s.heap H locs → lv_has ls 11 [(0, .ref mo), (1, .int a0), (2, .int x2), (3, .int x4), (4, .int x6), (5, .int x8), (6, .int x9), (7, .int j13)] → W p l e R_X8_comesBy s m ([.ref mo, .int a0] : List Value).toArray below meth c H locs 0 0 Q (F0 m 118 ls [.int j15]) := by
        intro j15 H locs ls h hP hD hS hl
        rw [hj118] at h
        refine lv_istore (lv' := [(6, .int j15), (0, .ref mo), (1, .int a0), (2, .int x2), (3, .int x4), (4, .int x6), (5, .int x8), (7, .int j13)]) hx hb dX8_comesBy_118 hl (by decide) rfl (fun ls hl => ?_)
        refine lv_aload_n hx hb dX8_comesBy_120 rfl (lv_at hl 1 rfl) ?_
        refine lv_iload hx hb dX8_comesBy_121 (lv_at hl 0 rfl) ?_
        obtain ⟨r16, hcr16, h⟩ := bn_sp h
        have hPc := hP.sub (ws' := (ws_model cI cC cZ cR mo mo1 mo2 mo3 mo4 mo5 kn le_ s_ past slo isv pad_)) [0, 1, 2, 3, 4, 5] rfl
        have hDc := hD.sub (ws' := (ws_model cI cC cZ cR mo mo1 mo2 mo3 mo4 mo5 kn le_ s_ past slo isv pad_)) [0, 1, 2, 3, 4, 5] (by decide) rfl
        have hFc := va_free (wc := (ws_model cI cC cZ cR mo mo1 mo2 mo3 mo4 mo5 kn le_ s_ past slo isv pad_)) hD hS hA [0, 1, 2, 3, 4, 5] rfl
        refine va_calli (va_runV (As := [.int j15]) (rest := []) ⟨hx, hb, hml, hown, hts⟩ (m_X8_sign l D cI cC cZ cR mo mo1 mo2 mo3 mo4 mo5 _ kn le_ s_ past slo isv pad_ j15   r16 hcr16) (cwV 1 hts gX8_comesBy_X8_sign rfl rfl rfl (by decide +kernel) ⟨Nat.le_of_ble_eq_true rfl, Nat.le_of_ble_eq_true rfl⟩) (cPc_pv hPc hK hDc (ci := 8) (q0 := 0) rfl rfl) rfl rfl hl.1 rfl (lv_room (Nat.le_of_ble_eq_true rfl)) dX8_comesBy_123 ⟨Nat.le_of_ble_eq_true rfl, Nat.le_of_ble_eq_true rfl⟩) hS (fun q _ h => hFc q h) hFc (fun xq u t H1 locs ht hvm hw hB hz1 hk1 hS => ?_)
        rw [hw]
        obtain ⟨hP1, hD1⟩ := hB
        rw [ht] at hP1
        obtain ⟨hP, hD⟩ := va_join (wr := []) (w1 := (ws_model cI cC cZ cR mo mo1 mo2 mo3 mo4 mo5 kn le_ s_ past slo isv pad_)) hP hD [0, 1, 2, 3, 4, 5] [] rfl rfl (by decide) (by decide) hk1 hFc hP1 hD1
        generalize H1 = H at hP hS ⊢
        have hP : va_P D vwCl (ws_model cI cC cZ cR mo mo1 mo2 mo3 mo4 mo5 kn le_ s_ past slo isv pad_) H := hP
        have hD : va_D A (ws_model cI cC cZ cR mo mo1 mo2 mo3 mo4 mo5 kn le_ s_ past slo isv pad_) := hD
        refine lv_bipush (v := 64) hx hb dX8_comesBy_126 (by decide) ?_
        obtain ⟨j143, hj143, h⟩ := jn_sp h
        have J143 : ∀ (j17 : Int32) (H : Heap) (locs : List Loc) (ls : Array Slot), j143 j17 = some r → va_P D vwCl (ws_model cI cC cZ cR mo mo1 mo2 mo3 mo4 mo5 kn le_ s_ past slo isv pad_) H → va_D A (ws_model cI cC cZ cR mo mo1 mo2 mo3 mo4 mo5 kn le_ s_ past slo isv pad_) → va_S A s.heap H locs → lv_has ls 11 [(0, .ref mo), (1, .int a0), (2, .int x2), (3, .int x4), (4, .int x6), (5, .int x8), (6, .int j15), (7, .int j13)] → W p l e R_X8_comesBy s m ([.ref mo, .int a0] : List Value).toArray below meth c H locs 0 0 Q (F0 m 143 ls [.int j17]) := by
          intro j17 H locs ls h hP hD hS hl
          rw [hj143] at h
          refine lv_istore (lv' := [(8, .int j17), (0, .ref mo), (1, .int a0), (2, .int x2), (3, .int x4), (4, .int x6), (5, .int x8), (6, .int j15), (7, .int j13)]) hx hb dX8_comesBy_143 hl (by decide) rfl (fun ls hl => ?_)
          refine lv_aload_n hx hb dX8_comesBy_145 rfl (lv_at hl 1 rfl) ?_
          refine lv_aload_n hx hb dX8_comesBy_146 rfl (lv_at hl 1 rfl) ?_
          refine lv_iload_n hx hb dX8_comesBy_147 rfl (lv_at hl 2 rfl) ?_
          refine lv_iconst (v := 1) hx hb dX8_comesBy_148 (by decide) ?_
          refine lv_iadd hx hb dX8_comesBy_149 ?_
          obtain ⟨r18, hcr18, h⟩ := bn_sp h
          have hPc := hP.sub (ws' := (ws_model cI cC cZ cR mo mo1 mo2 mo3 mo4 mo5 kn le_ s_ past slo isv pad_)) [0, 1, 2, 3, 4, 5] rfl
          have hDc := hD.sub (ws' := (ws_model cI cC cZ cR mo mo1 mo2 mo3 mo4 mo5 kn le_ s_ past slo isv pad_)) [0, 1, 2, 3, 4, 5] (by decide) rfl
          have hFc := va_free (wc := (ws_model cI cC cZ cR mo mo1 mo2 mo3 mo4 mo5 kn le_ s_ past slo isv pad_)) hD hS hA [0, 1, 2, 3, 4, 5] rfl
          refine va_calli (va_runV (As := [.int (a0 + 1)]) (rest := [.ref mo]) ⟨hx, hb, hml, hown, hts⟩ (m_X8_numberAt l D cI cC cZ cR mo mo1 mo2 mo3 mo4 mo5 _ kn le_ s_ past slo isv pad_ (a0 + 1)   r18 hcr18) (cwV 1 hts gX8_comesBy_X8_numberAt rfl rfl rfl (by decide +kernel) ⟨Nat.le_of_ble_eq_true rfl, Nat.le_of_ble_eq_true rfl⟩) (cPc_pv hPc hK hDc (ci := 8) (q0 := 0) rfl rfl) rfl rfl hl.1 rfl (lv_room (Nat.le_of_ble_eq_true rfl)) dX8_comesBy_150 ⟨Nat.le_of_ble_eq_true rfl, Nat.le_of_ble_eq_true rfl⟩) hS (fun q _ h => hFc q h) hFc (fun xq u t H1 locs ht hvm hw hB hz1 hk1 hS => ?_)
          rw [hw]
          obtain ⟨hP1, hD1⟩ := hB
          rw [ht] at hP1
          obtain ⟨hP, hD⟩ := va_join (wr := []) (w1 := (ws_model cI cC cZ cR mo mo1 mo2 mo3 mo4 mo5 kn le_ s_ past slo isv pad_)) hP hD [0, 1, 2, 3, 4, 5] [] rfl rfl (by decide) (by decide) hk1 hFc hP1 hD1
          generalize H1 = H at hP hS ⊢
          have hP : va_P D vwCl (ws_model cI cC cZ cR mo mo1 mo2 mo3 mo4 mo5 kn le_ s_ past slo isv pad_) H := hP
          have hD : va_D A (ws_model cI cC cZ cR mo mo1 mo2 mo3 mo4 mo5 kn le_ s_ past slo isv pad_) := hD
          refine lv_aload_n hx hb dX8_comesBy_153 rfl (lv_at hl 1 rfl) ?_
          refine lv_iload_n hx hb dX8_comesBy_154 rfl (lv_at hl 3 rfl) ?_
          obtain ⟨r19, hcr19, h⟩ := bn_sp h
          have hPc := hP.sub (ws' := (ws_model cI cC cZ cR mo mo1 mo2 mo3 mo4 mo5 kn le_ s_ past slo isv pad_)) [0, 1, 2, 3, 4, 5] rfl
          have hDc := hD.sub (ws' := (ws_model cI cC cZ cR mo mo1 mo2 mo3 mo4 mo5 kn le_ s_ past slo isv pad_)) [0, 1, 2, 3, 4, 5] (by decide) rfl
          have hFc := va_free (wc := (ws_model cI cC cZ cR mo mo1 mo2 mo3 mo4 mo5 kn le_ s_ past slo isv pad_)) hD hS hA [0, 1, 2, 3, 4, 5] rfl
          refine va_calli (va_runV (As := [.int x2]) (rest := [.int r18, .ref mo]) ⟨hx, hb, hml, hown, hts⟩ (m_X8_numberAt l D cI cC cZ cR mo mo1 mo2 mo3 mo4 mo5 _ kn le_ s_ past slo isv pad_ x2   r19 hcr19) (cwV 1 hts gX8_comesBy_X8_numberAt rfl rfl rfl (by decide +kernel) ⟨Nat.le_of_ble_eq_true rfl, Nat.le_of_ble_eq_true rfl⟩) (cPc_pv hPc hK hDc (ci := 8) (q0 := 0) rfl rfl) rfl rfl hl.1 rfl (lv_room (Nat.le_of_ble_eq_true rfl)) dX8_comesBy_155 ⟨Nat.le_of_ble_eq_true rfl, Nat.le_of_ble_eq_true rfl⟩) hS (fun q _ h => hFc q h) hFc (fun xq u t H1 locs ht hvm hw hB hz1 hk1 hS => ?_)
          rw [hw]
          obtain ⟨hP1, hD1⟩ := hB
          rw [ht] at hP1
          obtain ⟨hP, hD⟩ := va_join (wr := []) (w1 := (ws_model cI cC cZ cR mo mo1 mo2 mo3 mo4 mo5 kn le_ s_ past slo isv pad_)) hP hD [0, 1, 2, 3, 4, 5] [] rfl rfl (by decide) (by decide) hk1 hFc hP1 hD1
          generalize H1 = H at hP hS ⊢
          have hP : va_P D vwCl (ws_model cI cC cZ cR mo mo1 mo2 mo3 mo4 mo5 kn le_ s_ past slo isv pad_) H := hP
          have hD : va_D A (ws_model cI cC cZ cR mo mo1 mo2 mo3 mo4 mo5 kn le_ s_ past slo isv pad_) := hD
          refine lv_aload_n hx hb dX8_comesBy_158 rfl (lv_at hl 1 rfl) ?_
          refine lv_iload_n hx hb dX8_comesBy_159 rfl (lv_at hl 4 rfl) ?_
          obtain ⟨r20, hcr20, h⟩ := bn_sp h
          have hPc := hP.sub (ws' := (ws_model cI cC cZ cR mo mo1 mo2 mo3 mo4 mo5 kn le_ s_ past slo isv pad_)) [0, 1, 2, 3, 4, 5] rfl
          have hDc := hD.sub (ws' := (ws_model cI cC cZ cR mo mo1 mo2 mo3 mo4 mo5 kn le_ s_ past slo isv pad_)) [0, 1, 2, 3, 4, 5] (by decide) rfl
          have hFc := va_free (wc := (ws_model cI cC cZ cR mo mo1 mo2 mo3 mo4 mo5 kn le_ s_ past slo isv pad_)) hD hS hA [0, 1, 2, 3, 4, 5] rfl
          refine va_calli (va_runV (As := [.int x4]) (rest := [.int r19, .int r18, .ref mo]) ⟨hx, hb, hml, hown, hts⟩ (m_X8_numberAt l D cI cC cZ cR mo mo1 mo2 mo3 mo4 mo5 _ kn le_ s_ past slo isv pad_ x4   r20 hcr20) (cwV 1 hts gX8_comesBy_X8_numberAt rfl rfl rfl (by decide +kernel) ⟨Nat.le_of_ble_eq_true rfl, Nat.le_of_ble_eq_true rfl⟩) (cPc_pv hPc hK hDc (ci := 8) (q0 := 0) rfl rfl) rfl rfl hl.1 rfl (lv_room (Nat.le_of_ble_eq_true rfl)) dX8_comesBy_160 ⟨Nat.le_of_ble_eq_true rfl, Nat.le_of_ble_eq_true rfl⟩) hS (fun q _ h => hFc q h) hFc (fun xq u t H1 locs ht hvm hw hB hz1 hk1 hS => ?_)
          rw [hw]
          obtain ⟨hP1, hD1⟩ := hB
          rw [ht] at hP1
          obtain ⟨hP, hD⟩ := va_join (wr := []) (w1 := (ws_model cI cC cZ cR mo mo1 mo2 mo3 mo4 mo5 kn le_ s_ past slo isv pad_)) hP hD [0, 1, 2, 3, 4, 5] [] rfl rfl (by decide) (by decide) hk1 hFc hP1 hD1
          generalize H1 = H at hP hS ⊢
          have hP : va_P D vwCl (ws_model cI cC cZ cR mo mo1 mo2 mo3 mo4 mo5 kn le_ s_ past slo isv pad_) H := hP
          have hD : va_D A (ws_model cI cC cZ cR mo mo1 mo2 mo3 mo4 mo5 kn le_ s_ past slo isv pad_) := hD
          refine lv_aload_n hx hb dX8_comesBy_163 rfl (lv_at hl 1 rfl) ?_
          refine lv_iload hx hb dX8_comesBy_164 (lv_at hl 5 rfl) ?_
          obtain ⟨r21, hcr21, h⟩ := bn_sp h
          have hPc := hP.sub (ws' := (ws_model cI cC cZ cR mo mo1 mo2 mo3 mo4 mo5 kn le_ s_ past slo isv pad_)) [0, 1, 2, 3, 4, 5] rfl
          have hDc := hD.sub (ws' := (ws_model cI cC cZ cR mo mo1 mo2 mo3 mo4 mo5 kn le_ s_ past slo isv pad_)) [0, 1, 2, 3, 4, 5] (by decide) rfl
          have hFc := va_free (wc := (ws_model cI cC cZ cR mo mo1 mo2 mo3 mo4 mo5 kn le_ s_ past slo isv pad_)) hD hS hA [0, 1, 2, 3, 4, 5] rfl
          refine va_calli (va_runV (As := [.int x6]) (rest := [.int r20, .int r19, .int r18, .ref mo]) ⟨hx, hb, hml, hown, hts⟩ (m_X8_numberAt l D cI cC cZ cR mo mo1 mo2 mo3 mo4 mo5 _ kn le_ s_ past slo isv pad_ x6   r21 hcr21) (cwV 1 hts gX8_comesBy_X8_numberAt rfl rfl rfl (by decide +kernel) ⟨Nat.le_of_ble_eq_true rfl, Nat.le_of_ble_eq_true rfl⟩) (cPc_pv hPc hK hDc (ci := 8) (q0 := 0) rfl rfl) rfl rfl hl.1 rfl (lv_room (Nat.le_of_ble_eq_true rfl)) dX8_comesBy_166 ⟨Nat.le_of_ble_eq_true rfl, Nat.le_of_ble_eq_true rfl⟩) hS (fun q _ h => hFc q h) hFc (fun xq u t H1 locs ht hvm hw hB hz1 hk1 hS => ?_)
          rw [hw]
          obtain ⟨hP1, hD1⟩ := hB
          rw [ht] at hP1
          obtain ⟨hP, hD⟩ := va_join (wr := []) (w1 := (ws_model cI cC cZ cR mo mo1 mo2 mo3 mo4 mo5 kn le_ s_ past slo isv pad_)) hP hD [0, 1, 2, 3, 4, 5] [] rfl rfl (by decide) (by decide) hk1 hFc hP1 hD1
          generalize H1 = H at hP hS ⊢
          have hP : va_P D vwCl (ws_model cI cC cZ cR mo mo1 mo2 mo3 mo4 mo5 kn le_ s_ past slo isv pad_) H := hP
          have hD : va_D A (ws_model cI cC cZ cR mo mo1 mo2 mo3 mo4 mo5 kn le_ s_ past slo isv pad_) := hD
          refine lv_aload_n hx hb dX8_comesBy_169 rfl (lv_at hl 1 rfl) ?_
          refine lv_iload hx hb dX8_comesBy_170 (lv_at hl 6 rfl) ?_
          obtain ⟨r22, hcr22, h⟩ := bn_sp h
          have hPc := hP.sub (ws' := (ws_model cI cC cZ cR mo mo1 mo2 mo3 mo4 mo5 kn le_ s_ past slo isv pad_)) [0, 1, 2, 3, 4, 5] rfl
          have hDc := hD.sub (ws' := (ws_model cI cC cZ cR mo mo1 mo2 mo3 mo4 mo5 kn le_ s_ past slo isv pad_)) [0, 1, 2, 3, 4, 5] (by decide) rfl
          have hFc := va_free (wc := (ws_model cI cC cZ cR mo mo1 mo2 mo3 mo4 mo5 kn le_ s_ past slo isv pad_)) hD hS hA [0, 1, 2, 3, 4, 5] rfl
          refine va_calli (va_runV (As := [.int x8]) (rest := [.int r21, .int r20, .int r19, .int r18, .ref mo]) ⟨hx, hb, hml, hown, hts⟩ (m_X8_digit l D cI cC cZ cR mo mo1 mo2 mo3 mo4 mo5 _ kn le_ s_ past slo isv pad_ x8   r22 hcr22) (cwV 1 hts gX8_comesBy_X8_digit rfl rfl rfl (by decide +kernel) ⟨Nat.le_of_ble_eq_true rfl, Nat.le_of_ble_eq_true rfl⟩) (cPc_pv hPc hK hDc (ci := 8) (q0 := 0) rfl rfl) rfl rfl hl.1 rfl (lv_room (Nat.le_of_ble_eq_true rfl)) dX8_comesBy_172 ⟨Nat.le_of_ble_eq_true rfl, Nat.le_of_ble_eq_true rfl⟩) hS (fun q _ h => hFc q h) hFc (fun xq u t H1 locs ht hvm hw hB hz1 hk1 hS => ?_)
          rw [hw]
          obtain ⟨hP1, hD1⟩ := hB
          rw [ht] at hP1
          obtain ⟨hP, hD⟩ := va_join (wr := []) (w1 := (ws_model cI cC cZ cR mo mo1 mo2 mo3 mo4 mo5 kn le_ s_ past slo isv pad_)) hP hD [0, 1, 2, 3, 4, 5] [] rfl rfl (by decide) (by decide) hk1 hFc hP1 hD1
          generalize H1 = H at hP hS ⊢
          have hP : va_P D vwCl (ws_model cI cC cZ cR mo mo1 mo2 mo3 mo4 mo5 kn le_ s_ past slo isv pad_) H := hP
          have hD : va_D A (ws_model cI cC cZ cR mo mo1 mo2 mo3 mo4 mo5 kn le_ s_ past slo isv pad_) := hD
          obtain ⟨r23, hcr23, h⟩ := bn_sp h
          have hPc := hP.sub (ws' := (ws_model cI cC cZ cR mo mo1 mo2 mo3 mo4 mo5 kn le_ s_ past slo isv pad_)) [0, 1, 2, 3, 4, 5] rfl
          have hDc := hD.sub (ws' := (ws_model cI cC cZ cR mo mo1 mo2 mo3 mo4 mo5 kn le_ s_ past slo isv pad_)) [0, 1, 2, 3, 4, 5] (by decide) rfl
          have hFc := va_free (wc := (ws_model cI cC cZ cR mo mo1 mo2 mo3 mo4 mo5 kn le_ s_ past slo isv pad_)) hD hS hA [0, 1, 2, 3, 4, 5] rfl
          refine va_calli (va_runV (As := [.int r18, .int r19, .int r20, .int r21, .int r22]) (rest := []) ⟨hx, hb, hml, hown, hts⟩ (m_X8_whyNotThing l D cI cC cZ cR mo mo1 mo2 mo3 mo4 mo5 _ kn le_ s_ past slo isv pad_ r18 r19 r20 r21 r22   r23 hcr23) (cwV 5 hts gX8_comesBy_X8_whyNotThing rfl rfl rfl (by decide +kernel) ⟨Nat.le_of_ble_eq_true rfl, Nat.le_of_ble_eq_true rfl⟩) (cPc_pv hPc hK hDc (ci := 8) (q0 := 0) rfl rfl) rfl rfl hl.1 rfl (lv_room (Nat.le_of_ble_eq_true rfl)) dX8_comesBy_175 ⟨Nat.le_of_ble_eq_true rfl, Nat.le_of_ble_eq_true rfl⟩) hS (fun q _ h => hFc q h) hFc (fun xq u t H1 locs ht hvm hw hB hz1 hk1 hS => ?_)
          rw [hw]
          obtain ⟨hP1, hD1⟩ := hB
          rw [ht] at hP1
          obtain ⟨hP, hD⟩ := va_join (wr := []) (w1 := (ws_model cI cC cZ cR mo mo1 mo2 mo3 mo4 mo5 kn le_ s_ past slo isv pad_)) hP hD [0, 1, 2, 3, 4, 5] [] rfl rfl (by decide) (by decide) hk1 hFc hP1 hD1
          generalize H1 = H at hP hS ⊢
          have hP : va_P D vwCl (ws_model cI cC cZ cR mo mo1 mo2 mo3 mo4 mo5 kn le_ s_ past slo isv pad_) H := hP
          have hD : va_D A (ws_model cI cC cZ cR mo mo1 mo2 mo3 mo4 mo5 kn le_ s_ past slo isv pad_) := hD
          refine lv_istore (lv' := [(9, .int r23), (8, .int j17), (0, .ref mo), (1, .int a0), (2, .int x2), (3, .int x4), (4, .int x6), (5, .int x8), (6, .int j15), (7, .int j13)]) hx hb dX8_comesBy_178 hl (by decide) rfl (fun ls hl => ?_)
          refine lv_iload hx hb dX8_comesBy_180 (lv_at hl 0 rfl) ?_
          refine lv_if_ge (tgt := 188) hx hb dX8_comesBy_182 (by decide) (fun c34 => ?_) (fun c34 => ?_)
          · replace h := br_p c34 h
            refine lv_iload hx hb dX8_comesBy_188 (lv_at hl 9 rfl) ?_
            refine lv_bipush (v := (-40)) hx hb dX8_comesBy_190 (by decide) ?_
            refine lv_bipush (v := 40) hx hb dX8_comesBy_192 (by decide) ?_
            obtain ⟨r24, hcr24, h⟩ := bn_sp h
            have hPc := hP.sub (ws' := []) [] rfl
            have hDc := hD.sub (ws' := []) [] (by decide) rfl
            have hFc := va_free (wc := []) hD hS hA [] rfl
            refine va_calli (va_runS (As := [.int j13, .int (-40), .int 40]) (rest := []) ⟨hx, hb, hml, hown, hts⟩ (m_X8_in l D cI cC cZ cR  _  j13 (-40) 40   r24 hcr24) (va_cwS 3 hts gX8_comesBy_X8_in rfl rfl rfl (by decide +kernel) ⟨Nat.le_of_ble_eq_true rfl, Nat.le_of_ble_eq_true rfl⟩) (cPc_ps hPc hK hDc) rfl rfl hl.1 rfl (lv_room (Nat.le_of_ble_eq_true rfl)) dX8_comesBy_194 ⟨Nat.le_of_ble_eq_true rfl, Nat.le_of_ble_eq_true rfl⟩) hS (fun q _ h => hFc q h) hFc (fun xq u t H1 locs ht hvm hw hB hz1 hk1 hS => ?_)
            rw [hw]
            obtain ⟨hP1, hD1⟩ := hB
            rw [ht] at hP1
            obtain ⟨hP, hD⟩ := va_join (wr := [(mo, .inr (8, [.ref mo1, .ref mo2, .int kn, .ref mo3, .ref mo4, .ref mo5, .int le_])), (mo1, .inl (cI, 465, .inl s_)), (mo2, .inl (cI, 2790, .inl past)), (mo3, .inl (cI, 930, .inl slo)), (mo4, .inl (cZ, 2, .inl isv)), (mo5, .inl (cI, 80, .inl pad_))]) (w1 := []) hP hD [] [0, 1, 2, 3, 4, 5] rfl rfl (by decide) (by decide) hk1 hFc hP1 hD1
            generalize H1 = H at hP hS ⊢
            have hP : va_P D vwCl (ws_model cI cC cZ cR mo mo1 mo2 mo3 mo4 mo5 kn le_ s_ past slo isv pad_) H := hP
            have hD : va_D A (ws_model cI cC cZ cR mo mo1 mo2 mo3 mo4 mo5 kn le_ s_ past slo isv pad_) := hD
            refine lv_if_eq (tgt := 211) hx hb dX8_comesBy_197 (by decide) (fun c33 => ?_) (fun c33 => ?_)
            · replace h := br_p c33 h
              refine lv_bipush (v := (-2)) hx hb dX8_comesBy_211 (by decide) ?_
              have e9 := Option.some.inj h
              subst e9
              rw [hQ]
              exact W.iret (v := (-2)) hx hb hr (fun t ht hW => ⟨⟨(-2), (), rfl, rfl, by rw [ht]; exact hP, hD⟩, hS.F ht⟩) hS.2.2 dX8_comesBy_213
            · replace h := br_n c33 h
              refine lv_iload hx hb dX8_comesBy_200 (lv_at hl 1 rfl) ?_
              refine lv_aload_n hx hb dX8_comesBy_202 rfl (lv_at hl 2 rfl) ?_
              refine va_get (D := D) (ci := 8) (v := .ref mo1) (C := RX8) (T := TX8) (N := 7) hx hb hts uX8_comesBy_X8 hown hK.1 hP 0 rfl rfl 0 (by decide) (hts _ kX8_comesBy_1) (fun _ h9 => h9) rfl dX8_comesBy_203 ?_
              refine lv_iconst (v := 5) hx hb dX8_comesBy_206 (by decide) ?_
              obtain ⟨hin, h⟩ := gd_sp h
              refine va_iald (D := D) hx hb hK.1 hP 1 0 rfl rfl hin dX8_comesBy_207 ?_
              refine lv_icmp_lt (tgt := 214) hx hb dX8_comesBy_208 (by decide) (fun c32 => ?_) (fun c32 => ?_)
              · replace h := br_p c32 h
                refine lv_aload_n hx hb dX8_comesBy_214 rfl (lv_at hl 2 rfl) ?_
                refine lv_aload_n hx hb dX8_comesBy_215 rfl (lv_at hl 2 rfl) ?_
                refine lv_iload_n hx hb dX8_comesBy_216 rfl (lv_at hl 3 rfl) ?_
                refine lv_iconst (v := 1) hx hb dX8_comesBy_217 (by decide) ?_
                refine lv_iadd hx hb dX8_comesBy_218 ?_
                obtain ⟨r25, hcr25, h⟩ := bn_sp h
                have hPc := hP.sub (ws' := (ws_model cI cC cZ cR mo mo1 mo2 mo3 mo4 mo5 kn le_ s_ past slo isv pad_)) [0, 1, 2, 3, 4, 5] rfl
                have hDc := hD.sub (ws' := (ws_model cI cC cZ cR mo mo1 mo2 mo3 mo4 mo5 kn le_ s_ past slo isv pad_)) [0, 1, 2, 3, 4, 5] (by decide) rfl
                have hFc := va_free (wc := (ws_model cI cC cZ cR mo mo1 mo2 mo3 mo4 mo5 kn le_ s_ past slo isv pad_)) hD hS hA [0, 1, 2, 3, 4, 5] rfl
                refine va_calli (va_runV (As := [.int (a0 + 1)]) (rest := [.ref mo]) ⟨hx, hb, hml, hown, hts⟩ (m_X8_numberAt l D cI cC cZ cR mo mo1 mo2 mo3 mo4 mo5 _ kn le_ s_ past slo isv pad_ (a0 + 1)   r25 hcr25) (cwV 1 hts gX8_comesBy_X8_numberAt rfl rfl rfl (by decide +kernel) ⟨Nat.le_of_ble_eq_true rfl, Nat.le_of_ble_eq_true rfl⟩) (cPc_pv hPc hK hDc (ci := 8) (q0 := 0) rfl rfl) rfl rfl hl.1 rfl (lv_room (Nat.le_of_ble_eq_true rfl)) dX8_comesBy_219 ⟨Nat.le_of_ble_eq_true rfl, Nat.le_of_ble_eq_true rfl⟩) hS (fun q _ h => hFc q h) hFc (fun xq u t H1 locs ht hvm hw hB hz1 hk1 hS => ?_)
                rw [hw]
                obtain ⟨hP1, hD1⟩ := hB
                rw [ht] at hP1
                obtain ⟨hP, hD⟩ := va_join (wr := []) (w1 := (ws_model cI cC cZ cR mo mo1 mo2 mo3 mo4 mo5 kn le_ s_ past slo isv pad_)) hP hD [0, 1, 2, 3, 4, 5] [] rfl rfl (by decide) (by decide) hk1 hFc hP1 hD1
                generalize H1 = H at hP hS ⊢
                have hP : va_P D vwCl (ws_model cI cC cZ cR mo mo1 mo2 mo3 mo4 mo5 kn le_ s_ past slo isv pad_) H := hP
                have hD : va_D A (ws_model cI cC cZ cR mo mo1 mo2 mo3 mo4 mo5 kn le_ s_ past slo isv pad_) := hD
                refine lv_aload_n hx hb dX8_comesBy_222 rfl (lv_at hl 2 rfl) ?_
                refine lv_iload_n hx hb dX8_comesBy_223 rfl (lv_at hl 4 rfl) ?_
                obtain ⟨r26, hcr26, h⟩ := bn_sp h
                have hPc := hP.sub (ws' := (ws_model cI cC cZ cR mo mo1 mo2 mo3 mo4 mo5 kn le_ s_ past slo isv pad_)) [0, 1, 2, 3, 4, 5] rfl
                have hDc := hD.sub (ws' := (ws_model cI cC cZ cR mo mo1 mo2 mo3 mo4 mo5 kn le_ s_ past slo isv pad_)) [0, 1, 2, 3, 4, 5] (by decide) rfl
                have hFc := va_free (wc := (ws_model cI cC cZ cR mo mo1 mo2 mo3 mo4 mo5 kn le_ s_ past slo isv pad_)) hD hS hA [0, 1, 2, 3, 4, 5] rfl
                refine va_calli (va_runV (As := [.int x2]) (rest := [.int r25, .ref mo]) ⟨hx, hb, hml, hown, hts⟩ (m_X8_numberAt l D cI cC cZ cR mo mo1 mo2 mo3 mo4 mo5 _ kn le_ s_ past slo isv pad_ x2   r26 hcr26) (cwV 1 hts gX8_comesBy_X8_numberAt rfl rfl rfl (by decide +kernel) ⟨Nat.le_of_ble_eq_true rfl, Nat.le_of_ble_eq_true rfl⟩) (cPc_pv hPc hK hDc (ci := 8) (q0 := 0) rfl rfl) rfl rfl hl.1 rfl (lv_room (Nat.le_of_ble_eq_true rfl)) dX8_comesBy_224 ⟨Nat.le_of_ble_eq_true rfl, Nat.le_of_ble_eq_true rfl⟩) hS (fun q _ h => hFc q h) hFc (fun xq u t H1 locs ht hvm hw hB hz1 hk1 hS => ?_)
                rw [hw]
                obtain ⟨hP1, hD1⟩ := hB
                rw [ht] at hP1
                obtain ⟨hP, hD⟩ := va_join (wr := []) (w1 := (ws_model cI cC cZ cR mo mo1 mo2 mo3 mo4 mo5 kn le_ s_ past slo isv pad_)) hP hD [0, 1, 2, 3, 4, 5] [] rfl rfl (by decide) (by decide) hk1 hFc hP1 hD1
                generalize H1 = H at hP hS ⊢
                have hP : va_P D vwCl (ws_model cI cC cZ cR mo mo1 mo2 mo3 mo4 mo5 kn le_ s_ past slo isv pad_) H := hP
                have hD : va_D A (ws_model cI cC cZ cR mo mo1 mo2 mo3 mo4 mo5 kn le_ s_ past slo isv pad_) := hD
                refine lv_aload_n hx hb dX8_comesBy_227 rfl (lv_at hl 2 rfl) ?_
                refine lv_iload_n hx hb dX8_comesBy_228 rfl (lv_at hl 5 rfl) ?_
                obtain ⟨r27, hcr27, h⟩ := bn_sp h
                have hPc := hP.sub (ws' := (ws_model cI cC cZ cR mo mo1 mo2 mo3 mo4 mo5 kn le_ s_ past slo isv pad_)) [0, 1, 2, 3, 4, 5] rfl
                have hDc := hD.sub (ws' := (ws_model cI cC cZ cR mo mo1 mo2 mo3 mo4 mo5 kn le_ s_ past slo isv pad_)) [0, 1, 2, 3, 4, 5] (by decide) rfl
                have hFc := va_free (wc := (ws_model cI cC cZ cR mo mo1 mo2 mo3 mo4 mo5 kn le_ s_ past slo isv pad_)) hD hS hA [0, 1, 2, 3, 4, 5] rfl
                refine va_calli (va_runV (As := [.int x4]) (rest := [.int r26, .int r25, .ref mo]) ⟨hx, hb, hml, hown, hts⟩ (m_X8_numberAt l D cI cC cZ cR mo mo1 mo2 mo3 mo4 mo5 _ kn le_ s_ past slo isv pad_ x4   r27 hcr27) (cwV 1 hts gX8_comesBy_X8_numberAt rfl rfl rfl (by decide +kernel) ⟨Nat.le_of_ble_eq_true rfl, Nat.le_of_ble_eq_true rfl⟩) (cPc_pv hPc hK hDc (ci := 8) (q0 := 0) rfl rfl) rfl rfl hl.1 rfl (lv_room (Nat.le_of_ble_eq_true rfl)) dX8_comesBy_229 ⟨Nat.le_of_ble_eq_true rfl, Nat.le_of_ble_eq_true rfl⟩) hS (fun q _ h => hFc q h) hFc (fun xq u t H1 locs ht hvm hw hB hz1 hk1 hS => ?_)
                rw [hw]
                obtain ⟨hP1, hD1⟩ := hB
                rw [ht] at hP1
                obtain ⟨hP, hD⟩ := va_join (wr := []) (w1 := (ws_model cI cC cZ cR mo mo1 mo2 mo3 mo4 mo5 kn le_ s_ past slo isv pad_)) hP hD [0, 1, 2, 3, 4, 5] [] rfl rfl (by decide) (by decide) hk1 hFc hP1 hD1
                generalize H1 = H at hP hS ⊢
                have hP : va_P D vwCl (ws_model cI cC cZ cR mo mo1 mo2 mo3 mo4 mo5 kn le_ s_ past slo isv pad_) H := hP
                have hD : va_D A (ws_model cI cC cZ cR mo mo1 mo2 mo3 mo4 mo5 kn le_ s_ past slo isv pad_) := hD
                refine lv_aload_n hx hb dX8_comesBy_232 rfl (lv_at hl 2 rfl) ?_
                refine lv_iload hx hb dX8_comesBy_233 (lv_at hl 6 rfl) ?_
                obtain ⟨r28, hcr28, h⟩ := bn_sp h
                have hPc := hP.sub (ws' := (ws_model cI cC cZ cR mo mo1 mo2 mo3 mo4 mo5 kn le_ s_ past slo isv pad_)) [0, 1, 2, 3, 4, 5] rfl
                have hDc := hD.sub (ws' := (ws_model cI cC cZ cR mo mo1 mo2 mo3 mo4 mo5 kn le_ s_ past slo isv pad_)) [0, 1, 2, 3, 4, 5] (by decide) rfl
                have hFc := va_free (wc := (ws_model cI cC cZ cR mo mo1 mo2 mo3 mo4 mo5 kn le_ s_ past slo isv pad_)) hD hS hA [0, 1, 2, 3, 4, 5] rfl
                refine va_calli (va_runV (As := [.int x6]) (rest := [.int r27, .int r26, .int r25, .ref mo]) ⟨hx, hb, hml, hown, hts⟩ (m_X8_numberAt l D cI cC cZ cR mo mo1 mo2 mo3 mo4 mo5 _ kn le_ s_ past slo isv pad_ x6   r28 hcr28) (cwV 1 hts gX8_comesBy_X8_numberAt rfl rfl rfl (by decide +kernel) ⟨Nat.le_of_ble_eq_true rfl, Nat.le_of_ble_eq_true rfl⟩) (cPc_pv hPc hK hDc (ci := 8) (q0 := 0) rfl rfl) rfl rfl hl.1 rfl (lv_room (Nat.le_of_ble_eq_true rfl)) dX8_comesBy_235 ⟨Nat.le_of_ble_eq_true rfl, Nat.le_of_ble_eq_true rfl⟩) hS (fun q _ h => hFc q h) hFc (fun xq u t H1 locs ht hvm hw hB hz1 hk1 hS => ?_)
                rw [hw]
                obtain ⟨hP1, hD1⟩ := hB
                rw [ht] at hP1
                obtain ⟨hP, hD⟩ := va_join (wr := []) (w1 := (ws_model cI cC cZ cR mo mo1 mo2 mo3 mo4 mo5 kn le_ s_ past slo isv pad_)) hP hD [0, 1, 2, 3, 4, 5] [] rfl rfl (by decide) (by decide) hk1 hFc hP1 hD1
                generalize H1 = H at hP hS ⊢
                have hP : va_P D vwCl (ws_model cI cC cZ cR mo mo1 mo2 mo3 mo4 mo5 kn le_ s_ past slo isv pad_) H := hP
                have hD : va_D A (ws_model cI cC cZ cR mo mo1 mo2 mo3 mo4 mo5 kn le_ s_ past slo isv pad_) := hD
                refine lv_aload_n hx hb dX8_comesBy_238 rfl (lv_at hl 2 rfl) ?_
                refine lv_iload hx hb dX8_comesBy_239 (lv_at hl 7 rfl) ?_
                obtain ⟨r29, hcr29, h⟩ := bn_sp h
                have hPc := hP.sub (ws' := (ws_model cI cC cZ cR mo mo1 mo2 mo3 mo4 mo5 kn le_ s_ past slo isv pad_)) [0, 1, 2, 3, 4, 5] rfl
                have hDc := hD.sub (ws' := (ws_model cI cC cZ cR mo mo1 mo2 mo3 mo4 mo5 kn le_ s_ past slo isv pad_)) [0, 1, 2, 3, 4, 5] (by decide) rfl
                have hFc := va_free (wc := (ws_model cI cC cZ cR mo mo1 mo2 mo3 mo4 mo5 kn le_ s_ past slo isv pad_)) hD hS hA [0, 1, 2, 3, 4, 5] rfl
                refine va_calli (va_runV (As := [.int x8]) (rest := [.int r28, .int r27, .int r26, .int r25, .ref mo]) ⟨hx, hb, hml, hown, hts⟩ (m_X8_digit l D cI cC cZ cR mo mo1 mo2 mo3 mo4 mo5 _ kn le_ s_ past slo isv pad_ x8   r29 hcr29) (cwV 1 hts gX8_comesBy_X8_digit rfl rfl rfl (by decide +kernel) ⟨Nat.le_of_ble_eq_true rfl, Nat.le_of_ble_eq_true rfl⟩) (cPc_pv hPc hK hDc (ci := 8) (q0 := 0) rfl rfl) rfl rfl hl.1 rfl (lv_room (Nat.le_of_ble_eq_true rfl)) dX8_comesBy_241 ⟨Nat.le_of_ble_eq_true rfl, Nat.le_of_ble_eq_true rfl⟩) hS (fun q _ h => hFc q h) hFc (fun xq u t H1 locs ht hvm hw hB hz1 hk1 hS => ?_)
                rw [hw]
                obtain ⟨hP1, hD1⟩ := hB
                rw [ht] at hP1
                obtain ⟨hP, hD⟩ := va_join (wr := []) (w1 := (ws_model cI cC cZ cR mo mo1 mo2 mo3 mo4 mo5 kn le_ s_ past slo isv pad_)) hP hD [0, 1, 2, 3, 4, 5] [] rfl rfl (by decide) (by decide) hk1 hFc hP1 hD1
                generalize H1 = H at hP hS ⊢
                have hP : va_P D vwCl (ws_model cI cC cZ cR mo mo1 mo2 mo3 mo4 mo5 kn le_ s_ past slo isv pad_) H := hP
                have hD : va_D A (ws_model cI cC cZ cR mo mo1 mo2 mo3 mo4 mo5 kn le_ s_ past slo isv pad_) := hD
                obtain ⟨r30, hcr30, h⟩ := bn_sp h
                have hPc := hP.sub (ws' := (ws_model cI cC cZ cR mo mo1 mo2 mo3 mo4 mo5 kn le_ s_ past slo isv pad_)) [0, 1, 2, 3, 4, 5] rfl
                have hDc := hD.sub (ws' := (ws_model cI cC cZ cR mo mo1 mo2 mo3 mo4 mo5 kn le_ s_ past slo isv pad_)) [0, 1, 2, 3, 4, 5] (by decide) rfl
                have hFc := va_free (wc := (ws_model cI cC cZ cR mo mo1 mo2 mo3 mo4 mo5 kn le_ s_ past slo isv pad_)) hD hS hA [0, 1, 2, 3, 4, 5] rfl
                refine va_calli (va_runV (As := [.int r25, .int r26, .int r27, .int r28, .int r29]) (rest := []) ⟨hx, hb, hml, hown, hts⟩ (m_X8_comes l D cI cC cZ cR mo mo1 mo2 mo3 mo4 mo5 _ kn le_ s_ past slo isv pad_ r25 r26 r27 r28 r29   r30 hcr30) (cwV 5 hts gX8_comesBy_X8_comes rfl rfl rfl (by decide +kernel) ⟨Nat.le_of_ble_eq_true rfl, Nat.le_of_ble_eq_true rfl⟩) (cPc_pv hPc hK hDc (ci := 8) (q0 := 0) rfl rfl) rfl rfl hl.1 rfl (lv_room (Nat.le_of_ble_eq_true rfl)) dX8_comesBy_244 ⟨Nat.le_of_ble_eq_true rfl, Nat.le_of_ble_eq_true rfl⟩) hS (fun q _ h => hFc q h) hFc (fun xq u t H1 locs ht hvm hw hB hz1 hk1 hS => ?_)
                rw [hw]
                obtain ⟨hP1, hD1⟩ := hB
                rw [ht] at hP1
                obtain ⟨hP, hD⟩ := va_join (wr := []) (w1 := (ws_model cI cC cZ cR mo mo1 mo2 mo3 mo4 mo5 kn le_ r30.2 past slo isv pad_)) hP hD [0, 1, 2, 3, 4, 5] [] rfl rfl (by decide) (by decide) hk1 hFc hP1 hD1
                generalize H1 = H at hP hS ⊢
                have hP : va_P D vwCl (ws_model cI cC cZ cR mo mo1 mo2 mo3 mo4 mo5 kn le_ r30.2 past slo isv pad_) H := hP
                have hD : va_D A (ws_model cI cC cZ cR mo mo1 mo2 mo3 mo4 mo5 kn le_ r30.2 past slo isv pad_) := hD
                refine lv_istore (lv' := [(10, .int r30.1), (9, .int r23), (8, .int j17), (0, .ref mo), (1, .int a0), (2, .int x2), (3, .int x4), (4, .int x6), (5, .int x8), (6, .int j15), (7, .int j13)]) hx hb dX8_comesBy_247 hl (by decide) rfl (fun ls hl => ?_)
                refine lv_aload_n hx hb dX8_comesBy_249 rfl (lv_at hl 3 rfl) ?_
                refine lv_iload hx hb dX8_comesBy_250 (lv_at hl 0 rfl) ?_
                refine lv_iload hx hb dX8_comesBy_252 (lv_at hl 10 rfl) ?_
                refine lv_iload hx hb dX8_comesBy_254 (lv_at hl 2 rfl) ?_
                obtain ⟨r31, hcr31, h⟩ := bn_sp h
                have hPc := hP.sub (ws' := (ws_model cI cC cZ cR mo mo1 mo2 mo3 mo4 mo5 kn le_ r30.2 past slo isv pad_)) [0, 1, 2, 3, 4, 5] rfl
                have hDc := hD.sub (ws' := (ws_model cI cC cZ cR mo mo1 mo2 mo3 mo4 mo5 kn le_ r30.2 past slo isv pad_)) [0, 1, 2, 3, 4, 5] (by decide) rfl
                have hFc := va_free (wc := (ws_model cI cC cZ cR mo mo1 mo2 mo3 mo4 mo5 kn le_ r30.2 past slo isv pad_)) hD hS hA [0, 1, 2, 3, 4, 5] rfl
                refine va_callv (va_runV (As := [.int r30.1, .int j13, .int j17]) (rest := []) ⟨hx, hb, hml, hown, hts⟩ (m_X8_anew l D cI cC cZ cR mo mo1 mo2 mo3 mo4 mo5 _ kn le_ r30.2 past slo isv pad_ r30.1 j13 j17   r31 hcr31) (cwV 3 hts gX8_comesBy_X8_anew rfl rfl rfl (by decide +kernel) ⟨Nat.le_of_ble_eq_true rfl, Nat.le_of_ble_eq_true rfl⟩) (cPc_pv hPc hK hDc (ci := 8) (q0 := 0) rfl rfl) rfl rfl hl.1 rfl (lv_room (Nat.le_of_ble_eq_true rfl)) dX8_comesBy_256 ⟨Nat.le_of_ble_eq_true rfl, Nat.le_of_ble_eq_true rfl⟩) hS (fun q _ h => hFc q h) hFc (fun u t H1 locs ht hvm hw hB hz1 hk1 hS => ?_)
                obtain ⟨hP1, hD1⟩ := hB
                rw [ht] at hP1
                obtain ⟨hP, hD⟩ := va_join (wr := []) (w1 := (ws_model cI cC cZ cR mo mo1 mo2 mo3 mo4 mo5 kn le_ r31 past slo isv pad_)) hP hD [0, 1, 2, 3, 4, 5] [] rfl rfl (by decide) (by decide) hk1 hFc hP1 hD1
                generalize H1 = H at hP hS ⊢
                have hP : va_P D vwCl (ws_model cI cC cZ cR mo mo1 mo2 mo3 mo4 mo5 kn le_ r31 past slo isv pad_) H := hP
                have hD : va_D A (ws_model cI cC cZ cR mo mo1 mo2 mo3 mo4 mo5 kn le_ r31 past slo isv pad_) := hD
                refine lv_iconst (v := 0) hx hb dX8_comesBy_259 (by decide) ?_
                have e9 := Option.some.inj h
                subst e9
                rw [hQ]
                exact W.iret (v := 0) hx hb hr (fun t ht hW => ⟨⟨0, (), rfl, rfl, by rw [ht]; exact hP, hD⟩, hS.F ht⟩) hS.2.2 dX8_comesBy_260
              · replace h := br_n c32 h
                refine lv_bipush (v := (-2)) hx hb dX8_comesBy_211 (by decide) ?_
                have e9 := Option.some.inj h
                subst e9
                rw [hQ]
                exact W.iret (v := (-2)) hx hb hr (fun t ht hW => ⟨⟨(-2), (), rfl, rfl, by rw [ht]; exact hP, hD⟩, hS.F ht⟩) hS.2.2 dX8_comesBy_213
          · replace h := br_n c34 h
            refine lv_iload hx hb dX8_comesBy_185 (lv_at hl 0 rfl) ?_
            have e9 := Option.some.inj h
            subst e9
            rw [hQ]
            exact W.iret (v := r23) hx hb hr (fun t ht hW => ⟨⟨r23, (), rfl, rfl, by rw [ht]; exact hP, hD⟩, hS.F ht⟩) hS.2.2 dX8_comesBy_187
        refine lv_icmp_ne (tgt := 142) hx hb dX8_comesBy_128 (by decide) (fun c36 => ?_) (fun c36 => ?_)
        · replace h := br_p c36 h
          refine lv_iconst (v := (-1)) hx hb dX8_comesBy_142 (by decide) ?_
          exact J143 _ _ _ _ h hP hD hS (lv_sub hl [1, 2, 3, 4, 5, 6, 0, 7] rfl)
        · replace h := br_n (not_not_intro c36) h
          refine lv_aload_n hx hb dX8_comesBy_131 rfl (lv_at hl 1 rfl) ?_
          refine lv_iload hx hb dX8_comesBy_132 (lv_at hl 0 rfl) ?_
          refine lv_iconst (v := 1) hx hb dX8_comesBy_134 (by decide) ?_
          refine lv_iadd hx hb dX8_comesBy_135 ?_
          obtain ⟨r35, hcr35, h⟩ := bn_sp h
          have hPc := hP.sub (ws' := (ws_model cI cC cZ cR mo mo1 mo2 mo3 mo4 mo5 kn le_ s_ past slo isv pad_)) [0, 1, 2, 3, 4, 5] rfl
          have hDc := hD.sub (ws' := (ws_model cI cC cZ cR mo mo1 mo2 mo3 mo4 mo5 kn le_ s_ past slo isv pad_)) [0, 1, 2, 3, 4, 5] (by decide) rfl
          have hFc := va_free (wc := (ws_model cI cC cZ cR mo mo1 mo2 mo3 mo4 mo5 kn le_ s_ past slo isv pad_)) hD hS hA [0, 1, 2, 3, 4, 5] rfl
          refine va_calli (va_runV (As := [.int (j15 + 1)]) (rest := []) ⟨hx, hb, hml, hown, hts⟩ (m_X8_digit l D cI cC cZ cR mo mo1 mo2 mo3 mo4 mo5 _ kn le_ s_ past slo isv pad_ (j15 + 1)   r35 hcr35) (cwV 1 hts gX8_comesBy_X8_digit rfl rfl rfl (by decide +kernel) ⟨Nat.le_of_ble_eq_true rfl, Nat.le_of_ble_eq_true rfl⟩) (cPc_pv hPc hK hDc (ci := 8) (q0 := 0) rfl rfl) rfl rfl hl.1 rfl (lv_room (Nat.le_of_ble_eq_true rfl)) dX8_comesBy_136 ⟨Nat.le_of_ble_eq_true rfl, Nat.le_of_ble_eq_true rfl⟩) hS (fun q _ h => hFc q h) hFc (fun xq u t H1 locs ht hvm hw hB hz1 hk1 hS => ?_)
          rw [hw]
          obtain ⟨hP1, hD1⟩ := hB
          rw [ht] at hP1
          obtain ⟨hP, hD⟩ := va_join (wr := []) (w1 := (ws_model cI cC cZ cR mo mo1 mo2 mo3 mo4 mo5 kn le_ s_ past slo isv pad_)) hP hD [0, 1, 2, 3, 4, 5] [] rfl rfl (by decide) (by decide) hk1 hFc hP1 hD1
          generalize H1 = H at hP hS ⊢
          have hP : va_P D vwCl (ws_model cI cC cZ cR mo mo1 mo2 mo3 mo4 mo5 kn le_ s_ past slo isv pad_) H := hP
          have hD : va_D A (ws_model cI cC cZ cR mo mo1 mo2 mo3 mo4 mo5 kn le_ s_ past slo isv pad_) := hD
          refine lv_goto (tgt := 143) hx hb dX8_comesBy_139 (by decide) ?_
          exact J143 _ _ _ _ h hP hD hS (lv_sub hl [1, 2, 3, 4, 5, 6, 0, 7] rfl)
      refine lv_if_eq (tgt := 116) hx hb dX8_comesBy_102 (by decide) (fun c38 => ?_) (fun c38 => ?_)
      · replace h := br_p c38 h
        refine lv_iload hx hb dX8_comesBy_116 (lv_at hl 7 rfl) ?_
        exact J118 _ _ _ _ h hP hD hS (lv_sub hl [1, 2, 3, 4, 5, 6, 7, 0] rfl)
      · replace h := br_n c38 h
        refine lv_aload_n hx hb dX8_comesBy_105 rfl (lv_at hl 1 rfl) ?_
        refine lv_iload hx hb dX8_comesBy_106 (lv_at hl 7 rfl) ?_
        refine lv_iconst (v := 1) hx hb dX8_comesBy_108 (by decide) ?_
        refine lv_iadd hx hb dX8_comesBy_109 ?_
        obtain ⟨r37, hcr37, h⟩ := bn_sp h
        have hPc := hP.sub (ws' := (ws_model cI cC cZ cR mo mo1 mo2 mo3 mo4 mo5 kn le_ s_ past slo isv pad_)) [0, 1, 2, 3, 4, 5] rfl
        have hDc := hD.sub (ws' := (ws_model cI cC cZ cR mo mo1 mo2 mo3 mo4 mo5 kn le_ s_ past slo isv pad_)) [0, 1, 2, 3, 4, 5] (by decide) rfl
        have hFc := va_free (wc := (ws_model cI cC cZ cR mo mo1 mo2 mo3 mo4 mo5 kn le_ s_ past slo isv pad_)) hD hS hA [0, 1, 2, 3, 4, 5] rfl
        refine va_calli (va_runV (As := [.int (x9 + 1)]) (rest := []) ⟨hx, hb, hml, hown, hts⟩ (m_X8_numberEnd l D cI cC cZ cR mo mo1 mo2 mo3 mo4 mo5 _ kn le_ s_ past slo isv pad_ (x9 + 1)   r37 hcr37) (cwV 1 hts gX8_comesBy_X8_numberEnd rfl rfl rfl (by decide +kernel) ⟨Nat.le_of_ble_eq_true rfl, Nat.le_of_ble_eq_true rfl⟩) (cPc_pv hPc hK hDc (ci := 8) (q0 := 0) rfl rfl) rfl rfl hl.1 rfl (lv_room (Nat.le_of_ble_eq_true rfl)) dX8_comesBy_110 ⟨Nat.le_of_ble_eq_true rfl, Nat.le_of_ble_eq_true rfl⟩) hS (fun q _ h => hFc q h) hFc (fun xq u t H1 locs ht hvm hw hB hz1 hk1 hS => ?_)
        rw [hw]
        obtain ⟨hP1, hD1⟩ := hB
        rw [ht] at hP1
        obtain ⟨hP, hD⟩ := va_join (wr := []) (w1 := (ws_model cI cC cZ cR mo mo1 mo2 mo3 mo4 mo5 kn le_ s_ past slo isv pad_)) hP hD [0, 1, 2, 3, 4, 5] [] rfl rfl (by decide) (by decide) hk1 hFc hP1 hD1
        generalize H1 = H at hP hS ⊢
        have hP : va_P D vwCl (ws_model cI cC cZ cR mo mo1 mo2 mo3 mo4 mo5 kn le_ s_ past slo isv pad_) H := hP
        have hD : va_D A (ws_model cI cC cZ cR mo mo1 mo2 mo3 mo4 mo5 kn le_ s_ past slo isv pad_) := hD
        refine lv_goto (tgt := 118) hx hb dX8_comesBy_113 (by decide) ?_
        exact J118 _ _ _ _ h hP hD hS (lv_sub hl [1, 2, 3, 4, 5, 6, 7, 0] rfl)
    refine lv_if_eq (tgt := 92) hx hb dX8_comesBy_72 (by decide) (fun c41 => ?_) (fun c41 => ?_)
    · replace h := br_p c41 h
      refine lv_iload hx hb dX8_comesBy_92 (lv_at hl 0 rfl) ?_
      exact J94 _ _ _ _ h hP hD hS (lv_sub hl [1, 2, 3, 4, 5, 6, 7, 0] rfl)
    · replace h := br_n c41 h
      refine lv_aload_n hx hb dX8_comesBy_75 rfl (lv_at hl 1 rfl) ?_
      refine lv_iload hx hb dX8_comesBy_76 (lv_at hl 7 rfl) ?_
      obtain ⟨r39, hcr39, h⟩ := bn_sp h
      have hPc := hP.sub (ws' := (ws_model cI cC cZ cR mo mo1 mo2 mo3 mo4 mo5 kn le_ s_ past slo isv pad_)) [0, 1, 2, 3, 4, 5] rfl
      have hDc := hD.sub (ws' := (ws_model cI cC cZ cR mo mo1 mo2 mo3 mo4 mo5 kn le_ s_ past slo isv pad_)) [0, 1, 2, 3, 4, 5] (by decide) rfl
      have hFc := va_free (wc := (ws_model cI cC cZ cR mo mo1 mo2 mo3 mo4 mo5 kn le_ s_ past slo isv pad_)) hD hS hA [0, 1, 2, 3, 4, 5] rfl
      refine va_calli (va_runV (As := [.int x9]) (rest := []) ⟨hx, hb, hml, hown, hts⟩ (m_X8_sign l D cI cC cZ cR mo mo1 mo2 mo3 mo4 mo5 _ kn le_ s_ past slo isv pad_ x9   r39 hcr39) (cwV 1 hts gX8_comesBy_X8_sign rfl rfl rfl (by decide +kernel) ⟨Nat.le_of_ble_eq_true rfl, Nat.le_of_ble_eq_true rfl⟩) (cPc_pv hPc hK hDc (ci := 8) (q0 := 0) rfl rfl) rfl rfl hl.1 rfl (lv_room (Nat.le_of_ble_eq_true rfl)) dX8_comesBy_78 ⟨Nat.le_of_ble_eq_true rfl, Nat.le_of_ble_eq_true rfl⟩) hS (fun q _ h => hFc q h) hFc (fun xq u t H1 locs ht hvm hw hB hz1 hk1 hS => ?_)
      rw [hw]
      obtain ⟨hP1, hD1⟩ := hB
      rw [ht] at hP1
      obtain ⟨hP, hD⟩ := va_join (wr := []) (w1 := (ws_model cI cC cZ cR mo mo1 mo2 mo3 mo4 mo5 kn le_ s_ past slo isv pad_)) hP hD [0, 1, 2, 3, 4, 5] [] rfl rfl (by decide) (by decide) hk1 hFc hP1 hD1
      generalize H1 = H at hP hS ⊢
      have hP : va_P D vwCl (ws_model cI cC cZ cR mo mo1 mo2 mo3 mo4 mo5 kn le_ s_ past slo isv pad_) H := hP
      have hD : va_D A (ws_model cI cC cZ cR mo mo1 mo2 mo3 mo4 mo5 kn le_ s_ past slo isv pad_) := hD
      refine lv_bipush (v := 45) hx hb dX8_comesBy_81 (by decide) ?_
      refine lv_icmp_ne (tgt := 92) hx hb dX8_comesBy_83 (by decide) (fun c40 => ?_) (fun c40 => ?_)
      · replace h := br_p c40 h
        refine lv_iload hx hb dX8_comesBy_92 (lv_at hl 0 rfl) ?_
        exact J94 _ _ _ _ h hP hD hS (lv_sub hl [1, 2, 3, 4, 5, 6, 7, 0] rfl)
      · replace h := br_n (not_not_intro c40) h
        refine lv_iload hx hb dX8_comesBy_86 (lv_at hl 0 rfl) ?_
        refine lv_ineg hx hb dX8_comesBy_88 ?_
        refine lv_goto (tgt := 94) hx hb dX8_comesBy_89 (by decide) ?_
        exact J94 _ _ _ _ h hP hD hS (lv_sub hl [1, 2, 3, 4, 5, 6, 7, 0] rfl)
  refine lv_if_eq (tgt := 63) hx hb dX8_comesBy_49 (by decide) (fun c43 => ?_) (fun c43 => ?_)
  · replace h := br_p c43 h
    refine lv_iconst (v := 0) hx hb dX8_comesBy_63 (by decide) ?_
    exact J64 _ _ _ _ h hP hD hS (lv_sub hl [5, 6, 4, 3, 2, 1, 0] rfl)
  · replace h := br_n c43 h
    refine lv_aload_n hx hb dX8_comesBy_52 rfl (lv_at hl 5 rfl) ?_
    refine lv_iload hx hb dX8_comesBy_53 (lv_at hl 0 rfl) ?_
    refine lv_iconst (v := 1) hx hb dX8_comesBy_55 (by decide) ?_
    refine lv_iadd hx hb dX8_comesBy_56 ?_
    obtain ⟨r42, hcr42, h⟩ := bn_sp h
    have hPc := hP.sub (ws' := (ws_model cI cC cZ cR mo mo1 mo2 mo3 mo4 mo5 kn le_ s_ past slo isv pad_)) [0, 1, 2, 3, 4, 5] rfl
    have hDc := hD.sub (ws' := (ws_model cI cC cZ cR mo mo1 mo2 mo3 mo4 mo5 kn le_ s_ past slo isv pad_)) [0, 1, 2, 3, 4, 5] (by decide) rfl
    have hFc := va_free (wc := (ws_model cI cC cZ cR mo mo1 mo2 mo3 mo4 mo5 kn le_ s_ past slo isv pad_)) hD hS hA [0, 1, 2, 3, 4, 5] rfl
    refine va_calli (va_runV (As := [.int (x9 + 1)]) (rest := []) ⟨hx, hb, hml, hown, hts⟩ (m_X8_numberAt l D cI cC cZ cR mo mo1 mo2 mo3 mo4 mo5 _ kn le_ s_ past slo isv pad_ (x9 + 1)   r42 hcr42) (cwV 1 hts gX8_comesBy_X8_numberAt rfl rfl rfl (by decide +kernel) ⟨Nat.le_of_ble_eq_true rfl, Nat.le_of_ble_eq_true rfl⟩) (cPc_pv hPc hK hDc (ci := 8) (q0 := 0) rfl rfl) rfl rfl hl.1 rfl (lv_room (Nat.le_of_ble_eq_true rfl)) dX8_comesBy_57 ⟨Nat.le_of_ble_eq_true rfl, Nat.le_of_ble_eq_true rfl⟩) hS (fun q _ h => hFc q h) hFc (fun xq u t H1 locs ht hvm hw hB hz1 hk1 hS => ?_)
    rw [hw]
    obtain ⟨hP1, hD1⟩ := hB
    rw [ht] at hP1
    obtain ⟨hP, hD⟩ := va_join (wr := []) (w1 := (ws_model cI cC cZ cR mo mo1 mo2 mo3 mo4 mo5 kn le_ s_ past slo isv pad_)) hP hD [0, 1, 2, 3, 4, 5] [] rfl rfl (by decide) (by decide) hk1 hFc hP1 hD1
    generalize H1 = H at hP hS ⊢
    have hP : va_P D vwCl (ws_model cI cC cZ cR mo mo1 mo2 mo3 mo4 mo5 kn le_ s_ past slo isv pad_) H := hP
    have hD : va_D A (ws_model cI cC cZ cR mo mo1 mo2 mo3 mo4 mo5 kn le_ s_ past slo isv pad_) := hD
    refine lv_goto (tgt := 64) hx hb dX8_comesBy_60 (by decide) ?_
    exact J64 _ _ _ _ h hP hD hS (lv_sub hl [5, 6, 4, 3, 2, 1, 0] rfl)
-- LeaningLinesModel.carries
abbrev OUT_X8_carries : Type := Int32 × (Nat → Int32)
def f_X8_carries (le_ : Int32) (s_ : Nat → Int32) (pad_ : Nat → Int32) (a0 : Int32) : Option OUT_X8_carries :=
  bn (f_X8_digit le_ pad_ (a0 + 1)) (fun r1 => jn (fun (j2 : Int32) => bn (f_X8_sign le_ pad_ a0) (fun r3 => (if r3 = 102 then bn (f_X8_numberEnd le_ pad_ (a0 + 1)) (fun r4 => bn (f_X8_numberAt le_ pad_ (r4 + 1)) (fun r5 => bn (f_X8_isFlash j2 r5) (fun r6 => jn (fun (j7 : Int32) => (if 0 ≤ j7 then bn (f_X8_flashes s_ j2 r5) (fun r8 => some ((j7, r8.2))) else some ((j7, s_)))) (fun j104 => (if r6 = 0 then j104 (-2) else j104 0))))) else (if r3 = 103 then bn (f_X8_comesBy le_ s_ pad_ a0) (fun r12 => some ((r12.1, r12.2))) else (if r3 = 119 then bn (f_X8_whyNotPass s_ j2) (fun r14 => gd 4 465 (jn (fun (j15 : Int32) => gd 4 465 (some ((r14, upd s_ (4 : Int32).toNatClampNeg ((s_ (4 : Int32).toNatClampNeg) + j15))))) (fun j146 => (if 0 ≤ r14 then j146 j2 else j146 0)))) else bn (f_X8_whyNotShoot s_) (fun r18 => (if 0 ≤ r18 then bn (f_X8_shoots s_) (fun r19 => some ((r18, r19.2))) else some ((r18, s_))))))))) (fun j21 => (if 0 ≤ r1 then bn (f_X8_numberAt le_ pad_ (a0 + 1)) (fun r21 => j21 r21) else j21 0)))
theorem uX8_carries_X8 : ∀ w ∈ wsX80, w ∈ wsX8_carries := by decide +kernel
theorem kX8_carries_1 : Cond.fieldLink RX8 7 "LeaningLinesModel" "s" "[I" ∈ wsX8_carries := by decide +kernel
abbrev R_X8_carries : Room := { frames := 6, cells := 0, slots := 0, locals := 144 }
set_option maxHeartbeats 4000000 in
set_option maxRecDepth 100000 in
theorem m_X8_carries (l : Launch) (D : va_G) (cI cC cZ cR : ClassId) (mo mo1 mo2 mo3 mo4 mo5 : Nat) (sz : Nat) (kn : Int32) (le_ : Int32) (s_ : Nat → Int32) (past : Nat → Int32) (slo : Nat → Int32) (isv : Nat → Int32) (pad_ : Nat → Int32)  (a0 : Int32)   (r : OUT_X8_carries) (hf : f_X8_carries le_ s_ pad_ a0 = some r) : Met l yX8_carries wsX8_carries R_X8_carries (cPc D cI cC cZ cR [.ref mo, .int a0] sz (ws_model cI cC cZ cR mo mo1 mo2 mo3 mo4 mo5 kn le_ s_ past slo isv pad_)) (cQi D (ws_model cI cC cZ cR mo mo1 mo2 mo3 mo4 mo5 kn le_ r.2 past slo isv pad_) (va_A (ws_model cI cC cZ cR mo mo1 mo2 mo3 mo4 mo5 kn le_ s_ past slo isv pad_) sz) r.1) 0 0 (va_A (ws_model cI cC cZ cR mo mo1 mo2 mo3 mo4 mo5 kn le_ s_ past slo isv pad_) sz) := by
  refine Met.ofW (cc := cX8_carries) (maxL := 6) (ret := (some .int)) (by decide) rfl ?_
  intro p e s m args below meth c s₁ B hml hv
  obtain ⟨rfl, hsz, hP, hK, hD0⟩ := hv
  have hx := B.exec
  have hb := B.bytes
  have hr := B.returns
  have hts := atoms_spec (ws := wsX8_carries) B.pre
  have hown : s.vm.findClass RX8 = some m.cls := findClass_of_methodNamed B.named
  have hlocks := B.notSynchronized
  subst hsz
  have hD := hD0.self (sz := s.heap.size)
  generalize hAe : va_A (ws_model cI cC cZ cR mo mo1 mo2 mo3 mo4 mo5 kn le_ s_ past slo isv pad_) s.heap.size = A at hD ⊢
  skip
  have hA : ∀ q : Nat, s.heap.size ≤ q → A q := fun q h => by rw [← hAe]; exact Or.inr h
  have hS : va_S A s.heap s.heap [] := va_S.rf
  have hl := lv_entry ([.ref mo, .int a0]) (n := 6) (Nat.le_of_ble_eq_true rfl)
  rw [lg_entry_eq]
  generalize (lg_sl ([.ref mo, .int a0]) ++ List.replicate (6 - (lg_sl ([.ref mo, .int a0])).length) Slot.unset).toArray = ls at hl ⊢
  have hl : lv_has ls 6 [(0, .ref mo), (1, .int a0)] := hl
  refine W_absQ (fun Q hQ => ?_)
  refine W.eq (g2 := F0 m 0 ls []) rfl ?_
  have h := hf
  unfold f_X8_carries at h
  refine lv_aload_n hx hb dX8_carries_0 rfl (lv_at hl 0 rfl) ?_
  refine lv_iload_n hx hb dX8_carries_1 rfl (lv_at hl 1 rfl) ?_
  refine lv_iconst (v := 1) hx hb dX8_carries_2 (by decide) ?_
  refine lv_iadd hx hb dX8_carries_3 ?_
  obtain ⟨r1, hcr1, h⟩ := bn_sp h
  have hPc := hP.sub (ws' := (ws_model cI cC cZ cR mo mo1 mo2 mo3 mo4 mo5 kn le_ s_ past slo isv pad_)) [0, 1, 2, 3, 4, 5] rfl
  have hDc := hD.sub (ws' := (ws_model cI cC cZ cR mo mo1 mo2 mo3 mo4 mo5 kn le_ s_ past slo isv pad_)) [0, 1, 2, 3, 4, 5] (by decide) rfl
  have hFc := va_free (wc := (ws_model cI cC cZ cR mo mo1 mo2 mo3 mo4 mo5 kn le_ s_ past slo isv pad_)) hD hS hA [0, 1, 2, 3, 4, 5] rfl
  refine va_calli (va_runV (As := [.int (a0 + 1)]) (rest := []) ⟨hx, hb, hml, hown, hts⟩ (m_X8_digit l D cI cC cZ cR mo mo1 mo2 mo3 mo4 mo5 _ kn le_ s_ past slo isv pad_ (a0 + 1)   r1 hcr1) (cwV 1 hts gX8_carries_X8_digit rfl rfl rfl (by decide +kernel) ⟨Nat.le_of_ble_eq_true rfl, Nat.le_of_ble_eq_true rfl⟩) (cPc_pv hPc hK hDc (ci := 8) (q0 := 0) rfl rfl) rfl rfl hl.1 rfl (lv_room (Nat.le_of_ble_eq_true rfl)) dX8_carries_4 ⟨Nat.le_of_ble_eq_true rfl, Nat.le_of_ble_eq_true rfl⟩) hS (fun q _ h => hFc q h) hFc (fun xq u t H1 locs ht hvm hw hB hz1 hk1 hS => ?_)
  rw [hw]
  obtain ⟨hP1, hD1⟩ := hB
  rw [ht] at hP1
  obtain ⟨hP, hD⟩ := va_join (wr := []) (w1 := (ws_model cI cC cZ cR mo mo1 mo2 mo3 mo4 mo5 kn le_ s_ past slo isv pad_)) hP hD [0, 1, 2, 3, 4, 5] [] rfl rfl (by decide) (by decide) hk1 hFc hP1 hD1
  generalize H1 = H at hP hS ⊢
  have hP : va_P D vwCl (ws_model cI cC cZ cR mo mo1 mo2 mo3 mo4 mo5 kn le_ s_ past slo isv pad_) H := hP
  have hD : va_D A (ws_model cI cC cZ cR mo mo1 mo2 mo3 mo4 mo5 kn le_ s_ past slo isv pad_) := hD
  obtain ⟨j21, hj21, h⟩ := jn_sp h
  have J21 : ∀ (j2 : Int32) (H : Heap) (locs : List Loc) (ls : Array Slot), j21 j2 = some r → va_P D vwCl (ws_model cI cC cZ cR mo mo1 mo2 mo3 mo4 mo5 kn le_ s_ past slo isv pad_) H → va_D A (ws_model cI cC cZ cR mo mo1 mo2 mo3 mo4 mo5 kn le_ s_ past slo isv pad_) → va_S A s.heap H locs → lv_has ls 6 [(0, .ref mo), (1, .int a0)] → W p l e R_X8_carries s m ([.ref mo, .int a0] : List Value).toArray below meth c H locs 0 0 Q (F0 m 21 ls [.int j2]) := by
    intro j2 H locs ls h hP hD hS hl
    rw [hj21] at h
    refine lv_istore_n (lv' := [(2, .int j2), (0, .ref mo), (1, .int a0)]) hx hb dX8_carries_21 rfl hl (by decide) rfl (fun ls hl => ?_)
    refine lv_iconst (v := 0) hx hb dX8_carries_22 (by decide) ?_
    refine lv_istore_n (lv' := [(3, .int 0), (2, .int j2), (0, .ref mo), (1, .int a0)]) hx hb dX8_carries_23 rfl hl (by decide) rfl (fun ls hl => ?_)
    refine lv_iconst (v := 0) hx hb dX8_carries_24 (by decide) ?_
    refine lv_istore (lv' := [(4, .int 0), (3, .int 0), (2, .int j2), (0, .ref mo), (1, .int a0)]) hx hb dX8_carries_25 hl (by decide) rfl (fun ls hl => ?_)
    refine lv_aload_n hx hb dX8_carries_27 rfl (lv_at hl 3 rfl) ?_
    refine lv_iload_n hx hb dX8_carries_28 rfl (lv_at hl 4 rfl) ?_
    obtain ⟨r3, hcr3, h⟩ := bn_sp h
    have hPc := hP.sub (ws' := (ws_model cI cC cZ cR mo mo1 mo2 mo3 mo4 mo5 kn le_ s_ past slo isv pad_)) [0, 1, 2, 3, 4, 5] rfl
    have hDc := hD.sub (ws' := (ws_model cI cC cZ cR mo mo1 mo2 mo3 mo4 mo5 kn le_ s_ past slo isv pad_)) [0, 1, 2, 3, 4, 5] (by decide) rfl
    have hFc := va_free (wc := (ws_model cI cC cZ cR mo mo1 mo2 mo3 mo4 mo5 kn le_ s_ past slo isv pad_)) hD hS hA [0, 1, 2, 3, 4, 5] rfl
    refine va_calli (va_runV (As := [.int a0]) (rest := []) ⟨hx, hb, hml, hown, hts⟩ (m_X8_sign l D cI cC cZ cR mo mo1 mo2 mo3 mo4 mo5 _ kn le_ s_ past slo isv pad_ a0   r3 hcr3) (cwV 1 hts gX8_carries_X8_sign rfl rfl rfl (by decide +kernel) ⟨Nat.le_of_ble_eq_true rfl, Nat.le_of_ble_eq_true rfl⟩) (cPc_pv hPc hK hDc (ci := 8) (q0 := 0) rfl rfl) rfl rfl hl.1 rfl (lv_room (Nat.le_of_ble_eq_true rfl)) dX8_carries_29 ⟨Nat.le_of_ble_eq_true rfl, Nat.le_of_ble_eq_true rfl⟩) hS (fun q _ h => hFc q h) hFc (fun xq u t H1 locs ht hvm hw hB hz1 hk1 hS => ?_)
    rw [hw]
    obtain ⟨hP1, hD1⟩ := hB
    rw [ht] at hP1
    obtain ⟨hP, hD⟩ := va_join (wr := []) (w1 := (ws_model cI cC cZ cR mo mo1 mo2 mo3 mo4 mo5 kn le_ s_ past slo isv pad_)) hP hD [0, 1, 2, 3, 4, 5] [] rfl rfl (by decide) (by decide) hk1 hFc hP1 hD1
    generalize H1 = H at hP hS ⊢
    have hP : va_P D vwCl (ws_model cI cC cZ cR mo mo1 mo2 mo3 mo4 mo5 kn le_ s_ past slo isv pad_) H := hP
    have hD : va_D A (ws_model cI cC cZ cR mo mo1 mo2 mo3 mo4 mo5 kn le_ s_ past slo isv pad_) := hD
    by_cases c11 : r3 = 102
    · replace h := br_p c11 h
      refine lv_lookup (tgt := 74) hx hb dX8_carries_32 (by decide) (by rw [c11]; all_goals rfl) (by decide) ?_
      refine lv_aload_n hx hb dX8_carries_74 rfl (lv_at hl 3 rfl) ?_
      refine lv_aload_n hx hb dX8_carries_75 rfl (lv_at hl 3 rfl) ?_
      refine lv_iload_n hx hb dX8_carries_76 rfl (lv_at hl 4 rfl) ?_
      refine lv_iconst (v := 1) hx hb dX8_carries_77 (by decide) ?_
      refine lv_iadd hx hb dX8_carries_78 ?_
      obtain ⟨r4, hcr4, h⟩ := bn_sp h
      have hPc := hP.sub (ws' := (ws_model cI cC cZ cR mo mo1 mo2 mo3 mo4 mo5 kn le_ s_ past slo isv pad_)) [0, 1, 2, 3, 4, 5] rfl
      have hDc := hD.sub (ws' := (ws_model cI cC cZ cR mo mo1 mo2 mo3 mo4 mo5 kn le_ s_ past slo isv pad_)) [0, 1, 2, 3, 4, 5] (by decide) rfl
      have hFc := va_free (wc := (ws_model cI cC cZ cR mo mo1 mo2 mo3 mo4 mo5 kn le_ s_ past slo isv pad_)) hD hS hA [0, 1, 2, 3, 4, 5] rfl
      refine va_calli (va_runV (As := [.int (a0 + 1)]) (rest := [.ref mo]) ⟨hx, hb, hml, hown, hts⟩ (m_X8_numberEnd l D cI cC cZ cR mo mo1 mo2 mo3 mo4 mo5 _ kn le_ s_ past slo isv pad_ (a0 + 1)   r4 hcr4) (cwV 1 hts gX8_carries_X8_numberEnd rfl rfl rfl (by decide +kernel) ⟨Nat.le_of_ble_eq_true rfl, Nat.le_of_ble_eq_true rfl⟩) (cPc_pv hPc hK hDc (ci := 8) (q0 := 0) rfl rfl) rfl rfl hl.1 rfl (lv_room (Nat.le_of_ble_eq_true rfl)) dX8_carries_79 ⟨Nat.le_of_ble_eq_true rfl, Nat.le_of_ble_eq_true rfl⟩) hS (fun q _ h => hFc q h) hFc (fun xq u t H1 locs ht hvm hw hB hz1 hk1 hS => ?_)
      rw [hw]
      obtain ⟨hP1, hD1⟩ := hB
      rw [ht] at hP1
      obtain ⟨hP, hD⟩ := va_join (wr := []) (w1 := (ws_model cI cC cZ cR mo mo1 mo2 mo3 mo4 mo5 kn le_ s_ past slo isv pad_)) hP hD [0, 1, 2, 3, 4, 5] [] rfl rfl (by decide) (by decide) hk1 hFc hP1 hD1
      generalize H1 = H at hP hS ⊢
      have hP : va_P D vwCl (ws_model cI cC cZ cR mo mo1 mo2 mo3 mo4 mo5 kn le_ s_ past slo isv pad_) H := hP
      have hD : va_D A (ws_model cI cC cZ cR mo mo1 mo2 mo3 mo4 mo5 kn le_ s_ past slo isv pad_) := hD
      refine lv_iconst (v := 1) hx hb dX8_carries_82 (by decide) ?_
      refine lv_iadd hx hb dX8_carries_83 ?_
      obtain ⟨r5, hcr5, h⟩ := bn_sp h
      have hPc := hP.sub (ws' := (ws_model cI cC cZ cR mo mo1 mo2 mo3 mo4 mo5 kn le_ s_ past slo isv pad_)) [0, 1, 2, 3, 4, 5] rfl
      have hDc := hD.sub (ws' := (ws_model cI cC cZ cR mo mo1 mo2 mo3 mo4 mo5 kn le_ s_ past slo isv pad_)) [0, 1, 2, 3, 4, 5] (by decide) rfl
      have hFc := va_free (wc := (ws_model cI cC cZ cR mo mo1 mo2 mo3 mo4 mo5 kn le_ s_ past slo isv pad_)) hD hS hA [0, 1, 2, 3, 4, 5] rfl
      refine va_calli (va_runV (As := [.int (r4 + 1)]) (rest := []) ⟨hx, hb, hml, hown, hts⟩ (m_X8_numberAt l D cI cC cZ cR mo mo1 mo2 mo3 mo4 mo5 _ kn le_ s_ past slo isv pad_ (r4 + 1)   r5 hcr5) (cwV 1 hts gX8_carries_X8_numberAt rfl rfl rfl (by decide +kernel) ⟨Nat.le_of_ble_eq_true rfl, Nat.le_of_ble_eq_true rfl⟩) (cPc_pv hPc hK hDc (ci := 8) (q0 := 0) rfl rfl) rfl rfl hl.1 rfl (lv_room (Nat.le_of_ble_eq_true rfl)) dX8_carries_84 ⟨Nat.le_of_ble_eq_true rfl, Nat.le_of_ble_eq_true rfl⟩) hS (fun q _ h => hFc q h) hFc (fun xq u t H1 locs ht hvm hw hB hz1 hk1 hS => ?_)
      rw [hw]
      obtain ⟨hP1, hD1⟩ := hB
      rw [ht] at hP1
      obtain ⟨hP, hD⟩ := va_join (wr := []) (w1 := (ws_model cI cC cZ cR mo mo1 mo2 mo3 mo4 mo5 kn le_ s_ past slo isv pad_)) hP hD [0, 1, 2, 3, 4, 5] [] rfl rfl (by decide) (by decide) hk1 hFc hP1 hD1
      generalize H1 = H at hP hS ⊢
      have hP : va_P D vwCl (ws_model cI cC cZ cR mo mo1 mo2 mo3 mo4 mo5 kn le_ s_ past slo isv pad_) H := hP
      have hD : va_D A (ws_model cI cC cZ cR mo mo1 mo2 mo3 mo4 mo5 kn le_ s_ past slo isv pad_) := hD
      refine lv_istore (lv' := [(5, .int r5), (4, .int 0), (3, .int 0), (2, .int j2), (0, .ref mo), (1, .int a0)]) hx hb dX8_carries_87 hl (by decide) rfl (fun ls hl => ?_)
      refine lv_iload_n hx hb dX8_carries_89 rfl (lv_at hl 3 rfl) ?_
      refine lv_iload hx hb dX8_carries_90 (lv_at hl 0 rfl) ?_
      obtain ⟨r6, hcr6, h⟩ := bn_sp h
      have hPc := hP.sub (ws' := []) [] rfl
      have hDc := hD.sub (ws' := []) [] (by decide) rfl
      have hFc := va_free (wc := []) hD hS hA [] rfl
      refine va_calli (va_runS (As := [.int j2, .int r5]) (rest := []) ⟨hx, hb, hml, hown, hts⟩ (m_X8_isFlash l D cI cC cZ cR  _  j2 r5   r6 hcr6) (va_cwS 2 hts gX8_carries_X8_isFlash rfl rfl rfl (by decide +kernel) ⟨Nat.le_of_ble_eq_true rfl, Nat.le_of_ble_eq_true rfl⟩) (cPc_ps hPc hK hDc) rfl rfl hl.1 rfl (lv_room (Nat.le_of_ble_eq_true rfl)) dX8_carries_92 ⟨Nat.le_of_ble_eq_true rfl, Nat.le_of_ble_eq_true rfl⟩) hS (fun q _ h => hFc q h) hFc (fun xq u t H1 locs ht hvm hw hB hz1 hk1 hS => ?_)
      rw [hw]
      obtain ⟨hP1, hD1⟩ := hB
      rw [ht] at hP1
      obtain ⟨hP, hD⟩ := va_join (wr := [(mo, .inr (8, [.ref mo1, .ref mo2, .int kn, .ref mo3, .ref mo4, .ref mo5, .int le_])), (mo1, .inl (cI, 465, .inl s_)), (mo2, .inl (cI, 2790, .inl past)), (mo3, .inl (cI, 930, .inl slo)), (mo4, .inl (cZ, 2, .inl isv)), (mo5, .inl (cI, 80, .inl pad_))]) (w1 := []) hP hD [] [0, 1, 2, 3, 4, 5] rfl rfl (by decide) (by decide) hk1 hFc hP1 hD1
      generalize H1 = H at hP hS ⊢
      have hP : va_P D vwCl (ws_model cI cC cZ cR mo mo1 mo2 mo3 mo4 mo5 kn le_ s_ past slo isv pad_) H := hP
      have hD : va_D A (ws_model cI cC cZ cR mo mo1 mo2 mo3 mo4 mo5 kn le_ s_ past slo isv pad_) := hD
      obtain ⟨j104, hj104, h⟩ := jn_sp h
      have J104 : ∀ (j7 : Int32) (H : Heap) (locs : List Loc) (ls : Array Slot), j104 j7 = some r → va_P D vwCl (ws_model cI cC cZ cR mo mo1 mo2 mo3 mo4 mo5 kn le_ s_ past slo isv pad_) H → va_D A (ws_model cI cC cZ cR mo mo1 mo2 mo3 mo4 mo5 kn le_ s_ past slo isv pad_) → va_S A s.heap H locs → lv_has ls 6 [(0, .ref mo), (1, .int a0), (2, .int j2), (3, .int 0), (4, .int 0), (5, .int r5)] → W p l e R_X8_carries s m ([.ref mo, .int a0] : List Value).toArray below meth c H locs 0 0 Q (F0 m 104 ls [.int j7]) := by
        intro j7 H locs ls h hP hD hS hl
        rw [hj104] at h
        refine lv_istore_n (lv' := [(3, .int j7), (0, .ref mo), (1, .int a0), (2, .int j2), (4, .int 0), (5, .int r5)]) hx hb dX8_carries_104 rfl hl (by decide) rfl (fun ls hl => ?_)
        refine lv_iload_n hx hb dX8_carries_105 rfl (lv_at hl 0 rfl) ?_
        refine lv_if_ge (tgt := 113) hx hb dX8_carries_106 (by decide) (fun c9 => ?_) (fun c9 => ?_)
        · replace h := br_p c9 h
          refine lv_aload_n hx hb dX8_carries_113 rfl (lv_at hl 1 rfl) ?_
          refine lv_iload_n hx hb dX8_carries_114 rfl (lv_at hl 3 rfl) ?_
          refine lv_iload hx hb dX8_carries_115 (lv_at hl 5 rfl) ?_
          obtain ⟨r8, hcr8, h⟩ := bn_sp h
          have hPc := hP.sub (ws' := (ws_model cI cC cZ cR mo mo1 mo2 mo3 mo4 mo5 kn le_ s_ past slo isv pad_)) [0, 1, 2, 3, 4, 5] rfl
          have hDc := hD.sub (ws' := (ws_model cI cC cZ cR mo mo1 mo2 mo3 mo4 mo5 kn le_ s_ past slo isv pad_)) [0, 1, 2, 3, 4, 5] (by decide) rfl
          have hFc := va_free (wc := (ws_model cI cC cZ cR mo mo1 mo2 mo3 mo4 mo5 kn le_ s_ past slo isv pad_)) hD hS hA [0, 1, 2, 3, 4, 5] rfl
          refine va_calli (va_runV (As := [.int j2, .int r5]) (rest := []) ⟨hx, hb, hml, hown, hts⟩ (m_X8_flashes l D cI cC cZ cR mo mo1 mo2 mo3 mo4 mo5 _ kn le_ s_ past slo isv pad_ j2 r5   r8 hcr8) (cwV 2 hts gX8_carries_X8_flashes rfl rfl rfl (by decide +kernel) ⟨Nat.le_of_ble_eq_true rfl, Nat.le_of_ble_eq_true rfl⟩) (cPc_pv hPc hK hDc (ci := 8) (q0 := 0) rfl rfl) rfl rfl hl.1 rfl (lv_room (Nat.le_of_ble_eq_true rfl)) dX8_carries_117 ⟨Nat.le_of_ble_eq_true rfl, Nat.le_of_ble_eq_true rfl⟩) hS (fun q _ h => hFc q h) hFc (fun xq u t H1 locs ht hvm hw hB hz1 hk1 hS => ?_)
          rw [hw]
          obtain ⟨hP1, hD1⟩ := hB
          rw [ht] at hP1
          obtain ⟨hP, hD⟩ := va_join (wr := []) (w1 := (ws_model cI cC cZ cR mo mo1 mo2 mo3 mo4 mo5 kn le_ r8.2 past slo isv pad_)) hP hD [0, 1, 2, 3, 4, 5] [] rfl rfl (by decide) (by decide) hk1 hFc hP1 hD1
          generalize H1 = H at hP hS ⊢
          have hP : va_P D vwCl (ws_model cI cC cZ cR mo mo1 mo2 mo3 mo4 mo5 kn le_ r8.2 past slo isv pad_) H := hP
          have hD : va_D A (ws_model cI cC cZ cR mo mo1 mo2 mo3 mo4 mo5 kn le_ r8.2 past slo isv pad_) := hD
          refine lv_istore (lv' := [(4, .int r8.1), (3, .int j7), (0, .ref mo), (1, .int a0), (2, .int j2), (5, .int r5)]) hx hb dX8_carries_120 hl (by decide) rfl (fun ls hl => ?_)
          refine lv_iload_n hx hb dX8_carries_122 rfl (lv_at hl 1 rfl) ?_
          have e9 := Option.some.inj h
          subst e9
          rw [hQ]
          exact W.iret (v := j7) hx hb hr (fun t ht hW => ⟨⟨j7, (), rfl, rfl, by rw [ht]; exact hP, hD⟩, hS.F ht⟩) hS.2.2 dX8_carries_123
        · replace h := br_n c9 h
          refine lv_iconst (v := 0) hx hb dX8_carries_109 (by decide) ?_
          refine lv_goto (tgt := 120) hx hb dX8_carries_110 (by decide) ?_
          refine lv_istore (lv' := [(4, .int 0), (3, .int j7), (0, .ref mo), (1, .int a0), (2, .int j2), (5, .int r5)]) hx hb dX8_carries_120 hl (by decide) rfl (fun ls hl => ?_)
          refine lv_iload_n hx hb dX8_carries_122 rfl (lv_at hl 1 rfl) ?_
          have e9 := Option.some.inj h
          subst e9
          rw [hQ]
          exact W.iret (v := j7) hx hb hr (fun t ht hW => ⟨⟨j7, (), rfl, rfl, by rw [ht]; exact hP, hD⟩, hS.F ht⟩) hS.2.2 dX8_carries_123
      refine lv_if_eq (tgt := 102) hx hb dX8_carries_95 (by decide) (fun c10 => ?_) (fun c10 => ?_)
      · replace h := br_p c10 h
        refine lv_bipush (v := (-2)) hx hb dX8_carries_102 (by decide) ?_
        exact J104 _ _ _ _ h hP hD hS (lv_sub hl [4, 5, 3, 2, 1, 0] rfl)
      · replace h := br_n c10 h
        refine lv_iconst (v := 0) hx hb dX8_carries_98 (by decide) ?_
        refine lv_goto (tgt := 104) hx hb dX8_carries_99 (by decide) ?_
        exact J104 _ _ _ _ h hP hD hS (lv_sub hl [4, 5, 3, 2, 1, 0] rfl)
    · replace h := br_n c11 h
      by_cases c13 : r3 = 103
      · replace h := br_p c13 h
        refine lv_lookup (tgt := 68) hx hb dX8_carries_32 (by decide) (by rw [c13]; all_goals rfl) (by decide) ?_
        refine lv_aload_n hx hb dX8_carries_68 rfl (lv_at hl 3 rfl) ?_
        refine lv_iload_n hx hb dX8_carries_69 rfl (lv_at hl 4 rfl) ?_
        obtain ⟨r12, hcr12, h⟩ := bn_sp h
        have hPc := hP.sub (ws' := (ws_model cI cC cZ cR mo mo1 mo2 mo3 mo4 mo5 kn le_ s_ past slo isv pad_)) [0, 1, 2, 3, 4, 5] rfl
        have hDc := hD.sub (ws' := (ws_model cI cC cZ cR mo mo1 mo2 mo3 mo4 mo5 kn le_ s_ past slo isv pad_)) [0, 1, 2, 3, 4, 5] (by decide) rfl
        have hFc := va_free (wc := (ws_model cI cC cZ cR mo mo1 mo2 mo3 mo4 mo5 kn le_ s_ past slo isv pad_)) hD hS hA [0, 1, 2, 3, 4, 5] rfl
        refine va_calli (va_runV (As := [.int a0]) (rest := []) ⟨hx, hb, hml, hown, hts⟩ (m_X8_comesBy l D cI cC cZ cR mo mo1 mo2 mo3 mo4 mo5 _ kn le_ s_ past slo isv pad_ a0   r12 hcr12) (cwV 1 hts gX8_carries_X8_comesBy rfl rfl rfl (by decide +kernel) ⟨Nat.le_of_ble_eq_true rfl, Nat.le_of_ble_eq_true rfl⟩) (cPc_pv hPc hK hDc (ci := 8) (q0 := 0) rfl rfl) rfl rfl hl.1 rfl (lv_room (Nat.le_of_ble_eq_true rfl)) dX8_carries_70 ⟨Nat.le_of_ble_eq_true rfl, Nat.le_of_ble_eq_true rfl⟩) hS (fun q _ h => hFc q h) hFc (fun xq u t H1 locs ht hvm hw hB hz1 hk1 hS => ?_)
        rw [hw]
        obtain ⟨hP1, hD1⟩ := hB
        rw [ht] at hP1
        obtain ⟨hP, hD⟩ := va_join (wr := []) (w1 := (ws_model cI cC cZ cR mo mo1 mo2 mo3 mo4 mo5 kn le_ r12.2 past slo isv pad_)) hP hD [0, 1, 2, 3, 4, 5] [] rfl rfl (by decide) (by decide) hk1 hFc hP1 hD1
        generalize H1 = H at hP hS ⊢
        have hP : va_P D vwCl (ws_model cI cC cZ cR mo mo1 mo2 mo3 mo4 mo5 kn le_ r12.2 past slo isv pad_) H := hP
        have hD : va_D A (ws_model cI cC cZ cR mo mo1 mo2 mo3 mo4 mo5 kn le_ r12.2 past slo isv pad_) := hD
        have e9 := Option.some.inj h
        subst e9
        rw [hQ]
        exact W.iret (v := r12.1) hx hb hr (fun t ht hW => ⟨⟨r12.1, (), rfl, rfl, by rw [ht]; exact hP, hD⟩, hS.F ht⟩) hS.2.2 dX8_carries_73
      · replace h := br_n c13 h
        by_cases c17 : r3 = 119
        · replace h := br_p c17 h
          refine lv_lookup (tgt := 124) hx hb dX8_carries_32 (by decide) (by rw [c17]; all_goals rfl) (by decide) ?_
          refine lv_aload_n hx hb dX8_carries_124 rfl (lv_at hl 3 rfl) ?_
          refine lv_iload_n hx hb dX8_carries_125 rfl (lv_at hl 2 rfl) ?_
          obtain ⟨r14, hcr14, h⟩ := bn_sp h
          have hPc := hP.sub (ws' := (ws_model cI cC cZ cR mo mo1 mo2 mo3 mo4 mo5 kn le_ s_ past slo isv pad_)) [0, 1, 2, 3, 4, 5] rfl
          have hDc := hD.sub (ws' := (ws_model cI cC cZ cR mo mo1 mo2 mo3 mo4 mo5 kn le_ s_ past slo isv pad_)) [0, 1, 2, 3, 4, 5] (by decide) rfl
          have hFc := va_free (wc := (ws_model cI cC cZ cR mo mo1 mo2 mo3 mo4 mo5 kn le_ s_ past slo isv pad_)) hD hS hA [0, 1, 2, 3, 4, 5] rfl
          refine va_calli (va_runV (As := [.int j2]) (rest := []) ⟨hx, hb, hml, hown, hts⟩ (m_X8_whyNotPass l D cI cC cZ cR mo mo1 mo2 mo3 mo4 mo5 _ kn le_ s_ past slo isv pad_ j2   r14 hcr14) (cwV 1 hts gX8_carries_X8_whyNotPass rfl rfl rfl (by decide +kernel) ⟨Nat.le_of_ble_eq_true rfl, Nat.le_of_ble_eq_true rfl⟩) (cPc_pv hPc hK hDc (ci := 8) (q0 := 0) rfl rfl) rfl rfl hl.1 rfl (lv_room (Nat.le_of_ble_eq_true rfl)) dX8_carries_126 ⟨Nat.le_of_ble_eq_true rfl, Nat.le_of_ble_eq_true rfl⟩) hS (fun q _ h => hFc q h) hFc (fun xq u t H1 locs ht hvm hw hB hz1 hk1 hS => ?_)
          rw [hw]
          obtain ⟨hP1, hD1⟩ := hB
          rw [ht] at hP1
          obtain ⟨hP, hD⟩ := va_join (wr := []) (w1 := (ws_model cI cC cZ cR mo mo1 mo2 mo3 mo4 mo5 kn le_ s_ past slo isv pad_)) hP hD [0, 1, 2, 3, 4, 5] [] rfl rfl (by decide) (by decide) hk1 hFc hP1 hD1
          generalize H1 = H at hP hS ⊢
          have hP : va_P D vwCl (ws_model cI cC cZ cR mo mo1 mo2 mo3 mo4 mo5 kn le_ s_ past slo isv pad_) H := hP
          have hD : va_D A (ws_model cI cC cZ cR mo mo1 mo2 mo3 mo4 mo5 kn le_ s_ past slo isv pad_) := hD
          refine lv_istore_n (lv' := [(3, .int r14), (4, .int 0), (2, .int j2), (0, .ref mo), (1, .int a0)]) hx hb dX8_carries_129 rfl hl (by decide) rfl (fun ls hl => ?_)
          refine lv_aload_n hx hb dX8_carries_130 rfl (lv_at hl 3 rfl) ?_
          refine va_get (D := D) (ci := 8) (v := .ref mo1) (C := RX8) (T := TX8) (N := 7) hx hb hts uX8_carries_X8 hown hK.1 hP 0 rfl rfl 0 (by decide) (hts _ kX8_carries_1) (fun _ h9 => h9) rfl dX8_carries_131 ?_
          refine lv_iconst (v := 4) hx hb dX8_carries_134 (by decide) ?_
          refine lv_dup2_11 hx hb dX8_carries_135 rfl rfl ?_
          obtain ⟨hin, h⟩ := gd_sp h
          refine va_iald (D := D) hx hb hK.1 hP 1 0 rfl rfl hin dX8_carries_136 ?_
          refine lv_iload_n hx hb dX8_carries_137 rfl (lv_at hl 0 rfl) ?_
          obtain ⟨j146, hj146, h⟩ := jn_sp h
          have J146 : ∀ (j15 : Int32) (H : Heap) (locs : List Loc) (ls : Array Slot), j146 j15 = some r → va_P D vwCl (ws_model cI cC cZ cR mo mo1 mo2 mo3 mo4 mo5 kn le_ s_ past slo isv pad_) H → va_D A (ws_model cI cC cZ cR mo mo1 mo2 mo3 mo4 mo5 kn le_ s_ past slo isv pad_) → va_S A s.heap H locs → lv_has ls 6 [(0, .ref mo), (1, .int a0), (2, .int j2), (3, .int r14), (4, .int 0)] → W p l e R_X8_carries s m ([.ref mo, .int a0] : List Value).toArray below meth c H locs 0 0 Q (F0 m 146 ls [.int j15, .int (s_ (4 : Int32).toNatClampNeg), .int 4, .ref mo1]) := by
            intro j15 H locs ls h hP hD hS hl
            rw [hj146] at h
            refine lv_iadd hx hb dX8_carries_146 ?_
            obtain ⟨hin, h⟩ := gd_sp h
            refine va_iast (D := D) hx hb hK.1 hP hD hS 1 0 rfl rfl hin dX8_carries_147 (fun H locs hP hD hS => ?_)
            have hP : va_P D vwCl (ws_model cI cC cZ cR mo mo1 mo2 mo3 mo4 mo5 kn le_ (upd s_ (4 : Int32).toNatClampNeg ((s_ (4 : Int32).toNatClampNeg) + j15)) past slo isv pad_) H := hP
            have hD : va_D A (ws_model cI cC cZ cR mo mo1 mo2 mo3 mo4 mo5 kn le_ (upd s_ (4 : Int32).toNatClampNeg ((s_ (4 : Int32).toNatClampNeg) + j15)) past slo isv pad_) := hD
            refine lv_iload_n hx hb dX8_carries_148 rfl (lv_at hl 3 rfl) ?_
            have e9 := Option.some.inj h
            subst e9
            rw [hQ]
            exact W.iret (v := r14) hx hb hr (fun t ht hW => ⟨⟨r14, (), rfl, rfl, by rw [ht]; exact hP, hD⟩, hS.F ht⟩) hS.2.2 dX8_carries_149
          refine lv_if_ge (tgt := 145) hx hb dX8_carries_138 (by decide) (fun c16 => ?_) (fun c16 => ?_)
          · replace h := br_p c16 h
            refine lv_iload_n hx hb dX8_carries_145 rfl (lv_at hl 2 rfl) ?_
            exact J146 _ _ _ _ h hP hD hS (lv_sub hl [3, 4, 2, 0, 1] rfl)
          · replace h := br_n c16 h
            refine lv_iconst (v := 0) hx hb dX8_carries_141 (by decide) ?_
            refine lv_goto (tgt := 146) hx hb dX8_carries_142 (by decide) ?_
            exact J146 _ _ _ _ h hP hD hS (lv_sub hl [3, 4, 2, 0, 1] rfl)
        · replace h := br_n c17 h
          refine lv_lookup (tgt := 150) (off := 118) hx hb dX8_carries_32 (by decide) (by have z0 : ¬ (102 : Int) = r3.toInt := fun e => c11 (Int32.toInt_inj.mp (e.symm.trans (by decide))); have z1 : ¬ (103 : Int) = r3.toInt := fun e => c13 (Int32.toInt_inj.mp (e.symm.trans (by decide))); have z2 : ¬ (119 : Int) = r3.toInt := fun e => c17 (Int32.toInt_inj.mp (e.symm.trans (by decide))); simp [Op.lookupswitch.offset, z0, z1, z2]) (by decide) ?_
          refine lv_aload_n hx hb dX8_carries_150 rfl (lv_at hl 3 rfl) ?_
          obtain ⟨r18, hcr18, h⟩ := bn_sp h
          have hPc := hP.sub (ws' := (ws_model cI cC cZ cR mo mo1 mo2 mo3 mo4 mo5 kn le_ s_ past slo isv pad_)) [0, 1, 2, 3, 4, 5] rfl
          have hDc := hD.sub (ws' := (ws_model cI cC cZ cR mo mo1 mo2 mo3 mo4 mo5 kn le_ s_ past slo isv pad_)) [0, 1, 2, 3, 4, 5] (by decide) rfl
          have hFc := va_free (wc := (ws_model cI cC cZ cR mo mo1 mo2 mo3 mo4 mo5 kn le_ s_ past slo isv pad_)) hD hS hA [0, 1, 2, 3, 4, 5] rfl
          refine va_calli (va_runV (As := []) (rest := []) ⟨hx, hb, hml, hown, hts⟩ (m_X8_whyNotShoot l D cI cC cZ cR mo mo1 mo2 mo3 mo4 mo5 _ kn le_ s_ past slo isv pad_    r18 hcr18) (cwV 0 hts gX8_carries_X8_whyNotShoot rfl rfl rfl (by decide +kernel) ⟨Nat.le_of_ble_eq_true rfl, Nat.le_of_ble_eq_true rfl⟩) (cPc_pv hPc hK hDc (ci := 8) (q0 := 0) rfl rfl) rfl rfl hl.1 rfl (lv_room (Nat.le_of_ble_eq_true rfl)) dX8_carries_151 ⟨Nat.le_of_ble_eq_true rfl, Nat.le_of_ble_eq_true rfl⟩) hS (fun q _ h => hFc q h) hFc (fun xq u t H1 locs ht hvm hw hB hz1 hk1 hS => ?_)
          rw [hw]
          obtain ⟨hP1, hD1⟩ := hB
          rw [ht] at hP1
          obtain ⟨hP, hD⟩ := va_join (wr := []) (w1 := (ws_model cI cC cZ cR mo mo1 mo2 mo3 mo4 mo5 kn le_ s_ past slo isv pad_)) hP hD [0, 1, 2, 3, 4, 5] [] rfl rfl (by decide) (by decide) hk1 hFc hP1 hD1
          generalize H1 = H at hP hS ⊢
          have hP : va_P D vwCl (ws_model cI cC cZ cR mo mo1 mo2 mo3 mo4 mo5 kn le_ s_ past slo isv pad_) H := hP
          have hD : va_D A (ws_model cI cC cZ cR mo mo1 mo2 mo3 mo4 mo5 kn le_ s_ past slo isv pad_) := hD
          refine lv_istore_n (lv' := [(3, .int r18), (4, .int 0), (2, .int j2), (0, .ref mo), (1, .int a0)]) hx hb dX8_carries_154 rfl hl (by decide) rfl (fun ls hl => ?_)
          refine lv_iload_n hx hb dX8_carries_155 rfl (lv_at hl 0 rfl) ?_
          refine lv_if_ge (tgt := 163) hx hb dX8_carries_156 (by decide) (fun c20 => ?_) (fun c20 => ?_)
          · replace h := br_p c20 h
            refine lv_aload_n hx hb dX8_carries_163 rfl (lv_at hl 3 rfl) ?_
            obtain ⟨r19, hcr19, h⟩ := bn_sp h
            have hPc := hP.sub (ws' := (ws_model cI cC cZ cR mo mo1 mo2 mo3 mo4 mo5 kn le_ s_ past slo isv pad_)) [0, 1, 2, 3, 4, 5] rfl
            have hDc := hD.sub (ws' := (ws_model cI cC cZ cR mo mo1 mo2 mo3 mo4 mo5 kn le_ s_ past slo isv pad_)) [0, 1, 2, 3, 4, 5] (by decide) rfl
            have hFc := va_free (wc := (ws_model cI cC cZ cR mo mo1 mo2 mo3 mo4 mo5 kn le_ s_ past slo isv pad_)) hD hS hA [0, 1, 2, 3, 4, 5] rfl
            refine va_calli (va_runV (As := []) (rest := []) ⟨hx, hb, hml, hown, hts⟩ (m_X8_shoots l D cI cC cZ cR mo mo1 mo2 mo3 mo4 mo5 _ kn le_ s_ past slo isv pad_    r19 hcr19) (cwV 0 hts gX8_carries_X8_shoots rfl rfl rfl (by decide +kernel) ⟨Nat.le_of_ble_eq_true rfl, Nat.le_of_ble_eq_true rfl⟩) (cPc_pv hPc hK hDc (ci := 8) (q0 := 0) rfl rfl) rfl rfl hl.1 rfl (lv_room (Nat.le_of_ble_eq_true rfl)) dX8_carries_164 ⟨Nat.le_of_ble_eq_true rfl, Nat.le_of_ble_eq_true rfl⟩) hS (fun q _ h => hFc q h) hFc (fun xq u t H1 locs ht hvm hw hB hz1 hk1 hS => ?_)
            rw [hw]
            obtain ⟨hP1, hD1⟩ := hB
            rw [ht] at hP1
            obtain ⟨hP, hD⟩ := va_join (wr := []) (w1 := (ws_model cI cC cZ cR mo mo1 mo2 mo3 mo4 mo5 kn le_ r19.2 past slo isv pad_)) hP hD [0, 1, 2, 3, 4, 5] [] rfl rfl (by decide) (by decide) hk1 hFc hP1 hD1
            generalize H1 = H at hP hS ⊢
            have hP : va_P D vwCl (ws_model cI cC cZ cR mo mo1 mo2 mo3 mo4 mo5 kn le_ r19.2 past slo isv pad_) H := hP
            have hD : va_D A (ws_model cI cC cZ cR mo mo1 mo2 mo3 mo4 mo5 kn le_ r19.2 past slo isv pad_) := hD
            refine lv_istore (lv' := [(4, .int r19.1), (3, .int r18), (2, .int j2), (0, .ref mo), (1, .int a0)]) hx hb dX8_carries_167 hl (by decide) rfl (fun ls hl => ?_)
            refine lv_iload_n hx hb dX8_carries_169 rfl (lv_at hl 1 rfl) ?_
            have e9 := Option.some.inj h
            subst e9
            rw [hQ]
            exact W.iret (v := r18) hx hb hr (fun t ht hW => ⟨⟨r18, (), rfl, rfl, by rw [ht]; exact hP, hD⟩, hS.F ht⟩) hS.2.2 dX8_carries_170
          · replace h := br_n c20 h
            refine lv_iconst (v := 0) hx hb dX8_carries_159 (by decide) ?_
            refine lv_goto (tgt := 167) hx hb dX8_carries_160 (by decide) ?_
            refine lv_istore (lv' := [(4, .int 0), (3, .int r18), (2, .int j2), (0, .ref mo), (1, .int a0)]) hx hb dX8_carries_167 hl (by decide) rfl (fun ls hl => ?_)
            refine lv_iload_n hx hb dX8_carries_169 rfl (lv_at hl 1 rfl) ?_
            have e9 := Option.some.inj h
            subst e9
            rw [hQ]
            exact W.iret (v := r18) hx hb hr (fun t ht hW => ⟨⟨r18, (), rfl, rfl, by rw [ht]; exact hP, hD⟩, hS.F ht⟩) hS.2.2 dX8_carries_170
  refine lv_if_ge (tgt := 14) hx hb dX8_carries_7 (by decide) (fun c22 => ?_) (fun c22 => ?_)
  · replace h := br_p c22 h
    refine lv_aload_n hx hb dX8_carries_14 rfl (lv_at hl 0 rfl) ?_
    refine lv_iload_n hx hb dX8_carries_15 rfl (lv_at hl 1 rfl) ?_
    refine lv_iconst (v := 1) hx hb dX8_carries_16 (by decide) ?_
    refine lv_iadd hx hb dX8_carries_17 ?_
    obtain ⟨r21, hcr21, h⟩ := bn_sp h
    have hPc := hP.sub (ws' := (ws_model cI cC cZ cR mo mo1 mo2 mo3 mo4 mo5 kn le_ s_ past slo isv pad_)) [0, 1, 2, 3, 4, 5] rfl
    have hDc := hD.sub (ws' := (ws_model cI cC cZ cR mo mo1 mo2 mo3 mo4 mo5 kn le_ s_ past slo isv pad_)) [0, 1, 2, 3, 4, 5] (by decide) rfl
    have hFc := va_free (wc := (ws_model cI cC cZ cR mo mo1 mo2 mo3 mo4 mo5 kn le_ s_ past slo isv pad_)) hD hS hA [0, 1, 2, 3, 4, 5] rfl
    refine va_calli (va_runV (As := [.int (a0 + 1)]) (rest := []) ⟨hx, hb, hml, hown, hts⟩ (m_X8_numberAt l D cI cC cZ cR mo mo1 mo2 mo3 mo4 mo5 _ kn le_ s_ past slo isv pad_ (a0 + 1)   r21 hcr21) (cwV 1 hts gX8_carries_X8_numberAt rfl rfl rfl (by decide +kernel) ⟨Nat.le_of_ble_eq_true rfl, Nat.le_of_ble_eq_true rfl⟩) (cPc_pv hPc hK hDc (ci := 8) (q0 := 0) rfl rfl) rfl rfl hl.1 rfl (lv_room (Nat.le_of_ble_eq_true rfl)) dX8_carries_18 ⟨Nat.le_of_ble_eq_true rfl, Nat.le_of_ble_eq_true rfl⟩) hS (fun q _ h => hFc q h) hFc (fun xq u t H1 locs ht hvm hw hB hz1 hk1 hS => ?_)
    rw [hw]
    obtain ⟨hP1, hD1⟩ := hB
    rw [ht] at hP1
    obtain ⟨hP, hD⟩ := va_join (wr := []) (w1 := (ws_model cI cC cZ cR mo mo1 mo2 mo3 mo4 mo5 kn le_ s_ past slo isv pad_)) hP hD [0, 1, 2, 3, 4, 5] [] rfl rfl (by decide) (by decide) hk1 hFc hP1 hD1
    generalize H1 = H at hP hS ⊢
    have hP : va_P D vwCl (ws_model cI cC cZ cR mo mo1 mo2 mo3 mo4 mo5 kn le_ s_ past slo isv pad_) H := hP
    have hD : va_D A (ws_model cI cC cZ cR mo mo1 mo2 mo3 mo4 mo5 kn le_ s_ past slo isv pad_) := hD
    exact J21 _ _ _ _ h hP hD hS (lv_sub hl [0, 1] rfl)
  · replace h := br_n c22 h
    refine lv_iconst (v := 0) hx hb dX8_carries_10 (by decide) ?_
    refine lv_goto (tgt := 21) hx hb dX8_carries_11 (by decide) ?_
    exact J21 _ _ _ _ h hP hD hS (lv_sub hl [0, 1] rfl)
-- LeaningLinesModel.carryOut
abbrev OUT_X8_carryOut : Type := Int32 × Int32 × Int32 × (Nat → Int32) × (Nat → Int32)
def f_X8_carryOut_L20 (le_ : Int32) (pad_ : Nat → Int32) (k : Int32 → Int32 → (Nat → Int32) → Option OUT_X8_carryOut) : Nat → Int32 → Int32 → (Nat → Int32) → Option OUT_X8_carryOut
  | 0 => fun _ _ _ => none
  | n + 1 => fun v6 v7 v8 => (if le_ ≤ v7 then k v6 v7 v8 else bn (f_X8_carries le_ v8 pad_ v7) (fun r9 => (if ¬ r9.1 = 0 then k v6 v7 r9.2 else bd (v6 + 1) (fun x10 => bn (f_X8_orderEnd le_ pad_ v7) (fun r11 => bd (r11 + 1) (fun x12 => f_X8_carryOut_L20 le_ pad_ k n x10 x12 r9.2))))))
theorem f_X8_carryOut_L20_s (le_ : Int32) (pad_ : Nat → Int32) (k : Int32 → Int32 → (Nat → Int32) → Option OUT_X8_carryOut) (n : Nat) (v6 : Int32) (v7 : Int32) (v8 : Nat → Int32) : f_X8_carryOut_L20 le_ pad_ k (n + 1) v6 v7 v8 = ((if le_ ≤ v7 then k v6 v7 v8 else bn (f_X8_carries le_ v8 pad_ v7) (fun r9 => (if ¬ r9.1 = 0 then k v6 v7 r9.2 else bd (v6 + 1) (fun x10 => bn (f_X8_orderEnd le_ pad_ v7) (fun r11 => bd (r11 + 1) (fun x12 => f_X8_carryOut_L20 le_ pad_ k n x10 x12 r9.2))))))) := rfl
def f_X8_carryOut (kn : Int32) (le_ : Int32) (s_ : Nat → Int32) (past : Nat → Int32) (pad_ : Nat → Int32) : Option OUT_X8_carryOut :=
  bn (f_X8_fault le_ pad_) (fun r1 => (if r1 = (-6) then bn (f_X8_remembers kn s_ past) (fun r2 => f_X8_carryOut_L20 le_ pad_ (fun (w15 : Int32) (w16 : Int32) (w17 : Nat → Int32) => some ((w15, r2.1, 0, w17, r2.2))) 4000 0 0 s_) else some (((-3), kn, le_, s_, past))))
theorem uX8_carryOut_X8 : ∀ w ∈ wsX80, w ∈ wsX8_carryOut := by decide +kernel
theorem kX8_carryOut_1 : Cond.fieldLink RX8 121 "LeaningLinesModel" "length" "I" ∈ wsX8_carryOut := by decide +kernel
abbrev R_X8_carryOut : Room := { frames := 7, cells := 0, slots := 0, locals := 169 }
set_option maxHeartbeats 4000000 in
set_option maxRecDepth 100000 in
theorem m_X8_carryOut (l : Launch) (D : va_G) (cI cC cZ cR : ClassId) (mo mo1 mo2 mo3 mo4 mo5 : Nat) (sz : Nat) (kn : Int32) (le_ : Int32) (s_ : Nat → Int32) (past : Nat → Int32) (slo : Nat → Int32) (isv : Nat → Int32) (pad_ : Nat → Int32)     (r : OUT_X8_carryOut) (hf : f_X8_carryOut kn le_ s_ past pad_ = some r) : Met l yX8_carryOut wsX8_carryOut R_X8_carryOut (cPc D cI cC cZ cR [.ref mo] sz (ws_model cI cC cZ cR mo mo1 mo2 mo3 mo4 mo5 kn le_ s_ past slo isv pad_)) (cQi D (ws_model cI cC cZ cR mo mo1 mo2 mo3 mo4 mo5 r.2.1 r.2.2.1 r.2.2.2.1 r.2.2.2.2 slo isv pad_) (va_A (ws_model cI cC cZ cR mo mo1 mo2 mo3 mo4 mo5 kn le_ s_ past slo isv pad_) sz) r.1) 0 0 (va_A (ws_model cI cC cZ cR mo mo1 mo2 mo3 mo4 mo5 kn le_ s_ past slo isv pad_) sz) := by
  refine Met.ofW (cc := cX8_carryOut) (maxL := 3) (ret := (some .int)) (by decide) rfl ?_
  intro p e s m args below meth c s₁ B hml hv
  obtain ⟨rfl, hsz, hP, hK, hD0⟩ := hv
  have hx := B.exec
  have hb := B.bytes
  have hr := B.returns
  have hts := atoms_spec (ws := wsX8_carryOut) B.pre
  have hown : s.vm.findClass RX8 = some m.cls := findClass_of_methodNamed B.named
  have hlocks := B.notSynchronized
  subst hsz
  have hD := hD0.self (sz := s.heap.size)
  generalize hAe : va_A (ws_model cI cC cZ cR mo mo1 mo2 mo3 mo4 mo5 kn le_ s_ past slo isv pad_) s.heap.size = A at hD ⊢
  skip
  have hA : ∀ q : Nat, s.heap.size ≤ q → A q := fun q h => by rw [← hAe]; exact Or.inr h
  have hS : va_S A s.heap s.heap [] := va_S.rf
  have hl := lv_entry ([.ref mo]) (n := 3) (Nat.le_of_ble_eq_true rfl)
  rw [lg_entry_eq]
  generalize (lg_sl ([.ref mo]) ++ List.replicate (3 - (lg_sl ([.ref mo])).length) Slot.unset).toArray = ls at hl ⊢
  have hl : lv_has ls 3 [(0, .ref mo)] := hl
  refine W_absQ (fun Q hQ => ?_)
  refine W.eq (g2 := F0 m 0 ls []) rfl ?_
  have h := hf
  unfold f_X8_carryOut at h
  refine lv_aload_n hx hb dX8_carryOut_0 rfl (lv_at hl 0 rfl) ?_
  obtain ⟨r1, hcr1, h⟩ := bn_sp h
  have hPc := hP.sub (ws' := (ws_model cI cC cZ cR mo mo1 mo2 mo3 mo4 mo5 kn le_ s_ past slo isv pad_)) [0, 1, 2, 3, 4, 5] rfl
  have hDc := hD.sub (ws' := (ws_model cI cC cZ cR mo mo1 mo2 mo3 mo4 mo5 kn le_ s_ past slo isv pad_)) [0, 1, 2, 3, 4, 5] (by decide) rfl
  have hFc := va_free (wc := (ws_model cI cC cZ cR mo mo1 mo2 mo3 mo4 mo5 kn le_ s_ past slo isv pad_)) hD hS hA [0, 1, 2, 3, 4, 5] rfl
  refine va_calli (va_runV (As := []) (rest := []) ⟨hx, hb, hml, hown, hts⟩ (m_X8_fault l D cI cC cZ cR mo mo1 mo2 mo3 mo4 mo5 _ kn le_ s_ past slo isv pad_    r1 hcr1) (cwV 0 hts gX8_carryOut_X8_fault rfl rfl rfl (by decide +kernel) ⟨Nat.le_of_ble_eq_true rfl, Nat.le_of_ble_eq_true rfl⟩) (cPc_pv hPc hK hDc (ci := 8) (q0 := 0) rfl rfl) rfl rfl hl.1 rfl (lv_room (Nat.le_of_ble_eq_true rfl)) dX8_carryOut_1 ⟨Nat.le_of_ble_eq_true rfl, Nat.le_of_ble_eq_true rfl⟩) hS (fun q _ h => hFc q h) hFc (fun xq u t H1 locs ht hvm hw hB hz1 hk1 hS => ?_)
  rw [hw]
  obtain ⟨hP1, hD1⟩ := hB
  rw [ht] at hP1
  obtain ⟨hP, hD⟩ := va_join (wr := []) (w1 := (ws_model cI cC cZ cR mo mo1 mo2 mo3 mo4 mo5 kn le_ s_ past slo isv pad_)) hP hD [0, 1, 2, 3, 4, 5] [] rfl rfl (by decide) (by decide) hk1 hFc hP1 hD1
  generalize H1 = H at hP hS ⊢
  have hP : va_P D vwCl (ws_model cI cC cZ cR mo mo1 mo2 mo3 mo4 mo5 kn le_ s_ past slo isv pad_) H := hP
  have hD : va_D A (ws_model cI cC cZ cR mo mo1 mo2 mo3 mo4 mo5 kn le_ s_ past slo isv pad_) := hD
  refine lv_bipush (v := (-6)) hx hb dX8_carryOut_4 (by decide) ?_
  refine lv_icmp_eq (tgt := 12) hx hb dX8_carryOut_6 (by decide) (fun c18 => ?_) (fun c18 => ?_)
  · replace h := br_p c18 h
    refine lv_aload_n hx hb dX8_carryOut_12 rfl (lv_at hl 0 rfl) ?_
    obtain ⟨r2, hcr2, h⟩ := bn_sp h
    have hPc := hP.sub (ws' := (ws_model cI cC cZ cR mo mo1 mo2 mo3 mo4 mo5 kn le_ s_ past slo isv pad_)) [0, 1, 2, 3, 4, 5] rfl
    have hDc := hD.sub (ws' := (ws_model cI cC cZ cR mo mo1 mo2 mo3 mo4 mo5 kn le_ s_ past slo isv pad_)) [0, 1, 2, 3, 4, 5] (by decide) rfl
    have hFc := va_free (wc := (ws_model cI cC cZ cR mo mo1 mo2 mo3 mo4 mo5 kn le_ s_ past slo isv pad_)) hD hS hA [0, 1, 2, 3, 4, 5] rfl
    refine va_callv (va_runV (As := []) (rest := []) ⟨hx, hb, hml, hown, hts⟩ (m_X8_remembers l D cI cC cZ cR mo mo1 mo2 mo3 mo4 mo5 _ kn le_ s_ past slo isv pad_    r2 hcr2) (cwV 0 hts gX8_carryOut_X8_remembers rfl rfl rfl (by decide +kernel) ⟨Nat.le_of_ble_eq_true rfl, Nat.le_of_ble_eq_true rfl⟩) (cPc_pv hPc hK hDc (ci := 8) (q0 := 0) rfl rfl) rfl rfl hl.1 rfl (lv_room (Nat.le_of_ble_eq_true rfl)) dX8_carryOut_13 ⟨Nat.le_of_ble_eq_true rfl, Nat.le_of_ble_eq_true rfl⟩) hS (fun q _ h => hFc q h) hFc (fun u t H1 locs ht hvm hw hB hz1 hk1 hS => ?_)
    obtain ⟨hP1, hD1⟩ := hB
    rw [ht] at hP1
    obtain ⟨hP, hD⟩ := va_join (wr := []) (w1 := (ws_model cI cC cZ cR mo mo1 mo2 mo3 mo4 mo5 r2.1 le_ s_ r2.2 slo isv pad_)) hP hD [0, 1, 2, 3, 4, 5] [] rfl rfl (by decide) (by decide) hk1 hFc hP1 hD1
    generalize H1 = H at hP hS ⊢
    have hP : va_P D vwCl (ws_model cI cC cZ cR mo mo1 mo2 mo3 mo4 mo5 r2.1 le_ s_ r2.2 slo isv pad_) H := hP
    have hD : va_D A (ws_model cI cC cZ cR mo mo1 mo2 mo3 mo4 mo5 r2.1 le_ s_ r2.2 slo isv pad_) := hD
    refine lv_iconst (v := 0) hx hb dX8_carryOut_16 (by decide) ?_
    refine lv_istore_n (lv' := [(1, .int 0), (0, .ref mo)]) hx hb dX8_carryOut_17 rfl hl (by decide) rfl (fun ls hl => ?_)
    refine lv_iconst (v := 0) hx hb dX8_carryOut_18 (by decide) ?_
    refine lv_istore_n (lv' := [(2, .int 0), (1, .int 0), (0, .ref mo)]) hx hb dX8_carryOut_19 rfl hl (by decide) rfl (fun ls hl => ?_)
    have L20 : ∀ (k : Int32 → Int32 → (Nat → Int32) → Option OUT_X8_carryOut), (∀ (w15 : Int32) (w16 : Int32) (w17 : Nat → Int32) (H : Heap) (locs : List Loc) (ls : Array Slot), k w15 w16 w17 = some r → va_P D vwCl (ws_model cI cC cZ cR mo mo1 mo2 mo3 mo4 mo5 r2.1 le_ w17 r2.2 slo isv pad_) H → va_D A (ws_model cI cC cZ cR mo mo1 mo2 mo3 mo4 mo5 r2.1 le_ w17 r2.2 slo isv pad_) → va_S A s.heap H locs → lv_has ls 3 [(0, .ref mo), (1, .int w15), (2, .int w16)] → W p l e R_X8_carryOut s m ([.ref mo] : List Value).toArray below meth c H locs 0 0 Q (F0 m 50 ls [])) → ∀ (n : Nat) (v6 : Int32) (v7 : Int32) (v8 : Nat → Int32) (H : Heap) (locs : List Loc) (ls : Array Slot), f_X8_carryOut_L20 le_ pad_ k n v6 v7 v8 = some r → va_P D vwCl (ws_model cI cC cZ cR mo mo1 mo2 mo3 mo4 mo5 r2.1 le_ v8 r2.2 slo isv pad_) H → va_D A (ws_model cI cC cZ cR mo mo1 mo2 mo3 mo4 mo5 r2.1 le_ v8 r2.2 slo isv pad_) → va_S A s.heap H locs → lv_has ls 3 [(0, .ref mo), (1, .int v6), (2, .int v7)] → W p l e R_X8_carryOut s m ([.ref mo] : List Value).toArray below meth c H locs 0 0 Q (F0 m 20 ls []) := by
      intro k K n
      induction n with
      | zero => intro v6 v7 v8 H locs ls h; exact no_sm h
      | succ n ih =>
        intro v6 v7 v8 H locs ls h hP hD hS hl
        rw [f_X8_carryOut_L20_s] at h
        refine lv_iload_n hx hb dX8_carryOut_20 rfl (lv_at hl 2 rfl) ?_
        refine lv_aload_n hx hb dX8_carryOut_21 rfl (lv_at hl 0 rfl) ?_
        refine va_get (D := D) (ci := 8) (v := .int le_) (C := RX8) (T := TX8) (N := 7) hx hb hts uX8_carryOut_X8 hown hK.1 hP 0 rfl rfl 6 (by decide) (hts _ kX8_carryOut_1) (fun _ h9 => h9) rfl dX8_carryOut_22 ?_
        refine lv_icmp_ge (tgt := 50) hx hb dX8_carryOut_25 (by decide) (fun c14 => ?_) (fun c14 => ?_)
        · replace h := br_p c14 h
          exact K _ _ _ _ _ _ h hP hD hS (lv_sub hl [0, 1, 2] rfl)
        · replace h := br_n c14 h
          refine lv_aload_n hx hb dX8_carryOut_28 rfl (lv_at hl 0 rfl) ?_
          refine lv_iload_n hx hb dX8_carryOut_29 rfl (lv_at hl 2 rfl) ?_
          obtain ⟨r9, hcr9, h⟩ := bn_sp h
          have hPc := hP.sub (ws' := (ws_model cI cC cZ cR mo mo1 mo2 mo3 mo4 mo5 r2.1 le_ v8 r2.2 slo isv pad_)) [0, 1, 2, 3, 4, 5] rfl
          have hDc := hD.sub (ws' := (ws_model cI cC cZ cR mo mo1 mo2 mo3 mo4 mo5 r2.1 le_ v8 r2.2 slo isv pad_)) [0, 1, 2, 3, 4, 5] (by decide) rfl
          have hFc := va_free (wc := (ws_model cI cC cZ cR mo mo1 mo2 mo3 mo4 mo5 r2.1 le_ v8 r2.2 slo isv pad_)) hD hS hA [0, 1, 2, 3, 4, 5] rfl
          refine va_calli (va_runV (As := [.int v7]) (rest := []) ⟨hx, hb, hml, hown, hts⟩ (m_X8_carries l D cI cC cZ cR mo mo1 mo2 mo3 mo4 mo5 _ r2.1 le_ v8 r2.2 slo isv pad_ v7   r9 hcr9) (cwV 1 hts gX8_carryOut_X8_carries rfl rfl rfl (by decide +kernel) ⟨Nat.le_of_ble_eq_true rfl, Nat.le_of_ble_eq_true rfl⟩) (cPc_pv hPc hK hDc (ci := 8) (q0 := 0) rfl rfl) rfl rfl hl.1 rfl (lv_room (Nat.le_of_ble_eq_true rfl)) dX8_carryOut_30 ⟨Nat.le_of_ble_eq_true rfl, Nat.le_of_ble_eq_true rfl⟩) hS (fun q _ h => hFc q h) hFc (fun xq u t H1 locs ht hvm hw hB hz1 hk1 hS => ?_)
          rw [hw]
          obtain ⟨hP1, hD1⟩ := hB
          rw [ht] at hP1
          obtain ⟨hP, hD⟩ := va_join (wr := []) (w1 := (ws_model cI cC cZ cR mo mo1 mo2 mo3 mo4 mo5 r2.1 le_ r9.2 r2.2 slo isv pad_)) hP hD [0, 1, 2, 3, 4, 5] [] rfl rfl (by decide) (by decide) hk1 hFc hP1 hD1
          generalize H1 = H at hP hS ⊢
          have hP : va_P D vwCl (ws_model cI cC cZ cR mo mo1 mo2 mo3 mo4 mo5 r2.1 le_ r9.2 r2.2 slo isv pad_) H := hP
          have hD : va_D A (ws_model cI cC cZ cR mo mo1 mo2 mo3 mo4 mo5 r2.1 le_ r9.2 r2.2 slo isv pad_) := hD
          refine lv_if_ne (tgt := 50) hx hb dX8_carryOut_33 (by decide) (fun c13 => ?_) (fun c13 => ?_)
          · replace h := br_p c13 h
            exact K _ _ _ _ _ _ h hP hD hS (lv_sub hl [0, 1, 2] rfl)
          · replace h := br_n (not_not_intro c13) h
            obtain ⟨x10, ex10, h⟩ := bd_sp h
            refine lv_iinc (v := x10) (lv' := [(1, .int x10), (0, .ref mo), (2, .int v7)]) hx hb dX8_carryOut_36 hl (k := 1) rfl (by rw [ex10]; rfl) (by decide) rfl (fun ls hl => ?_)
            refine lv_aload_n hx hb dX8_carryOut_39 rfl (lv_at hl 1 rfl) ?_
            refine lv_iload_n hx hb dX8_carryOut_40 rfl (lv_at hl 2 rfl) ?_
            obtain ⟨r11, hcr11, h⟩ := bn_sp h
            have hPc := hP.sub (ws' := (ws_model cI cC cZ cR mo mo1 mo2 mo3 mo4 mo5 r2.1 le_ r9.2 r2.2 slo isv pad_)) [0, 1, 2, 3, 4, 5] rfl
            have hDc := hD.sub (ws' := (ws_model cI cC cZ cR mo mo1 mo2 mo3 mo4 mo5 r2.1 le_ r9.2 r2.2 slo isv pad_)) [0, 1, 2, 3, 4, 5] (by decide) rfl
            have hFc := va_free (wc := (ws_model cI cC cZ cR mo mo1 mo2 mo3 mo4 mo5 r2.1 le_ r9.2 r2.2 slo isv pad_)) hD hS hA [0, 1, 2, 3, 4, 5] rfl
            refine va_calli (va_runV (As := [.int v7]) (rest := []) ⟨hx, hb, hml, hown, hts⟩ (m_X8_orderEnd l D cI cC cZ cR mo mo1 mo2 mo3 mo4 mo5 _ r2.1 le_ r9.2 r2.2 slo isv pad_ v7   r11 hcr11) (cwV 1 hts gX8_carryOut_X8_orderEnd rfl rfl rfl (by decide +kernel) ⟨Nat.le_of_ble_eq_true rfl, Nat.le_of_ble_eq_true rfl⟩) (cPc_pv hPc hK hDc (ci := 8) (q0 := 0) rfl rfl) rfl rfl hl.1 rfl (lv_room (Nat.le_of_ble_eq_true rfl)) dX8_carryOut_41 ⟨Nat.le_of_ble_eq_true rfl, Nat.le_of_ble_eq_true rfl⟩) hS (fun q _ h => hFc q h) hFc (fun xq u t H1 locs ht hvm hw hB hz1 hk1 hS => ?_)
            rw [hw]
            obtain ⟨hP1, hD1⟩ := hB
            rw [ht] at hP1
            obtain ⟨hP, hD⟩ := va_join (wr := []) (w1 := (ws_model cI cC cZ cR mo mo1 mo2 mo3 mo4 mo5 r2.1 le_ r9.2 r2.2 slo isv pad_)) hP hD [0, 1, 2, 3, 4, 5] [] rfl rfl (by decide) (by decide) hk1 hFc hP1 hD1
            generalize H1 = H at hP hS ⊢
            have hP : va_P D vwCl (ws_model cI cC cZ cR mo mo1 mo2 mo3 mo4 mo5 r2.1 le_ r9.2 r2.2 slo isv pad_) H := hP
            have hD : va_D A (ws_model cI cC cZ cR mo mo1 mo2 mo3 mo4 mo5 r2.1 le_ r9.2 r2.2 slo isv pad_) := hD
            refine lv_iconst (v := 1) hx hb dX8_carryOut_44 (by decide) ?_
            refine lv_iadd hx hb dX8_carryOut_45 ?_
            refine lv_topi (fun x12 ex12 => ?_)
            replace h := bd_s2 h ex12
            refine lv_istore_n (lv' := [(2, .int x12), (1, .int x10), (0, .ref mo)]) hx hb dX8_carryOut_46 rfl hl (by decide) rfl (fun ls hl => ?_)
            refine lv_goto (tgt := 20) hx hb dX8_carryOut_47 (by decide) ?_
            exact ih _ _ _ _ _ _ h hP hD hS (lv_sub hl [2, 1, 0] rfl)
    refine L20 _ (fun w15 w16 w17 H locs ls h hP hD hS hl => ?_) 4000 0 0 s_ _ _ _ h hP hD hS (lv_sub hl [2, 1, 0] rfl)
    refine lv_aload_n hx hb dX8_carryOut_50 rfl (lv_at hl 0 rfl) ?_
    refine lv_iconst (v := 0) hx hb dX8_carryOut_51 (by decide) ?_
    refine va_put (D := D) (ci := 8) (v := .int 0) (ty := .int) (C := RX8) (T := TX8) (N := 7) hx hb hts uX8_carryOut_X8 tyX8 tyX8_ok nmX8 hown hK.1 hP hD hS 0 rfl rfl 6 (by decide) (hts _ kX8_carryOut_1) (fun _ h9 => h9) rfl (by decide +kernel) rfl rfl (Nat.le_of_ble_eq_true rfl) dX8_carryOut_52 (fun H locs hP hD hS => ?_)
    have hP : va_P D vwCl (ws_model cI cC cZ cR mo mo1 mo2 mo3 mo4 mo5 r2.1 0 w17 r2.2 slo isv pad_) H := hP
    have hD : va_D A (ws_model cI cC cZ cR mo mo1 mo2 mo3 mo4 mo5 r2.1 0 w17 r2.2 slo isv pad_) := hD
    refine lv_iload_n hx hb dX8_carryOut_55 rfl (lv_at hl 1 rfl) ?_
    have e9 := Option.some.inj h
    subst e9
    rw [hQ]
    exact W.iret (v := w15) hx hb hr (fun t ht hW => ⟨⟨w15, (), rfl, rfl, by rw [ht]; exact hP, hD⟩, hS.F ht⟩) hS.2.2 dX8_carryOut_56
  · replace h := br_n c18 h
    refine lv_bipush (v := (-3)) hx hb dX8_carryOut_9 (by decide) ?_
    have e9 := Option.some.inj h
    subst e9
    rw [hQ]
    exact W.iret (v := (-3)) hx hb hr (fun t ht hW => ⟨⟨(-3), (), rfl, rfl, by rw [ht]; exact hP, hD⟩, hS.F ht⟩) hS.2.2 dX8_carryOut_11
