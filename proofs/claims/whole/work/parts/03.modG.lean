
-- LeaningLinesModel.seen
abbrev OUT_X8_seen : Type := Int32
def f_X8_seen (s_ : Nat → Int32) (a0 : Int32) (a1 : Int32) (a2 : Int32) : Option OUT_X8_seen :=
  bn (f_X8_isPixel a0 a1) (fun r1 => (if ¬ r1 = 0 then bn (f_X8_in a2 0 99) (fun r2 => (if r2 = 0 then some ((-2)) else gd 4 465 (bn (f_X8_seenAt s_ a0 a1 ((s_ (4 : Int32).toNatClampNeg) + a2)) (fun r3 => some (r3))))) else some ((-1))))
theorem uX8_seen_X8 : ∀ w ∈ wsX80, w ∈ wsX8_seen := by decide +kernel
theorem kX8_seen_1 : Cond.fieldLink RX8 7 "LeaningLinesModel" "s" "[I" ∈ wsX8_seen := by decide +kernel
abbrev R_X8_seen : Room := { frames := 4, cells := 0, slots := 0, locals := 96 }
set_option maxHeartbeats 4000000 in
set_option maxRecDepth 100000 in
theorem m_X8_seen (l : Launch) (D : va_G) (cI cC cZ cR : ClassId) (mo mo1 mo2 mo3 mo4 mo5 : Nat) (sz : Nat) (kn : Int32) (le_ : Int32) (s_ : Nat → Int32) (past : Nat → Int32) (slo : Nat → Int32) (isv : Nat → Int32) (pad_ : Nat → Int32)  (a0 : Int32) (a1 : Int32) (a2 : Int32)   (r : OUT_X8_seen) (hf : f_X8_seen s_ a0 a1 a2 = some r) : Met l yX8_seen wsX8_seen R_X8_seen (cPc D cI cC cZ cR [.ref mo, .int a0, .int a1, .int a2] sz (ws_model cI cC cZ cR mo mo1 mo2 mo3 mo4 mo5 kn le_ s_ past slo isv pad_)) (cQi D (ws_model cI cC cZ cR mo mo1 mo2 mo3 mo4 mo5 kn le_ s_ past slo isv pad_) (va_A (ws_model cI cC cZ cR mo mo1 mo2 mo3 mo4 mo5 kn le_ s_ past slo isv pad_) sz) r) 0 0 (va_A (ws_model cI cC cZ cR mo mo1 mo2 mo3 mo4 mo5 kn le_ s_ past slo isv pad_) sz) := by
  refine Met.ofW (cc := cX8_seen) (maxL := 4) (ret := (some .int)) (by decide) rfl ?_
  intro p e s m args below meth c s₁ B hml hv
  obtain ⟨rfl, hsz, hP, hK, hD0⟩ := hv
  have hx := B.exec
  have hb := B.bytes
  have hr := B.returns
  have hts := atoms_spec (ws := wsX8_seen) B.pre
  have hown : s.vm.findClass RX8 = some m.cls := findClass_of_methodNamed B.named
  have hlocks := B.notSynchronized
  subst hsz
  have hD := hD0.self (sz := s.heap.size)
  generalize hAe : va_A (ws_model cI cC cZ cR mo mo1 mo2 mo3 mo4 mo5 kn le_ s_ past slo isv pad_) s.heap.size = A at hD ⊢
  skip
  have hA : ∀ q : Nat, s.heap.size ≤ q → A q := fun q h => by rw [← hAe]; exact Or.inr h
  have hS : va_S A s.heap s.heap [] := va_S.rf
  have hl := lv_entry ([.ref mo, .int a0, .int a1, .int a2]) (n := 4) (Nat.le_of_ble_eq_true rfl)
  rw [lg_entry_eq]
  generalize (lg_sl ([.ref mo, .int a0, .int a1, .int a2]) ++ List.replicate (4 - (lg_sl ([.ref mo, .int a0, .int a1, .int a2])).length) Slot.unset).toArray = ls at hl ⊢
  have hl : lv_has ls 4 [(0, .ref mo), (1, .int a0), (2, .int a1), (3, .int a2)] := hl
  refine W_absQ (fun Q hQ => ?_)
  refine W.eq (g2 := F0 m 0 ls []) rfl ?_
  have h := hf
  unfold f_X8_seen at h
  refine lv_iload_n hx hb dX8_seen_0 rfl (lv_at hl 1 rfl) ?_
  refine lv_iload_n hx hb dX8_seen_1 rfl (lv_at hl 2 rfl) ?_
  obtain ⟨r1, hcr1, h⟩ := bn_sp h
  have hPc := hP.sub (ws' := []) [] rfl
  have hDc := hD.sub (ws' := []) [] (by decide) rfl
  have hFc := va_free (wc := []) hD hS hA [] rfl
  refine va_calli (va_runS (As := [.int a0, .int a1]) (rest := []) ⟨hx, hb, hml, hown, hts⟩ (m_X8_isPixel l D cI cC cZ cR  _  a0 a1   r1 hcr1) (va_cwS 2 hts gX8_seen_X8_isPixel rfl rfl rfl (by decide +kernel) ⟨Nat.le_of_ble_eq_true rfl, Nat.le_of_ble_eq_true rfl⟩) (cPc_ps hPc hK hDc) rfl rfl hl.1 rfl (lv_room (Nat.le_of_ble_eq_true rfl)) dX8_seen_2 ⟨Nat.le_of_ble_eq_true rfl, Nat.le_of_ble_eq_true rfl⟩) hS (fun q _ h => hFc q h) hFc (fun xq u t H1 locs ht hvm hw hB hz1 hk1 hS => ?_)
  rw [hw]
  obtain ⟨hP1, hD1⟩ := hB
  rw [ht] at hP1
  obtain ⟨hP, hD⟩ := va_join (wr := [(mo, .inr (8, [.ref mo1, .ref mo2, .int kn, .ref mo3, .ref mo4, .ref mo5, .int le_])), (mo1, .inl (cI, 465, .inl s_)), (mo2, .inl (cI, 2790, .inl past)), (mo3, .inl (cI, 930, .inl slo)), (mo4, .inl (cZ, 2, .inl isv)), (mo5, .inl (cI, 80, .inl pad_))]) (w1 := []) hP hD [] [0, 1, 2, 3, 4, 5] rfl rfl (by decide) (by decide) hk1 hFc hP1 hD1
  generalize H1 = H at hP hS ⊢
  have hP : va_P D vwCl (ws_model cI cC cZ cR mo mo1 mo2 mo3 mo4 mo5 kn le_ s_ past slo isv pad_) H := hP
  have hD : va_D A (ws_model cI cC cZ cR mo mo1 mo2 mo3 mo4 mo5 kn le_ s_ past slo isv pad_) := hD
  refine lv_if_ne (tgt := 10) hx hb dX8_seen_5 (by decide) (fun c5 => ?_) (fun c5 => ?_)
  · replace h := br_p c5 h
    refine lv_iload_n hx hb dX8_seen_10 rfl (lv_at hl 3 rfl) ?_
    refine lv_iconst (v := 0) hx hb dX8_seen_11 (by decide) ?_
    refine lv_bipush (v := 99) hx hb dX8_seen_12 (by decide) ?_
    obtain ⟨r2, hcr2, h⟩ := bn_sp h
    have hPc := hP.sub (ws' := []) [] rfl
    have hDc := hD.sub (ws' := []) [] (by decide) rfl
    have hFc := va_free (wc := []) hD hS hA [] rfl
    refine va_calli (va_runS (As := [.int a2, .int 0, .int 99]) (rest := []) ⟨hx, hb, hml, hown, hts⟩ (m_X8_in l D cI cC cZ cR  _  a2 0 99   r2 hcr2) (va_cwS 3 hts gX8_seen_X8_in rfl rfl rfl (by decide +kernel) ⟨Nat.le_of_ble_eq_true rfl, Nat.le_of_ble_eq_true rfl⟩) (cPc_ps hPc hK hDc) rfl rfl hl.1 rfl (lv_room (Nat.le_of_ble_eq_true rfl)) dX8_seen_14 ⟨Nat.le_of_ble_eq_true rfl, Nat.le_of_ble_eq_true rfl⟩) hS (fun q _ h => hFc q h) hFc (fun xq u t H1 locs ht hvm hw hB hz1 hk1 hS => ?_)
    rw [hw]
    obtain ⟨hP1, hD1⟩ := hB
    rw [ht] at hP1
    obtain ⟨hP, hD⟩ := va_join (wr := [(mo, .inr (8, [.ref mo1, .ref mo2, .int kn, .ref mo3, .ref mo4, .ref mo5, .int le_])), (mo1, .inl (cI, 465, .inl s_)), (mo2, .inl (cI, 2790, .inl past)), (mo3, .inl (cI, 930, .inl slo)), (mo4, .inl (cZ, 2, .inl isv)), (mo5, .inl (cI, 80, .inl pad_))]) (w1 := []) hP hD [] [0, 1, 2, 3, 4, 5] rfl rfl (by decide) (by decide) hk1 hFc hP1 hD1
    generalize H1 = H at hP hS ⊢
    have hP : va_P D vwCl (ws_model cI cC cZ cR mo mo1 mo2 mo3 mo4 mo5 kn le_ s_ past slo isv pad_) H := hP
    have hD : va_D A (ws_model cI cC cZ cR mo mo1 mo2 mo3 mo4 mo5 kn le_ s_ past slo isv pad_) := hD
    refine lv_if_eq (tgt := 37) hx hb dX8_seen_17 (by decide) (fun c4 => ?_) (fun c4 => ?_)
    · replace h := br_p c4 h
      refine lv_bipush (v := (-2)) hx hb dX8_seen_37 (by decide) ?_
      have e9 := Option.some.inj h
      subst e9
      rw [hQ]
      exact W.iret (v := (-2)) hx hb hr (fun t ht hW => ⟨⟨(-2), (), rfl, rfl, by rw [ht]; exact hP, hD⟩, hS.F ht⟩) hS.2.2 dX8_seen_39
    · replace h := br_n c4 h
      refine lv_aload_n hx hb dX8_seen_20 rfl (lv_at hl 0 rfl) ?_
      refine lv_iload_n hx hb dX8_seen_21 rfl (lv_at hl 1 rfl) ?_
      refine lv_iload_n hx hb dX8_seen_22 rfl (lv_at hl 2 rfl) ?_
      refine lv_aload_n hx hb dX8_seen_23 rfl (lv_at hl 0 rfl) ?_
      refine va_get (D := D) (ci := 8) (v := .ref mo1) (C := RX8) (T := TX8) (N := 7) hx hb hts uX8_seen_X8 hown hK.1 hP 0 rfl rfl 0 (by decide) (hts _ kX8_seen_1) (fun _ h9 => h9) rfl dX8_seen_24 ?_
      refine lv_iconst (v := 4) hx hb dX8_seen_27 (by decide) ?_
      obtain ⟨hin, h⟩ := gd_sp h
      refine va_iald (D := D) hx hb hK.1 hP 1 0 rfl rfl hin dX8_seen_28 ?_
      refine lv_iload_n hx hb dX8_seen_29 rfl (lv_at hl 3 rfl) ?_
      refine lv_iadd hx hb dX8_seen_30 ?_
      obtain ⟨r3, hcr3, h⟩ := bn_sp h
      have hPc := hP.sub (ws' := (ws_model cI cC cZ cR mo mo1 mo2 mo3 mo4 mo5 kn le_ s_ past slo isv pad_)) [0, 1, 2, 3, 4, 5] rfl
      have hDc := hD.sub (ws' := (ws_model cI cC cZ cR mo mo1 mo2 mo3 mo4 mo5 kn le_ s_ past slo isv pad_)) [0, 1, 2, 3, 4, 5] (by decide) rfl
      have hFc := va_free (wc := (ws_model cI cC cZ cR mo mo1 mo2 mo3 mo4 mo5 kn le_ s_ past slo isv pad_)) hD hS hA [0, 1, 2, 3, 4, 5] rfl
      refine va_calli (va_runV (As := [.int a0, .int a1, .int ((s_ (4 : Int32).toNatClampNeg) + a2)]) (rest := []) ⟨hx, hb, hml, hown, hts⟩ (m_X8_seenAt l D cI cC cZ cR mo mo1 mo2 mo3 mo4 mo5 _ kn le_ s_ past slo isv pad_ a0 a1 ((s_ (4 : Int32).toNatClampNeg) + a2)   r3 hcr3) (cwV 3 hts gX8_seen_X8_seenAt rfl rfl rfl (by decide +kernel) ⟨Nat.le_of_ble_eq_true rfl, Nat.le_of_ble_eq_true rfl⟩) (cPc_pv hPc hK hDc (ci := 8) (q0 := 0) rfl rfl) rfl rfl hl.1 rfl (lv_room (Nat.le_of_ble_eq_true rfl)) dX8_seen_31 ⟨Nat.le_of_ble_eq_true rfl, Nat.le_of_ble_eq_true rfl⟩) hS (fun q _ h => hFc q h) hFc (fun xq u t H1 locs ht hvm hw hB hz1 hk1 hS => ?_)
      rw [hw]
      obtain ⟨hP1, hD1⟩ := hB
      rw [ht] at hP1
      obtain ⟨hP, hD⟩ := va_join (wr := []) (w1 := (ws_model cI cC cZ cR mo mo1 mo2 mo3 mo4 mo5 kn le_ s_ past slo isv pad_)) hP hD [0, 1, 2, 3, 4, 5] [] rfl rfl (by decide) (by decide) hk1 hFc hP1 hD1
      generalize H1 = H at hP hS ⊢
      have hP : va_P D vwCl (ws_model cI cC cZ cR mo mo1 mo2 mo3 mo4 mo5 kn le_ s_ past slo isv pad_) H := hP
      have hD : va_D A (ws_model cI cC cZ cR mo mo1 mo2 mo3 mo4 mo5 kn le_ s_ past slo isv pad_) := hD
      refine lv_goto (tgt := 39) hx hb dX8_seen_34 (by decide) ?_
      have e9 := Option.some.inj h
      subst e9
      rw [hQ]
      exact W.iret (v := r3) hx hb hr (fun t ht hW => ⟨⟨r3, (), rfl, rfl, by rw [ht]; exact hP, hD⟩, hS.F ht⟩) hS.2.2 dX8_seen_39
  · replace h := br_n (not_not_intro c5) h
    refine lv_iconst (v := (-1)) hx hb dX8_seen_8 (by decide) ?_
    have e9 := Option.some.inj h
    subst e9
    rw [hQ]
    exact W.iret (v := (-1)) hx hb hr (fun t ht hW => ⟨⟨(-1), (), rfl, rfl, by rw [ht]; exact hP, hD⟩, hS.F ht⟩) hS.2.2 dX8_seen_9
-- LeaningLinesModel.leans
abbrev OUT_X8_leans : Type := Int32
def f_X8_leans (s_ : Nat → Int32) (a0 : Int32) : Option OUT_X8_leans :=
  bn (f_X8_isThing s_ a0) (fun r1 => (if ¬ r1 = 0 then gd 4 465 (bn (f_X8_its s_ a0 0) (fun r2 => gd 0 465 (bd ((s_ (4 : Int32).toNatClampNeg) + (r2 * (s_ (0 : Int32).toNatClampNeg))) (fun x3 => bn (f_X8_its s_ a0 2) (fun r4 => gd 0 465 (bd (x3 + ((r4 - 1) * (s_ (0 : Int32).toNatClampNeg))) (fun x5 => bn (f_X8_left s_ a0 x5) (fun r6 => bn (f_X8_left s_ a0 x3) (fun r7 => some ((r6 - r7) + 1000)))))))))) else some ((-1))))
theorem uX8_leans_X8 : ∀ w ∈ wsX80, w ∈ wsX8_leans := by decide +kernel
theorem kX8_leans_1 : Cond.fieldLink RX8 7 "LeaningLinesModel" "s" "[I" ∈ wsX8_leans := by decide +kernel
abbrev R_X8_leans : Room := { frames := 2, cells := 0, slots := 0, locals := 46 }
set_option maxHeartbeats 4000000 in
set_option maxRecDepth 100000 in
theorem m_X8_leans (l : Launch) (D : va_G) (cI cC cZ cR : ClassId) (mo mo1 mo2 mo3 mo4 mo5 : Nat) (sz : Nat) (kn : Int32) (le_ : Int32) (s_ : Nat → Int32) (past : Nat → Int32) (slo : Nat → Int32) (isv : Nat → Int32) (pad_ : Nat → Int32)  (a0 : Int32)   (r : OUT_X8_leans) (hf : f_X8_leans s_ a0 = some r) : Met l yX8_leans wsX8_leans R_X8_leans (cPc D cI cC cZ cR [.ref mo, .int a0] sz (ws_model cI cC cZ cR mo mo1 mo2 mo3 mo4 mo5 kn le_ s_ past slo isv pad_)) (cQi D (ws_model cI cC cZ cR mo mo1 mo2 mo3 mo4 mo5 kn le_ s_ past slo isv pad_) (va_A (ws_model cI cC cZ cR mo mo1 mo2 mo3 mo4 mo5 kn le_ s_ past slo isv pad_) sz) r) 0 0 (va_A (ws_model cI cC cZ cR mo mo1 mo2 mo3 mo4 mo5 kn le_ s_ past slo isv pad_) sz) := by
  refine Met.ofW (cc := cX8_leans) (maxL := 4) (ret := (some .int)) (by decide) rfl ?_
  intro p e s m args below meth c s₁ B hml hv
  obtain ⟨rfl, hsz, hP, hK, hD0⟩ := hv
  have hx := B.exec
  have hb := B.bytes
  have hr := B.returns
  have hts := atoms_spec (ws := wsX8_leans) B.pre
  have hown : s.vm.findClass RX8 = some m.cls := findClass_of_methodNamed B.named
  have hlocks := B.notSynchronized
  subst hsz
  have hD := hD0.self (sz := s.heap.size)
  generalize hAe : va_A (ws_model cI cC cZ cR mo mo1 mo2 mo3 mo4 mo5 kn le_ s_ past slo isv pad_) s.heap.size = A at hD ⊢
  skip
  have hA : ∀ q : Nat, s.heap.size ≤ q → A q := fun q h => by rw [← hAe]; exact Or.inr h
  have hS : va_S A s.heap s.heap [] := va_S.rf
  have hl := lv_entry ([.ref mo, .int a0]) (n := 4) (Nat.le_of_ble_eq_true rfl)
  rw [lg_entry_eq]
  generalize (lg_sl ([.ref mo, .int a0]) ++ List.replicate (4 - (lg_sl ([.ref mo, .int a0])).length) Slot.unset).toArray = ls at hl ⊢
  have hl : lv_has ls 4 [(0, .ref mo), (1, .int a0)] := hl
  refine W_absQ (fun Q hQ => ?_)
  refine W.eq (g2 := F0 m 0 ls []) rfl ?_
  have h := hf
  unfold f_X8_leans at h
  refine lv_aload_n hx hb dX8_leans_0 rfl (lv_at hl 0 rfl) ?_
  refine lv_iload_n hx hb dX8_leans_1 rfl (lv_at hl 1 rfl) ?_
  obtain ⟨r1, hcr1, h⟩ := bn_sp h
  have hPc := hP.sub (ws' := (ws_model cI cC cZ cR mo mo1 mo2 mo3 mo4 mo5 kn le_ s_ past slo isv pad_)) [0, 1, 2, 3, 4, 5] rfl
  have hDc := hD.sub (ws' := (ws_model cI cC cZ cR mo mo1 mo2 mo3 mo4 mo5 kn le_ s_ past slo isv pad_)) [0, 1, 2, 3, 4, 5] (by decide) rfl
  have hFc := va_free (wc := (ws_model cI cC cZ cR mo mo1 mo2 mo3 mo4 mo5 kn le_ s_ past slo isv pad_)) hD hS hA [0, 1, 2, 3, 4, 5] rfl
  refine va_calli (va_runV (As := [.int a0]) (rest := []) ⟨hx, hb, hml, hown, hts⟩ (m_X8_isThing l D cI cC cZ cR mo mo1 mo2 mo3 mo4 mo5 _ kn le_ s_ past slo isv pad_ a0   r1 hcr1) (cwV 1 hts gX8_leans_X8_isThing rfl rfl rfl (by decide +kernel) ⟨Nat.le_of_ble_eq_true rfl, Nat.le_of_ble_eq_true rfl⟩) (cPc_pv hPc hK hDc (ci := 8) (q0 := 0) rfl rfl) rfl rfl hl.1 rfl (lv_room (Nat.le_of_ble_eq_true rfl)) dX8_leans_2 ⟨Nat.le_of_ble_eq_true rfl, Nat.le_of_ble_eq_true rfl⟩) hS (fun q _ h => hFc q h) hFc (fun xq u t H1 locs ht hvm hw hB hz1 hk1 hS => ?_)
  rw [hw]
  obtain ⟨hP1, hD1⟩ := hB
  rw [ht] at hP1
  obtain ⟨hP, hD⟩ := va_join (wr := []) (w1 := (ws_model cI cC cZ cR mo mo1 mo2 mo3 mo4 mo5 kn le_ s_ past slo isv pad_)) hP hD [0, 1, 2, 3, 4, 5] [] rfl rfl (by decide) (by decide) hk1 hFc hP1 hD1
  generalize H1 = H at hP hS ⊢
  have hP : va_P D vwCl (ws_model cI cC cZ cR mo mo1 mo2 mo3 mo4 mo5 kn le_ s_ past slo isv pad_) H := hP
  have hD : va_D A (ws_model cI cC cZ cR mo mo1 mo2 mo3 mo4 mo5 kn le_ s_ past slo isv pad_) := hD
  refine lv_if_ne (tgt := 10) hx hb dX8_leans_5 (by decide) (fun c8 => ?_) (fun c8 => ?_)
  · replace h := br_p c8 h
    refine lv_aload_n hx hb dX8_leans_10 rfl (lv_at hl 0 rfl) ?_
    refine va_get (D := D) (ci := 8) (v := .ref mo1) (C := RX8) (T := TX8) (N := 7) hx hb hts uX8_leans_X8 hown hK.1 hP 0 rfl rfl 0 (by decide) (hts _ kX8_leans_1) (fun _ h9 => h9) rfl dX8_leans_11 ?_
    refine lv_iconst (v := 4) hx hb dX8_leans_14 (by decide) ?_
    obtain ⟨hin, h⟩ := gd_sp h
    refine va_iald (D := D) hx hb hK.1 hP 1 0 rfl rfl hin dX8_leans_15 ?_
    refine lv_aload_n hx hb dX8_leans_16 rfl (lv_at hl 0 rfl) ?_
    refine lv_iload_n hx hb dX8_leans_17 rfl (lv_at hl 1 rfl) ?_
    refine lv_iconst (v := 0) hx hb dX8_leans_18 (by decide) ?_
    obtain ⟨r2, hcr2, h⟩ := bn_sp h
    have hPc := hP.sub (ws' := (ws_model cI cC cZ cR mo mo1 mo2 mo3 mo4 mo5 kn le_ s_ past slo isv pad_)) [0, 1, 2, 3, 4, 5] rfl
    have hDc := hD.sub (ws' := (ws_model cI cC cZ cR mo mo1 mo2 mo3 mo4 mo5 kn le_ s_ past slo isv pad_)) [0, 1, 2, 3, 4, 5] (by decide) rfl
    have hFc := va_free (wc := (ws_model cI cC cZ cR mo mo1 mo2 mo3 mo4 mo5 kn le_ s_ past slo isv pad_)) hD hS hA [0, 1, 2, 3, 4, 5] rfl
    refine va_calli (va_runV (As := [.int a0, .int 0]) (rest := [.int (s_ (4 : Int32).toNatClampNeg)]) ⟨hx, hb, hml, hown, hts⟩ (m_X8_its l D cI cC cZ cR mo mo1 mo2 mo3 mo4 mo5 _ kn le_ s_ past slo isv pad_ a0 0   r2 hcr2) (cwV 2 hts gX8_leans_X8_its rfl rfl rfl (by decide +kernel) ⟨Nat.le_of_ble_eq_true rfl, Nat.le_of_ble_eq_true rfl⟩) (cPc_pv hPc hK hDc (ci := 8) (q0 := 0) rfl rfl) rfl rfl hl.1 rfl (lv_room (Nat.le_of_ble_eq_true rfl)) dX8_leans_19 ⟨Nat.le_of_ble_eq_true rfl, Nat.le_of_ble_eq_true rfl⟩) hS (fun q _ h => hFc q h) hFc (fun xq u t H1 locs ht hvm hw hB hz1 hk1 hS => ?_)
    rw [hw]
    obtain ⟨hP1, hD1⟩ := hB
    rw [ht] at hP1
    obtain ⟨hP, hD⟩ := va_join (wr := []) (w1 := (ws_model cI cC cZ cR mo mo1 mo2 mo3 mo4 mo5 kn le_ s_ past slo isv pad_)) hP hD [0, 1, 2, 3, 4, 5] [] rfl rfl (by decide) (by decide) hk1 hFc hP1 hD1
    generalize H1 = H at hP hS ⊢
    have hP : va_P D vwCl (ws_model cI cC cZ cR mo mo1 mo2 mo3 mo4 mo5 kn le_ s_ past slo isv pad_) H := hP
    have hD : va_D A (ws_model cI cC cZ cR mo mo1 mo2 mo3 mo4 mo5 kn le_ s_ past slo isv pad_) := hD
    refine lv_aload_n hx hb dX8_leans_22 rfl (lv_at hl 0 rfl) ?_
    refine va_get (D := D) (ci := 8) (v := .ref mo1) (C := RX8) (T := TX8) (N := 7) hx hb hts uX8_leans_X8 hown hK.1 hP 0 rfl rfl 0 (by decide) (hts _ kX8_leans_1) (fun _ h9 => h9) rfl dX8_leans_23 ?_
    refine lv_iconst (v := 0) hx hb dX8_leans_26 (by decide) ?_
    obtain ⟨hin, h⟩ := gd_sp h
    refine va_iald (D := D) hx hb hK.1 hP 1 0 rfl rfl hin dX8_leans_27 ?_
    refine lv_imul hx hb dX8_leans_28 ?_
    refine lv_iadd hx hb dX8_leans_29 ?_
    refine lv_topi (fun x3 ex3 => ?_)
    replace h := bd_s2 h ex3
    refine lv_istore_n (lv' := [(2, .int x3), (0, .ref mo), (1, .int a0)]) hx hb dX8_leans_30 rfl hl (by decide) rfl (fun ls hl => ?_)
    refine lv_iload_n hx hb dX8_leans_31 rfl (lv_at hl 0 rfl) ?_
    refine lv_aload_n hx hb dX8_leans_32 rfl (lv_at hl 1 rfl) ?_
    refine lv_iload_n hx hb dX8_leans_33 rfl (lv_at hl 2 rfl) ?_
    refine lv_iconst (v := 2) hx hb dX8_leans_34 (by decide) ?_
    obtain ⟨r4, hcr4, h⟩ := bn_sp h
    have hPc := hP.sub (ws' := (ws_model cI cC cZ cR mo mo1 mo2 mo3 mo4 mo5 kn le_ s_ past slo isv pad_)) [0, 1, 2, 3, 4, 5] rfl
    have hDc := hD.sub (ws' := (ws_model cI cC cZ cR mo mo1 mo2 mo3 mo4 mo5 kn le_ s_ past slo isv pad_)) [0, 1, 2, 3, 4, 5] (by decide) rfl
    have hFc := va_free (wc := (ws_model cI cC cZ cR mo mo1 mo2 mo3 mo4 mo5 kn le_ s_ past slo isv pad_)) hD hS hA [0, 1, 2, 3, 4, 5] rfl
    refine va_calli (va_runV (As := [.int a0, .int 2]) (rest := [.int x3]) ⟨hx, hb, hml, hown, hts⟩ (m_X8_its l D cI cC cZ cR mo mo1 mo2 mo3 mo4 mo5 _ kn le_ s_ past slo isv pad_ a0 2   r4 hcr4) (cwV 2 hts gX8_leans_X8_its rfl rfl rfl (by decide +kernel) ⟨Nat.le_of_ble_eq_true rfl, Nat.le_of_ble_eq_true rfl⟩) (cPc_pv hPc hK hDc (ci := 8) (q0 := 0) rfl rfl) rfl rfl hl.1 rfl (lv_room (Nat.le_of_ble_eq_true rfl)) dX8_leans_35 ⟨Nat.le_of_ble_eq_true rfl, Nat.le_of_ble_eq_true rfl⟩) hS (fun q _ h => hFc q h) hFc (fun xq u t H1 locs ht hvm hw hB hz1 hk1 hS => ?_)
    rw [hw]
    obtain ⟨hP1, hD1⟩ := hB
    rw [ht] at hP1
    obtain ⟨hP, hD⟩ := va_join (wr := []) (w1 := (ws_model cI cC cZ cR mo mo1 mo2 mo3 mo4 mo5 kn le_ s_ past slo isv pad_)) hP hD [0, 1, 2, 3, 4, 5] [] rfl rfl (by decide) (by decide) hk1 hFc hP1 hD1
    generalize H1 = H at hP hS ⊢
    have hP : va_P D vwCl (ws_model cI cC cZ cR mo mo1 mo2 mo3 mo4 mo5 kn le_ s_ past slo isv pad_) H := hP
    have hD : va_D A (ws_model cI cC cZ cR mo mo1 mo2 mo3 mo4 mo5 kn le_ s_ past slo isv pad_) := hD
    refine lv_iconst (v := 1) hx hb dX8_leans_38 (by decide) ?_
    refine lv_isub hx hb dX8_leans_39 ?_
    refine lv_aload_n hx hb dX8_leans_40 rfl (lv_at hl 1 rfl) ?_
    refine va_get (D := D) (ci := 8) (v := .ref mo1) (C := RX8) (T := TX8) (N := 7) hx hb hts uX8_leans_X8 hown hK.1 hP 0 rfl rfl 0 (by decide) (hts _ kX8_leans_1) (fun _ h9 => h9) rfl dX8_leans_41 ?_
    refine lv_iconst (v := 0) hx hb dX8_leans_44 (by decide) ?_
    obtain ⟨hin, h⟩ := gd_sp h
    refine va_iald (D := D) hx hb hK.1 hP 1 0 rfl rfl hin dX8_leans_45 ?_
    refine lv_imul hx hb dX8_leans_46 ?_
    refine lv_iadd hx hb dX8_leans_47 ?_
    refine lv_topi (fun x5 ex5 => ?_)
    replace h := bd_s2 h ex5
    refine lv_istore_n (lv' := [(3, .int x5), (2, .int x3), (0, .ref mo), (1, .int a0)]) hx hb dX8_leans_48 rfl hl (by decide) rfl (fun ls hl => ?_)
    refine lv_aload_n hx hb dX8_leans_49 rfl (lv_at hl 2 rfl) ?_
    refine lv_iload_n hx hb dX8_leans_50 rfl (lv_at hl 3 rfl) ?_
    refine lv_iload_n hx hb dX8_leans_51 rfl (lv_at hl 0 rfl) ?_
    obtain ⟨r6, hcr6, h⟩ := bn_sp h
    have hPc := hP.sub (ws' := (ws_model cI cC cZ cR mo mo1 mo2 mo3 mo4 mo5 kn le_ s_ past slo isv pad_)) [0, 1, 2, 3, 4, 5] rfl
    have hDc := hD.sub (ws' := (ws_model cI cC cZ cR mo mo1 mo2 mo3 mo4 mo5 kn le_ s_ past slo isv pad_)) [0, 1, 2, 3, 4, 5] (by decide) rfl
    have hFc := va_free (wc := (ws_model cI cC cZ cR mo mo1 mo2 mo3 mo4 mo5 kn le_ s_ past slo isv pad_)) hD hS hA [0, 1, 2, 3, 4, 5] rfl
    refine va_calli (va_runV (As := [.int a0, .int x5]) (rest := []) ⟨hx, hb, hml, hown, hts⟩ (m_X8_left l D cI cC cZ cR mo mo1 mo2 mo3 mo4 mo5 _ kn le_ s_ past slo isv pad_ a0 x5   r6 hcr6) (cwV 2 hts gX8_leans_X8_left rfl rfl rfl (by decide +kernel) ⟨Nat.le_of_ble_eq_true rfl, Nat.le_of_ble_eq_true rfl⟩) (cPc_pv hPc hK hDc (ci := 8) (q0 := 0) rfl rfl) rfl rfl hl.1 rfl (lv_room (Nat.le_of_ble_eq_true rfl)) dX8_leans_52 ⟨Nat.le_of_ble_eq_true rfl, Nat.le_of_ble_eq_true rfl⟩) hS (fun q _ h => hFc q h) hFc (fun xq u t H1 locs ht hvm hw hB hz1 hk1 hS => ?_)
    rw [hw]
    obtain ⟨hP1, hD1⟩ := hB
    rw [ht] at hP1
    obtain ⟨hP, hD⟩ := va_join (wr := []) (w1 := (ws_model cI cC cZ cR mo mo1 mo2 mo3 mo4 mo5 kn le_ s_ past slo isv pad_)) hP hD [0, 1, 2, 3, 4, 5] [] rfl rfl (by decide) (by decide) hk1 hFc hP1 hD1
    generalize H1 = H at hP hS ⊢
    have hP : va_P D vwCl (ws_model cI cC cZ cR mo mo1 mo2 mo3 mo4 mo5 kn le_ s_ past slo isv pad_) H := hP
    have hD : va_D A (ws_model cI cC cZ cR mo mo1 mo2 mo3 mo4 mo5 kn le_ s_ past slo isv pad_) := hD
    refine lv_aload_n hx hb dX8_leans_55 rfl (lv_at hl 2 rfl) ?_
    refine lv_iload_n hx hb dX8_leans_56 rfl (lv_at hl 3 rfl) ?_
    refine lv_iload_n hx hb dX8_leans_57 rfl (lv_at hl 1 rfl) ?_
    obtain ⟨r7, hcr7, h⟩ := bn_sp h
    have hPc := hP.sub (ws' := (ws_model cI cC cZ cR mo mo1 mo2 mo3 mo4 mo5 kn le_ s_ past slo isv pad_)) [0, 1, 2, 3, 4, 5] rfl
    have hDc := hD.sub (ws' := (ws_model cI cC cZ cR mo mo1 mo2 mo3 mo4 mo5 kn le_ s_ past slo isv pad_)) [0, 1, 2, 3, 4, 5] (by decide) rfl
    have hFc := va_free (wc := (ws_model cI cC cZ cR mo mo1 mo2 mo3 mo4 mo5 kn le_ s_ past slo isv pad_)) hD hS hA [0, 1, 2, 3, 4, 5] rfl
    refine va_calli (va_runV (As := [.int a0, .int x3]) (rest := [.int r6]) ⟨hx, hb, hml, hown, hts⟩ (m_X8_left l D cI cC cZ cR mo mo1 mo2 mo3 mo4 mo5 _ kn le_ s_ past slo isv pad_ a0 x3   r7 hcr7) (cwV 2 hts gX8_leans_X8_left rfl rfl rfl (by decide +kernel) ⟨Nat.le_of_ble_eq_true rfl, Nat.le_of_ble_eq_true rfl⟩) (cPc_pv hPc hK hDc (ci := 8) (q0 := 0) rfl rfl) rfl rfl hl.1 rfl (lv_room (Nat.le_of_ble_eq_true rfl)) dX8_leans_58 ⟨Nat.le_of_ble_eq_true rfl, Nat.le_of_ble_eq_true rfl⟩) hS (fun q _ h => hFc q h) hFc (fun xq u t H1 locs ht hvm hw hB hz1 hk1 hS => ?_)
    rw [hw]
    obtain ⟨hP1, hD1⟩ := hB
    rw [ht] at hP1
    obtain ⟨hP, hD⟩ := va_join (wr := []) (w1 := (ws_model cI cC cZ cR mo mo1 mo2 mo3 mo4 mo5 kn le_ s_ past slo isv pad_)) hP hD [0, 1, 2, 3, 4, 5] [] rfl rfl (by decide) (by decide) hk1 hFc hP1 hD1
    generalize H1 = H at hP hS ⊢
    have hP : va_P D vwCl (ws_model cI cC cZ cR mo mo1 mo2 mo3 mo4 mo5 kn le_ s_ past slo isv pad_) H := hP
    have hD : va_D A (ws_model cI cC cZ cR mo mo1 mo2 mo3 mo4 mo5 kn le_ s_ past slo isv pad_) := hD
    refine lv_isub hx hb dX8_leans_61 ?_
    refine lv_sipush (v := 1000) hx hb dX8_leans_62 (by decide) ?_
    refine lv_iadd hx hb dX8_leans_65 ?_
    have e9 := Option.some.inj h
    subst e9
    rw [hQ]
    exact W.iret (v := (r6 - r7) + 1000) hx hb hr (fun t ht hW => ⟨⟨(r6 - r7) + 1000, (), rfl, rfl, by rw [ht]; exact hP, hD⟩, hS.F ht⟩) hS.2.2 dX8_leans_66
  · replace h := br_n (not_not_intro c8) h
    refine lv_iconst (v := (-1)) hx hb dX8_leans_8 (by decide) ?_
    have e9 := Option.some.inj h
    subst e9
    rw [hQ]
    exact W.iret (v := (-1)) hx hb hr (fun t ht hW => ⟨⟨(-1), (), rfl, rfl, by rw [ht]; exact hP, hD⟩, hS.F ht⟩) hS.2.2 dX8_leans_9
-- LeaningLinesModel.bent
abbrev OUT_X8_bent : Type := Int32
def f_X8_bent_L4 (s_ : Nat → Int32) (k : Int32 → Int32 → Option OUT_X8_bent) : Nat → Int32 → Int32 → Option OUT_X8_bent
  | 0 => fun _ _ => none
  | n + 1 => fun v3 v4 => (if 384 ≤ v4 then k v3 v4 else gd 4 465 (gd 0 465 (bn (f_X8_exposed s_ (v4 / 24) (v4 - v4 / 24 * 24) ((s_ (4 : Int32).toNatClampNeg) + ((v4 / 24) * (s_ (0 : Int32).toNatClampNeg)))) (fun r5 => gd 4 465 (bn (f_X8_exposed s_ (v4 / 24) (v4 - v4 / 24 * 24) (s_ (4 : Int32).toNatClampNeg)) (fun r6 => jn (fun (j7 : Int32) => bd (v3 + j7) (fun x8 => bd (v4 + 1) (fun x9 => f_X8_bent_L4 s_ k n x8 x9))) (fun j70 => (if ¬ r5 = r6 then j70 1 else j70 0))))))))
theorem f_X8_bent_L4_s (s_ : Nat → Int32) (k : Int32 → Int32 → Option OUT_X8_bent) (n : Nat) (v3 : Int32) (v4 : Int32) : f_X8_bent_L4 s_ k (n + 1) v3 v4 = ((if 384 ≤ v4 then k v3 v4 else gd 4 465 (gd 0 465 (bn (f_X8_exposed s_ (v4 / 24) (v4 - v4 / 24 * 24) ((s_ (4 : Int32).toNatClampNeg) + ((v4 / 24) * (s_ (0 : Int32).toNatClampNeg)))) (fun r5 => gd 4 465 (bn (f_X8_exposed s_ (v4 / 24) (v4 - v4 / 24 * 24) (s_ (4 : Int32).toNatClampNeg)) (fun r6 => jn (fun (j7 : Int32) => bd (v3 + j7) (fun x8 => bd (v4 + 1) (fun x9 => f_X8_bent_L4 s_ k n x8 x9))) (fun j70 => (if ¬ r5 = r6 then j70 1 else j70 0))))))))) := rfl
def f_X8_bent (s_ : Nat → Int32) : Option OUT_X8_bent :=
  f_X8_bent_L4 s_ (fun (w12 : Int32) (w13 : Int32) => some (w12)) 4000 0 0
theorem uX8_bent_X8 : ∀ w ∈ wsX80, w ∈ wsX8_bent := by decide +kernel
theorem kX8_bent_1 : Cond.fieldLink RX8 7 "LeaningLinesModel" "s" "[I" ∈ wsX8_bent := by decide +kernel
abbrev R_X8_bent : Room := { frames := 5, cells := 0, slots := 0, locals := 121 }
set_option maxHeartbeats 4000000 in
set_option maxRecDepth 100000 in
theorem m_X8_bent (l : Launch) (D : va_G) (cI cC cZ cR : ClassId) (mo mo1 mo2 mo3 mo4 mo5 : Nat) (sz : Nat) (kn : Int32) (le_ : Int32) (s_ : Nat → Int32) (past : Nat → Int32) (slo : Nat → Int32) (isv : Nat → Int32) (pad_ : Nat → Int32)     (r : OUT_X8_bent) (hf : f_X8_bent s_ = some r) : Met l yX8_bent wsX8_bent R_X8_bent (cPc D cI cC cZ cR [.ref mo] sz (ws_model cI cC cZ cR mo mo1 mo2 mo3 mo4 mo5 kn le_ s_ past slo isv pad_)) (cQi D (ws_model cI cC cZ cR mo mo1 mo2 mo3 mo4 mo5 kn le_ s_ past slo isv pad_) (va_A (ws_model cI cC cZ cR mo mo1 mo2 mo3 mo4 mo5 kn le_ s_ past slo isv pad_) sz) r) 0 0 (va_A (ws_model cI cC cZ cR mo mo1 mo2 mo3 mo4 mo5 kn le_ s_ past slo isv pad_) sz) := by
  refine Met.ofW (cc := cX8_bent) (maxL := 4) (ret := (some .int)) (by decide) rfl ?_
  intro p e s m args below meth c s₁ B hml hv
  obtain ⟨rfl, hsz, hP, hK, hD0⟩ := hv
  have hx := B.exec
  have hb := B.bytes
  have hr := B.returns
  have hts := atoms_spec (ws := wsX8_bent) B.pre
  have hown : s.vm.findClass RX8 = some m.cls := findClass_of_methodNamed B.named
  have hlocks := B.notSynchronized
  subst hsz
  have hD := hD0.self (sz := s.heap.size)
  generalize hAe : va_A (ws_model cI cC cZ cR mo mo1 mo2 mo3 mo4 mo5 kn le_ s_ past slo isv pad_) s.heap.size = A at hD ⊢
  skip
  have hA : ∀ q : Nat, s.heap.size ≤ q → A q := fun q h => by rw [← hAe]; exact Or.inr h
  have hS : va_S A s.heap s.heap [] := va_S.rf
  have hl := lv_entry ([.ref mo]) (n := 4) (Nat.le_of_ble_eq_true rfl)
  rw [lg_entry_eq]
  generalize (lg_sl ([.ref mo]) ++ List.replicate (4 - (lg_sl ([.ref mo])).length) Slot.unset).toArray = ls at hl ⊢
  have hl : lv_has ls 4 [(0, .ref mo)] := hl
  refine W_absQ (fun Q hQ => ?_)
  refine W.eq (g2 := F0 m 0 ls []) rfl ?_
  have h := hf
  unfold f_X8_bent at h
  refine lv_iconst (v := 0) hx hb dX8_bent_0 (by decide) ?_
  refine lv_istore_n (lv' := [(1, .int 0), (0, .ref mo)]) hx hb dX8_bent_1 rfl hl (by decide) rfl (fun ls hl => ?_)
  refine lv_iconst (v := 0) hx hb dX8_bent_2 (by decide) ?_
  refine lv_istore_n (lv' := [(2, .int 0), (1, .int 0), (0, .ref mo)]) hx hb dX8_bent_3 rfl hl (by decide) rfl (fun ls hl => ?_)
  have L4 : ∀ (k : Int32 → Int32 → Option OUT_X8_bent), (∀ (w12 : Int32) (w13 : Int32) (H : Heap) (locs : List Loc) (ls : Array Slot), k w12 w13 = some r → va_P D vwCl (ws_model cI cC cZ cR mo mo1 mo2 mo3 mo4 mo5 kn le_ s_ past slo isv pad_) H → va_D A (ws_model cI cC cZ cR mo mo1 mo2 mo3 mo4 mo5 kn le_ s_ past slo isv pad_) → va_S A s.heap H locs → lv_has ls 4 [(0, .ref mo), (1, .int w12), (2, .int w13)] → W p l e R_X8_bent s m ([.ref mo] : List Value).toArray below meth c H locs 0 0 Q (F0 m 78 ls [])) → ∀ (n : Nat) (v3 : Int32) (v4 : Int32) (H : Heap) (locs : List Loc) (ls : Array Slot), f_X8_bent_L4 s_ k n v3 v4 = some r → va_P D vwCl (ws_model cI cC cZ cR mo mo1 mo2 mo3 mo4 mo5 kn le_ s_ past slo isv pad_) H → va_D A (ws_model cI cC cZ cR mo mo1 mo2 mo3 mo4 mo5 kn le_ s_ past slo isv pad_) → va_S A s.heap H locs → lv_has ls 4 [(0, .ref mo), (1, .int v3), (2, .int v4)] → W p l e R_X8_bent s m ([.ref mo] : List Value).toArray below meth c H locs 0 0 Q (F0 m 4 ls []) := by
    intro k K n
    induction n with
    | zero => intro v3 v4 H locs ls h; exact no_sm h
    | succ n ih =>
      intro v3 v4 H locs ls h hP hD hS hl
      rw [f_X8_bent_L4_s] at h
      refine lv_iload_n hx hb dX8_bent_4 rfl (lv_at hl 2 rfl) ?_
      refine lv_sipush (v := 384) hx hb dX8_bent_5 (by decide) ?_
      refine lv_icmp_ge (tgt := 78) hx hb dX8_bent_8 (by decide) (fun c11 => ?_) (fun c11 => ?_)
      · replace h := br_p c11 h
        exact K _ _ _ _ _ h hP hD hS (lv_sub hl [0, 1, 2] rfl)
      · replace h := br_n c11 h
        refine lv_aload_n hx hb dX8_bent_11 rfl (lv_at hl 0 rfl) ?_
        refine lv_iload_n hx hb dX8_bent_12 rfl (lv_at hl 2 rfl) ?_
        refine lv_bipush (v := 24) hx hb dX8_bent_13 (by decide) ?_
        refine lv_idiv hx hb dX8_bent_15 (by decide) ?_
        refine lv_iload_n hx hb dX8_bent_16 rfl (lv_at hl 2 rfl) ?_
        refine lv_bipush (v := 24) hx hb dX8_bent_17 (by decide) ?_
        refine lv_irem hx hb dX8_bent_19 (by decide) ?_
        refine lv_aload_n hx hb dX8_bent_20 rfl (lv_at hl 0 rfl) ?_
        refine va_get (D := D) (ci := 8) (v := .ref mo1) (C := RX8) (T := TX8) (N := 7) hx hb hts uX8_bent_X8 hown hK.1 hP 0 rfl rfl 0 (by decide) (hts _ kX8_bent_1) (fun _ h9 => h9) rfl dX8_bent_21 ?_
        refine lv_iconst (v := 4) hx hb dX8_bent_24 (by decide) ?_
        obtain ⟨hin, h⟩ := gd_sp h
        refine va_iald (D := D) hx hb hK.1 hP 1 0 rfl rfl hin dX8_bent_25 ?_
        refine lv_iload_n hx hb dX8_bent_26 rfl (lv_at hl 2 rfl) ?_
        refine lv_bipush (v := 24) hx hb dX8_bent_27 (by decide) ?_
        refine lv_idiv hx hb dX8_bent_29 (by decide) ?_
        refine lv_aload_n hx hb dX8_bent_30 rfl (lv_at hl 0 rfl) ?_
        refine va_get (D := D) (ci := 8) (v := .ref mo1) (C := RX8) (T := TX8) (N := 7) hx hb hts uX8_bent_X8 hown hK.1 hP 0 rfl rfl 0 (by decide) (hts _ kX8_bent_1) (fun _ h9 => h9) rfl dX8_bent_31 ?_
        refine lv_iconst (v := 0) hx hb dX8_bent_34 (by decide) ?_
        obtain ⟨hin, h⟩ := gd_sp h
        refine va_iald (D := D) hx hb hK.1 hP 1 0 rfl rfl hin dX8_bent_35 ?_
        refine lv_imul hx hb dX8_bent_36 ?_
        refine lv_iadd hx hb dX8_bent_37 ?_
        obtain ⟨r5, hcr5, h⟩ := bn_sp h
        have hPc := hP.sub (ws' := (ws_model cI cC cZ cR mo mo1 mo2 mo3 mo4 mo5 kn le_ s_ past slo isv pad_)) [0, 1, 2, 3, 4, 5] rfl
        have hDc := hD.sub (ws' := (ws_model cI cC cZ cR mo mo1 mo2 mo3 mo4 mo5 kn le_ s_ past slo isv pad_)) [0, 1, 2, 3, 4, 5] (by decide) rfl
        have hFc := va_free (wc := (ws_model cI cC cZ cR mo mo1 mo2 mo3 mo4 mo5 kn le_ s_ past slo isv pad_)) hD hS hA [0, 1, 2, 3, 4, 5] rfl
        refine va_calli (va_runV (As := [.int (v4 / 24), .int (v4 - v4 / 24 * 24), .int ((s_ (4 : Int32).toNatClampNeg) + ((v4 / 24) * (s_ (0 : Int32).toNatClampNeg)))]) (rest := []) ⟨hx, hb, hml, hown, hts⟩ (m_X8_exposed l D cI cC cZ cR mo mo1 mo2 mo3 mo4 mo5 _ kn le_ s_ past slo isv pad_ (v4 / 24) (v4 - v4 / 24 * 24) ((s_ (4 : Int32).toNatClampNeg) + ((v4 / 24) * (s_ (0 : Int32).toNatClampNeg)))   r5 hcr5) (cwV 3 hts gX8_bent_X8_exposed rfl rfl rfl (by decide +kernel) ⟨Nat.le_of_ble_eq_true rfl, Nat.le_of_ble_eq_true rfl⟩) (cPc_pv hPc hK hDc (ci := 8) (q0 := 0) rfl rfl) rfl rfl hl.1 rfl (lv_room (Nat.le_of_ble_eq_true rfl)) dX8_bent_38 ⟨Nat.le_of_ble_eq_true rfl, Nat.le_of_ble_eq_true rfl⟩) hS (fun q _ h => hFc q h) hFc (fun xq u t H1 locs ht hvm hw hB hz1 hk1 hS => ?_)
        rw [hw]
        obtain ⟨hP1, hD1⟩ := hB
        rw [ht] at hP1
        obtain ⟨hP, hD⟩ := va_join (wr := []) (w1 := (ws_model cI cC cZ cR mo mo1 mo2 mo3 mo4 mo5 kn le_ s_ past slo isv pad_)) hP hD [0, 1, 2, 3, 4, 5] [] rfl rfl (by decide) (by decide) hk1 hFc hP1 hD1
        generalize H1 = H at hP hS ⊢
        have hP : va_P D vwCl (ws_model cI cC cZ cR mo mo1 mo2 mo3 mo4 mo5 kn le_ s_ past slo isv pad_) H := hP
        have hD : va_D A (ws_model cI cC cZ cR mo mo1 mo2 mo3 mo4 mo5 kn le_ s_ past slo isv pad_) := hD
        refine lv_istore_n (lv' := [(3, .int r5), (0, .ref mo), (1, .int v3), (2, .int v4)]) hx hb dX8_bent_41 rfl hl (by decide) rfl (fun ls hl => ?_)
        refine lv_iload_n hx hb dX8_bent_42 rfl (lv_at hl 2 rfl) ?_
        refine lv_iload_n hx hb dX8_bent_43 rfl (lv_at hl 0 rfl) ?_
        refine lv_aload_n hx hb dX8_bent_44 rfl (lv_at hl 1 rfl) ?_
        refine lv_iload_n hx hb dX8_bent_45 rfl (lv_at hl 3 rfl) ?_
        refine lv_bipush (v := 24) hx hb dX8_bent_46 (by decide) ?_
        refine lv_idiv hx hb dX8_bent_48 (by decide) ?_
        refine lv_iload_n hx hb dX8_bent_49 rfl (lv_at hl 3 rfl) ?_
        refine lv_bipush (v := 24) hx hb dX8_bent_50 (by decide) ?_
        refine lv_irem hx hb dX8_bent_52 (by decide) ?_
        refine lv_aload_n hx hb dX8_bent_53 rfl (lv_at hl 1 rfl) ?_
        refine va_get (D := D) (ci := 8) (v := .ref mo1) (C := RX8) (T := TX8) (N := 7) hx hb hts uX8_bent_X8 hown hK.1 hP 0 rfl rfl 0 (by decide) (hts _ kX8_bent_1) (fun _ h9 => h9) rfl dX8_bent_54 ?_
        refine lv_iconst (v := 4) hx hb dX8_bent_57 (by decide) ?_
        obtain ⟨hin, h⟩ := gd_sp h
        refine va_iald (D := D) hx hb hK.1 hP 1 0 rfl rfl hin dX8_bent_58 ?_
        obtain ⟨r6, hcr6, h⟩ := bn_sp h
        have hPc := hP.sub (ws' := (ws_model cI cC cZ cR mo mo1 mo2 mo3 mo4 mo5 kn le_ s_ past slo isv pad_)) [0, 1, 2, 3, 4, 5] rfl
        have hDc := hD.sub (ws' := (ws_model cI cC cZ cR mo mo1 mo2 mo3 mo4 mo5 kn le_ s_ past slo isv pad_)) [0, 1, 2, 3, 4, 5] (by decide) rfl
        have hFc := va_free (wc := (ws_model cI cC cZ cR mo mo1 mo2 mo3 mo4 mo5 kn le_ s_ past slo isv pad_)) hD hS hA [0, 1, 2, 3, 4, 5] rfl
        refine va_calli (va_runV (As := [.int (v4 / 24), .int (v4 - v4 / 24 * 24), .int (s_ (4 : Int32).toNatClampNeg)]) (rest := [.int r5, .int v3]) ⟨hx, hb, hml, hown, hts⟩ (m_X8_exposed l D cI cC cZ cR mo mo1 mo2 mo3 mo4 mo5 _ kn le_ s_ past slo isv pad_ (v4 / 24) (v4 - v4 / 24 * 24) (s_ (4 : Int32).toNatClampNeg)   r6 hcr6) (cwV 3 hts gX8_bent_X8_exposed rfl rfl rfl (by decide +kernel) ⟨Nat.le_of_ble_eq_true rfl, Nat.le_of_ble_eq_true rfl⟩) (cPc_pv hPc hK hDc (ci := 8) (q0 := 0) rfl rfl) rfl rfl hl.1 rfl (lv_room (Nat.le_of_ble_eq_true rfl)) dX8_bent_59 ⟨Nat.le_of_ble_eq_true rfl, Nat.le_of_ble_eq_true rfl⟩) hS (fun q _ h => hFc q h) hFc (fun xq u t H1 locs ht hvm hw hB hz1 hk1 hS => ?_)
        rw [hw]
        obtain ⟨hP1, hD1⟩ := hB
        rw [ht] at hP1
        obtain ⟨hP, hD⟩ := va_join (wr := []) (w1 := (ws_model cI cC cZ cR mo mo1 mo2 mo3 mo4 mo5 kn le_ s_ past slo isv pad_)) hP hD [0, 1, 2, 3, 4, 5] [] rfl rfl (by decide) (by decide) hk1 hFc hP1 hD1
        generalize H1 = H at hP hS ⊢
        have hP : va_P D vwCl (ws_model cI cC cZ cR mo mo1 mo2 mo3 mo4 mo5 kn le_ s_ past slo isv pad_) H := hP
        have hD : va_D A (ws_model cI cC cZ cR mo mo1 mo2 mo3 mo4 mo5 kn le_ s_ past slo isv pad_) := hD
        obtain ⟨j70, hj70, h⟩ := jn_sp h
        have J70 : ∀ (j7 : Int32) (H : Heap) (locs : List Loc) (ls : Array Slot), j70 j7 = some r → va_P D vwCl (ws_model cI cC cZ cR mo mo1 mo2 mo3 mo4 mo5 kn le_ s_ past slo isv pad_) H → va_D A (ws_model cI cC cZ cR mo mo1 mo2 mo3 mo4 mo5 kn le_ s_ past slo isv pad_) → va_S A s.heap H locs → lv_has ls 4 [(0, .ref mo), (1, .int v3), (2, .int v4), (3, .int r5)] → W p l e R_X8_bent s m ([.ref mo] : List Value).toArray below meth c H locs 0 0 Q (F0 m 70 ls [.int j7, .int v3]) := by
          intro j7 H locs ls h hP hD hS hl
          rw [hj70] at h
          refine lv_iadd hx hb dX8_bent_70 ?_
          refine lv_topi (fun x8 ex8 => ?_)
          replace h := bd_s2 h ex8
          refine lv_istore_n (lv' := [(1, .int x8), (0, .ref mo), (2, .int v4), (3, .int r5)]) hx hb dX8_bent_71 rfl hl (by decide) rfl (fun ls hl => ?_)
          obtain ⟨x9, ex9, h⟩ := bd_sp h
          refine lv_iinc (v := x9) (lv' := [(2, .int x9), (1, .int x8), (0, .ref mo), (3, .int r5)]) hx hb dX8_bent_72 hl (k := 2) rfl (by rw [ex9]; rfl) (by decide) rfl (fun ls hl => ?_)
          refine lv_goto (tgt := 4) hx hb dX8_bent_75 (by decide) ?_
          exact ih _ _ _ _ _ h hP hD hS (lv_sub hl [2, 1, 0] rfl)
        refine lv_icmp_ne (tgt := 69) hx hb dX8_bent_62 (by decide) (fun c10 => ?_) (fun c10 => ?_)
        · replace h := br_p c10 h
          refine lv_iconst (v := 1) hx hb dX8_bent_69 (by decide) ?_
          exact J70 _ _ _ _ h hP hD hS (lv_sub hl [1, 2, 3, 0] rfl)
        · replace h := br_n (not_not_intro c10) h
          refine lv_iconst (v := 0) hx hb dX8_bent_65 (by decide) ?_
          refine lv_goto (tgt := 70) hx hb dX8_bent_66 (by decide) ?_
          exact J70 _ _ _ _ h hP hD hS (lv_sub hl [1, 2, 3, 0] rfl)
  refine L4 _ (fun w12 w13 H locs ls h hP hD hS hl => ?_) 4000 0 0 _ _ _ h hP hD hS (lv_sub hl [2, 1, 0] rfl)
  refine lv_iload_n hx hb dX8_bent_78 rfl (lv_at hl 1 rfl) ?_
  have e9 := Option.some.inj h
  subst e9
  rw [hQ]
  exact W.iret (v := w12) hx hb hr (fun t ht hW => ⟨⟨w12, (), rfl, rfl, by rw [ht]; exact hP, hD⟩, hS.F ht⟩) hS.2.2 dX8_bent_79
-- LeaningLinesModel.flashed
abbrev OUT_X8_flashed : Type := Int32
def f_X8_flashed (s_ : Nat → Int32) : Option OUT_X8_flashed :=
  gd 7 465 ((if 0 ≤ (s_ (7 : Int32).toNatClampNeg) then gd 7 465 (gd 8 465 (bn (f_X8_burnsIn s_ (s_ (7 : Int32).toNatClampNeg) (s_ (8 : Int32).toNatClampNeg)) (fun r1 => some (r1)))) else some (0)))
theorem uX8_flashed_X8 : ∀ w ∈ wsX80, w ∈ wsX8_flashed := by decide +kernel
theorem kX8_flashed_1 : Cond.fieldLink RX8 7 "LeaningLinesModel" "s" "[I" ∈ wsX8_flashed := by decide +kernel
abbrev R_X8_flashed : Room := { frames := 2, cells := 0, slots := 0, locals := 47 }
set_option maxHeartbeats 4000000 in
set_option maxRecDepth 100000 in
theorem m_X8_flashed (l : Launch) (D : va_G) (cI cC cZ cR : ClassId) (mo mo1 mo2 mo3 mo4 mo5 : Nat) (sz : Nat) (kn : Int32) (le_ : Int32) (s_ : Nat → Int32) (past : Nat → Int32) (slo : Nat → Int32) (isv : Nat → Int32) (pad_ : Nat → Int32)     (r : OUT_X8_flashed) (hf : f_X8_flashed s_ = some r) : Met l yX8_flashed wsX8_flashed R_X8_flashed (cPc D cI cC cZ cR [.ref mo] sz (ws_model cI cC cZ cR mo mo1 mo2 mo3 mo4 mo5 kn le_ s_ past slo isv pad_)) (cQi D (ws_model cI cC cZ cR mo mo1 mo2 mo3 mo4 mo5 kn le_ s_ past slo isv pad_) (va_A (ws_model cI cC cZ cR mo mo1 mo2 mo3 mo4 mo5 kn le_ s_ past slo isv pad_) sz) r) 0 0 (va_A (ws_model cI cC cZ cR mo mo1 mo2 mo3 mo4 mo5 kn le_ s_ past slo isv pad_) sz) := by
  refine Met.ofW (cc := cX8_flashed) (maxL := 1) (ret := (some .int)) (by decide) rfl ?_
  intro p e s m args below meth c s₁ B hml hv
  obtain ⟨rfl, hsz, hP, hK, hD0⟩ := hv
  have hx := B.exec
  have hb := B.bytes
  have hr := B.returns
  have hts := atoms_spec (ws := wsX8_flashed) B.pre
  have hown : s.vm.findClass RX8 = some m.cls := findClass_of_methodNamed B.named
  have hlocks := B.notSynchronized
  subst hsz
  have hD := hD0.self (sz := s.heap.size)
  generalize hAe : va_A (ws_model cI cC cZ cR mo mo1 mo2 mo3 mo4 mo5 kn le_ s_ past slo isv pad_) s.heap.size = A at hD ⊢
  skip
  have hA : ∀ q : Nat, s.heap.size ≤ q → A q := fun q h => by rw [← hAe]; exact Or.inr h
  have hS : va_S A s.heap s.heap [] := va_S.rf
  have hl := lv_entry ([.ref mo]) (n := 1) (Nat.le_of_ble_eq_true rfl)
  rw [lg_entry_eq]
  generalize (lg_sl ([.ref mo]) ++ List.replicate (1 - (lg_sl ([.ref mo])).length) Slot.unset).toArray = ls at hl ⊢
  have hl : lv_has ls 1 [(0, .ref mo)] := hl
  refine W_absQ (fun Q hQ => ?_)
  refine W.eq (g2 := F0 m 0 ls []) rfl ?_
  have h := hf
  unfold f_X8_flashed at h
  refine lv_aload_n hx hb dX8_flashed_0 rfl (lv_at hl 0 rfl) ?_
  refine va_get (D := D) (ci := 8) (v := .ref mo1) (C := RX8) (T := TX8) (N := 7) hx hb hts uX8_flashed_X8 hown hK.1 hP 0 rfl rfl 0 (by decide) (hts _ kX8_flashed_1) (fun _ h9 => h9) rfl dX8_flashed_1 ?_
  refine lv_bipush (v := 7) hx hb dX8_flashed_4 (by decide) ?_
  obtain ⟨hin, h⟩ := gd_sp h
  refine va_iald (D := D) hx hb hK.1 hP 1 0 rfl rfl hin dX8_flashed_6 ?_
  refine lv_if_ge (tgt := 14) hx hb dX8_flashed_7 (by decide) (fun c2 => ?_) (fun c2 => ?_)
  · replace h := br_p c2 h
    refine lv_aload_n hx hb dX8_flashed_14 rfl (lv_at hl 0 rfl) ?_
    refine lv_aload_n hx hb dX8_flashed_15 rfl (lv_at hl 0 rfl) ?_
    refine va_get (D := D) (ci := 8) (v := .ref mo1) (C := RX8) (T := TX8) (N := 7) hx hb hts uX8_flashed_X8 hown hK.1 hP 0 rfl rfl 0 (by decide) (hts _ kX8_flashed_1) (fun _ h9 => h9) rfl dX8_flashed_16 ?_
    refine lv_bipush (v := 7) hx hb dX8_flashed_19 (by decide) ?_
    obtain ⟨hin, h⟩ := gd_sp h
    refine va_iald (D := D) hx hb hK.1 hP 1 0 rfl rfl hin dX8_flashed_21 ?_
    refine lv_aload_n hx hb dX8_flashed_22 rfl (lv_at hl 0 rfl) ?_
    refine va_get (D := D) (ci := 8) (v := .ref mo1) (C := RX8) (T := TX8) (N := 7) hx hb hts uX8_flashed_X8 hown hK.1 hP 0 rfl rfl 0 (by decide) (hts _ kX8_flashed_1) (fun _ h9 => h9) rfl dX8_flashed_23 ?_
    refine lv_bipush (v := 8) hx hb dX8_flashed_26 (by decide) ?_
    obtain ⟨hin, h⟩ := gd_sp h
    refine va_iald (D := D) hx hb hK.1 hP 1 0 rfl rfl hin dX8_flashed_28 ?_
    obtain ⟨r1, hcr1, h⟩ := bn_sp h
    have hPc := hP.sub (ws' := (ws_model cI cC cZ cR mo mo1 mo2 mo3 mo4 mo5 kn le_ s_ past slo isv pad_)) [0, 1, 2, 3, 4, 5] rfl
    have hDc := hD.sub (ws' := (ws_model cI cC cZ cR mo mo1 mo2 mo3 mo4 mo5 kn le_ s_ past slo isv pad_)) [0, 1, 2, 3, 4, 5] (by decide) rfl
    have hFc := va_free (wc := (ws_model cI cC cZ cR mo mo1 mo2 mo3 mo4 mo5 kn le_ s_ past slo isv pad_)) hD hS hA [0, 1, 2, 3, 4, 5] rfl
    refine va_calli (va_runV (As := [.int (s_ (7 : Int32).toNatClampNeg), .int (s_ (8 : Int32).toNatClampNeg)]) (rest := []) ⟨hx, hb, hml, hown, hts⟩ (m_X8_burnsIn l D cI cC cZ cR mo mo1 mo2 mo3 mo4 mo5 _ kn le_ s_ past slo isv pad_ (s_ (7 : Int32).toNatClampNeg) (s_ (8 : Int32).toNatClampNeg)   r1 hcr1) (cwV 2 hts gX8_flashed_X8_burnsIn rfl rfl rfl (by decide +kernel) ⟨Nat.le_of_ble_eq_true rfl, Nat.le_of_ble_eq_true rfl⟩) (cPc_pv hPc hK hDc (ci := 8) (q0 := 0) rfl rfl) rfl rfl hl.1 rfl (lv_room (Nat.le_of_ble_eq_true rfl)) dX8_flashed_29 ⟨Nat.le_of_ble_eq_true rfl, Nat.le_of_ble_eq_true rfl⟩) hS (fun q _ h => hFc q h) hFc (fun xq u t H1 locs ht hvm hw hB hz1 hk1 hS => ?_)
    rw [hw]
    obtain ⟨hP1, hD1⟩ := hB
    rw [ht] at hP1
    obtain ⟨hP, hD⟩ := va_join (wr := []) (w1 := (ws_model cI cC cZ cR mo mo1 mo2 mo3 mo4 mo5 kn le_ s_ past slo isv pad_)) hP hD [0, 1, 2, 3, 4, 5] [] rfl rfl (by decide) (by decide) hk1 hFc hP1 hD1
    generalize H1 = H at hP hS ⊢
    have hP : va_P D vwCl (ws_model cI cC cZ cR mo mo1 mo2 mo3 mo4 mo5 kn le_ s_ past slo isv pad_) H := hP
    have hD : va_D A (ws_model cI cC cZ cR mo mo1 mo2 mo3 mo4 mo5 kn le_ s_ past slo isv pad_) := hD
    have e9 := Option.some.inj h
    subst e9
    rw [hQ]
    exact W.iret (v := r1) hx hb hr (fun t ht hW => ⟨⟨r1, (), rfl, rfl, by rw [ht]; exact hP, hD⟩, hS.F ht⟩) hS.2.2 dX8_flashed_32
  · replace h := br_n c2 h
    refine lv_iconst (v := 0) hx hb dX8_flashed_10 (by decide) ?_
    refine lv_goto (tgt := 32) hx hb dX8_flashed_11 (by decide) ?_
    have e9 := Option.some.inj h
    subst e9
    rw [hQ]
    exact W.iret (v := 0) hx hb hr (fun t ht hW => ⟨⟨0, (), rfl, rfl, by rw [ht]; exact hP, hD⟩, hS.F ht⟩) hS.2.2 dX8_flashed_32
-- LeaningLinesModel.bestFlash
abbrev OUT_X8_bestFlash : Type := Int32
def f_X8_bestFlash_L30 (s_ : Nat → Int32) (a0 : Int32) (k : Int32 → Int32 → Int32 → Option OUT_X8_bestFlash) : Nat → Int32 → Int32 → Int32 → Option OUT_X8_bestFlash
  | 0 => fun _ _ _ => none
  | n + 1 => fun v6 v7 v8 => (if 99 < v8 then k v6 v7 v8 else gd 4 465 (bn (f_X8_burnsIn s_ ((s_ (4 : Int32).toNatClampNeg) + v8) a0) (fun r9 => bn (f_X8_ones r9) (fun r10 => jn (fun (j11 : Int32) => (if r10 ≤ v7 then bd (v8 + 1) (fun x12 => f_X8_bestFlash_L30 s_ a0 k n j11 v7 x12) else bd (v8 + 1) (fun x13 => f_X8_bestFlash_L30 s_ a0 k n j11 r10 x13))) (fun j69 => (if r10 ≤ v7 then j69 v6 else j69 v8))))))
theorem f_X8_bestFlash_L30_s (s_ : Nat → Int32) (a0 : Int32) (k : Int32 → Int32 → Int32 → Option OUT_X8_bestFlash) (n : Nat) (v6 : Int32) (v7 : Int32) (v8 : Int32) : f_X8_bestFlash_L30 s_ a0 k (n + 1) v6 v7 v8 = ((if 99 < v8 then k v6 v7 v8 else gd 4 465 (bn (f_X8_burnsIn s_ ((s_ (4 : Int32).toNatClampNeg) + v8) a0) (fun r9 => bn (f_X8_ones r9) (fun r10 => jn (fun (j11 : Int32) => (if r10 ≤ v7 then bd (v8 + 1) (fun x12 => f_X8_bestFlash_L30 s_ a0 k n j11 v7 x12) else bd (v8 + 1) (fun x13 => f_X8_bestFlash_L30 s_ a0 k n j11 r10 x13))) (fun j69 => (if r10 ≤ v7 then j69 v6 else j69 v8))))))) := rfl
def f_X8_bestFlash (s_ : Nat → Int32) (a0 : Int32) (a1 : Int32) : Option OUT_X8_bestFlash :=
  bn (f_X8_in a0 1 20) (fun r1 => (if r1 = 0 then some ((-2)) else bn (f_X8_in a1 0 1) (fun r2 => (if ¬ r2 = 0 then f_X8_bestFlash_L30 s_ a0 (fun (w17 : Int32) (w18 : Int32) (w19 : Int32) => (if ¬ a1 = 0 then some (w18) else some (w17))) 4000 0 (-1) 0 else some ((-2))))))
theorem uX8_bestFlash_X8 : ∀ w ∈ wsX80, w ∈ wsX8_bestFlash := by decide +kernel
theorem kX8_bestFlash_1 : Cond.fieldLink RX8 7 "LeaningLinesModel" "s" "[I" ∈ wsX8_bestFlash := by decide +kernel
abbrev R_X8_bestFlash : Room := { frames := 2, cells := 0, slots := 0, locals := 47 }
set_option maxHeartbeats 4000000 in
set_option maxRecDepth 100000 in
theorem m_X8_bestFlash (l : Launch) (D : va_G) (cI cC cZ cR : ClassId) (mo mo1 mo2 mo3 mo4 mo5 : Nat) (sz : Nat) (kn : Int32) (le_ : Int32) (s_ : Nat → Int32) (past : Nat → Int32) (slo : Nat → Int32) (isv : Nat → Int32) (pad_ : Nat → Int32)  (a0 : Int32) (a1 : Int32)   (r : OUT_X8_bestFlash) (hf : f_X8_bestFlash s_ a0 a1 = some r) : Met l yX8_bestFlash wsX8_bestFlash R_X8_bestFlash (cPc D cI cC cZ cR [.ref mo, .int a0, .int a1] sz (ws_model cI cC cZ cR mo mo1 mo2 mo3 mo4 mo5 kn le_ s_ past slo isv pad_)) (cQi D (ws_model cI cC cZ cR mo mo1 mo2 mo3 mo4 mo5 kn le_ s_ past slo isv pad_) (va_A (ws_model cI cC cZ cR mo mo1 mo2 mo3 mo4 mo5 kn le_ s_ past slo isv pad_) sz) r) 0 0 (va_A (ws_model cI cC cZ cR mo mo1 mo2 mo3 mo4 mo5 kn le_ s_ past slo isv pad_) sz) := by
  refine Met.ofW (cc := cX8_bestFlash) (maxL := 7) (ret := (some .int)) (by decide) rfl ?_
  intro p e s m args below meth c s₁ B hml hv
  obtain ⟨rfl, hsz, hP, hK, hD0⟩ := hv
  have hx := B.exec
  have hb := B.bytes
  have hr := B.returns
  have hts := atoms_spec (ws := wsX8_bestFlash) B.pre
  have hown : s.vm.findClass RX8 = some m.cls := findClass_of_methodNamed B.named
  have hlocks := B.notSynchronized
  subst hsz
  have hD := hD0.self (sz := s.heap.size)
  generalize hAe : va_A (ws_model cI cC cZ cR mo mo1 mo2 mo3 mo4 mo5 kn le_ s_ past slo isv pad_) s.heap.size = A at hD ⊢
  skip
  have hA : ∀ q : Nat, s.heap.size ≤ q → A q := fun q h => by rw [← hAe]; exact Or.inr h
  have hS : va_S A s.heap s.heap [] := va_S.rf
  have hl := lv_entry ([.ref mo, .int a0, .int a1]) (n := 7) (Nat.le_of_ble_eq_true rfl)
  rw [lg_entry_eq]
  generalize (lg_sl ([.ref mo, .int a0, .int a1]) ++ List.replicate (7 - (lg_sl ([.ref mo, .int a0, .int a1])).length) Slot.unset).toArray = ls at hl ⊢
  have hl : lv_has ls 7 [(0, .ref mo), (1, .int a0), (2, .int a1)] := hl
  refine W_absQ (fun Q hQ => ?_)
  refine W.eq (g2 := F0 m 0 ls []) rfl ?_
  have h := hf
  unfold f_X8_bestFlash at h
  refine lv_iload_n hx hb dX8_bestFlash_0 rfl (lv_at hl 1 rfl) ?_
  refine lv_iconst (v := 1) hx hb dX8_bestFlash_1 (by decide) ?_
  refine lv_bipush (v := 20) hx hb dX8_bestFlash_2 (by decide) ?_
  obtain ⟨r1, hcr1, h⟩ := bn_sp h
  have hPc := hP.sub (ws' := []) [] rfl
  have hDc := hD.sub (ws' := []) [] (by decide) rfl
  have hFc := va_free (wc := []) hD hS hA [] rfl
  refine va_calli (va_runS (As := [.int a0, .int 1, .int 20]) (rest := []) ⟨hx, hb, hml, hown, hts⟩ (m_X8_in l D cI cC cZ cR  _  a0 1 20   r1 hcr1) (va_cwS 3 hts gX8_bestFlash_X8_in rfl rfl rfl (by decide +kernel) ⟨Nat.le_of_ble_eq_true rfl, Nat.le_of_ble_eq_true rfl⟩) (cPc_ps hPc hK hDc) rfl rfl hl.1 rfl (lv_room (Nat.le_of_ble_eq_true rfl)) dX8_bestFlash_4 ⟨Nat.le_of_ble_eq_true rfl, Nat.le_of_ble_eq_true rfl⟩) hS (fun q _ h => hFc q h) hFc (fun xq u t H1 locs ht hvm hw hB hz1 hk1 hS => ?_)
  rw [hw]
  obtain ⟨hP1, hD1⟩ := hB
  rw [ht] at hP1
  obtain ⟨hP, hD⟩ := va_join (wr := [(mo, .inr (8, [.ref mo1, .ref mo2, .int kn, .ref mo3, .ref mo4, .ref mo5, .int le_])), (mo1, .inl (cI, 465, .inl s_)), (mo2, .inl (cI, 2790, .inl past)), (mo3, .inl (cI, 930, .inl slo)), (mo4, .inl (cZ, 2, .inl isv)), (mo5, .inl (cI, 80, .inl pad_))]) (w1 := []) hP hD [] [0, 1, 2, 3, 4, 5] rfl rfl (by decide) (by decide) hk1 hFc hP1 hD1
  generalize H1 = H at hP hS ⊢
  have hP : va_P D vwCl (ws_model cI cC cZ cR mo mo1 mo2 mo3 mo4 mo5 kn le_ s_ past slo isv pad_) H := hP
  have hD : va_D A (ws_model cI cC cZ cR mo mo1 mo2 mo3 mo4 mo5 kn le_ s_ past slo isv pad_) := hD
  refine lv_if_eq (tgt := 19) hx hb dX8_bestFlash_7 (by decide) (fun c22 => ?_) (fun c22 => ?_)
  · replace h := br_p c22 h
    refine lv_bipush (v := (-2)) hx hb dX8_bestFlash_19 (by decide) ?_
    have e9 := Option.some.inj h
    subst e9
    rw [hQ]
    exact W.iret (v := (-2)) hx hb hr (fun t ht hW => ⟨⟨(-2), (), rfl, rfl, by rw [ht]; exact hP, hD⟩, hS.F ht⟩) hS.2.2 dX8_bestFlash_21
  · replace h := br_n c22 h
    refine lv_iload_n hx hb dX8_bestFlash_10 rfl (lv_at hl 2 rfl) ?_
    refine lv_iconst (v := 0) hx hb dX8_bestFlash_11 (by decide) ?_
    refine lv_iconst (v := 1) hx hb dX8_bestFlash_12 (by decide) ?_
    obtain ⟨r2, hcr2, h⟩ := bn_sp h
    have hPc := hP.sub (ws' := []) [] rfl
    have hDc := hD.sub (ws' := []) [] (by decide) rfl
    have hFc := va_free (wc := []) hD hS hA [] rfl
    refine va_calli (va_runS (As := [.int a1, .int 0, .int 1]) (rest := []) ⟨hx, hb, hml, hown, hts⟩ (m_X8_in l D cI cC cZ cR  _  a1 0 1   r2 hcr2) (va_cwS 3 hts gX8_bestFlash_X8_in rfl rfl rfl (by decide +kernel) ⟨Nat.le_of_ble_eq_true rfl, Nat.le_of_ble_eq_true rfl⟩) (cPc_ps hPc hK hDc) rfl rfl hl.1 rfl (lv_room (Nat.le_of_ble_eq_true rfl)) dX8_bestFlash_13 ⟨Nat.le_of_ble_eq_true rfl, Nat.le_of_ble_eq_true rfl⟩) hS (fun q _ h => hFc q h) hFc (fun xq u t H1 locs ht hvm hw hB hz1 hk1 hS => ?_)
    rw [hw]
    obtain ⟨hP1, hD1⟩ := hB
    rw [ht] at hP1
    obtain ⟨hP, hD⟩ := va_join (wr := [(mo, .inr (8, [.ref mo1, .ref mo2, .int kn, .ref mo3, .ref mo4, .ref mo5, .int le_])), (mo1, .inl (cI, 465, .inl s_)), (mo2, .inl (cI, 2790, .inl past)), (mo3, .inl (cI, 930, .inl slo)), (mo4, .inl (cZ, 2, .inl isv)), (mo5, .inl (cI, 80, .inl pad_))]) (w1 := []) hP hD [] [0, 1, 2, 3, 4, 5] rfl rfl (by decide) (by decide) hk1 hFc hP1 hD1
    generalize H1 = H at hP hS ⊢
    have hP : va_P D vwCl (ws_model cI cC cZ cR mo mo1 mo2 mo3 mo4 mo5 kn le_ s_ past slo isv pad_) H := hP
    have hD : va_D A (ws_model cI cC cZ cR mo mo1 mo2 mo3 mo4 mo5 kn le_ s_ past slo isv pad_) := hD
    refine lv_if_ne (tgt := 22) hx hb dX8_bestFlash_16 (by decide) (fun c21 => ?_) (fun c21 => ?_)
    · replace h := br_p c21 h
      refine lv_iconst (v := 0) hx hb dX8_bestFlash_22 (by decide) ?_
      refine lv_istore_n (lv' := [(3, .int 0), (0, .ref mo), (1, .int a0), (2, .int a1)]) hx hb dX8_bestFlash_23 rfl hl (by decide) rfl (fun ls hl => ?_)
      refine lv_iconst (v := (-1)) hx hb dX8_bestFlash_24 (by decide) ?_
      refine lv_istore (lv' := [(4, .int (-1)), (3, .int 0), (0, .ref mo), (1, .int a0), (2, .int a1)]) hx hb dX8_bestFlash_25 hl (by decide) rfl (fun ls hl => ?_)
      refine lv_iconst (v := 0) hx hb dX8_bestFlash_27 (by decide) ?_
      refine lv_istore (lv' := [(5, .int 0), (4, .int (-1)), (3, .int 0), (0, .ref mo), (1, .int a0), (2, .int a1)]) hx hb dX8_bestFlash_28 hl (by decide) rfl (fun ls hl => ?_)
      have L30 : ∀ (k : Int32 → Int32 → Int32 → Option OUT_X8_bestFlash), (∀ (w17 : Int32) (w18 : Int32) (w19 : Int32) (H : Heap) (locs : List Loc) (ls : Array Slot), k w17 w18 w19 = some r → va_P D vwCl (ws_model cI cC cZ cR mo mo1 mo2 mo3 mo4 mo5 kn le_ s_ past slo isv pad_) H → va_D A (ws_model cI cC cZ cR mo mo1 mo2 mo3 mo4 mo5 kn le_ s_ past slo isv pad_) → va_S A s.heap H locs → lv_has ls 7 [(0, .ref mo), (1, .int a0), (2, .int a1), (3, .int w17), (4, .int w18), (5, .int w19)] → W p l e R_X8_bestFlash s m ([.ref mo, .int a0, .int a1] : List Value).toArray below meth c H locs 0 0 Q (F0 m 92 ls [])) → ∀ (n : Nat) (v6 : Int32) (v7 : Int32) (v8 : Int32) (H : Heap) (locs : List Loc) (ls : Array Slot), f_X8_bestFlash_L30 s_ a0 k n v6 v7 v8 = some r → va_P D vwCl (ws_model cI cC cZ cR mo mo1 mo2 mo3 mo4 mo5 kn le_ s_ past slo isv pad_) H → va_D A (ws_model cI cC cZ cR mo mo1 mo2 mo3 mo4 mo5 kn le_ s_ past slo isv pad_) → va_S A s.heap H locs → lv_has ls 7 [(0, .ref mo), (1, .int a0), (2, .int a1), (3, .int v6), (4, .int v7), (5, .int v8)] → W p l e R_X8_bestFlash s m ([.ref mo, .int a0, .int a1] : List Value).toArray below meth c H locs 0 0 Q (F0 m 30 ls []) := by
        intro k K n
        induction n with
        | zero => intro v6 v7 v8 H locs ls h; exact no_sm h
        | succ n ih =>
          intro v6 v7 v8 H locs ls h hP hD hS hl
          rw [f_X8_bestFlash_L30_s] at h
          refine lv_iload hx hb dX8_bestFlash_30 (lv_at hl 5 rfl) ?_
          refine lv_bipush (v := 99) hx hb dX8_bestFlash_32 (by decide) ?_
          refine lv_icmp_gt (tgt := 92) hx hb dX8_bestFlash_34 (by decide) (fun c16 => ?_) (fun c16 => ?_)
          · replace h := br_p c16 h
            exact K _ _ _ _ _ _ h hP hD hS (lv_sub hl [0, 1, 2, 3, 4, 5] rfl)
          · replace h := br_n c16 h
            refine lv_aload_n hx hb dX8_bestFlash_37 rfl (lv_at hl 0 rfl) ?_
            refine lv_aload_n hx hb dX8_bestFlash_38 rfl (lv_at hl 0 rfl) ?_
            refine va_get (D := D) (ci := 8) (v := .ref mo1) (C := RX8) (T := TX8) (N := 7) hx hb hts uX8_bestFlash_X8 hown hK.1 hP 0 rfl rfl 0 (by decide) (hts _ kX8_bestFlash_1) (fun _ h9 => h9) rfl dX8_bestFlash_39 ?_
            refine lv_iconst (v := 4) hx hb dX8_bestFlash_42 (by decide) ?_
            obtain ⟨hin, h⟩ := gd_sp h
            refine va_iald (D := D) hx hb hK.1 hP 1 0 rfl rfl hin dX8_bestFlash_43 ?_
            refine lv_iload hx hb dX8_bestFlash_44 (lv_at hl 5 rfl) ?_
            refine lv_iadd hx hb dX8_bestFlash_46 ?_
            refine lv_iload_n hx hb dX8_bestFlash_47 rfl (lv_at hl 1 rfl) ?_
            obtain ⟨r9, hcr9, h⟩ := bn_sp h
            have hPc := hP.sub (ws' := (ws_model cI cC cZ cR mo mo1 mo2 mo3 mo4 mo5 kn le_ s_ past slo isv pad_)) [0, 1, 2, 3, 4, 5] rfl
            have hDc := hD.sub (ws' := (ws_model cI cC cZ cR mo mo1 mo2 mo3 mo4 mo5 kn le_ s_ past slo isv pad_)) [0, 1, 2, 3, 4, 5] (by decide) rfl
            have hFc := va_free (wc := (ws_model cI cC cZ cR mo mo1 mo2 mo3 mo4 mo5 kn le_ s_ past slo isv pad_)) hD hS hA [0, 1, 2, 3, 4, 5] rfl
            refine va_calli (va_runV (As := [.int ((s_ (4 : Int32).toNatClampNeg) + v8), .int a0]) (rest := []) ⟨hx, hb, hml, hown, hts⟩ (m_X8_burnsIn l D cI cC cZ cR mo mo1 mo2 mo3 mo4 mo5 _ kn le_ s_ past slo isv pad_ ((s_ (4 : Int32).toNatClampNeg) + v8) a0   r9 hcr9) (cwV 2 hts gX8_bestFlash_X8_burnsIn rfl rfl rfl (by decide +kernel) ⟨Nat.le_of_ble_eq_true rfl, Nat.le_of_ble_eq_true rfl⟩) (cPc_pv hPc hK hDc (ci := 8) (q0 := 0) rfl rfl) rfl rfl hl.1 rfl (lv_room (Nat.le_of_ble_eq_true rfl)) dX8_bestFlash_48 ⟨Nat.le_of_ble_eq_true rfl, Nat.le_of_ble_eq_true rfl⟩) hS (fun q _ h => hFc q h) hFc (fun xq u t H1 locs ht hvm hw hB hz1 hk1 hS => ?_)
            rw [hw]
            obtain ⟨hP1, hD1⟩ := hB
            rw [ht] at hP1
            obtain ⟨hP, hD⟩ := va_join (wr := []) (w1 := (ws_model cI cC cZ cR mo mo1 mo2 mo3 mo4 mo5 kn le_ s_ past slo isv pad_)) hP hD [0, 1, 2, 3, 4, 5] [] rfl rfl (by decide) (by decide) hk1 hFc hP1 hD1
            generalize H1 = H at hP hS ⊢
            have hP : va_P D vwCl (ws_model cI cC cZ cR mo mo1 mo2 mo3 mo4 mo5 kn le_ s_ past slo isv pad_) H := hP
            have hD : va_D A (ws_model cI cC cZ cR mo mo1 mo2 mo3 mo4 mo5 kn le_ s_ past slo isv pad_) := hD
            obtain ⟨r10, hcr10, h⟩ := bn_sp h
            have hPc := hP.sub (ws' := []) [] rfl
            have hDc := hD.sub (ws' := []) [] (by decide) rfl
            have hFc := va_free (wc := []) hD hS hA [] rfl
            refine va_calli (va_runS (As := [.int r9]) (rest := []) ⟨hx, hb, hml, hown, hts⟩ (m_X8_ones l D cI cC cZ cR  _  r9   r10 hcr10) (va_cwS 1 hts gX8_bestFlash_X8_ones rfl rfl rfl (by decide +kernel) ⟨Nat.le_of_ble_eq_true rfl, Nat.le_of_ble_eq_true rfl⟩) (cPc_ps hPc hK hDc) rfl rfl hl.1 rfl (lv_room (Nat.le_of_ble_eq_true rfl)) dX8_bestFlash_51 ⟨Nat.le_of_ble_eq_true rfl, Nat.le_of_ble_eq_true rfl⟩) hS (fun q _ h => hFc q h) hFc (fun xq u t H1 locs ht hvm hw hB hz1 hk1 hS => ?_)
            rw [hw]
            obtain ⟨hP1, hD1⟩ := hB
            rw [ht] at hP1
            obtain ⟨hP, hD⟩ := va_join (wr := [(mo, .inr (8, [.ref mo1, .ref mo2, .int kn, .ref mo3, .ref mo4, .ref mo5, .int le_])), (mo1, .inl (cI, 465, .inl s_)), (mo2, .inl (cI, 2790, .inl past)), (mo3, .inl (cI, 930, .inl slo)), (mo4, .inl (cZ, 2, .inl isv)), (mo5, .inl (cI, 80, .inl pad_))]) (w1 := []) hP hD [] [0, 1, 2, 3, 4, 5] rfl rfl (by decide) (by decide) hk1 hFc hP1 hD1
            generalize H1 = H at hP hS ⊢
            have hP : va_P D vwCl (ws_model cI cC cZ cR mo mo1 mo2 mo3 mo4 mo5 kn le_ s_ past slo isv pad_) H := hP
            have hD : va_D A (ws_model cI cC cZ cR mo mo1 mo2 mo3 mo4 mo5 kn le_ s_ past slo isv pad_) := hD
            refine lv_istore (lv' := [(6, .int r10), (0, .ref mo), (1, .int a0), (2, .int a1), (3, .int v6), (4, .int v7), (5, .int v8)]) hx hb dX8_bestFlash_54 hl (by decide) rfl (fun ls hl => ?_)
            refine lv_iload hx hb dX8_bestFlash_56 (lv_at hl 0 rfl) ?_
            refine lv_iload hx hb dX8_bestFlash_58 (lv_at hl 5 rfl) ?_
            obtain ⟨j69, hj69, h⟩ := jn_sp h
            have J69 : ∀ (j11 : Int32) (H : Heap) (locs : List Loc) (ls : Array Slot), j69 j11 = some r → va_P D vwCl (ws_model cI cC cZ cR mo mo1 mo2 mo3 mo4 mo5 kn le_ s_ past slo isv pad_) H → va_D A (ws_model cI cC cZ cR mo mo1 mo2 mo3 mo4 mo5 kn le_ s_ past slo isv pad_) → va_S A s.heap H locs → lv_has ls 7 [(0, .ref mo), (1, .int a0), (2, .int a1), (3, .int v6), (4, .int v7), (5, .int v8), (6, .int r10)] → W p l e R_X8_bestFlash s m ([.ref mo, .int a0, .int a1] : List Value).toArray below meth c H locs 0 0 Q (F0 m 69 ls [.int j11]) := by
              intro j11 H locs ls h hP hD hS hl
              rw [hj69] at h
              refine lv_istore_n (lv' := [(3, .int j11), (0, .ref mo), (1, .int a0), (2, .int a1), (4, .int v7), (5, .int v8), (6, .int r10)]) hx hb dX8_bestFlash_69 rfl hl (by decide) rfl (fun ls hl => ?_)
              refine lv_iload hx hb dX8_bestFlash_70 (lv_at hl 6 rfl) ?_
              refine lv_iload hx hb dX8_bestFlash_72 (lv_at hl 4 rfl) ?_
              refine lv_icmp_le (tgt := 82) hx hb dX8_bestFlash_74 (by decide) (fun c14 => ?_) (fun c14 => ?_)
              · replace h := br_p c14 h
                refine lv_iload hx hb dX8_bestFlash_82 (lv_at hl 4 rfl) ?_
                refine lv_istore (lv' := [(4, .int v7), (3, .int j11), (0, .ref mo), (1, .int a0), (2, .int a1), (5, .int v8), (6, .int r10)]) hx hb dX8_bestFlash_84 hl (by decide) rfl (fun ls hl => ?_)
                obtain ⟨x12, ex12, h⟩ := bd_sp h
                refine lv_iinc (v := x12) (lv' := [(5, .int x12), (4, .int v7), (3, .int j11), (0, .ref mo), (1, .int a0), (2, .int a1), (6, .int r10)]) hx hb dX8_bestFlash_86 hl (k := 5) rfl (by rw [ex12]; rfl) (by decide) rfl (fun ls hl => ?_)
                refine lv_goto (tgt := 30) hx hb dX8_bestFlash_89 (by decide) ?_
                exact ih _ _ _ _ _ _ h hP hD hS (lv_sub hl [3, 4, 5, 2, 1, 0] rfl)
              · replace h := br_n c14 h
                refine lv_iload hx hb dX8_bestFlash_77 (lv_at hl 6 rfl) ?_
                refine lv_goto (tgt := 84) hx hb dX8_bestFlash_79 (by decide) ?_
                refine lv_istore (lv' := [(4, .int r10), (3, .int j11), (0, .ref mo), (1, .int a0), (2, .int a1), (5, .int v8), (6, .int r10)]) hx hb dX8_bestFlash_84 hl (by decide) rfl (fun ls hl => ?_)
                obtain ⟨x13, ex13, h⟩ := bd_sp h
                refine lv_iinc (v := x13) (lv' := [(5, .int x13), (4, .int r10), (3, .int j11), (0, .ref mo), (1, .int a0), (2, .int a1), (6, .int r10)]) hx hb dX8_bestFlash_86 hl (k := 5) rfl (by rw [ex13]; rfl) (by decide) rfl (fun ls hl => ?_)
                refine lv_goto (tgt := 30) hx hb dX8_bestFlash_89 (by decide) ?_
                exact ih _ _ _ _ _ _ h hP hD hS (lv_sub hl [3, 4, 5, 2, 1, 0] rfl)
            refine lv_icmp_le (tgt := 68) hx hb dX8_bestFlash_60 (by decide) (fun c15 => ?_) (fun c15 => ?_)
            · replace h := br_p c15 h
              refine lv_iload_n hx hb dX8_bestFlash_68 rfl (lv_at hl 4 rfl) ?_
              exact J69 _ _ _ _ h hP hD hS (lv_sub hl [1, 2, 3, 4, 5, 6, 0] rfl)
            · replace h := br_n c15 h
              refine lv_iload hx hb dX8_bestFlash_63 (lv_at hl 6 rfl) ?_
              refine lv_goto (tgt := 69) hx hb dX8_bestFlash_65 (by decide) ?_
              exact J69 _ _ _ _ h hP hD hS (lv_sub hl [1, 2, 3, 4, 5, 6, 0] rfl)
      refine L30 _ (fun w17 w18 w19 H locs ls h hP hD hS hl => ?_) 4000 0 (-1) 0 _ _ _ h hP hD hS (lv_sub hl [3, 4, 5, 2, 1, 0] rfl)
      refine lv_iload_n hx hb dX8_bestFlash_92 rfl (lv_at hl 2 rfl) ?_
      refine lv_if_ne (tgt := 100) hx hb dX8_bestFlash_93 (by decide) (fun c20 => ?_) (fun c20 => ?_)
      · replace h := br_p c20 h
        refine lv_iload hx hb dX8_bestFlash_100 (lv_at hl 4 rfl) ?_
        have e9 := Option.some.inj h
        subst e9
        rw [hQ]
        exact W.iret (v := w18) hx hb hr (fun t ht hW => ⟨⟨w18, (), rfl, rfl, by rw [ht]; exact hP, hD⟩, hS.F ht⟩) hS.2.2 dX8_bestFlash_102
      · replace h := br_n (not_not_intro c20) h
        refine lv_iload_n hx hb dX8_bestFlash_96 rfl (lv_at hl 3 rfl) ?_
        refine lv_goto (tgt := 102) hx hb dX8_bestFlash_97 (by decide) ?_
        have e9 := Option.some.inj h
        subst e9
        rw [hQ]
        exact W.iret (v := w17) hx hb hr (fun t ht hW => ⟨⟨w17, (), rfl, rfl, by rw [ht]; exact hP, hD⟩, hS.F ht⟩) hS.2.2 dX8_bestFlash_102
    · replace h := br_n (not_not_intro c21) h
      refine lv_bipush (v := (-2)) hx hb dX8_bestFlash_19 (by decide) ?_
      have e9 := Option.some.inj h
      subst e9
      rw [hQ]
      exact W.iret (v := (-2)) hx hb hr (fun t ht hW => ⟨⟨(-2), (), rfl, rfl, by rw [ht]; exact hP, hD⟩, hS.F ht⟩) hS.2.2 dX8_bestFlash_21
-- LeaningLinesModel.put
abbrev OUT_X8_put : Type := Int32 × Int32 × (Nat → Int32)
def f_X8_put_L136 (a0 : Int64) (k : Int32 → Int32 → (Nat → Int32) → Option OUT_X8_put) : Nat → Int32 → Int32 → (Nat → Int32) → Option OUT_X8_put
  | 0 => fun _ _ _ => none
  | n + 1 => fun v32 v33 v34 => (if v32 < 0 then k v32 v33 v34 else gd v33 80 (bd (v32 + (-1)) (fun x35 => f_X8_put_L136 a0 k n x35 (v33 + 1) (upd v34 v33.toNatClampNeg ((((a0 >>> (((8 * v32) : Int32).toInt64 &&& 63)) &&& 255) : Int64).toInt32)))))
theorem f_X8_put_L136_s (a0 : Int64) (k : Int32 → Int32 → (Nat → Int32) → Option OUT_X8_put) (n : Nat) (v32 : Int32) (v33 : Int32) (v34 : Nat → Int32) : f_X8_put_L136 a0 k (n + 1) v32 v33 v34 = ((if v32 < 0 then k v32 v33 v34 else gd v33 80 (bd (v32 + (-1)) (fun x35 => f_X8_put_L136 a0 k n x35 (v33 + 1) (upd v34 v33.toNatClampNeg ((((a0 >>> (((8 * v32) : Int32).toInt64 &&& 63)) &&& 255) : Int64).toInt32)))))) := rfl
def f_X8_put_L11 (a0 : Int64) (k : Int32 → Int32 → Int32 → Int32 → Option OUT_X8_put) : Nat → Int32 → Int32 → Int32 → Int32 → Option OUT_X8_put
  | 0 => fun _ _ _ _ => none
  | n + 1 => fun v5 v6 v7 v8 => (if 8 ≤ v8 then k v5 v6 v7 v8 else bd ((((a0 >>> (((8 * v8) : Int32).toInt64 &&& 63)) &&& 255) : Int64).toInt32) (fun x9 => jn (fun (j10 : Int32) => jn (fun (j11 : Int32) => jn (fun (j12 : Int32) => bd (v5 + j12) (fun x13 => bd (v8 + 1) (fun x14 => f_X8_put_L11 a0 k n x13 j11 j10 x14))) (fun j97 => (if j10 = 0 then j97 1 else j97 0))) (fun j84 => (if v6 = 0 then j84 0 else (if j10 = 0 then bn (f_X8_in x9 33 126) (fun r16 => (if r16 = 0 then j84 0 else j84 1)) else (if ¬ x9 = 0 then j84 0 else j84 1))))) (fun j47 => (if ¬ v7 = 0 then j47 1 else (if ¬ x9 = 0 then j47 0 else j47 1)))))
theorem f_X8_put_L11_s (a0 : Int64) (k : Int32 → Int32 → Int32 → Int32 → Option OUT_X8_put) (n : Nat) (v5 : Int32) (v6 : Int32) (v7 : Int32) (v8 : Int32) : f_X8_put_L11 a0 k (n + 1) v5 v6 v7 v8 = ((if 8 ≤ v8 then k v5 v6 v7 v8 else bd ((((a0 >>> (((8 * v8) : Int32).toInt64 &&& 63)) &&& 255) : Int64).toInt32) (fun x9 => jn (fun (j10 : Int32) => jn (fun (j11 : Int32) => jn (fun (j12 : Int32) => bd (v5 + j12) (fun x13 => bd (v8 + 1) (fun x14 => f_X8_put_L11 a0 k n x13 j11 j10 x14))) (fun j97 => (if j10 = 0 then j97 1 else j97 0))) (fun j84 => (if v6 = 0 then j84 0 else (if j10 = 0 then bn (f_X8_in x9 33 126) (fun r16 => (if r16 = 0 then j84 0 else j84 1)) else (if ¬ x9 = 0 then j84 0 else j84 1))))) (fun j47 => (if ¬ v7 = 0 then j47 1 else (if ¬ x9 = 0 then j47 0 else j47 1)))))) := rfl
def f_X8_put (le_ : Int32) (pad_ : Nat → Int32) (a0 : Int64) : Option OUT_X8_put :=
  f_X8_put_L11 a0 (fun (w24 : Int32) (w25 : Int32) (w26 : Int32) (w27 : Int32) => (if w25 = 0 then some (((-2), le_, pad_)) else (if ¬ w24 = 0 then (if (le_ + w24) ≤ 80 then bd (w24 - 1) (fun x28 => f_X8_put_L136 a0 (fun (w37 : Int32) (w38 : Int32) (w39 : Nat → Int32) => some ((w38, w38, w39))) 4000 x28 le_ pad_) else some (((-4), le_, pad_))) else some (((-2), le_, pad_))))) 4000 0 1 0 0
theorem kX8_put_0 : Cond.constantLong RX8 130 (255) ∈ wsX8_put := by decide +kernel
theorem uX8_put_X8 : ∀ w ∈ wsX80, w ∈ wsX8_put := by decide +kernel
theorem kX8_put_2 : Cond.fieldLink RX8 121 "LeaningLinesModel" "length" "I" ∈ wsX8_put := by decide +kernel
theorem kX8_put_3 : Cond.fieldLink RX8 23 "LeaningLinesModel" "pad" "[I" ∈ wsX8_put := by decide +kernel
abbrev R_X8_put : Room := { frames := 1, cells := 0, slots := 0, locals := 22 }
set_option maxHeartbeats 4000000 in
set_option maxRecDepth 100000 in
theorem m_X8_put (l : Launch) (D : va_G) (cI cC cZ cR : ClassId) (mo mo1 mo2 mo3 mo4 mo5 : Nat) (sz : Nat) (kn : Int32) (le_ : Int32) (s_ : Nat → Int32) (past : Nat → Int32) (slo : Nat → Int32) (isv : Nat → Int32) (pad_ : Nat → Int32)  (a0 : Int64)   (r : OUT_X8_put) (hf : f_X8_put le_ pad_ a0 = some r) : Met l yX8_put wsX8_put R_X8_put (cPc D cI cC cZ cR [.ref mo, .long a0] sz (ws_model cI cC cZ cR mo mo1 mo2 mo3 mo4 mo5 kn le_ s_ past slo isv pad_)) (cQi D (ws_model cI cC cZ cR mo mo1 mo2 mo3 mo4 mo5 kn r.2.1 s_ past slo isv r.2.2) (va_A (ws_model cI cC cZ cR mo mo1 mo2 mo3 mo4 mo5 kn le_ s_ past slo isv pad_) sz) r.1) 0 0 (va_A (ws_model cI cC cZ cR mo mo1 mo2 mo3 mo4 mo5 kn le_ s_ past slo isv pad_) sz) := by
  refine Met.ofW (cc := cX8_put) (maxL := 8) (ret := (some .int)) (by decide) rfl ?_
  intro p e s m args below meth c s₁ B hml hv
  obtain ⟨rfl, hsz, hP, hK, hD0⟩ := hv
  have hx := B.exec
  have hb := B.bytes
  have hr := B.returns
  have hts := atoms_spec (ws := wsX8_put) B.pre
  have hown : s.vm.findClass RX8 = some m.cls := findClass_of_methodNamed B.named
  have hlocks := B.notSynchronized
  subst hsz
  have hD := hD0.self (sz := s.heap.size)
  generalize hAe : va_A (ws_model cI cC cZ cR mo mo1 mo2 mo3 mo4 mo5 kn le_ s_ past slo isv pad_) s.heap.size = A at hD ⊢
  skip
  have hA : ∀ q : Nat, s.heap.size ≤ q → A q := fun q h => by rw [← hAe]; exact Or.inr h
  have hS : va_S A s.heap s.heap [] := va_S.rf
  have hl := lv_entry ([.ref mo, .long a0]) (n := 8) (Nat.le_of_ble_eq_true rfl)
  rw [lg_entry_eq]
  generalize (lg_sl ([.ref mo, .long a0]) ++ List.replicate (8 - (lg_sl ([.ref mo, .long a0])).length) Slot.unset).toArray = ls at hl ⊢
  have hl : lv_has ls 8 [(0, .ref mo), (1, .long a0)] := hl
  refine W_absQ (fun Q hQ => ?_)
  refine W.eq (g2 := F0 m 0 ls []) rfl ?_
  have h := hf
  unfold f_X8_put at h
  refine lv_iconst (v := 0) hx hb dX8_put_0 (by decide) ?_
  refine lv_istore_n (lv' := [(3, .int 0), (0, .ref mo), (1, .long a0)]) hx hb dX8_put_1 rfl hl (by decide) rfl (fun ls hl => ?_)
  refine lv_iconst (v := 1) hx hb dX8_put_2 (by decide) ?_
  refine lv_istore (lv' := [(4, .int 1), (3, .int 0), (0, .ref mo), (1, .long a0)]) hx hb dX8_put_3 hl (by decide) rfl (fun ls hl => ?_)
  refine lv_iconst (v := 0) hx hb dX8_put_5 (by decide) ?_
  refine lv_istore (lv' := [(5, .int 0), (4, .int 1), (3, .int 0), (0, .ref mo), (1, .long a0)]) hx hb dX8_put_6 hl (by decide) rfl (fun ls hl => ?_)
  refine lv_iconst (v := 0) hx hb dX8_put_8 (by decide) ?_
  refine lv_istore (lv' := [(6, .int 0), (5, .int 0), (4, .int 1), (3, .int 0), (0, .ref mo), (1, .long a0)]) hx hb dX8_put_9 hl (by decide) rfl (fun ls hl => ?_)
  have L11 : ∀ (k : Int32 → Int32 → Int32 → Int32 → Option OUT_X8_put), (∀ (w24 : Int32) (w25 : Int32) (w26 : Int32) (w27 : Int32) (H : Heap) (locs : List Loc) (ls : Array Slot), k w24 w25 w26 w27 = some r → va_P D vwCl (ws_model cI cC cZ cR mo mo1 mo2 mo3 mo4 mo5 kn le_ s_ past slo isv pad_) H → va_D A (ws_model cI cC cZ cR mo mo1 mo2 mo3 mo4 mo5 kn le_ s_ past slo isv pad_) → va_S A s.heap H locs → lv_has ls 8 [(0, .ref mo), (1, .long a0), (3, .int w24), (4, .int w25), (5, .int w26), (6, .int w27)] → W p l e R_X8_put s m ([.ref mo, .long a0] : List Value).toArray below meth c H locs 0 0 Q (F0 m 105 ls [])) → ∀ (n : Nat) (v5 : Int32) (v6 : Int32) (v7 : Int32) (v8 : Int32) (H : Heap) (locs : List Loc) (ls : Array Slot), f_X8_put_L11 a0 k n v5 v6 v7 v8 = some r → va_P D vwCl (ws_model cI cC cZ cR mo mo1 mo2 mo3 mo4 mo5 kn le_ s_ past slo isv pad_) H → va_D A (ws_model cI cC cZ cR mo mo1 mo2 mo3 mo4 mo5 kn le_ s_ past slo isv pad_) → va_S A s.heap H locs → lv_has ls 8 [(0, .ref mo), (1, .long a0), (3, .int v5), (4, .int v6), (5, .int v7), (6, .int v8)] → W p l e R_X8_put s m ([.ref mo, .long a0] : List Value).toArray below meth c H locs 0 0 Q (F0 m 11 ls []) := by
    intro k K n
    induction n with
    | zero => intro v5 v6 v7 v8 H locs ls h; exact no_sm h
    | succ n ih =>
      intro v5 v6 v7 v8 H locs ls h hP hD hS hl
      rw [f_X8_put_L11_s] at h
      refine lv_iload hx hb dX8_put_11 (lv_at hl 5 rfl) ?_
      refine lv_bipush (v := 8) hx hb dX8_put_13 (by decide) ?_
      refine lv_icmp_ge (tgt := 105) hx hb dX8_put_15 (by decide) (fun c23 => ?_) (fun c23 => ?_)
      · replace h := br_p c23 h
        exact K _ _ _ _ _ _ _ h hP hD hS (lv_sub hl [0, 1, 2, 3, 4, 5] rfl)
      · replace h := br_n c23 h
        refine lv_lload_n hx hb dX8_put_18 rfl (lv_at hl 1 rfl) ?_
        refine lv_bipush (v := 8) hx hb dX8_put_19 (by decide) ?_
        refine lv_iload hx hb dX8_put_21 (lv_at hl 5 rfl) ?_
        refine lv_imul hx hb dX8_put_23 ?_
        refine lv_lshr (v := a0 >>> (((8 * v8) : Int32).toInt64 &&& 63)) hx hb dX8_put_24 rfl ?_
        refine lv_ldc2 (v := 255) hx hb hown (hts _ kX8_put_0) dX8_put_25 ?_
        refine lv_land hx hb dX8_put_28 ?_
        refine lv_l2i (v := (((a0 >>> (((8 * v8) : Int32).toInt64 &&& 63)) &&& 255) : Int64).toInt32) hx hb dX8_put_29 rfl ?_
        refine lv_topi (fun x9 ex9 => ?_)
        replace h := bd_s2 h ex9
        refine lv_istore (lv' := [(7, .int x9), (0, .ref mo), (1, .long a0), (3, .int v5), (4, .int v6), (5, .int v7), (6, .int v8)]) hx hb dX8_put_30 hl (by decide) rfl (fun ls hl => ?_)
        refine lv_iload hx hb dX8_put_32 (lv_at hl 5 rfl) ?_
        obtain ⟨j47, hj47, h⟩ := jn_sp h
        have J47 : ∀ (j10 : Int32) (H : Heap) (locs : List Loc) (ls : Array Slot), j47 j10 = some r → va_P D vwCl (ws_model cI cC cZ cR mo mo1 mo2 mo3 mo4 mo5 kn le_ s_ past slo isv pad_) H → va_D A (ws_model cI cC cZ cR mo mo1 mo2 mo3 mo4 mo5 kn le_ s_ past slo isv pad_) → va_S A s.heap H locs → lv_has ls 8 [(0, .ref mo), (1, .long a0), (3, .int v5), (4, .int v6), (5, .int v7), (6, .int v8), (7, .int x9)] → W p l e R_X8_put s m ([.ref mo, .long a0] : List Value).toArray below meth c H locs 0 0 Q (F0 m 47 ls [.int j10]) := by
          intro j10 H locs ls h hP hD hS hl
          rw [hj47] at h
          refine lv_istore (lv' := [(5, .int j10), (0, .ref mo), (1, .long a0), (3, .int v5), (4, .int v6), (6, .int v8), (7, .int x9)]) hx hb dX8_put_47 hl (by decide) rfl (fun ls hl => ?_)
          refine lv_iload hx hb dX8_put_49 (lv_at hl 4 rfl) ?_
          obtain ⟨j84, hj84, h⟩ := jn_sp h
          have J84 : ∀ (j11 : Int32) (H : Heap) (locs : List Loc) (ls : Array Slot), j84 j11 = some r → va_P D vwCl (ws_model cI cC cZ cR mo mo1 mo2 mo3 mo4 mo5 kn le_ s_ past slo isv pad_) H → va_D A (ws_model cI cC cZ cR mo mo1 mo2 mo3 mo4 mo5 kn le_ s_ past slo isv pad_) → va_S A s.heap H locs → lv_has ls 8 [(0, .ref mo), (1, .long a0), (3, .int v5), (4, .int v6), (5, .int j10), (6, .int v8), (7, .int x9)] → W p l e R_X8_put s m ([.ref mo, .long a0] : List Value).toArray below meth c H locs 0 0 Q (F0 m 84 ls [.int j11]) := by
            intro j11 H locs ls h hP hD hS hl
            rw [hj84] at h
            refine lv_istore (lv' := [(4, .int j11), (0, .ref mo), (1, .long a0), (3, .int v5), (5, .int j10), (6, .int v8), (7, .int x9)]) hx hb dX8_put_84 hl (by decide) rfl (fun ls hl => ?_)
            refine lv_iload_n hx hb dX8_put_86 rfl (lv_at hl 3 rfl) ?_
            refine lv_iload hx hb dX8_put_87 (lv_at hl 4 rfl) ?_
            obtain ⟨j97, hj97, h⟩ := jn_sp h
            have J97 : ∀ (j12 : Int32) (H : Heap) (locs : List Loc) (ls : Array Slot), j97 j12 = some r → va_P D vwCl (ws_model cI cC cZ cR mo mo1 mo2 mo3 mo4 mo5 kn le_ s_ past slo isv pad_) H → va_D A (ws_model cI cC cZ cR mo mo1 mo2 mo3 mo4 mo5 kn le_ s_ past slo isv pad_) → va_S A s.heap H locs → lv_has ls 8 [(0, .ref mo), (1, .long a0), (3, .int v5), (4, .int j11), (5, .int j10), (6, .int v8), (7, .int x9)] → W p l e R_X8_put s m ([.ref mo, .long a0] : List Value).toArray below meth c H locs 0 0 Q (F0 m 97 ls [.int j12, .int v5]) := by
              intro j12 H locs ls h hP hD hS hl
              rw [hj97] at h
              refine lv_iadd hx hb dX8_put_97 ?_
              refine lv_topi (fun x13 ex13 => ?_)
              replace h := bd_s2 h ex13
              refine lv_istore_n (lv' := [(3, .int x13), (0, .ref mo), (1, .long a0), (4, .int j11), (5, .int j10), (6, .int v8), (7, .int x9)]) hx hb dX8_put_98 rfl hl (by decide) rfl (fun ls hl => ?_)
              obtain ⟨x14, ex14, h⟩ := bd_sp h
              refine lv_iinc (v := x14) (lv' := [(6, .int x14), (3, .int x13), (0, .ref mo), (1, .long a0), (4, .int j11), (5, .int j10), (7, .int x9)]) hx hb dX8_put_99 hl (k := 5) rfl (by rw [ex14]; rfl) (by decide) rfl (fun ls hl => ?_)
              refine lv_goto (tgt := 11) hx hb dX8_put_102 (by decide) ?_
              exact ih _ _ _ _ _ _ _ h hP hD hS (lv_sub hl [2, 3, 1, 4, 5, 0] rfl)
            refine lv_if_eq (tgt := 96) hx hb dX8_put_89 (by decide) (fun c15 => ?_) (fun c15 => ?_)
            · replace h := br_p c15 h
              refine lv_iconst (v := 1) hx hb dX8_put_96 (by decide) ?_
              exact J97 _ _ _ _ h hP hD hS (lv_sub hl [1, 2, 3, 0, 4, 5, 6] rfl)
            · replace h := br_n c15 h
              refine lv_iconst (v := 0) hx hb dX8_put_92 (by decide) ?_
              refine lv_goto (tgt := 97) hx hb dX8_put_93 (by decide) ?_
              exact J97 _ _ _ _ h hP hD hS (lv_sub hl [1, 2, 3, 0, 4, 5, 6] rfl)
          refine lv_if_eq (tgt := 83) hx hb dX8_put_51 (by decide) (fun c20 => ?_) (fun c20 => ?_)
          · replace h := br_p c20 h
            refine lv_iconst (v := 0) hx hb dX8_put_83 (by decide) ?_
            exact J84 _ _ _ _ h hP hD hS (lv_sub hl [1, 2, 3, 4, 0, 5, 6] rfl)
          · replace h := br_n c20 h
            refine lv_iload hx hb dX8_put_54 (lv_at hl 0 rfl) ?_
            refine lv_if_eq (tgt := 67) hx hb dX8_put_56 (by decide) (fun c19 => ?_) (fun c19 => ?_)
            · replace h := br_p c19 h
              refine lv_iload hx hb dX8_put_67 (lv_at hl 6 rfl) ?_
              refine lv_bipush (v := 33) hx hb dX8_put_69 (by decide) ?_
              refine lv_bipush (v := 126) hx hb dX8_put_71 (by decide) ?_
              obtain ⟨r16, hcr16, h⟩ := bn_sp h
              have hPc := hP.sub (ws' := []) [] rfl
              have hDc := hD.sub (ws' := []) [] (by decide) rfl
              have hFc := va_free (wc := []) hD hS hA [] rfl
              refine va_calli (va_runS (As := [.int x9, .int 33, .int 126]) (rest := []) ⟨hx, hb, hml, hown, hts⟩ (m_X8_in l D cI cC cZ cR  _  x9 33 126   r16 hcr16) (va_cwS 3 hts gX8_put_X8_in rfl rfl rfl (by decide +kernel) ⟨Nat.le_of_ble_eq_true rfl, Nat.le_of_ble_eq_true rfl⟩) (cPc_ps hPc hK hDc) rfl rfl hl.1 rfl (lv_room (Nat.le_of_ble_eq_true rfl)) dX8_put_73 ⟨Nat.le_of_ble_eq_true rfl, Nat.le_of_ble_eq_true rfl⟩) hS (fun q _ h => hFc q h) hFc (fun xq u t H1 locs ht hvm hw hB hz1 hk1 hS => ?_)
              rw [hw]
              obtain ⟨hP1, hD1⟩ := hB
              rw [ht] at hP1
              obtain ⟨hP, hD⟩ := va_join (wr := [(mo, .inr (8, [.ref mo1, .ref mo2, .int kn, .ref mo3, .ref mo4, .ref mo5, .int le_])), (mo1, .inl (cI, 465, .inl s_)), (mo2, .inl (cI, 2790, .inl past)), (mo3, .inl (cI, 930, .inl slo)), (mo4, .inl (cZ, 2, .inl isv)), (mo5, .inl (cI, 80, .inl pad_))]) (w1 := []) hP hD [] [0, 1, 2, 3, 4, 5] rfl rfl (by decide) (by decide) hk1 hFc hP1 hD1
              generalize H1 = H at hP hS ⊢
              have hP : va_P D vwCl (ws_model cI cC cZ cR mo mo1 mo2 mo3 mo4 mo5 kn le_ s_ past slo isv pad_) H := hP
              have hD : va_D A (ws_model cI cC cZ cR mo mo1 mo2 mo3 mo4 mo5 kn le_ s_ past slo isv pad_) := hD
              refine lv_if_eq (tgt := 83) hx hb dX8_put_76 (by decide) (fun c17 => ?_) (fun c17 => ?_)
              · replace h := br_p c17 h
                refine lv_iconst (v := 0) hx hb dX8_put_83 (by decide) ?_
                exact J84 _ _ _ _ h hP hD hS (lv_sub hl [1, 2, 3, 4, 0, 5, 6] rfl)
              · replace h := br_n c17 h
                refine lv_iconst (v := 1) hx hb dX8_put_79 (by decide) ?_
                refine lv_goto (tgt := 84) hx hb dX8_put_80 (by decide) ?_
                exact J84 _ _ _ _ h hP hD hS (lv_sub hl [1, 2, 3, 4, 0, 5, 6] rfl)
            · replace h := br_n c19 h
              refine lv_iload hx hb dX8_put_59 (lv_at hl 6 rfl) ?_
              refine lv_if_ne (tgt := 83) hx hb dX8_put_61 (by decide) (fun c18 => ?_) (fun c18 => ?_)
              · replace h := br_p c18 h
                refine lv_iconst (v := 0) hx hb dX8_put_83 (by decide) ?_
                exact J84 _ _ _ _ h hP hD hS (lv_sub hl [1, 2, 3, 4, 0, 5, 6] rfl)
              · replace h := br_n (not_not_intro c18) h
                refine lv_goto (tgt := 79) hx hb dX8_put_64 (by decide) ?_
                refine lv_iconst (v := 1) hx hb dX8_put_79 (by decide) ?_
                refine lv_goto (tgt := 84) hx hb dX8_put_80 (by decide) ?_
                exact J84 _ _ _ _ h hP hD hS (lv_sub hl [1, 2, 3, 4, 0, 5, 6] rfl)
        refine lv_if_ne (tgt := 42) hx hb dX8_put_34 (by decide) (fun c22 => ?_) (fun c22 => ?_)
        · replace h := br_p c22 h
          refine lv_iconst (v := 1) hx hb dX8_put_42 (by decide) ?_
          refine lv_goto (tgt := 47) hx hb dX8_put_43 (by decide) ?_
          exact J47 _ _ _ _ h hP hD hS (lv_sub hl [1, 2, 3, 4, 5, 6, 0] rfl)
        · replace h := br_n (not_not_intro c22) h
          refine lv_iload hx hb dX8_put_37 (lv_at hl 0 rfl) ?_
          refine lv_if_ne (tgt := 46) hx hb dX8_put_39 (by decide) (fun c21 => ?_) (fun c21 => ?_)
          · replace h := br_p c21 h
            refine lv_iconst (v := 0) hx hb dX8_put_46 (by decide) ?_
            exact J47 _ _ _ _ h hP hD hS (lv_sub hl [1, 2, 3, 4, 5, 6, 0] rfl)
          · replace h := br_n (not_not_intro c21) h
            refine lv_iconst (v := 1) hx hb dX8_put_42 (by decide) ?_
            refine lv_goto (tgt := 47) hx hb dX8_put_43 (by decide) ?_
            exact J47 _ _ _ _ h hP hD hS (lv_sub hl [1, 2, 3, 4, 5, 6, 0] rfl)
  refine L11 _ (fun w24 w25 w26 w27 H locs ls h hP hD hS hl => ?_) 4000 0 1 0 0 _ _ _ h hP hD hS (lv_sub hl [4, 5, 3, 2, 1, 0] rfl)
  refine lv_iload hx hb dX8_put_105 (lv_at hl 3 rfl) ?_
  refine lv_if_eq (tgt := 114) hx hb dX8_put_107 (by decide) (fun c42 => ?_) (fun c42 => ?_)
  · replace h := br_p c42 h
    refine lv_bipush (v := (-2)) hx hb dX8_put_114 (by decide) ?_
    have e9 := Option.some.inj h
    subst e9
    rw [hQ]
    exact W.iret (v := (-2)) hx hb hr (fun t ht hW => ⟨⟨(-2), (), rfl, rfl, by rw [ht]; exact hP, hD⟩, hS.F ht⟩) hS.2.2 dX8_put_116
  · replace h := br_n c42 h
    refine lv_iload_n hx hb dX8_put_110 rfl (lv_at hl 2 rfl) ?_
    refine lv_if_ne (tgt := 117) hx hb dX8_put_111 (by decide) (fun c41 => ?_) (fun c41 => ?_)
    · replace h := br_p c41 h
      refine lv_aload_n hx hb dX8_put_117 rfl (lv_at hl 0 rfl) ?_
      refine va_get (D := D) (ci := 8) (v := .int le_) (C := RX8) (T := TX8) (N := 7) hx hb hts uX8_put_X8 hown hK.1 hP 0 rfl rfl 6 (by decide) (hts _ kX8_put_2) (fun _ h9 => h9) rfl dX8_put_118 ?_
      refine lv_iload_n hx hb dX8_put_121 rfl (lv_at hl 2 rfl) ?_
      refine lv_iadd hx hb dX8_put_122 ?_
      refine lv_bipush (v := 80) hx hb dX8_put_123 (by decide) ?_
      refine lv_icmp_le (tgt := 131) hx hb dX8_put_125 (by decide) (fun c40 => ?_) (fun c40 => ?_)
      · replace h := br_p c40 h
        refine lv_iload_n hx hb dX8_put_131 rfl (lv_at hl 2 rfl) ?_
        refine lv_iconst (v := 1) hx hb dX8_put_132 (by decide) ?_
        refine lv_isub hx hb dX8_put_133 ?_
        refine lv_topi (fun x28 ex28 => ?_)
        replace h := bd_s2 h ex28
        refine lv_istore (lv' := [(6, .int x28), (0, .ref mo), (1, .long a0), (3, .int w24), (4, .int w25), (5, .int w26)]) hx hb dX8_put_134 hl (by decide) rfl (fun ls hl => ?_)
        have L136 : ∀ (k : Int32 → Int32 → (Nat → Int32) → Option OUT_X8_put), (∀ (w37 : Int32) (w38 : Int32) (w39 : Nat → Int32) (H : Heap) (locs : List Loc) (ls : Array Slot), k w37 w38 w39 = some r → va_P D vwCl (ws_model cI cC cZ cR mo mo1 mo2 mo3 mo4 mo5 kn w38 s_ past slo isv w39) H → va_D A (ws_model cI cC cZ cR mo mo1 mo2 mo3 mo4 mo5 kn w38 s_ past slo isv w39) → va_S A s.heap H locs → lv_has ls 8 [(0, .ref mo), (1, .long a0), (3, .int w24), (4, .int w25), (5, .int w26), (6, .int w37)] → W p l e R_X8_put s m ([.ref mo, .long a0] : List Value).toArray below meth c H locs 0 0 Q (F0 m 178 ls [])) → ∀ (n : Nat) (v32 : Int32) (v33 : Int32) (v34 : Nat → Int32) (H : Heap) (locs : List Loc) (ls : Array Slot), f_X8_put_L136 a0 k n v32 v33 v34 = some r → va_P D vwCl (ws_model cI cC cZ cR mo mo1 mo2 mo3 mo4 mo5 kn v33 s_ past slo isv v34) H → va_D A (ws_model cI cC cZ cR mo mo1 mo2 mo3 mo4 mo5 kn v33 s_ past slo isv v34) → va_S A s.heap H locs → lv_has ls 8 [(0, .ref mo), (1, .long a0), (3, .int w24), (4, .int w25), (5, .int w26), (6, .int v32)] → W p l e R_X8_put s m ([.ref mo, .long a0] : List Value).toArray below meth c H locs 0 0 Q (F0 m 136 ls []) := by
          intro k K n
          induction n with
          | zero => intro v32 v33 v34 H locs ls h; exact no_sm h
          | succ n ih =>
            intro v32 v33 v34 H locs ls h hP hD hS hl
            rw [f_X8_put_L136_s] at h
            refine lv_iload hx hb dX8_put_136 (lv_at hl 5 rfl) ?_
            refine lv_if_lt (tgt := 178) hx hb dX8_put_138 (by decide) (fun c36 => ?_) (fun c36 => ?_)
            · replace h := br_p c36 h
              exact K _ _ _ _ _ _ h hP hD hS (lv_sub hl [0, 1, 2, 3, 4, 5] rfl)
            · replace h := br_n c36 h
              refine lv_aload_n hx hb dX8_put_141 rfl (lv_at hl 0 rfl) ?_
              refine va_get (D := D) (ci := 8) (v := .ref mo5) (C := RX8) (T := TX8) (N := 7) hx hb hts uX8_put_X8 hown hK.1 hP 0 rfl rfl 5 (by decide) (hts _ kX8_put_3) (fun _ h9 => h9) rfl dX8_put_142 ?_
              refine lv_aload_n hx hb dX8_put_145 rfl (lv_at hl 0 rfl) ?_
              refine va_get (D := D) (ci := 8) (v := .int v33) (C := RX8) (T := TX8) (N := 7) hx hb hts uX8_put_X8 hown hK.1 hP 0 rfl rfl 6 (by decide) (hts _ kX8_put_2) (fun _ h9 => h9) rfl dX8_put_146 ?_
              refine lv_lload_n hx hb dX8_put_149 rfl (lv_at hl 1 rfl) ?_
              refine lv_bipush (v := 8) hx hb dX8_put_150 (by decide) ?_
              refine lv_iload hx hb dX8_put_152 (lv_at hl 5 rfl) ?_
              refine lv_imul hx hb dX8_put_154 ?_
              refine lv_lshr (v := a0 >>> (((8 * v32) : Int32).toInt64 &&& 63)) hx hb dX8_put_155 rfl ?_
              refine lv_ldc2 (v := 255) hx hb hown (hts _ kX8_put_0) dX8_put_156 ?_
              refine lv_land hx hb dX8_put_159 ?_
              refine lv_l2i (v := (((a0 >>> (((8 * v32) : Int32).toInt64 &&& 63)) &&& 255) : Int64).toInt32) hx hb dX8_put_160 rfl ?_
              obtain ⟨hin, h⟩ := gd_sp h
              refine va_iast (D := D) hx hb hK.1 hP hD hS 5 0 rfl rfl hin dX8_put_161 (fun H locs hP hD hS => ?_)
              have hP : va_P D vwCl (ws_model cI cC cZ cR mo mo1 mo2 mo3 mo4 mo5 kn v33 s_ past slo isv (upd v34 v33.toNatClampNeg ((((a0 >>> (((8 * v32) : Int32).toInt64 &&& 63)) &&& 255) : Int64).toInt32))) H := hP
              have hD : va_D A (ws_model cI cC cZ cR mo mo1 mo2 mo3 mo4 mo5 kn v33 s_ past slo isv (upd v34 v33.toNatClampNeg ((((a0 >>> (((8 * v32) : Int32).toInt64 &&& 63)) &&& 255) : Int64).toInt32))) := hD
              refine lv_aload_n hx hb dX8_put_162 rfl (lv_at hl 0 rfl) ?_
              refine lv_dup hx hb dX8_put_163 rfl ?_
              refine va_get (D := D) (ci := 8) (v := .int v33) (C := RX8) (T := TX8) (N := 7) hx hb hts uX8_put_X8 hown hK.1 hP 0 rfl rfl 6 (by decide) (hts _ kX8_put_2) (fun _ h9 => h9) rfl dX8_put_164 ?_
              refine lv_iconst (v := 1) hx hb dX8_put_167 (by decide) ?_
              refine lv_iadd hx hb dX8_put_168 ?_
              refine va_put (D := D) (ci := 8) (v := .int (v33 + 1)) (ty := .int) (C := RX8) (T := TX8) (N := 7) hx hb hts uX8_put_X8 tyX8 tyX8_ok nmX8 hown hK.1 hP hD hS 0 rfl rfl 6 (by decide) (hts _ kX8_put_2) (fun _ h9 => h9) rfl (by decide +kernel) rfl rfl (Nat.le_of_ble_eq_true rfl) dX8_put_169 (fun H locs hP hD hS => ?_)
              have hP : va_P D vwCl (ws_model cI cC cZ cR mo mo1 mo2 mo3 mo4 mo5 kn (v33 + 1) s_ past slo isv (upd v34 v33.toNatClampNeg ((((a0 >>> (((8 * v32) : Int32).toInt64 &&& 63)) &&& 255) : Int64).toInt32))) H := hP
              have hD : va_D A (ws_model cI cC cZ cR mo mo1 mo2 mo3 mo4 mo5 kn (v33 + 1) s_ past slo isv (upd v34 v33.toNatClampNeg ((((a0 >>> (((8 * v32) : Int32).toInt64 &&& 63)) &&& 255) : Int64).toInt32))) := hD
              obtain ⟨x35, ex35, h⟩ := bd_sp h
              refine lv_iinc (v := x35) (lv' := [(6, .int x35), (0, .ref mo), (1, .long a0), (3, .int w24), (4, .int w25), (5, .int w26)]) hx hb dX8_put_172 hl (k := 5) rfl (by rw [ex35]; rfl) (by decide) rfl (fun ls hl => ?_)
              refine lv_goto (tgt := 136) hx hb dX8_put_175 (by decide) ?_
              exact ih _ _ _ _ _ _ h hP hD hS (lv_sub hl [1, 2, 3, 4, 5, 0] rfl)
        refine L136 _ (fun w37 w38 w39 H locs ls h hP hD hS hl => ?_) 4000 x28 le_ pad_ _ _ _ h hP hD hS (lv_sub hl [1, 2, 3, 4, 5, 0] rfl)
        refine lv_aload_n hx hb dX8_put_178 rfl (lv_at hl 0 rfl) ?_
        refine va_get (D := D) (ci := 8) (v := .int w38) (C := RX8) (T := TX8) (N := 7) hx hb hts uX8_put_X8 hown hK.1 hP 0 rfl rfl 6 (by decide) (hts _ kX8_put_2) (fun _ h9 => h9) rfl dX8_put_179 ?_
        have e9 := Option.some.inj h
        subst e9
        rw [hQ]
        exact W.iret (v := w38) hx hb hr (fun t ht hW => ⟨⟨w38, (), rfl, rfl, by rw [ht]; exact hP, hD⟩, hS.F ht⟩) hS.2.2 dX8_put_182
      · replace h := br_n c40 h
        refine lv_bipush (v := (-4)) hx hb dX8_put_128 (by decide) ?_
        have e9 := Option.some.inj h
        subst e9
        rw [hQ]
        exact W.iret (v := (-4)) hx hb hr (fun t ht hW => ⟨⟨(-4), (), rfl, rfl, by rw [ht]; exact hP, hD⟩, hS.F ht⟩) hS.2.2 dX8_put_130
    · replace h := br_n (not_not_intro c41) h
      refine lv_bipush (v := (-2)) hx hb dX8_put_114 (by decide) ?_
      have e9 := Option.some.inj h
      subst e9
      rw [hQ]
      exact W.iret (v := (-2)) hx hb hr (fun t ht hW => ⟨⟨(-2), (), rfl, rfl, by rw [ht]; exact hP, hD⟩, hS.F ht⟩) hS.2.2 dX8_put_116
-- LeaningLinesModel.wipe
abbrev OUT_X8_wipe : Type := Int32 × Int32
def f_X8_wipe (le_ : Int32) : Option OUT_X8_wipe :=
  some ((le_, 0))
theorem uX8_wipe_X8 : ∀ w ∈ wsX80, w ∈ wsX8_wipe := by decide +kernel
theorem kX8_wipe_1 : Cond.fieldLink RX8 121 "LeaningLinesModel" "length" "I" ∈ wsX8_wipe := by decide +kernel
abbrev R_X8_wipe : Room := { frames := 0, cells := 0, slots := 0, locals := 0 }
set_option maxHeartbeats 4000000 in
set_option maxRecDepth 100000 in
theorem m_X8_wipe (l : Launch) (D : va_G) (cI cC cZ cR : ClassId) (mo mo1 mo2 mo3 mo4 mo5 : Nat) (sz : Nat) (kn : Int32) (le_ : Int32) (s_ : Nat → Int32) (past : Nat → Int32) (slo : Nat → Int32) (isv : Nat → Int32) (pad_ : Nat → Int32)     (r : OUT_X8_wipe) (hf : f_X8_wipe le_ = some r) : Met l yX8_wipe wsX8_wipe R_X8_wipe (cPc D cI cC cZ cR [.ref mo] sz (ws_model cI cC cZ cR mo mo1 mo2 mo3 mo4 mo5 kn le_ s_ past slo isv pad_)) (cQi D (ws_model cI cC cZ cR mo mo1 mo2 mo3 mo4 mo5 kn r.2 s_ past slo isv pad_) (va_A (ws_model cI cC cZ cR mo mo1 mo2 mo3 mo4 mo5 kn le_ s_ past slo isv pad_) sz) r.1) 0 0 (va_A (ws_model cI cC cZ cR mo mo1 mo2 mo3 mo4 mo5 kn le_ s_ past slo isv pad_) sz) := by
  refine Met.ofW (cc := cX8_wipe) (maxL := 2) (ret := (some .int)) (by decide) rfl ?_
  intro p e s m args below meth c s₁ B hml hv
  obtain ⟨rfl, hsz, hP, hK, hD0⟩ := hv
  have hx := B.exec
  have hb := B.bytes
  have hr := B.returns
  have hts := atoms_spec (ws := wsX8_wipe) B.pre
  have hown : s.vm.findClass RX8 = some m.cls := findClass_of_methodNamed B.named
  have hlocks := B.notSynchronized
  subst hsz
  have hD := hD0.self (sz := s.heap.size)
  generalize hAe : va_A (ws_model cI cC cZ cR mo mo1 mo2 mo3 mo4 mo5 kn le_ s_ past slo isv pad_) s.heap.size = A at hD ⊢
  skip
  have hA : ∀ q : Nat, s.heap.size ≤ q → A q := fun q h => by rw [← hAe]; exact Or.inr h
  have hS : va_S A s.heap s.heap [] := va_S.rf
  have hl := lv_entry ([.ref mo]) (n := 2) (Nat.le_of_ble_eq_true rfl)
  rw [lg_entry_eq]
  generalize (lg_sl ([.ref mo]) ++ List.replicate (2 - (lg_sl ([.ref mo])).length) Slot.unset).toArray = ls at hl ⊢
  have hl : lv_has ls 2 [(0, .ref mo)] := hl
  refine W_absQ (fun Q hQ => ?_)
  refine W.eq (g2 := F0 m 0 ls []) rfl ?_
  have h := hf
  unfold f_X8_wipe at h
  refine lv_aload_n hx hb dX8_wipe_0 rfl (lv_at hl 0 rfl) ?_
  refine va_get (D := D) (ci := 8) (v := .int le_) (C := RX8) (T := TX8) (N := 7) hx hb hts uX8_wipe_X8 hown hK.1 hP 0 rfl rfl 6 (by decide) (hts _ kX8_wipe_1) (fun _ h9 => h9) rfl dX8_wipe_1 ?_
  refine lv_istore_n (lv' := [(1, .int le_), (0, .ref mo)]) hx hb dX8_wipe_4 rfl hl (by decide) rfl (fun ls hl => ?_)
  refine lv_aload_n hx hb dX8_wipe_5 rfl (lv_at hl 1 rfl) ?_
  refine lv_iconst (v := 0) hx hb dX8_wipe_6 (by decide) ?_
  refine va_put (D := D) (ci := 8) (v := .int 0) (ty := .int) (C := RX8) (T := TX8) (N := 7) hx hb hts uX8_wipe_X8 tyX8 tyX8_ok nmX8 hown hK.1 hP hD hS 0 rfl rfl 6 (by decide) (hts _ kX8_wipe_1) (fun _ h9 => h9) rfl (by decide +kernel) rfl rfl (Nat.le_of_ble_eq_true rfl) dX8_wipe_7 (fun H locs hP hD hS => ?_)
  have hP : va_P D vwCl (ws_model cI cC cZ cR mo mo1 mo2 mo3 mo4 mo5 kn 0 s_ past slo isv pad_) H := hP
  have hD : va_D A (ws_model cI cC cZ cR mo mo1 mo2 mo3 mo4 mo5 kn 0 s_ past slo isv pad_) := hD
  refine lv_iload_n hx hb dX8_wipe_10 rfl (lv_at hl 0 rfl) ?_
  have e9 := Option.some.inj h
  subst e9
  rw [hQ]
  exact W.iret (v := le_) hx hb hr (fun t ht hW => ⟨⟨le_, (), rfl, rfl, by rw [ht]; exact hP, hD⟩, hS.F ht⟩) hS.2.2 dX8_wipe_11
-- LeaningLinesModel.undo
abbrev OUT_X8_undo : Type := Int32 × Int32 × (Nat → Int32)
def f_X8_undo_L22 (kn : Int32) (past : Nat → Int32) (k : Int32 → (Nat → Int32) → Option OUT_X8_undo) : Nat → Int32 → (Nat → Int32) → Option OUT_X8_undo
  | 0 => fun _ _ => none
  | n + 1 => fun v3 v4 => (if 465 ≤ v3 then k v3 v4 else gd ((465 * (kn - 1)) + v3) 2790 (gd v3 465 (bd (v3 + 1) (fun x5 => f_X8_undo_L22 kn past k n x5 (upd v4 v3.toNatClampNeg (past ((465 * (kn - 1)) + v3 : Int32).toNatClampNeg))))))
theorem f_X8_undo_L22_s (kn : Int32) (past : Nat → Int32) (k : Int32 → (Nat → Int32) → Option OUT_X8_undo) (n : Nat) (v3 : Int32) (v4 : Nat → Int32) : f_X8_undo_L22 kn past k (n + 1) v3 v4 = ((if 465 ≤ v3 then k v3 v4 else gd ((465 * (kn - 1)) + v3) 2790 (gd v3 465 (bd (v3 + 1) (fun x5 => f_X8_undo_L22 kn past k n x5 (upd v4 v3.toNatClampNeg (past ((465 * (kn - 1)) + v3 : Int32).toNatClampNeg))))))) := rfl
def f_X8_undo (kn : Int32) (s_ : Nat → Int32) (past : Nat → Int32) : Option OUT_X8_undo :=
  (if ¬ kn = 0 then f_X8_undo_L22 kn past (fun (w7 : Int32) (w8 : Nat → Int32) => some ((kn - 1, kn - 1, w8))) 4000 0 s_ else some (((-5), kn, s_)))
theorem uX8_undo_X8 : ∀ w ∈ wsX80, w ∈ wsX8_undo := by decide +kernel
theorem kX8_undo_1 : Cond.fieldLink RX8 26 "LeaningLinesModel" "known" "I" ∈ wsX8_undo := by decide +kernel
theorem kX8_undo_2 : Cond.fieldLink RX8 7 "LeaningLinesModel" "s" "[I" ∈ wsX8_undo := by decide +kernel
theorem kX8_undo_3 : Cond.fieldLink RX8 13 "LeaningLinesModel" "past" "[I" ∈ wsX8_undo := by decide +kernel
abbrev R_X8_undo : Room := { frames := 0, cells := 0, slots := 0, locals := 0 }
set_option maxHeartbeats 4000000 in
set_option maxRecDepth 100000 in
theorem m_X8_undo (l : Launch) (D : va_G) (cI cC cZ cR : ClassId) (mo mo1 mo2 mo3 mo4 mo5 : Nat) (sz : Nat) (kn : Int32) (le_ : Int32) (s_ : Nat → Int32) (past : Nat → Int32) (slo : Nat → Int32) (isv : Nat → Int32) (pad_ : Nat → Int32)     (r : OUT_X8_undo) (hf : f_X8_undo kn s_ past = some r) : Met l yX8_undo wsX8_undo R_X8_undo (cPc D cI cC cZ cR [.ref mo] sz (ws_model cI cC cZ cR mo mo1 mo2 mo3 mo4 mo5 kn le_ s_ past slo isv pad_)) (cQi D (ws_model cI cC cZ cR mo mo1 mo2 mo3 mo4 mo5 r.2.1 le_ r.2.2 past slo isv pad_) (va_A (ws_model cI cC cZ cR mo mo1 mo2 mo3 mo4 mo5 kn le_ s_ past slo isv pad_) sz) r.1) 0 0 (va_A (ws_model cI cC cZ cR mo mo1 mo2 mo3 mo4 mo5 kn le_ s_ past slo isv pad_) sz) := by
  refine Met.ofW (cc := cX8_undo) (maxL := 2) (ret := (some .int)) (by decide) rfl ?_
  intro p e s m args below meth c s₁ B hml hv
  obtain ⟨rfl, hsz, hP, hK, hD0⟩ := hv
  have hx := B.exec
  have hb := B.bytes
  have hr := B.returns
  have hts := atoms_spec (ws := wsX8_undo) B.pre
  have hown : s.vm.findClass RX8 = some m.cls := findClass_of_methodNamed B.named
  have hlocks := B.notSynchronized
  subst hsz
  have hD := hD0.self (sz := s.heap.size)
  generalize hAe : va_A (ws_model cI cC cZ cR mo mo1 mo2 mo3 mo4 mo5 kn le_ s_ past slo isv pad_) s.heap.size = A at hD ⊢
  skip
  have hA : ∀ q : Nat, s.heap.size ≤ q → A q := fun q h => by rw [← hAe]; exact Or.inr h
  have hS : va_S A s.heap s.heap [] := va_S.rf
  have hl := lv_entry ([.ref mo]) (n := 2) (Nat.le_of_ble_eq_true rfl)
  rw [lg_entry_eq]
  generalize (lg_sl ([.ref mo]) ++ List.replicate (2 - (lg_sl ([.ref mo])).length) Slot.unset).toArray = ls at hl ⊢
  have hl : lv_has ls 2 [(0, .ref mo)] := hl
  refine W_absQ (fun Q hQ => ?_)
  refine W.eq (g2 := F0 m 0 ls []) rfl ?_
  have h := hf
  unfold f_X8_undo at h
  refine lv_aload_n hx hb dX8_undo_0 rfl (lv_at hl 0 rfl) ?_
  refine va_get (D := D) (ci := 8) (v := .int kn) (C := RX8) (T := TX8) (N := 7) hx hb hts uX8_undo_X8 hown hK.1 hP 0 rfl rfl 2 (by decide) (hts _ kX8_undo_1) (fun _ h9 => h9) rfl dX8_undo_1 ?_
  refine lv_if_ne (tgt := 10) hx hb dX8_undo_4 (by decide) (fun c9 => ?_) (fun c9 => ?_)
  · replace h := br_p c9 h
    refine lv_aload_n hx hb dX8_undo_10 rfl (lv_at hl 0 rfl) ?_
    refine lv_dup hx hb dX8_undo_11 rfl ?_
    refine va_get (D := D) (ci := 8) (v := .int kn) (C := RX8) (T := TX8) (N := 7) hx hb hts uX8_undo_X8 hown hK.1 hP 0 rfl rfl 2 (by decide) (hts _ kX8_undo_1) (fun _ h9 => h9) rfl dX8_undo_12 ?_
    refine lv_iconst (v := 1) hx hb dX8_undo_15 (by decide) ?_
    refine lv_isub hx hb dX8_undo_16 ?_
    refine va_put (D := D) (ci := 8) (v := .int (kn - 1)) (ty := .int) (C := RX8) (T := TX8) (N := 7) hx hb hts uX8_undo_X8 tyX8 tyX8_ok nmX8 hown hK.1 hP hD hS 0 rfl rfl 2 (by decide) (hts _ kX8_undo_1) (fun _ h9 => h9) rfl (by decide +kernel) rfl rfl (Nat.le_of_ble_eq_true rfl) dX8_undo_17 (fun H locs hP hD hS => ?_)
    have hP : va_P D vwCl (ws_model cI cC cZ cR mo mo1 mo2 mo3 mo4 mo5 (kn - 1) le_ s_ past slo isv pad_) H := hP
    have hD : va_D A (ws_model cI cC cZ cR mo mo1 mo2 mo3 mo4 mo5 (kn - 1) le_ s_ past slo isv pad_) := hD
    refine lv_iconst (v := 0) hx hb dX8_undo_20 (by decide) ?_
    refine lv_istore_n (lv' := [(1, .int 0), (0, .ref mo)]) hx hb dX8_undo_21 rfl hl (by decide) rfl (fun ls hl => ?_)
    have L22 : ∀ (k : Int32 → (Nat → Int32) → Option OUT_X8_undo), (∀ (w7 : Int32) (w8 : Nat → Int32) (H : Heap) (locs : List Loc) (ls : Array Slot), k w7 w8 = some r → va_P D vwCl (ws_model cI cC cZ cR mo mo1 mo2 mo3 mo4 mo5 (kn - 1) le_ w8 past slo isv pad_) H → va_D A (ws_model cI cC cZ cR mo mo1 mo2 mo3 mo4 mo5 (kn - 1) le_ w8 past slo isv pad_) → va_S A s.heap H locs → lv_has ls 2 [(0, .ref mo), (1, .int w7)] → W p l e R_X8_undo s m ([.ref mo] : List Value).toArray below meth c H locs 0 0 Q (F0 m 56 ls [])) → ∀ (n : Nat) (v3 : Int32) (v4 : Nat → Int32) (H : Heap) (locs : List Loc) (ls : Array Slot), f_X8_undo_L22 kn past k n v3 v4 = some r → va_P D vwCl (ws_model cI cC cZ cR mo mo1 mo2 mo3 mo4 mo5 (kn - 1) le_ v4 past slo isv pad_) H → va_D A (ws_model cI cC cZ cR mo mo1 mo2 mo3 mo4 mo5 (kn - 1) le_ v4 past slo isv pad_) → va_S A s.heap H locs → lv_has ls 2 [(0, .ref mo), (1, .int v3)] → W p l e R_X8_undo s m ([.ref mo] : List Value).toArray below meth c H locs 0 0 Q (F0 m 22 ls []) := by
      intro k K n
      induction n with
      | zero => intro v3 v4 H locs ls h; exact no_sm h
      | succ n ih =>
        intro v3 v4 H locs ls h hP hD hS hl
        rw [f_X8_undo_L22_s] at h
        refine lv_iload_n hx hb dX8_undo_22 rfl (lv_at hl 1 rfl) ?_
        refine lv_sipush (v := 465) hx hb dX8_undo_23 (by decide) ?_
        refine lv_icmp_ge (tgt := 56) hx hb dX8_undo_26 (by decide) (fun c6 => ?_) (fun c6 => ?_)
        · replace h := br_p c6 h
          exact K _ _ _ _ _ h hP hD hS (lv_sub hl [0, 1] rfl)
        · replace h := br_n c6 h
          refine lv_aload_n hx hb dX8_undo_29 rfl (lv_at hl 0 rfl) ?_
          refine va_get (D := D) (ci := 8) (v := .ref mo1) (C := RX8) (T := TX8) (N := 7) hx hb hts uX8_undo_X8 hown hK.1 hP 0 rfl rfl 0 (by decide) (hts _ kX8_undo_2) (fun _ h9 => h9) rfl dX8_undo_30 ?_
          refine lv_iload_n hx hb dX8_undo_33 rfl (lv_at hl 1 rfl) ?_
          refine lv_aload_n hx hb dX8_undo_34 rfl (lv_at hl 0 rfl) ?_
          refine va_get (D := D) (ci := 8) (v := .ref mo2) (C := RX8) (T := TX8) (N := 7) hx hb hts uX8_undo_X8 hown hK.1 hP 0 rfl rfl 1 (by decide) (hts _ kX8_undo_3) (fun _ h9 => h9) rfl dX8_undo_35 ?_
          refine lv_sipush (v := 465) hx hb dX8_undo_38 (by decide) ?_
          refine lv_aload_n hx hb dX8_undo_41 rfl (lv_at hl 0 rfl) ?_
          refine va_get (D := D) (ci := 8) (v := .int (kn - 1)) (C := RX8) (T := TX8) (N := 7) hx hb hts uX8_undo_X8 hown hK.1 hP 0 rfl rfl 2 (by decide) (hts _ kX8_undo_1) (fun _ h9 => h9) rfl dX8_undo_42 ?_
          refine lv_imul hx hb dX8_undo_45 ?_
          refine lv_iload_n hx hb dX8_undo_46 rfl (lv_at hl 1 rfl) ?_
          refine lv_iadd hx hb dX8_undo_47 ?_
          obtain ⟨hin, h⟩ := gd_sp h
          refine va_iald (D := D) hx hb hK.1 hP 2 0 rfl rfl hin dX8_undo_48 ?_
          obtain ⟨hin, h⟩ := gd_sp h
          refine va_iast (D := D) hx hb hK.1 hP hD hS 1 0 rfl rfl hin dX8_undo_49 (fun H locs hP hD hS => ?_)
          have hP : va_P D vwCl (ws_model cI cC cZ cR mo mo1 mo2 mo3 mo4 mo5 (kn - 1) le_ (upd v4 v3.toNatClampNeg (past ((465 * (kn - 1)) + v3 : Int32).toNatClampNeg)) past slo isv pad_) H := hP
          have hD : va_D A (ws_model cI cC cZ cR mo mo1 mo2 mo3 mo4 mo5 (kn - 1) le_ (upd v4 v3.toNatClampNeg (past ((465 * (kn - 1)) + v3 : Int32).toNatClampNeg)) past slo isv pad_) := hD
          obtain ⟨x5, ex5, h⟩ := bd_sp h
          refine lv_iinc (v := x5) (lv' := [(1, .int x5), (0, .ref mo)]) hx hb dX8_undo_50 hl (k := 1) rfl (by rw [ex5]; rfl) (by decide) rfl (fun ls hl => ?_)
          refine lv_goto (tgt := 22) hx hb dX8_undo_53 (by decide) ?_
          exact ih _ _ _ _ _ h hP hD hS (lv_sub hl [1, 0] rfl)
    refine L22 _ (fun w7 w8 H locs ls h hP hD hS hl => ?_) 4000 0 s_ _ _ _ h hP hD hS (lv_sub hl [1, 0] rfl)
    refine lv_aload_n hx hb dX8_undo_56 rfl (lv_at hl 0 rfl) ?_
    refine va_get (D := D) (ci := 8) (v := .int (kn - 1)) (C := RX8) (T := TX8) (N := 7) hx hb hts uX8_undo_X8 hown hK.1 hP 0 rfl rfl 2 (by decide) (hts _ kX8_undo_1) (fun _ h9 => h9) rfl dX8_undo_57 ?_
    have e9 := Option.some.inj h
    subst e9
    rw [hQ]
    exact W.iret (v := kn - 1) hx hb hr (fun t ht hW => ⟨⟨kn - 1, (), rfl, rfl, by rw [ht]; exact hP, hD⟩, hS.F ht⟩) hS.2.2 dX8_undo_60
  · replace h := br_n (not_not_intro c9) h
    refine lv_bipush (v := (-5)) hx hb dX8_undo_7 (by decide) ?_
    have e9 := Option.some.inj h
    subst e9
    rw [hQ]
    exact W.iret (v := (-5)) hx hb hr (fun t ht hW => ⟨⟨(-5), (), rfl, rfl, by rw [ht]; exact hP, hD⟩, hS.F ht⟩) hS.2.2 dX8_undo_9
-- LeaningLinesModel.save
abbrev OUT_X8_save : Type := Int32 × (Nat → Int32) × (Nat → Int32)
def f_X8_save_L14 (s_ : Nat → Int32) (a0 : Int32) (k : Int32 → (Nat → Int32) → Option OUT_X8_save) : Nat → Int32 → (Nat → Int32) → Option OUT_X8_save
  | 0 => fun _ _ => none
  | n + 1 => fun v4 v5 => (if 465 ≤ v4 then k v4 v5 else gd v4 465 (gd ((465 * a0) + v4) 930 (bd (v4 + 1) (fun x6 => f_X8_save_L14 s_ a0 k n x6 (upd v5 ((465 * a0) + v4 : Int32).toNatClampNeg (s_ v4.toNatClampNeg))))))
theorem f_X8_save_L14_s (s_ : Nat → Int32) (a0 : Int32) (k : Int32 → (Nat → Int32) → Option OUT_X8_save) (n : Nat) (v4 : Int32) (v5 : Nat → Int32) : f_X8_save_L14 s_ a0 k (n + 1) v4 v5 = ((if 465 ≤ v4 then k v4 v5 else gd v4 465 (gd ((465 * a0) + v4) 930 (bd (v4 + 1) (fun x6 => f_X8_save_L14 s_ a0 k n x6 (upd v5 ((465 * a0) + v4 : Int32).toNatClampNeg (s_ v4.toNatClampNeg))))))) := rfl
def f_X8_save (s_ : Nat → Int32) (slo : Nat → Int32) (isv : Nat → Int32) (a0 : Int32) : Option OUT_X8_save :=
  bn (f_X8_in a0 0 1) (fun r1 => (if ¬ r1 = 0 then f_X8_save_L14 s_ a0 (fun (w8 : Int32) (w9 : Nat → Int32) => gd a0 2 (gd 5 465 (some ((s_ (5 : Int32).toNatClampNeg, w9, upd isv a0.toNatClampNeg (vp_nar .boolean 1)))))) 4000 0 slo else some (((-2), slo, isv))))
theorem uX8_save_X8 : ∀ w ∈ wsX80, w ∈ wsX8_save := by decide +kernel
theorem kX8_save_1 : Cond.fieldLink RX8 16 "LeaningLinesModel" "slots" "[I" ∈ wsX8_save := by decide +kernel
theorem kX8_save_2 : Cond.fieldLink RX8 7 "LeaningLinesModel" "s" "[I" ∈ wsX8_save := by decide +kernel
theorem kX8_save_3 : Cond.fieldLink RX8 19 "LeaningLinesModel" "isSaved" "[Z" ∈ wsX8_save := by decide +kernel
abbrev R_X8_save : Room := { frames := 1, cells := 0, slots := 0, locals := 22 }
set_option maxHeartbeats 4000000 in
set_option maxRecDepth 100000 in
theorem m_X8_save (l : Launch) (D : va_G) (cI cC cZ cR : ClassId) (mo mo1 mo2 mo3 mo4 mo5 : Nat) (sz : Nat) (kn : Int32) (le_ : Int32) (s_ : Nat → Int32) (past : Nat → Int32) (slo : Nat → Int32) (isv : Nat → Int32) (pad_ : Nat → Int32)  (a0 : Int32)   (r : OUT_X8_save) (hf : f_X8_save s_ slo isv a0 = some r) : Met l yX8_save wsX8_save R_X8_save (cPc D cI cC cZ cR [.ref mo, .int a0] sz (ws_model cI cC cZ cR mo mo1 mo2 mo3 mo4 mo5 kn le_ s_ past slo isv pad_)) (cQi D (ws_model cI cC cZ cR mo mo1 mo2 mo3 mo4 mo5 kn le_ s_ past r.2.1 r.2.2 pad_) (va_A (ws_model cI cC cZ cR mo mo1 mo2 mo3 mo4 mo5 kn le_ s_ past slo isv pad_) sz) r.1) 0 0 (va_A (ws_model cI cC cZ cR mo mo1 mo2 mo3 mo4 mo5 kn le_ s_ past slo isv pad_) sz) := by
  refine Met.ofW (cc := cX8_save) (maxL := 3) (ret := (some .int)) (by decide) rfl ?_
  intro p e s m args below meth c s₁ B hml hv
  obtain ⟨rfl, hsz, hP, hK, hD0⟩ := hv
  have hx := B.exec
  have hb := B.bytes
  have hr := B.returns
  have hts := atoms_spec (ws := wsX8_save) B.pre
  have hown : s.vm.findClass RX8 = some m.cls := findClass_of_methodNamed B.named
  have hlocks := B.notSynchronized
  subst hsz
  have hD := hD0.self (sz := s.heap.size)
  generalize hAe : va_A (ws_model cI cC cZ cR mo mo1 mo2 mo3 mo4 mo5 kn le_ s_ past slo isv pad_) s.heap.size = A at hD ⊢
  skip
  have hA : ∀ q : Nat, s.heap.size ≤ q → A q := fun q h => by rw [← hAe]; exact Or.inr h
  have hS : va_S A s.heap s.heap [] := va_S.rf
  have hl := lv_entry ([.ref mo, .int a0]) (n := 3) (Nat.le_of_ble_eq_true rfl)
  rw [lg_entry_eq]
  generalize (lg_sl ([.ref mo, .int a0]) ++ List.replicate (3 - (lg_sl ([.ref mo, .int a0])).length) Slot.unset).toArray = ls at hl ⊢
  have hl : lv_has ls 3 [(0, .ref mo), (1, .int a0)] := hl
  refine W_absQ (fun Q hQ => ?_)
  refine W.eq (g2 := F0 m 0 ls []) rfl ?_
  have h := hf
  unfold f_X8_save at h
  refine lv_iload_n hx hb dX8_save_0 rfl (lv_at hl 1 rfl) ?_
  refine lv_iconst (v := 0) hx hb dX8_save_1 (by decide) ?_
  refine lv_iconst (v := 1) hx hb dX8_save_2 (by decide) ?_
  obtain ⟨r1, hcr1, h⟩ := bn_sp h
  have hPc := hP.sub (ws' := []) [] rfl
  have hDc := hD.sub (ws' := []) [] (by decide) rfl
  have hFc := va_free (wc := []) hD hS hA [] rfl
  refine va_calli (va_runS (As := [.int a0, .int 0, .int 1]) (rest := []) ⟨hx, hb, hml, hown, hts⟩ (m_X8_in l D cI cC cZ cR  _  a0 0 1   r1 hcr1) (va_cwS 3 hts gX8_save_X8_in rfl rfl rfl (by decide +kernel) ⟨Nat.le_of_ble_eq_true rfl, Nat.le_of_ble_eq_true rfl⟩) (cPc_ps hPc hK hDc) rfl rfl hl.1 rfl (lv_room (Nat.le_of_ble_eq_true rfl)) dX8_save_3 ⟨Nat.le_of_ble_eq_true rfl, Nat.le_of_ble_eq_true rfl⟩) hS (fun q _ h => hFc q h) hFc (fun xq u t H1 locs ht hvm hw hB hz1 hk1 hS => ?_)
  rw [hw]
  obtain ⟨hP1, hD1⟩ := hB
  rw [ht] at hP1
  obtain ⟨hP, hD⟩ := va_join (wr := [(mo, .inr (8, [.ref mo1, .ref mo2, .int kn, .ref mo3, .ref mo4, .ref mo5, .int le_])), (mo1, .inl (cI, 465, .inl s_)), (mo2, .inl (cI, 2790, .inl past)), (mo3, .inl (cI, 930, .inl slo)), (mo4, .inl (cZ, 2, .inl isv)), (mo5, .inl (cI, 80, .inl pad_))]) (w1 := []) hP hD [] [0, 1, 2, 3, 4, 5] rfl rfl (by decide) (by decide) hk1 hFc hP1 hD1
  generalize H1 = H at hP hS ⊢
  have hP : va_P D vwCl (ws_model cI cC cZ cR mo mo1 mo2 mo3 mo4 mo5 kn le_ s_ past slo isv pad_) H := hP
  have hD : va_D A (ws_model cI cC cZ cR mo mo1 mo2 mo3 mo4 mo5 kn le_ s_ past slo isv pad_) := hD
  refine lv_if_ne (tgt := 12) hx hb dX8_save_6 (by decide) (fun c10 => ?_) (fun c10 => ?_)
  · replace h := br_p c10 h
    refine lv_iconst (v := 0) hx hb dX8_save_12 (by decide) ?_
    refine lv_istore_n (lv' := [(2, .int 0), (0, .ref mo), (1, .int a0)]) hx hb dX8_save_13 rfl hl (by decide) rfl (fun ls hl => ?_)
    have L14 : ∀ (k : Int32 → (Nat → Int32) → Option OUT_X8_save), (∀ (w8 : Int32) (w9 : Nat → Int32) (H : Heap) (locs : List Loc) (ls : Array Slot), k w8 w9 = some r → va_P D vwCl (ws_model cI cC cZ cR mo mo1 mo2 mo3 mo4 mo5 kn le_ s_ past w9 isv pad_) H → va_D A (ws_model cI cC cZ cR mo mo1 mo2 mo3 mo4 mo5 kn le_ s_ past w9 isv pad_) → va_S A s.heap H locs → lv_has ls 3 [(0, .ref mo), (1, .int a0), (2, .int w8)] → W p l e R_X8_save s m ([.ref mo, .int a0] : List Value).toArray below meth c H locs 0 0 Q (F0 m 45 ls [])) → ∀ (n : Nat) (v4 : Int32) (v5 : Nat → Int32) (H : Heap) (locs : List Loc) (ls : Array Slot), f_X8_save_L14 s_ a0 k n v4 v5 = some r → va_P D vwCl (ws_model cI cC cZ cR mo mo1 mo2 mo3 mo4 mo5 kn le_ s_ past v5 isv pad_) H → va_D A (ws_model cI cC cZ cR mo mo1 mo2 mo3 mo4 mo5 kn le_ s_ past v5 isv pad_) → va_S A s.heap H locs → lv_has ls 3 [(0, .ref mo), (1, .int a0), (2, .int v4)] → W p l e R_X8_save s m ([.ref mo, .int a0] : List Value).toArray below meth c H locs 0 0 Q (F0 m 14 ls []) := by
      intro k K n
      induction n with
      | zero => intro v4 v5 H locs ls h; exact no_sm h
      | succ n ih =>
        intro v4 v5 H locs ls h hP hD hS hl
        rw [f_X8_save_L14_s] at h
        refine lv_iload_n hx hb dX8_save_14 rfl (lv_at hl 2 rfl) ?_
        refine lv_sipush (v := 465) hx hb dX8_save_15 (by decide) ?_
        refine lv_icmp_ge (tgt := 45) hx hb dX8_save_18 (by decide) (fun c7 => ?_) (fun c7 => ?_)
        · replace h := br_p c7 h
          exact K _ _ _ _ _ h hP hD hS (lv_sub hl [0, 1, 2] rfl)
        · replace h := br_n c7 h
          refine lv_aload_n hx hb dX8_save_21 rfl (lv_at hl 0 rfl) ?_
          refine va_get (D := D) (ci := 8) (v := .ref mo3) (C := RX8) (T := TX8) (N := 7) hx hb hts uX8_save_X8 hown hK.1 hP 0 rfl rfl 3 (by decide) (hts _ kX8_save_1) (fun _ h9 => h9) rfl dX8_save_22 ?_
          refine lv_sipush (v := 465) hx hb dX8_save_25 (by decide) ?_
          refine lv_iload_n hx hb dX8_save_28 rfl (lv_at hl 1 rfl) ?_
          refine lv_imul hx hb dX8_save_29 ?_
          refine lv_iload_n hx hb dX8_save_30 rfl (lv_at hl 2 rfl) ?_
          refine lv_iadd hx hb dX8_save_31 ?_
          refine lv_aload_n hx hb dX8_save_32 rfl (lv_at hl 0 rfl) ?_
          refine va_get (D := D) (ci := 8) (v := .ref mo1) (C := RX8) (T := TX8) (N := 7) hx hb hts uX8_save_X8 hown hK.1 hP 0 rfl rfl 0 (by decide) (hts _ kX8_save_2) (fun _ h9 => h9) rfl dX8_save_33 ?_
          refine lv_iload_n hx hb dX8_save_36 rfl (lv_at hl 2 rfl) ?_
          obtain ⟨hin, h⟩ := gd_sp h
          refine va_iald (D := D) hx hb hK.1 hP 1 0 rfl rfl hin dX8_save_37 ?_
          obtain ⟨hin, h⟩ := gd_sp h
          refine va_iast (D := D) hx hb hK.1 hP hD hS 3 0 rfl rfl hin dX8_save_38 (fun H locs hP hD hS => ?_)
          have hP : va_P D vwCl (ws_model cI cC cZ cR mo mo1 mo2 mo3 mo4 mo5 kn le_ s_ past (upd v5 ((465 * a0) + v4 : Int32).toNatClampNeg (s_ v4.toNatClampNeg)) isv pad_) H := hP
          have hD : va_D A (ws_model cI cC cZ cR mo mo1 mo2 mo3 mo4 mo5 kn le_ s_ past (upd v5 ((465 * a0) + v4 : Int32).toNatClampNeg (s_ v4.toNatClampNeg)) isv pad_) := hD
          obtain ⟨x6, ex6, h⟩ := bd_sp h
          refine lv_iinc (v := x6) (lv' := [(2, .int x6), (0, .ref mo), (1, .int a0)]) hx hb dX8_save_39 hl (k := 2) rfl (by rw [ex6]; rfl) (by decide) rfl (fun ls hl => ?_)
          refine lv_goto (tgt := 14) hx hb dX8_save_42 (by decide) ?_
          exact ih _ _ _ _ _ h hP hD hS (lv_sub hl [1, 2, 0] rfl)
    refine L14 _ (fun w8 w9 H locs ls h hP hD hS hl => ?_) 4000 0 slo _ _ _ h hP hD hS (lv_sub hl [1, 2, 0] rfl)
    refine lv_aload_n hx hb dX8_save_45 rfl (lv_at hl 0 rfl) ?_
    refine va_get (D := D) (ci := 8) (v := .ref mo4) (C := RX8) (T := TX8) (N := 7) hx hb hts uX8_save_X8 hown hK.1 hP 0 rfl rfl 4 (by decide) (hts _ kX8_save_3) (fun _ h9 => h9) rfl dX8_save_46 ?_
    refine lv_iload_n hx hb dX8_save_49 rfl (lv_at hl 1 rfl) ?_
    refine lv_iconst (v := 1) hx hb dX8_save_50 (by decide) ?_
    obtain ⟨hin, h⟩ := gd_sp h
    refine va_zast (D := D) hx hb hK.1 hP hD hS 4 2 rfl rfl hin dX8_save_51 (fun H locs hP hD hS => ?_)
    have hP : va_P D vwCl (ws_model cI cC cZ cR mo mo1 mo2 mo3 mo4 mo5 kn le_ s_ past w9 (upd isv a0.toNatClampNeg (vp_nar .boolean 1)) pad_) H := hP
    have hD : va_D A (ws_model cI cC cZ cR mo mo1 mo2 mo3 mo4 mo5 kn le_ s_ past w9 (upd isv a0.toNatClampNeg (vp_nar .boolean 1)) pad_) := hD
    refine lv_aload_n hx hb dX8_save_52 rfl (lv_at hl 0 rfl) ?_
    refine va_get (D := D) (ci := 8) (v := .ref mo1) (C := RX8) (T := TX8) (N := 7) hx hb hts uX8_save_X8 hown hK.1 hP 0 rfl rfl 0 (by decide) (hts _ kX8_save_2) (fun _ h9 => h9) rfl dX8_save_53 ?_
    refine lv_iconst (v := 5) hx hb dX8_save_56 (by decide) ?_
    obtain ⟨hin, h⟩ := gd_sp h
    refine va_iald (D := D) hx hb hK.1 hP 1 0 rfl rfl hin dX8_save_57 ?_
    have e9 := Option.some.inj h
    subst e9
    rw [hQ]
    exact W.iret (v := s_ (5 : Int32).toNatClampNeg) hx hb hr (fun t ht hW => ⟨⟨s_ (5 : Int32).toNatClampNeg, (), rfl, rfl, by rw [ht]; exact hP, hD⟩, hS.F ht⟩) hS.2.2 dX8_save_58
  · replace h := br_n (not_not_intro c10) h
    refine lv_bipush (v := (-2)) hx hb dX8_save_9 (by decide) ?_
    have e9 := Option.some.inj h
    subst e9
    rw [hQ]
    exact W.iret (v := (-2)) hx hb hr (fun t ht hW => ⟨⟨(-2), (), rfl, rfl, by rw [ht]; exact hP, hD⟩, hS.F ht⟩) hS.2.2 dX8_save_11
-- LeaningLinesModel.restore
abbrev OUT_X8_restore : Type := Int32 × Int32 × (Nat → Int32) × (Nat → Int32)
def f_X8_restore_L30 (slo : Nat → Int32) (a0 : Int32) (k : Int32 → (Nat → Int32) → Option OUT_X8_restore) : Nat → Int32 → (Nat → Int32) → Option OUT_X8_restore
  | 0 => fun _ _ => none
  | n + 1 => fun v5 v6 => (if 465 ≤ v5 then k v5 v6 else gd ((465 * a0) + v5) 930 (gd v5 465 (bd (v5 + 1) (fun x7 => f_X8_restore_L30 slo a0 k n x7 (upd v6 v5.toNatClampNeg (slo ((465 * a0) + v5 : Int32).toNatClampNeg))))))
theorem f_X8_restore_L30_s (slo : Nat → Int32) (a0 : Int32) (k : Int32 → (Nat → Int32) → Option OUT_X8_restore) (n : Nat) (v5 : Int32) (v6 : Nat → Int32) : f_X8_restore_L30 slo a0 k (n + 1) v5 v6 = ((if 465 ≤ v5 then k v5 v6 else gd ((465 * a0) + v5) 930 (gd v5 465 (bd (v5 + 1) (fun x7 => f_X8_restore_L30 slo a0 k n x7 (upd v6 v5.toNatClampNeg (slo ((465 * a0) + v5 : Int32).toNatClampNeg))))))) := rfl
def f_X8_restore (kn : Int32) (s_ : Nat → Int32) (past : Nat → Int32) (slo : Nat → Int32) (isv : Nat → Int32) (a0 : Int32) : Option OUT_X8_restore :=
  bn (f_X8_in a0 0 1) (fun r1 => (if ¬ r1 = 0 then gd a0 2 ((if ¬ (isv a0.toNatClampNeg) = 0 then bn (f_X8_remembers kn s_ past) (fun r2 => f_X8_restore_L30 slo a0 (fun (w9 : Int32) (w10 : Nat → Int32) => gd 5 465 (some ((w10 (5 : Int32).toNatClampNeg, r2.1, w10, r2.2)))) 4000 0 s_) else some (((-5), kn, s_, past)))) else some (((-2), kn, s_, past))))
theorem uX8_restore_X8 : ∀ w ∈ wsX80, w ∈ wsX8_restore := by decide +kernel
theorem kX8_restore_1 : Cond.fieldLink RX8 19 "LeaningLinesModel" "isSaved" "[Z" ∈ wsX8_restore := by decide +kernel
theorem kX8_restore_2 : Cond.fieldLink RX8 7 "LeaningLinesModel" "s" "[I" ∈ wsX8_restore := by decide +kernel
theorem kX8_restore_3 : Cond.fieldLink RX8 16 "LeaningLinesModel" "slots" "[I" ∈ wsX8_restore := by decide +kernel
abbrev R_X8_restore : Room := { frames := 1, cells := 0, slots := 0, locals := 22 }
set_option maxHeartbeats 4000000 in
set_option maxRecDepth 100000 in
theorem m_X8_restore (l : Launch) (D : va_G) (cI cC cZ cR : ClassId) (mo mo1 mo2 mo3 mo4 mo5 : Nat) (sz : Nat) (kn : Int32) (le_ : Int32) (s_ : Nat → Int32) (past : Nat → Int32) (slo : Nat → Int32) (isv : Nat → Int32) (pad_ : Nat → Int32)  (a0 : Int32)   (r : OUT_X8_restore) (hf : f_X8_restore kn s_ past slo isv a0 = some r) : Met l yX8_restore wsX8_restore R_X8_restore (cPc D cI cC cZ cR [.ref mo, .int a0] sz (ws_model cI cC cZ cR mo mo1 mo2 mo3 mo4 mo5 kn le_ s_ past slo isv pad_)) (cQi D (ws_model cI cC cZ cR mo mo1 mo2 mo3 mo4 mo5 r.2.1 le_ r.2.2.1 r.2.2.2 slo isv pad_) (va_A (ws_model cI cC cZ cR mo mo1 mo2 mo3 mo4 mo5 kn le_ s_ past slo isv pad_) sz) r.1) 0 0 (va_A (ws_model cI cC cZ cR mo mo1 mo2 mo3 mo4 mo5 kn le_ s_ past slo isv pad_) sz) := by
  refine Met.ofW (cc := cX8_restore) (maxL := 3) (ret := (some .int)) (by decide) rfl ?_
  intro p e s m args below meth c s₁ B hml hv
  obtain ⟨rfl, hsz, hP, hK, hD0⟩ := hv
  have hx := B.exec
  have hb := B.bytes
  have hr := B.returns
  have hts := atoms_spec (ws := wsX8_restore) B.pre
  have hown : s.vm.findClass RX8 = some m.cls := findClass_of_methodNamed B.named
  have hlocks := B.notSynchronized
  subst hsz
  have hD := hD0.self (sz := s.heap.size)
  generalize hAe : va_A (ws_model cI cC cZ cR mo mo1 mo2 mo3 mo4 mo5 kn le_ s_ past slo isv pad_) s.heap.size = A at hD ⊢
  skip
  have hA : ∀ q : Nat, s.heap.size ≤ q → A q := fun q h => by rw [← hAe]; exact Or.inr h
  have hS : va_S A s.heap s.heap [] := va_S.rf
  have hl := lv_entry ([.ref mo, .int a0]) (n := 3) (Nat.le_of_ble_eq_true rfl)
  rw [lg_entry_eq]
  generalize (lg_sl ([.ref mo, .int a0]) ++ List.replicate (3 - (lg_sl ([.ref mo, .int a0])).length) Slot.unset).toArray = ls at hl ⊢
  have hl : lv_has ls 3 [(0, .ref mo), (1, .int a0)] := hl
  refine W_absQ (fun Q hQ => ?_)
  refine W.eq (g2 := F0 m 0 ls []) rfl ?_
  have h := hf
  unfold f_X8_restore at h
  refine lv_iload_n hx hb dX8_restore_0 rfl (lv_at hl 1 rfl) ?_
  refine lv_iconst (v := 0) hx hb dX8_restore_1 (by decide) ?_
  refine lv_iconst (v := 1) hx hb dX8_restore_2 (by decide) ?_
  obtain ⟨r1, hcr1, h⟩ := bn_sp h
  have hPc := hP.sub (ws' := []) [] rfl
  have hDc := hD.sub (ws' := []) [] (by decide) rfl
  have hFc := va_free (wc := []) hD hS hA [] rfl
  refine va_calli (va_runS (As := [.int a0, .int 0, .int 1]) (rest := []) ⟨hx, hb, hml, hown, hts⟩ (m_X8_in l D cI cC cZ cR  _  a0 0 1   r1 hcr1) (va_cwS 3 hts gX8_restore_X8_in rfl rfl rfl (by decide +kernel) ⟨Nat.le_of_ble_eq_true rfl, Nat.le_of_ble_eq_true rfl⟩) (cPc_ps hPc hK hDc) rfl rfl hl.1 rfl (lv_room (Nat.le_of_ble_eq_true rfl)) dX8_restore_3 ⟨Nat.le_of_ble_eq_true rfl, Nat.le_of_ble_eq_true rfl⟩) hS (fun q _ h => hFc q h) hFc (fun xq u t H1 locs ht hvm hw hB hz1 hk1 hS => ?_)
  rw [hw]
  obtain ⟨hP1, hD1⟩ := hB
  rw [ht] at hP1
  obtain ⟨hP, hD⟩ := va_join (wr := [(mo, .inr (8, [.ref mo1, .ref mo2, .int kn, .ref mo3, .ref mo4, .ref mo5, .int le_])), (mo1, .inl (cI, 465, .inl s_)), (mo2, .inl (cI, 2790, .inl past)), (mo3, .inl (cI, 930, .inl slo)), (mo4, .inl (cZ, 2, .inl isv)), (mo5, .inl (cI, 80, .inl pad_))]) (w1 := []) hP hD [] [0, 1, 2, 3, 4, 5] rfl rfl (by decide) (by decide) hk1 hFc hP1 hD1
  generalize H1 = H at hP hS ⊢
  have hP : va_P D vwCl (ws_model cI cC cZ cR mo mo1 mo2 mo3 mo4 mo5 kn le_ s_ past slo isv pad_) H := hP
  have hD : va_D A (ws_model cI cC cZ cR mo mo1 mo2 mo3 mo4 mo5 kn le_ s_ past slo isv pad_) := hD
  refine lv_if_ne (tgt := 12) hx hb dX8_restore_6 (by decide) (fun c12 => ?_) (fun c12 => ?_)
  · replace h := br_p c12 h
    refine lv_aload_n hx hb dX8_restore_12 rfl (lv_at hl 0 rfl) ?_
    refine va_get (D := D) (ci := 8) (v := .ref mo4) (C := RX8) (T := TX8) (N := 7) hx hb hts uX8_restore_X8 hown hK.1 hP 0 rfl rfl 4 (by decide) (hts _ kX8_restore_1) (fun _ h9 => h9) rfl dX8_restore_13 ?_
    refine lv_iload_n hx hb dX8_restore_16 rfl (lv_at hl 1 rfl) ?_
    obtain ⟨hin, h⟩ := gd_sp h
    refine va_zald (D := D) hx hb hK.1 hP 4 2 rfl rfl hin dX8_restore_17 ?_
    refine lv_if_ne (tgt := 24) hx hb dX8_restore_18 (by decide) (fun c11 => ?_) (fun c11 => ?_)
    · replace h := br_p c11 h
      refine lv_aload_n hx hb dX8_restore_24 rfl (lv_at hl 0 rfl) ?_
      obtain ⟨r2, hcr2, h⟩ := bn_sp h
      have hPc := hP.sub (ws' := (ws_model cI cC cZ cR mo mo1 mo2 mo3 mo4 mo5 kn le_ s_ past slo isv pad_)) [0, 1, 2, 3, 4, 5] rfl
      have hDc := hD.sub (ws' := (ws_model cI cC cZ cR mo mo1 mo2 mo3 mo4 mo5 kn le_ s_ past slo isv pad_)) [0, 1, 2, 3, 4, 5] (by decide) rfl
      have hFc := va_free (wc := (ws_model cI cC cZ cR mo mo1 mo2 mo3 mo4 mo5 kn le_ s_ past slo isv pad_)) hD hS hA [0, 1, 2, 3, 4, 5] rfl
      refine va_callv (va_runV (As := []) (rest := []) ⟨hx, hb, hml, hown, hts⟩ (m_X8_remembers l D cI cC cZ cR mo mo1 mo2 mo3 mo4 mo5 _ kn le_ s_ past slo isv pad_    r2 hcr2) (cwV 0 hts gX8_restore_X8_remembers rfl rfl rfl (by decide +kernel) ⟨Nat.le_of_ble_eq_true rfl, Nat.le_of_ble_eq_true rfl⟩) (cPc_pv hPc hK hDc (ci := 8) (q0 := 0) rfl rfl) rfl rfl hl.1 rfl (lv_room (Nat.le_of_ble_eq_true rfl)) dX8_restore_25 ⟨Nat.le_of_ble_eq_true rfl, Nat.le_of_ble_eq_true rfl⟩) hS (fun q _ h => hFc q h) hFc (fun u t H1 locs ht hvm hw hB hz1 hk1 hS => ?_)
      obtain ⟨hP1, hD1⟩ := hB
      rw [ht] at hP1
      obtain ⟨hP, hD⟩ := va_join (wr := []) (w1 := (ws_model cI cC cZ cR mo mo1 mo2 mo3 mo4 mo5 r2.1 le_ s_ r2.2 slo isv pad_)) hP hD [0, 1, 2, 3, 4, 5] [] rfl rfl (by decide) (by decide) hk1 hFc hP1 hD1
      generalize H1 = H at hP hS ⊢
      have hP : va_P D vwCl (ws_model cI cC cZ cR mo mo1 mo2 mo3 mo4 mo5 r2.1 le_ s_ r2.2 slo isv pad_) H := hP
      have hD : va_D A (ws_model cI cC cZ cR mo mo1 mo2 mo3 mo4 mo5 r2.1 le_ s_ r2.2 slo isv pad_) := hD
      refine lv_iconst (v := 0) hx hb dX8_restore_28 (by decide) ?_
      refine lv_istore_n (lv' := [(2, .int 0), (0, .ref mo), (1, .int a0)]) hx hb dX8_restore_29 rfl hl (by decide) rfl (fun ls hl => ?_)
      have L30 : ∀ (k : Int32 → (Nat → Int32) → Option OUT_X8_restore), (∀ (w9 : Int32) (w10 : Nat → Int32) (H : Heap) (locs : List Loc) (ls : Array Slot), k w9 w10 = some r → va_P D vwCl (ws_model cI cC cZ cR mo mo1 mo2 mo3 mo4 mo5 r2.1 le_ w10 r2.2 slo isv pad_) H → va_D A (ws_model cI cC cZ cR mo mo1 mo2 mo3 mo4 mo5 r2.1 le_ w10 r2.2 slo isv pad_) → va_S A s.heap H locs → lv_has ls 3 [(0, .ref mo), (1, .int a0), (2, .int w9)] → W p l e R_X8_restore s m ([.ref mo, .int a0] : List Value).toArray below meth c H locs 0 0 Q (F0 m 61 ls [])) → ∀ (n : Nat) (v5 : Int32) (v6 : Nat → Int32) (H : Heap) (locs : List Loc) (ls : Array Slot), f_X8_restore_L30 slo a0 k n v5 v6 = some r → va_P D vwCl (ws_model cI cC cZ cR mo mo1 mo2 mo3 mo4 mo5 r2.1 le_ v6 r2.2 slo isv pad_) H → va_D A (ws_model cI cC cZ cR mo mo1 mo2 mo3 mo4 mo5 r2.1 le_ v6 r2.2 slo isv pad_) → va_S A s.heap H locs → lv_has ls 3 [(0, .ref mo), (1, .int a0), (2, .int v5)] → W p l e R_X8_restore s m ([.ref mo, .int a0] : List Value).toArray below meth c H locs 0 0 Q (F0 m 30 ls []) := by
        intro k K n
        induction n with
        | zero => intro v5 v6 H locs ls h; exact no_sm h
        | succ n ih =>
          intro v5 v6 H locs ls h hP hD hS hl
          rw [f_X8_restore_L30_s] at h
          refine lv_iload_n hx hb dX8_restore_30 rfl (lv_at hl 2 rfl) ?_
          refine lv_sipush (v := 465) hx hb dX8_restore_31 (by decide) ?_
          refine lv_icmp_ge (tgt := 61) hx hb dX8_restore_34 (by decide) (fun c8 => ?_) (fun c8 => ?_)
          · replace h := br_p c8 h
            exact K _ _ _ _ _ h hP hD hS (lv_sub hl [0, 1, 2] rfl)
          · replace h := br_n c8 h
            refine lv_aload_n hx hb dX8_restore_37 rfl (lv_at hl 0 rfl) ?_
            refine va_get (D := D) (ci := 8) (v := .ref mo1) (C := RX8) (T := TX8) (N := 7) hx hb hts uX8_restore_X8 hown hK.1 hP 0 rfl rfl 0 (by decide) (hts _ kX8_restore_2) (fun _ h9 => h9) rfl dX8_restore_38 ?_
            refine lv_iload_n hx hb dX8_restore_41 rfl (lv_at hl 2 rfl) ?_
            refine lv_aload_n hx hb dX8_restore_42 rfl (lv_at hl 0 rfl) ?_
            refine va_get (D := D) (ci := 8) (v := .ref mo3) (C := RX8) (T := TX8) (N := 7) hx hb hts uX8_restore_X8 hown hK.1 hP 0 rfl rfl 3 (by decide) (hts _ kX8_restore_3) (fun _ h9 => h9) rfl dX8_restore_43 ?_
            refine lv_sipush (v := 465) hx hb dX8_restore_46 (by decide) ?_
            refine lv_iload_n hx hb dX8_restore_49 rfl (lv_at hl 1 rfl) ?_
            refine lv_imul hx hb dX8_restore_50 ?_
            refine lv_iload_n hx hb dX8_restore_51 rfl (lv_at hl 2 rfl) ?_
            refine lv_iadd hx hb dX8_restore_52 ?_
            obtain ⟨hin, h⟩ := gd_sp h
            refine va_iald (D := D) hx hb hK.1 hP 3 0 rfl rfl hin dX8_restore_53 ?_
            obtain ⟨hin, h⟩ := gd_sp h
            refine va_iast (D := D) hx hb hK.1 hP hD hS 1 0 rfl rfl hin dX8_restore_54 (fun H locs hP hD hS => ?_)
            have hP : va_P D vwCl (ws_model cI cC cZ cR mo mo1 mo2 mo3 mo4 mo5 r2.1 le_ (upd v6 v5.toNatClampNeg (slo ((465 * a0) + v5 : Int32).toNatClampNeg)) r2.2 slo isv pad_) H := hP
            have hD : va_D A (ws_model cI cC cZ cR mo mo1 mo2 mo3 mo4 mo5 r2.1 le_ (upd v6 v5.toNatClampNeg (slo ((465 * a0) + v5 : Int32).toNatClampNeg)) r2.2 slo isv pad_) := hD
            obtain ⟨x7, ex7, h⟩ := bd_sp h
            refine lv_iinc (v := x7) (lv' := [(2, .int x7), (0, .ref mo), (1, .int a0)]) hx hb dX8_restore_55 hl (k := 2) rfl (by rw [ex7]; rfl) (by decide) rfl (fun ls hl => ?_)
            refine lv_goto (tgt := 30) hx hb dX8_restore_58 (by decide) ?_
            exact ih _ _ _ _ _ h hP hD hS (lv_sub hl [1, 2, 0] rfl)
      refine L30 _ (fun w9 w10 H locs ls h hP hD hS hl => ?_) 4000 0 s_ _ _ _ h hP hD hS (lv_sub hl [1, 2, 0] rfl)
      refine lv_aload_n hx hb dX8_restore_61 rfl (lv_at hl 0 rfl) ?_
      refine va_get (D := D) (ci := 8) (v := .ref mo1) (C := RX8) (T := TX8) (N := 7) hx hb hts uX8_restore_X8 hown hK.1 hP 0 rfl rfl 0 (by decide) (hts _ kX8_restore_2) (fun _ h9 => h9) rfl dX8_restore_62 ?_
      refine lv_iconst (v := 5) hx hb dX8_restore_65 (by decide) ?_
      obtain ⟨hin, h⟩ := gd_sp h
      refine va_iald (D := D) hx hb hK.1 hP 1 0 rfl rfl hin dX8_restore_66 ?_
      have e9 := Option.some.inj h
      subst e9
      rw [hQ]
      exact W.iret (v := w10 (5 : Int32).toNatClampNeg) hx hb hr (fun t ht hW => ⟨⟨w10 (5 : Int32).toNatClampNeg, (), rfl, rfl, by rw [ht]; exact hP, hD⟩, hS.F ht⟩) hS.2.2 dX8_restore_67
    · replace h := br_n (not_not_intro c11) h
      refine lv_bipush (v := (-5)) hx hb dX8_restore_21 (by decide) ?_
      have e9 := Option.some.inj h
      subst e9
      rw [hQ]
      exact W.iret (v := (-5)) hx hb hr (fun t ht hW => ⟨⟨(-5), (), rfl, rfl, by rw [ht]; exact hP, hD⟩, hS.F ht⟩) hS.2.2 dX8_restore_23
  · replace h := br_n (not_not_intro c12) h
    refine lv_bipush (v := (-2)) hx hb dX8_restore_9 (by decide) ?_
    have e9 := Option.some.inj h
    subst e9
    rw [hQ]
    exact W.iret (v := (-2)) hx hb hr (fun t ht hW => ⟨⟨(-2), (), rfl, rfl, by rw [ht]; exact hP, hD⟩, hS.F ht⟩) hS.2.2 dX8_restore_11
