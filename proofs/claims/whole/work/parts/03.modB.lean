
-- LeaningLinesModel.covers
abbrev OUT_X8_covers : Type := Int32
def f_X8_covers (s_ : Nat → Int32) (a0 : Int32) (a1 : Int32) (a2 : Int32) (a3 : Int32) : Option OUT_X8_covers :=
  bn (f_X8_its s_ a0 0) (fun r1 => bn (f_X8_its s_ a0 0) (fun r2 => bn (f_X8_its s_ a0 2) (fun r3 => bn (f_X8_in a1 r1 ((r2 + r3) - 1)) (fun r4 => (if ¬ r4 = 0 then bn (f_X8_left s_ a0 a3) (fun r5 => bn (f_X8_its s_ a0 3) (fun r6 => bn (f_X8_in a2 r5 ((r5 + r6) - 1)) (fun r7 => gb r7 (some (r7))))) else some (0))))))
abbrev R_X8_covers : Room := { frames := 2, cells := 0, slots := 0, locals := 46 }
set_option maxHeartbeats 4000000 in
set_option maxRecDepth 100000 in
theorem m_X8_covers (l : Launch) (D : va_G) (cI cC cZ cR : ClassId) (mo mo1 mo2 mo3 mo4 mo5 : Nat) (sz : Nat) (kn : Int32) (le_ : Int32) (s_ : Nat → Int32) (past : Nat → Int32) (slo : Nat → Int32) (isv : Nat → Int32) (pad_ : Nat → Int32)  (a0 : Int32) (a1 : Int32) (a2 : Int32) (a3 : Int32)   (r : OUT_X8_covers) (hf : f_X8_covers s_ a0 a1 a2 a3 = some r) : Met l yX8_covers wsX8_covers R_X8_covers (cPc D cI cC cZ cR [.ref mo, .int a0, .int a1, .int a2, .int a3] sz (ws_model cI cC cZ cR mo mo1 mo2 mo3 mo4 mo5 kn le_ s_ past slo isv pad_)) (cQi D (ws_model cI cC cZ cR mo mo1 mo2 mo3 mo4 mo5 kn le_ s_ past slo isv pad_) (va_A (ws_model cI cC cZ cR mo mo1 mo2 mo3 mo4 mo5 kn le_ s_ past slo isv pad_) sz) r) 0 0 (va_A (ws_model cI cC cZ cR mo mo1 mo2 mo3 mo4 mo5 kn le_ s_ past slo isv pad_) sz) := by
  refine Met.ofW (cc := cX8_covers) (maxL := 6) (ret := (some .boolean)) (by decide) rfl ?_
  intro p e s m args below meth c s₁ B hml hv
  obtain ⟨rfl, hsz, hP, hK, hD0⟩ := hv
  have hx := B.exec
  have hb := B.bytes
  have hr := B.returns
  have hts := atoms_spec (ws := wsX8_covers) B.pre
  have hown : s.vm.findClass RX8 = some m.cls := findClass_of_methodNamed B.named
  have hlocks := B.notSynchronized
  subst hsz
  have hD := hD0.self (sz := s.heap.size)
  generalize hAe : va_A (ws_model cI cC cZ cR mo mo1 mo2 mo3 mo4 mo5 kn le_ s_ past slo isv pad_) s.heap.size = A at hD ⊢
  skip
  have hA : ∀ q : Nat, s.heap.size ≤ q → A q := fun q h => by rw [← hAe]; exact Or.inr h
  have hS : va_S A s.heap s.heap [] := va_S.rf
  have hl := lv_entry ([.ref mo, .int a0, .int a1, .int a2, .int a3]) (n := 6) (Nat.le_of_ble_eq_true rfl)
  rw [lg_entry_eq]
  generalize (lg_sl ([.ref mo, .int a0, .int a1, .int a2, .int a3]) ++ List.replicate (6 - (lg_sl ([.ref mo, .int a0, .int a1, .int a2, .int a3])).length) Slot.unset).toArray = ls at hl ⊢
  have hl : lv_has ls 6 [(0, .ref mo), (1, .int a0), (2, .int a1), (3, .int a2), (4, .int a3)] := hl
  refine W_absQ (fun Q hQ => ?_)
  refine W.eq (g2 := F0 m 0 ls []) rfl ?_
  have h := hf
  unfold f_X8_covers at h
  refine lv_iload_n hx hb dX8_covers_0 rfl (lv_at hl 2 rfl) ?_
  refine lv_aload_n hx hb dX8_covers_1 rfl (lv_at hl 0 rfl) ?_
  refine lv_iload_n hx hb dX8_covers_2 rfl (lv_at hl 1 rfl) ?_
  refine lv_iconst (v := 0) hx hb dX8_covers_3 (by decide) ?_
  obtain ⟨r1, hcr1, h⟩ := bn_sp h
  have hPc := hP.sub (ws' := (ws_model cI cC cZ cR mo mo1 mo2 mo3 mo4 mo5 kn le_ s_ past slo isv pad_)) [0, 1, 2, 3, 4, 5] rfl
  have hDc := hD.sub (ws' := (ws_model cI cC cZ cR mo mo1 mo2 mo3 mo4 mo5 kn le_ s_ past slo isv pad_)) [0, 1, 2, 3, 4, 5] (by decide) rfl
  have hFc := va_free (wc := (ws_model cI cC cZ cR mo mo1 mo2 mo3 mo4 mo5 kn le_ s_ past slo isv pad_)) hD hS hA [0, 1, 2, 3, 4, 5] rfl
  refine va_calli (va_runV (As := [.int a0, .int 0]) (rest := [.int a1]) ⟨hx, hb, hml, hown, hts⟩ (m_X8_its l D cI cC cZ cR mo mo1 mo2 mo3 mo4 mo5 _ kn le_ s_ past slo isv pad_ a0 0   r1 hcr1) (cwV 2 hts gX8_covers_X8_its rfl rfl rfl (by decide +kernel) ⟨Nat.le_of_ble_eq_true rfl, Nat.le_of_ble_eq_true rfl⟩) (cPc_pv hPc hK hDc (ci := 8) (q0 := 0) rfl rfl) rfl rfl hl.1 rfl (lv_room (Nat.le_of_ble_eq_true rfl)) dX8_covers_4 ⟨Nat.le_of_ble_eq_true rfl, Nat.le_of_ble_eq_true rfl⟩) hS (fun q _ h => hFc q h) hFc (fun xq u t H1 locs ht hvm hw hB hz1 hk1 hS => ?_)
  rw [hw]
  obtain ⟨hP1, hD1⟩ := hB
  rw [ht] at hP1
  obtain ⟨hP, hD⟩ := va_join (wr := []) (w1 := (ws_model cI cC cZ cR mo mo1 mo2 mo3 mo4 mo5 kn le_ s_ past slo isv pad_)) hP hD [0, 1, 2, 3, 4, 5] [] rfl rfl (by decide) (by decide) hk1 hFc hP1 hD1
  generalize H1 = H at hP hS ⊢
  have hP : va_P D vwCl (ws_model cI cC cZ cR mo mo1 mo2 mo3 mo4 mo5 kn le_ s_ past slo isv pad_) H := hP
  have hD : va_D A (ws_model cI cC cZ cR mo mo1 mo2 mo3 mo4 mo5 kn le_ s_ past slo isv pad_) := hD
  refine lv_aload_n hx hb dX8_covers_7 rfl (lv_at hl 0 rfl) ?_
  refine lv_iload_n hx hb dX8_covers_8 rfl (lv_at hl 1 rfl) ?_
  refine lv_iconst (v := 0) hx hb dX8_covers_9 (by decide) ?_
  obtain ⟨r2, hcr2, h⟩ := bn_sp h
  have hPc := hP.sub (ws' := (ws_model cI cC cZ cR mo mo1 mo2 mo3 mo4 mo5 kn le_ s_ past slo isv pad_)) [0, 1, 2, 3, 4, 5] rfl
  have hDc := hD.sub (ws' := (ws_model cI cC cZ cR mo mo1 mo2 mo3 mo4 mo5 kn le_ s_ past slo isv pad_)) [0, 1, 2, 3, 4, 5] (by decide) rfl
  have hFc := va_free (wc := (ws_model cI cC cZ cR mo mo1 mo2 mo3 mo4 mo5 kn le_ s_ past slo isv pad_)) hD hS hA [0, 1, 2, 3, 4, 5] rfl
  refine va_calli (va_runV (As := [.int a0, .int 0]) (rest := [.int r1, .int a1]) ⟨hx, hb, hml, hown, hts⟩ (m_X8_its l D cI cC cZ cR mo mo1 mo2 mo3 mo4 mo5 _ kn le_ s_ past slo isv pad_ a0 0   r2 hcr2) (cwV 2 hts gX8_covers_X8_its rfl rfl rfl (by decide +kernel) ⟨Nat.le_of_ble_eq_true rfl, Nat.le_of_ble_eq_true rfl⟩) (cPc_pv hPc hK hDc (ci := 8) (q0 := 0) rfl rfl) rfl rfl hl.1 rfl (lv_room (Nat.le_of_ble_eq_true rfl)) dX8_covers_10 ⟨Nat.le_of_ble_eq_true rfl, Nat.le_of_ble_eq_true rfl⟩) hS (fun q _ h => hFc q h) hFc (fun xq u t H1 locs ht hvm hw hB hz1 hk1 hS => ?_)
  rw [hw]
  obtain ⟨hP1, hD1⟩ := hB
  rw [ht] at hP1
  obtain ⟨hP, hD⟩ := va_join (wr := []) (w1 := (ws_model cI cC cZ cR mo mo1 mo2 mo3 mo4 mo5 kn le_ s_ past slo isv pad_)) hP hD [0, 1, 2, 3, 4, 5] [] rfl rfl (by decide) (by decide) hk1 hFc hP1 hD1
  generalize H1 = H at hP hS ⊢
  have hP : va_P D vwCl (ws_model cI cC cZ cR mo mo1 mo2 mo3 mo4 mo5 kn le_ s_ past slo isv pad_) H := hP
  have hD : va_D A (ws_model cI cC cZ cR mo mo1 mo2 mo3 mo4 mo5 kn le_ s_ past slo isv pad_) := hD
  refine lv_aload_n hx hb dX8_covers_13 rfl (lv_at hl 0 rfl) ?_
  refine lv_iload_n hx hb dX8_covers_14 rfl (lv_at hl 1 rfl) ?_
  refine lv_iconst (v := 2) hx hb dX8_covers_15 (by decide) ?_
  obtain ⟨r3, hcr3, h⟩ := bn_sp h
  have hPc := hP.sub (ws' := (ws_model cI cC cZ cR mo mo1 mo2 mo3 mo4 mo5 kn le_ s_ past slo isv pad_)) [0, 1, 2, 3, 4, 5] rfl
  have hDc := hD.sub (ws' := (ws_model cI cC cZ cR mo mo1 mo2 mo3 mo4 mo5 kn le_ s_ past slo isv pad_)) [0, 1, 2, 3, 4, 5] (by decide) rfl
  have hFc := va_free (wc := (ws_model cI cC cZ cR mo mo1 mo2 mo3 mo4 mo5 kn le_ s_ past slo isv pad_)) hD hS hA [0, 1, 2, 3, 4, 5] rfl
  refine va_calli (va_runV (As := [.int a0, .int 2]) (rest := [.int r2, .int r1, .int a1]) ⟨hx, hb, hml, hown, hts⟩ (m_X8_its l D cI cC cZ cR mo mo1 mo2 mo3 mo4 mo5 _ kn le_ s_ past slo isv pad_ a0 2   r3 hcr3) (cwV 2 hts gX8_covers_X8_its rfl rfl rfl (by decide +kernel) ⟨Nat.le_of_ble_eq_true rfl, Nat.le_of_ble_eq_true rfl⟩) (cPc_pv hPc hK hDc (ci := 8) (q0 := 0) rfl rfl) rfl rfl hl.1 rfl (lv_room (Nat.le_of_ble_eq_true rfl)) dX8_covers_16 ⟨Nat.le_of_ble_eq_true rfl, Nat.le_of_ble_eq_true rfl⟩) hS (fun q _ h => hFc q h) hFc (fun xq u t H1 locs ht hvm hw hB hz1 hk1 hS => ?_)
  rw [hw]
  obtain ⟨hP1, hD1⟩ := hB
  rw [ht] at hP1
  obtain ⟨hP, hD⟩ := va_join (wr := []) (w1 := (ws_model cI cC cZ cR mo mo1 mo2 mo3 mo4 mo5 kn le_ s_ past slo isv pad_)) hP hD [0, 1, 2, 3, 4, 5] [] rfl rfl (by decide) (by decide) hk1 hFc hP1 hD1
  generalize H1 = H at hP hS ⊢
  have hP : va_P D vwCl (ws_model cI cC cZ cR mo mo1 mo2 mo3 mo4 mo5 kn le_ s_ past slo isv pad_) H := hP
  have hD : va_D A (ws_model cI cC cZ cR mo mo1 mo2 mo3 mo4 mo5 kn le_ s_ past slo isv pad_) := hD
  refine lv_iadd hx hb dX8_covers_19 ?_
  refine lv_iconst (v := 1) hx hb dX8_covers_20 (by decide) ?_
  refine lv_isub hx hb dX8_covers_21 ?_
  obtain ⟨r4, hcr4, h⟩ := bn_sp h
  have hPc := hP.sub (ws' := []) [] rfl
  have hDc := hD.sub (ws' := []) [] (by decide) rfl
  have hFc := va_free (wc := []) hD hS hA [] rfl
  refine va_calli (va_runS (As := [.int a1, .int r1, .int ((r2 + r3) - 1)]) (rest := []) ⟨hx, hb, hml, hown, hts⟩ (m_X8_in l D cI cC cZ cR  _  a1 r1 ((r2 + r3) - 1)   r4 hcr4) (va_cwS 3 hts gX8_covers_X8_in rfl rfl rfl (by decide +kernel) ⟨Nat.le_of_ble_eq_true rfl, Nat.le_of_ble_eq_true rfl⟩) (cPc_ps hPc hK hDc) rfl rfl hl.1 rfl (lv_room (Nat.le_of_ble_eq_true rfl)) dX8_covers_22 ⟨Nat.le_of_ble_eq_true rfl, Nat.le_of_ble_eq_true rfl⟩) hS (fun q _ h => hFc q h) hFc (fun xq u t H1 locs ht hvm hw hB hz1 hk1 hS => ?_)
  rw [hw]
  obtain ⟨hP1, hD1⟩ := hB
  rw [ht] at hP1
  obtain ⟨hP, hD⟩ := va_join (wr := [(mo, .inr (8, [.ref mo1, .ref mo2, .int kn, .ref mo3, .ref mo4, .ref mo5, .int le_])), (mo1, .inl (cI, 465, .inl s_)), (mo2, .inl (cI, 2790, .inl past)), (mo3, .inl (cI, 930, .inl slo)), (mo4, .inl (cZ, 2, .inl isv)), (mo5, .inl (cI, 80, .inl pad_))]) (w1 := []) hP hD [] [0, 1, 2, 3, 4, 5] rfl rfl (by decide) (by decide) hk1 hFc hP1 hD1
  generalize H1 = H at hP hS ⊢
  have hP : va_P D vwCl (ws_model cI cC cZ cR mo mo1 mo2 mo3 mo4 mo5 kn le_ s_ past slo isv pad_) H := hP
  have hD : va_D A (ws_model cI cC cZ cR mo mo1 mo2 mo3 mo4 mo5 kn le_ s_ past slo isv pad_) := hD
  refine lv_if_ne (tgt := 30) hx hb dX8_covers_25 (by decide) (fun c8 => ?_) (fun c8 => ?_)
  · replace h := br_p c8 h
    refine lv_aload_n hx hb dX8_covers_30 rfl (lv_at hl 0 rfl) ?_
    refine lv_iload_n hx hb dX8_covers_31 rfl (lv_at hl 1 rfl) ?_
    refine lv_iload hx hb dX8_covers_32 (lv_at hl 4 rfl) ?_
    obtain ⟨r5, hcr5, h⟩ := bn_sp h
    have hPc := hP.sub (ws' := (ws_model cI cC cZ cR mo mo1 mo2 mo3 mo4 mo5 kn le_ s_ past slo isv pad_)) [0, 1, 2, 3, 4, 5] rfl
    have hDc := hD.sub (ws' := (ws_model cI cC cZ cR mo mo1 mo2 mo3 mo4 mo5 kn le_ s_ past slo isv pad_)) [0, 1, 2, 3, 4, 5] (by decide) rfl
    have hFc := va_free (wc := (ws_model cI cC cZ cR mo mo1 mo2 mo3 mo4 mo5 kn le_ s_ past slo isv pad_)) hD hS hA [0, 1, 2, 3, 4, 5] rfl
    refine va_calli (va_runV (As := [.int a0, .int a3]) (rest := []) ⟨hx, hb, hml, hown, hts⟩ (m_X8_left l D cI cC cZ cR mo mo1 mo2 mo3 mo4 mo5 _ kn le_ s_ past slo isv pad_ a0 a3   r5 hcr5) (cwV 2 hts gX8_covers_X8_left rfl rfl rfl (by decide +kernel) ⟨Nat.le_of_ble_eq_true rfl, Nat.le_of_ble_eq_true rfl⟩) (cPc_pv hPc hK hDc (ci := 8) (q0 := 0) rfl rfl) rfl rfl hl.1 rfl (lv_room (Nat.le_of_ble_eq_true rfl)) dX8_covers_34 ⟨Nat.le_of_ble_eq_true rfl, Nat.le_of_ble_eq_true rfl⟩) hS (fun q _ h => hFc q h) hFc (fun xq u t H1 locs ht hvm hw hB hz1 hk1 hS => ?_)
    rw [hw]
    obtain ⟨hP1, hD1⟩ := hB
    rw [ht] at hP1
    obtain ⟨hP, hD⟩ := va_join (wr := []) (w1 := (ws_model cI cC cZ cR mo mo1 mo2 mo3 mo4 mo5 kn le_ s_ past slo isv pad_)) hP hD [0, 1, 2, 3, 4, 5] [] rfl rfl (by decide) (by decide) hk1 hFc hP1 hD1
    generalize H1 = H at hP hS ⊢
    have hP : va_P D vwCl (ws_model cI cC cZ cR mo mo1 mo2 mo3 mo4 mo5 kn le_ s_ past slo isv pad_) H := hP
    have hD : va_D A (ws_model cI cC cZ cR mo mo1 mo2 mo3 mo4 mo5 kn le_ s_ past slo isv pad_) := hD
    refine lv_istore (lv' := [(5, .int r5), (0, .ref mo), (1, .int a0), (2, .int a1), (3, .int a2), (4, .int a3)]) hx hb dX8_covers_37 hl (by decide) rfl (fun ls hl => ?_)
    refine lv_iload_n hx hb dX8_covers_39 rfl (lv_at hl 4 rfl) ?_
    refine lv_iload hx hb dX8_covers_40 (lv_at hl 0 rfl) ?_
    refine lv_iload hx hb dX8_covers_42 (lv_at hl 0 rfl) ?_
    refine lv_aload_n hx hb dX8_covers_44 rfl (lv_at hl 1 rfl) ?_
    refine lv_iload_n hx hb dX8_covers_45 rfl (lv_at hl 2 rfl) ?_
    refine lv_iconst (v := 3) hx hb dX8_covers_46 (by decide) ?_
    obtain ⟨r6, hcr6, h⟩ := bn_sp h
    have hPc := hP.sub (ws' := (ws_model cI cC cZ cR mo mo1 mo2 mo3 mo4 mo5 kn le_ s_ past slo isv pad_)) [0, 1, 2, 3, 4, 5] rfl
    have hDc := hD.sub (ws' := (ws_model cI cC cZ cR mo mo1 mo2 mo3 mo4 mo5 kn le_ s_ past slo isv pad_)) [0, 1, 2, 3, 4, 5] (by decide) rfl
    have hFc := va_free (wc := (ws_model cI cC cZ cR mo mo1 mo2 mo3 mo4 mo5 kn le_ s_ past slo isv pad_)) hD hS hA [0, 1, 2, 3, 4, 5] rfl
    refine va_calli (va_runV (As := [.int a0, .int 3]) (rest := [.int r5, .int r5, .int a2]) ⟨hx, hb, hml, hown, hts⟩ (m_X8_its l D cI cC cZ cR mo mo1 mo2 mo3 mo4 mo5 _ kn le_ s_ past slo isv pad_ a0 3   r6 hcr6) (cwV 2 hts gX8_covers_X8_its rfl rfl rfl (by decide +kernel) ⟨Nat.le_of_ble_eq_true rfl, Nat.le_of_ble_eq_true rfl⟩) (cPc_pv hPc hK hDc (ci := 8) (q0 := 0) rfl rfl) rfl rfl hl.1 rfl (lv_room (Nat.le_of_ble_eq_true rfl)) dX8_covers_47 ⟨Nat.le_of_ble_eq_true rfl, Nat.le_of_ble_eq_true rfl⟩) hS (fun q _ h => hFc q h) hFc (fun xq u t H1 locs ht hvm hw hB hz1 hk1 hS => ?_)
    rw [hw]
    obtain ⟨hP1, hD1⟩ := hB
    rw [ht] at hP1
    obtain ⟨hP, hD⟩ := va_join (wr := []) (w1 := (ws_model cI cC cZ cR mo mo1 mo2 mo3 mo4 mo5 kn le_ s_ past slo isv pad_)) hP hD [0, 1, 2, 3, 4, 5] [] rfl rfl (by decide) (by decide) hk1 hFc hP1 hD1
    generalize H1 = H at hP hS ⊢
    have hP : va_P D vwCl (ws_model cI cC cZ cR mo mo1 mo2 mo3 mo4 mo5 kn le_ s_ past slo isv pad_) H := hP
    have hD : va_D A (ws_model cI cC cZ cR mo mo1 mo2 mo3 mo4 mo5 kn le_ s_ past slo isv pad_) := hD
    refine lv_iadd hx hb dX8_covers_50 ?_
    refine lv_iconst (v := 1) hx hb dX8_covers_51 (by decide) ?_
    refine lv_isub hx hb dX8_covers_52 ?_
    obtain ⟨r7, hcr7, h⟩ := bn_sp h
    have hPc := hP.sub (ws' := []) [] rfl
    have hDc := hD.sub (ws' := []) [] (by decide) rfl
    have hFc := va_free (wc := []) hD hS hA [] rfl
    refine va_calli (va_runS (As := [.int a2, .int r5, .int ((r5 + r6) - 1)]) (rest := []) ⟨hx, hb, hml, hown, hts⟩ (m_X8_in l D cI cC cZ cR  _  a2 r5 ((r5 + r6) - 1)   r7 hcr7) (va_cwS 3 hts gX8_covers_X8_in rfl rfl rfl (by decide +kernel) ⟨Nat.le_of_ble_eq_true rfl, Nat.le_of_ble_eq_true rfl⟩) (cPc_ps hPc hK hDc) rfl rfl hl.1 rfl (lv_room (Nat.le_of_ble_eq_true rfl)) dX8_covers_53 ⟨Nat.le_of_ble_eq_true rfl, Nat.le_of_ble_eq_true rfl⟩) hS (fun q _ h => hFc q h) hFc (fun xq u t H1 locs ht hvm hw hB hz1 hk1 hS => ?_)
    rw [hw]
    obtain ⟨hP1, hD1⟩ := hB
    rw [ht] at hP1
    obtain ⟨hP, hD⟩ := va_join (wr := [(mo, .inr (8, [.ref mo1, .ref mo2, .int kn, .ref mo3, .ref mo4, .ref mo5, .int le_])), (mo1, .inl (cI, 465, .inl s_)), (mo2, .inl (cI, 2790, .inl past)), (mo3, .inl (cI, 930, .inl slo)), (mo4, .inl (cZ, 2, .inl isv)), (mo5, .inl (cI, 80, .inl pad_))]) (w1 := []) hP hD [] [0, 1, 2, 3, 4, 5] rfl rfl (by decide) (by decide) hk1 hFc hP1 hD1
    generalize H1 = H at hP hS ⊢
    have hP : va_P D vwCl (ws_model cI cC cZ cR mo mo1 mo2 mo3 mo4 mo5 kn le_ s_ past slo isv pad_) H := hP
    have hD : va_D A (ws_model cI cC cZ cR mo mo1 mo2 mo3 mo4 mo5 kn le_ s_ past slo isv pad_) := hD
    obtain ⟨hnr, h⟩ := gb_sp h
    have e9 := Option.some.inj h
    subst e9
    rw [hQ]
    exact W.zret (v := r7) hx hb hr (nar_b hnr) (fun t ht hW => ⟨⟨r7, (), rfl, rfl, by rw [ht]; exact hP, hD⟩, hS.F ht⟩) hS.2.2 dX8_covers_56
  · replace h := br_n (not_not_intro c8) h
    refine lv_iconst (v := 0) hx hb dX8_covers_28 (by decide) ?_
    have e9 := Option.some.inj h
    subst e9
    rw [hQ]
    exact W.zret (v := 0) hx hb hr rfl (fun t ht hW => ⟨⟨0, (), rfl, rfl, by rw [ht]; exact hP, hD⟩, hS.F ht⟩) hS.2.2 dX8_covers_29
-- LeaningLinesModel.burns
abbrev OUT_X8_burns : Type := Int32
def f_X8_burns (s_ : Nat → Int32) (a0 : Int32) : Option OUT_X8_burns :=
  gd 7 465 ((if (s_ (7 : Int32).toNatClampNeg) < 0 then some (0) else gd 7 465 (gd 7 465 (gd 8 465 (bn (f_X8_in a0 (s_ (7 : Int32).toNatClampNeg) (((s_ (7 : Int32).toNatClampNeg) + (s_ (8 : Int32).toNatClampNeg)) - 1)) (fun r1 => (if r1 = 0 then some (0) else some (1))))))))
theorem uX8_burns_X8 : ∀ w ∈ wsX80, w ∈ wsX8_burns := by decide +kernel
theorem kX8_burns_1 : Cond.fieldLink RX8 7 "LeaningLinesModel" "s" "[I" ∈ wsX8_burns := by decide +kernel
abbrev R_X8_burns : Room := { frames := 1, cells := 0, slots := 0, locals := 22 }
set_option maxHeartbeats 4000000 in
set_option maxRecDepth 100000 in
theorem m_X8_burns (l : Launch) (D : va_G) (cI cC cZ cR : ClassId) (mo mo1 mo2 mo3 mo4 mo5 : Nat) (sz : Nat) (kn : Int32) (le_ : Int32) (s_ : Nat → Int32) (past : Nat → Int32) (slo : Nat → Int32) (isv : Nat → Int32) (pad_ : Nat → Int32)  (a0 : Int32)   (r : OUT_X8_burns) (hf : f_X8_burns s_ a0 = some r) : Met l yX8_burns wsX8_burns R_X8_burns (cPc D cI cC cZ cR [.ref mo, .int a0] sz (ws_model cI cC cZ cR mo mo1 mo2 mo3 mo4 mo5 kn le_ s_ past slo isv pad_)) (cQi D (ws_model cI cC cZ cR mo mo1 mo2 mo3 mo4 mo5 kn le_ s_ past slo isv pad_) (va_A (ws_model cI cC cZ cR mo mo1 mo2 mo3 mo4 mo5 kn le_ s_ past slo isv pad_) sz) r) 0 0 (va_A (ws_model cI cC cZ cR mo mo1 mo2 mo3 mo4 mo5 kn le_ s_ past slo isv pad_) sz) := by
  refine Met.ofW (cc := cX8_burns) (maxL := 2) (ret := (some .boolean)) (by decide) rfl ?_
  intro p e s m args below meth c s₁ B hml hv
  obtain ⟨rfl, hsz, hP, hK, hD0⟩ := hv
  have hx := B.exec
  have hb := B.bytes
  have hr := B.returns
  have hts := atoms_spec (ws := wsX8_burns) B.pre
  have hown : s.vm.findClass RX8 = some m.cls := findClass_of_methodNamed B.named
  have hlocks := B.notSynchronized
  subst hsz
  have hD := hD0.self (sz := s.heap.size)
  generalize hAe : va_A (ws_model cI cC cZ cR mo mo1 mo2 mo3 mo4 mo5 kn le_ s_ past slo isv pad_) s.heap.size = A at hD ⊢
  skip
  have hA : ∀ q : Nat, s.heap.size ≤ q → A q := fun q h => by rw [← hAe]; exact Or.inr h
  have hS : va_S A s.heap s.heap [] := va_S.rf
  have hl := lv_entry ([.ref mo, .int a0]) (n := 2) (Nat.le_of_ble_eq_true rfl)
  rw [lg_entry_eq]
  generalize (lg_sl ([.ref mo, .int a0]) ++ List.replicate (2 - (lg_sl ([.ref mo, .int a0])).length) Slot.unset).toArray = ls at hl ⊢
  have hl : lv_has ls 2 [(0, .ref mo), (1, .int a0)] := hl
  refine W_absQ (fun Q hQ => ?_)
  refine W.eq (g2 := F0 m 0 ls []) rfl ?_
  have h := hf
  unfold f_X8_burns at h
  refine lv_aload_n hx hb dX8_burns_0 rfl (lv_at hl 0 rfl) ?_
  refine va_get (D := D) (ci := 8) (v := .ref mo1) (C := RX8) (T := TX8) (N := 7) hx hb hts uX8_burns_X8 hown hK.1 hP 0 rfl rfl 0 (by decide) (hts _ kX8_burns_1) (fun _ h9 => h9) rfl dX8_burns_1 ?_
  refine lv_bipush (v := 7) hx hb dX8_burns_4 (by decide) ?_
  obtain ⟨hin, h⟩ := gd_sp h
  refine va_iald (D := D) hx hb hK.1 hP 1 0 rfl rfl hin dX8_burns_6 ?_
  refine lv_if_lt (tgt := 45) hx hb dX8_burns_7 (by decide) (fun c3 => ?_) (fun c3 => ?_)
  · replace h := br_p c3 h
    refine lv_iconst (v := 0) hx hb dX8_burns_45 (by decide) ?_
    have e9 := Option.some.inj h
    subst e9
    rw [hQ]
    exact W.zret (v := 0) hx hb hr rfl (fun t ht hW => ⟨⟨0, (), rfl, rfl, by rw [ht]; exact hP, hD⟩, hS.F ht⟩) hS.2.2 dX8_burns_46
  · replace h := br_n c3 h
    refine lv_iload_n hx hb dX8_burns_10 rfl (lv_at hl 1 rfl) ?_
    refine lv_aload_n hx hb dX8_burns_11 rfl (lv_at hl 0 rfl) ?_
    refine va_get (D := D) (ci := 8) (v := .ref mo1) (C := RX8) (T := TX8) (N := 7) hx hb hts uX8_burns_X8 hown hK.1 hP 0 rfl rfl 0 (by decide) (hts _ kX8_burns_1) (fun _ h9 => h9) rfl dX8_burns_12 ?_
    refine lv_bipush (v := 7) hx hb dX8_burns_15 (by decide) ?_
    obtain ⟨hin, h⟩ := gd_sp h
    refine va_iald (D := D) hx hb hK.1 hP 1 0 rfl rfl hin dX8_burns_17 ?_
    refine lv_aload_n hx hb dX8_burns_18 rfl (lv_at hl 0 rfl) ?_
    refine va_get (D := D) (ci := 8) (v := .ref mo1) (C := RX8) (T := TX8) (N := 7) hx hb hts uX8_burns_X8 hown hK.1 hP 0 rfl rfl 0 (by decide) (hts _ kX8_burns_1) (fun _ h9 => h9) rfl dX8_burns_19 ?_
    refine lv_bipush (v := 7) hx hb dX8_burns_22 (by decide) ?_
    obtain ⟨hin, h⟩ := gd_sp h
    refine va_iald (D := D) hx hb hK.1 hP 1 0 rfl rfl hin dX8_burns_24 ?_
    refine lv_aload_n hx hb dX8_burns_25 rfl (lv_at hl 0 rfl) ?_
    refine va_get (D := D) (ci := 8) (v := .ref mo1) (C := RX8) (T := TX8) (N := 7) hx hb hts uX8_burns_X8 hown hK.1 hP 0 rfl rfl 0 (by decide) (hts _ kX8_burns_1) (fun _ h9 => h9) rfl dX8_burns_26 ?_
    refine lv_bipush (v := 8) hx hb dX8_burns_29 (by decide) ?_
    obtain ⟨hin, h⟩ := gd_sp h
    refine va_iald (D := D) hx hb hK.1 hP 1 0 rfl rfl hin dX8_burns_31 ?_
    refine lv_iadd hx hb dX8_burns_32 ?_
    refine lv_iconst (v := 1) hx hb dX8_burns_33 (by decide) ?_
    refine lv_isub hx hb dX8_burns_34 ?_
    obtain ⟨r1, hcr1, h⟩ := bn_sp h
    have hPc := hP.sub (ws' := []) [] rfl
    have hDc := hD.sub (ws' := []) [] (by decide) rfl
    have hFc := va_free (wc := []) hD hS hA [] rfl
    refine va_calli (va_runS (As := [.int a0, .int (s_ (7 : Int32).toNatClampNeg), .int (((s_ (7 : Int32).toNatClampNeg) + (s_ (8 : Int32).toNatClampNeg)) - 1)]) (rest := []) ⟨hx, hb, hml, hown, hts⟩ (m_X8_in l D cI cC cZ cR  _  a0 (s_ (7 : Int32).toNatClampNeg) (((s_ (7 : Int32).toNatClampNeg) + (s_ (8 : Int32).toNatClampNeg)) - 1)   r1 hcr1) (va_cwS 3 hts gX8_burns_X8_in rfl rfl rfl (by decide +kernel) ⟨Nat.le_of_ble_eq_true rfl, Nat.le_of_ble_eq_true rfl⟩) (cPc_ps hPc hK hDc) rfl rfl hl.1 rfl (lv_room (Nat.le_of_ble_eq_true rfl)) dX8_burns_35 ⟨Nat.le_of_ble_eq_true rfl, Nat.le_of_ble_eq_true rfl⟩) hS (fun q _ h => hFc q h) hFc (fun xq u t H1 locs ht hvm hw hB hz1 hk1 hS => ?_)
    rw [hw]
    obtain ⟨hP1, hD1⟩ := hB
    rw [ht] at hP1
    obtain ⟨hP, hD⟩ := va_join (wr := [(mo, .inr (8, [.ref mo1, .ref mo2, .int kn, .ref mo3, .ref mo4, .ref mo5, .int le_])), (mo1, .inl (cI, 465, .inl s_)), (mo2, .inl (cI, 2790, .inl past)), (mo3, .inl (cI, 930, .inl slo)), (mo4, .inl (cZ, 2, .inl isv)), (mo5, .inl (cI, 80, .inl pad_))]) (w1 := []) hP hD [] [0, 1, 2, 3, 4, 5] rfl rfl (by decide) (by decide) hk1 hFc hP1 hD1
    generalize H1 = H at hP hS ⊢
    have hP : va_P D vwCl (ws_model cI cC cZ cR mo mo1 mo2 mo3 mo4 mo5 kn le_ s_ past slo isv pad_) H := hP
    have hD : va_D A (ws_model cI cC cZ cR mo mo1 mo2 mo3 mo4 mo5 kn le_ s_ past slo isv pad_) := hD
    refine lv_if_eq (tgt := 45) hx hb dX8_burns_38 (by decide) (fun c2 => ?_) (fun c2 => ?_)
    · replace h := br_p c2 h
      refine lv_iconst (v := 0) hx hb dX8_burns_45 (by decide) ?_
      have e9 := Option.some.inj h
      subst e9
      rw [hQ]
      exact W.zret (v := 0) hx hb hr rfl (fun t ht hW => ⟨⟨0, (), rfl, rfl, by rw [ht]; exact hP, hD⟩, hS.F ht⟩) hS.2.2 dX8_burns_46
    · replace h := br_n c2 h
      refine lv_iconst (v := 1) hx hb dX8_burns_41 (by decide) ?_
      refine lv_goto (tgt := 46) hx hb dX8_burns_42 (by decide) ?_
      have e9 := Option.some.inj h
      subst e9
      rw [hQ]
      exact W.zret (v := 1) hx hb hr rfl (fun t ht hW => ⟨⟨1, (), rfl, rfl, by rw [ht]; exact hP, hD⟩, hS.F ht⟩) hS.2.2 dX8_burns_46
-- LeaningLinesModel.light
abbrev OUT_X8_light : Type := Int32
def f_X8_light (s_ : Nat → Int32) (a0 : Int32) : Option OUT_X8_light :=
  bn (f_X8_burns s_ a0) (fun r1 => (if r1 = 0 then gd 2 465 (jn (fun (j2 : Int32) => (if j2 = 0 then some (1) else some (0))) (fun j43 => (if (s_ (2 : Int32).toNatClampNeg) ≤ 0 then j43 0 else gd 2 465 (gz (s_ (2 : Int32).toNatClampNeg) (gd 2 465 ((if (a0 - a0 / (s_ (2 : Int32).toNatClampNeg) * (s_ (2 : Int32).toNatClampNeg)) < ((s_ (2 : Int32).toNatClampNeg) / 2) then j43 0 else j43 1))))))) else some (3)))
theorem uX8_light_X8 : ∀ w ∈ wsX80, w ∈ wsX8_light := by decide +kernel
theorem kX8_light_1 : Cond.fieldLink RX8 7 "LeaningLinesModel" "s" "[I" ∈ wsX8_light := by decide +kernel
abbrev R_X8_light : Room := { frames := 2, cells := 0, slots := 0, locals := 43 }
set_option maxHeartbeats 4000000 in
set_option maxRecDepth 100000 in
theorem m_X8_light (l : Launch) (D : va_G) (cI cC cZ cR : ClassId) (mo mo1 mo2 mo3 mo4 mo5 : Nat) (sz : Nat) (kn : Int32) (le_ : Int32) (s_ : Nat → Int32) (past : Nat → Int32) (slo : Nat → Int32) (isv : Nat → Int32) (pad_ : Nat → Int32)  (a0 : Int32)   (r : OUT_X8_light) (hf : f_X8_light s_ a0 = some r) : Met l yX8_light wsX8_light R_X8_light (cPc D cI cC cZ cR [.ref mo, .int a0] sz (ws_model cI cC cZ cR mo mo1 mo2 mo3 mo4 mo5 kn le_ s_ past slo isv pad_)) (cQi D (ws_model cI cC cZ cR mo mo1 mo2 mo3 mo4 mo5 kn le_ s_ past slo isv pad_) (va_A (ws_model cI cC cZ cR mo mo1 mo2 mo3 mo4 mo5 kn le_ s_ past slo isv pad_) sz) r) 0 0 (va_A (ws_model cI cC cZ cR mo mo1 mo2 mo3 mo4 mo5 kn le_ s_ past slo isv pad_) sz) := by
  refine Met.ofW (cc := cX8_light) (maxL := 3) (ret := (some .int)) (by decide) rfl ?_
  intro p e s m args below meth c s₁ B hml hv
  obtain ⟨rfl, hsz, hP, hK, hD0⟩ := hv
  have hx := B.exec
  have hb := B.bytes
  have hr := B.returns
  have hts := atoms_spec (ws := wsX8_light) B.pre
  have hown : s.vm.findClass RX8 = some m.cls := findClass_of_methodNamed B.named
  have hlocks := B.notSynchronized
  subst hsz
  have hD := hD0.self (sz := s.heap.size)
  generalize hAe : va_A (ws_model cI cC cZ cR mo mo1 mo2 mo3 mo4 mo5 kn le_ s_ past slo isv pad_) s.heap.size = A at hD ⊢
  skip
  have hA : ∀ q : Nat, s.heap.size ≤ q → A q := fun q h => by rw [← hAe]; exact Or.inr h
  have hS : va_S A s.heap s.heap [] := va_S.rf
  have hl := lv_entry ([.ref mo, .int a0]) (n := 3) (Nat.le_of_ble_eq_true rfl)
  rw [lg_entry_eq]
  generalize (lg_sl ([.ref mo, .int a0]) ++ List.replicate (3 - (lg_sl ([.ref mo, .int a0])).length) Slot.unset).toArray = ls at hl ⊢
  have hl : lv_has ls 3 [(0, .ref mo), (1, .int a0)] := hl
  refine W_absQ (fun Q hQ => ?_)
  refine W.eq (g2 := F0 m 0 ls []) rfl ?_
  have h := hf
  unfold f_X8_light at h
  refine lv_aload_n hx hb dX8_light_0 rfl (lv_at hl 0 rfl) ?_
  refine lv_iload_n hx hb dX8_light_1 rfl (lv_at hl 1 rfl) ?_
  obtain ⟨r1, hcr1, h⟩ := bn_sp h
  have hPc := hP.sub (ws' := (ws_model cI cC cZ cR mo mo1 mo2 mo3 mo4 mo5 kn le_ s_ past slo isv pad_)) [0, 1, 2, 3, 4, 5] rfl
  have hDc := hD.sub (ws' := (ws_model cI cC cZ cR mo mo1 mo2 mo3 mo4 mo5 kn le_ s_ past slo isv pad_)) [0, 1, 2, 3, 4, 5] (by decide) rfl
  have hFc := va_free (wc := (ws_model cI cC cZ cR mo mo1 mo2 mo3 mo4 mo5 kn le_ s_ past slo isv pad_)) hD hS hA [0, 1, 2, 3, 4, 5] rfl
  refine va_calli (va_runV (As := [.int a0]) (rest := []) ⟨hx, hb, hml, hown, hts⟩ (m_X8_burns l D cI cC cZ cR mo mo1 mo2 mo3 mo4 mo5 _ kn le_ s_ past slo isv pad_ a0   r1 hcr1) (cwV 1 hts gX8_light_X8_burns rfl rfl rfl (by decide +kernel) ⟨Nat.le_of_ble_eq_true rfl, Nat.le_of_ble_eq_true rfl⟩) (cPc_pv hPc hK hDc (ci := 8) (q0 := 0) rfl rfl) rfl rfl hl.1 rfl (lv_room (Nat.le_of_ble_eq_true rfl)) dX8_light_2 ⟨Nat.le_of_ble_eq_true rfl, Nat.le_of_ble_eq_true rfl⟩) hS (fun q _ h => hFc q h) hFc (fun xq u t H1 locs ht hvm hw hB hz1 hk1 hS => ?_)
  rw [hw]
  obtain ⟨hP1, hD1⟩ := hB
  rw [ht] at hP1
  obtain ⟨hP, hD⟩ := va_join (wr := []) (w1 := (ws_model cI cC cZ cR mo mo1 mo2 mo3 mo4 mo5 kn le_ s_ past slo isv pad_)) hP hD [0, 1, 2, 3, 4, 5] [] rfl rfl (by decide) (by decide) hk1 hFc hP1 hD1
  generalize H1 = H at hP hS ⊢
  have hP : va_P D vwCl (ws_model cI cC cZ cR mo mo1 mo2 mo3 mo4 mo5 kn le_ s_ past slo isv pad_) H := hP
  have hD : va_D A (ws_model cI cC cZ cR mo mo1 mo2 mo3 mo4 mo5 kn le_ s_ past slo isv pad_) := hD
  refine lv_if_eq (tgt := 10) hx hb dX8_light_5 (by decide) (fun c6 => ?_) (fun c6 => ?_)
  · replace h := br_p c6 h
    refine lv_aload_n hx hb dX8_light_10 rfl (lv_at hl 0 rfl) ?_
    refine va_get (D := D) (ci := 8) (v := .ref mo1) (C := RX8) (T := TX8) (N := 7) hx hb hts uX8_light_X8 hown hK.1 hP 0 rfl rfl 0 (by decide) (hts _ kX8_light_1) (fun _ h9 => h9) rfl dX8_light_11 ?_
    refine lv_iconst (v := 2) hx hb dX8_light_14 (by decide) ?_
    obtain ⟨hin, h⟩ := gd_sp h
    refine va_iald (D := D) hx hb hK.1 hP 1 0 rfl rfl hin dX8_light_15 ?_
    obtain ⟨j43, hj43, h⟩ := jn_sp h
    have J43 : ∀ (j2 : Int32) (H : Heap) (locs : List Loc) (ls : Array Slot), j43 j2 = some r → va_P D vwCl (ws_model cI cC cZ cR mo mo1 mo2 mo3 mo4 mo5 kn le_ s_ past slo isv pad_) H → va_D A (ws_model cI cC cZ cR mo mo1 mo2 mo3 mo4 mo5 kn le_ s_ past slo isv pad_) → va_S A s.heap H locs → lv_has ls 3 [(0, .ref mo), (1, .int a0)] → W p l e R_X8_light s m ([.ref mo, .int a0] : List Value).toArray below meth c H locs 0 0 Q (F0 m 43 ls [.int j2]) := by
      intro j2 H locs ls h hP hD hS hl
      rw [hj43] at h
      refine lv_istore_n (lv' := [(2, .int j2), (0, .ref mo), (1, .int a0)]) hx hb dX8_light_43 rfl hl (by decide) rfl (fun ls hl => ?_)
      refine lv_iload_n hx hb dX8_light_44 rfl (lv_at hl 0 rfl) ?_
      refine lv_if_eq (tgt := 52) hx hb dX8_light_45 (by decide) (fun c3 => ?_) (fun c3 => ?_)
      · replace h := br_p c3 h
        refine lv_iconst (v := 1) hx hb dX8_light_52 (by decide) ?_
        have e9 := Option.some.inj h
        subst e9
        rw [hQ]
        exact W.iret (v := 1) hx hb hr (fun t ht hW => ⟨⟨1, (), rfl, rfl, by rw [ht]; exact hP, hD⟩, hS.F ht⟩) hS.2.2 dX8_light_53
      · replace h := br_n c3 h
        refine lv_iconst (v := 0) hx hb dX8_light_48 (by decide) ?_
        refine lv_goto (tgt := 53) hx hb dX8_light_49 (by decide) ?_
        have e9 := Option.some.inj h
        subst e9
        rw [hQ]
        exact W.iret (v := 0) hx hb hr (fun t ht hW => ⟨⟨0, (), rfl, rfl, by rw [ht]; exact hP, hD⟩, hS.F ht⟩) hS.2.2 dX8_light_53
    refine lv_if_le (tgt := 42) hx hb dX8_light_16 (by decide) (fun c5 => ?_) (fun c5 => ?_)
    · replace h := br_p c5 h
      refine lv_iconst (v := 0) hx hb dX8_light_42 (by decide) ?_
      exact J43 _ _ _ _ h hP hD hS (lv_sub hl [0, 1] rfl)
    · replace h := br_n c5 h
      refine lv_iload_n hx hb dX8_light_19 rfl (lv_at hl 1 rfl) ?_
      refine lv_aload_n hx hb dX8_light_20 rfl (lv_at hl 0 rfl) ?_
      refine va_get (D := D) (ci := 8) (v := .ref mo1) (C := RX8) (T := TX8) (N := 7) hx hb hts uX8_light_X8 hown hK.1 hP 0 rfl rfl 0 (by decide) (hts _ kX8_light_1) (fun _ h9 => h9) rfl dX8_light_21 ?_
      refine lv_iconst (v := 2) hx hb dX8_light_24 (by decide) ?_
      obtain ⟨hin, h⟩ := gd_sp h
      refine va_iald (D := D) hx hb hK.1 hP 1 0 rfl rfl hin dX8_light_25 ?_
      obtain ⟨hz, h⟩ := gz_sp h
      refine lv_irem hx hb dX8_light_26 hz ?_
      refine lv_aload_n hx hb dX8_light_27 rfl (lv_at hl 0 rfl) ?_
      refine va_get (D := D) (ci := 8) (v := .ref mo1) (C := RX8) (T := TX8) (N := 7) hx hb hts uX8_light_X8 hown hK.1 hP 0 rfl rfl 0 (by decide) (hts _ kX8_light_1) (fun _ h9 => h9) rfl dX8_light_28 ?_
      refine lv_iconst (v := 2) hx hb dX8_light_31 (by decide) ?_
      obtain ⟨hin, h⟩ := gd_sp h
      refine va_iald (D := D) hx hb hK.1 hP 1 0 rfl rfl hin dX8_light_32 ?_
      refine lv_iconst (v := 2) hx hb dX8_light_33 (by decide) ?_
      refine lv_idiv hx hb dX8_light_34 (by decide) ?_
      refine lv_icmp_lt (tgt := 42) hx hb dX8_light_35 (by decide) (fun c4 => ?_) (fun c4 => ?_)
      · replace h := br_p c4 h
        refine lv_iconst (v := 0) hx hb dX8_light_42 (by decide) ?_
        exact J43 _ _ _ _ h hP hD hS (lv_sub hl [0, 1] rfl)
      · replace h := br_n c4 h
        refine lv_iconst (v := 1) hx hb dX8_light_38 (by decide) ?_
        refine lv_goto (tgt := 43) hx hb dX8_light_39 (by decide) ?_
        exact J43 _ _ _ _ h hP hD hS (lv_sub hl [0, 1] rfl)
  · replace h := br_n c6 h
    refine lv_iconst (v := 3) hx hb dX8_light_8 (by decide) ?_
    have e9 := Option.some.inj h
    subst e9
    rw [hQ]
    exact W.iret (v := 3) hx hb hr (fun t ht hW => ⟨⟨3, (), rfl, rfl, by rw [ht]; exact hP, hD⟩, hS.F ht⟩) hS.2.2 dX8_light_9
-- LeaningLinesModel.seenAt
abbrev OUT_X8_seenAt : Type := Int32
def f_X8_seenAt_L6 (s_ : Nat → Int32) (a0 : Int32) (a1 : Int32) (a2 : Int32) (k : Int32 → Int32 → Option OUT_X8_seenAt) : Nat → Int32 → Int32 → Option OUT_X8_seenAt
  | 0 => fun _ _ => none
  | n + 1 => fun v3 v4 => gd 5 465 ((if (s_ (5 : Int32).toNatClampNeg) ≤ v4 then k v3 v4 else bn (f_X8_covers s_ v4 a0 a1 a2) (fun r5 => jn (fun (j6 : Int32) => bd (v3 + j6) (fun x7 => bd (v4 + 1) (fun x8 => f_X8_seenAt_L6 s_ a0 a1 a2 k n x7 x8))) (fun j42 => (if r5 = 0 then j42 0 else bn (f_X8_its s_ v4 4) (fun r9 => j42 r9))))))
theorem f_X8_seenAt_L6_s (s_ : Nat → Int32) (a0 : Int32) (a1 : Int32) (a2 : Int32) (k : Int32 → Int32 → Option OUT_X8_seenAt) (n : Nat) (v3 : Int32) (v4 : Int32) : f_X8_seenAt_L6 s_ a0 a1 a2 k (n + 1) v3 v4 = (gd 5 465 ((if (s_ (5 : Int32).toNatClampNeg) ≤ v4 then k v3 v4 else bn (f_X8_covers s_ v4 a0 a1 a2) (fun r5 => jn (fun (j6 : Int32) => bd (v3 + j6) (fun x7 => bd (v4 + 1) (fun x8 => f_X8_seenAt_L6 s_ a0 a1 a2 k n x7 x8))) (fun j42 => (if r5 = 0 then j42 0 else bn (f_X8_its s_ v4 4) (fun r9 => j42 r9))))))) := rfl
def f_X8_seenAt (s_ : Nat → Int32) (a0 : Int32) (a1 : Int32) (a2 : Int32) : Option OUT_X8_seenAt :=
  f_X8_seenAt_L6 s_ a0 a1 a2 (fun (w12 : Int32) (w13 : Int32) => jn (fun (j14 : Int32) => bn (f_X8_light s_ a2) (fun r15 => some (j14 * r15))) (fun j65 => (if 30 ≤ w12 then j65 30 else j65 w12))) 4000 0 0
theorem uX8_seenAt_X8 : ∀ w ∈ wsX80, w ∈ wsX8_seenAt := by decide +kernel
theorem kX8_seenAt_1 : Cond.fieldLink RX8 7 "LeaningLinesModel" "s" "[I" ∈ wsX8_seenAt := by decide +kernel
abbrev R_X8_seenAt : Room := { frames := 3, cells := 0, slots := 0, locals := 71 }
set_option maxHeartbeats 4000000 in
set_option maxRecDepth 100000 in
theorem m_X8_seenAt (l : Launch) (D : va_G) (cI cC cZ cR : ClassId) (mo mo1 mo2 mo3 mo4 mo5 : Nat) (sz : Nat) (kn : Int32) (le_ : Int32) (s_ : Nat → Int32) (past : Nat → Int32) (slo : Nat → Int32) (isv : Nat → Int32) (pad_ : Nat → Int32)  (a0 : Int32) (a1 : Int32) (a2 : Int32)   (r : OUT_X8_seenAt) (hf : f_X8_seenAt s_ a0 a1 a2 = some r) : Met l yX8_seenAt wsX8_seenAt R_X8_seenAt (cPc D cI cC cZ cR [.ref mo, .int a0, .int a1, .int a2] sz (ws_model cI cC cZ cR mo mo1 mo2 mo3 mo4 mo5 kn le_ s_ past slo isv pad_)) (cQi D (ws_model cI cC cZ cR mo mo1 mo2 mo3 mo4 mo5 kn le_ s_ past slo isv pad_) (va_A (ws_model cI cC cZ cR mo mo1 mo2 mo3 mo4 mo5 kn le_ s_ past slo isv pad_) sz) r) 0 0 (va_A (ws_model cI cC cZ cR mo mo1 mo2 mo3 mo4 mo5 kn le_ s_ past slo isv pad_) sz) := by
  refine Met.ofW (cc := cX8_seenAt) (maxL := 6) (ret := (some .int)) (by decide) rfl ?_
  intro p e s m args below meth c s₁ B hml hv
  obtain ⟨rfl, hsz, hP, hK, hD0⟩ := hv
  have hx := B.exec
  have hb := B.bytes
  have hr := B.returns
  have hts := atoms_spec (ws := wsX8_seenAt) B.pre
  have hown : s.vm.findClass RX8 = some m.cls := findClass_of_methodNamed B.named
  have hlocks := B.notSynchronized
  subst hsz
  have hD := hD0.self (sz := s.heap.size)
  generalize hAe : va_A (ws_model cI cC cZ cR mo mo1 mo2 mo3 mo4 mo5 kn le_ s_ past slo isv pad_) s.heap.size = A at hD ⊢
  skip
  have hA : ∀ q : Nat, s.heap.size ≤ q → A q := fun q h => by rw [← hAe]; exact Or.inr h
  have hS : va_S A s.heap s.heap [] := va_S.rf
  have hl := lv_entry ([.ref mo, .int a0, .int a1, .int a2]) (n := 6) (Nat.le_of_ble_eq_true rfl)
  rw [lg_entry_eq]
  generalize (lg_sl ([.ref mo, .int a0, .int a1, .int a2]) ++ List.replicate (6 - (lg_sl ([.ref mo, .int a0, .int a1, .int a2])).length) Slot.unset).toArray = ls at hl ⊢
  have hl : lv_has ls 6 [(0, .ref mo), (1, .int a0), (2, .int a1), (3, .int a2)] := hl
  refine W_absQ (fun Q hQ => ?_)
  refine W.eq (g2 := F0 m 0 ls []) rfl ?_
  have h := hf
  unfold f_X8_seenAt at h
  refine lv_iconst (v := 0) hx hb dX8_seenAt_0 (by decide) ?_
  refine lv_istore (lv' := [(4, .int 0), (0, .ref mo), (1, .int a0), (2, .int a1), (3, .int a2)]) hx hb dX8_seenAt_1 hl (by decide) rfl (fun ls hl => ?_)
  refine lv_iconst (v := 0) hx hb dX8_seenAt_3 (by decide) ?_
  refine lv_istore (lv' := [(5, .int 0), (4, .int 0), (0, .ref mo), (1, .int a0), (2, .int a1), (3, .int a2)]) hx hb dX8_seenAt_4 hl (by decide) rfl (fun ls hl => ?_)
  have L6 : ∀ (k : Int32 → Int32 → Option OUT_X8_seenAt), (∀ (w12 : Int32) (w13 : Int32) (H : Heap) (locs : List Loc) (ls : Array Slot), k w12 w13 = some r → va_P D vwCl (ws_model cI cC cZ cR mo mo1 mo2 mo3 mo4 mo5 kn le_ s_ past slo isv pad_) H → va_D A (ws_model cI cC cZ cR mo mo1 mo2 mo3 mo4 mo5 kn le_ s_ past slo isv pad_) → va_S A s.heap H locs → lv_has ls 6 [(0, .ref mo), (1, .int a0), (2, .int a1), (3, .int a2), (4, .int w12), (5, .int w13)] → W p l e R_X8_seenAt s m ([.ref mo, .int a0, .int a1, .int a2] : List Value).toArray below meth c H locs 0 0 Q (F0 m 51 ls [])) → ∀ (n : Nat) (v3 : Int32) (v4 : Int32) (H : Heap) (locs : List Loc) (ls : Array Slot), f_X8_seenAt_L6 s_ a0 a1 a2 k n v3 v4 = some r → va_P D vwCl (ws_model cI cC cZ cR mo mo1 mo2 mo3 mo4 mo5 kn le_ s_ past slo isv pad_) H → va_D A (ws_model cI cC cZ cR mo mo1 mo2 mo3 mo4 mo5 kn le_ s_ past slo isv pad_) → va_S A s.heap H locs → lv_has ls 6 [(0, .ref mo), (1, .int a0), (2, .int a1), (3, .int a2), (4, .int v3), (5, .int v4)] → W p l e R_X8_seenAt s m ([.ref mo, .int a0, .int a1, .int a2] : List Value).toArray below meth c H locs 0 0 Q (F0 m 6 ls []) := by
    intro k K n
    induction n with
    | zero => intro v3 v4 H locs ls h; exact no_sm h
    | succ n ih =>
      intro v3 v4 H locs ls h hP hD hS hl
      rw [f_X8_seenAt_L6_s] at h
      refine lv_iload hx hb dX8_seenAt_6 (lv_at hl 5 rfl) ?_
      refine lv_aload_n hx hb dX8_seenAt_8 rfl (lv_at hl 0 rfl) ?_
      refine va_get (D := D) (ci := 8) (v := .ref mo1) (C := RX8) (T := TX8) (N := 7) hx hb hts uX8_seenAt_X8 hown hK.1 hP 0 rfl rfl 0 (by decide) (hts _ kX8_seenAt_1) (fun _ h9 => h9) rfl dX8_seenAt_9 ?_
      refine lv_iconst (v := 5) hx hb dX8_seenAt_12 (by decide) ?_
      obtain ⟨hin, h⟩ := gd_sp h
      refine va_iald (D := D) hx hb hK.1 hP 1 0 rfl rfl hin dX8_seenAt_13 ?_
      refine lv_icmp_ge (tgt := 51) hx hb dX8_seenAt_14 (by decide) (fun c11 => ?_) (fun c11 => ?_)
      · replace h := br_p c11 h
        exact K _ _ _ _ _ h hP hD hS (lv_sub hl [0, 1, 2, 3, 4, 5] rfl)
      · replace h := br_n c11 h
        refine lv_iload hx hb dX8_seenAt_17 (lv_at hl 4 rfl) ?_
        refine lv_aload_n hx hb dX8_seenAt_19 rfl (lv_at hl 0 rfl) ?_
        refine lv_iload hx hb dX8_seenAt_20 (lv_at hl 5 rfl) ?_
        refine lv_iload_n hx hb dX8_seenAt_22 rfl (lv_at hl 1 rfl) ?_
        refine lv_iload_n hx hb dX8_seenAt_23 rfl (lv_at hl 2 rfl) ?_
        refine lv_iload_n hx hb dX8_seenAt_24 rfl (lv_at hl 3 rfl) ?_
        obtain ⟨r5, hcr5, h⟩ := bn_sp h
        have hPc := hP.sub (ws' := (ws_model cI cC cZ cR mo mo1 mo2 mo3 mo4 mo5 kn le_ s_ past slo isv pad_)) [0, 1, 2, 3, 4, 5] rfl
        have hDc := hD.sub (ws' := (ws_model cI cC cZ cR mo mo1 mo2 mo3 mo4 mo5 kn le_ s_ past slo isv pad_)) [0, 1, 2, 3, 4, 5] (by decide) rfl
        have hFc := va_free (wc := (ws_model cI cC cZ cR mo mo1 mo2 mo3 mo4 mo5 kn le_ s_ past slo isv pad_)) hD hS hA [0, 1, 2, 3, 4, 5] rfl
        refine va_calli (va_runV (As := [.int v4, .int a0, .int a1, .int a2]) (rest := [.int v3]) ⟨hx, hb, hml, hown, hts⟩ (m_X8_covers l D cI cC cZ cR mo mo1 mo2 mo3 mo4 mo5 _ kn le_ s_ past slo isv pad_ v4 a0 a1 a2   r5 hcr5) (cwV 4 hts gX8_seenAt_X8_covers rfl rfl rfl (by decide +kernel) ⟨Nat.le_of_ble_eq_true rfl, Nat.le_of_ble_eq_true rfl⟩) (cPc_pv hPc hK hDc (ci := 8) (q0 := 0) rfl rfl) rfl rfl hl.1 rfl (lv_room (Nat.le_of_ble_eq_true rfl)) dX8_seenAt_25 ⟨Nat.le_of_ble_eq_true rfl, Nat.le_of_ble_eq_true rfl⟩) hS (fun q _ h => hFc q h) hFc (fun xq u t H1 locs ht hvm hw hB hz1 hk1 hS => ?_)
        rw [hw]
        obtain ⟨hP1, hD1⟩ := hB
        rw [ht] at hP1
        obtain ⟨hP, hD⟩ := va_join (wr := []) (w1 := (ws_model cI cC cZ cR mo mo1 mo2 mo3 mo4 mo5 kn le_ s_ past slo isv pad_)) hP hD [0, 1, 2, 3, 4, 5] [] rfl rfl (by decide) (by decide) hk1 hFc hP1 hD1
        generalize H1 = H at hP hS ⊢
        have hP : va_P D vwCl (ws_model cI cC cZ cR mo mo1 mo2 mo3 mo4 mo5 kn le_ s_ past slo isv pad_) H := hP
        have hD : va_D A (ws_model cI cC cZ cR mo mo1 mo2 mo3 mo4 mo5 kn le_ s_ past slo isv pad_) := hD
        obtain ⟨j42, hj42, h⟩ := jn_sp h
        have J42 : ∀ (j6 : Int32) (H : Heap) (locs : List Loc) (ls : Array Slot), j42 j6 = some r → va_P D vwCl (ws_model cI cC cZ cR mo mo1 mo2 mo3 mo4 mo5 kn le_ s_ past slo isv pad_) H → va_D A (ws_model cI cC cZ cR mo mo1 mo2 mo3 mo4 mo5 kn le_ s_ past slo isv pad_) → va_S A s.heap H locs → lv_has ls 6 [(0, .ref mo), (1, .int a0), (2, .int a1), (3, .int a2), (4, .int v3), (5, .int v4)] → W p l e R_X8_seenAt s m ([.ref mo, .int a0, .int a1, .int a2] : List Value).toArray below meth c H locs 0 0 Q (F0 m 42 ls [.int j6, .int v3]) := by
          intro j6 H locs ls h hP hD hS hl
          rw [hj42] at h
          refine lv_iadd hx hb dX8_seenAt_42 ?_
          refine lv_topi (fun x7 ex7 => ?_)
          replace h := bd_s2 h ex7
          refine lv_istore (lv' := [(4, .int x7), (0, .ref mo), (1, .int a0), (2, .int a1), (3, .int a2), (5, .int v4)]) hx hb dX8_seenAt_43 hl (by decide) rfl (fun ls hl => ?_)
          obtain ⟨x8, ex8, h⟩ := bd_sp h
          refine lv_iinc (v := x8) (lv' := [(5, .int x8), (4, .int x7), (0, .ref mo), (1, .int a0), (2, .int a1), (3, .int a2)]) hx hb dX8_seenAt_45 hl (k := 5) rfl (by rw [ex8]; rfl) (by decide) rfl (fun ls hl => ?_)
          refine lv_goto (tgt := 6) hx hb dX8_seenAt_48 (by decide) ?_
          exact ih _ _ _ _ _ h hP hD hS (lv_sub hl [2, 3, 4, 5, 1, 0] rfl)
        refine lv_if_eq (tgt := 41) hx hb dX8_seenAt_28 (by decide) (fun c10 => ?_) (fun c10 => ?_)
        · replace h := br_p c10 h
          refine lv_iconst (v := 0) hx hb dX8_seenAt_41 (by decide) ?_
          exact J42 _ _ _ _ h hP hD hS (lv_sub hl [0, 1, 2, 3, 4, 5] rfl)
        · replace h := br_n c10 h
          refine lv_aload_n hx hb dX8_seenAt_31 rfl (lv_at hl 0 rfl) ?_
          refine lv_iload hx hb dX8_seenAt_32 (lv_at hl 5 rfl) ?_
          refine lv_iconst (v := 4) hx hb dX8_seenAt_34 (by decide) ?_
          obtain ⟨r9, hcr9, h⟩ := bn_sp h
          have hPc := hP.sub (ws' := (ws_model cI cC cZ cR mo mo1 mo2 mo3 mo4 mo5 kn le_ s_ past slo isv pad_)) [0, 1, 2, 3, 4, 5] rfl
          have hDc := hD.sub (ws' := (ws_model cI cC cZ cR mo mo1 mo2 mo3 mo4 mo5 kn le_ s_ past slo isv pad_)) [0, 1, 2, 3, 4, 5] (by decide) rfl
          have hFc := va_free (wc := (ws_model cI cC cZ cR mo mo1 mo2 mo3 mo4 mo5 kn le_ s_ past slo isv pad_)) hD hS hA [0, 1, 2, 3, 4, 5] rfl
          refine va_calli (va_runV (As := [.int v4, .int 4]) (rest := [.int v3]) ⟨hx, hb, hml, hown, hts⟩ (m_X8_its l D cI cC cZ cR mo mo1 mo2 mo3 mo4 mo5 _ kn le_ s_ past slo isv pad_ v4 4   r9 hcr9) (cwV 2 hts gX8_seenAt_X8_its rfl rfl rfl (by decide +kernel) ⟨Nat.le_of_ble_eq_true rfl, Nat.le_of_ble_eq_true rfl⟩) (cPc_pv hPc hK hDc (ci := 8) (q0 := 0) rfl rfl) rfl rfl hl.1 rfl (lv_room (Nat.le_of_ble_eq_true rfl)) dX8_seenAt_35 ⟨Nat.le_of_ble_eq_true rfl, Nat.le_of_ble_eq_true rfl⟩) hS (fun q _ h => hFc q h) hFc (fun xq u t H1 locs ht hvm hw hB hz1 hk1 hS => ?_)
          rw [hw]
          obtain ⟨hP1, hD1⟩ := hB
          rw [ht] at hP1
          obtain ⟨hP, hD⟩ := va_join (wr := []) (w1 := (ws_model cI cC cZ cR mo mo1 mo2 mo3 mo4 mo5 kn le_ s_ past slo isv pad_)) hP hD [0, 1, 2, 3, 4, 5] [] rfl rfl (by decide) (by decide) hk1 hFc hP1 hD1
          generalize H1 = H at hP hS ⊢
          have hP : va_P D vwCl (ws_model cI cC cZ cR mo mo1 mo2 mo3 mo4 mo5 kn le_ s_ past slo isv pad_) H := hP
          have hD : va_D A (ws_model cI cC cZ cR mo mo1 mo2 mo3 mo4 mo5 kn le_ s_ past slo isv pad_) := hD
          refine lv_goto (tgt := 42) hx hb dX8_seenAt_38 (by decide) ?_
          exact J42 _ _ _ _ h hP hD hS (lv_sub hl [0, 1, 2, 3, 4, 5] rfl)
  refine L6 _ (fun w12 w13 H locs ls h hP hD hS hl => ?_) 4000 0 0 _ _ _ h hP hD hS (lv_sub hl [2, 3, 4, 5, 1, 0] rfl)
  refine lv_iload hx hb dX8_seenAt_51 (lv_at hl 4 rfl) ?_
  refine lv_bipush (v := 30) hx hb dX8_seenAt_53 (by decide) ?_
  obtain ⟨j65, hj65, h⟩ := jn_sp h
  have J65 : ∀ (j14 : Int32) (H : Heap) (locs : List Loc) (ls : Array Slot), j65 j14 = some r → va_P D vwCl (ws_model cI cC cZ cR mo mo1 mo2 mo3 mo4 mo5 kn le_ s_ past slo isv pad_) H → va_D A (ws_model cI cC cZ cR mo mo1 mo2 mo3 mo4 mo5 kn le_ s_ past slo isv pad_) → va_S A s.heap H locs → lv_has ls 6 [(0, .ref mo), (1, .int a0), (2, .int a1), (3, .int a2), (4, .int w12), (5, .int w13)] → W p l e R_X8_seenAt s m ([.ref mo, .int a0, .int a1, .int a2] : List Value).toArray below meth c H locs 0 0 Q (F0 m 65 ls [.int j14]) := by
    intro j14 H locs ls h hP hD hS hl
    rw [hj65] at h
    refine lv_aload_n hx hb dX8_seenAt_65 rfl (lv_at hl 0 rfl) ?_
    refine lv_iload_n hx hb dX8_seenAt_66 rfl (lv_at hl 3 rfl) ?_
    obtain ⟨r15, hcr15, h⟩ := bn_sp h
    have hPc := hP.sub (ws' := (ws_model cI cC cZ cR mo mo1 mo2 mo3 mo4 mo5 kn le_ s_ past slo isv pad_)) [0, 1, 2, 3, 4, 5] rfl
    have hDc := hD.sub (ws' := (ws_model cI cC cZ cR mo mo1 mo2 mo3 mo4 mo5 kn le_ s_ past slo isv pad_)) [0, 1, 2, 3, 4, 5] (by decide) rfl
    have hFc := va_free (wc := (ws_model cI cC cZ cR mo mo1 mo2 mo3 mo4 mo5 kn le_ s_ past slo isv pad_)) hD hS hA [0, 1, 2, 3, 4, 5] rfl
    refine va_calli (va_runV (As := [.int a2]) (rest := [.int j14]) ⟨hx, hb, hml, hown, hts⟩ (m_X8_light l D cI cC cZ cR mo mo1 mo2 mo3 mo4 mo5 _ kn le_ s_ past slo isv pad_ a2   r15 hcr15) (cwV 1 hts gX8_seenAt_X8_light rfl rfl rfl (by decide +kernel) ⟨Nat.le_of_ble_eq_true rfl, Nat.le_of_ble_eq_true rfl⟩) (cPc_pv hPc hK hDc (ci := 8) (q0 := 0) rfl rfl) rfl rfl hl.1 rfl (lv_room (Nat.le_of_ble_eq_true rfl)) dX8_seenAt_67 ⟨Nat.le_of_ble_eq_true rfl, Nat.le_of_ble_eq_true rfl⟩) hS (fun q _ h => hFc q h) hFc (fun xq u t H1 locs ht hvm hw hB hz1 hk1 hS => ?_)
    rw [hw]
    obtain ⟨hP1, hD1⟩ := hB
    rw [ht] at hP1
    obtain ⟨hP, hD⟩ := va_join (wr := []) (w1 := (ws_model cI cC cZ cR mo mo1 mo2 mo3 mo4 mo5 kn le_ s_ past slo isv pad_)) hP hD [0, 1, 2, 3, 4, 5] [] rfl rfl (by decide) (by decide) hk1 hFc hP1 hD1
    generalize H1 = H at hP hS ⊢
    have hP : va_P D vwCl (ws_model cI cC cZ cR mo mo1 mo2 mo3 mo4 mo5 kn le_ s_ past slo isv pad_) H := hP
    have hD : va_D A (ws_model cI cC cZ cR mo mo1 mo2 mo3 mo4 mo5 kn le_ s_ past slo isv pad_) := hD
    refine lv_imul hx hb dX8_seenAt_70 ?_
    have e9 := Option.some.inj h
    subst e9
    rw [hQ]
    exact W.iret (v := j14 * r15) hx hb hr (fun t ht hW => ⟨⟨j14 * r15, (), rfl, rfl, by rw [ht]; exact hP, hD⟩, hS.F ht⟩) hS.2.2 dX8_seenAt_71
  refine lv_icmp_ge (tgt := 63) hx hb dX8_seenAt_55 (by decide) (fun c16 => ?_) (fun c16 => ?_)
  · replace h := br_p c16 h
    refine lv_bipush (v := 30) hx hb dX8_seenAt_63 (by decide) ?_
    exact J65 _ _ _ _ h hP hD hS (lv_sub hl [0, 1, 2, 3, 4, 5] rfl)
  · replace h := br_n c16 h
    refine lv_iload hx hb dX8_seenAt_58 (lv_at hl 4 rfl) ?_
    refine lv_goto (tgt := 65) hx hb dX8_seenAt_60 (by decide) ?_
    exact J65 _ _ _ _ h hP hD hS (lv_sub hl [0, 1, 2, 3, 4, 5] rfl)
-- LeaningLinesModel.exposed
abbrev OUT_X8_exposed : Type := Int32
def f_X8_exposed_L6 (s_ : Nat → Int32) (a0 : Int32) (a1 : Int32) (a2 : Int32) (k : Int32 → Int32 → Option OUT_X8_exposed) : Nat → Int32 → Int32 → Option OUT_X8_exposed
  | 0 => fun _ _ => none
  | n + 1 => fun v3 v4 => gd 1 465 ((if (s_ (1 : Int32).toNatClampNeg) ≤ v4 then k v3 v4 else bn (f_X8_seenAt s_ a0 a1 (a2 + v4)) (fun r5 => bd (v3 + r5) (fun x6 => bd (v4 + 1) (fun x7 => f_X8_exposed_L6 s_ a0 a1 a2 k n x6 x7)))))
theorem f_X8_exposed_L6_s (s_ : Nat → Int32) (a0 : Int32) (a1 : Int32) (a2 : Int32) (k : Int32 → Int32 → Option OUT_X8_exposed) (n : Nat) (v3 : Int32) (v4 : Int32) : f_X8_exposed_L6 s_ a0 a1 a2 k (n + 1) v3 v4 = (gd 1 465 ((if (s_ (1 : Int32).toNatClampNeg) ≤ v4 then k v3 v4 else bn (f_X8_seenAt s_ a0 a1 (a2 + v4)) (fun r5 => bd (v3 + r5) (fun x6 => bd (v4 + 1) (fun x7 => f_X8_exposed_L6 s_ a0 a1 a2 k n x6 x7)))))) := rfl
def f_X8_exposed (s_ : Nat → Int32) (a0 : Int32) (a1 : Int32) (a2 : Int32) : Option OUT_X8_exposed :=
  f_X8_exposed_L6 s_ a0 a1 a2 (fun (w9 : Int32) (w10 : Int32) => some (w9)) 4000 0 0
theorem uX8_exposed_X8 : ∀ w ∈ wsX80, w ∈ wsX8_exposed := by decide +kernel
theorem kX8_exposed_1 : Cond.fieldLink RX8 7 "LeaningLinesModel" "s" "[I" ∈ wsX8_exposed := by decide +kernel
abbrev R_X8_exposed : Room := { frames := 4, cells := 0, slots := 0, locals := 96 }
set_option maxHeartbeats 4000000 in
set_option maxRecDepth 100000 in
theorem m_X8_exposed (l : Launch) (D : va_G) (cI cC cZ cR : ClassId) (mo mo1 mo2 mo3 mo4 mo5 : Nat) (sz : Nat) (kn : Int32) (le_ : Int32) (s_ : Nat → Int32) (past : Nat → Int32) (slo : Nat → Int32) (isv : Nat → Int32) (pad_ : Nat → Int32)  (a0 : Int32) (a1 : Int32) (a2 : Int32)   (r : OUT_X8_exposed) (hf : f_X8_exposed s_ a0 a1 a2 = some r) : Met l yX8_exposed wsX8_exposed R_X8_exposed (cPc D cI cC cZ cR [.ref mo, .int a0, .int a1, .int a2] sz (ws_model cI cC cZ cR mo mo1 mo2 mo3 mo4 mo5 kn le_ s_ past slo isv pad_)) (cQi D (ws_model cI cC cZ cR mo mo1 mo2 mo3 mo4 mo5 kn le_ s_ past slo isv pad_) (va_A (ws_model cI cC cZ cR mo mo1 mo2 mo3 mo4 mo5 kn le_ s_ past slo isv pad_) sz) r) 0 0 (va_A (ws_model cI cC cZ cR mo mo1 mo2 mo3 mo4 mo5 kn le_ s_ past slo isv pad_) sz) := by
  refine Met.ofW (cc := cX8_exposed) (maxL := 6) (ret := (some .int)) (by decide) rfl ?_
  intro p e s m args below meth c s₁ B hml hv
  obtain ⟨rfl, hsz, hP, hK, hD0⟩ := hv
  have hx := B.exec
  have hb := B.bytes
  have hr := B.returns
  have hts := atoms_spec (ws := wsX8_exposed) B.pre
  have hown : s.vm.findClass RX8 = some m.cls := findClass_of_methodNamed B.named
  have hlocks := B.notSynchronized
  subst hsz
  have hD := hD0.self (sz := s.heap.size)
  generalize hAe : va_A (ws_model cI cC cZ cR mo mo1 mo2 mo3 mo4 mo5 kn le_ s_ past slo isv pad_) s.heap.size = A at hD ⊢
  skip
  have hA : ∀ q : Nat, s.heap.size ≤ q → A q := fun q h => by rw [← hAe]; exact Or.inr h
  have hS : va_S A s.heap s.heap [] := va_S.rf
  have hl := lv_entry ([.ref mo, .int a0, .int a1, .int a2]) (n := 6) (Nat.le_of_ble_eq_true rfl)
  rw [lg_entry_eq]
  generalize (lg_sl ([.ref mo, .int a0, .int a1, .int a2]) ++ List.replicate (6 - (lg_sl ([.ref mo, .int a0, .int a1, .int a2])).length) Slot.unset).toArray = ls at hl ⊢
  have hl : lv_has ls 6 [(0, .ref mo), (1, .int a0), (2, .int a1), (3, .int a2)] := hl
  refine W_absQ (fun Q hQ => ?_)
  refine W.eq (g2 := F0 m 0 ls []) rfl ?_
  have h := hf
  unfold f_X8_exposed at h
  refine lv_iconst (v := 0) hx hb dX8_exposed_0 (by decide) ?_
  refine lv_istore (lv' := [(4, .int 0), (0, .ref mo), (1, .int a0), (2, .int a1), (3, .int a2)]) hx hb dX8_exposed_1 hl (by decide) rfl (fun ls hl => ?_)
  refine lv_iconst (v := 0) hx hb dX8_exposed_3 (by decide) ?_
  refine lv_istore (lv' := [(5, .int 0), (4, .int 0), (0, .ref mo), (1, .int a0), (2, .int a1), (3, .int a2)]) hx hb dX8_exposed_4 hl (by decide) rfl (fun ls hl => ?_)
  have L6 : ∀ (k : Int32 → Int32 → Option OUT_X8_exposed), (∀ (w9 : Int32) (w10 : Int32) (H : Heap) (locs : List Loc) (ls : Array Slot), k w9 w10 = some r → va_P D vwCl (ws_model cI cC cZ cR mo mo1 mo2 mo3 mo4 mo5 kn le_ s_ past slo isv pad_) H → va_D A (ws_model cI cC cZ cR mo mo1 mo2 mo3 mo4 mo5 kn le_ s_ past slo isv pad_) → va_S A s.heap H locs → lv_has ls 6 [(0, .ref mo), (1, .int a0), (2, .int a1), (3, .int a2), (4, .int w9), (5, .int w10)] → W p l e R_X8_exposed s m ([.ref mo, .int a0, .int a1, .int a2] : List Value).toArray below meth c H locs 0 0 Q (F0 m 38 ls [])) → ∀ (n : Nat) (v3 : Int32) (v4 : Int32) (H : Heap) (locs : List Loc) (ls : Array Slot), f_X8_exposed_L6 s_ a0 a1 a2 k n v3 v4 = some r → va_P D vwCl (ws_model cI cC cZ cR mo mo1 mo2 mo3 mo4 mo5 kn le_ s_ past slo isv pad_) H → va_D A (ws_model cI cC cZ cR mo mo1 mo2 mo3 mo4 mo5 kn le_ s_ past slo isv pad_) → va_S A s.heap H locs → lv_has ls 6 [(0, .ref mo), (1, .int a0), (2, .int a1), (3, .int a2), (4, .int v3), (5, .int v4)] → W p l e R_X8_exposed s m ([.ref mo, .int a0, .int a1, .int a2] : List Value).toArray below meth c H locs 0 0 Q (F0 m 6 ls []) := by
    intro k K n
    induction n with
    | zero => intro v3 v4 H locs ls h; exact no_sm h
    | succ n ih =>
      intro v3 v4 H locs ls h hP hD hS hl
      rw [f_X8_exposed_L6_s] at h
      refine lv_iload hx hb dX8_exposed_6 (lv_at hl 5 rfl) ?_
      refine lv_aload_n hx hb dX8_exposed_8 rfl (lv_at hl 0 rfl) ?_
      refine va_get (D := D) (ci := 8) (v := .ref mo1) (C := RX8) (T := TX8) (N := 7) hx hb hts uX8_exposed_X8 hown hK.1 hP 0 rfl rfl 0 (by decide) (hts _ kX8_exposed_1) (fun _ h9 => h9) rfl dX8_exposed_9 ?_
      refine lv_iconst (v := 1) hx hb dX8_exposed_12 (by decide) ?_
      obtain ⟨hin, h⟩ := gd_sp h
      refine va_iald (D := D) hx hb hK.1 hP 1 0 rfl rfl hin dX8_exposed_13 ?_
      refine lv_icmp_ge (tgt := 38) hx hb dX8_exposed_14 (by decide) (fun c8 => ?_) (fun c8 => ?_)
      · replace h := br_p c8 h
        exact K _ _ _ _ _ h hP hD hS (lv_sub hl [0, 1, 2, 3, 4, 5] rfl)
      · replace h := br_n c8 h
        refine lv_iload hx hb dX8_exposed_17 (lv_at hl 4 rfl) ?_
        refine lv_aload_n hx hb dX8_exposed_19 rfl (lv_at hl 0 rfl) ?_
        refine lv_iload_n hx hb dX8_exposed_20 rfl (lv_at hl 1 rfl) ?_
        refine lv_iload_n hx hb dX8_exposed_21 rfl (lv_at hl 2 rfl) ?_
        refine lv_iload_n hx hb dX8_exposed_22 rfl (lv_at hl 3 rfl) ?_
        refine lv_iload hx hb dX8_exposed_23 (lv_at hl 5 rfl) ?_
        refine lv_iadd hx hb dX8_exposed_25 ?_
        obtain ⟨r5, hcr5, h⟩ := bn_sp h
        have hPc := hP.sub (ws' := (ws_model cI cC cZ cR mo mo1 mo2 mo3 mo4 mo5 kn le_ s_ past slo isv pad_)) [0, 1, 2, 3, 4, 5] rfl
        have hDc := hD.sub (ws' := (ws_model cI cC cZ cR mo mo1 mo2 mo3 mo4 mo5 kn le_ s_ past slo isv pad_)) [0, 1, 2, 3, 4, 5] (by decide) rfl
        have hFc := va_free (wc := (ws_model cI cC cZ cR mo mo1 mo2 mo3 mo4 mo5 kn le_ s_ past slo isv pad_)) hD hS hA [0, 1, 2, 3, 4, 5] rfl
        refine va_calli (va_runV (As := [.int a0, .int a1, .int (a2 + v4)]) (rest := [.int v3]) ⟨hx, hb, hml, hown, hts⟩ (m_X8_seenAt l D cI cC cZ cR mo mo1 mo2 mo3 mo4 mo5 _ kn le_ s_ past slo isv pad_ a0 a1 (a2 + v4)   r5 hcr5) (cwV 3 hts gX8_exposed_X8_seenAt rfl rfl rfl (by decide +kernel) ⟨Nat.le_of_ble_eq_true rfl, Nat.le_of_ble_eq_true rfl⟩) (cPc_pv hPc hK hDc (ci := 8) (q0 := 0) rfl rfl) rfl rfl hl.1 rfl (lv_room (Nat.le_of_ble_eq_true rfl)) dX8_exposed_26 ⟨Nat.le_of_ble_eq_true rfl, Nat.le_of_ble_eq_true rfl⟩) hS (fun q _ h => hFc q h) hFc (fun xq u t H1 locs ht hvm hw hB hz1 hk1 hS => ?_)
        rw [hw]
        obtain ⟨hP1, hD1⟩ := hB
        rw [ht] at hP1
        obtain ⟨hP, hD⟩ := va_join (wr := []) (w1 := (ws_model cI cC cZ cR mo mo1 mo2 mo3 mo4 mo5 kn le_ s_ past slo isv pad_)) hP hD [0, 1, 2, 3, 4, 5] [] rfl rfl (by decide) (by decide) hk1 hFc hP1 hD1
        generalize H1 = H at hP hS ⊢
        have hP : va_P D vwCl (ws_model cI cC cZ cR mo mo1 mo2 mo3 mo4 mo5 kn le_ s_ past slo isv pad_) H := hP
        have hD : va_D A (ws_model cI cC cZ cR mo mo1 mo2 mo3 mo4 mo5 kn le_ s_ past slo isv pad_) := hD
        refine lv_iadd hx hb dX8_exposed_29 ?_
        refine lv_topi (fun x6 ex6 => ?_)
        replace h := bd_s2 h ex6
        refine lv_istore (lv' := [(4, .int x6), (0, .ref mo), (1, .int a0), (2, .int a1), (3, .int a2), (5, .int v4)]) hx hb dX8_exposed_30 hl (by decide) rfl (fun ls hl => ?_)
        obtain ⟨x7, ex7, h⟩ := bd_sp h
        refine lv_iinc (v := x7) (lv' := [(5, .int x7), (4, .int x6), (0, .ref mo), (1, .int a0), (2, .int a1), (3, .int a2)]) hx hb dX8_exposed_32 hl (k := 5) rfl (by rw [ex7]; rfl) (by decide) rfl (fun ls hl => ?_)
        refine lv_goto (tgt := 6) hx hb dX8_exposed_35 (by decide) ?_
        exact ih _ _ _ _ _ h hP hD hS (lv_sub hl [2, 3, 4, 5, 1, 0] rfl)
  refine L6 _ (fun w9 w10 H locs ls h hP hD hS hl => ?_) 4000 0 0 _ _ _ h hP hD hS (lv_sub hl [2, 3, 4, 5, 1, 0] rfl)
  refine lv_iload hx hb dX8_exposed_38 (lv_at hl 4 rfl) ?_
  have e9 := Option.some.inj h
  subst e9
  rw [hQ]
  exact W.iret (v := w9) hx hb hr (fun t ht hW => ⟨⟨w9, (), rfl, rfl, by rw [ht]; exact hP, hD⟩, hS.F ht⟩) hS.2.2 dX8_exposed_40
-- LeaningLinesModel.remembers
abbrev OUT_X8_remembers : Type := Int32 × (Nat → Int32)
def f_X8_remembers_L52 (s_ : Nat → Int32) (j1 : Int32) (k : Int32 → (Nat → Int32) → Option OUT_X8_remembers) : Nat → Int32 → (Nat → Int32) → Option OUT_X8_remembers
  | 0 => fun _ _ => none
  | n + 1 => fun v5 v6 => (if 465 ≤ v5 then k v5 v6 else gd v5 465 (gd ((465 * j1) + v5) 2790 (bd (v5 + 1) (fun x7 => f_X8_remembers_L52 s_ j1 k n x7 (upd v6 ((465 * j1) + v5 : Int32).toNatClampNeg (s_ v5.toNatClampNeg))))))
theorem f_X8_remembers_L52_s (s_ : Nat → Int32) (j1 : Int32) (k : Int32 → (Nat → Int32) → Option OUT_X8_remembers) (n : Nat) (v5 : Int32) (v6 : Nat → Int32) : f_X8_remembers_L52 s_ j1 k (n + 1) v5 v6 = ((if 465 ≤ v5 then k v5 v6 else gd v5 465 (gd ((465 * j1) + v5) 2790 (bd (v5 + 1) (fun x7 => f_X8_remembers_L52 s_ j1 k n x7 (upd v6 ((465 * j1) + v5 : Int32).toNatClampNeg (s_ v5.toNatClampNeg))))))) := rfl
def f_X8_remembers_L11  (k : Int32 → (Nat → Int32) → Option OUT_X8_remembers) : Nat → Int32 → (Nat → Int32) → Option OUT_X8_remembers
  | 0 => fun _ _ => none
  | n + 1 => fun v13 v14 => (if 2325 ≤ v13 then k v13 v14 else gd (465 + v13) 2790 (gd v13 2790 (bd (v13 + 1) (fun x15 => f_X8_remembers_L11 k n x15 (upd v14 v13.toNatClampNeg (v14 (465 + v13 : Int32).toNatClampNeg))))))
theorem f_X8_remembers_L11_s  (k : Int32 → (Nat → Int32) → Option OUT_X8_remembers) (n : Nat) (v13 : Int32) (v14 : Nat → Int32) : f_X8_remembers_L11  k (n + 1) v13 v14 = ((if 2325 ≤ v13 then k v13 v14 else gd (465 + v13) 2790 (gd v13 2790 (bd (v13 + 1) (fun x15 => f_X8_remembers_L11 k n x15 (upd v14 v13.toNatClampNeg (v14 (465 + v13 : Int32).toNatClampNeg))))))) := rfl
def f_X8_remembers (kn : Int32) (s_ : Nat → Int32) (past : Nat → Int32) : Option OUT_X8_remembers :=
  jn (fun (j1 : Int32) (j2 : Nat → Int32) => f_X8_remembers_L52 s_ j1 (fun (w9 : Int32) (w10 : Nat → Int32) => some (j1 + 1, w10)) 4000 0 j2) (fun j50 => (if ¬ kn = 6 then j50 kn past else f_X8_remembers_L11  (fun (w17 : Int32) (w18 : Nat → Int32) => j50 (kn - 1) w18) 4000 0 past))
theorem uX8_remembers_X8 : ∀ w ∈ wsX80, w ∈ wsX8_remembers := by decide +kernel
theorem kX8_remembers_1 : Cond.fieldLink RX8 26 "LeaningLinesModel" "known" "I" ∈ wsX8_remembers := by decide +kernel
theorem kX8_remembers_2 : Cond.fieldLink RX8 13 "LeaningLinesModel" "past" "[I" ∈ wsX8_remembers := by decide +kernel
theorem kX8_remembers_3 : Cond.fieldLink RX8 7 "LeaningLinesModel" "s" "[I" ∈ wsX8_remembers := by decide +kernel
abbrev R_X8_remembers : Room := { frames := 0, cells := 0, slots := 0, locals := 0 }
set_option maxHeartbeats 4000000 in
set_option maxRecDepth 100000 in
theorem m_X8_remembers (l : Launch) (D : va_G) (cI cC cZ cR : ClassId) (mo mo1 mo2 mo3 mo4 mo5 : Nat) (sz : Nat) (kn : Int32) (le_ : Int32) (s_ : Nat → Int32) (past : Nat → Int32) (slo : Nat → Int32) (isv : Nat → Int32) (pad_ : Nat → Int32)     (r : OUT_X8_remembers) (hf : f_X8_remembers kn s_ past = some r) : Met l yX8_remembers wsX8_remembers R_X8_remembers (cPc D cI cC cZ cR [.ref mo] sz (ws_model cI cC cZ cR mo mo1 mo2 mo3 mo4 mo5 kn le_ s_ past slo isv pad_)) (cQv D (ws_model cI cC cZ cR mo mo1 mo2 mo3 mo4 mo5 r.1 le_ s_ r.2 slo isv pad_) (va_A (ws_model cI cC cZ cR mo mo1 mo2 mo3 mo4 mo5 kn le_ s_ past slo isv pad_) sz)) 0 0 (va_A (ws_model cI cC cZ cR mo mo1 mo2 mo3 mo4 mo5 kn le_ s_ past slo isv pad_) sz) := by
  refine Met.ofW (cc := cX8_remembers) (maxL := 2) (ret := none) (by decide) rfl ?_
  intro p e s m args below meth c s₁ B hml hv
  obtain ⟨rfl, hsz, hP, hK, hD0⟩ := hv
  have hx := B.exec
  have hb := B.bytes
  have hr := B.returns
  have hts := atoms_spec (ws := wsX8_remembers) B.pre
  have hown : s.vm.findClass RX8 = some m.cls := findClass_of_methodNamed B.named
  have hlocks := B.notSynchronized
  subst hsz
  have hD := hD0.self (sz := s.heap.size)
  generalize hAe : va_A (ws_model cI cC cZ cR mo mo1 mo2 mo3 mo4 mo5 kn le_ s_ past slo isv pad_) s.heap.size = A at hD ⊢
  skip
  have hA : ∀ q : Nat, s.heap.size ≤ q → A q := fun q h => by rw [← hAe]; exact Or.inr h
  have hS : va_S A s.heap s.heap [] := va_S.rf
  have hl := lv_entry ([.ref mo]) (n := 2) (Nat.le_of_ble_eq_true rfl)
  rw [lg_entry_eq]
  generalize (lg_sl ([.ref mo]) ++ List.replicate (2 - (lg_sl ([.ref mo])).length) Slot.unset).toArray = ls at hl ⊢
  have hl : lv_has ls 2 [(0, .ref mo)] := hl
  refine W_absQ (fun Q hQ => ?_)
  refine W.eq (g2 := F0 m 0 ls []) rfl ?_
  have h := hf
  unfold f_X8_remembers at h
  refine lv_aload_n hx hb dX8_remembers_0 rfl (lv_at hl 0 rfl) ?_
  refine va_get (D := D) (ci := 8) (v := .int kn) (C := RX8) (T := TX8) (N := 7) hx hb hts uX8_remembers_X8 hown hK.1 hP 0 rfl rfl 2 (by decide) (hts _ kX8_remembers_1) (fun _ h9 => h9) rfl dX8_remembers_1 ?_
  refine lv_bipush (v := 6) hx hb dX8_remembers_4 (by decide) ?_
  obtain ⟨j50, hj50, h⟩ := jn_sp h
  have J50 : ∀ (j1 : Int32) (j2 : Nat → Int32) (H : Heap) (locs : List Loc) (ls : Array Slot), j50 j1 j2 = some r → va_P D vwCl (ws_model cI cC cZ cR mo mo1 mo2 mo3 mo4 mo5 j1 le_ s_ j2 slo isv pad_) H → va_D A (ws_model cI cC cZ cR mo mo1 mo2 mo3 mo4 mo5 j1 le_ s_ j2 slo isv pad_) → va_S A s.heap H locs → lv_has ls 2 [(0, .ref mo)] → W p l e R_X8_remembers s m ([.ref mo] : List Value).toArray below meth c H locs 0 0 Q (F0 m 50 ls []) := by
    intro j1 j2 H locs ls h hP hD hS hl
    rw [hj50] at h
    refine lv_iconst (v := 0) hx hb dX8_remembers_50 (by decide) ?_
    refine lv_istore_n (lv' := [(1, .int 0), (0, .ref mo)]) hx hb dX8_remembers_51 rfl hl (by decide) rfl (fun ls hl => ?_)
    have L52 : ∀ (k : Int32 → (Nat → Int32) → Option OUT_X8_remembers), (∀ (w9 : Int32) (w10 : Nat → Int32) (H : Heap) (locs : List Loc) (ls : Array Slot), k w9 w10 = some r → va_P D vwCl (ws_model cI cC cZ cR mo mo1 mo2 mo3 mo4 mo5 j1 le_ s_ w10 slo isv pad_) H → va_D A (ws_model cI cC cZ cR mo mo1 mo2 mo3 mo4 mo5 j1 le_ s_ w10 slo isv pad_) → va_S A s.heap H locs → lv_has ls 2 [(0, .ref mo), (1, .int w9)] → W p l e R_X8_remembers s m ([.ref mo] : List Value).toArray below meth c H locs 0 0 Q (F0 m 86 ls [])) → ∀ (n : Nat) (v5 : Int32) (v6 : Nat → Int32) (H : Heap) (locs : List Loc) (ls : Array Slot), f_X8_remembers_L52 s_ j1 k n v5 v6 = some r → va_P D vwCl (ws_model cI cC cZ cR mo mo1 mo2 mo3 mo4 mo5 j1 le_ s_ v6 slo isv pad_) H → va_D A (ws_model cI cC cZ cR mo mo1 mo2 mo3 mo4 mo5 j1 le_ s_ v6 slo isv pad_) → va_S A s.heap H locs → lv_has ls 2 [(0, .ref mo), (1, .int v5)] → W p l e R_X8_remembers s m ([.ref mo] : List Value).toArray below meth c H locs 0 0 Q (F0 m 52 ls []) := by
      intro k K n
      induction n with
      | zero => intro v5 v6 H locs ls h; exact no_sm h
      | succ n ih =>
        intro v5 v6 H locs ls h hP hD hS hl
        rw [f_X8_remembers_L52_s] at h
        refine lv_iload_n hx hb dX8_remembers_52 rfl (lv_at hl 1 rfl) ?_
        refine lv_sipush (v := 465) hx hb dX8_remembers_53 (by decide) ?_
        refine lv_icmp_ge (tgt := 86) hx hb dX8_remembers_56 (by decide) (fun c8 => ?_) (fun c8 => ?_)
        · replace h := br_p c8 h
          exact K _ _ _ _ _ h hP hD hS (lv_sub hl [0, 1] rfl)
        · replace h := br_n c8 h
          refine lv_aload_n hx hb dX8_remembers_59 rfl (lv_at hl 0 rfl) ?_
          refine va_get (D := D) (ci := 8) (v := .ref mo2) (C := RX8) (T := TX8) (N := 7) hx hb hts uX8_remembers_X8 hown hK.1 hP 0 rfl rfl 1 (by decide) (hts _ kX8_remembers_2) (fun _ h9 => h9) rfl dX8_remembers_60 ?_
          refine lv_sipush (v := 465) hx hb dX8_remembers_63 (by decide) ?_
          refine lv_aload_n hx hb dX8_remembers_66 rfl (lv_at hl 0 rfl) ?_
          refine va_get (D := D) (ci := 8) (v := .int j1) (C := RX8) (T := TX8) (N := 7) hx hb hts uX8_remembers_X8 hown hK.1 hP 0 rfl rfl 2 (by decide) (hts _ kX8_remembers_1) (fun _ h9 => h9) rfl dX8_remembers_67 ?_
          refine lv_imul hx hb dX8_remembers_70 ?_
          refine lv_iload_n hx hb dX8_remembers_71 rfl (lv_at hl 1 rfl) ?_
          refine lv_iadd hx hb dX8_remembers_72 ?_
          refine lv_aload_n hx hb dX8_remembers_73 rfl (lv_at hl 0 rfl) ?_
          refine va_get (D := D) (ci := 8) (v := .ref mo1) (C := RX8) (T := TX8) (N := 7) hx hb hts uX8_remembers_X8 hown hK.1 hP 0 rfl rfl 0 (by decide) (hts _ kX8_remembers_3) (fun _ h9 => h9) rfl dX8_remembers_74 ?_
          refine lv_iload_n hx hb dX8_remembers_77 rfl (lv_at hl 1 rfl) ?_
          obtain ⟨hin, h⟩ := gd_sp h
          refine va_iald (D := D) hx hb hK.1 hP 1 0 rfl rfl hin dX8_remembers_78 ?_
          obtain ⟨hin, h⟩ := gd_sp h
          refine va_iast (D := D) hx hb hK.1 hP hD hS 2 0 rfl rfl hin dX8_remembers_79 (fun H locs hP hD hS => ?_)
          have hP : va_P D vwCl (ws_model cI cC cZ cR mo mo1 mo2 mo3 mo4 mo5 j1 le_ s_ (upd v6 ((465 * j1) + v5 : Int32).toNatClampNeg (s_ v5.toNatClampNeg)) slo isv pad_) H := hP
          have hD : va_D A (ws_model cI cC cZ cR mo mo1 mo2 mo3 mo4 mo5 j1 le_ s_ (upd v6 ((465 * j1) + v5 : Int32).toNatClampNeg (s_ v5.toNatClampNeg)) slo isv pad_) := hD
          obtain ⟨x7, ex7, h⟩ := bd_sp h
          refine lv_iinc (v := x7) (lv' := [(1, .int x7), (0, .ref mo)]) hx hb dX8_remembers_80 hl (k := 1) rfl (by rw [ex7]; rfl) (by decide) rfl (fun ls hl => ?_)
          refine lv_goto (tgt := 52) hx hb dX8_remembers_83 (by decide) ?_
          exact ih _ _ _ _ _ h hP hD hS (lv_sub hl [1, 0] rfl)
    refine L52 _ (fun w9 w10 H locs ls h hP hD hS hl => ?_) 4000 0 j2 _ _ _ h hP hD hS (lv_sub hl [1, 0] rfl)
    refine lv_aload_n hx hb dX8_remembers_86 rfl (lv_at hl 0 rfl) ?_
    refine lv_dup hx hb dX8_remembers_87 rfl ?_
    refine va_get (D := D) (ci := 8) (v := .int j1) (C := RX8) (T := TX8) (N := 7) hx hb hts uX8_remembers_X8 hown hK.1 hP 0 rfl rfl 2 (by decide) (hts _ kX8_remembers_1) (fun _ h9 => h9) rfl dX8_remembers_88 ?_
    refine lv_iconst (v := 1) hx hb dX8_remembers_91 (by decide) ?_
    refine lv_iadd hx hb dX8_remembers_92 ?_
    refine va_put (D := D) (ci := 8) (v := .int (j1 + 1)) (ty := .int) (C := RX8) (T := TX8) (N := 7) hx hb hts uX8_remembers_X8 tyX8 tyX8_ok nmX8 hown hK.1 hP hD hS 0 rfl rfl 2 (by decide) (hts _ kX8_remembers_1) (fun _ h9 => h9) rfl (by decide +kernel) rfl rfl (Nat.le_of_ble_eq_true rfl) dX8_remembers_93 (fun H locs hP hD hS => ?_)
    have hP : va_P D vwCl (ws_model cI cC cZ cR mo mo1 mo2 mo3 mo4 mo5 (j1 + 1) le_ s_ w10 slo isv pad_) H := hP
    have hD : va_D A (ws_model cI cC cZ cR mo mo1 mo2 mo3 mo4 mo5 (j1 + 1) le_ s_ w10 slo isv pad_) := hD
    have e9 := Option.some.inj h
    subst e9
    rw [hQ]
    exact W.vret hx hb hr (fun t ht hW => ⟨⟨(), rfl, trivial, by rw [ht]; exact hP, hD⟩, hS.F ht⟩) hS.2.2 dX8_remembers_96
  refine lv_icmp_ne (tgt := 50) hx hb dX8_remembers_6 (by decide) (fun c19 => ?_) (fun c19 => ?_)
  · replace h := br_p c19 h
    exact J50 _ _ _ _ _ h hP hD hS (lv_sub hl [0] rfl)
  · replace h := br_n (not_not_intro c19) h
    refine lv_iconst (v := 0) hx hb dX8_remembers_9 (by decide) ?_
    refine lv_istore_n (lv' := [(1, .int 0), (0, .ref mo)]) hx hb dX8_remembers_10 rfl hl (by decide) rfl (fun ls hl => ?_)
    have L11 : ∀ (k : Int32 → (Nat → Int32) → Option OUT_X8_remembers), (∀ (w17 : Int32) (w18 : Nat → Int32) (H : Heap) (locs : List Loc) (ls : Array Slot), k w17 w18 = some r → va_P D vwCl (ws_model cI cC cZ cR mo mo1 mo2 mo3 mo4 mo5 kn le_ s_ w18 slo isv pad_) H → va_D A (ws_model cI cC cZ cR mo mo1 mo2 mo3 mo4 mo5 kn le_ s_ w18 slo isv pad_) → va_S A s.heap H locs → lv_has ls 2 [(0, .ref mo), (1, .int w17)] → W p l e R_X8_remembers s m ([.ref mo] : List Value).toArray below meth c H locs 0 0 Q (F0 m 40 ls [])) → ∀ (n : Nat) (v13 : Int32) (v14 : Nat → Int32) (H : Heap) (locs : List Loc) (ls : Array Slot), f_X8_remembers_L11  k n v13 v14 = some r → va_P D vwCl (ws_model cI cC cZ cR mo mo1 mo2 mo3 mo4 mo5 kn le_ s_ v14 slo isv pad_) H → va_D A (ws_model cI cC cZ cR mo mo1 mo2 mo3 mo4 mo5 kn le_ s_ v14 slo isv pad_) → va_S A s.heap H locs → lv_has ls 2 [(0, .ref mo), (1, .int v13)] → W p l e R_X8_remembers s m ([.ref mo] : List Value).toArray below meth c H locs 0 0 Q (F0 m 11 ls []) := by
      intro k K n
      induction n with
      | zero => intro v13 v14 H locs ls h; exact no_sm h
      | succ n ih =>
        intro v13 v14 H locs ls h hP hD hS hl
        rw [f_X8_remembers_L11_s] at h
        refine lv_iload_n hx hb dX8_remembers_11 rfl (lv_at hl 1 rfl) ?_
        refine lv_sipush (v := 2325) hx hb dX8_remembers_12 (by decide) ?_
        refine lv_icmp_ge (tgt := 40) hx hb dX8_remembers_15 (by decide) (fun c16 => ?_) (fun c16 => ?_)
        · replace h := br_p c16 h
          exact K _ _ _ _ _ h hP hD hS (lv_sub hl [0, 1] rfl)
        · replace h := br_n c16 h
          refine lv_aload_n hx hb dX8_remembers_18 rfl (lv_at hl 0 rfl) ?_
          refine va_get (D := D) (ci := 8) (v := .ref mo2) (C := RX8) (T := TX8) (N := 7) hx hb hts uX8_remembers_X8 hown hK.1 hP 0 rfl rfl 1 (by decide) (hts _ kX8_remembers_2) (fun _ h9 => h9) rfl dX8_remembers_19 ?_
          refine lv_iload_n hx hb dX8_remembers_22 rfl (lv_at hl 1 rfl) ?_
          refine lv_aload_n hx hb dX8_remembers_23 rfl (lv_at hl 0 rfl) ?_
          refine va_get (D := D) (ci := 8) (v := .ref mo2) (C := RX8) (T := TX8) (N := 7) hx hb hts uX8_remembers_X8 hown hK.1 hP 0 rfl rfl 1 (by decide) (hts _ kX8_remembers_2) (fun _ h9 => h9) rfl dX8_remembers_24 ?_
          refine lv_sipush (v := 465) hx hb dX8_remembers_27 (by decide) ?_
          refine lv_iload_n hx hb dX8_remembers_30 rfl (lv_at hl 1 rfl) ?_
          refine lv_iadd hx hb dX8_remembers_31 ?_
          obtain ⟨hin, h⟩ := gd_sp h
          refine va_iald (D := D) hx hb hK.1 hP 2 0 rfl rfl hin dX8_remembers_32 ?_
          obtain ⟨hin, h⟩ := gd_sp h
          refine va_iast (D := D) hx hb hK.1 hP hD hS 2 0 rfl rfl hin dX8_remembers_33 (fun H locs hP hD hS => ?_)
          have hP : va_P D vwCl (ws_model cI cC cZ cR mo mo1 mo2 mo3 mo4 mo5 kn le_ s_ (upd v14 v13.toNatClampNeg (v14 (465 + v13 : Int32).toNatClampNeg)) slo isv pad_) H := hP
          have hD : va_D A (ws_model cI cC cZ cR mo mo1 mo2 mo3 mo4 mo5 kn le_ s_ (upd v14 v13.toNatClampNeg (v14 (465 + v13 : Int32).toNatClampNeg)) slo isv pad_) := hD
          obtain ⟨x15, ex15, h⟩ := bd_sp h
          refine lv_iinc (v := x15) (lv' := [(1, .int x15), (0, .ref mo)]) hx hb dX8_remembers_34 hl (k := 1) rfl (by rw [ex15]; rfl) (by decide) rfl (fun ls hl => ?_)
          refine lv_goto (tgt := 11) hx hb dX8_remembers_37 (by decide) ?_
          exact ih _ _ _ _ _ h hP hD hS (lv_sub hl [1, 0] rfl)
    refine L11 _ (fun w17 w18 H locs ls h hP hD hS hl => ?_) 4000 0 past _ _ _ h hP hD hS (lv_sub hl [1, 0] rfl)
    refine lv_aload_n hx hb dX8_remembers_40 rfl (lv_at hl 0 rfl) ?_
    refine lv_dup hx hb dX8_remembers_41 rfl ?_
    refine va_get (D := D) (ci := 8) (v := .int kn) (C := RX8) (T := TX8) (N := 7) hx hb hts uX8_remembers_X8 hown hK.1 hP 0 rfl rfl 2 (by decide) (hts _ kX8_remembers_1) (fun _ h9 => h9) rfl dX8_remembers_42 ?_
    refine lv_iconst (v := 1) hx hb dX8_remembers_45 (by decide) ?_
    refine lv_isub hx hb dX8_remembers_46 ?_
    refine va_put (D := D) (ci := 8) (v := .int (kn - 1)) (ty := .int) (C := RX8) (T := TX8) (N := 7) hx hb hts uX8_remembers_X8 tyX8 tyX8_ok nmX8 hown hK.1 hP hD hS 0 rfl rfl 2 (by decide) (hts _ kX8_remembers_1) (fun _ h9 => h9) rfl (by decide +kernel) rfl rfl (Nat.le_of_ble_eq_true rfl) dX8_remembers_47 (fun H locs hP hD hS => ?_)
    have hP : va_P D vwCl (ws_model cI cC cZ cR mo mo1 mo2 mo3 mo4 mo5 (kn - 1) le_ s_ w18 slo isv pad_) H := hP
    have hD : va_D A (ws_model cI cC cZ cR mo mo1 mo2 mo3 mo4 mo5 (kn - 1) le_ s_ w18 slo isv pad_) := hD
    exact J50 _ _ _ _ _ h hP hD hS (lv_sub hl [0] rfl)
-- LeaningLinesModel.isFlash
abbrev OUT_X8_isFlash : Type := Int32
def f_X8_isFlash (a0 : Int32) (a1 : Int32) : Option OUT_X8_isFlash :=
  bn (f_X8_in a0 0 99) (fun r1 => (if r1 = 0 then some (0) else bn (f_X8_in a1 1 20) (fun r2 => (if r2 = 0 then some (0) else some (1)))))
abbrev R_X8_isFlash : Room := { frames := 1, cells := 0, slots := 0, locals := 22 }
set_option maxHeartbeats 4000000 in
set_option maxRecDepth 100000 in
theorem m_X8_isFlash (l : Launch) (D : va_G) (cI cC cZ cR : ClassId)  (sz : Nat)   (a0 : Int32) (a1 : Int32)   (r : OUT_X8_isFlash) (hf : f_X8_isFlash a0 a1 = some r) : Met l yX8_isFlash wsX8_isFlash R_X8_isFlash (cPc D cI cC cZ cR [.int a0, .int a1] sz []) (cQi D [] (va_A [] sz) r) 0 0 (va_A [] sz) := by
  refine Met.ofW (cc := cX8_isFlash) (maxL := 2) (ret := (some .boolean)) (by decide) rfl ?_
  intro p e s m args below meth c s₁ B hml hv
  obtain ⟨rfl, hsz, hP, hK, hD0⟩ := hv
  have hx := B.exec
  have hb := B.bytes
  have hr := B.returns
  have hts := atoms_spec (ws := wsX8_isFlash) B.pre
  have hown : s.vm.findClass RX8 = some m.cls := findClass_of_methodNamed B.named
  have hlocks := B.notSynchronized
  subst hsz
  have hD := hD0.self (sz := s.heap.size)
  generalize hAe : va_A [] s.heap.size = A at hD ⊢
  skip
  have hA : ∀ q : Nat, s.heap.size ≤ q → A q := fun q h => by rw [← hAe]; exact Or.inr h
  have hS : va_S A s.heap s.heap [] := va_S.rf
  have hl := lv_entry ([.int a0, .int a1]) (n := 2) (Nat.le_of_ble_eq_true rfl)
  rw [lg_entry_eq]
  generalize (lg_sl ([.int a0, .int a1]) ++ List.replicate (2 - (lg_sl ([.int a0, .int a1])).length) Slot.unset).toArray = ls at hl ⊢
  have hl : lv_has ls 2 [(0, .int a0), (1, .int a1)] := hl
  refine W_absQ (fun Q hQ => ?_)
  refine W.eq (g2 := F0 m 0 ls []) rfl ?_
  have h := hf
  unfold f_X8_isFlash at h
  refine lv_iload_n hx hb dX8_isFlash_0 rfl (lv_at hl 0 rfl) ?_
  refine lv_iconst (v := 0) hx hb dX8_isFlash_1 (by decide) ?_
  refine lv_bipush (v := 99) hx hb dX8_isFlash_2 (by decide) ?_
  obtain ⟨r1, hcr1, h⟩ := bn_sp h
  have hPc := hP.sub (ws' := []) [] rfl
  have hDc := hD.sub (ws' := []) [] (by decide) rfl
  have hFc := va_free (wc := []) hD hS hA [] rfl
  refine va_calli (va_runS (As := [.int a0, .int 0, .int 99]) (rest := []) ⟨hx, hb, hml, hown, hts⟩ (m_X8_in l D cI cC cZ cR  _  a0 0 99   r1 hcr1) (va_cwS 3 hts gX8_isFlash_X8_in rfl rfl rfl (by decide +kernel) ⟨Nat.le_of_ble_eq_true rfl, Nat.le_of_ble_eq_true rfl⟩) (cPc_ps hPc hK hDc) rfl rfl hl.1 rfl (lv_room (Nat.le_of_ble_eq_true rfl)) dX8_isFlash_4 ⟨Nat.le_of_ble_eq_true rfl, Nat.le_of_ble_eq_true rfl⟩) hS (fun q _ h => hFc q h) hFc (fun xq u t H1 locs ht hvm hw hB hz1 hk1 hS => ?_)
  rw [hw]
  obtain ⟨hP1, hD1⟩ := hB
  rw [ht] at hP1
  obtain ⟨hP, hD⟩ := va_join (wr := []) (w1 := []) hP hD [] [] rfl rfl (by decide) (by decide) hk1 hFc hP1 hD1
  generalize H1 = H at hP hS ⊢
  have hP : va_P D vwCl [] H := hP
  have hD : va_D A [] := hD
  refine lv_if_eq (tgt := 24) hx hb dX8_isFlash_7 (by decide) (fun c4 => ?_) (fun c4 => ?_)
  · replace h := br_p c4 h
    refine lv_iconst (v := 0) hx hb dX8_isFlash_24 (by decide) ?_
    have e9 := Option.some.inj h
    subst e9
    rw [hQ]
    exact W.zret (v := 0) hx hb hr rfl (fun t ht hW => ⟨⟨0, (), rfl, rfl, by rw [ht]; exact hP, hD⟩, hS.F ht⟩) hS.2.2 dX8_isFlash_25
  · replace h := br_n c4 h
    refine lv_iload_n hx hb dX8_isFlash_10 rfl (lv_at hl 1 rfl) ?_
    refine lv_iconst (v := 1) hx hb dX8_isFlash_11 (by decide) ?_
    refine lv_bipush (v := 20) hx hb dX8_isFlash_12 (by decide) ?_
    obtain ⟨r2, hcr2, h⟩ := bn_sp h
    have hPc := hP.sub (ws' := []) [] rfl
    have hDc := hD.sub (ws' := []) [] (by decide) rfl
    have hFc := va_free (wc := []) hD hS hA [] rfl
    refine va_calli (va_runS (As := [.int a1, .int 1, .int 20]) (rest := []) ⟨hx, hb, hml, hown, hts⟩ (m_X8_in l D cI cC cZ cR  _  a1 1 20   r2 hcr2) (va_cwS 3 hts gX8_isFlash_X8_in rfl rfl rfl (by decide +kernel) ⟨Nat.le_of_ble_eq_true rfl, Nat.le_of_ble_eq_true rfl⟩) (cPc_ps hPc hK hDc) rfl rfl hl.1 rfl (lv_room (Nat.le_of_ble_eq_true rfl)) dX8_isFlash_14 ⟨Nat.le_of_ble_eq_true rfl, Nat.le_of_ble_eq_true rfl⟩) hS (fun q _ h => hFc q h) hFc (fun xq u t H1 locs ht hvm hw hB hz1 hk1 hS => ?_)
    rw [hw]
    obtain ⟨hP1, hD1⟩ := hB
    rw [ht] at hP1
    obtain ⟨hP, hD⟩ := va_join (wr := []) (w1 := []) hP hD [] [] rfl rfl (by decide) (by decide) hk1 hFc hP1 hD1
    generalize H1 = H at hP hS ⊢
    have hP : va_P D vwCl [] H := hP
    have hD : va_D A [] := hD
    refine lv_if_eq (tgt := 24) hx hb dX8_isFlash_17 (by decide) (fun c3 => ?_) (fun c3 => ?_)
    · replace h := br_p c3 h
      refine lv_iconst (v := 0) hx hb dX8_isFlash_24 (by decide) ?_
      have e9 := Option.some.inj h
      subst e9
      rw [hQ]
      exact W.zret (v := 0) hx hb hr rfl (fun t ht hW => ⟨⟨0, (), rfl, rfl, by rw [ht]; exact hP, hD⟩, hS.F ht⟩) hS.2.2 dX8_isFlash_25
    · replace h := br_n c3 h
      refine lv_iconst (v := 1) hx hb dX8_isFlash_20 (by decide) ?_
      refine lv_goto (tgt := 25) hx hb dX8_isFlash_21 (by decide) ?_
      have e9 := Option.some.inj h
      subst e9
      rw [hQ]
      exact W.zret (v := 1) hx hb hr rfl (fun t ht hW => ⟨⟨1, (), rfl, rfl, by rw [ht]; exact hP, hD⟩, hS.F ht⟩) hS.2.2 dX8_isFlash_25
-- LeaningLinesModel.flashes
abbrev OUT_X8_flashes : Type := Int32 × (Nat → Int32)
def f_X8_flashes (s_ : Nat → Int32) (a0 : Int32) (a1 : Int32) : Option OUT_X8_flashes :=
  gd 4 465 (gd 7 465 (gd 8 465 (gd 7 465 (some (((upd (upd s_ (7 : Int32).toNatClampNeg ((s_ (4 : Int32).toNatClampNeg) + a0)) (8 : Int32).toNatClampNeg a1) (7 : Int32).toNatClampNeg, upd (upd s_ (7 : Int32).toNatClampNeg ((s_ (4 : Int32).toNatClampNeg) + a0)) (8 : Int32).toNatClampNeg a1))))))
theorem uX8_flashes_X8 : ∀ w ∈ wsX80, w ∈ wsX8_flashes := by decide +kernel
theorem kX8_flashes_1 : Cond.fieldLink RX8 7 "LeaningLinesModel" "s" "[I" ∈ wsX8_flashes := by decide +kernel
abbrev R_X8_flashes : Room := { frames := 0, cells := 0, slots := 0, locals := 0 }
set_option maxHeartbeats 4000000 in
set_option maxRecDepth 100000 in
theorem m_X8_flashes (l : Launch) (D : va_G) (cI cC cZ cR : ClassId) (mo mo1 mo2 mo3 mo4 mo5 : Nat) (sz : Nat) (kn : Int32) (le_ : Int32) (s_ : Nat → Int32) (past : Nat → Int32) (slo : Nat → Int32) (isv : Nat → Int32) (pad_ : Nat → Int32)  (a0 : Int32) (a1 : Int32)   (r : OUT_X8_flashes) (hf : f_X8_flashes s_ a0 a1 = some r) : Met l yX8_flashes wsX8_flashes R_X8_flashes (cPc D cI cC cZ cR [.ref mo, .int a0, .int a1] sz (ws_model cI cC cZ cR mo mo1 mo2 mo3 mo4 mo5 kn le_ s_ past slo isv pad_)) (cQi D (ws_model cI cC cZ cR mo mo1 mo2 mo3 mo4 mo5 kn le_ r.2 past slo isv pad_) (va_A (ws_model cI cC cZ cR mo mo1 mo2 mo3 mo4 mo5 kn le_ s_ past slo isv pad_) sz) r.1) 0 0 (va_A (ws_model cI cC cZ cR mo mo1 mo2 mo3 mo4 mo5 kn le_ s_ past slo isv pad_) sz) := by
  refine Met.ofW (cc := cX8_flashes) (maxL := 3) (ret := (some .int)) (by decide) rfl ?_
  intro p e s m args below meth c s₁ B hml hv
  obtain ⟨rfl, hsz, hP, hK, hD0⟩ := hv
  have hx := B.exec
  have hb := B.bytes
  have hr := B.returns
  have hts := atoms_spec (ws := wsX8_flashes) B.pre
  have hown : s.vm.findClass RX8 = some m.cls := findClass_of_methodNamed B.named
  have hlocks := B.notSynchronized
  subst hsz
  have hD := hD0.self (sz := s.heap.size)
  generalize hAe : va_A (ws_model cI cC cZ cR mo mo1 mo2 mo3 mo4 mo5 kn le_ s_ past slo isv pad_) s.heap.size = A at hD ⊢
  skip
  have hA : ∀ q : Nat, s.heap.size ≤ q → A q := fun q h => by rw [← hAe]; exact Or.inr h
  have hS : va_S A s.heap s.heap [] := va_S.rf
  have hl := lv_entry ([.ref mo, .int a0, .int a1]) (n := 3) (Nat.le_of_ble_eq_true rfl)
  rw [lg_entry_eq]
  generalize (lg_sl ([.ref mo, .int a0, .int a1]) ++ List.replicate (3 - (lg_sl ([.ref mo, .int a0, .int a1])).length) Slot.unset).toArray = ls at hl ⊢
  have hl : lv_has ls 3 [(0, .ref mo), (1, .int a0), (2, .int a1)] := hl
  refine W_absQ (fun Q hQ => ?_)
  refine W.eq (g2 := F0 m 0 ls []) rfl ?_
  have h := hf
  unfold f_X8_flashes at h
  refine lv_aload_n hx hb dX8_flashes_0 rfl (lv_at hl 0 rfl) ?_
  refine va_get (D := D) (ci := 8) (v := .ref mo1) (C := RX8) (T := TX8) (N := 7) hx hb hts uX8_flashes_X8 hown hK.1 hP 0 rfl rfl 0 (by decide) (hts _ kX8_flashes_1) (fun _ h9 => h9) rfl dX8_flashes_1 ?_
  refine lv_bipush (v := 7) hx hb dX8_flashes_4 (by decide) ?_
  refine lv_aload_n hx hb dX8_flashes_6 rfl (lv_at hl 0 rfl) ?_
  refine va_get (D := D) (ci := 8) (v := .ref mo1) (C := RX8) (T := TX8) (N := 7) hx hb hts uX8_flashes_X8 hown hK.1 hP 0 rfl rfl 0 (by decide) (hts _ kX8_flashes_1) (fun _ h9 => h9) rfl dX8_flashes_7 ?_
  refine lv_iconst (v := 4) hx hb dX8_flashes_10 (by decide) ?_
  obtain ⟨hin, h⟩ := gd_sp h
  refine va_iald (D := D) hx hb hK.1 hP 1 0 rfl rfl hin dX8_flashes_11 ?_
  refine lv_iload_n hx hb dX8_flashes_12 rfl (lv_at hl 1 rfl) ?_
  refine lv_iadd hx hb dX8_flashes_13 ?_
  obtain ⟨hin, h⟩ := gd_sp h
  refine va_iast (D := D) hx hb hK.1 hP hD hS 1 0 rfl rfl hin dX8_flashes_14 (fun H locs hP hD hS => ?_)
  have hP : va_P D vwCl (ws_model cI cC cZ cR mo mo1 mo2 mo3 mo4 mo5 kn le_ (upd s_ (7 : Int32).toNatClampNeg ((s_ (4 : Int32).toNatClampNeg) + a0)) past slo isv pad_) H := hP
  have hD : va_D A (ws_model cI cC cZ cR mo mo1 mo2 mo3 mo4 mo5 kn le_ (upd s_ (7 : Int32).toNatClampNeg ((s_ (4 : Int32).toNatClampNeg) + a0)) past slo isv pad_) := hD
  refine lv_aload_n hx hb dX8_flashes_15 rfl (lv_at hl 0 rfl) ?_
  refine va_get (D := D) (ci := 8) (v := .ref mo1) (C := RX8) (T := TX8) (N := 7) hx hb hts uX8_flashes_X8 hown hK.1 hP 0 rfl rfl 0 (by decide) (hts _ kX8_flashes_1) (fun _ h9 => h9) rfl dX8_flashes_16 ?_
  refine lv_bipush (v := 8) hx hb dX8_flashes_19 (by decide) ?_
  refine lv_iload_n hx hb dX8_flashes_21 rfl (lv_at hl 2 rfl) ?_
  obtain ⟨hin, h⟩ := gd_sp h
  refine va_iast (D := D) hx hb hK.1 hP hD hS 1 0 rfl rfl hin dX8_flashes_22 (fun H locs hP hD hS => ?_)
  have hP : va_P D vwCl (ws_model cI cC cZ cR mo mo1 mo2 mo3 mo4 mo5 kn le_ (upd (upd s_ (7 : Int32).toNatClampNeg ((s_ (4 : Int32).toNatClampNeg) + a0)) (8 : Int32).toNatClampNeg a1) past slo isv pad_) H := hP
  have hD : va_D A (ws_model cI cC cZ cR mo mo1 mo2 mo3 mo4 mo5 kn le_ (upd (upd s_ (7 : Int32).toNatClampNeg ((s_ (4 : Int32).toNatClampNeg) + a0)) (8 : Int32).toNatClampNeg a1) past slo isv pad_) := hD
  refine lv_aload_n hx hb dX8_flashes_23 rfl (lv_at hl 0 rfl) ?_
  refine va_get (D := D) (ci := 8) (v := .ref mo1) (C := RX8) (T := TX8) (N := 7) hx hb hts uX8_flashes_X8 hown hK.1 hP 0 rfl rfl 0 (by decide) (hts _ kX8_flashes_1) (fun _ h9 => h9) rfl dX8_flashes_24 ?_
  refine lv_bipush (v := 7) hx hb dX8_flashes_27 (by decide) ?_
  obtain ⟨hin, h⟩ := gd_sp h
  refine va_iald (D := D) hx hb hK.1 hP 1 0 rfl rfl hin dX8_flashes_29 ?_
  have e9 := Option.some.inj h
  subst e9
  rw [hQ]
  exact W.iret (v := (upd (upd s_ (7 : Int32).toNatClampNeg ((s_ (4 : Int32).toNatClampNeg) + a0)) (8 : Int32).toNatClampNeg a1) (7 : Int32).toNatClampNeg) hx hb hr (fun t ht hW => ⟨⟨(upd (upd s_ (7 : Int32).toNatClampNeg ((s_ (4 : Int32).toNatClampNeg) + a0)) (8 : Int32).toNatClampNeg a1) (7 : Int32).toNatClampNeg, (), rfl, rfl, by rw [ht]; exact hP, hD⟩, hS.F ht⟩) hS.2.2 dX8_flashes_30
-- LeaningLinesModel.isPixel
abbrev OUT_X8_isPixel : Type := Int32
def f_X8_isPixel (a0 : Int32) (a1 : Int32) : Option OUT_X8_isPixel :=
  bn (f_X8_in a0 0 15) (fun r1 => (if r1 = 0 then some (0) else bn (f_X8_in a1 0 23) (fun r2 => (if r2 = 0 then some (0) else some (1)))))
abbrev R_X8_isPixel : Room := { frames := 1, cells := 0, slots := 0, locals := 22 }
set_option maxHeartbeats 4000000 in
set_option maxRecDepth 100000 in
theorem m_X8_isPixel (l : Launch) (D : va_G) (cI cC cZ cR : ClassId)  (sz : Nat)   (a0 : Int32) (a1 : Int32)   (r : OUT_X8_isPixel) (hf : f_X8_isPixel a0 a1 = some r) : Met l yX8_isPixel wsX8_isPixel R_X8_isPixel (cPc D cI cC cZ cR [.int a0, .int a1] sz []) (cQi D [] (va_A [] sz) r) 0 0 (va_A [] sz) := by
  refine Met.ofW (cc := cX8_isPixel) (maxL := 2) (ret := (some .boolean)) (by decide) rfl ?_
  intro p e s m args below meth c s₁ B hml hv
  obtain ⟨rfl, hsz, hP, hK, hD0⟩ := hv
  have hx := B.exec
  have hb := B.bytes
  have hr := B.returns
  have hts := atoms_spec (ws := wsX8_isPixel) B.pre
  have hown : s.vm.findClass RX8 = some m.cls := findClass_of_methodNamed B.named
  have hlocks := B.notSynchronized
  subst hsz
  have hD := hD0.self (sz := s.heap.size)
  generalize hAe : va_A [] s.heap.size = A at hD ⊢
  skip
  have hA : ∀ q : Nat, s.heap.size ≤ q → A q := fun q h => by rw [← hAe]; exact Or.inr h
  have hS : va_S A s.heap s.heap [] := va_S.rf
  have hl := lv_entry ([.int a0, .int a1]) (n := 2) (Nat.le_of_ble_eq_true rfl)
  rw [lg_entry_eq]
  generalize (lg_sl ([.int a0, .int a1]) ++ List.replicate (2 - (lg_sl ([.int a0, .int a1])).length) Slot.unset).toArray = ls at hl ⊢
  have hl : lv_has ls 2 [(0, .int a0), (1, .int a1)] := hl
  refine W_absQ (fun Q hQ => ?_)
  refine W.eq (g2 := F0 m 0 ls []) rfl ?_
  have h := hf
  unfold f_X8_isPixel at h
  refine lv_iload_n hx hb dX8_isPixel_0 rfl (lv_at hl 0 rfl) ?_
  refine lv_iconst (v := 0) hx hb dX8_isPixel_1 (by decide) ?_
  refine lv_bipush (v := 15) hx hb dX8_isPixel_2 (by decide) ?_
  obtain ⟨r1, hcr1, h⟩ := bn_sp h
  have hPc := hP.sub (ws' := []) [] rfl
  have hDc := hD.sub (ws' := []) [] (by decide) rfl
  have hFc := va_free (wc := []) hD hS hA [] rfl
  refine va_calli (va_runS (As := [.int a0, .int 0, .int 15]) (rest := []) ⟨hx, hb, hml, hown, hts⟩ (m_X8_in l D cI cC cZ cR  _  a0 0 15   r1 hcr1) (va_cwS 3 hts gX8_isPixel_X8_in rfl rfl rfl (by decide +kernel) ⟨Nat.le_of_ble_eq_true rfl, Nat.le_of_ble_eq_true rfl⟩) (cPc_ps hPc hK hDc) rfl rfl hl.1 rfl (lv_room (Nat.le_of_ble_eq_true rfl)) dX8_isPixel_4 ⟨Nat.le_of_ble_eq_true rfl, Nat.le_of_ble_eq_true rfl⟩) hS (fun q _ h => hFc q h) hFc (fun xq u t H1 locs ht hvm hw hB hz1 hk1 hS => ?_)
  rw [hw]
  obtain ⟨hP1, hD1⟩ := hB
  rw [ht] at hP1
  obtain ⟨hP, hD⟩ := va_join (wr := []) (w1 := []) hP hD [] [] rfl rfl (by decide) (by decide) hk1 hFc hP1 hD1
  generalize H1 = H at hP hS ⊢
  have hP : va_P D vwCl [] H := hP
  have hD : va_D A [] := hD
  refine lv_if_eq (tgt := 24) hx hb dX8_isPixel_7 (by decide) (fun c4 => ?_) (fun c4 => ?_)
  · replace h := br_p c4 h
    refine lv_iconst (v := 0) hx hb dX8_isPixel_24 (by decide) ?_
    have e9 := Option.some.inj h
    subst e9
    rw [hQ]
    exact W.zret (v := 0) hx hb hr rfl (fun t ht hW => ⟨⟨0, (), rfl, rfl, by rw [ht]; exact hP, hD⟩, hS.F ht⟩) hS.2.2 dX8_isPixel_25
  · replace h := br_n c4 h
    refine lv_iload_n hx hb dX8_isPixel_10 rfl (lv_at hl 1 rfl) ?_
    refine lv_iconst (v := 0) hx hb dX8_isPixel_11 (by decide) ?_
    refine lv_bipush (v := 23) hx hb dX8_isPixel_12 (by decide) ?_
    obtain ⟨r2, hcr2, h⟩ := bn_sp h
    have hPc := hP.sub (ws' := []) [] rfl
    have hDc := hD.sub (ws' := []) [] (by decide) rfl
    have hFc := va_free (wc := []) hD hS hA [] rfl
    refine va_calli (va_runS (As := [.int a1, .int 0, .int 23]) (rest := []) ⟨hx, hb, hml, hown, hts⟩ (m_X8_in l D cI cC cZ cR  _  a1 0 23   r2 hcr2) (va_cwS 3 hts gX8_isPixel_X8_in rfl rfl rfl (by decide +kernel) ⟨Nat.le_of_ble_eq_true rfl, Nat.le_of_ble_eq_true rfl⟩) (cPc_ps hPc hK hDc) rfl rfl hl.1 rfl (lv_room (Nat.le_of_ble_eq_true rfl)) dX8_isPixel_14 ⟨Nat.le_of_ble_eq_true rfl, Nat.le_of_ble_eq_true rfl⟩) hS (fun q _ h => hFc q h) hFc (fun xq u t H1 locs ht hvm hw hB hz1 hk1 hS => ?_)
    rw [hw]
    obtain ⟨hP1, hD1⟩ := hB
    rw [ht] at hP1
    obtain ⟨hP, hD⟩ := va_join (wr := []) (w1 := []) hP hD [] [] rfl rfl (by decide) (by decide) hk1 hFc hP1 hD1
    generalize H1 = H at hP hS ⊢
    have hP : va_P D vwCl [] H := hP
    have hD : va_D A [] := hD
    refine lv_if_eq (tgt := 24) hx hb dX8_isPixel_17 (by decide) (fun c3 => ?_) (fun c3 => ?_)
    · replace h := br_p c3 h
      refine lv_iconst (v := 0) hx hb dX8_isPixel_24 (by decide) ?_
      have e9 := Option.some.inj h
      subst e9
      rw [hQ]
      exact W.zret (v := 0) hx hb hr rfl (fun t ht hW => ⟨⟨0, (), rfl, rfl, by rw [ht]; exact hP, hD⟩, hS.F ht⟩) hS.2.2 dX8_isPixel_25
    · replace h := br_n c3 h
      refine lv_iconst (v := 1) hx hb dX8_isPixel_20 (by decide) ?_
      refine lv_goto (tgt := 25) hx hb dX8_isPixel_21 (by decide) ?_
      have e9 := Option.some.inj h
      subst e9
      rw [hQ]
      exact W.zret (v := 1) hx hb hr rfl (fun t ht hW => ⟨⟨1, (), rfl, rfl, by rw [ht]; exact hP, hD⟩, hS.F ht⟩) hS.2.2 dX8_isPixel_25
-- LeaningLinesModel.whyNotPass
abbrev OUT_X8_whyNotPass : Type := Int32
def f_X8_whyNotPass (s_ : Nat → Int32) (a0 : Int32) : Option OUT_X8_whyNotPass :=
  bn (f_X8_in a0 1 99) (fun r1 => (if ¬ r1 = 0 then gd 4 465 ((if ((s_ (4 : Int32).toNatClampNeg) + a0) ≤ 9999 then some (0) else some ((-5)))) else some ((-2))))
theorem uX8_whyNotPass_X8 : ∀ w ∈ wsX80, w ∈ wsX8_whyNotPass := by decide +kernel
theorem kX8_whyNotPass_1 : Cond.fieldLink RX8 7 "LeaningLinesModel" "s" "[I" ∈ wsX8_whyNotPass := by decide +kernel
abbrev R_X8_whyNotPass : Room := { frames := 1, cells := 0, slots := 0, locals := 22 }
set_option maxHeartbeats 4000000 in
set_option maxRecDepth 100000 in
theorem m_X8_whyNotPass (l : Launch) (D : va_G) (cI cC cZ cR : ClassId) (mo mo1 mo2 mo3 mo4 mo5 : Nat) (sz : Nat) (kn : Int32) (le_ : Int32) (s_ : Nat → Int32) (past : Nat → Int32) (slo : Nat → Int32) (isv : Nat → Int32) (pad_ : Nat → Int32)  (a0 : Int32)   (r : OUT_X8_whyNotPass) (hf : f_X8_whyNotPass s_ a0 = some r) : Met l yX8_whyNotPass wsX8_whyNotPass R_X8_whyNotPass (cPc D cI cC cZ cR [.ref mo, .int a0] sz (ws_model cI cC cZ cR mo mo1 mo2 mo3 mo4 mo5 kn le_ s_ past slo isv pad_)) (cQi D (ws_model cI cC cZ cR mo mo1 mo2 mo3 mo4 mo5 kn le_ s_ past slo isv pad_) (va_A (ws_model cI cC cZ cR mo mo1 mo2 mo3 mo4 mo5 kn le_ s_ past slo isv pad_) sz) r) 0 0 (va_A (ws_model cI cC cZ cR mo mo1 mo2 mo3 mo4 mo5 kn le_ s_ past slo isv pad_) sz) := by
  refine Met.ofW (cc := cX8_whyNotPass) (maxL := 2) (ret := (some .int)) (by decide) rfl ?_
  intro p e s m args below meth c s₁ B hml hv
  obtain ⟨rfl, hsz, hP, hK, hD0⟩ := hv
  have hx := B.exec
  have hb := B.bytes
  have hr := B.returns
  have hts := atoms_spec (ws := wsX8_whyNotPass) B.pre
  have hown : s.vm.findClass RX8 = some m.cls := findClass_of_methodNamed B.named
  have hlocks := B.notSynchronized
  subst hsz
  have hD := hD0.self (sz := s.heap.size)
  generalize hAe : va_A (ws_model cI cC cZ cR mo mo1 mo2 mo3 mo4 mo5 kn le_ s_ past slo isv pad_) s.heap.size = A at hD ⊢
  skip
  have hA : ∀ q : Nat, s.heap.size ≤ q → A q := fun q h => by rw [← hAe]; exact Or.inr h
  have hS : va_S A s.heap s.heap [] := va_S.rf
  have hl := lv_entry ([.ref mo, .int a0]) (n := 2) (Nat.le_of_ble_eq_true rfl)
  rw [lg_entry_eq]
  generalize (lg_sl ([.ref mo, .int a0]) ++ List.replicate (2 - (lg_sl ([.ref mo, .int a0])).length) Slot.unset).toArray = ls at hl ⊢
  have hl : lv_has ls 2 [(0, .ref mo), (1, .int a0)] := hl
  refine W_absQ (fun Q hQ => ?_)
  refine W.eq (g2 := F0 m 0 ls []) rfl ?_
  have h := hf
  unfold f_X8_whyNotPass at h
  refine lv_iload_n hx hb dX8_whyNotPass_0 rfl (lv_at hl 1 rfl) ?_
  refine lv_iconst (v := 1) hx hb dX8_whyNotPass_1 (by decide) ?_
  refine lv_bipush (v := 99) hx hb dX8_whyNotPass_2 (by decide) ?_
  obtain ⟨r1, hcr1, h⟩ := bn_sp h
  have hPc := hP.sub (ws' := []) [] rfl
  have hDc := hD.sub (ws' := []) [] (by decide) rfl
  have hFc := va_free (wc := []) hD hS hA [] rfl
  refine va_calli (va_runS (As := [.int a0, .int 1, .int 99]) (rest := []) ⟨hx, hb, hml, hown, hts⟩ (m_X8_in l D cI cC cZ cR  _  a0 1 99   r1 hcr1) (va_cwS 3 hts gX8_whyNotPass_X8_in rfl rfl rfl (by decide +kernel) ⟨Nat.le_of_ble_eq_true rfl, Nat.le_of_ble_eq_true rfl⟩) (cPc_ps hPc hK hDc) rfl rfl hl.1 rfl (lv_room (Nat.le_of_ble_eq_true rfl)) dX8_whyNotPass_4 ⟨Nat.le_of_ble_eq_true rfl, Nat.le_of_ble_eq_true rfl⟩) hS (fun q _ h => hFc q h) hFc (fun xq u t H1 locs ht hvm hw hB hz1 hk1 hS => ?_)
  rw [hw]
  obtain ⟨hP1, hD1⟩ := hB
  rw [ht] at hP1
  obtain ⟨hP, hD⟩ := va_join (wr := [(mo, .inr (8, [.ref mo1, .ref mo2, .int kn, .ref mo3, .ref mo4, .ref mo5, .int le_])), (mo1, .inl (cI, 465, .inl s_)), (mo2, .inl (cI, 2790, .inl past)), (mo3, .inl (cI, 930, .inl slo)), (mo4, .inl (cZ, 2, .inl isv)), (mo5, .inl (cI, 80, .inl pad_))]) (w1 := []) hP hD [] [0, 1, 2, 3, 4, 5] rfl rfl (by decide) (by decide) hk1 hFc hP1 hD1
  generalize H1 = H at hP hS ⊢
  have hP : va_P D vwCl (ws_model cI cC cZ cR mo mo1 mo2 mo3 mo4 mo5 kn le_ s_ past slo isv pad_) H := hP
  have hD : va_D A (ws_model cI cC cZ cR mo mo1 mo2 mo3 mo4 mo5 kn le_ s_ past slo isv pad_) := hD
  refine lv_if_ne (tgt := 15) hx hb dX8_whyNotPass_7 (by decide) (fun c3 => ?_) (fun c3 => ?_)
  · replace h := br_p c3 h
    refine lv_aload_n hx hb dX8_whyNotPass_15 rfl (lv_at hl 0 rfl) ?_
    refine va_get (D := D) (ci := 8) (v := .ref mo1) (C := RX8) (T := TX8) (N := 7) hx hb hts uX8_whyNotPass_X8 hown hK.1 hP 0 rfl rfl 0 (by decide) (hts _ kX8_whyNotPass_1) (fun _ h9 => h9) rfl dX8_whyNotPass_16 ?_
    refine lv_iconst (v := 4) hx hb dX8_whyNotPass_19 (by decide) ?_
    obtain ⟨hin, h⟩ := gd_sp h
    refine va_iald (D := D) hx hb hK.1 hP 1 0 rfl rfl hin dX8_whyNotPass_20 ?_
    refine lv_iload_n hx hb dX8_whyNotPass_21 rfl (lv_at hl 1 rfl) ?_
    refine lv_iadd hx hb dX8_whyNotPass_22 ?_
    refine lv_sipush (v := 9999) hx hb dX8_whyNotPass_23 (by decide) ?_
    refine lv_icmp_le (tgt := 34) hx hb dX8_whyNotPass_26 (by decide) (fun c2 => ?_) (fun c2 => ?_)
    · replace h := br_p c2 h
      refine lv_iconst (v := 0) hx hb dX8_whyNotPass_34 (by decide) ?_
      have e9 := Option.some.inj h
      subst e9
      rw [hQ]
      exact W.iret (v := 0) hx hb hr (fun t ht hW => ⟨⟨0, (), rfl, rfl, by rw [ht]; exact hP, hD⟩, hS.F ht⟩) hS.2.2 dX8_whyNotPass_35
    · replace h := br_n c2 h
      refine lv_bipush (v := (-5)) hx hb dX8_whyNotPass_29 (by decide) ?_
      refine lv_goto (tgt := 35) hx hb dX8_whyNotPass_31 (by decide) ?_
      have e9 := Option.some.inj h
      subst e9
      rw [hQ]
      exact W.iret (v := (-5)) hx hb hr (fun t ht hW => ⟨⟨(-5), (), rfl, rfl, by rw [ht]; exact hP, hD⟩, hS.F ht⟩) hS.2.2 dX8_whyNotPass_35
  · replace h := br_n (not_not_intro c3) h
    refine lv_bipush (v := (-2)) hx hb dX8_whyNotPass_10 (by decide) ?_
    refine lv_goto (tgt := 35) hx hb dX8_whyNotPass_12 (by decide) ?_
    have e9 := Option.some.inj h
    subst e9
    rw [hQ]
    exact W.iret (v := (-2)) hx hb hr (fun t ht hW => ⟨⟨(-2), (), rfl, rfl, by rw [ht]; exact hP, hD⟩, hS.F ht⟩) hS.2.2 dX8_whyNotPass_35
-- LeaningLinesModel.whyNotShoot
abbrev OUT_X8_whyNotShoot : Type := Int32
def f_X8_whyNotShoot (s_ : Nat → Int32) : Option OUT_X8_whyNotShoot :=
  gd 4 465 (gd 0 465 (gd 1 465 ((if (((s_ (4 : Int32).toNatClampNeg) + (15 * (s_ (0 : Int32).toNatClampNeg))) + (s_ (1 : Int32).toNatClampNeg)) ≤ 9999 then some (0) else some ((-5))))))
theorem uX8_whyNotShoot_X8 : ∀ w ∈ wsX80, w ∈ wsX8_whyNotShoot := by decide +kernel
theorem kX8_whyNotShoot_1 : Cond.fieldLink RX8 7 "LeaningLinesModel" "s" "[I" ∈ wsX8_whyNotShoot := by decide +kernel
abbrev R_X8_whyNotShoot : Room := { frames := 0, cells := 0, slots := 0, locals := 0 }
set_option maxHeartbeats 4000000 in
set_option maxRecDepth 100000 in
theorem m_X8_whyNotShoot (l : Launch) (D : va_G) (cI cC cZ cR : ClassId) (mo mo1 mo2 mo3 mo4 mo5 : Nat) (sz : Nat) (kn : Int32) (le_ : Int32) (s_ : Nat → Int32) (past : Nat → Int32) (slo : Nat → Int32) (isv : Nat → Int32) (pad_ : Nat → Int32)     (r : OUT_X8_whyNotShoot) (hf : f_X8_whyNotShoot s_ = some r) : Met l yX8_whyNotShoot wsX8_whyNotShoot R_X8_whyNotShoot (cPc D cI cC cZ cR [.ref mo] sz (ws_model cI cC cZ cR mo mo1 mo2 mo3 mo4 mo5 kn le_ s_ past slo isv pad_)) (cQi D (ws_model cI cC cZ cR mo mo1 mo2 mo3 mo4 mo5 kn le_ s_ past slo isv pad_) (va_A (ws_model cI cC cZ cR mo mo1 mo2 mo3 mo4 mo5 kn le_ s_ past slo isv pad_) sz) r) 0 0 (va_A (ws_model cI cC cZ cR mo mo1 mo2 mo3 mo4 mo5 kn le_ s_ past slo isv pad_) sz) := by
  refine Met.ofW (cc := cX8_whyNotShoot) (maxL := 1) (ret := (some .int)) (by decide) rfl ?_
  intro p e s m args below meth c s₁ B hml hv
  obtain ⟨rfl, hsz, hP, hK, hD0⟩ := hv
  have hx := B.exec
  have hb := B.bytes
  have hr := B.returns
  have hts := atoms_spec (ws := wsX8_whyNotShoot) B.pre
  have hown : s.vm.findClass RX8 = some m.cls := findClass_of_methodNamed B.named
  have hlocks := B.notSynchronized
  subst hsz
  have hD := hD0.self (sz := s.heap.size)
  generalize hAe : va_A (ws_model cI cC cZ cR mo mo1 mo2 mo3 mo4 mo5 kn le_ s_ past slo isv pad_) s.heap.size = A at hD ⊢
  skip
  have hA : ∀ q : Nat, s.heap.size ≤ q → A q := fun q h => by rw [← hAe]; exact Or.inr h
  have hS : va_S A s.heap s.heap [] := va_S.rf
  have hl := lv_entry ([.ref mo]) (n := 1) (Nat.le_of_ble_eq_true rfl)
  rw [lg_entry_eq]
  generalize (lg_sl ([.ref mo]) ++ List.replicate (1 - (lg_sl ([.ref mo])).length) Slot.unset).toArray = ls at hl ⊢
  have hl : lv_has ls 1 [(0, .ref mo)] := hl
  refine W_absQ (fun Q hQ => ?_)
  refine W.eq (g2 := F0 m 0 ls []) rfl ?_
  have h := hf
  unfold f_X8_whyNotShoot at h
  refine lv_aload_n hx hb dX8_whyNotShoot_0 rfl (lv_at hl 0 rfl) ?_
  refine va_get (D := D) (ci := 8) (v := .ref mo1) (C := RX8) (T := TX8) (N := 7) hx hb hts uX8_whyNotShoot_X8 hown hK.1 hP 0 rfl rfl 0 (by decide) (hts _ kX8_whyNotShoot_1) (fun _ h9 => h9) rfl dX8_whyNotShoot_1 ?_
  refine lv_iconst (v := 4) hx hb dX8_whyNotShoot_4 (by decide) ?_
  obtain ⟨hin, h⟩ := gd_sp h
  refine va_iald (D := D) hx hb hK.1 hP 1 0 rfl rfl hin dX8_whyNotShoot_5 ?_
  refine lv_bipush (v := 15) hx hb dX8_whyNotShoot_6 (by decide) ?_
  refine lv_aload_n hx hb dX8_whyNotShoot_8 rfl (lv_at hl 0 rfl) ?_
  refine va_get (D := D) (ci := 8) (v := .ref mo1) (C := RX8) (T := TX8) (N := 7) hx hb hts uX8_whyNotShoot_X8 hown hK.1 hP 0 rfl rfl 0 (by decide) (hts _ kX8_whyNotShoot_1) (fun _ h9 => h9) rfl dX8_whyNotShoot_9 ?_
  refine lv_iconst (v := 0) hx hb dX8_whyNotShoot_12 (by decide) ?_
  obtain ⟨hin, h⟩ := gd_sp h
  refine va_iald (D := D) hx hb hK.1 hP 1 0 rfl rfl hin dX8_whyNotShoot_13 ?_
  refine lv_imul hx hb dX8_whyNotShoot_14 ?_
  refine lv_iadd hx hb dX8_whyNotShoot_15 ?_
  refine lv_aload_n hx hb dX8_whyNotShoot_16 rfl (lv_at hl 0 rfl) ?_
  refine va_get (D := D) (ci := 8) (v := .ref mo1) (C := RX8) (T := TX8) (N := 7) hx hb hts uX8_whyNotShoot_X8 hown hK.1 hP 0 rfl rfl 0 (by decide) (hts _ kX8_whyNotShoot_1) (fun _ h9 => h9) rfl dX8_whyNotShoot_17 ?_
  refine lv_iconst (v := 1) hx hb dX8_whyNotShoot_20 (by decide) ?_
  obtain ⟨hin, h⟩ := gd_sp h
  refine va_iald (D := D) hx hb hK.1 hP 1 0 rfl rfl hin dX8_whyNotShoot_21 ?_
  refine lv_iadd hx hb dX8_whyNotShoot_22 ?_
  refine lv_sipush (v := 9999) hx hb dX8_whyNotShoot_23 (by decide) ?_
  refine lv_icmp_le (tgt := 34) hx hb dX8_whyNotShoot_26 (by decide) (fun c1 => ?_) (fun c1 => ?_)
  · replace h := br_p c1 h
    refine lv_iconst (v := 0) hx hb dX8_whyNotShoot_34 (by decide) ?_
    have e9 := Option.some.inj h
    subst e9
    rw [hQ]
    exact W.iret (v := 0) hx hb hr (fun t ht hW => ⟨⟨0, (), rfl, rfl, by rw [ht]; exact hP, hD⟩, hS.F ht⟩) hS.2.2 dX8_whyNotShoot_35
  · replace h := br_n c1 h
    refine lv_bipush (v := (-5)) hx hb dX8_whyNotShoot_29 (by decide) ?_
    refine lv_goto (tgt := 35) hx hb dX8_whyNotShoot_31 (by decide) ?_
    have e9 := Option.some.inj h
    subst e9
    rw [hQ]
    exact W.iret (v := (-5)) hx hb hr (fun t ht hW => ⟨⟨(-5), (), rfl, rfl, by rw [ht]; exact hP, hD⟩, hS.F ht⟩) hS.2.2 dX8_whyNotShoot_35
