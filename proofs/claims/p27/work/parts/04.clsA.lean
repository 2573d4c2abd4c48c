abbrev ws_row24 (cI cC cZ cR : ClassId) (orw : Nat) (orow : Nat → Int32) : va_W := [(orw, .inl (cI, 24, .inl orow))]
abbrev ws_row25 (cI cC cZ cR : ClassId) (orw : Nat) (orow : Nat → Int32) : va_W := [(orw, .inl (cI, 25, .inl orow))]
abbrev ws_things (cI cC cZ cR : ClassId) (th th1 th2 th3 th4 th5 th6 th7 th8 th9 : Nat) (mn : Int32) (ln : Nat → Int32) (hi : Nat → Int32) (wi : Nat → Int32) (br : Nat → Int32) (sp : Nat → Int32) (si : Nat → Int32) (le : Nat → Int32) (un : Nat → Int32) (ul : Nat → Int32) : va_W := [(th, .inr (6, [.int mn, .ref th1, .ref th2, .ref th3, .ref th4, .ref th5, .ref th6, .ref th7, .ref th8, .ref th9])), (th1, .inl (cI, 8, .inl ln)), (th2, .inl (cI, 8, .inl hi)), (th3, .inl (cI, 8, .inl wi)), (th4, .inl (cI, 8, .inl br)), (th5, .inl (cI, 8, .inl sp)), (th6, .inl (cI, 8, .inl si)), (th7, .inl (cI, 8, .inl le)), (th8, .inl (cI, 8, .inl un)), (th9, .inl (cI, 8, .inl ul))]
abbrev ws_things_things (cI cC cZ cR : ClassId) (th th1 th2 th3 th4 th5 th6 th7 th8 th9 oth oth1 oth2 oth3 oth4 oth5 oth6 oth7 oth8 oth9 : Nat) (mn : Int32) (ln : Nat → Int32) (hi : Nat → Int32) (wi : Nat → Int32) (br : Nat → Int32) (sp : Nat → Int32) (si : Nat → Int32) (le : Nat → Int32) (un : Nat → Int32) (ul : Nat → Int32) (omn : Int32) (oln : Nat → Int32) (ohi : Nat → Int32) (owi : Nat → Int32) (obr : Nat → Int32) (osp : Nat → Int32) (osi : Nat → Int32) (ole : Nat → Int32) (oun : Nat → Int32) (oul : Nat → Int32) : va_W := [(th, .inr (6, [.int mn, .ref th1, .ref th2, .ref th3, .ref th4, .ref th5, .ref th6, .ref th7, .ref th8, .ref th9])), (th1, .inl (cI, 8, .inl ln)), (th2, .inl (cI, 8, .inl hi)), (th3, .inl (cI, 8, .inl wi)), (th4, .inl (cI, 8, .inl br)), (th5, .inl (cI, 8, .inl sp)), (th6, .inl (cI, 8, .inl si)), (th7, .inl (cI, 8, .inl le)), (th8, .inl (cI, 8, .inl un)), (th9, .inl (cI, 8, .inl ul)), (oth, .inr (6, [.int omn, .ref oth1, .ref oth2, .ref oth3, .ref oth4, .ref oth5, .ref oth6, .ref oth7, .ref oth8, .ref oth9])), (oth1, .inl (cI, 8, .inl oln)), (oth2, .inl (cI, 8, .inl ohi)), (oth3, .inl (cI, 8, .inl owi)), (oth4, .inl (cI, 8, .inl obr)), (oth5, .inl (cI, 8, .inl osp)), (oth6, .inl (cI, 8, .inl osi)), (oth7, .inl (cI, 8, .inl ole)), (oth8, .inl (cI, 8, .inl oun)), (oth9, .inl (cI, 8, .inl oul))]
-- LeaningLines.within
abbrev OUT_X7_within : Type := Int32
def f_X7_within (a0 : Int32) (a1 : Int32) (a2 : Int32) : Option OUT_X7_within :=
  (if a0 < a1 then some (0) else (if a2 < a0 then some (0) else some (1)))
abbrev R_X7_within : Room := { frames := 0, cells := 0, slots := 0, locals := 0 }
set_option maxHeartbeats 4000000 in
set_option maxRecDepth 100000 in
theorem m_X7_within (l : Launch) (D : va_G) (cI cC cZ cR : ClassId)  (sz : Nat)   (a0 : Int32) (a1 : Int32) (a2 : Int32)   (r : OUT_X7_within) (hf : f_X7_within a0 a1 a2 = some r) : Met l yX7_within wsX7_within R_X7_within (cPc D cI cC cZ cR [.int a0, .int a1, .int a2] sz []) (cQi D [] (va_A [] sz) r) 0 0 (va_A [] sz) := by
  refine Met.ofW (cc := cX7_within) (maxL := 3) (ret := (some .boolean)) (by decide) rfl ?_
  intro p e s m args below meth c s₁ B hml hv
  obtain ⟨rfl, hsz, hP, hK, hD0⟩ := hv
  have hx := B.exec
  have hb := B.bytes
  have hr := B.returns
  have hts := atoms_spec (ws := wsX7_within) B.pre
  have hown : s.vm.findClass RX7 = some m.cls := findClass_of_methodNamed B.named
  have hlocks := B.notSynchronized
  subst hsz
  have hD := hD0.self (sz := s.heap.size)
  generalize hAe : va_A [] s.heap.size = A at hD ⊢
  skip
  have hA : ∀ q : Nat, s.heap.size ≤ q → A q := fun q h => by rw [← hAe]; exact Or.inr h
  have hS : va_S A s.heap s.heap [] := va_S.rf
  have hl := lv_entry ([.int a0, .int a1, .int a2]) (n := 3) (Nat.le_of_ble_eq_true rfl)
  rw [lg_entry_eq]
  generalize (lg_sl ([.int a0, .int a1, .int a2]) ++ List.replicate (3 - (lg_sl ([.int a0, .int a1, .int a2])).length) Slot.unset).toArray = ls at hl ⊢
  have hl : lv_has ls 3 [(0, .int a0), (1, .int a1), (2, .int a2)] := hl
  refine W_absQ (fun Q hQ => ?_)
  refine W.eq (g2 := F0 m 0 ls []) rfl ?_
  have h := hf
  unfold f_X7_within at h
  refine lv_iload_n hx hb dX7_within_0 rfl (lv_at hl 0 rfl) ?_
  refine lv_iload_n hx hb dX7_within_1 rfl (lv_at hl 1 rfl) ?_
  refine lv_icmp_lt (tgt := 14) hx hb dX7_within_2 (by decide) (fun c2 => ?_) (fun c2 => ?_)
  · replace h := br_p c2 h
    refine lv_iconst (v := 0) hx hb dX7_within_14 (by decide) ?_
    have e9 := Option.some.inj h
    subst e9
    rw [hQ]
    exact W.zret (v := 0) hx hb hr rfl (fun t ht hW => ⟨⟨0, (), rfl, rfl, by rw [ht]; exact hP, hD⟩, hS.F ht⟩) hS.2.2 dX7_within_15
  · replace h := br_n c2 h
    refine lv_iload_n hx hb dX7_within_5 rfl (lv_at hl 0 rfl) ?_
    refine lv_iload_n hx hb dX7_within_6 rfl (lv_at hl 2 rfl) ?_
    refine lv_icmp_gt (tgt := 14) hx hb dX7_within_7 (by decide) (fun c1 => ?_) (fun c1 => ?_)
    · replace h := br_p c1 h
      refine lv_iconst (v := 0) hx hb dX7_within_14 (by decide) ?_
      have e9 := Option.some.inj h
      subst e9
      rw [hQ]
      exact W.zret (v := 0) hx hb hr rfl (fun t ht hW => ⟨⟨0, (), rfl, rfl, by rw [ht]; exact hP, hD⟩, hS.F ht⟩) hS.2.2 dX7_within_15
    · replace h := br_n c1 h
      refine lv_iconst (v := 1) hx hb dX7_within_10 (by decide) ?_
      refine lv_goto (tgt := 15) hx hb dX7_within_11 (by decide) ?_
      have e9 := Option.some.inj h
      subst e9
      rw [hQ]
      exact W.zret (v := 1) hx hb hr rfl (fun t ht hW => ⟨⟨1, (), rfl, rfl, by rw [ht]; exact hP, hD⟩, hS.F ht⟩) hS.2.2 dX7_within_15
-- LeaningLines.isPlace
abbrev OUT_X7_isPlace : Type := Int32
def f_X7_isPlace (a0 : Int32) (a1 : Int32) : Option OUT_X7_isPlace :=
  bn (f_X7_within a0 0 15) (fun r1 => (if r1 = 0 then some (0) else bn (f_X7_within a1 0 23) (fun r2 => (if r2 = 0 then some (0) else some (1)))))
abbrev R_X7_isPlace : Room := { frames := 1, cells := 0, slots := 0, locals := 22 }
set_option maxHeartbeats 4000000 in
set_option maxRecDepth 100000 in
theorem m_X7_isPlace (l : Launch) (D : va_G) (cI cC cZ cR : ClassId)  (sz : Nat)   (a0 : Int32) (a1 : Int32)   (r : OUT_X7_isPlace) (hf : f_X7_isPlace a0 a1 = some r) : Met l yX7_isPlace wsX7_isPlace R_X7_isPlace (cPc D cI cC cZ cR [.int a0, .int a1] sz []) (cQi D [] (va_A [] sz) r) 0 0 (va_A [] sz) := by
  refine Met.ofW (cc := cX7_isPlace) (maxL := 2) (ret := (some .boolean)) (by decide) rfl ?_
  intro p e s m args below meth c s₁ B hml hv
  obtain ⟨rfl, hsz, hP, hK, hD0⟩ := hv
  have hx := B.exec
  have hb := B.bytes
  have hr := B.returns
  have hts := atoms_spec (ws := wsX7_isPlace) B.pre
  have hown : s.vm.findClass RX7 = some m.cls := findClass_of_methodNamed B.named
  have hlocks := B.notSynchronized
  subst hsz
  have hD := hD0.self (sz := s.heap.size)
  generalize hAe : va_A [] s.heap.size = A at hD ⊢
  skip
  have hA : ∀ q : Nat, s.heap.size ≤ q → A q := fun q h => by rw [← hAe]; exact Or.inr h
  have hS : va_S A s.heap s.heap [] := va_S.rf
  have hl := lv_entry ([.int a0, .int a1]) (n := 2) (Nat.le_of_ble_eq_true rfl)
  rw [lg_entry_eq]
  generalize (lg_sl ([.int a0, .int a1]) ++ List.replicate (2 - (lg_sl ([.int a0, .int a1])).length) Slot.unset).toArray = ls at hl ⊢
  have hl : lv_has ls 2 [(0, .int a0), (1, .int a1)] := hl
  refine W_absQ (fun Q hQ => ?_)
  refine W.eq (g2 := F0 m 0 ls []) rfl ?_
  have h := hf
  unfold f_X7_isPlace at h
  refine lv_iload_n hx hb dX7_isPlace_0 rfl (lv_at hl 0 rfl) ?_
  refine lv_iconst (v := 0) hx hb dX7_isPlace_1 (by decide) ?_
  refine lv_bipush (v := 15) hx hb dX7_isPlace_2 (by decide) ?_
  obtain ⟨r1, hcr1, h⟩ := bn_sp h
  have hPc := hP.sub (ws' := []) [] rfl
  have hDc := hD.sub (ws' := []) [] (by decide) rfl
  have hFc := va_free (wc := []) hD hS hA [] rfl
  refine va_calli (va_runS (As := [.int a0, .int 0, .int 15]) (rest := []) ⟨hx, hb, hml, hown, hts⟩ (m_X7_within l D cI cC cZ cR  _  a0 0 15   r1 hcr1) (va_cwS 3 hts gX7_isPlace_X7_within rfl rfl rfl (by decide +kernel) ⟨Nat.le_of_ble_eq_true rfl, Nat.le_of_ble_eq_true rfl⟩) (cPc_ps hPc hK hDc) rfl rfl hl.1 rfl (lv_room (Nat.le_of_ble_eq_true rfl)) dX7_isPlace_4 ⟨Nat.le_of_ble_eq_true rfl, Nat.le_of_ble_eq_true rfl⟩) hS (fun q _ h => hFc q h) hFc (fun xq u t H1 locs ht hvm hw hB hz1 hk1 hS => ?_)
  rw [hw]
  obtain ⟨hP1, hD1⟩ := hB
  rw [ht] at hP1
  obtain ⟨hP, hD⟩ := va_join (wr := []) (w1 := []) hP hD [] [] rfl rfl (by decide) (by decide) hk1 hFc hP1 hD1
  generalize H1 = H at hP hS ⊢
  have hP : va_P D vwCl [] H := hP
  have hD : va_D A [] := hD
  refine lv_if_eq (tgt := 24) hx hb dX7_isPlace_7 (by decide) (fun c4 => ?_) (fun c4 => ?_)
  · replace h := br_p c4 h
    refine lv_iconst (v := 0) hx hb dX7_isPlace_24 (by decide) ?_
    have e9 := Option.some.inj h
    subst e9
    rw [hQ]
    exact W.zret (v := 0) hx hb hr rfl (fun t ht hW => ⟨⟨0, (), rfl, rfl, by rw [ht]; exact hP, hD⟩, hS.F ht⟩) hS.2.2 dX7_isPlace_25
  · replace h := br_n c4 h
    refine lv_iload_n hx hb dX7_isPlace_10 rfl (lv_at hl 1 rfl) ?_
    refine lv_iconst (v := 0) hx hb dX7_isPlace_11 (by decide) ?_
    refine lv_bipush (v := 23) hx hb dX7_isPlace_12 (by decide) ?_
    obtain ⟨r2, hcr2, h⟩ := bn_sp h
    have hPc := hP.sub (ws' := []) [] rfl
    have hDc := hD.sub (ws' := []) [] (by decide) rfl
    have hFc := va_free (wc := []) hD hS hA [] rfl
    refine va_calli (va_runS (As := [.int a1, .int 0, .int 23]) (rest := []) ⟨hx, hb, hml, hown, hts⟩ (m_X7_within l D cI cC cZ cR  _  a1 0 23   r2 hcr2) (va_cwS 3 hts gX7_isPlace_X7_within rfl rfl rfl (by decide +kernel) ⟨Nat.le_of_ble_eq_true rfl, Nat.le_of_ble_eq_true rfl⟩) (cPc_ps hPc hK hDc) rfl rfl hl.1 rfl (lv_room (Nat.le_of_ble_eq_true rfl)) dX7_isPlace_14 ⟨Nat.le_of_ble_eq_true rfl, Nat.le_of_ble_eq_true rfl⟩) hS (fun q _ h => hFc q h) hFc (fun xq u t H1 locs ht hvm hw hB hz1 hk1 hS => ?_)
    rw [hw]
    obtain ⟨hP1, hD1⟩ := hB
    rw [ht] at hP1
    obtain ⟨hP, hD⟩ := va_join (wr := []) (w1 := []) hP hD [] [] rfl rfl (by decide) (by decide) hk1 hFc hP1 hD1
    generalize H1 = H at hP hS ⊢
    have hP : va_P D vwCl [] H := hP
    have hD : va_D A [] := hD
    refine lv_if_eq (tgt := 24) hx hb dX7_isPlace_17 (by decide) (fun c3 => ?_) (fun c3 => ?_)
    · replace h := br_p c3 h
      refine lv_iconst (v := 0) hx hb dX7_isPlace_24 (by decide) ?_
      have e9 := Option.some.inj h
      subst e9
      rw [hQ]
      exact W.zret (v := 0) hx hb hr rfl (fun t ht hW => ⟨⟨0, (), rfl, rfl, by rw [ht]; exact hP, hD⟩, hS.F ht⟩) hS.2.2 dX7_isPlace_25
    · replace h := br_n c3 h
      refine lv_iconst (v := 1) hx hb dX7_isPlace_20 (by decide) ?_
      refine lv_goto (tgt := 25) hx hb dX7_isPlace_21 (by decide) ?_
      have e9 := Option.some.inj h
      subst e9
      rw [hQ]
      exact W.zret (v := 1) hx hb hr rfl (fun t ht hW => ⟨⟨1, (), rfl, rfl, by rw [ht]; exact hP, hD⟩, hS.F ht⟩) hS.2.2 dX7_isPlace_25
-- LeaningLines.isSpeed
abbrev OUT_X7_isSpeed : Type := Int32
def f_X7_isSpeed (a0 : Int32) : Option OUT_X7_isSpeed :=
  bn (f_X7_within a0 (-40) 40) (fun r1 => gb r1 (some (r1)))
abbrev R_X7_isSpeed : Room := { frames := 1, cells := 0, slots := 0, locals := 22 }
set_option maxHeartbeats 4000000 in
set_option maxRecDepth 100000 in
theorem m_X7_isSpeed (l : Launch) (D : va_G) (cI cC cZ cR : ClassId)  (sz : Nat)   (a0 : Int32)   (r : OUT_X7_isSpeed) (hf : f_X7_isSpeed a0 = some r) : Met l yX7_isSpeed wsX7_isSpeed R_X7_isSpeed (cPc D cI cC cZ cR [.int a0] sz []) (cQi D [] (va_A [] sz) r) 0 0 (va_A [] sz) := by
  refine Met.ofW (cc := cX7_isSpeed) (maxL := 1) (ret := (some .boolean)) (by decide) rfl ?_
  intro p e s m args below meth c s₁ B hml hv
  obtain ⟨rfl, hsz, hP, hK, hD0⟩ := hv
  have hx := B.exec
  have hb := B.bytes
  have hr := B.returns
  have hts := atoms_spec (ws := wsX7_isSpeed) B.pre
  have hown : s.vm.findClass RX7 = some m.cls := findClass_of_methodNamed B.named
  have hlocks := B.notSynchronized
  subst hsz
  have hD := hD0.self (sz := s.heap.size)
  generalize hAe : va_A [] s.heap.size = A at hD ⊢
  skip
  have hA : ∀ q : Nat, s.heap.size ≤ q → A q := fun q h => by rw [← hAe]; exact Or.inr h
  have hS : va_S A s.heap s.heap [] := va_S.rf
  have hl := lv_entry ([.int a0]) (n := 1) (Nat.le_of_ble_eq_true rfl)
  rw [lg_entry_eq]
  generalize (lg_sl ([.int a0]) ++ List.replicate (1 - (lg_sl ([.int a0])).length) Slot.unset).toArray = ls at hl ⊢
  have hl : lv_has ls 1 [(0, .int a0)] := hl
  refine W_absQ (fun Q hQ => ?_)
  refine W.eq (g2 := F0 m 0 ls []) rfl ?_
  have h := hf
  unfold f_X7_isSpeed at h
  refine lv_iload_n hx hb dX7_isSpeed_0 rfl (lv_at hl 0 rfl) ?_
  refine lv_bipush (v := (-40)) hx hb dX7_isSpeed_1 (by decide) ?_
  refine lv_bipush (v := 40) hx hb dX7_isSpeed_3 (by decide) ?_
  obtain ⟨r1, hcr1, h⟩ := bn_sp h
  have hPc := hP.sub (ws' := []) [] rfl
  have hDc := hD.sub (ws' := []) [] (by decide) rfl
  have hFc := va_free (wc := []) hD hS hA [] rfl
  refine va_calli (va_runS (As := [.int a0, .int (-40), .int 40]) (rest := []) ⟨hx, hb, hml, hown, hts⟩ (m_X7_within l D cI cC cZ cR  _  a0 (-40) 40   r1 hcr1) (va_cwS 3 hts gX7_isSpeed_X7_within rfl rfl rfl (by decide +kernel) ⟨Nat.le_of_ble_eq_true rfl, Nat.le_of_ble_eq_true rfl⟩) (cPc_ps hPc hK hDc) rfl rfl hl.1 rfl (lv_room (Nat.le_of_ble_eq_true rfl)) dX7_isSpeed_5 ⟨Nat.le_of_ble_eq_true rfl, Nat.le_of_ble_eq_true rfl⟩) hS (fun q _ h => hFc q h) hFc (fun xq u t H1 locs ht hvm hw hB hz1 hk1 hS => ?_)
  rw [hw]
  obtain ⟨hP1, hD1⟩ := hB
  rw [ht] at hP1
  obtain ⟨hP, hD⟩ := va_join (wr := []) (w1 := []) hP hD [] [] rfl rfl (by decide) (by decide) hk1 hFc hP1 hD1
  generalize H1 = H at hP hS ⊢
  have hP : va_P D vwCl [] H := hP
  have hD : va_D A [] := hD
  obtain ⟨hnr, h⟩ := gb_sp h
  have e9 := Option.some.inj h
  subst e9
  rw [hQ]
  exact W.zret (v := r1) hx hb hr (nar_b hnr) (fun t ht hW => ⟨⟨r1, (), rfl, rfl, by rw [ht]; exact hP, hD⟩, hS.F ht⟩) hS.2.2 dX7_isSpeed_8
-- LeaningLines.canRide
abbrev OUT_X7_canRide : Type := Int32
def f_X7_canRide (a0 : Int32) (a1 : Int32) : Option OUT_X7_canRide :=
  (if a1 = (-6) then some (1) else bn (f_X7_within a1 0 (a0 - 1)) (fun r1 => (if r1 = 0 then some (0) else some (1))))
abbrev R_X7_canRide : Room := { frames := 1, cells := 0, slots := 0, locals := 22 }
set_option maxHeartbeats 4000000 in
set_option maxRecDepth 100000 in
theorem m_X7_canRide (l : Launch) (D : va_G) (cI cC cZ cR : ClassId)  (sz : Nat)   (a0 : Int32) (a1 : Int32)   (r : OUT_X7_canRide) (hf : f_X7_canRide a0 a1 = some r) : Met l yX7_canRide wsX7_canRide R_X7_canRide (cPc D cI cC cZ cR [.int a0, .int a1] sz []) (cQi D [] (va_A [] sz) r) 0 0 (va_A [] sz) := by
  refine Met.ofW (cc := cX7_canRide) (maxL := 2) (ret := (some .boolean)) (by decide) rfl ?_
  intro p e s m args below meth c s₁ B hml hv
  obtain ⟨rfl, hsz, hP, hK, hD0⟩ := hv
  have hx := B.exec
  have hb := B.bytes
  have hr := B.returns
  have hts := atoms_spec (ws := wsX7_canRide) B.pre
  have hown : s.vm.findClass RX7 = some m.cls := findClass_of_methodNamed B.named
  have hlocks := B.notSynchronized
  subst hsz
  have hD := hD0.self (sz := s.heap.size)
  generalize hAe : va_A [] s.heap.size = A at hD ⊢
  skip
  have hA : ∀ q : Nat, s.heap.size ≤ q → A q := fun q h => by rw [← hAe]; exact Or.inr h
  have hS : va_S A s.heap s.heap [] := va_S.rf
  have hl := lv_entry ([.int a0, .int a1]) (n := 2) (Nat.le_of_ble_eq_true rfl)
  rw [lg_entry_eq]
  generalize (lg_sl ([.int a0, .int a1]) ++ List.replicate (2 - (lg_sl ([.int a0, .int a1])).length) Slot.unset).toArray = ls at hl ⊢
  have hl : lv_has ls 2 [(0, .int a0), (1, .int a1)] := hl
  refine W_absQ (fun Q hQ => ?_)
  refine W.eq (g2 := F0 m 0 ls []) rfl ?_
  have h := hf
  unfold f_X7_canRide at h
  refine lv_iload_n hx hb dX7_canRide_0 rfl (lv_at hl 1 rfl) ?_
  refine lv_bipush (v := (-6)) hx hb dX7_canRide_1 (by decide) ?_
  refine lv_icmp_eq (tgt := 17) hx hb dX7_canRide_3 (by decide) (fun c3 => ?_) (fun c3 => ?_)
  · replace h := br_p c3 h
    refine lv_iconst (v := 1) hx hb dX7_canRide_17 (by decide) ?_
    refine lv_goto (tgt := 22) hx hb dX7_canRide_18 (by decide) ?_
    have e9 := Option.some.inj h
    subst e9
    rw [hQ]
    exact W.zret (v := 1) hx hb hr rfl (fun t ht hW => ⟨⟨1, (), rfl, rfl, by rw [ht]; exact hP, hD⟩, hS.F ht⟩) hS.2.2 dX7_canRide_22
  · replace h := br_n c3 h
    refine lv_iload_n hx hb dX7_canRide_6 rfl (lv_at hl 1 rfl) ?_
    refine lv_iconst (v := 0) hx hb dX7_canRide_7 (by decide) ?_
    refine lv_iload_n hx hb dX7_canRide_8 rfl (lv_at hl 0 rfl) ?_
    refine lv_iconst (v := 1) hx hb dX7_canRide_9 (by decide) ?_
    refine lv_isub hx hb dX7_canRide_10 ?_
    obtain ⟨r1, hcr1, h⟩ := bn_sp h
    have hPc := hP.sub (ws' := []) [] rfl
    have hDc := hD.sub (ws' := []) [] (by decide) rfl
    have hFc := va_free (wc := []) hD hS hA [] rfl
    refine va_calli (va_runS (As := [.int a1, .int 0, .int (a0 - 1)]) (rest := []) ⟨hx, hb, hml, hown, hts⟩ (m_X7_within l D cI cC cZ cR  _  a1 0 (a0 - 1)   r1 hcr1) (va_cwS 3 hts gX7_canRide_X7_within rfl rfl rfl (by decide +kernel) ⟨Nat.le_of_ble_eq_true rfl, Nat.le_of_ble_eq_true rfl⟩) (cPc_ps hPc hK hDc) rfl rfl hl.1 rfl (lv_room (Nat.le_of_ble_eq_true rfl)) dX7_canRide_11 ⟨Nat.le_of_ble_eq_true rfl, Nat.le_of_ble_eq_true rfl⟩) hS (fun q _ h => hFc q h) hFc (fun xq u t H1 locs ht hvm hw hB hz1 hk1 hS => ?_)
    rw [hw]
    obtain ⟨hP1, hD1⟩ := hB
    rw [ht] at hP1
    obtain ⟨hP, hD⟩ := va_join (wr := []) (w1 := []) hP hD [] [] rfl rfl (by decide) (by decide) hk1 hFc hP1 hD1
    generalize H1 = H at hP hS ⊢
    have hP : va_P D vwCl [] H := hP
    have hD : va_D A [] := hD
    refine lv_if_eq (tgt := 21) hx hb dX7_canRide_14 (by decide) (fun c2 => ?_) (fun c2 => ?_)
    · replace h := br_p c2 h
      refine lv_iconst (v := 0) hx hb dX7_canRide_21 (by decide) ?_
      have e9 := Option.some.inj h
      subst e9
      rw [hQ]
      exact W.zret (v := 0) hx hb hr rfl (fun t ht hW => ⟨⟨0, (), rfl, rfl, by rw [ht]; exact hP, hD⟩, hS.F ht⟩) hS.2.2 dX7_canRide_22
    · replace h := br_n c2 h
      refine lv_iconst (v := 1) hx hb dX7_canRide_17 (by decide) ?_
      refine lv_goto (tgt := 22) hx hb dX7_canRide_18 (by decide) ?_
      have e9 := Option.some.inj h
      subst e9
      rw [hQ]
      exact W.zret (v := 1) hx hb hr rfl (fun t ht hW => ⟨⟨1, (), rfl, rfl, by rw [ht]; exact hP, hD⟩, hS.F ht⟩) hS.2.2 dX7_canRide_22
-- java/lang/Math.floorDiv
abbrev OUT_J9_floorDiv_7cf53 : Type := Int32
def f_J9_floorDiv_7cf53 (a0 : Int32) (a1 : Int32) : Option OUT_J9_floorDiv_7cf53 :=
  gz a1 (bd (a0 / a1) (fun x1 => (if 0 ≤ (a0 ^^^ a1) then some (x1) else (if (x1 * a1) = a0 then some (x1) else some (x1 - 1)))))
abbrev R_J9_floorDiv_7cf53 : Room := { frames := 0, cells := 0, slots := 0, locals := 0 }
set_option maxHeartbeats 4000000 in
set_option maxRecDepth 100000 in
theorem m_J9_floorDiv_7cf53 (l : Launch) (D : va_G) (cI cC cZ cR : ClassId)  (sz : Nat)   (a0 : Int32) (a1 : Int32)   (r : OUT_J9_floorDiv_7cf53) (hf : f_J9_floorDiv_7cf53 a0 a1 = some r) : Met l yJ9_floorDiv_7cf53 wsJ9_floorDiv_7cf53 R_J9_floorDiv_7cf53 (cPc D cI cC cZ cR [.int a0, .int a1] sz []) (cQi D [] (va_A [] sz) r) 0 0 (va_A [] sz) := by
  refine va_MetF (cc := cJ9_floorDiv_7cf53) (maxL := 3) (ret := (some .int)) (by decide +kernel) rfl ?_
  intro p e s m args below meth c s₁ B hml hv
  obtain ⟨rfl, hsz, hP, hK, hD0⟩ := hv
  have hx := B.exec
  have hb := B.bytes
  have hr := B.returns
  have hts := atoms_spec (ws := wsJ9_floorDiv_7cf53) B.pre
  have hown : s.vm.findClass RJ9 = some m.cls := findClass_of_methodNamed B.named
  have hlocks := B.notSynchronized
  subst hsz
  have hD := hD0.self (sz := s.heap.size)
  generalize hAe : va_A [] s.heap.size = A at hD ⊢
  skip
  have hA : ∀ q : Nat, s.heap.size ≤ q → A q := fun q h => by rw [← hAe]; exact Or.inr h
  have hS : va_S A s.heap s.heap [] := va_S.rf
  have hl := lv_entry ([.int a0, .int a1]) (n := 3) (Nat.le_of_ble_eq_true rfl)
  rw [lg_entry_eq]
  generalize (lg_sl ([.int a0, .int a1]) ++ List.replicate (3 - (lg_sl ([.int a0, .int a1])).length) Slot.unset).toArray = ls at hl ⊢
  have hl : lv_has ls 3 [(0, .int a0), (1, .int a1)] := hl
  refine W_absQ (fun Q hQ => ?_)
  refine W.eq (g2 := F0 m 0 ls []) rfl ?_
  have h := hf
  unfold f_J9_floorDiv_7cf53 at h
  refine lv_iload_n hx hb dJ9_floorDiv_7cf53_0 rfl (lv_at hl 0 rfl) ?_
  refine lv_iload_n hx hb dJ9_floorDiv_7cf53_1 rfl (lv_at hl 1 rfl) ?_
  obtain ⟨hz, h⟩ := gz_sp h
  refine lv_idiv hx hb dJ9_floorDiv_7cf53_2 hz ?_
  refine lv_topi (fun x1 ex1 => ?_)
  replace h := bd_s2 h ex1
  refine lv_istore_n (lv' := [(2, .int x1), (0, .int a0), (1, .int a1)]) hx hb dJ9_floorDiv_7cf53_3 rfl hl (by decide) rfl (fun ls hl => ?_)
  refine lv_iload_n hx hb dJ9_floorDiv_7cf53_4 rfl (lv_at hl 1 rfl) ?_
  refine lv_iload_n hx hb dJ9_floorDiv_7cf53_5 rfl (lv_at hl 2 rfl) ?_
  refine lv_ixor hx hb dJ9_floorDiv_7cf53_6 ?_
  refine lv_if_ge (tgt := 21) hx hb dJ9_floorDiv_7cf53_7 (by decide) (fun c3 => ?_) (fun c3 => ?_)
  · replace h := br_p c3 h
    refine lv_iload_n hx hb dJ9_floorDiv_7cf53_21 rfl (lv_at hl 0 rfl) ?_
    have e9 := Option.some.inj h
    subst e9
    rw [hQ]
    exact W.iret (v := x1) hx hb hr (fun t ht hW => ⟨⟨x1, (), rfl, rfl, by rw [ht]; exact hP, hD⟩, hS.F ht⟩) hS.2.2 dJ9_floorDiv_7cf53_22
  · replace h := br_n c3 h
    refine lv_iload_n hx hb dJ9_floorDiv_7cf53_10 rfl (lv_at hl 0 rfl) ?_
    refine lv_iload_n hx hb dJ9_floorDiv_7cf53_11 rfl (lv_at hl 2 rfl) ?_
    refine lv_imul hx hb dJ9_floorDiv_7cf53_12 ?_
    refine lv_iload_n hx hb dJ9_floorDiv_7cf53_13 rfl (lv_at hl 1 rfl) ?_
    refine lv_icmp_eq (tgt := 21) hx hb dJ9_floorDiv_7cf53_14 (by decide) (fun c2 => ?_) (fun c2 => ?_)
    · replace h := br_p c2 h
      refine lv_iload_n hx hb dJ9_floorDiv_7cf53_21 rfl (lv_at hl 0 rfl) ?_
      have e9 := Option.some.inj h
      subst e9
      rw [hQ]
      exact W.iret (v := x1) hx hb hr (fun t ht hW => ⟨⟨x1, (), rfl, rfl, by rw [ht]; exact hP, hD⟩, hS.F ht⟩) hS.2.2 dJ9_floorDiv_7cf53_22
    · replace h := br_n c2 h
      refine lv_iload_n hx hb dJ9_floorDiv_7cf53_17 rfl (lv_at hl 0 rfl) ?_
      refine lv_iconst (v := 1) hx hb dJ9_floorDiv_7cf53_18 (by decide) ?_
      refine lv_isub hx hb dJ9_floorDiv_7cf53_19 ?_
      have e9 := Option.some.inj h
      subst e9
      rw [hQ]
      exact W.iret (v := x1 - 1) hx hb hr (fun t ht hW => ⟨⟨x1 - 1, (), rfl, rfl, by rw [ht]; exact hP, hD⟩, hS.F ht⟩) hS.2.2 dJ9_floorDiv_7cf53_20
-- java/lang/Integer.bitCount
abbrev OUT_J6_bitCount_0f7a4 : Type := Int32
def f_J6_bitCount_0f7a4 (a0 : Int32) : Option OUT_J6_bitCount_0f7a4 :=
  bd (a0 - ((((a0 : Int32).toUInt32 >>> ((1 : Int32).toUInt32 &&& Int32.toUInt32 31)).toInt32) &&& 1431655765)) (fun x1 => bd ((x1 &&& 858993459) + ((((x1 : Int32).toUInt32 >>> ((2 : Int32).toUInt32 &&& Int32.toUInt32 31)).toInt32) &&& 858993459)) (fun x2 => bd ((x2 + (((x2 : Int32).toUInt32 >>> ((4 : Int32).toUInt32 &&& Int32.toUInt32 31)).toInt32)) &&& 252645135) (fun x3 => bd (x3 + (((x3 : Int32).toUInt32 >>> ((8 : Int32).toUInt32 &&& Int32.toUInt32 31)).toInt32)) (fun x4 => bd (x4 + (((x4 : Int32).toUInt32 >>> ((16 : Int32).toUInt32 &&& Int32.toUInt32 31)).toInt32)) (fun x5 => some (x5 &&& 63))))))
theorem kJ6_bitCount_0f7a4_0 : Cond.constant RJ6 265 (1431655765) ∈ wsJ6_bitCount_0f7a4 := by decide +kernel
theorem kJ6_bitCount_0f7a4_1 : Cond.constant RJ6 266 (858993459) ∈ wsJ6_bitCount_0f7a4 := by decide +kernel
theorem kJ6_bitCount_0f7a4_2 : Cond.constant RJ6 267 (252645135) ∈ wsJ6_bitCount_0f7a4 := by decide +kernel
abbrev R_J6_bitCount_0f7a4 : Room := { frames := 0, cells := 0, slots := 0, locals := 0 }
set_option maxHeartbeats 4000000 in
set_option maxRecDepth 100000 in
theorem m_J6_bitCount_0f7a4 (l : Launch) (D : va_G) (cI cC cZ cR : ClassId)  (sz : Nat)   (a0 : Int32)   (r : OUT_J6_bitCount_0f7a4) (hf : f_J6_bitCount_0f7a4 a0 = some r) : Met l yJ6_bitCount_0f7a4 wsJ6_bitCount_0f7a4 R_J6_bitCount_0f7a4 (cPc D cI cC cZ cR [.int a0] sz []) (cQi D [] (va_A [] sz) r) 0 0 (va_A [] sz) := by
  refine va_MetF (cc := cJ6_bitCount_0f7a4) (maxL := 1) (ret := (some .int)) (by decide +kernel) rfl ?_
  intro p e s m args below meth c s₁ B hml hv
  obtain ⟨rfl, hsz, hP, hK, hD0⟩ := hv
  have hx := B.exec
  have hb := B.bytes
  have hr := B.returns
  have hts := atoms_spec (ws := wsJ6_bitCount_0f7a4) B.pre
  have hown : s.vm.findClass RJ6 = some m.cls := findClass_of_methodNamed B.named
  have hlocks := B.notSynchronized
  subst hsz
  have hD := hD0.self (sz := s.heap.size)
  generalize hAe : va_A [] s.heap.size = A at hD ⊢
  skip
  have hA : ∀ q : Nat, s.heap.size ≤ q → A q := fun q h => by rw [← hAe]; exact Or.inr h
  have hS : va_S A s.heap s.heap [] := va_S.rf
  have hl := lv_entry ([.int a0]) (n := 1) (Nat.le_of_ble_eq_true rfl)
  rw [lg_entry_eq]
  generalize (lg_sl ([.int a0]) ++ List.replicate (1 - (lg_sl ([.int a0])).length) Slot.unset).toArray = ls at hl ⊢
  have hl : lv_has ls 1 [(0, .int a0)] := hl
  refine W_absQ (fun Q hQ => ?_)
  refine W.eq (g2 := F0 m 0 ls []) rfl ?_
  have h := hf
  unfold f_J6_bitCount_0f7a4 at h
  refine lv_iload_n hx hb dJ6_bitCount_0f7a4_0 rfl (lv_at hl 0 rfl) ?_
  refine lv_iload_n hx hb dJ6_bitCount_0f7a4_1 rfl (lv_at hl 0 rfl) ?_
  refine lv_iconst (v := 1) hx hb dJ6_bitCount_0f7a4_2 (by decide) ?_
  refine lv_iushr (v := ((a0 : Int32).toUInt32 >>> ((1 : Int32).toUInt32 &&& Int32.toUInt32 31)).toInt32) hx hb dJ6_bitCount_0f7a4_3 rfl ?_
  refine lv_ldcw (v := 1431655765) hx hb hown (hts _ kJ6_bitCount_0f7a4_0) dJ6_bitCount_0f7a4_4 ?_
  refine lv_iand hx hb dJ6_bitCount_0f7a4_7 ?_
  refine lv_isub hx hb dJ6_bitCount_0f7a4_8 ?_
  refine lv_topi (fun x1 ex1 => ?_)
  replace h := bd_s2 h ex1
  refine lv_istore_n (lv' := [(0, .int x1)]) hx hb dJ6_bitCount_0f7a4_9 rfl hl (by decide) rfl (fun ls hl => ?_)
  refine lv_iload_n hx hb dJ6_bitCount_0f7a4_10 rfl (lv_at hl 0 rfl) ?_
  refine lv_ldcw (v := 858993459) hx hb hown (hts _ kJ6_bitCount_0f7a4_1) dJ6_bitCount_0f7a4_11 ?_
  refine lv_iand hx hb dJ6_bitCount_0f7a4_14 ?_
  refine lv_iload_n hx hb dJ6_bitCount_0f7a4_15 rfl (lv_at hl 0 rfl) ?_
  refine lv_iconst (v := 2) hx hb dJ6_bitCount_0f7a4_16 (by decide) ?_
  refine lv_iushr (v := ((x1 : Int32).toUInt32 >>> ((2 : Int32).toUInt32 &&& Int32.toUInt32 31)).toInt32) hx hb dJ6_bitCount_0f7a4_17 rfl ?_
  refine lv_ldcw (v := 858993459) hx hb hown (hts _ kJ6_bitCount_0f7a4_1) dJ6_bitCount_0f7a4_18 ?_
  refine lv_iand hx hb dJ6_bitCount_0f7a4_21 ?_
  refine lv_iadd hx hb dJ6_bitCount_0f7a4_22 ?_
  refine lv_topi (fun x2 ex2 => ?_)
  replace h := bd_s2 h ex2
  refine lv_istore_n (lv' := [(0, .int x2)]) hx hb dJ6_bitCount_0f7a4_23 rfl hl (by decide) rfl (fun ls hl => ?_)
  refine lv_iload_n hx hb dJ6_bitCount_0f7a4_24 rfl (lv_at hl 0 rfl) ?_
  refine lv_iload_n hx hb dJ6_bitCount_0f7a4_25 rfl (lv_at hl 0 rfl) ?_
  refine lv_iconst (v := 4) hx hb dJ6_bitCount_0f7a4_26 (by decide) ?_
  refine lv_iushr (v := ((x2 : Int32).toUInt32 >>> ((4 : Int32).toUInt32 &&& Int32.toUInt32 31)).toInt32) hx hb dJ6_bitCount_0f7a4_27 rfl ?_
  refine lv_iadd hx hb dJ6_bitCount_0f7a4_28 ?_
  refine lv_ldcw (v := 252645135) hx hb hown (hts _ kJ6_bitCount_0f7a4_2) dJ6_bitCount_0f7a4_29 ?_
  refine lv_iand hx hb dJ6_bitCount_0f7a4_32 ?_
  refine lv_topi (fun x3 ex3 => ?_)
  replace h := bd_s2 h ex3
  refine lv_istore_n (lv' := [(0, .int x3)]) hx hb dJ6_bitCount_0f7a4_33 rfl hl (by decide) rfl (fun ls hl => ?_)
  refine lv_iload_n hx hb dJ6_bitCount_0f7a4_34 rfl (lv_at hl 0 rfl) ?_
  refine lv_iload_n hx hb dJ6_bitCount_0f7a4_35 rfl (lv_at hl 0 rfl) ?_
  refine lv_bipush (v := 8) hx hb dJ6_bitCount_0f7a4_36 (by decide) ?_
  refine lv_iushr (v := ((x3 : Int32).toUInt32 >>> ((8 : Int32).toUInt32 &&& Int32.toUInt32 31)).toInt32) hx hb dJ6_bitCount_0f7a4_38 rfl ?_
  refine lv_iadd hx hb dJ6_bitCount_0f7a4_39 ?_
  refine lv_topi (fun x4 ex4 => ?_)
  replace h := bd_s2 h ex4
  refine lv_istore_n (lv' := [(0, .int x4)]) hx hb dJ6_bitCount_0f7a4_40 rfl hl (by decide) rfl (fun ls hl => ?_)
  refine lv_iload_n hx hb dJ6_bitCount_0f7a4_41 rfl (lv_at hl 0 rfl) ?_
  refine lv_iload_n hx hb dJ6_bitCount_0f7a4_42 rfl (lv_at hl 0 rfl) ?_
  refine lv_bipush (v := 16) hx hb dJ6_bitCount_0f7a4_43 (by decide) ?_
  refine lv_iushr (v := ((x4 : Int32).toUInt32 >>> ((16 : Int32).toUInt32 &&& Int32.toUInt32 31)).toInt32) hx hb dJ6_bitCount_0f7a4_45 rfl ?_
  refine lv_iadd hx hb dJ6_bitCount_0f7a4_46 ?_
  refine lv_topi (fun x5 ex5 => ?_)
  replace h := bd_s2 h ex5
  refine lv_istore_n (lv' := [(0, .int x5)]) hx hb dJ6_bitCount_0f7a4_47 rfl hl (by decide) rfl (fun ls hl => ?_)
  refine lv_iload_n hx hb dJ6_bitCount_0f7a4_48 rfl (lv_at hl 0 rfl) ?_
  refine lv_bipush (v := 63) hx hb dJ6_bitCount_0f7a4_49 (by decide) ?_
  refine lv_iand hx hb dJ6_bitCount_0f7a4_51 ?_
  have e9 := Option.some.inj h
  subst e9
  rw [hQ]
  exact W.iret (v := x5 &&& 63) hx hb hr (fun t ht hW => ⟨⟨x5 &&& 63, (), rfl, rfl, by rw [ht]; exact hP, hD⟩, hS.F ht⟩) hS.2.2 dJ6_bitCount_0f7a4_52
-- java/util/Arrays.fill
abbrev OUT_J7_fill_53178 : Type := (Nat → Int32)
def f_J7_fill_53178_L5 (a1 : Int32) (k : Int32 → (Nat → Int32) → Option OUT_J7_fill_53178) : Nat → Int32 → (Nat → Int32) → Option OUT_J7_fill_53178
  | 0 => fun _ _ => none
  | n + 1 => fun v3 v4 => (if 24 ≤ v3 then k v3 v4 else gd v3 24 (bd (v3 + 1) (fun x5 => f_J7_fill_53178_L5 a1 k n x5 (upd v4 v3.toNatClampNeg a1))))
theorem f_J7_fill_53178_L5_s (a1 : Int32) (k : Int32 → (Nat → Int32) → Option OUT_J7_fill_53178) (n : Nat) (v3 : Int32) (v4 : Nat → Int32) : f_J7_fill_53178_L5 a1 k (n + 1) v3 v4 = ((if 24 ≤ v3 then k v3 v4 else gd v3 24 (bd (v3 + 1) (fun x5 => f_J7_fill_53178_L5 a1 k n x5 (upd v4 v3.toNatClampNeg a1))))) := rfl
def f_J7_fill_53178 (orow : Nat → Int32) (a1 : Int32) : Option OUT_J7_fill_53178 :=
  f_J7_fill_53178_L5 a1 (fun (w7 : Int32) (w8 : Nat → Int32) => some w8) 4000 0 orow
abbrev R_J7_fill_53178 : Room := { frames := 0, cells := 0, slots := 0, locals := 0 }
set_option maxHeartbeats 4000000 in
set_option maxRecDepth 100000 in
theorem m_J7_fill_53178 (l : Launch) (D : va_G) (cI cC cZ cR : ClassId) (orw : Nat) (sz : Nat) (orow : Nat → Int32)  (a1 : Int32)   (r : OUT_J7_fill_53178) (hf : f_J7_fill_53178 orow a1 = some r) : Met l yJ7_fill_53178 wsJ7_fill_53178 R_J7_fill_53178 (cPc D cI cC cZ cR [.ref orw, .int a1] sz (ws_row24 cI cC cZ cR orw orow)) (cQv D (ws_row24 cI cC cZ cR orw r) (va_A (ws_row24 cI cC cZ cR orw orow) sz)) 0 0 (va_A (ws_row24 cI cC cZ cR orw orow) sz) := by
  refine va_MetF (cc := cJ7_fill_53178) (maxL := 4) (ret := none) (by decide +kernel) rfl ?_
  intro p e s m args below meth c s₁ B hml hv
  obtain ⟨rfl, hsz, hP, hK, hD0⟩ := hv
  have hx := B.exec
  have hb := B.bytes
  have hr := B.returns
  have hts := atoms_spec (ws := wsJ7_fill_53178) B.pre
  have hown : s.vm.findClass RJ7 = some m.cls := findClass_of_methodNamed B.named
  have hlocks := B.notSynchronized
  subst hsz
  have hD := hD0.self (sz := s.heap.size)
  generalize hAe : va_A (ws_row24 cI cC cZ cR orw orow) s.heap.size = A at hD ⊢
  skip
  have hA : ∀ q : Nat, s.heap.size ≤ q → A q := fun q h => by rw [← hAe]; exact Or.inr h
  have hS : va_S A s.heap s.heap [] := va_S.rf
  have hl := lv_entry ([.ref orw, .int a1]) (n := 4) (Nat.le_of_ble_eq_true rfl)
  rw [lg_entry_eq]
  generalize (lg_sl ([.ref orw, .int a1]) ++ List.replicate (4 - (lg_sl ([.ref orw, .int a1])).length) Slot.unset).toArray = ls at hl ⊢
  have hl : lv_has ls 4 [(0, .ref orw), (1, .int a1)] := hl
  refine W_absQ (fun Q hQ => ?_)
  refine W.eq (g2 := F0 m 0 ls []) rfl ?_
  have h := hf
  unfold f_J7_fill_53178 at h
  refine lv_iconst (v := 0) hx hb dJ7_fill_53178_0 (by decide) ?_
  refine lv_istore_n (lv' := [(2, .int 0), (0, .ref orw), (1, .int a1)]) hx hb dJ7_fill_53178_1 rfl hl (by decide) rfl (fun ls hl => ?_)
  refine lv_aload_n hx hb dJ7_fill_53178_2 rfl (lv_at hl 1 rfl) ?_
  refine va_alen (D := D) (v := 24) hx hb hK.1 hP 0 0 rfl rfl rfl dJ7_fill_53178_3 ?_
  refine lv_istore_n (lv' := [(3, .int 24), (2, .int 0), (0, .ref orw), (1, .int a1)]) hx hb dJ7_fill_53178_4 rfl hl (by decide) rfl (fun ls hl => ?_)
  have L5 : ∀ (k : Int32 → (Nat → Int32) → Option OUT_J7_fill_53178), (∀ (w7 : Int32) (w8 : Nat → Int32) (H : Heap) (locs : List Loc) (ls : Array Slot), k w7 w8 = some r → va_P D vwCl (ws_row24 cI cC cZ cR orw w8) H → va_D A (ws_row24 cI cC cZ cR orw w8) → va_S A s.heap H locs → lv_has ls 4 [(0, .ref orw), (1, .int a1), (2, .int w7), (3, .int 24)] → W p l e R_J7_fill_53178 s m ([.ref orw, .int a1] : List Value).toArray below meth c H locs 0 0 Q (F0 m 20 ls [])) → ∀ (n : Nat) (v3 : Int32) (v4 : Nat → Int32) (H : Heap) (locs : List Loc) (ls : Array Slot), f_J7_fill_53178_L5 a1 k n v3 v4 = some r → va_P D vwCl (ws_row24 cI cC cZ cR orw v4) H → va_D A (ws_row24 cI cC cZ cR orw v4) → va_S A s.heap H locs → lv_has ls 4 [(0, .ref orw), (1, .int a1), (2, .int v3), (3, .int 24)] → W p l e R_J7_fill_53178 s m ([.ref orw, .int a1] : List Value).toArray below meth c H locs 0 0 Q (F0 m 5 ls []) := by
    intro k K n
    induction n with
    | zero => intro v3 v4 H locs ls h; exact no_sm h
    | succ n ih =>
      intro v3 v4 H locs ls h hP hD hS hl
      rw [f_J7_fill_53178_L5_s] at h
      refine lv_iload_n hx hb dJ7_fill_53178_5 rfl (lv_at hl 2 rfl) ?_
      refine lv_iload_n hx hb dJ7_fill_53178_6 rfl (lv_at hl 3 rfl) ?_
      refine lv_icmp_ge (tgt := 20) hx hb dJ7_fill_53178_7 (by decide) (fun c6 => ?_) (fun c6 => ?_)
      · replace h := br_p c6 h
        exact K _ _ _ _ _ h hP hD hS (lv_sub hl [0, 1, 2, 3] rfl)
      · replace h := br_n c6 h
        refine lv_aload_n hx hb dJ7_fill_53178_10 rfl (lv_at hl 0 rfl) ?_
        refine lv_iload_n hx hb dJ7_fill_53178_11 rfl (lv_at hl 2 rfl) ?_
        refine lv_iload_n hx hb dJ7_fill_53178_12 rfl (lv_at hl 1 rfl) ?_
        obtain ⟨hin, h⟩ := gd_sp h
        refine va_iast (D := D) hx hb hK.1 hP hD hS 0 0 rfl rfl hin dJ7_fill_53178_13 (fun H locs hP hD hS => ?_)
        have hP : va_P D vwCl (ws_row24 cI cC cZ cR orw (upd v4 v3.toNatClampNeg a1)) H := hP
        have hD : va_D A (ws_row24 cI cC cZ cR orw (upd v4 v3.toNatClampNeg a1)) := hD
        obtain ⟨x5, ex5, h⟩ := bd_sp h
        refine lv_iinc (v := x5) (lv' := [(2, .int x5), (0, .ref orw), (1, .int a1), (3, .int 24)]) hx hb dJ7_fill_53178_14 hl (k := 2) rfl (by rw [ex5]; rfl) (by decide) rfl (fun ls hl => ?_)
        refine lv_goto (tgt := 5) hx hb dJ7_fill_53178_17 (by decide) ?_
        exact ih _ _ _ _ _ h hP hD hS (lv_sub hl [1, 2, 0, 3] rfl)
  refine L5 _ (fun w7 w8 H locs ls h hP hD hS hl => ?_) 4000 0 orow _ _ _ h hP hD hS (lv_sub hl [2, 3, 1, 0] rfl)
  have e9 := Option.some.inj h
  subst e9
  rw [hQ]
  exact W.vret hx hb hr (fun t ht hW => ⟨⟨(), rfl, trivial, by rw [ht]; exact hP, hD⟩, hS.F ht⟩) hS.2.2 dJ7_fill_53178_20
-- java/util/Arrays.fill
abbrev OUT_J7_fill_53178_25 : Type := (Nat → Int32)
def f_J7_fill_53178_25_L5 (a1 : Int32) (k : Int32 → (Nat → Int32) → Option OUT_J7_fill_53178_25) : Nat → Int32 → (Nat → Int32) → Option OUT_J7_fill_53178_25
  | 0 => fun _ _ => none
  | n + 1 => fun v3 v4 => (if 25 ≤ v3 then k v3 v4 else gd v3 25 (bd (v3 + 1) (fun x5 => f_J7_fill_53178_25_L5 a1 k n x5 (upd v4 v3.toNatClampNeg a1))))
theorem f_J7_fill_53178_25_L5_s (a1 : Int32) (k : Int32 → (Nat → Int32) → Option OUT_J7_fill_53178_25) (n : Nat) (v3 : Int32) (v4 : Nat → Int32) : f_J7_fill_53178_25_L5 a1 k (n + 1) v3 v4 = ((if 25 ≤ v3 then k v3 v4 else gd v3 25 (bd (v3 + 1) (fun x5 => f_J7_fill_53178_25_L5 a1 k n x5 (upd v4 v3.toNatClampNeg a1))))) := rfl
def f_J7_fill_53178_25 (orow : Nat → Int32) (a1 : Int32) : Option OUT_J7_fill_53178_25 :=
  f_J7_fill_53178_25_L5 a1 (fun (w7 : Int32) (w8 : Nat → Int32) => some w8) 4000 0 orow
abbrev R_J7_fill_53178_25 : Room := { frames := 0, cells := 0, slots := 0, locals := 0 }
set_option maxHeartbeats 4000000 in
set_option maxRecDepth 100000 in
theorem m_J7_fill_53178_25 (l : Launch) (D : va_G) (cI cC cZ cR : ClassId) (orw : Nat) (sz : Nat) (orow : Nat → Int32)  (a1 : Int32)   (r : OUT_J7_fill_53178_25) (hf : f_J7_fill_53178_25 orow a1 = some r) : Met l yJ7_fill_53178 wsJ7_fill_53178 R_J7_fill_53178_25 (cPc D cI cC cZ cR [.ref orw, .int a1] sz (ws_row25 cI cC cZ cR orw orow)) (cQv D (ws_row25 cI cC cZ cR orw r) (va_A (ws_row25 cI cC cZ cR orw orow) sz)) 0 0 (va_A (ws_row25 cI cC cZ cR orw orow) sz) := by
  refine va_MetF (cc := cJ7_fill_53178) (maxL := 4) (ret := none) (by decide +kernel) rfl ?_
  intro p e s m args below meth c s₁ B hml hv
  obtain ⟨rfl, hsz, hP, hK, hD0⟩ := hv
  have hx := B.exec
  have hb := B.bytes
  have hr := B.returns
  have hts := atoms_spec (ws := wsJ7_fill_53178) B.pre
  have hown : s.vm.findClass RJ7 = some m.cls := findClass_of_methodNamed B.named
  have hlocks := B.notSynchronized
  subst hsz
  have hD := hD0.self (sz := s.heap.size)
  generalize hAe : va_A (ws_row25 cI cC cZ cR orw orow) s.heap.size = A at hD ⊢
  skip
  have hA : ∀ q : Nat, s.heap.size ≤ q → A q := fun q h => by rw [← hAe]; exact Or.inr h
  have hS : va_S A s.heap s.heap [] := va_S.rf
  have hl := lv_entry ([.ref orw, .int a1]) (n := 4) (Nat.le_of_ble_eq_true rfl)
  rw [lg_entry_eq]
  generalize (lg_sl ([.ref orw, .int a1]) ++ List.replicate (4 - (lg_sl ([.ref orw, .int a1])).length) Slot.unset).toArray = ls at hl ⊢
  have hl : lv_has ls 4 [(0, .ref orw), (1, .int a1)] := hl
  refine W_absQ (fun Q hQ => ?_)
  refine W.eq (g2 := F0 m 0 ls []) rfl ?_
  have h := hf
  unfold f_J7_fill_53178_25 at h
  refine lv_iconst (v := 0) hx hb dJ7_fill_53178_0 (by decide) ?_
  refine lv_istore_n (lv' := [(2, .int 0), (0, .ref orw), (1, .int a1)]) hx hb dJ7_fill_53178_1 rfl hl (by decide) rfl (fun ls hl => ?_)
  refine lv_aload_n hx hb dJ7_fill_53178_2 rfl (lv_at hl 1 rfl) ?_
  refine va_alen (D := D) (v := 25) hx hb hK.1 hP 0 0 rfl rfl rfl dJ7_fill_53178_3 ?_
  refine lv_istore_n (lv' := [(3, .int 25), (2, .int 0), (0, .ref orw), (1, .int a1)]) hx hb dJ7_fill_53178_4 rfl hl (by decide) rfl (fun ls hl => ?_)
  have L5 : ∀ (k : Int32 → (Nat → Int32) → Option OUT_J7_fill_53178_25), (∀ (w7 : Int32) (w8 : Nat → Int32) (H : Heap) (locs : List Loc) (ls : Array Slot), k w7 w8 = some r → va_P D vwCl (ws_row25 cI cC cZ cR orw w8) H → va_D A (ws_row25 cI cC cZ cR orw w8) → va_S A s.heap H locs → lv_has ls 4 [(0, .ref orw), (1, .int a1), (2, .int w7), (3, .int 25)] → W p l e R_J7_fill_53178_25 s m ([.ref orw, .int a1] : List Value).toArray below meth c H locs 0 0 Q (F0 m 20 ls [])) → ∀ (n : Nat) (v3 : Int32) (v4 : Nat → Int32) (H : Heap) (locs : List Loc) (ls : Array Slot), f_J7_fill_53178_25_L5 a1 k n v3 v4 = some r → va_P D vwCl (ws_row25 cI cC cZ cR orw v4) H → va_D A (ws_row25 cI cC cZ cR orw v4) → va_S A s.heap H locs → lv_has ls 4 [(0, .ref orw), (1, .int a1), (2, .int v3), (3, .int 25)] → W p l e R_J7_fill_53178_25 s m ([.ref orw, .int a1] : List Value).toArray below meth c H locs 0 0 Q (F0 m 5 ls []) := by
    intro k K n
    induction n with
    | zero => intro v3 v4 H locs ls h; exact no_sm h
    | succ n ih =>
      intro v3 v4 H locs ls h hP hD hS hl
      rw [f_J7_fill_53178_25_L5_s] at h
      refine lv_iload_n hx hb dJ7_fill_53178_5 rfl (lv_at hl 2 rfl) ?_
      refine lv_iload_n hx hb dJ7_fill_53178_6 rfl (lv_at hl 3 rfl) ?_
      refine lv_icmp_ge (tgt := 20) hx hb dJ7_fill_53178_7 (by decide) (fun c6 => ?_) (fun c6 => ?_)
      · replace h := br_p c6 h
        exact K _ _ _ _ _ h hP hD hS (lv_sub hl [0, 1, 2, 3] rfl)
      · replace h := br_n c6 h
        refine lv_aload_n hx hb dJ7_fill_53178_10 rfl (lv_at hl 0 rfl) ?_
        refine lv_iload_n hx hb dJ7_fill_53178_11 rfl (lv_at hl 2 rfl) ?_
        refine lv_iload_n hx hb dJ7_fill_53178_12 rfl (lv_at hl 1 rfl) ?_
        obtain ⟨hin, h⟩ := gd_sp h
        refine va_iast (D := D) hx hb hK.1 hP hD hS 0 0 rfl rfl hin dJ7_fill_53178_13 (fun H locs hP hD hS => ?_)
        have hP : va_P D vwCl (ws_row25 cI cC cZ cR orw (upd v4 v3.toNatClampNeg a1)) H := hP
        have hD : va_D A (ws_row25 cI cC cZ cR orw (upd v4 v3.toNatClampNeg a1)) := hD
        obtain ⟨x5, ex5, h⟩ := bd_sp h
        refine lv_iinc (v := x5) (lv' := [(2, .int x5), (0, .ref orw), (1, .int a1), (3, .int 25)]) hx hb dJ7_fill_53178_14 hl (k := 2) rfl (by rw [ex5]; rfl) (by decide) rfl (fun ls hl => ?_)
        refine lv_goto (tgt := 5) hx hb dJ7_fill_53178_17 (by decide) ?_
        exact ih _ _ _ _ _ h hP hD hS (lv_sub hl [1, 2, 0, 3] rfl)
  refine L5 _ (fun w7 w8 H locs ls h hP hD hS hl => ?_) 4000 0 orow _ _ _ h hP hD hS (lv_sub hl [2, 3, 1, 0] rfl)
  have e9 := Option.some.inj h
  subst e9
  rw [hQ]
  exact W.vret hx hb hr (fun t ht hW => ⟨⟨(), rfl, trivial, by rw [ht]; exact hP, hD⟩, hS.F ht⟩) hS.2.2 dJ7_fill_53178_20
-- LeaningLines$Things.leftAt
abbrev OUT_X6_leftAt : Type := Int32
def f_X6_leftAt_L8 (mn : Int32) (sp : Nat → Int32) (si : Nat → Int32) (le : Nat → Int32) (un : Nat → Int32) (ul : Nat → Int32) (a1 : Int32) (k : Int32 → Int32 → Int32 → Option OUT_X6_leftAt) : Nat → Int32 → Int32 → Int32 → Option OUT_X6_leftAt
  | 0 => fun _ _ _ => none
  | n + 1 => fun v4 v5 v6 => (if 8 ≤ v6 then k v4 v5 v6 else (if v5 < 0 then k v4 v5 v6 else (if mn ≤ v5 then k v4 v5 v6 else gd v5 8 (gd v5 8 (gd v5 8 (bn (f_J9_floorDiv_7cf53 ((sp v5.toNatClampNeg) * (a1 - (si v5.toNatClampNeg))) 10) (fun r7 => gd v5 8 (bd (v4 + (((le v5.toNatClampNeg) + r7) - (ul v5.toNatClampNeg))) (fun x8 => gd v5 8 (bd (un v5.toNatClampNeg) (fun x9 => bd (v6 + 1) (fun x10 => f_X6_leftAt_L8 mn sp si le un ul a1 k n x8 x9 x10))))))))))))
theorem f_X6_leftAt_L8_s (mn : Int32) (sp : Nat → Int32) (si : Nat → Int32) (le : Nat → Int32) (un : Nat → Int32) (ul : Nat → Int32) (a1 : Int32) (k : Int32 → Int32 → Int32 → Option OUT_X6_leftAt) (n : Nat) (v4 : Int32) (v5 : Int32) (v6 : Int32) : f_X6_leftAt_L8 mn sp si le un ul a1 k (n + 1) v4 v5 v6 = ((if 8 ≤ v6 then k v4 v5 v6 else (if v5 < 0 then k v4 v5 v6 else (if mn ≤ v5 then k v4 v5 v6 else gd v5 8 (gd v5 8 (gd v5 8 (bn (f_J9_floorDiv_7cf53 ((sp v5.toNatClampNeg) * (a1 - (si v5.toNatClampNeg))) 10) (fun r7 => gd v5 8 (bd (v4 + (((le v5.toNatClampNeg) + r7) - (ul v5.toNatClampNeg))) (fun x8 => gd v5 8 (bd (un v5.toNatClampNeg) (fun x9 => bd (v6 + 1) (fun x10 => f_X6_leftAt_L8 mn sp si le un ul a1 k n x8 x9 x10))))))))))))) := rfl
def f_X6_leftAt (mn : Int32) (sp : Nat → Int32) (si : Nat → Int32) (le : Nat → Int32) (un : Nat → Int32) (ul : Nat → Int32) (a0 : Int32) (a1 : Int32) : Option OUT_X6_leftAt :=
  f_X6_leftAt_L8 mn sp si le un ul a1 (fun (w14 : Int32) (w15 : Int32) (w16 : Int32) => some (w14)) 4000 0 a0 0
theorem uX6_leftAt_X6 : ∀ w ∈ wsX60, w ∈ wsX6_leftAt := by decide +kernel
theorem kX6_leftAt_1 : Cond.fieldLink RX6 39 "LeaningLines$Things" "many" "I" ∈ wsX6_leftAt := by decide +kernel
theorem kX6_leftAt_2 : Cond.fieldLink RX6 30 "LeaningLines$Things" "left" "[I" ∈ wsX6_leftAt := by decide +kernel
theorem kX6_leftAt_3 : Cond.fieldLink RX6 24 "LeaningLines$Things" "speed" "[I" ∈ wsX6_leftAt := by decide +kernel
theorem kX6_leftAt_4 : Cond.fieldLink RX6 27 "LeaningLines$Things" "since" "[I" ∈ wsX6_leftAt := by decide +kernel
theorem kX6_leftAt_5 : Cond.fieldLink RX6 36 "LeaningLines$Things" "underLeft" "[I" ∈ wsX6_leftAt := by decide +kernel
theorem kX6_leftAt_6 : Cond.fieldLink RX6 33 "LeaningLines$Things" "under" "[I" ∈ wsX6_leftAt := by decide +kernel
abbrev R_X6_leftAt : Room := { frames := 1, cells := 0, slots := 0, locals := 22 }
set_option maxHeartbeats 4000000 in
set_option maxRecDepth 100000 in
theorem m_X6_leftAt (l : Launch) (D : va_G) (cI cC cZ cR : ClassId) (th th1 th2 th3 th4 th5 th6 th7 th8 th9 : Nat) (sz : Nat) (mn : Int32) (ln : Nat → Int32) (hi : Nat → Int32) (wi : Nat → Int32) (br : Nat → Int32) (sp : Nat → Int32) (si : Nat → Int32) (le : Nat → Int32) (un : Nat → Int32) (ul : Nat → Int32)  (a0 : Int32) (a1 : Int32)   (r : OUT_X6_leftAt) (hf : f_X6_leftAt mn sp si le un ul a0 a1 = some r) : Met l yX6_leftAt wsX6_leftAt R_X6_leftAt (cPc D cI cC cZ cR [.ref th, .int a0, .int a1] sz (ws_things cI cC cZ cR th th1 th2 th3 th4 th5 th6 th7 th8 th9 mn ln hi wi br sp si le un ul)) (cQi D (ws_things cI cC cZ cR th th1 th2 th3 th4 th5 th6 th7 th8 th9 mn ln hi wi br sp si le un ul) (va_A (ws_things cI cC cZ cR th th1 th2 th3 th4 th5 th6 th7 th8 th9 mn ln hi wi br sp si le un ul) sz) r) 0 0 (va_A (ws_things cI cC cZ cR th th1 th2 th3 th4 th5 th6 th7 th8 th9 mn ln hi wi br sp si le un ul) sz) := by
  refine Met.ofW (cc := cX6_leftAt) (maxL := 6) (ret := (some .int)) (by decide) rfl ?_
  intro p e s m args below meth c s₁ B hml hv
  obtain ⟨rfl, hsz, hP, hK, hD0⟩ := hv
  have hx := B.exec
  have hb := B.bytes
  have hr := B.returns
  have hts := atoms_spec (ws := wsX6_leftAt) B.pre
  have hown : s.vm.findClass RX6 = some m.cls := findClass_of_methodNamed B.named
  have hlocks := B.notSynchronized
  subst hsz
  have hD := hD0.self (sz := s.heap.size)
  generalize hAe : va_A (ws_things cI cC cZ cR th th1 th2 th3 th4 th5 th6 th7 th8 th9 mn ln hi wi br sp si le un ul) s.heap.size = A at hD ⊢
  skip
  have hA : ∀ q : Nat, s.heap.size ≤ q → A q := fun q h => by rw [← hAe]; exact Or.inr h
  have hS : va_S A s.heap s.heap [] := va_S.rf
  have hl := lv_entry ([.ref th, .int a0, .int a1]) (n := 6) (Nat.le_of_ble_eq_true rfl)
  rw [lg_entry_eq]
  generalize (lg_sl ([.ref th, .int a0, .int a1]) ++ List.replicate (6 - (lg_sl ([.ref th, .int a0, .int a1])).length) Slot.unset).toArray = ls at hl ⊢
  have hl : lv_has ls 6 [(0, .ref th), (1, .int a0), (2, .int a1)] := hl
  refine W_absQ (fun Q hQ => ?_)
  refine W.eq (g2 := F0 m 0 ls []) rfl ?_
  have h := hf
  unfold f_X6_leftAt at h
  refine lv_iconst (v := 0) hx hb dX6_leftAt_0 (by decide) ?_
  refine lv_istore_n (lv' := [(3, .int 0), (0, .ref th), (1, .int a0), (2, .int a1)]) hx hb dX6_leftAt_1 rfl hl (by decide) rfl (fun ls hl => ?_)
  refine lv_iload_n hx hb dX6_leftAt_2 rfl (lv_at hl 2 rfl) ?_
  refine lv_istore (lv' := [(4, .int a0), (3, .int 0), (0, .ref th), (1, .int a0), (2, .int a1)]) hx hb dX6_leftAt_3 hl (by decide) rfl (fun ls hl => ?_)
  refine lv_iconst (v := 0) hx hb dX6_leftAt_5 (by decide) ?_
  refine lv_istore (lv' := [(5, .int 0), (4, .int a0), (3, .int 0), (0, .ref th), (1, .int a0), (2, .int a1)]) hx hb dX6_leftAt_6 hl (by decide) rfl (fun ls hl => ?_)
  have L8 : ∀ (k : Int32 → Int32 → Int32 → Option OUT_X6_leftAt), (∀ (w14 : Int32) (w15 : Int32) (w16 : Int32) (H : Heap) (locs : List Loc) (ls : Array Slot), k w14 w15 w16 = some r → va_P D vwCl (ws_things cI cC cZ cR th th1 th2 th3 th4 th5 th6 th7 th8 th9 mn ln hi wi br sp si le un ul) H → va_D A (ws_things cI cC cZ cR th th1 th2 th3 th4 th5 th6 th7 th8 th9 mn ln hi wi br sp si le un ul) → va_S A s.heap H locs → lv_has ls 6 [(0, .ref th), (1, .int a0), (2, .int a1), (3, .int w14), (4, .int w15), (5, .int w16)] → W p l e R_X6_leftAt s m ([.ref th, .int a0, .int a1] : List Value).toArray below meth c H locs 0 0 Q (F0 m 85 ls [])) → ∀ (n : Nat) (v4 : Int32) (v5 : Int32) (v6 : Int32) (H : Heap) (locs : List Loc) (ls : Array Slot), f_X6_leftAt_L8 mn sp si le un ul a1 k n v4 v5 v6 = some r → va_P D vwCl (ws_things cI cC cZ cR th th1 th2 th3 th4 th5 th6 th7 th8 th9 mn ln hi wi br sp si le un ul) H → va_D A (ws_things cI cC cZ cR th th1 th2 th3 th4 th5 th6 th7 th8 th9 mn ln hi wi br sp si le un ul) → va_S A s.heap H locs → lv_has ls 6 [(0, .ref th), (1, .int a0), (2, .int a1), (3, .int v4), (4, .int v5), (5, .int v6)] → W p l e R_X6_leftAt s m ([.ref th, .int a0, .int a1] : List Value).toArray below meth c H locs 0 0 Q (F0 m 8 ls []) := by
    intro k K n
    induction n with
    | zero => intro v4 v5 v6 H locs ls h; exact no_sm h
    | succ n ih =>
      intro v4 v5 v6 H locs ls h hP hD hS hl
      rw [f_X6_leftAt_L8_s] at h
      refine lv_iload hx hb dX6_leftAt_8 (lv_at hl 5 rfl) ?_
      refine lv_bipush (v := 8) hx hb dX6_leftAt_10 (by decide) ?_
      refine lv_icmp_ge (tgt := 85) hx hb dX6_leftAt_12 (by decide) (fun c13 => ?_) (fun c13 => ?_)
      · replace h := br_p c13 h
        exact K _ _ _ _ _ _ h hP hD hS (lv_sub hl [0, 1, 2, 3, 4, 5] rfl)
      · replace h := br_n c13 h
        refine lv_iload hx hb dX6_leftAt_15 (lv_at hl 4 rfl) ?_
        refine lv_if_lt (tgt := 85) hx hb dX6_leftAt_17 (by decide) (fun c12 => ?_) (fun c12 => ?_)
        · replace h := br_p c12 h
          exact K _ _ _ _ _ _ h hP hD hS (lv_sub hl [0, 1, 2, 3, 4, 5] rfl)
        · replace h := br_n c12 h
          refine lv_iload hx hb dX6_leftAt_20 (lv_at hl 4 rfl) ?_
          refine lv_aload_n hx hb dX6_leftAt_22 rfl (lv_at hl 0 rfl) ?_
          refine va_get (D := D) (ci := 6) (v := .int mn) (C := RX6) (T := TX6) (N := 10) hx hb hts uX6_leftAt_X6 hown hK.1 hP 0 rfl rfl 0 (by decide) (hts _ kX6_leftAt_1) (fun _ h9 => h9) rfl dX6_leftAt_23 ?_
          refine lv_icmp_ge (tgt := 85) hx hb dX6_leftAt_26 (by decide) (fun c11 => ?_) (fun c11 => ?_)
          · replace h := br_p c11 h
            exact K _ _ _ _ _ _ h hP hD hS (lv_sub hl [0, 1, 2, 3, 4, 5] rfl)
          · replace h := br_n c11 h
            refine lv_iload_n hx hb dX6_leftAt_29 rfl (lv_at hl 3 rfl) ?_
            refine lv_aload_n hx hb dX6_leftAt_30 rfl (lv_at hl 0 rfl) ?_
            refine va_get (D := D) (ci := 6) (v := .ref th7) (C := RX6) (T := TX6) (N := 10) hx hb hts uX6_leftAt_X6 hown hK.1 hP 0 rfl rfl 7 (by decide) (hts _ kX6_leftAt_2) (fun _ h9 => h9) rfl dX6_leftAt_31 ?_
            refine lv_iload hx hb dX6_leftAt_34 (lv_at hl 4 rfl) ?_
            obtain ⟨hin, h⟩ := gd_sp h
            refine va_iald (D := D) hx hb hK.1 hP 7 0 rfl rfl hin dX6_leftAt_36 ?_
            refine lv_aload_n hx hb dX6_leftAt_37 rfl (lv_at hl 0 rfl) ?_
            refine va_get (D := D) (ci := 6) (v := .ref th5) (C := RX6) (T := TX6) (N := 10) hx hb hts uX6_leftAt_X6 hown hK.1 hP 0 rfl rfl 5 (by decide) (hts _ kX6_leftAt_3) (fun _ h9 => h9) rfl dX6_leftAt_38 ?_
            refine lv_iload hx hb dX6_leftAt_41 (lv_at hl 4 rfl) ?_
            obtain ⟨hin, h⟩ := gd_sp h
            refine va_iald (D := D) hx hb hK.1 hP 5 0 rfl rfl hin dX6_leftAt_43 ?_
            refine lv_iload_n hx hb dX6_leftAt_44 rfl (lv_at hl 2 rfl) ?_
            refine lv_aload_n hx hb dX6_leftAt_45 rfl (lv_at hl 0 rfl) ?_
            refine va_get (D := D) (ci := 6) (v := .ref th6) (C := RX6) (T := TX6) (N := 10) hx hb hts uX6_leftAt_X6 hown hK.1 hP 0 rfl rfl 6 (by decide) (hts _ kX6_leftAt_4) (fun _ h9 => h9) rfl dX6_leftAt_46 ?_
            refine lv_iload hx hb dX6_leftAt_49 (lv_at hl 4 rfl) ?_
            obtain ⟨hin, h⟩ := gd_sp h
            refine va_iald (D := D) hx hb hK.1 hP 6 0 rfl rfl hin dX6_leftAt_51 ?_
            refine lv_isub hx hb dX6_leftAt_52 ?_
            refine lv_imul hx hb dX6_leftAt_53 ?_
            refine lv_bipush (v := 10) hx hb dX6_leftAt_54 (by decide) ?_
            obtain ⟨r7, hcr7, h⟩ := bn_sp h
            have hPc := hP.sub (ws' := []) [] rfl
            have hDc := hD.sub (ws' := []) [] (by decide) rfl
            have hFc := va_free (wc := []) hD hS hA [] rfl
            refine va_calli (va_runS (As := [.int ((sp v5.toNatClampNeg) * (a1 - (si v5.toNatClampNeg))), .int 10]) (rest := [.int (le v5.toNatClampNeg), .int v4]) ⟨hx, hb, hml, hown, hts⟩ (m_J9_floorDiv_7cf53 l D cI cC cZ cR  _  ((sp v5.toNatClampNeg) * (a1 - (si v5.toNatClampNeg))) 10   r7 hcr7) (va_cwS 2 hts gX6_leftAt_J9_floorDiv_7cf53 rfl rfl rfl (by decide +kernel) ⟨Nat.le_of_ble_eq_true rfl, Nat.le_of_ble_eq_true rfl⟩) (cPc_ps hPc hK hDc) rfl rfl hl.1 rfl (lv_room (Nat.le_of_ble_eq_true rfl)) dX6_leftAt_56 ⟨Nat.le_of_ble_eq_true rfl, Nat.le_of_ble_eq_true rfl⟩) hS (fun q _ h => hFc q h) hFc (fun xq u t H1 locs ht hvm hw hB hz1 hk1 hS => ?_)
            rw [hw]
            obtain ⟨hP1, hD1⟩ := hB
            rw [ht] at hP1
            obtain ⟨hP, hD⟩ := va_join (wr := [(th, .inr (6, [.int mn, .ref th1, .ref th2, .ref th3, .ref th4, .ref th5, .ref th6, .ref th7, .ref th8, .ref th9])), (th1, .inl (cI, 8, .inl ln)), (th2, .inl (cI, 8, .inl hi)), (th3, .inl (cI, 8, .inl wi)), (th4, .inl (cI, 8, .inl br)), (th5, .inl (cI, 8, .inl sp)), (th6, .inl (cI, 8, .inl si)), (th7, .inl (cI, 8, .inl le)), (th8, .inl (cI, 8, .inl un)), (th9, .inl (cI, 8, .inl ul))]) (w1 := []) hP hD [] [0, 1, 2, 3, 4, 5, 6, 7, 8, 9] rfl rfl (by decide) (by decide) hk1 hFc hP1 hD1
            generalize H1 = H at hP hS ⊢
            have hP : va_P D vwCl (ws_things cI cC cZ cR th th1 th2 th3 th4 th5 th6 th7 th8 th9 mn ln hi wi br sp si le un ul) H := hP
            have hD : va_D A (ws_things cI cC cZ cR th th1 th2 th3 th4 th5 th6 th7 th8 th9 mn ln hi wi br sp si le un ul) := hD
            refine lv_iadd hx hb dX6_leftAt_59 ?_
            refine lv_aload_n hx hb dX6_leftAt_60 rfl (lv_at hl 0 rfl) ?_
            refine va_get (D := D) (ci := 6) (v := .ref th9) (C := RX6) (T := TX6) (N := 10) hx hb hts uX6_leftAt_X6 hown hK.1 hP 0 rfl rfl 9 (by decide) (hts _ kX6_leftAt_5) (fun _ h9 => h9) rfl dX6_leftAt_61 ?_
            refine lv_iload hx hb dX6_leftAt_64 (lv_at hl 4 rfl) ?_
            obtain ⟨hin, h⟩ := gd_sp h
            refine va_iald (D := D) hx hb hK.1 hP 9 0 rfl rfl hin dX6_leftAt_66 ?_
            refine lv_isub hx hb dX6_leftAt_67 ?_
            refine lv_iadd hx hb dX6_leftAt_68 ?_
            refine lv_topi (fun x8 ex8 => ?_)
            replace h := bd_s2 h ex8
            refine lv_istore_n (lv' := [(3, .int x8), (0, .ref th), (1, .int a0), (2, .int a1), (4, .int v5), (5, .int v6)]) hx hb dX6_leftAt_69 rfl hl (by decide) rfl (fun ls hl => ?_)
            refine lv_aload_n hx hb dX6_leftAt_70 rfl (lv_at hl 1 rfl) ?_
            refine va_get (D := D) (ci := 6) (v := .ref th8) (C := RX6) (T := TX6) (N := 10) hx hb hts uX6_leftAt_X6 hown hK.1 hP 0 rfl rfl 8 (by decide) (hts _ kX6_leftAt_6) (fun _ h9 => h9) rfl dX6_leftAt_71 ?_
            refine lv_iload hx hb dX6_leftAt_74 (lv_at hl 4 rfl) ?_
            obtain ⟨hin, h⟩ := gd_sp h
            refine va_iald (D := D) hx hb hK.1 hP 8 0 rfl rfl hin dX6_leftAt_76 ?_
            refine lv_topi (fun x9 ex9 => ?_)
            replace h := bd_s2 h ex9
            refine lv_istore (lv' := [(4, .int x9), (3, .int x8), (0, .ref th), (1, .int a0), (2, .int a1), (5, .int v6)]) hx hb dX6_leftAt_77 hl (by decide) rfl (fun ls hl => ?_)
            obtain ⟨x10, ex10, h⟩ := bd_sp h
            refine lv_iinc (v := x10) (lv' := [(5, .int x10), (4, .int x9), (3, .int x8), (0, .ref th), (1, .int a0), (2, .int a1)]) hx hb dX6_leftAt_79 hl (k := 5) rfl (by rw [ex10]; rfl) (by decide) rfl (fun ls hl => ?_)
            refine lv_goto (tgt := 8) hx hb dX6_leftAt_82 (by decide) ?_
            exact ih _ _ _ _ _ _ h hP hD hS (lv_sub hl [3, 4, 5, 2, 1, 0] rfl)
  refine L8 _ (fun w14 w15 w16 H locs ls h hP hD hS hl => ?_) 4000 0 a0 0 _ _ _ h hP hD hS (lv_sub hl [3, 4, 5, 2, 1, 0] rfl)
  refine lv_iload_n hx hb dX6_leftAt_85 rfl (lv_at hl 3 rfl) ?_
  have e9 := Option.some.inj h
  subst e9
  rw [hQ]
  exact W.iret (v := w14) hx hb hr (fun t ht hW => ⟨⟨w14, (), rfl, rfl, by rw [ht]; exact hP, hD⟩, hS.F ht⟩) hS.2.2 dX6_leftAt_86
-- LeaningLines$Things.speedWithAllUnder
abbrev OUT_X6_speedWithAllUnder : Type := Int32
def f_X6_speedWithAllUnder_L7 (mn : Int32) (sp : Nat → Int32) (un : Nat → Int32) (k : Int32 → Int32 → Int32 → Option OUT_X6_speedWithAllUnder) : Nat → Int32 → Int32 → Int32 → Option OUT_X6_speedWithAllUnder
  | 0 => fun _ _ _ => none
  | n + 1 => fun v4 v5 v6 => (if 8 ≤ v6 then k v4 v5 v6 else (if v5 < 0 then k v4 v5 v6 else (if mn ≤ v5 then k v4 v5 v6 else gd v5 8 (bd (v4 + (sp v5.toNatClampNeg)) (fun x7 => gd v5 8 (bd (un v5.toNatClampNeg) (fun x8 => bd (v6 + 1) (fun x9 => f_X6_speedWithAllUnder_L7 mn sp un k n x7 x8 x9))))))))
theorem f_X6_speedWithAllUnder_L7_s (mn : Int32) (sp : Nat → Int32) (un : Nat → Int32) (k : Int32 → Int32 → Int32 → Option OUT_X6_speedWithAllUnder) (n : Nat) (v4 : Int32) (v5 : Int32) (v6 : Int32) : f_X6_speedWithAllUnder_L7 mn sp un k (n + 1) v4 v5 v6 = ((if 8 ≤ v6 then k v4 v5 v6 else (if v5 < 0 then k v4 v5 v6 else (if mn ≤ v5 then k v4 v5 v6 else gd v5 8 (bd (v4 + (sp v5.toNatClampNeg)) (fun x7 => gd v5 8 (bd (un v5.toNatClampNeg) (fun x8 => bd (v6 + 1) (fun x9 => f_X6_speedWithAllUnder_L7 mn sp un k n x7 x8 x9))))))))) := rfl
def f_X6_speedWithAllUnder (mn : Int32) (sp : Nat → Int32) (un : Nat → Int32) (a0 : Int32) : Option OUT_X6_speedWithAllUnder :=
  f_X6_speedWithAllUnder_L7 mn sp un (fun (w13 : Int32) (w14 : Int32) (w15 : Int32) => some (w13)) 4000 0 a0 0
theorem uX6_speedWithAllUnder_X6 : ∀ w ∈ wsX60, w ∈ wsX6_speedWithAllUnder := by decide +kernel
theorem kX6_speedWithAllUnder_1 : Cond.fieldLink RX6 39 "LeaningLines$Things" "many" "I" ∈ wsX6_speedWithAllUnder := by decide +kernel
theorem kX6_speedWithAllUnder_2 : Cond.fieldLink RX6 24 "LeaningLines$Things" "speed" "[I" ∈ wsX6_speedWithAllUnder := by decide +kernel
theorem kX6_speedWithAllUnder_3 : Cond.fieldLink RX6 33 "LeaningLines$Things" "under" "[I" ∈ wsX6_speedWithAllUnder := by decide +kernel
abbrev R_X6_speedWithAllUnder : Room := { frames := 0, cells := 0, slots := 0, locals := 0 }
set_option maxHeartbeats 4000000 in
set_option maxRecDepth 100000 in
theorem m_X6_speedWithAllUnder (l : Launch) (D : va_G) (cI cC cZ cR : ClassId) (th th1 th2 th3 th4 th5 th6 th7 th8 th9 : Nat) (sz : Nat) (mn : Int32) (ln : Nat → Int32) (hi : Nat → Int32) (wi : Nat → Int32) (br : Nat → Int32) (sp : Nat → Int32) (si : Nat → Int32) (le : Nat → Int32) (un : Nat → Int32) (ul : Nat → Int32)  (a0 : Int32)   (r : OUT_X6_speedWithAllUnder) (hf : f_X6_speedWithAllUnder mn sp un a0 = some r) : Met l yX6_speedWithAllUnder wsX6_speedWithAllUnder R_X6_speedWithAllUnder (cPc D cI cC cZ cR [.ref th, .int a0] sz (ws_things cI cC cZ cR th th1 th2 th3 th4 th5 th6 th7 th8 th9 mn ln hi wi br sp si le un ul)) (cQi D (ws_things cI cC cZ cR th th1 th2 th3 th4 th5 th6 th7 th8 th9 mn ln hi wi br sp si le un ul) (va_A (ws_things cI cC cZ cR th th1 th2 th3 th4 th5 th6 th7 th8 th9 mn ln hi wi br sp si le un ul) sz) r) 0 0 (va_A (ws_things cI cC cZ cR th th1 th2 th3 th4 th5 th6 th7 th8 th9 mn ln hi wi br sp si le un ul) sz) := by
  refine Met.ofW (cc := cX6_speedWithAllUnder) (maxL := 5) (ret := (some .int)) (by decide) rfl ?_
  intro p e s m args below meth c s₁ B hml hv
  obtain ⟨rfl, hsz, hP, hK, hD0⟩ := hv
  have hx := B.exec
  have hb := B.bytes
  have hr := B.returns
  have hts := atoms_spec (ws := wsX6_speedWithAllUnder) B.pre
  have hown : s.vm.findClass RX6 = some m.cls := findClass_of_methodNamed B.named
  have hlocks := B.notSynchronized
  subst hsz
  have hD := hD0.self (sz := s.heap.size)
  generalize hAe : va_A (ws_things cI cC cZ cR th th1 th2 th3 th4 th5 th6 th7 th8 th9 mn ln hi wi br sp si le un ul) s.heap.size = A at hD ⊢
  skip
  have hA : ∀ q : Nat, s.heap.size ≤ q → A q := fun q h => by rw [← hAe]; exact Or.inr h
  have hS : va_S A s.heap s.heap [] := va_S.rf
  have hl := lv_entry ([.ref th, .int a0]) (n := 5) (Nat.le_of_ble_eq_true rfl)
  rw [lg_entry_eq]
  generalize (lg_sl ([.ref th, .int a0]) ++ List.replicate (5 - (lg_sl ([.ref th, .int a0])).length) Slot.unset).toArray = ls at hl ⊢
  have hl : lv_has ls 5 [(0, .ref th), (1, .int a0)] := hl
  refine W_absQ (fun Q hQ => ?_)
  refine W.eq (g2 := F0 m 0 ls []) rfl ?_
  have h := hf
  unfold f_X6_speedWithAllUnder at h
  refine lv_iconst (v := 0) hx hb dX6_speedWithAllUnder_0 (by decide) ?_
  refine lv_istore_n (lv' := [(2, .int 0), (0, .ref th), (1, .int a0)]) hx hb dX6_speedWithAllUnder_1 rfl hl (by decide) rfl (fun ls hl => ?_)
  refine lv_iload_n hx hb dX6_speedWithAllUnder_2 rfl (lv_at hl 2 rfl) ?_
  refine lv_istore_n (lv' := [(3, .int a0), (2, .int 0), (0, .ref th), (1, .int a0)]) hx hb dX6_speedWithAllUnder_3 rfl hl (by decide) rfl (fun ls hl => ?_)
  refine lv_iconst (v := 0) hx hb dX6_speedWithAllUnder_4 (by decide) ?_
  refine lv_istore (lv' := [(4, .int 0), (3, .int a0), (2, .int 0), (0, .ref th), (1, .int a0)]) hx hb dX6_speedWithAllUnder_5 hl (by decide) rfl (fun ls hl => ?_)
  have L7 : ∀ (k : Int32 → Int32 → Int32 → Option OUT_X6_speedWithAllUnder), (∀ (w13 : Int32) (w14 : Int32) (w15 : Int32) (H : Heap) (locs : List Loc) (ls : Array Slot), k w13 w14 w15 = some r → va_P D vwCl (ws_things cI cC cZ cR th th1 th2 th3 th4 th5 th6 th7 th8 th9 mn ln hi wi br sp si le un ul) H → va_D A (ws_things cI cC cZ cR th th1 th2 th3 th4 th5 th6 th7 th8 th9 mn ln hi wi br sp si le un ul) → va_S A s.heap H locs → lv_has ls 5 [(0, .ref th), (1, .int a0), (2, .int w13), (3, .int w14), (4, .int w15)] → W p l e R_X6_speedWithAllUnder s m ([.ref th, .int a0] : List Value).toArray below meth c H locs 0 0 Q (F0 m 48 ls [])) → ∀ (n : Nat) (v4 : Int32) (v5 : Int32) (v6 : Int32) (H : Heap) (locs : List Loc) (ls : Array Slot), f_X6_speedWithAllUnder_L7 mn sp un k n v4 v5 v6 = some r → va_P D vwCl (ws_things cI cC cZ cR th th1 th2 th3 th4 th5 th6 th7 th8 th9 mn ln hi wi br sp si le un ul) H → va_D A (ws_things cI cC cZ cR th th1 th2 th3 th4 th5 th6 th7 th8 th9 mn ln hi wi br sp si le un ul) → va_S A s.heap H locs → lv_has ls 5 [(0, .ref th), (1, .int a0), (2, .int v4), (3, .int v5), (4, .int v6)] → W p l e R_X6_speedWithAllUnder s m ([.ref th, .int a0] : List Value).toArray below meth c H locs 0 0 Q (F0 m 7 ls []) := by
    intro k K n
    induction n with
    | zero => intro v4 v5 v6 H locs ls h; exact no_sm h
    | succ n ih =>
      intro v4 v5 v6 H locs ls h hP hD hS hl
      rw [f_X6_speedWithAllUnder_L7_s] at h
      refine lv_iload hx hb dX6_speedWithAllUnder_7 (lv_at hl 4 rfl) ?_
      refine lv_bipush (v := 8) hx hb dX6_speedWithAllUnder_9 (by decide) ?_
      refine lv_icmp_ge (tgt := 48) hx hb dX6_speedWithAllUnder_11 (by decide) (fun c12 => ?_) (fun c12 => ?_)
      · replace h := br_p c12 h
        exact K _ _ _ _ _ _ h hP hD hS (lv_sub hl [0, 1, 2, 3, 4] rfl)
      · replace h := br_n c12 h
        refine lv_iload_n hx hb dX6_speedWithAllUnder_14 rfl (lv_at hl 3 rfl) ?_
        refine lv_if_lt (tgt := 48) hx hb dX6_speedWithAllUnder_15 (by decide) (fun c11 => ?_) (fun c11 => ?_)
        · replace h := br_p c11 h
          exact K _ _ _ _ _ _ h hP hD hS (lv_sub hl [0, 1, 2, 3, 4] rfl)
        · replace h := br_n c11 h
          refine lv_iload_n hx hb dX6_speedWithAllUnder_18 rfl (lv_at hl 3 rfl) ?_
          refine lv_aload_n hx hb dX6_speedWithAllUnder_19 rfl (lv_at hl 0 rfl) ?_
          refine va_get (D := D) (ci := 6) (v := .int mn) (C := RX6) (T := TX6) (N := 10) hx hb hts uX6_speedWithAllUnder_X6 hown hK.1 hP 0 rfl rfl 0 (by decide) (hts _ kX6_speedWithAllUnder_1) (fun _ h9 => h9) rfl dX6_speedWithAllUnder_20 ?_
          refine lv_icmp_ge (tgt := 48) hx hb dX6_speedWithAllUnder_23 (by decide) (fun c10 => ?_) (fun c10 => ?_)
          · replace h := br_p c10 h
            exact K _ _ _ _ _ _ h hP hD hS (lv_sub hl [0, 1, 2, 3, 4] rfl)
          · replace h := br_n c10 h
            refine lv_iload_n hx hb dX6_speedWithAllUnder_26 rfl (lv_at hl 2 rfl) ?_
            refine lv_aload_n hx hb dX6_speedWithAllUnder_27 rfl (lv_at hl 0 rfl) ?_
            refine va_get (D := D) (ci := 6) (v := .ref th5) (C := RX6) (T := TX6) (N := 10) hx hb hts uX6_speedWithAllUnder_X6 hown hK.1 hP 0 rfl rfl 5 (by decide) (hts _ kX6_speedWithAllUnder_2) (fun _ h9 => h9) rfl dX6_speedWithAllUnder_28 ?_
            refine lv_iload_n hx hb dX6_speedWithAllUnder_31 rfl (lv_at hl 3 rfl) ?_
            obtain ⟨hin, h⟩ := gd_sp h
            refine va_iald (D := D) hx hb hK.1 hP 5 0 rfl rfl hin dX6_speedWithAllUnder_32 ?_
            refine lv_iadd hx hb dX6_speedWithAllUnder_33 ?_
            refine lv_topi (fun x7 ex7 => ?_)
            replace h := bd_s2 h ex7
            refine lv_istore_n (lv' := [(2, .int x7), (0, .ref th), (1, .int a0), (3, .int v5), (4, .int v6)]) hx hb dX6_speedWithAllUnder_34 rfl hl (by decide) rfl (fun ls hl => ?_)
            refine lv_aload_n hx hb dX6_speedWithAllUnder_35 rfl (lv_at hl 1 rfl) ?_
            refine va_get (D := D) (ci := 6) (v := .ref th8) (C := RX6) (T := TX6) (N := 10) hx hb hts uX6_speedWithAllUnder_X6 hown hK.1 hP 0 rfl rfl 8 (by decide) (hts _ kX6_speedWithAllUnder_3) (fun _ h9 => h9) rfl dX6_speedWithAllUnder_36 ?_
            refine lv_iload_n hx hb dX6_speedWithAllUnder_39 rfl (lv_at hl 3 rfl) ?_
            obtain ⟨hin, h⟩ := gd_sp h
            refine va_iald (D := D) hx hb hK.1 hP 8 0 rfl rfl hin dX6_speedWithAllUnder_40 ?_
            refine lv_topi (fun x8 ex8 => ?_)
            replace h := bd_s2 h ex8
            refine lv_istore_n (lv' := [(3, .int x8), (2, .int x7), (0, .ref th), (1, .int a0), (4, .int v6)]) hx hb dX6_speedWithAllUnder_41 rfl hl (by decide) rfl (fun ls hl => ?_)
            obtain ⟨x9, ex9, h⟩ := bd_sp h
            refine lv_iinc (v := x9) (lv' := [(4, .int x9), (3, .int x8), (2, .int x7), (0, .ref th), (1, .int a0)]) hx hb dX6_speedWithAllUnder_42 hl (k := 4) rfl (by rw [ex9]; rfl) (by decide) rfl (fun ls hl => ?_)
            refine lv_goto (tgt := 7) hx hb dX6_speedWithAllUnder_45 (by decide) ?_
            exact ih _ _ _ _ _ _ h hP hD hS (lv_sub hl [3, 4, 2, 1, 0] rfl)
  refine L7 _ (fun w13 w14 w15 H locs ls h hP hD hS hl => ?_) 4000 0 a0 0 _ _ _ h hP hD hS (lv_sub hl [3, 4, 2, 1, 0] rfl)
  refine lv_iload_n hx hb dX6_speedWithAllUnder_48 rfl (lv_at hl 2 rfl) ?_
  have e9 := Option.some.inj h
  subst e9
  rw [hQ]
  exact W.iret (v := w13) hx hb hr (fun t ht hW => ⟨⟨w13, (), rfl, rfl, by rw [ht]; exact hP, hD⟩, hS.F ht⟩) hS.2.2 dX6_speedWithAllUnder_49
-- LeaningLines$Things.isInLine
abbrev OUT_X6_isInLine : Type := Int32
def f_X6_isInLine (ln : Nat → Int32) (hi : Nat → Int32) (a0 : Int32) (a1 : Int32) : Option OUT_X6_isInLine :=
  gd a0 8 (gd a0 8 (gd a0 8 (bn (f_X7_within a1 (ln a0.toNatClampNeg) (((ln a0.toNatClampNeg) + (hi a0.toNatClampNeg)) - 1)) (fun r1 => gb r1 (some (r1))))))
theorem uX6_isInLine_X6 : ∀ w ∈ wsX60, w ∈ wsX6_isInLine := by decide +kernel
theorem kX6_isInLine_1 : Cond.fieldLink RX6 9 "LeaningLines$Things" "line" "[I" ∈ wsX6_isInLine := by decide +kernel
theorem kX6_isInLine_2 : Cond.fieldLink RX6 15 "LeaningLines$Things" "high" "[I" ∈ wsX6_isInLine := by decide +kernel
theorem kX6_isInLine_3 : Cond.initialized RX7 ∈ wsX6_isInLine := by decide +kernel
theorem kX6_isInLine_4 : Cond.static yX7_within ∈ wsX6_isInLine := by decide +kernel
abbrev R_X6_isInLine : Room := { frames := 1, cells := 0, slots := 0, locals := 22 }
set_option maxHeartbeats 4000000 in
set_option maxRecDepth 100000 in
theorem m_X6_isInLine (l : Launch) (D : va_G) (cI cC cZ cR : ClassId) (th th1 th2 th3 th4 th5 th6 th7 th8 th9 : Nat) (sz : Nat) (mn : Int32) (ln : Nat → Int32) (hi : Nat → Int32) (wi : Nat → Int32) (br : Nat → Int32) (sp : Nat → Int32) (si : Nat → Int32) (le : Nat → Int32) (un : Nat → Int32) (ul : Nat → Int32)  (a0 : Int32) (a1 : Int32)   (r : OUT_X6_isInLine) (hf : f_X6_isInLine ln hi a0 a1 = some r) : Met l yX6_isInLine wsX6_isInLine R_X6_isInLine (cPc D cI cC cZ cR [.ref th, .int a0, .int a1] sz (ws_things cI cC cZ cR th th1 th2 th3 th4 th5 th6 th7 th8 th9 mn ln hi wi br sp si le un ul)) (cQi D (ws_things cI cC cZ cR th th1 th2 th3 th4 th5 th6 th7 th8 th9 mn ln hi wi br sp si le un ul) (va_A (ws_things cI cC cZ cR th th1 th2 th3 th4 th5 th6 th7 th8 th9 mn ln hi wi br sp si le un ul) sz) r) 0 0 (va_A (ws_things cI cC cZ cR th th1 th2 th3 th4 th5 th6 th7 th8 th9 mn ln hi wi br sp si le un ul) sz) := by
  refine Met.ofW (cc := cX6_isInLine) (maxL := 3) (ret := (some .boolean)) (by decide) rfl ?_
  intro p e s m args below meth c s₁ B hml hv
  obtain ⟨rfl, hsz, hP, hK, hD0⟩ := hv
  have hx := B.exec
  have hb := B.bytes
  have hr := B.returns
  have hts := atoms_spec (ws := wsX6_isInLine) B.pre
  have hown : s.vm.findClass RX6 = some m.cls := findClass_of_methodNamed B.named
  have hlocks := B.notSynchronized
  subst hsz
  have hD := hD0.self (sz := s.heap.size)
  generalize hAe : va_A (ws_things cI cC cZ cR th th1 th2 th3 th4 th5 th6 th7 th8 th9 mn ln hi wi br sp si le un ul) s.heap.size = A at hD ⊢
  skip
  have hA : ∀ q : Nat, s.heap.size ≤ q → A q := fun q h => by rw [← hAe]; exact Or.inr h
  have hS : va_S A s.heap s.heap [] := va_S.rf
  have hl := lv_entry ([.ref th, .int a0, .int a1]) (n := 3) (Nat.le_of_ble_eq_true rfl)
  rw [lg_entry_eq]
  generalize (lg_sl ([.ref th, .int a0, .int a1]) ++ List.replicate (3 - (lg_sl ([.ref th, .int a0, .int a1])).length) Slot.unset).toArray = ls at hl ⊢
  have hl : lv_has ls 3 [(0, .ref th), (1, .int a0), (2, .int a1)] := hl
  refine W_absQ (fun Q hQ => ?_)
  refine W.eq (g2 := F0 m 0 ls []) rfl ?_
  have h := hf
  unfold f_X6_isInLine at h
  refine lv_iload_n hx hb dX6_isInLine_0 rfl (lv_at hl 2 rfl) ?_
  refine lv_aload_n hx hb dX6_isInLine_1 rfl (lv_at hl 0 rfl) ?_
  refine va_get (D := D) (ci := 6) (v := .ref th1) (C := RX6) (T := TX6) (N := 10) hx hb hts uX6_isInLine_X6 hown hK.1 hP 0 rfl rfl 1 (by decide) (hts _ kX6_isInLine_1) (fun _ h9 => h9) rfl dX6_isInLine_2 ?_
  refine lv_iload_n hx hb dX6_isInLine_5 rfl (lv_at hl 1 rfl) ?_
  obtain ⟨hin, h⟩ := gd_sp h
  refine va_iald (D := D) hx hb hK.1 hP 1 0 rfl rfl hin dX6_isInLine_6 ?_
  refine lv_aload_n hx hb dX6_isInLine_7 rfl (lv_at hl 0 rfl) ?_
  refine va_get (D := D) (ci := 6) (v := .ref th1) (C := RX6) (T := TX6) (N := 10) hx hb hts uX6_isInLine_X6 hown hK.1 hP 0 rfl rfl 1 (by decide) (hts _ kX6_isInLine_1) (fun _ h9 => h9) rfl dX6_isInLine_8 ?_
  refine lv_iload_n hx hb dX6_isInLine_11 rfl (lv_at hl 1 rfl) ?_
  obtain ⟨hin, h⟩ := gd_sp h
  refine va_iald (D := D) hx hb hK.1 hP 1 0 rfl rfl hin dX6_isInLine_12 ?_
  refine lv_aload_n hx hb dX6_isInLine_13 rfl (lv_at hl 0 rfl) ?_
  refine va_get (D := D) (ci := 6) (v := .ref th2) (C := RX6) (T := TX6) (N := 10) hx hb hts uX6_isInLine_X6 hown hK.1 hP 0 rfl rfl 2 (by decide) (hts _ kX6_isInLine_2) (fun _ h9 => h9) rfl dX6_isInLine_14 ?_
  refine lv_iload_n hx hb dX6_isInLine_17 rfl (lv_at hl 1 rfl) ?_
  obtain ⟨hin, h⟩ := gd_sp h
  refine va_iald (D := D) hx hb hK.1 hP 2 0 rfl rfl hin dX6_isInLine_18 ?_
  refine lv_iadd hx hb dX6_isInLine_19 ?_
  refine lv_iconst (v := 1) hx hb dX6_isInLine_20 (by decide) ?_
  refine lv_isub hx hb dX6_isInLine_21 ?_
  obtain ⟨r1, hcr1, h⟩ := bn_sp h
  have hPc := hP.sub (ws' := []) [] rfl
  have hDc := hD.sub (ws' := []) [] (by decide) rfl
  have hFc := va_free (wc := []) hD hS hA [] rfl
  refine va_calli (va_runSN (As := [.int a1, .int (ln a0.toNatClampNeg), .int (((ln a0.toNatClampNeg) + (hi a0.toNatClampNeg)) - 1)]) (rest := []) ⟨hx, hb, hml, hown, hts⟩ (m_X7_within l D cI cC cZ cR  _  a1 (ln a0.toNatClampNeg) (((ln a0.toNatClampNeg) + (hi a0.toNatClampNeg)) - 1)   r1 hcr1) ⟨va_cnB (host := "LeaningLines") 3 hts gX6_isInLine_X7_within_n52 rfl rfl rfl hK.2.2.2.2.2.2.2.2.2.1 (hts _ kX6_isInLine_3) (by decide +kernel) ⟨Nat.le_of_ble_eq_true rfl, Nat.le_of_ble_eq_true rfl⟩, hts _ kX6_isInLine_4, trivial⟩ (cPc_ps hPc hK hDc) rfl rfl hl.1 rfl (lv_room (Nat.le_of_ble_eq_true rfl)) dX6_isInLine_22 ⟨Nat.le_of_ble_eq_true rfl, Nat.le_of_ble_eq_true rfl⟩) hS (fun q _ h => hFc q h) hFc (fun xq u t H1 locs ht hvm hw hB hz1 hk1 hS => ?_)
  rw [hw]
  obtain ⟨hP1, hD1⟩ := hB
  rw [ht] at hP1
  obtain ⟨hP, hD⟩ := va_join (wr := [(th, .inr (6, [.int mn, .ref th1, .ref th2, .ref th3, .ref th4, .ref th5, .ref th6, .ref th7, .ref th8, .ref th9])), (th1, .inl (cI, 8, .inl ln)), (th2, .inl (cI, 8, .inl hi)), (th3, .inl (cI, 8, .inl wi)), (th4, .inl (cI, 8, .inl br)), (th5, .inl (cI, 8, .inl sp)), (th6, .inl (cI, 8, .inl si)), (th7, .inl (cI, 8, .inl le)), (th8, .inl (cI, 8, .inl un)), (th9, .inl (cI, 8, .inl ul))]) (w1 := []) hP hD [] [0, 1, 2, 3, 4, 5, 6, 7, 8, 9] rfl rfl (by decide) (by decide) hk1 hFc hP1 hD1
  generalize H1 = H at hP hS ⊢
  have hP : va_P D vwCl (ws_things cI cC cZ cR th th1 th2 th3 th4 th5 th6 th7 th8 th9 mn ln hi wi br sp si le un ul) H := hP
  have hD : va_D A (ws_things cI cC cZ cR th th1 th2 th3 th4 th5 th6 th7 th8 th9 mn ln hi wi br sp si le un ul) := hD
  obtain ⟨hnr, h⟩ := gb_sp h
  have e9 := Option.some.inj h
  subst e9
  rw [hQ]
  exact W.zret (v := r1) hx hb hr (nar_b hnr) (fun t ht hW => ⟨⟨r1, (), rfl, rfl, by rw [ht]; exact hP, hD⟩, hS.F ht⟩) hS.2.2 dX6_isInLine_25
-- LeaningLines$Things.add
abbrev OUT_X6_add : Type := Int32 × Int32 × (Nat → Int32) × (Nat → Int32) × (Nat → Int32) × (Nat → Int32) × (Nat → Int32) × (Nat → Int32) × (Nat → Int32) × (Nat → Int32) × (Nat → Int32)
def f_X6_add (mn : Int32) (ln : Nat → Int32) (hi : Nat → Int32) (wi : Nat → Int32) (br : Nat → Int32) (sp : Nat → Int32) (si : Nat → Int32) (le : Nat → Int32) (un : Nat → Int32) (ul : Nat → Int32) (a0 : Int32) (a1 : Int32) (a2 : Int32) (a3 : Int32) (a4 : Int32) (a5 : Int32) : Option OUT_X6_add :=
  gd mn 8 (gd mn 8 (gd mn 8 (gd mn 8 (gd mn 8 (gd mn 8 (gd mn 8 (gd mn 8 (gd mn 8 (some ((mn, mn + 1, upd ln mn.toNatClampNeg a0, upd hi mn.toNatClampNeg a2, upd wi mn.toNatClampNeg a3, upd br mn.toNatClampNeg a4, upd sp mn.toNatClampNeg 0, upd si mn.toNatClampNeg a5, upd le mn.toNatClampNeg a1, upd un mn.toNatClampNeg (-6), upd ul mn.toNatClampNeg 0)))))))))))
theorem uX6_add_X6 : ∀ w ∈ wsX60, w ∈ wsX6_add := by decide +kernel
theorem kX6_add_1 : Cond.fieldLink RX6 39 "LeaningLines$Things" "many" "I" ∈ wsX6_add := by decide +kernel
theorem kX6_add_2 : Cond.fieldLink RX6 9 "LeaningLines$Things" "line" "[I" ∈ wsX6_add := by decide +kernel
theorem kX6_add_3 : Cond.fieldLink RX6 15 "LeaningLines$Things" "high" "[I" ∈ wsX6_add := by decide +kernel
theorem kX6_add_4 : Cond.fieldLink RX6 18 "LeaningLines$Things" "wide" "[I" ∈ wsX6_add := by decide +kernel
theorem kX6_add_5 : Cond.fieldLink RX6 21 "LeaningLines$Things" "brightness" "[I" ∈ wsX6_add := by decide +kernel
theorem kX6_add_6 : Cond.fieldLink RX6 24 "LeaningLines$Things" "speed" "[I" ∈ wsX6_add := by decide +kernel
theorem kX6_add_7 : Cond.fieldLink RX6 27 "LeaningLines$Things" "since" "[I" ∈ wsX6_add := by decide +kernel
theorem kX6_add_8 : Cond.fieldLink RX6 30 "LeaningLines$Things" "left" "[I" ∈ wsX6_add := by decide +kernel
theorem kX6_add_9 : Cond.fieldLink RX6 33 "LeaningLines$Things" "under" "[I" ∈ wsX6_add := by decide +kernel
theorem kX6_add_10 : Cond.fieldLink RX6 36 "LeaningLines$Things" "underLeft" "[I" ∈ wsX6_add := by decide +kernel
abbrev R_X6_add : Room := { frames := 0, cells := 0, slots := 0, locals := 0 }
set_option maxHeartbeats 4000000 in
set_option maxRecDepth 100000 in
theorem m_X6_add (l : Launch) (D : va_G) (cI cC cZ cR : ClassId) (th th1 th2 th3 th4 th5 th6 th7 th8 th9 : Nat) (sz : Nat) (mn : Int32) (ln : Nat → Int32) (hi : Nat → Int32) (wi : Nat → Int32) (br : Nat → Int32) (sp : Nat → Int32) (si : Nat → Int32) (le : Nat → Int32) (un : Nat → Int32) (ul : Nat → Int32)  (a0 : Int32) (a1 : Int32) (a2 : Int32) (a3 : Int32) (a4 : Int32) (a5 : Int32)   (r : OUT_X6_add) (hf : f_X6_add mn ln hi wi br sp si le un ul a0 a1 a2 a3 a4 a5 = some r) : Met l yX6_add wsX6_add R_X6_add (cPc D cI cC cZ cR [.ref th, .int a0, .int a1, .int a2, .int a3, .int a4, .int a5] sz (ws_things cI cC cZ cR th th1 th2 th3 th4 th5 th6 th7 th8 th9 mn ln hi wi br sp si le un ul)) (cQi D (ws_things cI cC cZ cR th th1 th2 th3 th4 th5 th6 th7 th8 th9 r.2.1 r.2.2.1 r.2.2.2.1 r.2.2.2.2.1 r.2.2.2.2.2.1 r.2.2.2.2.2.2.1 r.2.2.2.2.2.2.2.1 r.2.2.2.2.2.2.2.2.1 r.2.2.2.2.2.2.2.2.2.1 r.2.2.2.2.2.2.2.2.2.2) (va_A (ws_things cI cC cZ cR th th1 th2 th3 th4 th5 th6 th7 th8 th9 mn ln hi wi br sp si le un ul) sz) r.1) 0 0 (va_A (ws_things cI cC cZ cR th th1 th2 th3 th4 th5 th6 th7 th8 th9 mn ln hi wi br sp si le un ul) sz) := by
  refine Met.ofW (cc := cX6_add) (maxL := 8) (ret := (some .int)) (by decide) rfl ?_
  intro p e s m args below meth c s₁ B hml hv
  obtain ⟨rfl, hsz, hP, hK, hD0⟩ := hv
  have hx := B.exec
  have hb := B.bytes
  have hr := B.returns
  have hts := atoms_spec (ws := wsX6_add) B.pre
  have hown : s.vm.findClass RX6 = some m.cls := findClass_of_methodNamed B.named
  have hlocks := B.notSynchronized
  subst hsz
  have hD := hD0.self (sz := s.heap.size)
  generalize hAe : va_A (ws_things cI cC cZ cR th th1 th2 th3 th4 th5 th6 th7 th8 th9 mn ln hi wi br sp si le un ul) s.heap.size = A at hD ⊢
  skip
  have hA : ∀ q : Nat, s.heap.size ≤ q → A q := fun q h => by rw [← hAe]; exact Or.inr h
  have hS : va_S A s.heap s.heap [] := va_S.rf
  have hl := lv_entry ([.ref th, .int a0, .int a1, .int a2, .int a3, .int a4, .int a5]) (n := 8) (Nat.le_of_ble_eq_true rfl)
  rw [lg_entry_eq]
  generalize (lg_sl ([.ref th, .int a0, .int a1, .int a2, .int a3, .int a4, .int a5]) ++ List.replicate (8 - (lg_sl ([.ref th, .int a0, .int a1, .int a2, .int a3, .int a4, .int a5])).length) Slot.unset).toArray = ls at hl ⊢
  have hl : lv_has ls 8 [(0, .ref th), (1, .int a0), (2, .int a1), (3, .int a2), (4, .int a3), (5, .int a4), (6, .int a5)] := hl
  refine W_absQ (fun Q hQ => ?_)
  refine W.eq (g2 := F0 m 0 ls []) rfl ?_
  have h := hf
  unfold f_X6_add at h
  refine lv_aload_n hx hb dX6_add_0 rfl (lv_at hl 0 rfl) ?_
  refine va_get (D := D) (ci := 6) (v := .int mn) (C := RX6) (T := TX6) (N := 10) hx hb hts uX6_add_X6 hown hK.1 hP 0 rfl rfl 0 (by decide) (hts _ kX6_add_1) (fun _ h9 => h9) rfl dX6_add_1 ?_
  refine lv_istore (lv' := [(7, .int mn), (0, .ref th), (1, .int a0), (2, .int a1), (3, .int a2), (4, .int a3), (5, .int a4), (6, .int a5)]) hx hb dX6_add_4 hl (by decide) rfl (fun ls hl => ?_)
  refine lv_aload_n hx hb dX6_add_6 rfl (lv_at hl 1 rfl) ?_
  refine va_get (D := D) (ci := 6) (v := .ref th1) (C := RX6) (T := TX6) (N := 10) hx hb hts uX6_add_X6 hown hK.1 hP 0 rfl rfl 1 (by decide) (hts _ kX6_add_2) (fun _ h9 => h9) rfl dX6_add_7 ?_
  refine lv_iload hx hb dX6_add_10 (lv_at hl 0 rfl) ?_
  refine lv_iload_n hx hb dX6_add_12 rfl (lv_at hl 2 rfl) ?_
  obtain ⟨hin, h⟩ := gd_sp h
  refine va_iast (D := D) hx hb hK.1 hP hD hS 1 0 rfl rfl hin dX6_add_13 (fun H locs hP hD hS => ?_)
  have hP : va_P D vwCl (ws_things cI cC cZ cR th th1 th2 th3 th4 th5 th6 th7 th8 th9 mn (upd ln mn.toNatClampNeg a0) hi wi br sp si le un ul) H := hP
  have hD : va_D A (ws_things cI cC cZ cR th th1 th2 th3 th4 th5 th6 th7 th8 th9 mn (upd ln mn.toNatClampNeg a0) hi wi br sp si le un ul) := hD
  refine lv_aload_n hx hb dX6_add_14 rfl (lv_at hl 1 rfl) ?_
  refine va_get (D := D) (ci := 6) (v := .ref th2) (C := RX6) (T := TX6) (N := 10) hx hb hts uX6_add_X6 hown hK.1 hP 0 rfl rfl 2 (by decide) (hts _ kX6_add_3) (fun _ h9 => h9) rfl dX6_add_15 ?_
  refine lv_iload hx hb dX6_add_18 (lv_at hl 0 rfl) ?_
  refine lv_iload_n hx hb dX6_add_20 rfl (lv_at hl 4 rfl) ?_
  obtain ⟨hin, h⟩ := gd_sp h
  refine va_iast (D := D) hx hb hK.1 hP hD hS 2 0 rfl rfl hin dX6_add_21 (fun H locs hP hD hS => ?_)
  have hP : va_P D vwCl (ws_things cI cC cZ cR th th1 th2 th3 th4 th5 th6 th7 th8 th9 mn (upd ln mn.toNatClampNeg a0) (upd hi mn.toNatClampNeg a2) wi br sp si le un ul) H := hP
  have hD : va_D A (ws_things cI cC cZ cR th th1 th2 th3 th4 th5 th6 th7 th8 th9 mn (upd ln mn.toNatClampNeg a0) (upd hi mn.toNatClampNeg a2) wi br sp si le un ul) := hD
  refine lv_aload_n hx hb dX6_add_22 rfl (lv_at hl 1 rfl) ?_
  refine va_get (D := D) (ci := 6) (v := .ref th3) (C := RX6) (T := TX6) (N := 10) hx hb hts uX6_add_X6 hown hK.1 hP 0 rfl rfl 3 (by decide) (hts _ kX6_add_4) (fun _ h9 => h9) rfl dX6_add_23 ?_
  refine lv_iload hx hb dX6_add_26 (lv_at hl 0 rfl) ?_
  refine lv_iload hx hb dX6_add_28 (lv_at hl 5 rfl) ?_
  obtain ⟨hin, h⟩ := gd_sp h
  refine va_iast (D := D) hx hb hK.1 hP hD hS 3 0 rfl rfl hin dX6_add_30 (fun H locs hP hD hS => ?_)
  have hP : va_P D vwCl (ws_things cI cC cZ cR th th1 th2 th3 th4 th5 th6 th7 th8 th9 mn (upd ln mn.toNatClampNeg a0) (upd hi mn.toNatClampNeg a2) (upd wi mn.toNatClampNeg a3) br sp si le un ul) H := hP
  have hD : va_D A (ws_things cI cC cZ cR th th1 th2 th3 th4 th5 th6 th7 th8 th9 mn (upd ln mn.toNatClampNeg a0) (upd hi mn.toNatClampNeg a2) (upd wi mn.toNatClampNeg a3) br sp si le un ul) := hD
  refine lv_aload_n hx hb dX6_add_31 rfl (lv_at hl 1 rfl) ?_
  refine va_get (D := D) (ci := 6) (v := .ref th4) (C := RX6) (T := TX6) (N := 10) hx hb hts uX6_add_X6 hown hK.1 hP 0 rfl rfl 4 (by decide) (hts _ kX6_add_5) (fun _ h9 => h9) rfl dX6_add_32 ?_
  refine lv_iload hx hb dX6_add_35 (lv_at hl 0 rfl) ?_
  refine lv_iload hx hb dX6_add_37 (lv_at hl 6 rfl) ?_
  obtain ⟨hin, h⟩ := gd_sp h
  refine va_iast (D := D) hx hb hK.1 hP hD hS 4 0 rfl rfl hin dX6_add_39 (fun H locs hP hD hS => ?_)
  have hP : va_P D vwCl (ws_things cI cC cZ cR th th1 th2 th3 th4 th5 th6 th7 th8 th9 mn (upd ln mn.toNatClampNeg a0) (upd hi mn.toNatClampNeg a2) (upd wi mn.toNatClampNeg a3) (upd br mn.toNatClampNeg a4) sp si le un ul) H := hP
  have hD : va_D A (ws_things cI cC cZ cR th th1 th2 th3 th4 th5 th6 th7 th8 th9 mn (upd ln mn.toNatClampNeg a0) (upd hi mn.toNatClampNeg a2) (upd wi mn.toNatClampNeg a3) (upd br mn.toNatClampNeg a4) sp si le un ul) := hD
  refine lv_aload_n hx hb dX6_add_40 rfl (lv_at hl 1 rfl) ?_
  refine va_get (D := D) (ci := 6) (v := .ref th5) (C := RX6) (T := TX6) (N := 10) hx hb hts uX6_add_X6 hown hK.1 hP 0 rfl rfl 5 (by decide) (hts _ kX6_add_6) (fun _ h9 => h9) rfl dX6_add_41 ?_
  refine lv_iload hx hb dX6_add_44 (lv_at hl 0 rfl) ?_
  refine lv_iconst (v := 0) hx hb dX6_add_46 (by decide) ?_
  obtain ⟨hin, h⟩ := gd_sp h
  refine va_iast (D := D) hx hb hK.1 hP hD hS 5 0 rfl rfl hin dX6_add_47 (fun H locs hP hD hS => ?_)
  have hP : va_P D vwCl (ws_things cI cC cZ cR th th1 th2 th3 th4 th5 th6 th7 th8 th9 mn (upd ln mn.toNatClampNeg a0) (upd hi mn.toNatClampNeg a2) (upd wi mn.toNatClampNeg a3) (upd br mn.toNatClampNeg a4) (upd sp mn.toNatClampNeg 0) si le un ul) H := hP
  have hD : va_D A (ws_things cI cC cZ cR th th1 th2 th3 th4 th5 th6 th7 th8 th9 mn (upd ln mn.toNatClampNeg a0) (upd hi mn.toNatClampNeg a2) (upd wi mn.toNatClampNeg a3) (upd br mn.toNatClampNeg a4) (upd sp mn.toNatClampNeg 0) si le un ul) := hD
  refine lv_aload_n hx hb dX6_add_48 rfl (lv_at hl 1 rfl) ?_
  refine va_get (D := D) (ci := 6) (v := .ref th6) (C := RX6) (T := TX6) (N := 10) hx hb hts uX6_add_X6 hown hK.1 hP 0 rfl rfl 6 (by decide) (hts _ kX6_add_7) (fun _ h9 => h9) rfl dX6_add_49 ?_
  refine lv_iload hx hb dX6_add_52 (lv_at hl 0 rfl) ?_
  refine lv_iload hx hb dX6_add_54 (lv_at hl 7 rfl) ?_
  obtain ⟨hin, h⟩ := gd_sp h
  refine va_iast (D := D) hx hb hK.1 hP hD hS 6 0 rfl rfl hin dX6_add_56 (fun H locs hP hD hS => ?_)
  have hP : va_P D vwCl (ws_things cI cC cZ cR th th1 th2 th3 th4 th5 th6 th7 th8 th9 mn (upd ln mn.toNatClampNeg a0) (upd hi mn.toNatClampNeg a2) (upd wi mn.toNatClampNeg a3) (upd br mn.toNatClampNeg a4) (upd sp mn.toNatClampNeg 0) (upd si mn.toNatClampNeg a5) le un ul) H := hP
  have hD : va_D A (ws_things cI cC cZ cR th th1 th2 th3 th4 th5 th6 th7 th8 th9 mn (upd ln mn.toNatClampNeg a0) (upd hi mn.toNatClampNeg a2) (upd wi mn.toNatClampNeg a3) (upd br mn.toNatClampNeg a4) (upd sp mn.toNatClampNeg 0) (upd si mn.toNatClampNeg a5) le un ul) := hD
  refine lv_aload_n hx hb dX6_add_57 rfl (lv_at hl 1 rfl) ?_
  refine va_get (D := D) (ci := 6) (v := .ref th7) (C := RX6) (T := TX6) (N := 10) hx hb hts uX6_add_X6 hown hK.1 hP 0 rfl rfl 7 (by decide) (hts _ kX6_add_8) (fun _ h9 => h9) rfl dX6_add_58 ?_
  refine lv_iload hx hb dX6_add_61 (lv_at hl 0 rfl) ?_
  refine lv_iload_n hx hb dX6_add_63 rfl (lv_at hl 3 rfl) ?_
  obtain ⟨hin, h⟩ := gd_sp h
  refine va_iast (D := D) hx hb hK.1 hP hD hS 7 0 rfl rfl hin dX6_add_64 (fun H locs hP hD hS => ?_)
  have hP : va_P D vwCl (ws_things cI cC cZ cR th th1 th2 th3 th4 th5 th6 th7 th8 th9 mn (upd ln mn.toNatClampNeg a0) (upd hi mn.toNatClampNeg a2) (upd wi mn.toNatClampNeg a3) (upd br mn.toNatClampNeg a4) (upd sp mn.toNatClampNeg 0) (upd si mn.toNatClampNeg a5) (upd le mn.toNatClampNeg a1) un ul) H := hP
  have hD : va_D A (ws_things cI cC cZ cR th th1 th2 th3 th4 th5 th6 th7 th8 th9 mn (upd ln mn.toNatClampNeg a0) (upd hi mn.toNatClampNeg a2) (upd wi mn.toNatClampNeg a3) (upd br mn.toNatClampNeg a4) (upd sp mn.toNatClampNeg 0) (upd si mn.toNatClampNeg a5) (upd le mn.toNatClampNeg a1) un ul) := hD
  refine lv_aload_n hx hb dX6_add_65 rfl (lv_at hl 1 rfl) ?_
  refine va_get (D := D) (ci := 6) (v := .ref th8) (C := RX6) (T := TX6) (N := 10) hx hb hts uX6_add_X6 hown hK.1 hP 0 rfl rfl 8 (by decide) (hts _ kX6_add_9) (fun _ h9 => h9) rfl dX6_add_66 ?_
  refine lv_iload hx hb dX6_add_69 (lv_at hl 0 rfl) ?_
  refine lv_bipush (v := (-6)) hx hb dX6_add_71 (by decide) ?_
  obtain ⟨hin, h⟩ := gd_sp h
  refine va_iast (D := D) hx hb hK.1 hP hD hS 8 0 rfl rfl hin dX6_add_73 (fun H locs hP hD hS => ?_)
  have hP : va_P D vwCl (ws_things cI cC cZ cR th th1 th2 th3 th4 th5 th6 th7 th8 th9 mn (upd ln mn.toNatClampNeg a0) (upd hi mn.toNatClampNeg a2) (upd wi mn.toNatClampNeg a3) (upd br mn.toNatClampNeg a4) (upd sp mn.toNatClampNeg 0) (upd si mn.toNatClampNeg a5) (upd le mn.toNatClampNeg a1) (upd un mn.toNatClampNeg (-6)) ul) H := hP
  have hD : va_D A (ws_things cI cC cZ cR th th1 th2 th3 th4 th5 th6 th7 th8 th9 mn (upd ln mn.toNatClampNeg a0) (upd hi mn.toNatClampNeg a2) (upd wi mn.toNatClampNeg a3) (upd br mn.toNatClampNeg a4) (upd sp mn.toNatClampNeg 0) (upd si mn.toNatClampNeg a5) (upd le mn.toNatClampNeg a1) (upd un mn.toNatClampNeg (-6)) ul) := hD
  refine lv_aload_n hx hb dX6_add_74 rfl (lv_at hl 1 rfl) ?_
  refine va_get (D := D) (ci := 6) (v := .ref th9) (C := RX6) (T := TX6) (N := 10) hx hb hts uX6_add_X6 hown hK.1 hP 0 rfl rfl 9 (by decide) (hts _ kX6_add_10) (fun _ h9 => h9) rfl dX6_add_75 ?_
  refine lv_iload hx hb dX6_add_78 (lv_at hl 0 rfl) ?_
  refine lv_iconst (v := 0) hx hb dX6_add_80 (by decide) ?_
  obtain ⟨hin, h⟩ := gd_sp h
  refine va_iast (D := D) hx hb hK.1 hP hD hS 9 0 rfl rfl hin dX6_add_81 (fun H locs hP hD hS => ?_)
  have hP : va_P D vwCl (ws_things cI cC cZ cR th th1 th2 th3 th4 th5 th6 th7 th8 th9 mn (upd ln mn.toNatClampNeg a0) (upd hi mn.toNatClampNeg a2) (upd wi mn.toNatClampNeg a3) (upd br mn.toNatClampNeg a4) (upd sp mn.toNatClampNeg 0) (upd si mn.toNatClampNeg a5) (upd le mn.toNatClampNeg a1) (upd un mn.toNatClampNeg (-6)) (upd ul mn.toNatClampNeg 0)) H := hP
  have hD : va_D A (ws_things cI cC cZ cR th th1 th2 th3 th4 th5 th6 th7 th8 th9 mn (upd ln mn.toNatClampNeg a0) (upd hi mn.toNatClampNeg a2) (upd wi mn.toNatClampNeg a3) (upd br mn.toNatClampNeg a4) (upd sp mn.toNatClampNeg 0) (upd si mn.toNatClampNeg a5) (upd le mn.toNatClampNeg a1) (upd un mn.toNatClampNeg (-6)) (upd ul mn.toNatClampNeg 0)) := hD
  refine lv_aload_n hx hb dX6_add_82 rfl (lv_at hl 1 rfl) ?_
  refine lv_dup hx hb dX6_add_83 rfl ?_
  refine va_get (D := D) (ci := 6) (v := .int mn) (C := RX6) (T := TX6) (N := 10) hx hb hts uX6_add_X6 hown hK.1 hP 0 rfl rfl 0 (by decide) (hts _ kX6_add_1) (fun _ h9 => h9) rfl dX6_add_84 ?_
  refine lv_iconst (v := 1) hx hb dX6_add_87 (by decide) ?_
  refine lv_iadd hx hb dX6_add_88 ?_
  refine va_put (D := D) (ci := 6) (v := .int (mn + 1)) (ty := .int) (C := RX6) (T := TX6) (N := 10) hx hb hts uX6_add_X6 tyX6 tyX6_ok nmX6 hown hK.1 hP hD hS 0 rfl rfl 0 (by decide) (hts _ kX6_add_1) (fun _ h9 => h9) rfl (by decide +kernel) rfl rfl (Nat.le_of_ble_eq_true rfl) dX6_add_89 (fun H locs hP hD hS => ?_)
  have hP : va_P D vwCl (ws_things cI cC cZ cR th th1 th2 th3 th4 th5 th6 th7 th8 th9 (mn + 1) (upd ln mn.toNatClampNeg a0) (upd hi mn.toNatClampNeg a2) (upd wi mn.toNatClampNeg a3) (upd br mn.toNatClampNeg a4) (upd sp mn.toNatClampNeg 0) (upd si mn.toNatClampNeg a5) (upd le mn.toNatClampNeg a1) (upd un mn.toNatClampNeg (-6)) (upd ul mn.toNatClampNeg 0)) H := hP
  have hD : va_D A (ws_things cI cC cZ cR th th1 th2 th3 th4 th5 th6 th7 th8 th9 (mn + 1) (upd ln mn.toNatClampNeg a0) (upd hi mn.toNatClampNeg a2) (upd wi mn.toNatClampNeg a3) (upd br mn.toNatClampNeg a4) (upd sp mn.toNatClampNeg 0) (upd si mn.toNatClampNeg a5) (upd le mn.toNatClampNeg a1) (upd un mn.toNatClampNeg (-6)) (upd ul mn.toNatClampNeg 0)) := hD
  refine lv_iload hx hb dX6_add_92 (lv_at hl 0 rfl) ?_
  have e9 := Option.some.inj h
  subst e9
  rw [hQ]
  exact W.iret (v := mn) hx hb hr (fun t ht hW => ⟨⟨mn, (), rfl, rfl, by rw [ht]; exact hP, hD⟩, hS.F ht⟩) hS.2.2 dX6_add_94
-- LeaningLines$Things.comeAnew
abbrev OUT_X6_comeAnew : Type := (Nat → Int32) × (Nat → Int32) × (Nat → Int32) × (Nat → Int32) × (Nat → Int32)
def f_X6_comeAnew (mn : Int32) (sp : Nat → Int32) (si : Nat → Int32) (le : Nat → Int32) (un : Nat → Int32) (ul : Nat → Int32) (a0 : Int32) (a1 : Int32) (a2 : Int32) (a3 : Int32) : Option OUT_X6_comeAnew :=
  bn (f_X6_leftAt mn sp si le un ul a0 a3) (fun r1 => gd a0 8 (gd a0 8 (gd a0 8 (gd a0 8 (bn (f_X6_leftAt mn (upd sp a0.toNatClampNeg a1) (upd si a0.toNatClampNeg a3) (upd le a0.toNatClampNeg r1) (upd un a0.toNatClampNeg a2) ul a2 a3) (fun r2 => gd a0 8 (some (upd sp a0.toNatClampNeg a1, upd si a0.toNatClampNeg a3, upd le a0.toNatClampNeg r1, upd un a0.toNatClampNeg a2, upd ul a0.toNatClampNeg r2))))))))
theorem uX6_comeAnew_X6 : ∀ w ∈ wsX60, w ∈ wsX6_comeAnew := by decide +kernel
theorem kX6_comeAnew_1 : Cond.fieldLink RX6 30 "LeaningLines$Things" "left" "[I" ∈ wsX6_comeAnew := by decide +kernel
theorem kX6_comeAnew_2 : Cond.fieldLink RX6 27 "LeaningLines$Things" "since" "[I" ∈ wsX6_comeAnew := by decide +kernel
theorem kX6_comeAnew_3 : Cond.fieldLink RX6 24 "LeaningLines$Things" "speed" "[I" ∈ wsX6_comeAnew := by decide +kernel
theorem kX6_comeAnew_4 : Cond.fieldLink RX6 33 "LeaningLines$Things" "under" "[I" ∈ wsX6_comeAnew := by decide +kernel
theorem kX6_comeAnew_5 : Cond.fieldLink RX6 36 "LeaningLines$Things" "underLeft" "[I" ∈ wsX6_comeAnew := by decide +kernel
abbrev R_X6_comeAnew : Room := { frames := 2, cells := 0, slots := 0, locals := 47 }
set_option maxHeartbeats 4000000 in
set_option maxRecDepth 100000 in
theorem m_X6_comeAnew (l : Launch) (D : va_G) (cI cC cZ cR : ClassId) (th th1 th2 th3 th4 th5 th6 th7 th8 th9 : Nat) (sz : Nat) (mn : Int32) (ln : Nat → Int32) (hi : Nat → Int32) (wi : Nat → Int32) (br : Nat → Int32) (sp : Nat → Int32) (si : Nat → Int32) (le : Nat → Int32) (un : Nat → Int32) (ul : Nat → Int32)  (a0 : Int32) (a1 : Int32) (a2 : Int32) (a3 : Int32)   (r : OUT_X6_comeAnew) (hf : f_X6_comeAnew mn sp si le un ul a0 a1 a2 a3 = some r) : Met l yX6_comeAnew wsX6_comeAnew R_X6_comeAnew (cPc D cI cC cZ cR [.ref th, .int a0, .int a1, .int a2, .int a3] sz (ws_things cI cC cZ cR th th1 th2 th3 th4 th5 th6 th7 th8 th9 mn ln hi wi br sp si le un ul)) (cQv D (ws_things cI cC cZ cR th th1 th2 th3 th4 th5 th6 th7 th8 th9 mn ln hi wi br r.1 r.2.1 r.2.2.1 r.2.2.2.1 r.2.2.2.2) (va_A (ws_things cI cC cZ cR th th1 th2 th3 th4 th5 th6 th7 th8 th9 mn ln hi wi br sp si le un ul) sz)) 0 0 (va_A (ws_things cI cC cZ cR th th1 th2 th3 th4 th5 th6 th7 th8 th9 mn ln hi wi br sp si le un ul) sz) := by
  refine Met.ofW (cc := cX6_comeAnew) (maxL := 5) (ret := none) (by decide) rfl ?_
  intro p e s m args below meth c s₁ B hml hv
  obtain ⟨rfl, hsz, hP, hK, hD0⟩ := hv
  have hx := B.exec
  have hb := B.bytes
  have hr := B.returns
  have hts := atoms_spec (ws := wsX6_comeAnew) B.pre
  have hown : s.vm.findClass RX6 = some m.cls := findClass_of_methodNamed B.named
  have hlocks := B.notSynchronized
  subst hsz
  have hD := hD0.self (sz := s.heap.size)
  generalize hAe : va_A (ws_things cI cC cZ cR th th1 th2 th3 th4 th5 th6 th7 th8 th9 mn ln hi wi br sp si le un ul) s.heap.size = A at hD ⊢
  skip
  have hA : ∀ q : Nat, s.heap.size ≤ q → A q := fun q h => by rw [← hAe]; exact Or.inr h
  have hS : va_S A s.heap s.heap [] := va_S.rf
  have hl := lv_entry ([.ref th, .int a0, .int a1, .int a2, .int a3]) (n := 5) (Nat.le_of_ble_eq_true rfl)
  rw [lg_entry_eq]
  generalize (lg_sl ([.ref th, .int a0, .int a1, .int a2, .int a3]) ++ List.replicate (5 - (lg_sl ([.ref th, .int a0, .int a1, .int a2, .int a3])).length) Slot.unset).toArray = ls at hl ⊢
  have hl : lv_has ls 5 [(0, .ref th), (1, .int a0), (2, .int a1), (3, .int a2), (4, .int a3)] := hl
  refine W_absQ (fun Q hQ => ?_)
  refine W.eq (g2 := F0 m 0 ls []) rfl ?_
  have h := hf
  unfold f_X6_comeAnew at h
  refine lv_aload_n hx hb dX6_comeAnew_0 rfl (lv_at hl 0 rfl) ?_
  refine va_get (D := D) (ci := 6) (v := .ref th7) (C := RX6) (T := TX6) (N := 10) hx hb hts uX6_comeAnew_X6 hown hK.1 hP 0 rfl rfl 7 (by decide) (hts _ kX6_comeAnew_1) (fun _ h9 => h9) rfl dX6_comeAnew_1 ?_
  refine lv_iload_n hx hb dX6_comeAnew_4 rfl (lv_at hl 1 rfl) ?_
  refine lv_aload_n hx hb dX6_comeAnew_5 rfl (lv_at hl 0 rfl) ?_
  refine lv_iload_n hx hb dX6_comeAnew_6 rfl (lv_at hl 1 rfl) ?_
  refine lv_iload hx hb dX6_comeAnew_7 (lv_at hl 4 rfl) ?_
  obtain ⟨r1, hcr1, h⟩ := bn_sp h
  have hPc := hP.sub (ws' := (ws_things cI cC cZ cR th th1 th2 th3 th4 th5 th6 th7 th8 th9 mn ln hi wi br sp si le un ul)) [0, 1, 2, 3, 4, 5, 6, 7, 8, 9] rfl
  have hDc := hD.sub (ws' := (ws_things cI cC cZ cR th th1 th2 th3 th4 th5 th6 th7 th8 th9 mn ln hi wi br sp si le un ul)) [0, 1, 2, 3, 4, 5, 6, 7, 8, 9] (by decide) rfl
  have hFc := va_free (wc := (ws_things cI cC cZ cR th th1 th2 th3 th4 th5 th6 th7 th8 th9 mn ln hi wi br sp si le un ul)) hD hS hA [0, 1, 2, 3, 4, 5, 6, 7, 8, 9] rfl
  refine va_calli (va_runV (As := [.int a0, .int a3]) (rest := [.int a0, .ref th7]) ⟨hx, hb, hml, hown, hts⟩ (m_X6_leftAt l D cI cC cZ cR th th1 th2 th3 th4 th5 th6 th7 th8 th9 _ mn ln hi wi br sp si le un ul a0 a3   r1 hcr1) (cwV 2 hts gX6_comeAnew_X6_leftAt rfl rfl rfl (by decide +kernel) ⟨Nat.le_of_ble_eq_true rfl, Nat.le_of_ble_eq_true rfl⟩) (cPc_pv hPc hK hDc (ci := 6) (q0 := 0) rfl rfl) rfl rfl hl.1 rfl (lv_room (Nat.le_of_ble_eq_true rfl)) dX6_comeAnew_9 ⟨Nat.le_of_ble_eq_true rfl, Nat.le_of_ble_eq_true rfl⟩) hS (fun q _ h => hFc q h) hFc (fun xq u t H1 locs ht hvm hw hB hz1 hk1 hS => ?_)
  rw [hw]
  obtain ⟨hP1, hD1⟩ := hB
  rw [ht] at hP1
  obtain ⟨hP, hD⟩ := va_join (wr := []) (w1 := (ws_things cI cC cZ cR th th1 th2 th3 th4 th5 th6 th7 th8 th9 mn ln hi wi br sp si le un ul)) hP hD [0, 1, 2, 3, 4, 5, 6, 7, 8, 9] [] rfl rfl (by decide) (by decide) hk1 hFc hP1 hD1
  generalize H1 = H at hP hS ⊢
  have hP : va_P D vwCl (ws_things cI cC cZ cR th th1 th2 th3 th4 th5 th6 th7 th8 th9 mn ln hi wi br sp si le un ul) H := hP
  have hD : va_D A (ws_things cI cC cZ cR th th1 th2 th3 th4 th5 th6 th7 th8 th9 mn ln hi wi br sp si le un ul) := hD
  obtain ⟨hin, h⟩ := gd_sp h
  refine va_iast (D := D) hx hb hK.1 hP hD hS 7 0 rfl rfl hin dX6_comeAnew_12 (fun H locs hP hD hS => ?_)
  have hP : va_P D vwCl (ws_things cI cC cZ cR th th1 th2 th3 th4 th5 th6 th7 th8 th9 mn ln hi wi br sp si (upd le a0.toNatClampNeg r1) un ul) H := hP
  have hD : va_D A (ws_things cI cC cZ cR th th1 th2 th3 th4 th5 th6 th7 th8 th9 mn ln hi wi br sp si (upd le a0.toNatClampNeg r1) un ul) := hD
  refine lv_aload_n hx hb dX6_comeAnew_13 rfl (lv_at hl 0 rfl) ?_
  refine va_get (D := D) (ci := 6) (v := .ref th6) (C := RX6) (T := TX6) (N := 10) hx hb hts uX6_comeAnew_X6 hown hK.1 hP 0 rfl rfl 6 (by decide) (hts _ kX6_comeAnew_2) (fun _ h9 => h9) rfl dX6_comeAnew_14 ?_
  refine lv_iload_n hx hb dX6_comeAnew_17 rfl (lv_at hl 1 rfl) ?_
  refine lv_iload hx hb dX6_comeAnew_18 (lv_at hl 4 rfl) ?_
  obtain ⟨hin, h⟩ := gd_sp h
  refine va_iast (D := D) hx hb hK.1 hP hD hS 6 0 rfl rfl hin dX6_comeAnew_20 (fun H locs hP hD hS => ?_)
  have hP : va_P D vwCl (ws_things cI cC cZ cR th th1 th2 th3 th4 th5 th6 th7 th8 th9 mn ln hi wi br sp (upd si a0.toNatClampNeg a3) (upd le a0.toNatClampNeg r1) un ul) H := hP
  have hD : va_D A (ws_things cI cC cZ cR th th1 th2 th3 th4 th5 th6 th7 th8 th9 mn ln hi wi br sp (upd si a0.toNatClampNeg a3) (upd le a0.toNatClampNeg r1) un ul) := hD
  refine lv_aload_n hx hb dX6_comeAnew_21 rfl (lv_at hl 0 rfl) ?_
  refine va_get (D := D) (ci := 6) (v := .ref th5) (C := RX6) (T := TX6) (N := 10) hx hb hts uX6_comeAnew_X6 hown hK.1 hP 0 rfl rfl 5 (by decide) (hts _ kX6_comeAnew_3) (fun _ h9 => h9) rfl dX6_comeAnew_22 ?_
  refine lv_iload_n hx hb dX6_comeAnew_25 rfl (lv_at hl 1 rfl) ?_
  refine lv_iload_n hx hb dX6_comeAnew_26 rfl (lv_at hl 2 rfl) ?_
  obtain ⟨hin, h⟩ := gd_sp h
  refine va_iast (D := D) hx hb hK.1 hP hD hS 5 0 rfl rfl hin dX6_comeAnew_27 (fun H locs hP hD hS => ?_)
  have hP : va_P D vwCl (ws_things cI cC cZ cR th th1 th2 th3 th4 th5 th6 th7 th8 th9 mn ln hi wi br (upd sp a0.toNatClampNeg a1) (upd si a0.toNatClampNeg a3) (upd le a0.toNatClampNeg r1) un ul) H := hP
  have hD : va_D A (ws_things cI cC cZ cR th th1 th2 th3 th4 th5 th6 th7 th8 th9 mn ln hi wi br (upd sp a0.toNatClampNeg a1) (upd si a0.toNatClampNeg a3) (upd le a0.toNatClampNeg r1) un ul) := hD
  refine lv_aload_n hx hb dX6_comeAnew_28 rfl (lv_at hl 0 rfl) ?_
  refine va_get (D := D) (ci := 6) (v := .ref th8) (C := RX6) (T := TX6) (N := 10) hx hb hts uX6_comeAnew_X6 hown hK.1 hP 0 rfl rfl 8 (by decide) (hts _ kX6_comeAnew_4) (fun _ h9 => h9) rfl dX6_comeAnew_29 ?_
  refine lv_iload_n hx hb dX6_comeAnew_32 rfl (lv_at hl 1 rfl) ?_
  refine lv_iload_n hx hb dX6_comeAnew_33 rfl (lv_at hl 3 rfl) ?_
  obtain ⟨hin, h⟩ := gd_sp h
  refine va_iast (D := D) hx hb hK.1 hP hD hS 8 0 rfl rfl hin dX6_comeAnew_34 (fun H locs hP hD hS => ?_)
  have hP : va_P D vwCl (ws_things cI cC cZ cR th th1 th2 th3 th4 th5 th6 th7 th8 th9 mn ln hi wi br (upd sp a0.toNatClampNeg a1) (upd si a0.toNatClampNeg a3) (upd le a0.toNatClampNeg r1) (upd un a0.toNatClampNeg a2) ul) H := hP
  have hD : va_D A (ws_things cI cC cZ cR th th1 th2 th3 th4 th5 th6 th7 th8 th9 mn ln hi wi br (upd sp a0.toNatClampNeg a1) (upd si a0.toNatClampNeg a3) (upd le a0.toNatClampNeg r1) (upd un a0.toNatClampNeg a2) ul) := hD
  refine lv_aload_n hx hb dX6_comeAnew_35 rfl (lv_at hl 0 rfl) ?_
  refine va_get (D := D) (ci := 6) (v := .ref th9) (C := RX6) (T := TX6) (N := 10) hx hb hts uX6_comeAnew_X6 hown hK.1 hP 0 rfl rfl 9 (by decide) (hts _ kX6_comeAnew_5) (fun _ h9 => h9) rfl dX6_comeAnew_36 ?_
  refine lv_iload_n hx hb dX6_comeAnew_39 rfl (lv_at hl 1 rfl) ?_
  refine lv_aload_n hx hb dX6_comeAnew_40 rfl (lv_at hl 0 rfl) ?_
  refine lv_iload_n hx hb dX6_comeAnew_41 rfl (lv_at hl 3 rfl) ?_
  refine lv_iload hx hb dX6_comeAnew_42 (lv_at hl 4 rfl) ?_
  obtain ⟨r2, hcr2, h⟩ := bn_sp h
  have hPc := hP.sub (ws' := (ws_things cI cC cZ cR th th1 th2 th3 th4 th5 th6 th7 th8 th9 mn ln hi wi br (upd sp a0.toNatClampNeg a1) (upd si a0.toNatClampNeg a3) (upd le a0.toNatClampNeg r1) (upd un a0.toNatClampNeg a2) ul)) [0, 1, 2, 3, 4, 5, 6, 7, 8, 9] rfl
  have hDc := hD.sub (ws' := (ws_things cI cC cZ cR th th1 th2 th3 th4 th5 th6 th7 th8 th9 mn ln hi wi br (upd sp a0.toNatClampNeg a1) (upd si a0.toNatClampNeg a3) (upd le a0.toNatClampNeg r1) (upd un a0.toNatClampNeg a2) ul)) [0, 1, 2, 3, 4, 5, 6, 7, 8, 9] (by decide) rfl
  have hFc := va_free (wc := (ws_things cI cC cZ cR th th1 th2 th3 th4 th5 th6 th7 th8 th9 mn ln hi wi br (upd sp a0.toNatClampNeg a1) (upd si a0.toNatClampNeg a3) (upd le a0.toNatClampNeg r1) (upd un a0.toNatClampNeg a2) ul)) hD hS hA [0, 1, 2, 3, 4, 5, 6, 7, 8, 9] rfl
  refine va_calli (va_runV (As := [.int a2, .int a3]) (rest := [.int a0, .ref th9]) ⟨hx, hb, hml, hown, hts⟩ (m_X6_leftAt l D cI cC cZ cR th th1 th2 th3 th4 th5 th6 th7 th8 th9 _ mn ln hi wi br (upd sp a0.toNatClampNeg a1) (upd si a0.toNatClampNeg a3) (upd le a0.toNatClampNeg r1) (upd un a0.toNatClampNeg a2) ul a2 a3   r2 hcr2) (cwV 2 hts gX6_comeAnew_X6_leftAt rfl rfl rfl (by decide +kernel) ⟨Nat.le_of_ble_eq_true rfl, Nat.le_of_ble_eq_true rfl⟩) (cPc_pv hPc hK hDc (ci := 6) (q0 := 0) rfl rfl) rfl rfl hl.1 rfl (lv_room (Nat.le_of_ble_eq_true rfl)) dX6_comeAnew_44 ⟨Nat.le_of_ble_eq_true rfl, Nat.le_of_ble_eq_true rfl⟩) hS (fun q _ h => hFc q h) hFc (fun xq u t H1 locs ht hvm hw hB hz1 hk1 hS => ?_)
  rw [hw]
  obtain ⟨hP1, hD1⟩ := hB
  rw [ht] at hP1
  obtain ⟨hP, hD⟩ := va_join (wr := []) (w1 := (ws_things cI cC cZ cR th th1 th2 th3 th4 th5 th6 th7 th8 th9 mn ln hi wi br (upd sp a0.toNatClampNeg a1) (upd si a0.toNatClampNeg a3) (upd le a0.toNatClampNeg r1) (upd un a0.toNatClampNeg a2) ul)) hP hD [0, 1, 2, 3, 4, 5, 6, 7, 8, 9] [] rfl rfl (by decide) (by decide) hk1 hFc hP1 hD1
  generalize H1 = H at hP hS ⊢
  have hP : va_P D vwCl (ws_things cI cC cZ cR th th1 th2 th3 th4 th5 th6 th7 th8 th9 mn ln hi wi br (upd sp a0.toNatClampNeg a1) (upd si a0.toNatClampNeg a3) (upd le a0.toNatClampNeg r1) (upd un a0.toNatClampNeg a2) ul) H := hP
  have hD : va_D A (ws_things cI cC cZ cR th th1 th2 th3 th4 th5 th6 th7 th8 th9 mn ln hi wi br (upd sp a0.toNatClampNeg a1) (upd si a0.toNatClampNeg a3) (upd le a0.toNatClampNeg r1) (upd un a0.toNatClampNeg a2) ul) := hD
  obtain ⟨hin, h⟩ := gd_sp h
  refine va_iast (D := D) hx hb hK.1 hP hD hS 9 0 rfl rfl hin dX6_comeAnew_47 (fun H locs hP hD hS => ?_)
  have hP : va_P D vwCl (ws_things cI cC cZ cR th th1 th2 th3 th4 th5 th6 th7 th8 th9 mn ln hi wi br (upd sp a0.toNatClampNeg a1) (upd si a0.toNatClampNeg a3) (upd le a0.toNatClampNeg r1) (upd un a0.toNatClampNeg a2) (upd ul a0.toNatClampNeg r2)) H := hP
  have hD : va_D A (ws_things cI cC cZ cR th th1 th2 th3 th4 th5 th6 th7 th8 th9 mn ln hi wi br (upd sp a0.toNatClampNeg a1) (upd si a0.toNatClampNeg a3) (upd le a0.toNatClampNeg r1) (upd un a0.toNatClampNeg a2) (upd ul a0.toNatClampNeg r2)) := hD
  have e9 := Option.some.inj h
  subst e9
  rw [hQ]
  exact W.vret hx hb hr (fun t ht hW => ⟨⟨(), rfl, trivial, by rw [ht]; exact hP, hD⟩, hS.F ht⟩) hS.2.2 dX6_comeAnew_48
-- LeaningLines$Things.copyFrom
abbrev OUT_X6_copyFrom : Type := Int32 × (Nat → Int32) × (Nat → Int32) × (Nat → Int32) × (Nat → Int32) × (Nat → Int32) × (Nat → Int32) × (Nat → Int32) × (Nat → Int32) × (Nat → Int32)
def f_X6_copyFrom (ln : Nat → Int32) (hi : Nat → Int32) (wi : Nat → Int32) (br : Nat → Int32) (sp : Nat → Int32) (si : Nat → Int32) (le : Nat → Int32) (un : Nat → Int32) (ul : Nat → Int32) (omn : Int32) (oln : Nat → Int32) (ohi : Nat → Int32) (owi : Nat → Int32) (obr : Nat → Int32) (osp : Nat → Int32) (osi : Nat → Int32) (ole : Nat → Int32) (oun : Nat → Int32) (oul : Nat → Int32) : Option OUT_X6_copyFrom :=
  some (omn, va_cpy oln ln (0 : Int32).toNatClampNeg (0 : Int32).toNatClampNeg (8 : Int32).toNatClampNeg, va_cpy ohi hi (0 : Int32).toNatClampNeg (0 : Int32).toNatClampNeg (8 : Int32).toNatClampNeg, va_cpy owi wi (0 : Int32).toNatClampNeg (0 : Int32).toNatClampNeg (8 : Int32).toNatClampNeg, va_cpy obr br (0 : Int32).toNatClampNeg (0 : Int32).toNatClampNeg (8 : Int32).toNatClampNeg, va_cpy osp sp (0 : Int32).toNatClampNeg (0 : Int32).toNatClampNeg (8 : Int32).toNatClampNeg, va_cpy osi si (0 : Int32).toNatClampNeg (0 : Int32).toNatClampNeg (8 : Int32).toNatClampNeg, va_cpy ole le (0 : Int32).toNatClampNeg (0 : Int32).toNatClampNeg (8 : Int32).toNatClampNeg, va_cpy oun un (0 : Int32).toNatClampNeg (0 : Int32).toNatClampNeg (8 : Int32).toNatClampNeg, va_cpy oul ul (0 : Int32).toNatClampNeg (0 : Int32).toNatClampNeg (8 : Int32).toNatClampNeg)
theorem uX6_copyFrom_X6 : ∀ w ∈ wsX60, w ∈ wsX6_copyFrom := by decide +kernel
theorem kX6_copyFrom_1 : Cond.fieldLink RX6 39 "LeaningLines$Things" "many" "I" ∈ wsX6_copyFrom := by decide +kernel
theorem kX6_copyFrom_2 : Cond.fieldLink RX6 9 "LeaningLines$Things" "line" "[I" ∈ wsX6_copyFrom := by decide +kernel
theorem kX6_copyFrom_3 : Cond.methodLink RX6 56 arraycopyName ∈ wsX6_copyFrom := by decide +kernel
theorem kX6_copyFrom_4 : Cond.native arraycopyName ∈ wsX6_copyFrom := by decide +kernel
theorem kX6_copyFrom_5 : Cond.static arraycopyName ∈ wsX6_copyFrom := by decide +kernel
theorem kX6_copyFrom_6 : Cond.initialized "java/lang/System" ∈ wsX6_copyFrom := by decide +kernel
theorem kX6_copyFrom_7 : Cond.fieldLink RX6 15 "LeaningLines$Things" "high" "[I" ∈ wsX6_copyFrom := by decide +kernel
theorem kX6_copyFrom_8 : Cond.fieldLink RX6 18 "LeaningLines$Things" "wide" "[I" ∈ wsX6_copyFrom := by decide +kernel
theorem kX6_copyFrom_9 : Cond.fieldLink RX6 21 "LeaningLines$Things" "brightness" "[I" ∈ wsX6_copyFrom := by decide +kernel
theorem kX6_copyFrom_10 : Cond.fieldLink RX6 24 "LeaningLines$Things" "speed" "[I" ∈ wsX6_copyFrom := by decide +kernel
theorem kX6_copyFrom_11 : Cond.fieldLink RX6 27 "LeaningLines$Things" "since" "[I" ∈ wsX6_copyFrom := by decide +kernel
theorem kX6_copyFrom_12 : Cond.fieldLink RX6 30 "LeaningLines$Things" "left" "[I" ∈ wsX6_copyFrom := by decide +kernel
theorem kX6_copyFrom_13 : Cond.fieldLink RX6 33 "LeaningLines$Things" "under" "[I" ∈ wsX6_copyFrom := by decide +kernel
theorem kX6_copyFrom_14 : Cond.fieldLink RX6 36 "LeaningLines$Things" "underLeft" "[I" ∈ wsX6_copyFrom := by decide +kernel
abbrev R_X6_copyFrom : Room := { frames := 1, cells := 0, slots := 0, locals := 40 }
set_option maxHeartbeats 4000000 in
set_option maxRecDepth 100000 in
theorem m_X6_copyFrom (l : Launch) (D : va_G) (cI cC cZ cR : ClassId) (th th1 th2 th3 th4 th5 th6 th7 th8 th9 oth oth1 oth2 oth3 oth4 oth5 oth6 oth7 oth8 oth9 : Nat) (sz : Nat) (mn : Int32) (ln : Nat → Int32) (hi : Nat → Int32) (wi : Nat → Int32) (br : Nat → Int32) (sp : Nat → Int32) (si : Nat → Int32) (le : Nat → Int32) (un : Nat → Int32) (ul : Nat → Int32) (omn : Int32) (oln : Nat → Int32) (ohi : Nat → Int32) (owi : Nat → Int32) (obr : Nat → Int32) (osp : Nat → Int32) (osi : Nat → Int32) (ole : Nat → Int32) (oun : Nat → Int32) (oul : Nat → Int32)     (r : OUT_X6_copyFrom) (hf : f_X6_copyFrom ln hi wi br sp si le un ul omn oln ohi owi obr osp osi ole oun oul = some r) : Met l yX6_copyFrom wsX6_copyFrom R_X6_copyFrom (cPc D cI cC cZ cR [.ref th, .ref oth] sz (ws_things_things cI cC cZ cR th th1 th2 th3 th4 th5 th6 th7 th8 th9 oth oth1 oth2 oth3 oth4 oth5 oth6 oth7 oth8 oth9 mn ln hi wi br sp si le un ul omn oln ohi owi obr osp osi ole oun oul)) (cQv D (ws_things_things cI cC cZ cR th th1 th2 th3 th4 th5 th6 th7 th8 th9 oth oth1 oth2 oth3 oth4 oth5 oth6 oth7 oth8 oth9 r.1 r.2.1 r.2.2.1 r.2.2.2.1 r.2.2.2.2.1 r.2.2.2.2.2.1 r.2.2.2.2.2.2.1 r.2.2.2.2.2.2.2.1 r.2.2.2.2.2.2.2.2.1 r.2.2.2.2.2.2.2.2.2 omn oln ohi owi obr osp osi ole oun oul) (va_A (ws_things_things cI cC cZ cR th th1 th2 th3 th4 th5 th6 th7 th8 th9 oth oth1 oth2 oth3 oth4 oth5 oth6 oth7 oth8 oth9 mn ln hi wi br sp si le un ul omn oln ohi owi obr osp osi ole oun oul) sz)) 0 0 (va_A (ws_things_things cI cC cZ cR th th1 th2 th3 th4 th5 th6 th7 th8 th9 oth oth1 oth2 oth3 oth4 oth5 oth6 oth7 oth8 oth9 mn ln hi wi br sp si le un ul omn oln ohi owi obr osp osi ole oun oul) sz) := by
  refine Met.ofW (cc := cX6_copyFrom) (maxL := 2) (ret := none) (by decide) rfl ?_
  intro p e s m args below meth c s₁ B hml hv
  obtain ⟨rfl, hsz, hP, hK, hD0⟩ := hv
  have hx := B.exec
  have hb := B.bytes
  have hr := B.returns
  have hts := atoms_spec (ws := wsX6_copyFrom) B.pre
  have hown : s.vm.findClass RX6 = some m.cls := findClass_of_methodNamed B.named
  have hlocks := B.notSynchronized
  subst hsz
  have hD := hD0.self (sz := s.heap.size)
  generalize hAe : va_A (ws_things_things cI cC cZ cR th th1 th2 th3 th4 th5 th6 th7 th8 th9 oth oth1 oth2 oth3 oth4 oth5 oth6 oth7 oth8 oth9 mn ln hi wi br sp si le un ul omn oln ohi owi obr osp osi ole oun oul) s.heap.size = A at hD ⊢
  skip
  have hA : ∀ q : Nat, s.heap.size ≤ q → A q := fun q h => by rw [← hAe]; exact Or.inr h
  have hS : va_S A s.heap s.heap [] := va_S.rf
  have hl := lv_entry ([.ref th, .ref oth]) (n := 2) (Nat.le_of_ble_eq_true rfl)
  rw [lg_entry_eq]
  generalize (lg_sl ([.ref th, .ref oth]) ++ List.replicate (2 - (lg_sl ([.ref th, .ref oth])).length) Slot.unset).toArray = ls at hl ⊢
  have hl : lv_has ls 2 [(0, .ref th), (1, .ref oth)] := hl
  refine W_absQ (fun Q hQ => ?_)
  refine W.eq (g2 := F0 m 0 ls []) rfl ?_
  have h := hf
  unfold f_X6_copyFrom at h
  refine lv_aload_n hx hb dX6_copyFrom_0 rfl (lv_at hl 0 rfl) ?_
  refine lv_aload_n hx hb dX6_copyFrom_1 rfl (lv_at hl 1 rfl) ?_
  refine va_get (D := D) (ci := 6) (v := .int omn) (C := RX6) (T := TX6) (N := 10) hx hb hts uX6_copyFrom_X6 hown hK.1 hP 10 rfl rfl 0 (by decide) (hts _ kX6_copyFrom_1) (fun _ h9 => h9) rfl dX6_copyFrom_2 ?_
  refine va_put (D := D) (ci := 6) (v := .int omn) (ty := .int) (C := RX6) (T := TX6) (N := 10) hx hb hts uX6_copyFrom_X6 tyX6 tyX6_ok nmX6 hown hK.1 hP hD hS 0 rfl rfl 0 (by decide) (hts _ kX6_copyFrom_1) (fun _ h9 => h9) rfl (by decide +kernel) rfl rfl (Nat.le_of_ble_eq_true rfl) dX6_copyFrom_5 (fun H locs hP hD hS => ?_)
  have hP : va_P D vwCl (ws_things_things cI cC cZ cR th th1 th2 th3 th4 th5 th6 th7 th8 th9 oth oth1 oth2 oth3 oth4 oth5 oth6 oth7 oth8 oth9 omn ln hi wi br sp si le un ul omn oln ohi owi obr osp osi ole oun oul) H := hP
  have hD : va_D A (ws_things_things cI cC cZ cR th th1 th2 th3 th4 th5 th6 th7 th8 th9 oth oth1 oth2 oth3 oth4 oth5 oth6 oth7 oth8 oth9 omn ln hi wi br sp si le un ul omn oln ohi owi obr osp osi ole oun oul) := hD
  refine lv_aload_n hx hb dX6_copyFrom_8 rfl (lv_at hl 1 rfl) ?_
  refine va_get (D := D) (ci := 6) (v := .ref oth1) (C := RX6) (T := TX6) (N := 10) hx hb hts uX6_copyFrom_X6 hown hK.1 hP 10 rfl rfl 1 (by decide) (hts _ kX6_copyFrom_2) (fun _ h9 => h9) rfl dX6_copyFrom_9 ?_
  refine lv_iconst (v := 0) hx hb dX6_copyFrom_12 (by decide) ?_
  refine lv_aload_n hx hb dX6_copyFrom_13 rfl (lv_at hl 0 rfl) ?_
  refine va_get (D := D) (ci := 6) (v := .ref th1) (C := RX6) (T := TX6) (N := 10) hx hb hts uX6_copyFrom_X6 hown hK.1 hP 0 rfl rfl 1 (by decide) (hts _ kX6_copyFrom_2) (fun _ h9 => h9) rfl dX6_copyFrom_14 ?_
  refine lv_iconst (v := 0) hx hb dX6_copyFrom_17 (by decide) ?_
  refine lv_bipush (v := 8) hx hb dX6_copyFrom_18 (by decide) ?_
  refine va_copyi (D := D) hx hb (by rw [hml]; exact hl.1.symm) hown (hts _ kX6_copyFrom_3) (hts _ kX6_copyFrom_4) (hts _ kX6_copyFrom_5) (hts _ kX6_copyFrom_6) hK.1 hP hD hS 11 1 0 0 rfl rfl rfl rfl rfl (by decide) (by decide) (by decide) (Nat.le_of_ble_eq_true rfl) (Nat.le_of_ble_eq_true rfl) (fun _ _ => rfl) (Nat.le_of_ble_eq_true rfl) (Nat.le_of_ble_eq_true rfl) dX6_copyFrom_20 (fun H locs hP hD hS => ?_)
  have hP : va_P D vwCl (ws_things_things cI cC cZ cR th th1 th2 th3 th4 th5 th6 th7 th8 th9 oth oth1 oth2 oth3 oth4 oth5 oth6 oth7 oth8 oth9 omn (va_cpy oln ln (0 : Int32).toNatClampNeg (0 : Int32).toNatClampNeg (8 : Int32).toNatClampNeg) hi wi br sp si le un ul omn oln ohi owi obr osp osi ole oun oul) H := hP
  have hD : va_D A (ws_things_things cI cC cZ cR th th1 th2 th3 th4 th5 th6 th7 th8 th9 oth oth1 oth2 oth3 oth4 oth5 oth6 oth7 oth8 oth9 omn (va_cpy oln ln (0 : Int32).toNatClampNeg (0 : Int32).toNatClampNeg (8 : Int32).toNatClampNeg) hi wi br sp si le un ul omn oln ohi owi obr osp osi ole oun oul) := hD
  refine lv_aload_n hx hb dX6_copyFrom_23 rfl (lv_at hl 1 rfl) ?_
  refine va_get (D := D) (ci := 6) (v := .ref oth2) (C := RX6) (T := TX6) (N := 10) hx hb hts uX6_copyFrom_X6 hown hK.1 hP 10 rfl rfl 2 (by decide) (hts _ kX6_copyFrom_7) (fun _ h9 => h9) rfl dX6_copyFrom_24 ?_
  refine lv_iconst (v := 0) hx hb dX6_copyFrom_27 (by decide) ?_
  refine lv_aload_n hx hb dX6_copyFrom_28 rfl (lv_at hl 0 rfl) ?_
  refine va_get (D := D) (ci := 6) (v := .ref th2) (C := RX6) (T := TX6) (N := 10) hx hb hts uX6_copyFrom_X6 hown hK.1 hP 0 rfl rfl 2 (by decide) (hts _ kX6_copyFrom_7) (fun _ h9 => h9) rfl dX6_copyFrom_29 ?_
  refine lv_iconst (v := 0) hx hb dX6_copyFrom_32 (by decide) ?_
  refine lv_bipush (v := 8) hx hb dX6_copyFrom_33 (by decide) ?_
  refine va_copyi (D := D) hx hb (by rw [hml]; exact hl.1.symm) hown (hts _ kX6_copyFrom_3) (hts _ kX6_copyFrom_4) (hts _ kX6_copyFrom_5) (hts _ kX6_copyFrom_6) hK.1 hP hD hS 12 2 0 0 rfl rfl rfl rfl rfl (by decide) (by decide) (by decide) (Nat.le_of_ble_eq_true rfl) (Nat.le_of_ble_eq_true rfl) (fun _ _ => rfl) (Nat.le_of_ble_eq_true rfl) (Nat.le_of_ble_eq_true rfl) dX6_copyFrom_35 (fun H locs hP hD hS => ?_)
  have hP : va_P D vwCl (ws_things_things cI cC cZ cR th th1 th2 th3 th4 th5 th6 th7 th8 th9 oth oth1 oth2 oth3 oth4 oth5 oth6 oth7 oth8 oth9 omn (va_cpy oln ln (0 : Int32).toNatClampNeg (0 : Int32).toNatClampNeg (8 : Int32).toNatClampNeg) (va_cpy ohi hi (0 : Int32).toNatClampNeg (0 : Int32).toNatClampNeg (8 : Int32).toNatClampNeg) wi br sp si le un ul omn oln ohi owi obr osp osi ole oun oul) H := hP
  have hD : va_D A (ws_things_things cI cC cZ cR th th1 th2 th3 th4 th5 th6 th7 th8 th9 oth oth1 oth2 oth3 oth4 oth5 oth6 oth7 oth8 oth9 omn (va_cpy oln ln (0 : Int32).toNatClampNeg (0 : Int32).toNatClampNeg (8 : Int32).toNatClampNeg) (va_cpy ohi hi (0 : Int32).toNatClampNeg (0 : Int32).toNatClampNeg (8 : Int32).toNatClampNeg) wi br sp si le un ul omn oln ohi owi obr osp osi ole oun oul) := hD
  refine lv_aload_n hx hb dX6_copyFrom_38 rfl (lv_at hl 1 rfl) ?_
  refine va_get (D := D) (ci := 6) (v := .ref oth3) (C := RX6) (T := TX6) (N := 10) hx hb hts uX6_copyFrom_X6 hown hK.1 hP 10 rfl rfl 3 (by decide) (hts _ kX6_copyFrom_8) (fun _ h9 => h9) rfl dX6_copyFrom_39 ?_
  refine lv_iconst (v := 0) hx hb dX6_copyFrom_42 (by decide) ?_
  refine lv_aload_n hx hb dX6_copyFrom_43 rfl (lv_at hl 0 rfl) ?_
  refine va_get (D := D) (ci := 6) (v := .ref th3) (C := RX6) (T := TX6) (N := 10) hx hb hts uX6_copyFrom_X6 hown hK.1 hP 0 rfl rfl 3 (by decide) (hts _ kX6_copyFrom_8) (fun _ h9 => h9) rfl dX6_copyFrom_44 ?_
  refine lv_iconst (v := 0) hx hb dX6_copyFrom_47 (by decide) ?_
  refine lv_bipush (v := 8) hx hb dX6_copyFrom_48 (by decide) ?_
  refine va_copyi (D := D) hx hb (by rw [hml]; exact hl.1.symm) hown (hts _ kX6_copyFrom_3) (hts _ kX6_copyFrom_4) (hts _ kX6_copyFrom_5) (hts _ kX6_copyFrom_6) hK.1 hP hD hS 13 3 0 0 rfl rfl rfl rfl rfl (by decide) (by decide) (by decide) (Nat.le_of_ble_eq_true rfl) (Nat.le_of_ble_eq_true rfl) (fun _ _ => rfl) (Nat.le_of_ble_eq_true rfl) (Nat.le_of_ble_eq_true rfl) dX6_copyFrom_50 (fun H locs hP hD hS => ?_)
  have hP : va_P D vwCl (ws_things_things cI cC cZ cR th th1 th2 th3 th4 th5 th6 th7 th8 th9 oth oth1 oth2 oth3 oth4 oth5 oth6 oth7 oth8 oth9 omn (va_cpy oln ln (0 : Int32).toNatClampNeg (0 : Int32).toNatClampNeg (8 : Int32).toNatClampNeg) (va_cpy ohi hi (0 : Int32).toNatClampNeg (0 : Int32).toNatClampNeg (8 : Int32).toNatClampNeg) (va_cpy owi wi (0 : Int32).toNatClampNeg (0 : Int32).toNatClampNeg (8 : Int32).toNatClampNeg) br sp si le un ul omn oln ohi owi obr osp osi ole oun oul) H := hP
  have hD : va_D A (ws_things_things cI cC cZ cR th th1 th2 th3 th4 th5 th6 th7 th8 th9 oth oth1 oth2 oth3 oth4 oth5 oth6 oth7 oth8 oth9 omn (va_cpy oln ln (0 : Int32).toNatClampNeg (0 : Int32).toNatClampNeg (8 : Int32).toNatClampNeg) (va_cpy ohi hi (0 : Int32).toNatClampNeg (0 : Int32).toNatClampNeg (8 : Int32).toNatClampNeg) (va_cpy owi wi (0 : Int32).toNatClampNeg (0 : Int32).toNatClampNeg (8 : Int32).toNatClampNeg) br sp si le un ul omn oln ohi owi obr osp osi ole oun oul) := hD
  refine lv_aload_n hx hb dX6_copyFrom_53 rfl (lv_at hl 1 rfl) ?_
  refine va_get (D := D) (ci := 6) (v := .ref oth4) (C := RX6) (T := TX6) (N := 10) hx hb hts uX6_copyFrom_X6 hown hK.1 hP 10 rfl rfl 4 (by decide) (hts _ kX6_copyFrom_9) (fun _ h9 => h9) rfl dX6_copyFrom_54 ?_
  refine lv_iconst (v := 0) hx hb dX6_copyFrom_57 (by decide) ?_
  refine lv_aload_n hx hb dX6_copyFrom_58 rfl (lv_at hl 0 rfl) ?_
  refine va_get (D := D) (ci := 6) (v := .ref th4) (C := RX6) (T := TX6) (N := 10) hx hb hts uX6_copyFrom_X6 hown hK.1 hP 0 rfl rfl 4 (by decide) (hts _ kX6_copyFrom_9) (fun _ h9 => h9) rfl dX6_copyFrom_59 ?_
  refine lv_iconst (v := 0) hx hb dX6_copyFrom_62 (by decide) ?_
  refine lv_bipush (v := 8) hx hb dX6_copyFrom_63 (by decide) ?_
  refine va_copyi (D := D) hx hb (by rw [hml]; exact hl.1.symm) hown (hts _ kX6_copyFrom_3) (hts _ kX6_copyFrom_4) (hts _ kX6_copyFrom_5) (hts _ kX6_copyFrom_6) hK.1 hP hD hS 14 4 0 0 rfl rfl rfl rfl rfl (by decide) (by decide) (by decide) (Nat.le_of_ble_eq_true rfl) (Nat.le_of_ble_eq_true rfl) (fun _ _ => rfl) (Nat.le_of_ble_eq_true rfl) (Nat.le_of_ble_eq_true rfl) dX6_copyFrom_65 (fun H locs hP hD hS => ?_)
  have hP : va_P D vwCl (ws_things_things cI cC cZ cR th th1 th2 th3 th4 th5 th6 th7 th8 th9 oth oth1 oth2 oth3 oth4 oth5 oth6 oth7 oth8 oth9 omn (va_cpy oln ln (0 : Int32).toNatClampNeg (0 : Int32).toNatClampNeg (8 : Int32).toNatClampNeg) (va_cpy ohi hi (0 : Int32).toNatClampNeg (0 : Int32).toNatClampNeg (8 : Int32).toNatClampNeg) (va_cpy owi wi (0 : Int32).toNatClampNeg (0 : Int32).toNatClampNeg (8 : Int32).toNatClampNeg) (va_cpy obr br (0 : Int32).toNatClampNeg (0 : Int32).toNatClampNeg (8 : Int32).toNatClampNeg) sp si le un ul omn oln ohi owi obr osp osi ole oun oul) H := hP
  have hD : va_D A (ws_things_things cI cC cZ cR th th1 th2 th3 th4 th5 th6 th7 th8 th9 oth oth1 oth2 oth3 oth4 oth5 oth6 oth7 oth8 oth9 omn (va_cpy oln ln (0 : Int32).toNatClampNeg (0 : Int32).toNatClampNeg (8 : Int32).toNatClampNeg) (va_cpy ohi hi (0 : Int32).toNatClampNeg (0 : Int32).toNatClampNeg (8 : Int32).toNatClampNeg) (va_cpy owi wi (0 : Int32).toNatClampNeg (0 : Int32).toNatClampNeg (8 : Int32).toNatClampNeg) (va_cpy obr br (0 : Int32).toNatClampNeg (0 : Int32).toNatClampNeg (8 : Int32).toNatClampNeg) sp si le un ul omn oln ohi owi obr osp osi ole oun oul) := hD
  refine lv_aload_n hx hb dX6_copyFrom_68 rfl (lv_at hl 1 rfl) ?_
  refine va_get (D := D) (ci := 6) (v := .ref oth5) (C := RX6) (T := TX6) (N := 10) hx hb hts uX6_copyFrom_X6 hown hK.1 hP 10 rfl rfl 5 (by decide) (hts _ kX6_copyFrom_10) (fun _ h9 => h9) rfl dX6_copyFrom_69 ?_
  refine lv_iconst (v := 0) hx hb dX6_copyFrom_72 (by decide) ?_
  refine lv_aload_n hx hb dX6_copyFrom_73 rfl (lv_at hl 0 rfl) ?_
  refine va_get (D := D) (ci := 6) (v := .ref th5) (C := RX6) (T := TX6) (N := 10) hx hb hts uX6_copyFrom_X6 hown hK.1 hP 0 rfl rfl 5 (by decide) (hts _ kX6_copyFrom_10) (fun _ h9 => h9) rfl dX6_copyFrom_74 ?_
  refine lv_iconst (v := 0) hx hb dX6_copyFrom_77 (by decide) ?_
  refine lv_bipush (v := 8) hx hb dX6_copyFrom_78 (by decide) ?_
  refine va_copyi (D := D) hx hb (by rw [hml]; exact hl.1.symm) hown (hts _ kX6_copyFrom_3) (hts _ kX6_copyFrom_4) (hts _ kX6_copyFrom_5) (hts _ kX6_copyFrom_6) hK.1 hP hD hS 15 5 0 0 rfl rfl rfl rfl rfl (by decide) (by decide) (by decide) (Nat.le_of_ble_eq_true rfl) (Nat.le_of_ble_eq_true rfl) (fun _ _ => rfl) (Nat.le_of_ble_eq_true rfl) (Nat.le_of_ble_eq_true rfl) dX6_copyFrom_80 (fun H locs hP hD hS => ?_)
  have hP : va_P D vwCl (ws_things_things cI cC cZ cR th th1 th2 th3 th4 th5 th6 th7 th8 th9 oth oth1 oth2 oth3 oth4 oth5 oth6 oth7 oth8 oth9 omn (va_cpy oln ln (0 : Int32).toNatClampNeg (0 : Int32).toNatClampNeg (8 : Int32).toNatClampNeg) (va_cpy ohi hi (0 : Int32).toNatClampNeg (0 : Int32).toNatClampNeg (8 : Int32).toNatClampNeg) (va_cpy owi wi (0 : Int32).toNatClampNeg (0 : Int32).toNatClampNeg (8 : Int32).toNatClampNeg) (va_cpy obr br (0 : Int32).toNatClampNeg (0 : Int32).toNatClampNeg (8 : Int32).toNatClampNeg) (va_cpy osp sp (0 : Int32).toNatClampNeg (0 : Int32).toNatClampNeg (8 : Int32).toNatClampNeg) si le un ul omn oln ohi owi obr osp osi ole oun oul) H := hP
  have hD : va_D A (ws_things_things cI cC cZ cR th th1 th2 th3 th4 th5 th6 th7 th8 th9 oth oth1 oth2 oth3 oth4 oth5 oth6 oth7 oth8 oth9 omn (va_cpy oln ln (0 : Int32).toNatClampNeg (0 : Int32).toNatClampNeg (8 : Int32).toNatClampNeg) (va_cpy ohi hi (0 : Int32).toNatClampNeg (0 : Int32).toNatClampNeg (8 : Int32).toNatClampNeg) (va_cpy owi wi (0 : Int32).toNatClampNeg (0 : Int32).toNatClampNeg (8 : Int32).toNatClampNeg) (va_cpy obr br (0 : Int32).toNatClampNeg (0 : Int32).toNatClampNeg (8 : Int32).toNatClampNeg) (va_cpy osp sp (0 : Int32).toNatClampNeg (0 : Int32).toNatClampNeg (8 : Int32).toNatClampNeg) si le un ul omn oln ohi owi obr osp osi ole oun oul) := hD
  refine lv_aload_n hx hb dX6_copyFrom_83 rfl (lv_at hl 1 rfl) ?_
  refine va_get (D := D) (ci := 6) (v := .ref oth6) (C := RX6) (T := TX6) (N := 10) hx hb hts uX6_copyFrom_X6 hown hK.1 hP 10 rfl rfl 6 (by decide) (hts _ kX6_copyFrom_11) (fun _ h9 => h9) rfl dX6_copyFrom_84 ?_
  refine lv_iconst (v := 0) hx hb dX6_copyFrom_87 (by decide) ?_
  refine lv_aload_n hx hb dX6_copyFrom_88 rfl (lv_at hl 0 rfl) ?_
  refine va_get (D := D) (ci := 6) (v := .ref th6) (C := RX6) (T := TX6) (N := 10) hx hb hts uX6_copyFrom_X6 hown hK.1 hP 0 rfl rfl 6 (by decide) (hts _ kX6_copyFrom_11) (fun _ h9 => h9) rfl dX6_copyFrom_89 ?_
  refine lv_iconst (v := 0) hx hb dX6_copyFrom_92 (by decide) ?_
  refine lv_bipush (v := 8) hx hb dX6_copyFrom_93 (by decide) ?_
  refine va_copyi (D := D) hx hb (by rw [hml]; exact hl.1.symm) hown (hts _ kX6_copyFrom_3) (hts _ kX6_copyFrom_4) (hts _ kX6_copyFrom_5) (hts _ kX6_copyFrom_6) hK.1 hP hD hS 16 6 0 0 rfl rfl rfl rfl rfl (by decide) (by decide) (by decide) (Nat.le_of_ble_eq_true rfl) (Nat.le_of_ble_eq_true rfl) (fun _ _ => rfl) (Nat.le_of_ble_eq_true rfl) (Nat.le_of_ble_eq_true rfl) dX6_copyFrom_95 (fun H locs hP hD hS => ?_)
  have hP : va_P D vwCl (ws_things_things cI cC cZ cR th th1 th2 th3 th4 th5 th6 th7 th8 th9 oth oth1 oth2 oth3 oth4 oth5 oth6 oth7 oth8 oth9 omn (va_cpy oln ln (0 : Int32).toNatClampNeg (0 : Int32).toNatClampNeg (8 : Int32).toNatClampNeg) (va_cpy ohi hi (0 : Int32).toNatClampNeg (0 : Int32).toNatClampNeg (8 : Int32).toNatClampNeg) (va_cpy owi wi (0 : Int32).toNatClampNeg (0 : Int32).toNatClampNeg (8 : Int32).toNatClampNeg) (va_cpy obr br (0 : Int32).toNatClampNeg (0 : Int32).toNatClampNeg (8 : Int32).toNatClampNeg) (va_cpy osp sp (0 : Int32).toNatClampNeg (0 : Int32).toNatClampNeg (8 : Int32).toNatClampNeg) (va_cpy osi si (0 : Int32).toNatClampNeg (0 : Int32).toNatClampNeg (8 : Int32).toNatClampNeg) le un ul omn oln ohi owi obr osp osi ole oun oul) H := hP
  have hD : va_D A (ws_things_things cI cC cZ cR th th1 th2 th3 th4 th5 th6 th7 th8 th9 oth oth1 oth2 oth3 oth4 oth5 oth6 oth7 oth8 oth9 omn (va_cpy oln ln (0 : Int32).toNatClampNeg (0 : Int32).toNatClampNeg (8 : Int32).toNatClampNeg) (va_cpy ohi hi (0 : Int32).toNatClampNeg (0 : Int32).toNatClampNeg (8 : Int32).toNatClampNeg) (va_cpy owi wi (0 : Int32).toNatClampNeg (0 : Int32).toNatClampNeg (8 : Int32).toNatClampNeg) (va_cpy obr br (0 : Int32).toNatClampNeg (0 : Int32).toNatClampNeg (8 : Int32).toNatClampNeg) (va_cpy osp sp (0 : Int32).toNatClampNeg (0 : Int32).toNatClampNeg (8 : Int32).toNatClampNeg) (va_cpy osi si (0 : Int32).toNatClampNeg (0 : Int32).toNatClampNeg (8 : Int32).toNatClampNeg) le un ul omn oln ohi owi obr osp osi ole oun oul) := hD
  refine lv_aload_n hx hb dX6_copyFrom_98 rfl (lv_at hl 1 rfl) ?_
  refine va_get (D := D) (ci := 6) (v := .ref oth7) (C := RX6) (T := TX6) (N := 10) hx hb hts uX6_copyFrom_X6 hown hK.1 hP 10 rfl rfl 7 (by decide) (hts _ kX6_copyFrom_12) (fun _ h9 => h9) rfl dX6_copyFrom_99 ?_
  refine lv_iconst (v := 0) hx hb dX6_copyFrom_102 (by decide) ?_
  refine lv_aload_n hx hb dX6_copyFrom_103 rfl (lv_at hl 0 rfl) ?_
  refine va_get (D := D) (ci := 6) (v := .ref th7) (C := RX6) (T := TX6) (N := 10) hx hb hts uX6_copyFrom_X6 hown hK.1 hP 0 rfl rfl 7 (by decide) (hts _ kX6_copyFrom_12) (fun _ h9 => h9) rfl dX6_copyFrom_104 ?_
  refine lv_iconst (v := 0) hx hb dX6_copyFrom_107 (by decide) ?_
  refine lv_bipush (v := 8) hx hb dX6_copyFrom_108 (by decide) ?_
  refine va_copyi (D := D) hx hb (by rw [hml]; exact hl.1.symm) hown (hts _ kX6_copyFrom_3) (hts _ kX6_copyFrom_4) (hts _ kX6_copyFrom_5) (hts _ kX6_copyFrom_6) hK.1 hP hD hS 17 7 0 0 rfl rfl rfl rfl rfl (by decide) (by decide) (by decide) (Nat.le_of_ble_eq_true rfl) (Nat.le_of_ble_eq_true rfl) (fun _ _ => rfl) (Nat.le_of_ble_eq_true rfl) (Nat.le_of_ble_eq_true rfl) dX6_copyFrom_110 (fun H locs hP hD hS => ?_)
  have hP : va_P D vwCl (ws_things_things cI cC cZ cR th th1 th2 th3 th4 th5 th6 th7 th8 th9 oth oth1 oth2 oth3 oth4 oth5 oth6 oth7 oth8 oth9 omn (va_cpy oln ln (0 : Int32).toNatClampNeg (0 : Int32).toNatClampNeg (8 : Int32).toNatClampNeg) (va_cpy ohi hi (0 : Int32).toNatClampNeg (0 : Int32).toNatClampNeg (8 : Int32).toNatClampNeg) (va_cpy owi wi (0 : Int32).toNatClampNeg (0 : Int32).toNatClampNeg (8 : Int32).toNatClampNeg) (va_cpy obr br (0 : Int32).toNatClampNeg (0 : Int32).toNatClampNeg (8 : Int32).toNatClampNeg) (va_cpy osp sp (0 : Int32).toNatClampNeg (0 : Int32).toNatClampNeg (8 : Int32).toNatClampNeg) (va_cpy osi si (0 : Int32).toNatClampNeg (0 : Int32).toNatClampNeg (8 : Int32).toNatClampNeg) (va_cpy ole le (0 : Int32).toNatClampNeg (0 : Int32).toNatClampNeg (8 : Int32).toNatClampNeg) un ul omn oln ohi owi obr osp osi ole oun oul) H := hP
  have hD : va_D A (ws_things_things cI cC cZ cR th th1 th2 th3 th4 th5 th6 th7 th8 th9 oth oth1 oth2 oth3 oth4 oth5 oth6 oth7 oth8 oth9 omn (va_cpy oln ln (0 : Int32).toNatClampNeg (0 : Int32).toNatClampNeg (8 : Int32).toNatClampNeg) (va_cpy ohi hi (0 : Int32).toNatClampNeg (0 : Int32).toNatClampNeg (8 : Int32).toNatClampNeg) (va_cpy owi wi (0 : Int32).toNatClampNeg (0 : Int32).toNatClampNeg (8 : Int32).toNatClampNeg) (va_cpy obr br (0 : Int32).toNatClampNeg (0 : Int32).toNatClampNeg (8 : Int32).toNatClampNeg) (va_cpy osp sp (0 : Int32).toNatClampNeg (0 : Int32).toNatClampNeg (8 : Int32).toNatClampNeg) (va_cpy osi si (0 : Int32).toNatClampNeg (0 : Int32).toNatClampNeg (8 : Int32).toNatClampNeg) (va_cpy ole le (0 : Int32).toNatClampNeg (0 : Int32).toNatClampNeg (8 : Int32).toNatClampNeg) un ul omn oln ohi owi obr osp osi ole oun oul) := hD
  refine lv_aload_n hx hb dX6_copyFrom_113 rfl (lv_at hl 1 rfl) ?_
  refine va_get (D := D) (ci := 6) (v := .ref oth8) (C := RX6) (T := TX6) (N := 10) hx hb hts uX6_copyFrom_X6 hown hK.1 hP 10 rfl rfl 8 (by decide) (hts _ kX6_copyFrom_13) (fun _ h9 => h9) rfl dX6_copyFrom_114 ?_
  refine lv_iconst (v := 0) hx hb dX6_copyFrom_117 (by decide) ?_
  refine lv_aload_n hx hb dX6_copyFrom_118 rfl (lv_at hl 0 rfl) ?_
  refine va_get (D := D) (ci := 6) (v := .ref th8) (C := RX6) (T := TX6) (N := 10) hx hb hts uX6_copyFrom_X6 hown hK.1 hP 0 rfl rfl 8 (by decide) (hts _ kX6_copyFrom_13) (fun _ h9 => h9) rfl dX6_copyFrom_119 ?_
  refine lv_iconst (v := 0) hx hb dX6_copyFrom_122 (by decide) ?_
  refine lv_bipush (v := 8) hx hb dX6_copyFrom_123 (by decide) ?_
  refine va_copyi (D := D) hx hb (by rw [hml]; exact hl.1.symm) hown (hts _ kX6_copyFrom_3) (hts _ kX6_copyFrom_4) (hts _ kX6_copyFrom_5) (hts _ kX6_copyFrom_6) hK.1 hP hD hS 18 8 0 0 rfl rfl rfl rfl rfl (by decide) (by decide) (by decide) (Nat.le_of_ble_eq_true rfl) (Nat.le_of_ble_eq_true rfl) (fun _ _ => rfl) (Nat.le_of_ble_eq_true rfl) (Nat.le_of_ble_eq_true rfl) dX6_copyFrom_125 (fun H locs hP hD hS => ?_)
  have hP : va_P D vwCl (ws_things_things cI cC cZ cR th th1 th2 th3 th4 th5 th6 th7 th8 th9 oth oth1 oth2 oth3 oth4 oth5 oth6 oth7 oth8 oth9 omn (va_cpy oln ln (0 : Int32).toNatClampNeg (0 : Int32).toNatClampNeg (8 : Int32).toNatClampNeg) (va_cpy ohi hi (0 : Int32).toNatClampNeg (0 : Int32).toNatClampNeg (8 : Int32).toNatClampNeg) (va_cpy owi wi (0 : Int32).toNatClampNeg (0 : Int32).toNatClampNeg (8 : Int32).toNatClampNeg) (va_cpy obr br (0 : Int32).toNatClampNeg (0 : Int32).toNatClampNeg (8 : Int32).toNatClampNeg) (va_cpy osp sp (0 : Int32).toNatClampNeg (0 : Int32).toNatClampNeg (8 : Int32).toNatClampNeg) (va_cpy osi si (0 : Int32).toNatClampNeg (0 : Int32).toNatClampNeg (8 : Int32).toNatClampNeg) (va_cpy ole le (0 : Int32).toNatClampNeg (0 : Int32).toNatClampNeg (8 : Int32).toNatClampNeg) (va_cpy oun un (0 : Int32).toNatClampNeg (0 : Int32).toNatClampNeg (8 : Int32).toNatClampNeg) ul omn oln ohi owi obr osp osi ole oun oul) H := hP
  have hD : va_D A (ws_things_things cI cC cZ cR th th1 th2 th3 th4 th5 th6 th7 th8 th9 oth oth1 oth2 oth3 oth4 oth5 oth6 oth7 oth8 oth9 omn (va_cpy oln ln (0 : Int32).toNatClampNeg (0 : Int32).toNatClampNeg (8 : Int32).toNatClampNeg) (va_cpy ohi hi (0 : Int32).toNatClampNeg (0 : Int32).toNatClampNeg (8 : Int32).toNatClampNeg) (va_cpy owi wi (0 : Int32).toNatClampNeg (0 : Int32).toNatClampNeg (8 : Int32).toNatClampNeg) (va_cpy obr br (0 : Int32).toNatClampNeg (0 : Int32).toNatClampNeg (8 : Int32).toNatClampNeg) (va_cpy osp sp (0 : Int32).toNatClampNeg (0 : Int32).toNatClampNeg (8 : Int32).toNatClampNeg) (va_cpy osi si (0 : Int32).toNatClampNeg (0 : Int32).toNatClampNeg (8 : Int32).toNatClampNeg) (va_cpy ole le (0 : Int32).toNatClampNeg (0 : Int32).toNatClampNeg (8 : Int32).toNatClampNeg) (va_cpy oun un (0 : Int32).toNatClampNeg (0 : Int32).toNatClampNeg (8 : Int32).toNatClampNeg) ul omn oln ohi owi obr osp osi ole oun oul) := hD
  refine lv_aload_n hx hb dX6_copyFrom_128 rfl (lv_at hl 1 rfl) ?_
  refine va_get (D := D) (ci := 6) (v := .ref oth9) (C := RX6) (T := TX6) (N := 10) hx hb hts uX6_copyFrom_X6 hown hK.1 hP 10 rfl rfl 9 (by decide) (hts _ kX6_copyFrom_14) (fun _ h9 => h9) rfl dX6_copyFrom_129 ?_
  refine lv_iconst (v := 0) hx hb dX6_copyFrom_132 (by decide) ?_
  refine lv_aload_n hx hb dX6_copyFrom_133 rfl (lv_at hl 0 rfl) ?_
  refine va_get (D := D) (ci := 6) (v := .ref th9) (C := RX6) (T := TX6) (N := 10) hx hb hts uX6_copyFrom_X6 hown hK.1 hP 0 rfl rfl 9 (by decide) (hts _ kX6_copyFrom_14) (fun _ h9 => h9) rfl dX6_copyFrom_134 ?_
  refine lv_iconst (v := 0) hx hb dX6_copyFrom_137 (by decide) ?_
  refine lv_bipush (v := 8) hx hb dX6_copyFrom_138 (by decide) ?_
  refine va_copyi (D := D) hx hb (by rw [hml]; exact hl.1.symm) hown (hts _ kX6_copyFrom_3) (hts _ kX6_copyFrom_4) (hts _ kX6_copyFrom_5) (hts _ kX6_copyFrom_6) hK.1 hP hD hS 19 9 0 0 rfl rfl rfl rfl rfl (by decide) (by decide) (by decide) (Nat.le_of_ble_eq_true rfl) (Nat.le_of_ble_eq_true rfl) (fun _ _ => rfl) (Nat.le_of_ble_eq_true rfl) (Nat.le_of_ble_eq_true rfl) dX6_copyFrom_140 (fun H locs hP hD hS => ?_)
  have hP : va_P D vwCl (ws_things_things cI cC cZ cR th th1 th2 th3 th4 th5 th6 th7 th8 th9 oth oth1 oth2 oth3 oth4 oth5 oth6 oth7 oth8 oth9 omn (va_cpy oln ln (0 : Int32).toNatClampNeg (0 : Int32).toNatClampNeg (8 : Int32).toNatClampNeg) (va_cpy ohi hi (0 : Int32).toNatClampNeg (0 : Int32).toNatClampNeg (8 : Int32).toNatClampNeg) (va_cpy owi wi (0 : Int32).toNatClampNeg (0 : Int32).toNatClampNeg (8 : Int32).toNatClampNeg) (va_cpy obr br (0 : Int32).toNatClampNeg (0 : Int32).toNatClampNeg (8 : Int32).toNatClampNeg) (va_cpy osp sp (0 : Int32).toNatClampNeg (0 : Int32).toNatClampNeg (8 : Int32).toNatClampNeg) (va_cpy osi si (0 : Int32).toNatClampNeg (0 : Int32).toNatClampNeg (8 : Int32).toNatClampNeg) (va_cpy ole le (0 : Int32).toNatClampNeg (0 : Int32).toNatClampNeg (8 : Int32).toNatClampNeg) (va_cpy oun un (0 : Int32).toNatClampNeg (0 : Int32).toNatClampNeg (8 : Int32).toNatClampNeg) (va_cpy oul ul (0 : Int32).toNatClampNeg (0 : Int32).toNatClampNeg (8 : Int32).toNatClampNeg) omn oln ohi owi obr osp osi ole oun oul) H := hP
  have hD : va_D A (ws_things_things cI cC cZ cR th th1 th2 th3 th4 th5 th6 th7 th8 th9 oth oth1 oth2 oth3 oth4 oth5 oth6 oth7 oth8 oth9 omn (va_cpy oln ln (0 : Int32).toNatClampNeg (0 : Int32).toNatClampNeg (8 : Int32).toNatClampNeg) (va_cpy ohi hi (0 : Int32).toNatClampNeg (0 : Int32).toNatClampNeg (8 : Int32).toNatClampNeg) (va_cpy owi wi (0 : Int32).toNatClampNeg (0 : Int32).toNatClampNeg (8 : Int32).toNatClampNeg) (va_cpy obr br (0 : Int32).toNatClampNeg (0 : Int32).toNatClampNeg (8 : Int32).toNatClampNeg) (va_cpy osp sp (0 : Int32).toNatClampNeg (0 : Int32).toNatClampNeg (8 : Int32).toNatClampNeg) (va_cpy osi si (0 : Int32).toNatClampNeg (0 : Int32).toNatClampNeg (8 : Int32).toNatClampNeg) (va_cpy ole le (0 : Int32).toNatClampNeg (0 : Int32).toNatClampNeg (8 : Int32).toNatClampNeg) (va_cpy oun un (0 : Int32).toNatClampNeg (0 : Int32).toNatClampNeg (8 : Int32).toNatClampNeg) (va_cpy oul ul (0 : Int32).toNatClampNeg (0 : Int32).toNatClampNeg (8 : Int32).toNatClampNeg) omn oln ohi owi obr osp osi ole oun oul) := hD
  have e9 := Option.some.inj h
  subst e9
  rw [hQ]
  exact W.vret hx hb hr (fun t ht hW => ⟨⟨(), rfl, trivial, by rw [ht]; exact hP, hD⟩, hS.F ht⟩) hS.2.2 dX6_copyFrom_143
