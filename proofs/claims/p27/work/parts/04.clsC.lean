abbrev ws_scene (cI cC cZ cR : ClassId) (sc sea th th1 th2 th3 th4 th5 th6 th7 th8 th9 pi pia : Nat) (se : Nat → Int32) (mn : Int32) (ln : Nat → Int32) (hi : Nat → Int32) (wi : Nat → Int32) (br : Nat → Int32) (sp : Nat → Int32) (si : Nat → Int32) (le : Nat → Int32) (un : Nat → Int32) (ul : Nat → Int32) (px : Nat → Int32) (tm : Int32) (ps : Int32) (ft : Int32) (fk : Int32) : va_W := [(sc, .inr (5, [.ref sea, .ref th, .ref pi, .int tm, .int ps, .int ft, .int fk])), (sea, .inl (cI, 4, .inl se)), (th, .inr (6, [.int mn, .ref th1, .ref th2, .ref th3, .ref th4, .ref th5, .ref th6, .ref th7, .ref th8, .ref th9])), (th1, .inl (cI, 8, .inl ln)), (th2, .inl (cI, 8, .inl hi)), (th3, .inl (cI, 8, .inl wi)), (th4, .inl (cI, 8, .inl br)), (th5, .inl (cI, 8, .inl sp)), (th6, .inl (cI, 8, .inl si)), (th7, .inl (cI, 8, .inl le)), (th8, .inl (cI, 8, .inl un)), (th9, .inl (cI, 8, .inl ul)), (pi, .inr (3, [.ref pia])), (pia, .inl (cI, 384, .inl px))]
abbrev ws_scene_scene (cI cC cZ cR : ClassId) (sc sea th th1 th2 th3 th4 th5 th6 th7 th8 th9 pi pia osc osea oth oth1 oth2 oth3 oth4 oth5 oth6 oth7 oth8 oth9 opi opia : Nat) (se : Nat → Int32) (mn : Int32) (ln : Nat → Int32) (hi : Nat → Int32) (wi : Nat → Int32) (br : Nat → Int32) (sp : Nat → Int32) (si : Nat → Int32) (le : Nat → Int32) (un : Nat → Int32) (ul : Nat → Int32) (px : Nat → Int32) (tm : Int32) (ps : Int32) (ft : Int32) (fk : Int32) (ose : Nat → Int32) (omn : Int32) (oln : Nat → Int32) (ohi : Nat → Int32) (owi : Nat → Int32) (obr : Nat → Int32) (osp : Nat → Int32) (osi : Nat → Int32) (ole : Nat → Int32) (oun : Nat → Int32) (oul : Nat → Int32) (opx : Nat → Int32) (otm : Int32) (ops : Int32) (oft : Int32) (ofk : Int32) : va_W := [(sc, .inr (5, [.ref sea, .ref th, .ref pi, .int tm, .int ps, .int ft, .int fk])), (sea, .inl (cI, 4, .inl se)), (th, .inr (6, [.int mn, .ref th1, .ref th2, .ref th3, .ref th4, .ref th5, .ref th6, .ref th7, .ref th8, .ref th9])), (th1, .inl (cI, 8, .inl ln)), (th2, .inl (cI, 8, .inl hi)), (th3, .inl (cI, 8, .inl wi)), (th4, .inl (cI, 8, .inl br)), (th5, .inl (cI, 8, .inl sp)), (th6, .inl (cI, 8, .inl si)), (th7, .inl (cI, 8, .inl le)), (th8, .inl (cI, 8, .inl un)), (th9, .inl (cI, 8, .inl ul)), (pi, .inr (3, [.ref pia])), (pia, .inl (cI, 384, .inl px)), (osc, .inr (5, [.ref osea, .ref oth, .ref opi, .int otm, .int ops, .int oft, .int ofk])), (osea, .inl (cI, 4, .inl ose)), (oth, .inr (6, [.int omn, .ref oth1, .ref oth2, .ref oth3, .ref oth4, .ref oth5, .ref oth6, .ref oth7, .ref oth8, .ref oth9])), (oth1, .inl (cI, 8, .inl oln)), (oth2, .inl (cI, 8, .inl ohi)), (oth3, .inl (cI, 8, .inl owi)), (oth4, .inl (cI, 8, .inl obr)), (oth5, .inl (cI, 8, .inl osp)), (oth6, .inl (cI, 8, .inl osi)), (oth7, .inl (cI, 8, .inl ole)), (oth8, .inl (cI, 8, .inl oun)), (oth9, .inl (cI, 8, .inl oul)), (opi, .inr (3, [.ref opia])), (opia, .inl (cI, 384, .inl opx))]
-- LeaningLines$Scene.beginOf
abbrev OUT_X5_beginOf : Type := Int32
def f_X5_beginOf (se : Nat → Int32) (tm : Int32) (a0 : Int32) : Option OUT_X5_beginOf :=
  gd 0 4 (some (tm + (a0 * (se (0 : Int32).toNatClampNeg))))
theorem uX5_beginOf_X5 : ∀ w ∈ wsX50, w ∈ wsX5_beginOf := by decide +kernel
theorem kX5_beginOf_1 : Cond.fieldLink RX5 37 "LeaningLines$Scene" "time" "I" ∈ wsX5_beginOf := by decide +kernel
theorem kX5_beginOf_2 : Cond.fieldLink RX5 18 "LeaningLines$Scene" "settings" "[I" ∈ wsX5_beginOf := by decide +kernel
abbrev R_X5_beginOf : Room := { frames := 0, cells := 0, slots := 0, locals := 0 }
set_option maxHeartbeats 4000000 in
set_option maxRecDepth 100000 in
theorem m_X5_beginOf (l : Launch) (D : va_G) (cI cC cZ cR : ClassId) (sc sea th th1 th2 th3 th4 th5 th6 th7 th8 th9 pi pia : Nat) (sz : Nat) (se : Nat → Int32) (mn : Int32) (ln : Nat → Int32) (hi : Nat → Int32) (wi : Nat → Int32) (br : Nat → Int32) (sp : Nat → Int32) (si : Nat → Int32) (le : Nat → Int32) (un : Nat → Int32) (ul : Nat → Int32) (px : Nat → Int32) (tm : Int32) (ps : Int32) (ft : Int32) (fk : Int32)  (a0 : Int32)   (r : OUT_X5_beginOf) (hf : f_X5_beginOf se tm a0 = some r) : Met l yX5_beginOf wsX5_beginOf R_X5_beginOf (cPc D cI cC cZ cR [.ref sc, .int a0] sz (ws_scene cI cC cZ cR sc sea th th1 th2 th3 th4 th5 th6 th7 th8 th9 pi pia se mn ln hi wi br sp si le un ul px tm ps ft fk)) (cQi D (ws_scene cI cC cZ cR sc sea th th1 th2 th3 th4 th5 th6 th7 th8 th9 pi pia se mn ln hi wi br sp si le un ul px tm ps ft fk) (va_A (ws_scene cI cC cZ cR sc sea th th1 th2 th3 th4 th5 th6 th7 th8 th9 pi pia se mn ln hi wi br sp si le un ul px tm ps ft fk) sz) r) 0 0 (va_A (ws_scene cI cC cZ cR sc sea th th1 th2 th3 th4 th5 th6 th7 th8 th9 pi pia se mn ln hi wi br sp si le un ul px tm ps ft fk) sz) := by
  refine Met.ofW (cc := cX5_beginOf) (maxL := 2) (ret := (some .int)) (by decide) rfl ?_
  intro p e s m args below meth c s₁ B hml hv
  obtain ⟨rfl, hsz, hP, hK, hD0⟩ := hv
  have hx := B.exec
  have hb := B.bytes
  have hr := B.returns
  have hts := atoms_spec (ws := wsX5_beginOf) B.pre
  have hown : s.vm.findClass RX5 = some m.cls := findClass_of_methodNamed B.named
  have hlocks := B.notSynchronized
  subst hsz
  have hD := hD0.self (sz := s.heap.size)
  generalize hAe : va_A (ws_scene cI cC cZ cR sc sea th th1 th2 th3 th4 th5 th6 th7 th8 th9 pi pia se mn ln hi wi br sp si le un ul px tm ps ft fk) s.heap.size = A at hD ⊢
  skip
  have hA : ∀ q : Nat, s.heap.size ≤ q → A q := fun q h => by rw [← hAe]; exact Or.inr h
  have hS : va_S A s.heap s.heap [] := va_S.rf
  have hl := lv_entry ([.ref sc, .int a0]) (n := 2) (Nat.le_of_ble_eq_true rfl)
  rw [lg_entry_eq]
  generalize (lg_sl ([.ref sc, .int a0]) ++ List.replicate (2 - (lg_sl ([.ref sc, .int a0])).length) Slot.unset).toArray = ls at hl ⊢
  have hl : lv_has ls 2 [(0, .ref sc), (1, .int a0)] := hl
  refine W_absQ (fun Q hQ => ?_)
  refine W.eq (g2 := F0 m 0 ls []) rfl ?_
  have h := hf
  unfold f_X5_beginOf at h
  refine lv_aload_n hx hb dX5_beginOf_0 rfl (lv_at hl 0 rfl) ?_
  refine va_get (D := D) (ci := 5) (v := .int tm) (C := RX5) (T := TX5) (N := 7) hx hb hts uX5_beginOf_X5 hown hK.1 hP 0 rfl rfl 3 (by decide) (hts _ kX5_beginOf_1) (fun _ h9 => h9) rfl dX5_beginOf_1 ?_
  refine lv_iload_n hx hb dX5_beginOf_4 rfl (lv_at hl 1 rfl) ?_
  refine lv_aload_n hx hb dX5_beginOf_5 rfl (lv_at hl 0 rfl) ?_
  refine va_get (D := D) (ci := 5) (v := .ref sea) (C := RX5) (T := TX5) (N := 7) hx hb hts uX5_beginOf_X5 hown hK.1 hP 0 rfl rfl 0 (by decide) (hts _ kX5_beginOf_2) (fun _ h9 => h9) rfl dX5_beginOf_6 ?_
  refine lv_iconst (v := 0) hx hb dX5_beginOf_9 (by decide) ?_
  obtain ⟨hin, h⟩ := gd_sp h
  refine va_iald (D := D) hx hb hK.1 hP 1 0 rfl rfl hin dX5_beginOf_10 ?_
  refine lv_imul hx hb dX5_beginOf_11 ?_
  refine lv_iadd hx hb dX5_beginOf_12 ?_
  have e9 := Option.some.inj h
  subst e9
  rw [hQ]
  exact W.iret (v := tm + (a0 * (se (0 : Int32).toNatClampNeg))) hx hb hr (fun t ht hW => ⟨⟨tm + (a0 * (se (0 : Int32).toNatClampNeg)), (), rfl, rfl, by rw [ht]; exact hP, hD⟩, hS.F ht⟩) hS.2.2 dX5_beginOf_13
-- LeaningLines$Scene.endOfPicture
abbrev OUT_X5_endOfPicture : Type := Int32
def f_X5_endOfPicture (se : Nat → Int32) (tm : Int32) : Option OUT_X5_endOfPicture :=
  bn (f_X5_beginOf se tm 15) (fun r1 => gd 1 4 (some (r1 + (se (1 : Int32).toNatClampNeg))))
theorem uX5_endOfPicture_X5 : ∀ w ∈ wsX50, w ∈ wsX5_endOfPicture := by decide +kernel
theorem kX5_endOfPicture_1 : Cond.fieldLink RX5 18 "LeaningLines$Scene" "settings" "[I" ∈ wsX5_endOfPicture := by decide +kernel
abbrev R_X5_endOfPicture : Room := { frames := 1, cells := 0, slots := 0, locals := 21 }
set_option maxHeartbeats 4000000 in
set_option maxRecDepth 100000 in
theorem m_X5_endOfPicture (l : Launch) (D : va_G) (cI cC cZ cR : ClassId) (sc sea th th1 th2 th3 th4 th5 th6 th7 th8 th9 pi pia : Nat) (sz : Nat) (se : Nat → Int32) (mn : Int32) (ln : Nat → Int32) (hi : Nat → Int32) (wi : Nat → Int32) (br : Nat → Int32) (sp : Nat → Int32) (si : Nat → Int32) (le : Nat → Int32) (un : Nat → Int32) (ul : Nat → Int32) (px : Nat → Int32) (tm : Int32) (ps : Int32) (ft : Int32) (fk : Int32)     (r : OUT_X5_endOfPicture) (hf : f_X5_endOfPicture se tm = some r) : Met l yX5_endOfPicture wsX5_endOfPicture R_X5_endOfPicture (cPc D cI cC cZ cR [.ref sc] sz (ws_scene cI cC cZ cR sc sea th th1 th2 th3 th4 th5 th6 th7 th8 th9 pi pia se mn ln hi wi br sp si le un ul px tm ps ft fk)) (cQi D (ws_scene cI cC cZ cR sc sea th th1 th2 th3 th4 th5 th6 th7 th8 th9 pi pia se mn ln hi wi br sp si le un ul px tm ps ft fk) (va_A (ws_scene cI cC cZ cR sc sea th th1 th2 th3 th4 th5 th6 th7 th8 th9 pi pia se mn ln hi wi br sp si le un ul px tm ps ft fk) sz) r) 0 0 (va_A (ws_scene cI cC cZ cR sc sea th th1 th2 th3 th4 th5 th6 th7 th8 th9 pi pia se mn ln hi wi br sp si le un ul px tm ps ft fk) sz) := by
  refine Met.ofW (cc := cX5_endOfPicture) (maxL := 1) (ret := (some .int)) (by decide) rfl ?_
  intro p e s m args below meth c s₁ B hml hv
  obtain ⟨rfl, hsz, hP, hK, hD0⟩ := hv
  have hx := B.exec
  have hb := B.bytes
  have hr := B.returns
  have hts := atoms_spec (ws := wsX5_endOfPicture) B.pre
  have hown : s.vm.findClass RX5 = some m.cls := findClass_of_methodNamed B.named
  have hlocks := B.notSynchronized
  subst hsz
  have hD := hD0.self (sz := s.heap.size)
  generalize hAe : va_A (ws_scene cI cC cZ cR sc sea th th1 th2 th3 th4 th5 th6 th7 th8 th9 pi pia se mn ln hi wi br sp si le un ul px tm ps ft fk) s.heap.size = A at hD ⊢
  skip
  have hA : ∀ q : Nat, s.heap.size ≤ q → A q := fun q h => by rw [← hAe]; exact Or.inr h
  have hS : va_S A s.heap s.heap [] := va_S.rf
  have hl := lv_entry ([.ref sc]) (n := 1) (Nat.le_of_ble_eq_true rfl)
  rw [lg_entry_eq]
  generalize (lg_sl ([.ref sc]) ++ List.replicate (1 - (lg_sl ([.ref sc])).length) Slot.unset).toArray = ls at hl ⊢
  have hl : lv_has ls 1 [(0, .ref sc)] := hl
  refine W_absQ (fun Q hQ => ?_)
  refine W.eq (g2 := F0 m 0 ls []) rfl ?_
  have h := hf
  unfold f_X5_endOfPicture at h
  refine lv_aload_n hx hb dX5_endOfPicture_0 rfl (lv_at hl 0 rfl) ?_
  refine lv_bipush (v := 15) hx hb dX5_endOfPicture_1 (by decide) ?_
  obtain ⟨r1, hcr1, h⟩ := bn_sp h
  have hPc := hP.sub (ws' := (ws_scene cI cC cZ cR sc sea th th1 th2 th3 th4 th5 th6 th7 th8 th9 pi pia se mn ln hi wi br sp si le un ul px tm ps ft fk)) [0, 1, 2, 3, 4, 5, 6, 7, 8, 9, 10, 11, 12, 13] rfl
  have hDc := hD.sub (ws' := (ws_scene cI cC cZ cR sc sea th th1 th2 th3 th4 th5 th6 th7 th8 th9 pi pia se mn ln hi wi br sp si le un ul px tm ps ft fk)) [0, 1, 2, 3, 4, 5, 6, 7, 8, 9, 10, 11, 12, 13] (by decide) rfl
  have hFc := va_free (wc := (ws_scene cI cC cZ cR sc sea th th1 th2 th3 th4 th5 th6 th7 th8 th9 pi pia se mn ln hi wi br sp si le un ul px tm ps ft fk)) hD hS hA [0, 1, 2, 3, 4, 5, 6, 7, 8, 9, 10, 11, 12, 13] rfl
  refine va_calli (va_runV (As := [.int 15]) (rest := []) ⟨hx, hb, hml, hown, hts⟩ (m_X5_beginOf l D cI cC cZ cR sc sea th th1 th2 th3 th4 th5 th6 th7 th8 th9 pi pia _ se mn ln hi wi br sp si le un ul px tm ps ft fk 15   r1 hcr1) (cwV 1 hts gX5_endOfPicture_X5_beginOf rfl rfl rfl (by decide +kernel) ⟨Nat.le_of_ble_eq_true rfl, Nat.le_of_ble_eq_true rfl⟩) (cPc_pv hPc hK hDc (ci := 5) (q0 := 0) rfl rfl) rfl rfl hl.1 rfl (lv_room (Nat.le_of_ble_eq_true rfl)) dX5_endOfPicture_3 ⟨Nat.le_of_ble_eq_true rfl, Nat.le_of_ble_eq_true rfl⟩) hS (fun q _ h => hFc q h) hFc (fun xq u t H1 locs ht hvm hw hB hz1 hk1 hS => ?_)
  rw [hw]
  obtain ⟨hP1, hD1⟩ := hB
  rw [ht] at hP1
  obtain ⟨hP, hD⟩ := va_join (wr := []) (w1 := (ws_scene cI cC cZ cR sc sea th th1 th2 th3 th4 th5 th6 th7 th8 th9 pi pia se mn ln hi wi br sp si le un ul px tm ps ft fk)) hP hD [0, 1, 2, 3, 4, 5, 6, 7, 8, 9, 10, 11, 12, 13] [] rfl rfl (by decide) (by decide) hk1 hFc hP1 hD1
  generalize H1 = H at hP hS ⊢
  have hP : va_P D vwCl (ws_scene cI cC cZ cR sc sea th th1 th2 th3 th4 th5 th6 th7 th8 th9 pi pia se mn ln hi wi br sp si le un ul px tm ps ft fk) H := hP
  have hD : va_D A (ws_scene cI cC cZ cR sc sea th th1 th2 th3 th4 th5 th6 th7 th8 th9 pi pia se mn ln hi wi br sp si le un ul px tm ps ft fk) := hD
  refine lv_aload_n hx hb dX5_endOfPicture_6 rfl (lv_at hl 0 rfl) ?_
  refine va_get (D := D) (ci := 5) (v := .ref sea) (C := RX5) (T := TX5) (N := 7) hx hb hts uX5_endOfPicture_X5 hown hK.1 hP 0 rfl rfl 0 (by decide) (hts _ kX5_endOfPicture_1) (fun _ h9 => h9) rfl dX5_endOfPicture_7 ?_
  refine lv_iconst (v := 1) hx hb dX5_endOfPicture_10 (by decide) ?_
  obtain ⟨hin, h⟩ := gd_sp h
  refine va_iald (D := D) hx hb hK.1 hP 1 0 rfl rfl hin dX5_endOfPicture_11 ?_
  refine lv_iadd hx hb dX5_endOfPicture_12 ?_
  have e9 := Option.some.inj h
  subst e9
  rw [hQ]
  exact W.iret (v := r1 + (se (1 : Int32).toNatClampNeg)) hx hb hr (fun t ht hW => ⟨⟨r1 + (se (1 : Int32).toNatClampNeg), (), rfl, rfl, by rw [ht]; exact hP, hD⟩, hS.F ht⟩) hS.2.2 dX5_endOfPicture_13
-- LeaningLines$Scene.setFlash
abbrev OUT_X5_setFlash : Type := Int32 × Int32
def f_X5_setFlash (tm : Int32) (a0 : Int32) (a1 : Int32) : Option OUT_X5_setFlash :=
  some (tm + a0, a1)
theorem uX5_setFlash_X5 : ∀ w ∈ wsX50, w ∈ wsX5_setFlash := by decide +kernel
theorem kX5_setFlash_1 : Cond.fieldLink RX5 37 "LeaningLines$Scene" "time" "I" ∈ wsX5_setFlash := by decide +kernel
theorem kX5_setFlash_2 : Cond.fieldLink RX5 44 "LeaningLines$Scene" "flashTime" "I" ∈ wsX5_setFlash := by decide +kernel
theorem kX5_setFlash_3 : Cond.fieldLink RX5 47 "LeaningLines$Scene" "flashTicks" "I" ∈ wsX5_setFlash := by decide +kernel
abbrev R_X5_setFlash : Room := { frames := 0, cells := 0, slots := 0, locals := 0 }
set_option maxHeartbeats 4000000 in
set_option maxRecDepth 100000 in
theorem m_X5_setFlash (l : Launch) (D : va_G) (cI cC cZ cR : ClassId) (sc sea th th1 th2 th3 th4 th5 th6 th7 th8 th9 pi pia : Nat) (sz : Nat) (se : Nat → Int32) (mn : Int32) (ln : Nat → Int32) (hi : Nat → Int32) (wi : Nat → Int32) (br : Nat → Int32) (sp : Nat → Int32) (si : Nat → Int32) (le : Nat → Int32) (un : Nat → Int32) (ul : Nat → Int32) (px : Nat → Int32) (tm : Int32) (ps : Int32) (ft : Int32) (fk : Int32)  (a0 : Int32) (a1 : Int32)   (r : OUT_X5_setFlash) (hf : f_X5_setFlash tm a0 a1 = some r) : Met l yX5_setFlash wsX5_setFlash R_X5_setFlash (cPc D cI cC cZ cR [.ref sc, .int a0, .int a1] sz (ws_scene cI cC cZ cR sc sea th th1 th2 th3 th4 th5 th6 th7 th8 th9 pi pia se mn ln hi wi br sp si le un ul px tm ps ft fk)) (cQv D (ws_scene cI cC cZ cR sc sea th th1 th2 th3 th4 th5 th6 th7 th8 th9 pi pia se mn ln hi wi br sp si le un ul px tm ps r.1 r.2) (va_A (ws_scene cI cC cZ cR sc sea th th1 th2 th3 th4 th5 th6 th7 th8 th9 pi pia se mn ln hi wi br sp si le un ul px tm ps ft fk) sz)) 0 0 (va_A (ws_scene cI cC cZ cR sc sea th th1 th2 th3 th4 th5 th6 th7 th8 th9 pi pia se mn ln hi wi br sp si le un ul px tm ps ft fk) sz) := by
  refine Met.ofW (cc := cX5_setFlash) (maxL := 3) (ret := none) (by decide) rfl ?_
  intro p e s m args below meth c s₁ B hml hv
  obtain ⟨rfl, hsz, hP, hK, hD0⟩ := hv
  have hx := B.exec
  have hb := B.bytes
  have hr := B.returns
  have hts := atoms_spec (ws := wsX5_setFlash) B.pre
  have hown : s.vm.findClass RX5 = some m.cls := findClass_of_methodNamed B.named
  have hlocks := B.notSynchronized
  subst hsz
  have hD := hD0.self (sz := s.heap.size)
  generalize hAe : va_A (ws_scene cI cC cZ cR sc sea th th1 th2 th3 th4 th5 th6 th7 th8 th9 pi pia se mn ln hi wi br sp si le un ul px tm ps ft fk) s.heap.size = A at hD ⊢
  skip
  have hA : ∀ q : Nat, s.heap.size ≤ q → A q := fun q h => by rw [← hAe]; exact Or.inr h
  have hS : va_S A s.heap s.heap [] := va_S.rf
  have hl := lv_entry ([.ref sc, .int a0, .int a1]) (n := 3) (Nat.le_of_ble_eq_true rfl)
  rw [lg_entry_eq]
  generalize (lg_sl ([.ref sc, .int a0, .int a1]) ++ List.replicate (3 - (lg_sl ([.ref sc, .int a0, .int a1])).length) Slot.unset).toArray = ls at hl ⊢
  have hl : lv_has ls 3 [(0, .ref sc), (1, .int a0), (2, .int a1)] := hl
  refine W_absQ (fun Q hQ => ?_)
  refine W.eq (g2 := F0 m 0 ls []) rfl ?_
  have h := hf
  unfold f_X5_setFlash at h
  refine lv_aload_n hx hb dX5_setFlash_0 rfl (lv_at hl 0 rfl) ?_
  refine lv_aload_n hx hb dX5_setFlash_1 rfl (lv_at hl 0 rfl) ?_
  refine va_get (D := D) (ci := 5) (v := .int tm) (C := RX5) (T := TX5) (N := 7) hx hb hts uX5_setFlash_X5 hown hK.1 hP 0 rfl rfl 3 (by decide) (hts _ kX5_setFlash_1) (fun _ h9 => h9) rfl dX5_setFlash_2 ?_
  refine lv_iload_n hx hb dX5_setFlash_5 rfl (lv_at hl 1 rfl) ?_
  refine lv_iadd hx hb dX5_setFlash_6 ?_
  refine va_put (D := D) (ci := 5) (v := .int (tm + a0)) (ty := .int) (C := RX5) (T := TX5) (N := 7) hx hb hts uX5_setFlash_X5 tyX5 tyX5_ok nmX5 hown hK.1 hP hD hS 0 rfl rfl 5 (by decide) (hts _ kX5_setFlash_2) (fun _ h9 => h9) rfl (by decide +kernel) rfl rfl (Nat.le_of_ble_eq_true rfl) dX5_setFlash_7 (fun H locs hP hD hS => ?_)
  have hP : va_P D vwCl (ws_scene cI cC cZ cR sc sea th th1 th2 th3 th4 th5 th6 th7 th8 th9 pi pia se mn ln hi wi br sp si le un ul px tm ps (tm + a0) fk) H := hP
  have hD : va_D A (ws_scene cI cC cZ cR sc sea th th1 th2 th3 th4 th5 th6 th7 th8 th9 pi pia se mn ln hi wi br sp si le un ul px tm ps (tm + a0) fk) := hD
  refine lv_aload_n hx hb dX5_setFlash_10 rfl (lv_at hl 0 rfl) ?_
  refine lv_iload_n hx hb dX5_setFlash_11 rfl (lv_at hl 2 rfl) ?_
  refine va_put (D := D) (ci := 5) (v := .int a1) (ty := .int) (C := RX5) (T := TX5) (N := 7) hx hb hts uX5_setFlash_X5 tyX5 tyX5_ok nmX5 hown hK.1 hP hD hS 0 rfl rfl 6 (by decide) (hts _ kX5_setFlash_3) (fun _ h9 => h9) rfl (by decide +kernel) rfl rfl (Nat.le_of_ble_eq_true rfl) dX5_setFlash_12 (fun H locs hP hD hS => ?_)
  have hP : va_P D vwCl (ws_scene cI cC cZ cR sc sea th th1 th2 th3 th4 th5 th6 th7 th8 th9 pi pia se mn ln hi wi br sp si le un ul px tm ps (tm + a0) a1) H := hP
  have hD : va_D A (ws_scene cI cC cZ cR sc sea th th1 th2 th3 th4 th5 th6 th7 th8 th9 pi pia se mn ln hi wi br sp si le un ul px tm ps (tm + a0) a1) := hD
  have e9 := Option.some.inj h
  subst e9
  rw [hQ]
  exact W.vret hx hb hr (fun t ht hW => ⟨⟨(), rfl, trivial, by rw [ht]; exact hP, hD⟩, hS.F ht⟩) hS.2.2 dX5_setFlash_15
-- LeaningLines$Scene.lightAt
abbrev OUT_X5_lightAt : Type := Int32
def f_X5_lightAt (se : Nat → Int32) (ft : Int32) (fk : Int32) (a0 : Int32) : Option OUT_X5_lightAt :=
  bn (f_X7_within a0 ft ((ft + fk) - 1)) (fun r1 => (if r1 = 0 then gd 2 4 (bd (se (2 : Int32).toNatClampNeg) (fun x2 => (if x2 ≤ 0 then some (1) else gz x2 ((if (a0 - a0 / x2 * x2) < (x2 / 2) then some (1) else some (0)))))) else some (3)))
theorem uX5_lightAt_X5 : ∀ w ∈ wsX50, w ∈ wsX5_lightAt := by decide +kernel
theorem kX5_lightAt_1 : Cond.fieldLink RX5 44 "LeaningLines$Scene" "flashTime" "I" ∈ wsX5_lightAt := by decide +kernel
theorem kX5_lightAt_2 : Cond.fieldLink RX5 47 "LeaningLines$Scene" "flashTicks" "I" ∈ wsX5_lightAt := by decide +kernel
theorem kX5_lightAt_3 : Cond.initialized RX7 ∈ wsX5_lightAt := by decide +kernel
theorem kX5_lightAt_4 : Cond.static yX7_within ∈ wsX5_lightAt := by decide +kernel
theorem kX5_lightAt_5 : Cond.fieldLink RX5 18 "LeaningLines$Scene" "settings" "[I" ∈ wsX5_lightAt := by decide +kernel
abbrev R_X5_lightAt : Room := { frames := 1, cells := 0, slots := 0, locals := 22 }
set_option maxHeartbeats 4000000 in
set_option maxRecDepth 100000 in
theorem m_X5_lightAt (l : Launch) (D : va_G) (cI cC cZ cR : ClassId) (sc sea th th1 th2 th3 th4 th5 th6 th7 th8 th9 pi pia : Nat) (sz : Nat) (se : Nat → Int32) (mn : Int32) (ln : Nat → Int32) (hi : Nat → Int32) (wi : Nat → Int32) (br : Nat → Int32) (sp : Nat → Int32) (si : Nat → Int32) (le : Nat → Int32) (un : Nat → Int32) (ul : Nat → Int32) (px : Nat → Int32) (tm : Int32) (ps : Int32) (ft : Int32) (fk : Int32)  (a0 : Int32)   (r : OUT_X5_lightAt) (hf : f_X5_lightAt se ft fk a0 = some r) : Met l yX5_lightAt wsX5_lightAt R_X5_lightAt (cPc D cI cC cZ cR [.ref sc, .int a0] sz (ws_scene cI cC cZ cR sc sea th th1 th2 th3 th4 th5 th6 th7 th8 th9 pi pia se mn ln hi wi br sp si le un ul px tm ps ft fk)) (cQi D (ws_scene cI cC cZ cR sc sea th th1 th2 th3 th4 th5 th6 th7 th8 th9 pi pia se mn ln hi wi br sp si le un ul px tm ps ft fk) (va_A (ws_scene cI cC cZ cR sc sea th th1 th2 th3 th4 th5 th6 th7 th8 th9 pi pia se mn ln hi wi br sp si le un ul px tm ps ft fk) sz) r) 0 0 (va_A (ws_scene cI cC cZ cR sc sea th th1 th2 th3 th4 th5 th6 th7 th8 th9 pi pia se mn ln hi wi br sp si le un ul px tm ps ft fk) sz) := by
  refine Met.ofW (cc := cX5_lightAt) (maxL := 3) (ret := (some .int)) (by decide) rfl ?_
  intro p e s m args below meth c s₁ B hml hv
  obtain ⟨rfl, hsz, hP, hK, hD0⟩ := hv
  have hx := B.exec
  have hb := B.bytes
  have hr := B.returns
  have hts := atoms_spec (ws := wsX5_lightAt) B.pre
  have hown : s.vm.findClass RX5 = some m.cls := findClass_of_methodNamed B.named
  have hlocks := B.notSynchronized
  subst hsz
  have hD := hD0.self (sz := s.heap.size)
  generalize hAe : va_A (ws_scene cI cC cZ cR sc sea th th1 th2 th3 th4 th5 th6 th7 th8 th9 pi pia se mn ln hi wi br sp si le un ul px tm ps ft fk) s.heap.size = A at hD ⊢
  skip
  have hA : ∀ q : Nat, s.heap.size ≤ q → A q := fun q h => by rw [← hAe]; exact Or.inr h
  have hS : va_S A s.heap s.heap [] := va_S.rf
  have hl := lv_entry ([.ref sc, .int a0]) (n := 3) (Nat.le_of_ble_eq_true rfl)
  rw [lg_entry_eq]
  generalize (lg_sl ([.ref sc, .int a0]) ++ List.replicate (3 - (lg_sl ([.ref sc, .int a0])).length) Slot.unset).toArray = ls at hl ⊢
  have hl : lv_has ls 3 [(0, .ref sc), (1, .int a0)] := hl
  refine W_absQ (fun Q hQ => ?_)
  refine W.eq (g2 := F0 m 0 ls []) rfl ?_
  have h := hf
  unfold f_X5_lightAt at h
  refine lv_iload_n hx hb dX5_lightAt_0 rfl (lv_at hl 1 rfl) ?_
  refine lv_aload_n hx hb dX5_lightAt_1 rfl (lv_at hl 0 rfl) ?_
  refine va_get (D := D) (ci := 5) (v := .int ft) (C := RX5) (T := TX5) (N := 7) hx hb hts uX5_lightAt_X5 hown hK.1 hP 0 rfl rfl 5 (by decide) (hts _ kX5_lightAt_1) (fun _ h9 => h9) rfl dX5_lightAt_2 ?_
  refine lv_aload_n hx hb dX5_lightAt_5 rfl (lv_at hl 0 rfl) ?_
  refine va_get (D := D) (ci := 5) (v := .int ft) (C := RX5) (T := TX5) (N := 7) hx hb hts uX5_lightAt_X5 hown hK.1 hP 0 rfl rfl 5 (by decide) (hts _ kX5_lightAt_1) (fun _ h9 => h9) rfl dX5_lightAt_6 ?_
  refine lv_aload_n hx hb dX5_lightAt_9 rfl (lv_at hl 0 rfl) ?_
  refine va_get (D := D) (ci := 5) (v := .int fk) (C := RX5) (T := TX5) (N := 7) hx hb hts uX5_lightAt_X5 hown hK.1 hP 0 rfl rfl 6 (by decide) (hts _ kX5_lightAt_2) (fun _ h9 => h9) rfl dX5_lightAt_10 ?_
  refine lv_iadd hx hb dX5_lightAt_13 ?_
  refine lv_iconst (v := 1) hx hb dX5_lightAt_14 (by decide) ?_
  refine lv_isub hx hb dX5_lightAt_15 ?_
  obtain ⟨r1, hcr1, h⟩ := bn_sp h
  have hPc := hP.sub (ws' := []) [] rfl
  have hDc := hD.sub (ws' := []) [] (by decide) rfl
  have hFc := va_free (wc := []) hD hS hA [] rfl
  refine va_calli (va_runSN (As := [.int a0, .int ft, .int ((ft + fk) - 1)]) (rest := []) ⟨hx, hb, hml, hown, hts⟩ (m_X7_within l D cI cC cZ cR  _  a0 ft ((ft + fk) - 1)   r1 hcr1) ⟨va_cnB (host := "LeaningLines") 3 hts gX5_lightAt_X7_within_n54 rfl rfl rfl hK.2.2.2.2.2.2.2.2.1 (hts _ kX5_lightAt_3) (by decide +kernel) ⟨Nat.le_of_ble_eq_true rfl, Nat.le_of_ble_eq_true rfl⟩, hts _ kX5_lightAt_4, trivial⟩ (cPc_ps hPc hK hDc) rfl rfl hl.1 rfl (lv_room (Nat.le_of_ble_eq_true rfl)) dX5_lightAt_16 ⟨Nat.le_of_ble_eq_true rfl, Nat.le_of_ble_eq_true rfl⟩) hS (fun q _ h => hFc q h) hFc (fun xq u t H1 locs ht hvm hw hB hz1 hk1 hS => ?_)
  rw [hw]
  obtain ⟨hP1, hD1⟩ := hB
  rw [ht] at hP1
  obtain ⟨hP, hD⟩ := va_join (wr := [(sc, .inr (5, [.ref sea, .ref th, .ref pi, .int tm, .int ps, .int ft, .int fk])), (sea, .inl (cI, 4, .inl se)), (th, .inr (6, [.int mn, .ref th1, .ref th2, .ref th3, .ref th4, .ref th5, .ref th6, .ref th7, .ref th8, .ref th9])), (th1, .inl (cI, 8, .inl ln)), (th2, .inl (cI, 8, .inl hi)), (th3, .inl (cI, 8, .inl wi)), (th4, .inl (cI, 8, .inl br)), (th5, .inl (cI, 8, .inl sp)), (th6, .inl (cI, 8, .inl si)), (th7, .inl (cI, 8, .inl le)), (th8, .inl (cI, 8, .inl un)), (th9, .inl (cI, 8, .inl ul)), (pi, .inr (3, [.ref pia])), (pia, .inl (cI, 384, .inl px))]) (w1 := []) hP hD [] [0, 1, 2, 3, 4, 5, 6, 7, 8, 9, 10, 11, 12, 13] rfl rfl (by decide) (by decide) hk1 hFc hP1 hD1
  generalize H1 = H at hP hS ⊢
  have hP : va_P D vwCl (ws_scene cI cC cZ cR sc sea th th1 th2 th3 th4 th5 th6 th7 th8 th9 pi pia se mn ln hi wi br sp si le un ul px tm ps ft fk) H := hP
  have hD : va_D A (ws_scene cI cC cZ cR sc sea th th1 th2 th3 th4 th5 th6 th7 th8 th9 pi pia se mn ln hi wi br sp si le un ul px tm ps ft fk) := hD
  refine lv_if_eq (tgt := 24) hx hb dX5_lightAt_19 (by decide) (fun c5 => ?_) (fun c5 => ?_)
  · replace h := br_p c5 h
    refine lv_aload_n hx hb dX5_lightAt_24 rfl (lv_at hl 0 rfl) ?_
    refine va_get (D := D) (ci := 5) (v := .ref sea) (C := RX5) (T := TX5) (N := 7) hx hb hts uX5_lightAt_X5 hown hK.1 hP 0 rfl rfl 0 (by decide) (hts _ kX5_lightAt_5) (fun _ h9 => h9) rfl dX5_lightAt_25 ?_
    refine lv_iconst (v := 2) hx hb dX5_lightAt_28 (by decide) ?_
    obtain ⟨hin, h⟩ := gd_sp h
    refine va_iald (D := D) hx hb hK.1 hP 1 0 rfl rfl hin dX5_lightAt_29 ?_
    refine lv_topi (fun x2 ex2 => ?_)
    replace h := bd_s2 h ex2
    refine lv_istore_n (lv' := [(2, .int x2), (0, .ref sc), (1, .int a0)]) hx hb dX5_lightAt_30 rfl hl (by decide) rfl (fun ls hl => ?_)
    refine lv_iload_n hx hb dX5_lightAt_31 rfl (lv_at hl 0 rfl) ?_
    refine lv_if_le (tgt := 46) hx hb dX5_lightAt_32 (by decide) (fun c4 => ?_) (fun c4 => ?_)
    · replace h := br_p c4 h
      refine lv_iconst (v := 1) hx hb dX5_lightAt_46 (by decide) ?_
      have e9 := Option.some.inj h
      subst e9
      rw [hQ]
      exact W.iret (v := 1) hx hb hr (fun t ht hW => ⟨⟨1, (), rfl, rfl, by rw [ht]; exact hP, hD⟩, hS.F ht⟩) hS.2.2 dX5_lightAt_47
    · replace h := br_n c4 h
      refine lv_iload_n hx hb dX5_lightAt_35 rfl (lv_at hl 2 rfl) ?_
      refine lv_iload_n hx hb dX5_lightAt_36 rfl (lv_at hl 0 rfl) ?_
      obtain ⟨hz, h⟩ := gz_sp h
      refine lv_irem hx hb dX5_lightAt_37 hz ?_
      refine lv_iload_n hx hb dX5_lightAt_38 rfl (lv_at hl 0 rfl) ?_
      refine lv_iconst (v := 2) hx hb dX5_lightAt_39 (by decide) ?_
      refine lv_idiv hx hb dX5_lightAt_40 (by decide) ?_
      refine lv_icmp_lt (tgt := 46) hx hb dX5_lightAt_41 (by decide) (fun c3 => ?_) (fun c3 => ?_)
      · replace h := br_p c3 h
        refine lv_iconst (v := 1) hx hb dX5_lightAt_46 (by decide) ?_
        have e9 := Option.some.inj h
        subst e9
        rw [hQ]
        exact W.iret (v := 1) hx hb hr (fun t ht hW => ⟨⟨1, (), rfl, rfl, by rw [ht]; exact hP, hD⟩, hS.F ht⟩) hS.2.2 dX5_lightAt_47
      · replace h := br_n c3 h
        refine lv_iconst (v := 0) hx hb dX5_lightAt_44 (by decide) ?_
        have e9 := Option.some.inj h
        subst e9
        rw [hQ]
        exact W.iret (v := 0) hx hb hr (fun t ht hW => ⟨⟨0, (), rfl, rfl, by rw [ht]; exact hP, hD⟩, hS.F ht⟩) hS.2.2 dX5_lightAt_45
  · replace h := br_n c5 h
    refine lv_iconst (v := 3) hx hb dX5_lightAt_22 (by decide) ?_
    have e9 := Option.some.inj h
    subst e9
    rw [hQ]
    exact W.iret (v := 3) hx hb hr (fun t ht hW => ⟨⟨3, (), rfl, rfl, by rw [ht]; exact hP, hD⟩, hS.F ht⟩) hS.2.2 dX5_lightAt_23
-- LeaningLines$Scene.linesFlashed
abbrev OUT_X5_linesFlashed : Type := Int32
def f_X5_linesFlashed_L5 (se : Nat → Int32) (tm : Int32) (a0 : Int32) (a1 : Int32) (k : Int32 → Int32 → Option OUT_X5_linesFlashed) : Nat → Int32 → Int32 → Option OUT_X5_linesFlashed
  | 0 => fun _ _ => none
  | n + 1 => fun v3 v4 => (if 16 ≤ v4 then k v3 v4 else bn (f_X5_beginOf se tm v4) (fun r5 => (if (a0 + a1) ≤ r5 then bd (v4 + 1) (fun x6 => f_X5_linesFlashed_L5 se tm a0 a1 k n v3 x6) else gd 1 4 ((if (r5 + (se (1 : Int32).toNatClampNeg)) ≤ a0 then bd (v4 + 1) (fun x7 => f_X5_linesFlashed_L5 se tm a0 a1 k n v3 x7) else bd (v3 ||| (1 <<< (v4 &&& 31))) (fun x8 => bd (v4 + 1) (fun x9 => f_X5_linesFlashed_L5 se tm a0 a1 k n x8 x9)))))))
theorem f_X5_linesFlashed_L5_s (se : Nat → Int32) (tm : Int32) (a0 : Int32) (a1 : Int32) (k : Int32 → Int32 → Option OUT_X5_linesFlashed) (n : Nat) (v3 : Int32) (v4 : Int32) : f_X5_linesFlashed_L5 se tm a0 a1 k (n + 1) v3 v4 = ((if 16 ≤ v4 then k v3 v4 else bn (f_X5_beginOf se tm v4) (fun r5 => (if (a0 + a1) ≤ r5 then bd (v4 + 1) (fun x6 => f_X5_linesFlashed_L5 se tm a0 a1 k n v3 x6) else gd 1 4 ((if (r5 + (se (1 : Int32).toNatClampNeg)) ≤ a0 then bd (v4 + 1) (fun x7 => f_X5_linesFlashed_L5 se tm a0 a1 k n v3 x7) else bd (v3 ||| (1 <<< (v4 &&& 31))) (fun x8 => bd (v4 + 1) (fun x9 => f_X5_linesFlashed_L5 se tm a0 a1 k n x8 x9)))))))) := rfl
def f_X5_linesFlashed (se : Nat → Int32) (tm : Int32) (a0 : Int32) (a1 : Int32) : Option OUT_X5_linesFlashed :=
  f_X5_linesFlashed_L5 se tm a0 a1 (fun (w13 : Int32) (w14 : Int32) => some (w13)) 4000 0 0
theorem uX5_linesFlashed_X5 : ∀ w ∈ wsX50, w ∈ wsX5_linesFlashed := by decide +kernel
theorem kX5_linesFlashed_1 : Cond.fieldLink RX5 18 "LeaningLines$Scene" "settings" "[I" ∈ wsX5_linesFlashed := by decide +kernel
abbrev R_X5_linesFlashed : Room := { frames := 1, cells := 0, slots := 0, locals := 21 }
set_option maxHeartbeats 4000000 in
set_option maxRecDepth 100000 in
theorem m_X5_linesFlashed (l : Launch) (D : va_G) (cI cC cZ cR : ClassId) (sc sea th th1 th2 th3 th4 th5 th6 th7 th8 th9 pi pia : Nat) (sz : Nat) (se : Nat → Int32) (mn : Int32) (ln : Nat → Int32) (hi : Nat → Int32) (wi : Nat → Int32) (br : Nat → Int32) (sp : Nat → Int32) (si : Nat → Int32) (le : Nat → Int32) (un : Nat → Int32) (ul : Nat → Int32) (px : Nat → Int32) (tm : Int32) (ps : Int32) (ft : Int32) (fk : Int32)  (a0 : Int32) (a1 : Int32)   (r : OUT_X5_linesFlashed) (hf : f_X5_linesFlashed se tm a0 a1 = some r) : Met l yX5_linesFlashed wsX5_linesFlashed R_X5_linesFlashed (cPc D cI cC cZ cR [.ref sc, .int a0, .int a1] sz (ws_scene cI cC cZ cR sc sea th th1 th2 th3 th4 th5 th6 th7 th8 th9 pi pia se mn ln hi wi br sp si le un ul px tm ps ft fk)) (cQi D (ws_scene cI cC cZ cR sc sea th th1 th2 th3 th4 th5 th6 th7 th8 th9 pi pia se mn ln hi wi br sp si le un ul px tm ps ft fk) (va_A (ws_scene cI cC cZ cR sc sea th th1 th2 th3 th4 th5 th6 th7 th8 th9 pi pia se mn ln hi wi br sp si le un ul px tm ps ft fk) sz) r) 0 0 (va_A (ws_scene cI cC cZ cR sc sea th th1 th2 th3 th4 th5 th6 th7 th8 th9 pi pia se mn ln hi wi br sp si le un ul px tm ps ft fk) sz) := by
  refine Met.ofW (cc := cX5_linesFlashed) (maxL := 6) (ret := (some .int)) (by decide) rfl ?_
  intro p e s m args below meth c s₁ B hml hv
  obtain ⟨rfl, hsz, hP, hK, hD0⟩ := hv
  have hx := B.exec
  have hb := B.bytes
  have hr := B.returns
  have hts := atoms_spec (ws := wsX5_linesFlashed) B.pre
  have hown : s.vm.findClass RX5 = some m.cls := findClass_of_methodNamed B.named
  have hlocks := B.notSynchronized
  subst hsz
  have hD := hD0.self (sz := s.heap.size)
  generalize hAe : va_A (ws_scene cI cC cZ cR sc sea th th1 th2 th3 th4 th5 th6 th7 th8 th9 pi pia se mn ln hi wi br sp si le un ul px tm ps ft fk) s.heap.size = A at hD ⊢
  skip
  have hA : ∀ q : Nat, s.heap.size ≤ q → A q := fun q h => by rw [← hAe]; exact Or.inr h
  have hS : va_S A s.heap s.heap [] := va_S.rf
  have hl := lv_entry ([.ref sc, .int a0, .int a1]) (n := 6) (Nat.le_of_ble_eq_true rfl)
  rw [lg_entry_eq]
  generalize (lg_sl ([.ref sc, .int a0, .int a1]) ++ List.replicate (6 - (lg_sl ([.ref sc, .int a0, .int a1])).length) Slot.unset).toArray = ls at hl ⊢
  have hl : lv_has ls 6 [(0, .ref sc), (1, .int a0), (2, .int a1)] := hl
  refine W_absQ (fun Q hQ => ?_)
  refine W.eq (g2 := F0 m 0 ls []) rfl ?_
  have h := hf
  unfold f_X5_linesFlashed at h
  refine lv_iconst (v := 0) hx hb dX5_linesFlashed_0 (by decide) ?_
  refine lv_istore_n (lv' := [(3, .int 0), (0, .ref sc), (1, .int a0), (2, .int a1)]) hx hb dX5_linesFlashed_1 rfl hl (by decide) rfl (fun ls hl => ?_)
  refine lv_iconst (v := 0) hx hb dX5_linesFlashed_2 (by decide) ?_
  refine lv_istore (lv' := [(4, .int 0), (3, .int 0), (0, .ref sc), (1, .int a0), (2, .int a1)]) hx hb dX5_linesFlashed_3 hl (by decide) rfl (fun ls hl => ?_)
  have L5 : ∀ (k : Int32 → Int32 → Option OUT_X5_linesFlashed), (∀ (w13 : Int32) (w14 : Int32) (H : Heap) (locs : List Loc) (ls : Array Slot), k w13 w14 = some r → va_P D vwCl (ws_scene cI cC cZ cR sc sea th th1 th2 th3 th4 th5 th6 th7 th8 th9 pi pia se mn ln hi wi br sp si le un ul px tm ps ft fk) H → va_D A (ws_scene cI cC cZ cR sc sea th th1 th2 th3 th4 th5 th6 th7 th8 th9 pi pia se mn ln hi wi br sp si le un ul px tm ps ft fk) → va_S A s.heap H locs → lv_has ls 6 [(0, .ref sc), (1, .int a0), (2, .int a1), (3, .int w13), (4, .int w14)] → W p l e R_X5_linesFlashed s m ([.ref sc, .int a0, .int a1] : List Value).toArray below meth c H locs 0 0 Q (F0 m 54 ls [])) → ∀ (n : Nat) (v3 : Int32) (v4 : Int32) (H : Heap) (locs : List Loc) (ls : Array Slot), f_X5_linesFlashed_L5 se tm a0 a1 k n v3 v4 = some r → va_P D vwCl (ws_scene cI cC cZ cR sc sea th th1 th2 th3 th4 th5 th6 th7 th8 th9 pi pia se mn ln hi wi br sp si le un ul px tm ps ft fk) H → va_D A (ws_scene cI cC cZ cR sc sea th th1 th2 th3 th4 th5 th6 th7 th8 th9 pi pia se mn ln hi wi br sp si le un ul px tm ps ft fk) → va_S A s.heap H locs → lv_has ls 6 [(0, .ref sc), (1, .int a0), (2, .int a1), (3, .int v3), (4, .int v4)] → W p l e R_X5_linesFlashed s m ([.ref sc, .int a0, .int a1] : List Value).toArray below meth c H locs 0 0 Q (F0 m 5 ls []) := by
    intro k K n
    induction n with
    | zero => intro v3 v4 H locs ls h; exact no_sm h
    | succ n ih =>
      intro v3 v4 H locs ls h hP hD hS hl
      rw [f_X5_linesFlashed_L5_s] at h
      refine lv_iload hx hb dX5_linesFlashed_5 (lv_at hl 4 rfl) ?_
      refine lv_bipush (v := 16) hx hb dX5_linesFlashed_7 (by decide) ?_
      refine lv_icmp_ge (tgt := 54) hx hb dX5_linesFlashed_9 (by decide) (fun c12 => ?_) (fun c12 => ?_)
      · replace h := br_p c12 h
        exact K _ _ _ _ _ h hP hD hS (lv_sub hl [0, 1, 2, 3, 4] rfl)
      · replace h := br_n c12 h
        refine lv_aload_n hx hb dX5_linesFlashed_12 rfl (lv_at hl 0 rfl) ?_
        refine lv_iload hx hb dX5_linesFlashed_13 (lv_at hl 4 rfl) ?_
        obtain ⟨r5, hcr5, h⟩ := bn_sp h
        have hPc := hP.sub (ws' := (ws_scene cI cC cZ cR sc sea th th1 th2 th3 th4 th5 th6 th7 th8 th9 pi pia se mn ln hi wi br sp si le un ul px tm ps ft fk)) [0, 1, 2, 3, 4, 5, 6, 7, 8, 9, 10, 11, 12, 13] rfl
        have hDc := hD.sub (ws' := (ws_scene cI cC cZ cR sc sea th th1 th2 th3 th4 th5 th6 th7 th8 th9 pi pia se mn ln hi wi br sp si le un ul px tm ps ft fk)) [0, 1, 2, 3, 4, 5, 6, 7, 8, 9, 10, 11, 12, 13] (by decide) rfl
        have hFc := va_free (wc := (ws_scene cI cC cZ cR sc sea th th1 th2 th3 th4 th5 th6 th7 th8 th9 pi pia se mn ln hi wi br sp si le un ul px tm ps ft fk)) hD hS hA [0, 1, 2, 3, 4, 5, 6, 7, 8, 9, 10, 11, 12, 13] rfl
        refine va_calli (va_runV (As := [.int v4]) (rest := []) ⟨hx, hb, hml, hown, hts⟩ (m_X5_beginOf l D cI cC cZ cR sc sea th th1 th2 th3 th4 th5 th6 th7 th8 th9 pi pia _ se mn ln hi wi br sp si le un ul px tm ps ft fk v4   r5 hcr5) (cwV 1 hts gX5_linesFlashed_X5_beginOf rfl rfl rfl (by decide +kernel) ⟨Nat.le_of_ble_eq_true rfl, Nat.le_of_ble_eq_true rfl⟩) (cPc_pv hPc hK hDc (ci := 5) (q0 := 0) rfl rfl) rfl rfl hl.1 rfl (lv_room (Nat.le_of_ble_eq_true rfl)) dX5_linesFlashed_15 ⟨Nat.le_of_ble_eq_true rfl, Nat.le_of_ble_eq_true rfl⟩) hS (fun q _ h => hFc q h) hFc (fun xq u t H1 locs ht hvm hw hB hz1 hk1 hS => ?_)
        rw [hw]
        obtain ⟨hP1, hD1⟩ := hB
        rw [ht] at hP1
        obtain ⟨hP, hD⟩ := va_join (wr := []) (w1 := (ws_scene cI cC cZ cR sc sea th th1 th2 th3 th4 th5 th6 th7 th8 th9 pi pia se mn ln hi wi br sp si le un ul px tm ps ft fk)) hP hD [0, 1, 2, 3, 4, 5, 6, 7, 8, 9, 10, 11, 12, 13] [] rfl rfl (by decide) (by decide) hk1 hFc hP1 hD1
        generalize H1 = H at hP hS ⊢
        have hP : va_P D vwCl (ws_scene cI cC cZ cR sc sea th th1 th2 th3 th4 th5 th6 th7 th8 th9 pi pia se mn ln hi wi br sp si le un ul px tm ps ft fk) H := hP
        have hD : va_D A (ws_scene cI cC cZ cR sc sea th th1 th2 th3 th4 th5 th6 th7 th8 th9 pi pia se mn ln hi wi br sp si le un ul px tm ps ft fk) := hD
        refine lv_istore (lv' := [(5, .int r5), (0, .ref sc), (1, .int a0), (2, .int a1), (3, .int v3), (4, .int v4)]) hx hb dX5_linesFlashed_18 hl (by decide) rfl (fun ls hl => ?_)
        refine lv_iload hx hb dX5_linesFlashed_20 (lv_at hl 0 rfl) ?_
        refine lv_iload_n hx hb dX5_linesFlashed_22 rfl (lv_at hl 2 rfl) ?_
        refine lv_iload_n hx hb dX5_linesFlashed_23 rfl (lv_at hl 3 rfl) ?_
        refine lv_iadd hx hb dX5_linesFlashed_24 ?_
        refine lv_icmp_ge (tgt := 48) hx hb dX5_linesFlashed_25 (by decide) (fun c11 => ?_) (fun c11 => ?_)
        · replace h := br_p c11 h
          obtain ⟨x6, ex6, h⟩ := bd_sp h
          refine lv_iinc (v := x6) (lv' := [(4, .int x6), (5, .int r5), (0, .ref sc), (1, .int a0), (2, .int a1), (3, .int v3)]) hx hb dX5_linesFlashed_48 hl (k := 5) rfl (by rw [ex6]; rfl) (by decide) rfl (fun ls hl => ?_)
          refine lv_goto (tgt := 5) hx hb dX5_linesFlashed_51 (by decide) ?_
          exact ih _ _ _ _ _ h hP hD hS (lv_sub hl [2, 3, 4, 5, 0] rfl)
        · replace h := br_n c11 h
          refine lv_iload_n hx hb dX5_linesFlashed_28 rfl (lv_at hl 2 rfl) ?_
          refine lv_iload hx hb dX5_linesFlashed_29 (lv_at hl 0 rfl) ?_
          refine lv_aload_n hx hb dX5_linesFlashed_31 rfl (lv_at hl 1 rfl) ?_
          refine va_get (D := D) (ci := 5) (v := .ref sea) (C := RX5) (T := TX5) (N := 7) hx hb hts uX5_linesFlashed_X5 hown hK.1 hP 0 rfl rfl 0 (by decide) (hts _ kX5_linesFlashed_1) (fun _ h9 => h9) rfl dX5_linesFlashed_32 ?_
          refine lv_iconst (v := 1) hx hb dX5_linesFlashed_35 (by decide) ?_
          obtain ⟨hin, h⟩ := gd_sp h
          refine va_iald (D := D) hx hb hK.1 hP 1 0 rfl rfl hin dX5_linesFlashed_36 ?_
          refine lv_iadd hx hb dX5_linesFlashed_37 ?_
          refine lv_icmp_ge (tgt := 48) hx hb dX5_linesFlashed_38 (by decide) (fun c10 => ?_) (fun c10 => ?_)
          · replace h := br_p c10 h
            obtain ⟨x7, ex7, h⟩ := bd_sp h
            refine lv_iinc (v := x7) (lv' := [(4, .int x7), (5, .int r5), (0, .ref sc), (1, .int a0), (2, .int a1), (3, .int v3)]) hx hb dX5_linesFlashed_48 hl (k := 5) rfl (by rw [ex7]; rfl) (by decide) rfl (fun ls hl => ?_)
            refine lv_goto (tgt := 5) hx hb dX5_linesFlashed_51 (by decide) ?_
            exact ih _ _ _ _ _ h hP hD hS (lv_sub hl [2, 3, 4, 5, 0] rfl)
          · replace h := br_n c10 h
            refine lv_iload_n hx hb dX5_linesFlashed_41 rfl (lv_at hl 4 rfl) ?_
            refine lv_iconst (v := 1) hx hb dX5_linesFlashed_42 (by decide) ?_
            refine lv_iload hx hb dX5_linesFlashed_43 (lv_at hl 5 rfl) ?_
            refine lv_ishl hx hb dX5_linesFlashed_45 ?_
            refine lv_ior hx hb dX5_linesFlashed_46 ?_
            refine lv_topi (fun x8 ex8 => ?_)
            replace h := bd_s2 h ex8
            refine lv_istore_n (lv' := [(3, .int x8), (5, .int r5), (0, .ref sc), (1, .int a0), (2, .int a1), (4, .int v4)]) hx hb dX5_linesFlashed_47 rfl hl (by decide) rfl (fun ls hl => ?_)
            obtain ⟨x9, ex9, h⟩ := bd_sp h
            refine lv_iinc (v := x9) (lv' := [(4, .int x9), (3, .int x8), (5, .int r5), (0, .ref sc), (1, .int a0), (2, .int a1)]) hx hb dX5_linesFlashed_48 hl (k := 5) rfl (by rw [ex9]; rfl) (by decide) rfl (fun ls hl => ?_)
            refine lv_goto (tgt := 5) hx hb dX5_linesFlashed_51 (by decide) ?_
            exact ih _ _ _ _ _ h hP hD hS (lv_sub hl [3, 4, 5, 1, 0] rfl)
  refine L5 _ (fun w13 w14 H locs ls h hP hD hS hl => ?_) 4000 0 0 _ _ _ h hP hD hS (lv_sub hl [2, 3, 4, 1, 0] rfl)
  refine lv_iload_n hx hb dX5_linesFlashed_54 rfl (lv_at hl 3 rfl) ?_
  have e9 := Option.some.inj h
  subst e9
  rw [hQ]
  exact W.iret (v := w13) hx hb hr (fun t ht hW => ⟨⟨w13, (), rfl, rfl, by rw [ht]; exact hP, hD⟩, hS.F ht⟩) hS.2.2 dX5_linesFlashed_55
-- LeaningLines$Scene.copyFrom
abbrev OUT_X5_copyFrom : Type := Int32 × Int32 × Int32 × Int32 × (Nat → Int32) × Int32 × (Nat → Int32) × (Nat → Int32) × (Nat → Int32) × (Nat → Int32) × (Nat → Int32) × (Nat → Int32) × (Nat → Int32) × (Nat → Int32) × (Nat → Int32) × (Nat → Int32)
def f_X5_copyFrom (se : Nat → Int32) (ln : Nat → Int32) (hi : Nat → Int32) (wi : Nat → Int32) (br : Nat → Int32) (sp : Nat → Int32) (si : Nat → Int32) (le : Nat → Int32) (un : Nat → Int32) (ul : Nat → Int32) (px : Nat → Int32) (ose : Nat → Int32) (omn : Int32) (oln : Nat → Int32) (ohi : Nat → Int32) (owi : Nat → Int32) (obr : Nat → Int32) (osp : Nat → Int32) (osi : Nat → Int32) (ole : Nat → Int32) (oun : Nat → Int32) (oul : Nat → Int32) (opx : Nat → Int32) (otm : Int32) (ops : Int32) (oft : Int32) (ofk : Int32) : Option OUT_X5_copyFrom :=
  bn (f_X6_copyFrom ln hi wi br sp si le un ul omn oln ohi owi obr osp osi ole oun oul) (fun r1 => bn (f_X3_copyFrom px opx) (fun r2 => some (otm, ops, oft, ofk, va_cpy ose se (0 : Int32).toNatClampNeg (0 : Int32).toNatClampNeg (4 : Int32).toNatClampNeg, r1.1, r1.2.1, r1.2.2.1, r1.2.2.2.1, r1.2.2.2.2.1, r1.2.2.2.2.2.1, r1.2.2.2.2.2.2.1, r1.2.2.2.2.2.2.2.1, r1.2.2.2.2.2.2.2.2.1, r1.2.2.2.2.2.2.2.2.2, r2)))
theorem uX5_copyFrom_X5 : ∀ w ∈ wsX50, w ∈ wsX5_copyFrom := by decide +kernel
theorem kX5_copyFrom_1 : Cond.fieldLink RX5 18 "LeaningLines$Scene" "settings" "[I" ∈ wsX5_copyFrom := by decide +kernel
theorem kX5_copyFrom_2 : Cond.methodLink RX5 58 arraycopyName ∈ wsX5_copyFrom := by decide +kernel
theorem kX5_copyFrom_3 : Cond.native arraycopyName ∈ wsX5_copyFrom := by decide +kernel
theorem kX5_copyFrom_4 : Cond.static arraycopyName ∈ wsX5_copyFrom := by decide +kernel
theorem kX5_copyFrom_5 : Cond.initialized "java/lang/System" ∈ wsX5_copyFrom := by decide +kernel
theorem kX5_copyFrom_6 : Cond.fieldLink RX5 26 "LeaningLines$Scene" "things" "LLeaningLines$Things;" ∈ wsX5_copyFrom := by decide +kernel
theorem kX5_copyFrom_7 : Cond.fieldLink RX5 33 "LeaningLines$Scene" "picture" "LLeaningLines$Picture;" ∈ wsX5_copyFrom := by decide +kernel
theorem kX5_copyFrom_8 : Cond.fieldLink RX5 37 "LeaningLines$Scene" "time" "I" ∈ wsX5_copyFrom := by decide +kernel
theorem kX5_copyFrom_9 : Cond.fieldLink RX5 41 "LeaningLines$Scene" "pictures" "I" ∈ wsX5_copyFrom := by decide +kernel
theorem kX5_copyFrom_10 : Cond.fieldLink RX5 44 "LeaningLines$Scene" "flashTime" "I" ∈ wsX5_copyFrom := by decide +kernel
theorem kX5_copyFrom_11 : Cond.fieldLink RX5 47 "LeaningLines$Scene" "flashTicks" "I" ∈ wsX5_copyFrom := by decide +kernel
abbrev R_X5_copyFrom : Room := { frames := 2, cells := 0, slots := 0, locals := 61 }
set_option maxHeartbeats 4000000 in
set_option maxRecDepth 100000 in
theorem m_X5_copyFrom (l : Launch) (D : va_G) (cI cC cZ cR : ClassId) (sc sea th th1 th2 th3 th4 th5 th6 th7 th8 th9 pi pia osc osea oth oth1 oth2 oth3 oth4 oth5 oth6 oth7 oth8 oth9 opi opia : Nat) (sz : Nat) (se : Nat → Int32) (mn : Int32) (ln : Nat → Int32) (hi : Nat → Int32) (wi : Nat → Int32) (br : Nat → Int32) (sp : Nat → Int32) (si : Nat → Int32) (le : Nat → Int32) (un : Nat → Int32) (ul : Nat → Int32) (px : Nat → Int32) (tm : Int32) (ps : Int32) (ft : Int32) (fk : Int32) (ose : Nat → Int32) (omn : Int32) (oln : Nat → Int32) (ohi : Nat → Int32) (owi : Nat → Int32) (obr : Nat → Int32) (osp : Nat → Int32) (osi : Nat → Int32) (ole : Nat → Int32) (oun : Nat → Int32) (oul : Nat → Int32) (opx : Nat → Int32) (otm : Int32) (ops : Int32) (oft : Int32) (ofk : Int32)     (r : OUT_X5_copyFrom) (hf : f_X5_copyFrom se ln hi wi br sp si le un ul px ose omn oln ohi owi obr osp osi ole oun oul opx otm ops oft ofk = some r) : Met l yX5_copyFrom wsX5_copyFrom R_X5_copyFrom (cPc D cI cC cZ cR [.ref sc, .ref osc] sz (ws_scene_scene cI cC cZ cR sc sea th th1 th2 th3 th4 th5 th6 th7 th8 th9 pi pia osc osea oth oth1 oth2 oth3 oth4 oth5 oth6 oth7 oth8 oth9 opi opia se mn ln hi wi br sp si le un ul px tm ps ft fk ose omn oln ohi owi obr osp osi ole oun oul opx otm ops oft ofk)) (cQv D (ws_scene_scene cI cC cZ cR sc sea th th1 th2 th3 th4 th5 th6 th7 th8 th9 pi pia osc osea oth oth1 oth2 oth3 oth4 oth5 oth6 oth7 oth8 oth9 opi opia r.2.2.2.2.1 r.2.2.2.2.2.1 r.2.2.2.2.2.2.1 r.2.2.2.2.2.2.2.1 r.2.2.2.2.2.2.2.2.1 r.2.2.2.2.2.2.2.2.2.1 r.2.2.2.2.2.2.2.2.2.2.1 r.2.2.2.2.2.2.2.2.2.2.2.1 r.2.2.2.2.2.2.2.2.2.2.2.2.1 r.2.2.2.2.2.2.2.2.2.2.2.2.2.1 r.2.2.2.2.2.2.2.2.2.2.2.2.2.2.1 r.2.2.2.2.2.2.2.2.2.2.2.2.2.2.2 r.1 r.2.1 r.2.2.1 r.2.2.2.1 ose omn oln ohi owi obr osp osi ole oun oul opx otm ops oft ofk) (va_A (ws_scene_scene cI cC cZ cR sc sea th th1 th2 th3 th4 th5 th6 th7 th8 th9 pi pia osc osea oth oth1 oth2 oth3 oth4 oth5 oth6 oth7 oth8 oth9 opi opia se mn ln hi wi br sp si le un ul px tm ps ft fk ose omn oln ohi owi obr osp osi ole oun oul opx otm ops oft ofk) sz)) 0 0 (va_A (ws_scene_scene cI cC cZ cR sc sea th th1 th2 th3 th4 th5 th6 th7 th8 th9 pi pia osc osea oth oth1 oth2 oth3 oth4 oth5 oth6 oth7 oth8 oth9 opi opia se mn ln hi wi br sp si le un ul px tm ps ft fk ose omn oln ohi owi obr osp osi ole oun oul opx otm ops oft ofk) sz) := by
  refine Met.ofW (cc := cX5_copyFrom) (maxL := 2) (ret := none) (by decide) rfl ?_
  intro p e s m args below meth c s₁ B hml hv
  obtain ⟨rfl, hsz, hP, hK, hD0⟩ := hv
  have hx := B.exec
  have hb := B.bytes
  have hr := B.returns
  have hts := atoms_spec (ws := wsX5_copyFrom) B.pre
  have hown : s.vm.findClass RX5 = some m.cls := findClass_of_methodNamed B.named
  have hlocks := B.notSynchronized
  subst hsz
  have hD := hD0.self (sz := s.heap.size)
  generalize hAe : va_A (ws_scene_scene cI cC cZ cR sc sea th th1 th2 th3 th4 th5 th6 th7 th8 th9 pi pia osc osea oth oth1 oth2 oth3 oth4 oth5 oth6 oth7 oth8 oth9 opi opia se mn ln hi wi br sp si le un ul px tm ps ft fk ose omn oln ohi owi obr osp osi ole oun oul opx otm ops oft ofk) s.heap.size = A at hD ⊢
  skip
  have hA : ∀ q : Nat, s.heap.size ≤ q → A q := fun q h => by rw [← hAe]; exact Or.inr h
  have hS : va_S A s.heap s.heap [] := va_S.rf
  have hl := lv_entry ([.ref sc, .ref osc]) (n := 2) (Nat.le_of_ble_eq_true rfl)
  rw [lg_entry_eq]
  generalize (lg_sl ([.ref sc, .ref osc]) ++ List.replicate (2 - (lg_sl ([.ref sc, .ref osc])).length) Slot.unset).toArray = ls at hl ⊢
  have hl : lv_has ls 2 [(0, .ref sc), (1, .ref osc)] := hl
  refine W_absQ (fun Q hQ => ?_)
  refine W.eq (g2 := F0 m 0 ls []) rfl ?_
  have h := hf
  unfold f_X5_copyFrom at h
  refine lv_aload_n hx hb dX5_copyFrom_0 rfl (lv_at hl 1 rfl) ?_
  refine va_get (D := D) (ci := 5) (v := .ref osea) (C := RX5) (T := TX5) (N := 7) hx hb hts uX5_copyFrom_X5 hown hK.1 hP 14 rfl rfl 0 (by decide) (hts _ kX5_copyFrom_1) (fun _ h9 => h9) rfl dX5_copyFrom_1 ?_
  refine lv_iconst (v := 0) hx hb dX5_copyFrom_4 (by decide) ?_
  refine lv_aload_n hx hb dX5_copyFrom_5 rfl (lv_at hl 0 rfl) ?_
  refine va_get (D := D) (ci := 5) (v := .ref sea) (C := RX5) (T := TX5) (N := 7) hx hb hts uX5_copyFrom_X5 hown hK.1 hP 0 rfl rfl 0 (by decide) (hts _ kX5_copyFrom_1) (fun _ h9 => h9) rfl dX5_copyFrom_6 ?_
  refine lv_iconst (v := 0) hx hb dX5_copyFrom_9 (by decide) ?_
  refine lv_iconst (v := 4) hx hb dX5_copyFrom_10 (by decide) ?_
  refine va_copyi (D := D) hx hb (by rw [hml]; exact hl.1.symm) hown (hts _ kX5_copyFrom_2) (hts _ kX5_copyFrom_3) (hts _ kX5_copyFrom_4) (hts _ kX5_copyFrom_5) hK.1 hP hD hS 15 1 0 0 rfl rfl rfl rfl rfl (by decide) (by decide) (by decide) (Nat.le_of_ble_eq_true rfl) (Nat.le_of_ble_eq_true rfl) (fun _ _ => rfl) (Nat.le_of_ble_eq_true rfl) (Nat.le_of_ble_eq_true rfl) dX5_copyFrom_11 (fun H locs hP hD hS => ?_)
  have hP : va_P D vwCl (ws_scene_scene cI cC cZ cR sc sea th th1 th2 th3 th4 th5 th6 th7 th8 th9 pi pia osc osea oth oth1 oth2 oth3 oth4 oth5 oth6 oth7 oth8 oth9 opi opia (va_cpy ose se (0 : Int32).toNatClampNeg (0 : Int32).toNatClampNeg (4 : Int32).toNatClampNeg) mn ln hi wi br sp si le un ul px tm ps ft fk ose omn oln ohi owi obr osp osi ole oun oul opx otm ops oft ofk) H := hP
  have hD : va_D A (ws_scene_scene cI cC cZ cR sc sea th th1 th2 th3 th4 th5 th6 th7 th8 th9 pi pia osc osea oth oth1 oth2 oth3 oth4 oth5 oth6 oth7 oth8 oth9 opi opia (va_cpy ose se (0 : Int32).toNatClampNeg (0 : Int32).toNatClampNeg (4 : Int32).toNatClampNeg) mn ln hi wi br sp si le un ul px tm ps ft fk ose omn oln ohi owi obr osp osi ole oun oul opx otm ops oft ofk) := hD
  refine lv_aload_n hx hb dX5_copyFrom_14 rfl (lv_at hl 0 rfl) ?_
  refine va_get (D := D) (ci := 5) (v := .ref th) (C := RX5) (T := TX5) (N := 7) hx hb hts uX5_copyFrom_X5 hown hK.1 hP 0 rfl rfl 1 (by decide) (hts _ kX5_copyFrom_6) (fun _ h9 => h9) rfl dX5_copyFrom_15 ?_
  refine lv_aload_n hx hb dX5_copyFrom_18 rfl (lv_at hl 1 rfl) ?_
  refine va_get (D := D) (ci := 5) (v := .ref oth) (C := RX5) (T := TX5) (N := 7) hx hb hts uX5_copyFrom_X5 hown hK.1 hP 14 rfl rfl 1 (by decide) (hts _ kX5_copyFrom_6) (fun _ h9 => h9) rfl dX5_copyFrom_19 ?_
  obtain ⟨r1, hcr1, h⟩ := bn_sp h
  have hPc := hP.sub (ws' := (ws_things_things cI cC cZ cR th th1 th2 th3 th4 th5 th6 th7 th8 th9 oth oth1 oth2 oth3 oth4 oth5 oth6 oth7 oth8 oth9 mn ln hi wi br sp si le un ul omn oln ohi owi obr osp osi ole oun oul)) [2, 3, 4, 5, 6, 7, 8, 9, 10, 11, 16, 17, 18, 19, 20, 21, 22, 23, 24, 25] rfl
  have hDc := hD.sub (ws' := (ws_things_things cI cC cZ cR th th1 th2 th3 th4 th5 th6 th7 th8 th9 oth oth1 oth2 oth3 oth4 oth5 oth6 oth7 oth8 oth9 mn ln hi wi br sp si le un ul omn oln ohi owi obr osp osi ole oun oul)) [2, 3, 4, 5, 6, 7, 8, 9, 10, 11, 16, 17, 18, 19, 20, 21, 22, 23, 24, 25] (by decide) rfl
  have hFc := va_free (wc := (ws_things_things cI cC cZ cR th th1 th2 th3 th4 th5 th6 th7 th8 th9 oth oth1 oth2 oth3 oth4 oth5 oth6 oth7 oth8 oth9 mn ln hi wi br sp si le un ul omn oln ohi owi obr osp osi ole oun oul)) hD hS hA [2, 3, 4, 5, 6, 7, 8, 9, 10, 11, 16, 17, 18, 19, 20, 21, 22, 23, 24, 25] rfl
  refine va_callv (va_runV (As := [.ref oth]) (rest := []) ⟨hx, hb, hml, hown, hts⟩ (m_X6_copyFrom l D cI cC cZ cR th th1 th2 th3 th4 th5 th6 th7 th8 th9 oth oth1 oth2 oth3 oth4 oth5 oth6 oth7 oth8 oth9 _ mn ln hi wi br sp si le un ul omn oln ohi owi obr osp osi ole oun oul    r1 hcr1) (cwV 1 hts gX5_copyFrom_X6_copyFrom rfl rfl rfl (by decide +kernel) ⟨Nat.le_of_ble_eq_true rfl, Nat.le_of_ble_eq_true rfl⟩) (cPc_pv hPc hK hDc (ci := 6) (q0 := 0) rfl rfl) rfl rfl hl.1 rfl (lv_room (Nat.le_of_ble_eq_true rfl)) dX5_copyFrom_22 ⟨Nat.le_of_ble_eq_true rfl, Nat.le_of_ble_eq_true rfl⟩) hS (fun q _ h => hFc q h) hFc (fun u t H1 locs ht hvm hw hB hz1 hk1 hS => ?_)
  obtain ⟨hP1, hD1⟩ := hB
  rw [ht] at hP1
  obtain ⟨hP, hD⟩ := va_join (wr := [(sc, .inr (5, [.ref sea, .ref th, .ref pi, .int tm, .int ps, .int ft, .int fk])), (sea, .inl (cI, 4, .inl (va_cpy ose se (0 : Int32).toNatClampNeg (0 : Int32).toNatClampNeg (4 : Int32).toNatClampNeg))), (pi, .inr (3, [.ref pia])), (pia, .inl (cI, 384, .inl px)), (osc, .inr (5, [.ref osea, .ref oth, .ref opi, .int otm, .int ops, .int oft, .int ofk])), (osea, .inl (cI, 4, .inl ose)), (opi, .inr (3, [.ref opia])), (opia, .inl (cI, 384, .inl opx))]) (w1 := (ws_things_things cI cC cZ cR th th1 th2 th3 th4 th5 th6 th7 th8 th9 oth oth1 oth2 oth3 oth4 oth5 oth6 oth7 oth8 oth9 r1.1 r1.2.1 r1.2.2.1 r1.2.2.2.1 r1.2.2.2.2.1 r1.2.2.2.2.2.1 r1.2.2.2.2.2.2.1 r1.2.2.2.2.2.2.2.1 r1.2.2.2.2.2.2.2.2.1 r1.2.2.2.2.2.2.2.2.2 omn oln ohi owi obr osp osi ole oun oul)) hP hD [2, 3, 4, 5, 6, 7, 8, 9, 10, 11, 16, 17, 18, 19, 20, 21, 22, 23, 24, 25] [0, 1, 12, 13, 14, 15, 26, 27] rfl rfl (by decide) (by decide) hk1 hFc hP1 hD1
  have hP := hP.sub (ws' := (ws_scene_scene cI cC cZ cR sc sea th th1 th2 th3 th4 th5 th6 th7 th8 th9 pi pia osc osea oth oth1 oth2 oth3 oth4 oth5 oth6 oth7 oth8 oth9 opi opia (va_cpy ose se (0 : Int32).toNatClampNeg (0 : Int32).toNatClampNeg (4 : Int32).toNatClampNeg) r1.1 r1.2.1 r1.2.2.1 r1.2.2.2.1 r1.2.2.2.2.1 r1.2.2.2.2.2.1 r1.2.2.2.2.2.2.1 r1.2.2.2.2.2.2.2.1 r1.2.2.2.2.2.2.2.2.1 r1.2.2.2.2.2.2.2.2.2 px tm ps ft fk ose omn oln ohi owi obr osp osi ole oun oul opx otm ops oft ofk)) [0, 1, 8, 9, 10, 11, 12, 13, 14, 15, 16, 17, 2, 3, 4, 5, 18, 19, 20, 21, 22, 23, 24, 25, 26, 27, 6, 7] rfl
  have hD := hD.sub (ws' := (ws_scene_scene cI cC cZ cR sc sea th th1 th2 th3 th4 th5 th6 th7 th8 th9 pi pia osc osea oth oth1 oth2 oth3 oth4 oth5 oth6 oth7 oth8 oth9 opi opia (va_cpy ose se (0 : Int32).toNatClampNeg (0 : Int32).toNatClampNeg (4 : Int32).toNatClampNeg) r1.1 r1.2.1 r1.2.2.1 r1.2.2.2.1 r1.2.2.2.2.1 r1.2.2.2.2.2.1 r1.2.2.2.2.2.2.1 r1.2.2.2.2.2.2.2.1 r1.2.2.2.2.2.2.2.2.1 r1.2.2.2.2.2.2.2.2.2 px tm ps ft fk ose omn oln ohi owi obr osp osi ole oun oul opx otm ops oft ofk)) [0, 1, 8, 9, 10, 11, 12, 13, 14, 15, 16, 17, 2, 3, 4, 5, 18, 19, 20, 21, 22, 23, 24, 25, 26, 27, 6, 7] (by decide) rfl
  generalize H1 = H at hP hS ⊢
  refine lv_aload_n hx hb dX5_copyFrom_25 rfl (lv_at hl 0 rfl) ?_
  refine va_get (D := D) (ci := 5) (v := .ref pi) (C := RX5) (T := TX5) (N := 7) hx hb hts uX5_copyFrom_X5 hown hK.1 hP 0 rfl rfl 2 (by decide) (hts _ kX5_copyFrom_7) (fun _ h9 => h9) rfl dX5_copyFrom_26 ?_
  refine lv_aload_n hx hb dX5_copyFrom_29 rfl (lv_at hl 1 rfl) ?_
  refine va_get (D := D) (ci := 5) (v := .ref opi) (C := RX5) (T := TX5) (N := 7) hx hb hts uX5_copyFrom_X5 hown hK.1 hP 14 rfl rfl 2 (by decide) (hts _ kX5_copyFrom_7) (fun _ h9 => h9) rfl dX5_copyFrom_30 ?_
  obtain ⟨r2, hcr2, h⟩ := bn_sp h
  have hPc := hP.sub (ws' := (ws_picture_picture cI cC cZ cR pi pia opi opia px opx)) [12, 13, 26, 27] rfl
  have hDc := hD.sub (ws' := (ws_picture_picture cI cC cZ cR pi pia opi opia px opx)) [12, 13, 26, 27] (by decide) rfl
  have hFc := va_free (wc := (ws_picture_picture cI cC cZ cR pi pia opi opia px opx)) hD hS hA [12, 13, 26, 27] rfl
  refine va_callv (va_runV (As := [.ref opi]) (rest := []) ⟨hx, hb, hml, hown, hts⟩ (m_X3_copyFrom l D cI cC cZ cR pi pia opi opia _ px opx    r2 hcr2) (cwV 1 hts gX5_copyFrom_X3_copyFrom rfl rfl rfl (by decide +kernel) ⟨Nat.le_of_ble_eq_true rfl, Nat.le_of_ble_eq_true rfl⟩) (cPc_pv hPc hK hDc (ci := 3) (q0 := 0) rfl rfl) rfl rfl hl.1 rfl (lv_room (Nat.le_of_ble_eq_true rfl)) dX5_copyFrom_33 ⟨Nat.le_of_ble_eq_true rfl, Nat.le_of_ble_eq_true rfl⟩) hS (fun q _ h => hFc q h) hFc (fun u t H1 locs ht hvm hw hB hz1 hk1 hS => ?_)
  obtain ⟨hP1, hD1⟩ := hB
  rw [ht] at hP1
  obtain ⟨hP, hD⟩ := va_join (wr := [(sc, .inr (5, [.ref sea, .ref th, .ref pi, .int tm, .int ps, .int ft, .int fk])), (sea, .inl (cI, 4, .inl (va_cpy ose se (0 : Int32).toNatClampNeg (0 : Int32).toNatClampNeg (4 : Int32).toNatClampNeg))), (th, .inr (6, [.int r1.1, .ref th1, .ref th2, .ref th3, .ref th4, .ref th5, .ref th6, .ref th7, .ref th8, .ref th9])), (th1, .inl (cI, 8, .inl r1.2.1)), (th2, .inl (cI, 8, .inl r1.2.2.1)), (th3, .inl (cI, 8, .inl r1.2.2.2.1)), (th4, .inl (cI, 8, .inl r1.2.2.2.2.1)), (th5, .inl (cI, 8, .inl r1.2.2.2.2.2.1)), (th6, .inl (cI, 8, .inl r1.2.2.2.2.2.2.1)), (th7, .inl (cI, 8, .inl r1.2.2.2.2.2.2.2.1)), (th8, .inl (cI, 8, .inl r1.2.2.2.2.2.2.2.2.1)), (th9, .inl (cI, 8, .inl r1.2.2.2.2.2.2.2.2.2)), (osc, .inr (5, [.ref osea, .ref oth, .ref opi, .int otm, .int ops, .int oft, .int ofk])), (osea, .inl (cI, 4, .inl ose)), (oth, .inr (6, [.int omn, .ref oth1, .ref oth2, .ref oth3, .ref oth4, .ref oth5, .ref oth6, .ref oth7, .ref oth8, .ref oth9])), (oth1, .inl (cI, 8, .inl oln)), (oth2, .inl (cI, 8, .inl ohi)), (oth3, .inl (cI, 8, .inl owi)), (oth4, .inl (cI, 8, .inl obr)), (oth5, .inl (cI, 8, .inl osp)), (oth6, .inl (cI, 8, .inl osi)), (oth7, .inl (cI, 8, .inl ole)), (oth8, .inl (cI, 8, .inl oun)), (oth9, .inl (cI, 8, .inl oul))]) (w1 := (ws_picture_picture cI cC cZ cR pi pia opi opia r2 opx)) hP hD [12, 13, 26, 27] [0, 1, 2, 3, 4, 5, 6, 7, 8, 9, 10, 11, 14, 15, 16, 17, 18, 19, 20, 21, 22, 23, 24, 25] rfl rfl (by decide) (by decide) hk1 hFc hP1 hD1
  have hP := hP.sub (ws' := (ws_scene_scene cI cC cZ cR sc sea th th1 th2 th3 th4 th5 th6 th7 th8 th9 pi pia osc osea oth oth1 oth2 oth3 oth4 oth5 oth6 oth7 oth8 oth9 opi opia (va_cpy ose se (0 : Int32).toNatClampNeg (0 : Int32).toNatClampNeg (4 : Int32).toNatClampNeg) r1.1 r1.2.1 r1.2.2.1 r1.2.2.2.1 r1.2.2.2.2.1 r1.2.2.2.2.2.1 r1.2.2.2.2.2.2.1 r1.2.2.2.2.2.2.2.1 r1.2.2.2.2.2.2.2.2.1 r1.2.2.2.2.2.2.2.2.2 r2 tm ps ft fk ose omn oln ohi owi obr osp osi ole oun oul opx otm ops oft ofk)) [0, 1, 2, 3, 4, 5, 6, 7, 8, 9, 10, 11, 24, 25, 12, 13, 14, 15, 16, 17, 18, 19, 20, 21, 22, 23, 26, 27] rfl
  have hD := hD.sub (ws' := (ws_scene_scene cI cC cZ cR sc sea th th1 th2 th3 th4 th5 th6 th7 th8 th9 pi pia osc osea oth oth1 oth2 oth3 oth4 oth5 oth6 oth7 oth8 oth9 opi opia (va_cpy ose se (0 : Int32).toNatClampNeg (0 : Int32).toNatClampNeg (4 : Int32).toNatClampNeg) r1.1 r1.2.1 r1.2.2.1 r1.2.2.2.1 r1.2.2.2.2.1 r1.2.2.2.2.2.1 r1.2.2.2.2.2.2.1 r1.2.2.2.2.2.2.2.1 r1.2.2.2.2.2.2.2.2.1 r1.2.2.2.2.2.2.2.2.2 r2 tm ps ft fk ose omn oln ohi owi obr osp osi ole oun oul opx otm ops oft ofk)) [0, 1, 2, 3, 4, 5, 6, 7, 8, 9, 10, 11, 24, 25, 12, 13, 14, 15, 16, 17, 18, 19, 20, 21, 22, 23, 26, 27] (by decide) rfl
  generalize H1 = H at hP hS ⊢
  refine lv_aload_n hx hb dX5_copyFrom_36 rfl (lv_at hl 0 rfl) ?_
  refine lv_aload_n hx hb dX5_copyFrom_37 rfl (lv_at hl 1 rfl) ?_
  refine va_get (D := D) (ci := 5) (v := .int otm) (C := RX5) (T := TX5) (N := 7) hx hb hts uX5_copyFrom_X5 hown hK.1 hP 14 rfl rfl 3 (by decide) (hts _ kX5_copyFrom_8) (fun _ h9 => h9) rfl dX5_copyFrom_38 ?_
  refine va_put (D := D) (ci := 5) (v := .int otm) (ty := .int) (C := RX5) (T := TX5) (N := 7) hx hb hts uX5_copyFrom_X5 tyX5 tyX5_ok nmX5 hown hK.1 hP hD hS 0 rfl rfl 3 (by decide) (hts _ kX5_copyFrom_8) (fun _ h9 => h9) rfl (by decide +kernel) rfl rfl (Nat.le_of_ble_eq_true rfl) dX5_copyFrom_41 (fun H locs hP hD hS => ?_)
  have hP : va_P D vwCl (ws_scene_scene cI cC cZ cR sc sea th th1 th2 th3 th4 th5 th6 th7 th8 th9 pi pia osc osea oth oth1 oth2 oth3 oth4 oth5 oth6 oth7 oth8 oth9 opi opia (va_cpy ose se (0 : Int32).toNatClampNeg (0 : Int32).toNatClampNeg (4 : Int32).toNatClampNeg) r1.1 r1.2.1 r1.2.2.1 r1.2.2.2.1 r1.2.2.2.2.1 r1.2.2.2.2.2.1 r1.2.2.2.2.2.2.1 r1.2.2.2.2.2.2.2.1 r1.2.2.2.2.2.2.2.2.1 r1.2.2.2.2.2.2.2.2.2 r2 otm ps ft fk ose omn oln ohi owi obr osp osi ole oun oul opx otm ops oft ofk) H := hP
  have hD : va_D A (ws_scene_scene cI cC cZ cR sc sea th th1 th2 th3 th4 th5 th6 th7 th8 th9 pi pia osc osea oth oth1 oth2 oth3 oth4 oth5 oth6 oth7 oth8 oth9 opi opia (va_cpy ose se (0 : Int32).toNatClampNeg (0 : Int32).toNatClampNeg (4 : Int32).toNatClampNeg) r1.1 r1.2.1 r1.2.2.1 r1.2.2.2.1 r1.2.2.2.2.1 r1.2.2.2.2.2.1 r1.2.2.2.2.2.2.1 r1.2.2.2.2.2.2.2.1 r1.2.2.2.2.2.2.2.2.1 r1.2.2.2.2.2.2.2.2.2 r2 otm ps ft fk ose omn oln ohi owi obr osp osi ole oun oul opx otm ops oft ofk) := hD
  refine lv_aload_n hx hb dX5_copyFrom_44 rfl (lv_at hl 0 rfl) ?_
  refine lv_aload_n hx hb dX5_copyFrom_45 rfl (lv_at hl 1 rfl) ?_
  refine va_get (D := D) (ci := 5) (v := .int ops) (C := RX5) (T := TX5) (N := 7) hx hb hts uX5_copyFrom_X5 hown hK.1 hP 14 rfl rfl 4 (by decide) (hts _ kX5_copyFrom_9) (fun _ h9 => h9) rfl dX5_copyFrom_46 ?_
  refine va_put (D := D) (ci := 5) (v := .int ops) (ty := .int) (C := RX5) (T := TX5) (N := 7) hx hb hts uX5_copyFrom_X5 tyX5 tyX5_ok nmX5 hown hK.1 hP hD hS 0 rfl rfl 4 (by decide) (hts _ kX5_copyFrom_9) (fun _ h9 => h9) rfl (by decide +kernel) rfl rfl (Nat.le_of_ble_eq_true rfl) dX5_copyFrom_49 (fun H locs hP hD hS => ?_)
  have hP : va_P D vwCl (ws_scene_scene cI cC cZ cR sc sea th th1 th2 th3 th4 th5 th6 th7 th8 th9 pi pia osc osea oth oth1 oth2 oth3 oth4 oth5 oth6 oth7 oth8 oth9 opi opia (va_cpy ose se (0 : Int32).toNatClampNeg (0 : Int32).toNatClampNeg (4 : Int32).toNatClampNeg) r1.1 r1.2.1 r1.2.2.1 r1.2.2.2.1 r1.2.2.2.2.1 r1.2.2.2.2.2.1 r1.2.2.2.2.2.2.1 r1.2.2.2.2.2.2.2.1 r1.2.2.2.2.2.2.2.2.1 r1.2.2.2.2.2.2.2.2.2 r2 otm ops ft fk ose omn oln ohi owi obr osp osi ole oun oul opx otm ops oft ofk) H := hP
  have hD : va_D A (ws_scene_scene cI cC cZ cR sc sea th th1 th2 th3 th4 th5 th6 th7 th8 th9 pi pia osc osea oth oth1 oth2 oth3 oth4 oth5 oth6 oth7 oth8 oth9 opi opia (va_cpy ose se (0 : Int32).toNatClampNeg (0 : Int32).toNatClampNeg (4 : Int32).toNatClampNeg) r1.1 r1.2.1 r1.2.2.1 r1.2.2.2.1 r1.2.2.2.2.1 r1.2.2.2.2.2.1 r1.2.2.2.2.2.2.1 r1.2.2.2.2.2.2.2.1 r1.2.2.2.2.2.2.2.2.1 r1.2.2.2.2.2.2.2.2.2 r2 otm ops ft fk ose omn oln ohi owi obr osp osi ole oun oul opx otm ops oft ofk) := hD
  refine lv_aload_n hx hb dX5_copyFrom_52 rfl (lv_at hl 0 rfl) ?_
  refine lv_aload_n hx hb dX5_copyFrom_53 rfl (lv_at hl 1 rfl) ?_
  refine va_get (D := D) (ci := 5) (v := .int oft) (C := RX5) (T := TX5) (N := 7) hx hb hts uX5_copyFrom_X5 hown hK.1 hP 14 rfl rfl 5 (by decide) (hts _ kX5_copyFrom_10) (fun _ h9 => h9) rfl dX5_copyFrom_54 ?_
  refine va_put (D := D) (ci := 5) (v := .int oft) (ty := .int) (C := RX5) (T := TX5) (N := 7) hx hb hts uX5_copyFrom_X5 tyX5 tyX5_ok nmX5 hown hK.1 hP hD hS 0 rfl rfl 5 (by decide) (hts _ kX5_copyFrom_10) (fun _ h9 => h9) rfl (by decide +kernel) rfl rfl (Nat.le_of_ble_eq_true rfl) dX5_copyFrom_57 (fun H locs hP hD hS => ?_)
  have hP : va_P D vwCl (ws_scene_scene cI cC cZ cR sc sea th th1 th2 th3 th4 th5 th6 th7 th8 th9 pi pia osc osea oth oth1 oth2 oth3 oth4 oth5 oth6 oth7 oth8 oth9 opi opia (va_cpy ose se (0 : Int32).toNatClampNeg (0 : Int32).toNatClampNeg (4 : Int32).toNatClampNeg) r1.1 r1.2.1 r1.2.2.1 r1.2.2.2.1 r1.2.2.2.2.1 r1.2.2.2.2.2.1 r1.2.2.2.2.2.2.1 r1.2.2.2.2.2.2.2.1 r1.2.2.2.2.2.2.2.2.1 r1.2.2.2.2.2.2.2.2.2 r2 otm ops oft fk ose omn oln ohi owi obr osp osi ole oun oul opx otm ops oft ofk) H := hP
  have hD : va_D A (ws_scene_scene cI cC cZ cR sc sea th th1 th2 th3 th4 th5 th6 th7 th8 th9 pi pia osc osea oth oth1 oth2 oth3 oth4 oth5 oth6 oth7 oth8 oth9 opi opia (va_cpy ose se (0 : Int32).toNatClampNeg (0 : Int32).toNatClampNeg (4 : Int32).toNatClampNeg) r1.1 r1.2.1 r1.2.2.1 r1.2.2.2.1 r1.2.2.2.2.1 r1.2.2.2.2.2.1 r1.2.2.2.2.2.2.1 r1.2.2.2.2.2.2.2.1 r1.2.2.2.2.2.2.2.2.1 r1.2.2.2.2.2.2.2.2.2 r2 otm ops oft fk ose omn oln ohi owi obr osp osi ole oun oul opx otm ops oft ofk) := hD
  refine lv_aload_n hx hb dX5_copyFrom_60 rfl (lv_at hl 0 rfl) ?_
  refine lv_aload_n hx hb dX5_copyFrom_61 rfl (lv_at hl 1 rfl) ?_
  refine va_get (D := D) (ci := 5) (v := .int ofk) (C := RX5) (T := TX5) (N := 7) hx hb hts uX5_copyFrom_X5 hown hK.1 hP 14 rfl rfl 6 (by decide) (hts _ kX5_copyFrom_11) (fun _ h9 => h9) rfl dX5_copyFrom_62 ?_
  refine va_put (D := D) (ci := 5) (v := .int ofk) (ty := .int) (C := RX5) (T := TX5) (N := 7) hx hb hts uX5_copyFrom_X5 tyX5 tyX5_ok nmX5 hown hK.1 hP hD hS 0 rfl rfl 6 (by decide) (hts _ kX5_copyFrom_11) (fun _ h9 => h9) rfl (by decide +kernel) rfl rfl (Nat.le_of_ble_eq_true rfl) dX5_copyFrom_65 (fun H locs hP hD hS => ?_)
  have hP : va_P D vwCl (ws_scene_scene cI cC cZ cR sc sea th th1 th2 th3 th4 th5 th6 th7 th8 th9 pi pia osc osea oth oth1 oth2 oth3 oth4 oth5 oth6 oth7 oth8 oth9 opi opia (va_cpy ose se (0 : Int32).toNatClampNeg (0 : Int32).toNatClampNeg (4 : Int32).toNatClampNeg) r1.1 r1.2.1 r1.2.2.1 r1.2.2.2.1 r1.2.2.2.2.1 r1.2.2.2.2.2.1 r1.2.2.2.2.2.2.1 r1.2.2.2.2.2.2.2.1 r1.2.2.2.2.2.2.2.2.1 r1.2.2.2.2.2.2.2.2.2 r2 otm ops oft ofk ose omn oln ohi owi obr osp osi ole oun oul opx otm ops oft ofk) H := hP
  have hD : va_D A (ws_scene_scene cI cC cZ cR sc sea th th1 th2 th3 th4 th5 th6 th7 th8 th9 pi pia osc osea oth oth1 oth2 oth3 oth4 oth5 oth6 oth7 oth8 oth9 opi opia (va_cpy ose se (0 : Int32).toNatClampNeg (0 : Int32).toNatClampNeg (4 : Int32).toNatClampNeg) r1.1 r1.2.1 r1.2.2.1 r1.2.2.2.1 r1.2.2.2.2.1 r1.2.2.2.2.2.1 r1.2.2.2.2.2.2.1 r1.2.2.2.2.2.2.2.1 r1.2.2.2.2.2.2.2.2.1 r1.2.2.2.2.2.2.2.2.2 r2 otm ops oft ofk ose omn oln ohi owi obr osp osi ole oun oul opx otm ops oft ofk) := hD
  have e9 := Option.some.inj h
  subst e9
  rw [hQ]
  exact W.vret hx hb hr (fun t ht hW => ⟨⟨(), rfl, trivial, by rw [ht]; exact hP, hD⟩, hS.F ht⟩) hS.2.2 dX5_copyFrom_68
