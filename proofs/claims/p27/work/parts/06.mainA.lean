abbrev ws_main (cI cC cZ cR : ClassId) (mm sc sea th th1 th2 th3 th4 th5 th6 th7 th8 th9 pi pia cm cm1 cm2 cm3 pd pda rd rda hh sla : Nat) (se : Nat → Int32) (mn : Int32) (ln : Nat → Int32) (hi : Nat → Int32) (wi : Nat → Int32) (br : Nat → Int32) (sp : Nat → Int32) (si : Nat → Int32) (le : Nat → Int32) (un : Nat → Int32) (ul : Nat → Int32) (px : Nat → Int32) (tm : Int32) (ps : Int32) (ft : Int32) (fk : Int32) (lea : Nat → Int32) (upr : Nat → Int32) (ris : Nat → Int32) (pl : Int32) (tx : Nat → Int32) (at_ : Int32) (kd : Int32) (va : Nat → Int32) : va_W := [(mm, .inr (7, [.ref sc, .ref cm, .ref hh, .ref sla, .ref pd, .ref rd])), (sc, .inr (5, [.ref sea, .ref th, .ref pi, .int tm, .int ps, .int ft, .int fk])), (sea, .inl (cI, 4, .inl se)), (th, .inr (6, [.int mn, .ref th1, .ref th2, .ref th3, .ref th4, .ref th5, .ref th6, .ref th7, .ref th8, .ref th9])), (th1, .inl (cI, 8, .inl ln)), (th2, .inl (cI, 8, .inl hi)), (th3, .inl (cI, 8, .inl wi)), (th4, .inl (cI, 8, .inl br)), (th5, .inl (cI, 8, .inl sp)), (th6, .inl (cI, 8, .inl si)), (th7, .inl (cI, 8, .inl le)), (th8, .inl (cI, 8, .inl un)), (th9, .inl (cI, 8, .inl ul)), (pi, .inr (3, [.ref pia])), (pia, .inl (cI, 384, .inl px)), (cm, .inr (0, [.ref cm1, .ref cm2, .ref cm3])), (cm1, .inl (cI, 24, .inl lea)), (cm2, .inl (cI, 24, .inl upr)), (cm3, .inl (cI, 25, .inl ris)), (pd, .inr (2, [.ref pda, .int pl])), (pda, .inl (cC, 80, .inl tx)), (rd, .inr (4, [.ref pd, .int at_, .int kd, .ref rda])), (rda, .inl (cI, 7, .inl va))]
abbrev ws_mainH (cI cC cZ cR : ClassId) (mm sc sea th th1 th2 th3 th4 th5 th6 th7 th8 th9 pi pia cm cm1 cm2 cm3 pd pda rd rda hh hst sla : Nat) (se : Nat → Int32) (mn : Int32) (ln : Nat → Int32) (hi : Nat → Int32) (wi : Nat → Int32) (br : Nat → Int32) (sp : Nat → Int32) (si : Nat → Int32) (le : Nat → Int32) (un : Nat → Int32) (ul : Nat → Int32) (px : Nat → Int32) (tm : Int32) (ps : Int32) (ft : Int32) (fk : Int32) (lea : Nat → Int32) (upr : Nat → Int32) (ris : Nat → Int32) (pl : Int32) (tx : Nat → Int32) (at_ : Int32) (kd : Int32) (va : Nat → Int32) (nx : Int32) (hm : Int32) (hfu : Nat → Option Nat) : va_W := [(mm, .inr (7, [.ref sc, .ref cm, .ref hh, .ref sla, .ref pd, .ref rd])), (sc, .inr (5, [.ref sea, .ref th, .ref pi, .int tm, .int ps, .int ft, .int fk])), (sea, .inl (cI, 4, .inl se)), (th, .inr (6, [.int mn, .ref th1, .ref th2, .ref th3, .ref th4, .ref th5, .ref th6, .ref th7, .ref th8, .ref th9])), (th1, .inl (cI, 8, .inl ln)), (th2, .inl (cI, 8, .inl hi)), (th3, .inl (cI, 8, .inl wi)), (th4, .inl (cI, 8, .inl br)), (th5, .inl (cI, 8, .inl sp)), (th6, .inl (cI, 8, .inl si)), (th7, .inl (cI, 8, .inl le)), (th8, .inl (cI, 8, .inl un)), (th9, .inl (cI, 8, .inl ul)), (pi, .inr (3, [.ref pia])), (pia, .inl (cI, 384, .inl px)), (cm, .inr (0, [.ref cm1, .ref cm2, .ref cm3])), (cm1, .inl (cI, 24, .inl lea)), (cm2, .inl (cI, 24, .inl upr)), (cm3, .inl (cI, 25, .inl ris)), (pd, .inr (2, [.ref pda, .int pl])), (pda, .inl (cC, 80, .inl tx)), (rd, .inr (4, [.ref pd, .int at_, .int kd, .ref rda])), (rda, .inl (cI, 7, .inl va)), (hh, .inr (1, [.ref hst, .int nx, .int hm])), (hst, .inl (cR, 6, .inr (.inr (.inr (.inr hfu)))))]
-- LeaningLines.isThing
abbrev OUT_X7_isThing : Type := Int32
def f_X7_isThing (mn : Int32) (a0 : Int32) : Option OUT_X7_isThing :=
  bn (f_X7_within a0 0 (mn - 1)) (fun r1 => gb r1 (some (r1)))
theorem uX7_isThing_X7 : ∀ w ∈ wsX70, w ∈ wsX7_isThing := by decide +kernel
theorem kX7_isThing_1 : Cond.fieldLink RX7 10 "LeaningLines" "scene" "LLeaningLines$Scene;" ∈ wsX7_isThing := by decide +kernel
theorem uX7_isThing_X5 : ∀ w ∈ wsX50, w ∈ wsX7_isThing := by decide +kernel
theorem kX7_isThing_3 : Cond.fieldLink RX7 72 "LeaningLines$Scene" "things" "LLeaningLines$Things;" ∈ wsX7_isThing := by decide +kernel
theorem uX7_isThing_X6 : ∀ w ∈ wsX60, w ∈ wsX7_isThing := by decide +kernel
theorem kX7_isThing_5 : Cond.fieldLink RX7 176 "LeaningLines$Things" "many" "I" ∈ wsX7_isThing := by decide +kernel
abbrev R_X7_isThing : Room := { frames := 1, cells := 0, slots := 0, locals := 22 }
set_option maxHeartbeats 4000000 in
set_option maxRecDepth 100000 in
theorem m_X7_isThing (l : Launch) (D : va_G) (cI cC cZ cR : ClassId) (mm sc sea th th1 th2 th3 th4 th5 th6 th7 th8 th9 pi pia cm cm1 cm2 cm3 pd pda rd rda hh sla : Nat) (sz : Nat) (se : Nat → Int32) (mn : Int32) (ln : Nat → Int32) (hi : Nat → Int32) (wi : Nat → Int32) (br : Nat → Int32) (sp : Nat → Int32) (si : Nat → Int32) (le : Nat → Int32) (un : Nat → Int32) (ul : Nat → Int32) (px : Nat → Int32) (tm : Int32) (ps : Int32) (ft : Int32) (fk : Int32) (lea : Nat → Int32) (upr : Nat → Int32) (ris : Nat → Int32) (pl : Int32) (tx : Nat → Int32) (at_ : Int32) (kd : Int32) (va : Nat → Int32)  (a0 : Int32)   (r : OUT_X7_isThing) (hf : f_X7_isThing mn a0 = some r) : Met l yX7_isThing wsX7_isThing R_X7_isThing (cPc D cI cC cZ cR [.ref mm, .int a0] sz (ws_main cI cC cZ cR mm sc sea th th1 th2 th3 th4 th5 th6 th7 th8 th9 pi pia cm cm1 cm2 cm3 pd pda rd rda hh sla se mn ln hi wi br sp si le un ul px tm ps ft fk lea upr ris pl tx at_ kd va)) (cQi D (ws_main cI cC cZ cR mm sc sea th th1 th2 th3 th4 th5 th6 th7 th8 th9 pi pia cm cm1 cm2 cm3 pd pda rd rda hh sla se mn ln hi wi br sp si le un ul px tm ps ft fk lea upr ris pl tx at_ kd va) (va_A (ws_main cI cC cZ cR mm sc sea th th1 th2 th3 th4 th5 th6 th7 th8 th9 pi pia cm cm1 cm2 cm3 pd pda rd rda hh sla se mn ln hi wi br sp si le un ul px tm ps ft fk lea upr ris pl tx at_ kd va) sz) r) 0 0 (va_A (ws_main cI cC cZ cR mm sc sea th th1 th2 th3 th4 th5 th6 th7 th8 th9 pi pia cm cm1 cm2 cm3 pd pda rd rda hh sla se mn ln hi wi br sp si le un ul px tm ps ft fk lea upr ris pl tx at_ kd va) sz) := by
  refine Met.ofW (cc := cX7_isThing) (maxL := 2) (ret := (some .boolean)) (by decide) rfl ?_
  intro p e s m args below meth c s₁ B hml hv
  obtain ⟨rfl, hsz, hP, hK, hD0⟩ := hv
  have hx := B.exec
  have hb := B.bytes
  have hr := B.returns
  have hts := atoms_spec (ws := wsX7_isThing) B.pre
  have hown : s.vm.findClass RX7 = some m.cls := findClass_of_methodNamed B.named
  have hlocks := B.notSynchronized
  subst hsz
  have hD := hD0.self (sz := s.heap.size)
  generalize hAe : va_A (ws_main cI cC cZ cR mm sc sea th th1 th2 th3 th4 th5 th6 th7 th8 th9 pi pia cm cm1 cm2 cm3 pd pda rd rda hh sla se mn ln hi wi br sp si le un ul px tm ps ft fk lea upr ris pl tx at_ kd va) s.heap.size = A at hD ⊢
  skip
  have hA : ∀ q : Nat, s.heap.size ≤ q → A q := fun q h => by rw [← hAe]; exact Or.inr h
  have hS : va_S A s.heap s.heap [] := va_S.rf
  have hl := lv_entry ([.ref mm, .int a0]) (n := 2) (Nat.le_of_ble_eq_true rfl)
  rw [lg_entry_eq]
  generalize (lg_sl ([.ref mm, .int a0]) ++ List.replicate (2 - (lg_sl ([.ref mm, .int a0])).length) Slot.unset).toArray = ls at hl ⊢
  have hl : lv_has ls 2 [(0, .ref mm), (1, .int a0)] := hl
  refine W_absQ (fun Q hQ => ?_)
  refine W.eq (g2 := F0 m 0 ls []) rfl ?_
  have h := hf
  unfold f_X7_isThing at h
  refine lv_iload_n hx hb dX7_isThing_0 rfl (lv_at hl 1 rfl) ?_
  refine lv_iconst (v := 0) hx hb dX7_isThing_1 (by decide) ?_
  refine lv_aload_n hx hb dX7_isThing_2 rfl (lv_at hl 0 rfl) ?_
  refine va_get (D := D) (ci := 7) (v := .ref sc) (C := RX7) (T := TX7) (N := 6) hx hb hts uX7_isThing_X7 hown hK.1 hP 0 rfl rfl 0 (by decide) (hts _ kX7_isThing_1) (fun _ h9 => h9) rfl dX7_isThing_3 ?_
  refine va_get (D := D) (ci := 5) (v := .ref th) (C := RX5) (T := TX5) (N := 7) hx hb hts uX7_isThing_X5 hown hK.1 hP 1 rfl rfl 1 (by decide) (hts _ kX7_isThing_3) (fun _ h9 => h9) rfl dX7_isThing_6 ?_
  refine va_get (D := D) (ci := 6) (v := .int mn) (C := RX6) (T := TX6) (N := 10) hx hb hts uX7_isThing_X6 hown hK.1 hP 3 rfl rfl 0 (by decide) (hts _ kX7_isThing_5) (fun _ h9 => h9) rfl dX7_isThing_9 ?_
  refine lv_iconst (v := 1) hx hb dX7_isThing_12 (by decide) ?_
  refine lv_isub hx hb dX7_isThing_13 ?_
  obtain ⟨r1, hcr1, h⟩ := bn_sp h
  have hPc := hP.sub (ws' := []) [] rfl
  have hDc := hD.sub (ws' := []) [] (by decide) rfl
  have hFc := va_free (wc := []) hD hS hA [] rfl
  refine va_calli (va_runS (As := [.int a0, .int 0, .int (mn - 1)]) (rest := []) ⟨hx, hb, hml, hown, hts⟩ (m_X7_within l D cI cC cZ cR  _  a0 0 (mn - 1)   r1 hcr1) (va_cwS 3 hts gX7_isThing_X7_within rfl rfl rfl (by decide +kernel) ⟨Nat.le_of_ble_eq_true rfl, Nat.le_of_ble_eq_true rfl⟩) (cPc_ps hPc hK hDc) rfl rfl hl.1 rfl (lv_room (Nat.le_of_ble_eq_true rfl)) dX7_isThing_14 ⟨Nat.le_of_ble_eq_true rfl, Nat.le_of_ble_eq_true rfl⟩) hS (fun q _ h => hFc q h) hFc (fun xq u t H1 locs ht hvm hw hB hz1 hk1 hS => ?_)
  rw [hw]
  obtain ⟨hP1, hD1⟩ := hB
  rw [ht] at hP1
  obtain ⟨hP, hD⟩ := va_join (wr := [(mm, .inr (7, [.ref sc, .ref cm, .ref hh, .ref sla, .ref pd, .ref rd])), (sc, .inr (5, [.ref sea, .ref th, .ref pi, .int tm, .int ps, .int ft, .int fk])), (sea, .inl (cI, 4, .inl se)), (th, .inr (6, [.int mn, .ref th1, .ref th2, .ref th3, .ref th4, .ref th5, .ref th6, .ref th7, .ref th8, .ref th9])), (th1, .inl (cI, 8, .inl ln)), (th2, .inl (cI, 8, .inl hi)), (th3, .inl (cI, 8, .inl wi)), (th4, .inl (cI, 8, .inl br)), (th5, .inl (cI, 8, .inl sp)), (th6, .inl (cI, 8, .inl si)), (th7, .inl (cI, 8, .inl le)), (th8, .inl (cI, 8, .inl un)), (th9, .inl (cI, 8, .inl ul)), (pi, .inr (3, [.ref pia])), (pia, .inl (cI, 384, .inl px)), (cm, .inr (0, [.ref cm1, .ref cm2, .ref cm3])), (cm1, .inl (cI, 24, .inl lea)), (cm2, .inl (cI, 24, .inl upr)), (cm3, .inl (cI, 25, .inl ris)), (pd, .inr (2, [.ref pda, .int pl])), (pda, .inl (cC, 80, .inl tx)), (rd, .inr (4, [.ref pd, .int at_, .int kd, .ref rda])), (rda, .inl (cI, 7, .inl va))]) (w1 := []) hP hD [] [0, 1, 2, 3, 4, 5, 6, 7, 8, 9, 10, 11, 12, 13, 14, 15, 16, 17, 18, 19, 20, 21, 22] rfl rfl (by decide) (by decide) hk1 hFc hP1 hD1
  generalize H1 = H at hP hS ⊢
  have hP : va_P D vwCl (ws_main cI cC cZ cR mm sc sea th th1 th2 th3 th4 th5 th6 th7 th8 th9 pi pia cm cm1 cm2 cm3 pd pda rd rda hh sla se mn ln hi wi br sp si le un ul px tm ps ft fk lea upr ris pl tx at_ kd va) H := hP
  have hD : va_D A (ws_main cI cC cZ cR mm sc sea th th1 th2 th3 th4 th5 th6 th7 th8 th9 pi pia cm cm1 cm2 cm3 pd pda rd rda hh sla se mn ln hi wi br sp si le un ul px tm ps ft fk lea upr ris pl tx at_ kd va) := hD
  obtain ⟨hnr, h⟩ := gb_sp h
  have e9 := Option.some.inj h
  subst e9
  rw [hQ]
  exact W.zret (v := r1) hx hb hr (nar_b hnr) (fun t ht hW => ⟨⟨r1, (), rfl, rfl, by rw [ht]; exact hP, hD⟩, hS.F ht⟩) hS.2.2 dX7_isThing_17
-- LeaningLines.errorOfThing
abbrev OUT_X7_errorOfThing : Type := Int32
def f_X7_errorOfThing (mn : Int32) (a0 : Int32) (a1 : Int32) (a2 : Int32) (a3 : Int32) (a4 : Int32) : Option OUT_X7_errorOfThing :=
  bn (f_X7_isPlace a0 a1) (fun r1 => (if r1 = 0 then some ((-2)) else bn (f_X7_within a2 1 16) (fun r2 => (if r2 = 0 then some ((-2)) else bn (f_X7_within a3 1 24) (fun r3 => (if r3 = 0 then some ((-2)) else bn (f_X7_within a4 1 9) (fun r4 => (if ¬ r4 = 0 then (if 8 ≤ mn then some ((-4)) else some (0)) else some ((-2))))))))))
theorem uX7_errorOfThing_X7 : ∀ w ∈ wsX70, w ∈ wsX7_errorOfThing := by decide +kernel
theorem kX7_errorOfThing_1 : Cond.fieldLink RX7 10 "LeaningLines" "scene" "LLeaningLines$Scene;" ∈ wsX7_errorOfThing := by decide +kernel
theorem uX7_errorOfThing_X5 : ∀ w ∈ wsX50, w ∈ wsX7_errorOfThing := by decide +kernel
theorem kX7_errorOfThing_3 : Cond.fieldLink RX7 72 "LeaningLines$Scene" "things" "LLeaningLines$Things;" ∈ wsX7_errorOfThing := by decide +kernel
theorem uX7_errorOfThing_X6 : ∀ w ∈ wsX60, w ∈ wsX7_errorOfThing := by decide +kernel
theorem kX7_errorOfThing_5 : Cond.fieldLink RX7 176 "LeaningLines$Things" "many" "I" ∈ wsX7_errorOfThing := by decide +kernel
abbrev R_X7_errorOfThing : Room := { frames := 2, cells := 0, slots := 0, locals := 43 }
set_option maxHeartbeats 4000000 in
set_option maxRecDepth 100000 in
theorem m_X7_errorOfThing (l : Launch) (D : va_G) (cI cC cZ cR : ClassId) (mm sc sea th th1 th2 th3 th4 th5 th6 th7 th8 th9 pi pia cm cm1 cm2 cm3 pd pda rd rda hh sla : Nat) (sz : Nat) (se : Nat → Int32) (mn : Int32) (ln : Nat → Int32) (hi : Nat → Int32) (wi : Nat → Int32) (br : Nat → Int32) (sp : Nat → Int32) (si : Nat → Int32) (le : Nat → Int32) (un : Nat → Int32) (ul : Nat → Int32) (px : Nat → Int32) (tm : Int32) (ps : Int32) (ft : Int32) (fk : Int32) (lea : Nat → Int32) (upr : Nat → Int32) (ris : Nat → Int32) (pl : Int32) (tx : Nat → Int32) (at_ : Int32) (kd : Int32) (va : Nat → Int32)  (a0 : Int32) (a1 : Int32) (a2 : Int32) (a3 : Int32) (a4 : Int32)   (r : OUT_X7_errorOfThing) (hf : f_X7_errorOfThing mn a0 a1 a2 a3 a4 = some r) : Met l yX7_errorOfThing wsX7_errorOfThing R_X7_errorOfThing (cPc D cI cC cZ cR [.ref mm, .int a0, .int a1, .int a2, .int a3, .int a4] sz (ws_main cI cC cZ cR mm sc sea th th1 th2 th3 th4 th5 th6 th7 th8 th9 pi pia cm cm1 cm2 cm3 pd pda rd rda hh sla se mn ln hi wi br sp si le un ul px tm ps ft fk lea upr ris pl tx at_ kd va)) (cQi D (ws_main cI cC cZ cR mm sc sea th th1 th2 th3 th4 th5 th6 th7 th8 th9 pi pia cm cm1 cm2 cm3 pd pda rd rda hh sla se mn ln hi wi br sp si le un ul px tm ps ft fk lea upr ris pl tx at_ kd va) (va_A (ws_main cI cC cZ cR mm sc sea th th1 th2 th3 th4 th5 th6 th7 th8 th9 pi pia cm cm1 cm2 cm3 pd pda rd rda hh sla se mn ln hi wi br sp si le un ul px tm ps ft fk lea upr ris pl tx at_ kd va) sz) r) 0 0 (va_A (ws_main cI cC cZ cR mm sc sea th th1 th2 th3 th4 th5 th6 th7 th8 th9 pi pia cm cm1 cm2 cm3 pd pda rd rda hh sla se mn ln hi wi br sp si le un ul px tm ps ft fk lea upr ris pl tx at_ kd va) sz) := by
  refine Met.ofW (cc := cX7_errorOfThing) (maxL := 6) (ret := (some .int)) (by decide) rfl ?_
  intro p e s m args below meth c s₁ B hml hv
  obtain ⟨rfl, hsz, hP, hK, hD0⟩ := hv
  have hx := B.exec
  have hb := B.bytes
  have hr := B.returns
  have hts := atoms_spec (ws := wsX7_errorOfThing) B.pre
  have hown : s.vm.findClass RX7 = some m.cls := findClass_of_methodNamed B.named
  have hlocks := B.notSynchronized
  subst hsz
  have hD := hD0.self (sz := s.heap.size)
  generalize hAe : va_A (ws_main cI cC cZ cR mm sc sea th th1 th2 th3 th4 th5 th6 th7 th8 th9 pi pia cm cm1 cm2 cm3 pd pda rd rda hh sla se mn ln hi wi br sp si le un ul px tm ps ft fk lea upr ris pl tx at_ kd va) s.heap.size = A at hD ⊢
  skip
  have hA : ∀ q : Nat, s.heap.size ≤ q → A q := fun q h => by rw [← hAe]; exact Or.inr h
  have hS : va_S A s.heap s.heap [] := va_S.rf
  have hl := lv_entry ([.ref mm, .int a0, .int a1, .int a2, .int a3, .int a4]) (n := 6) (Nat.le_of_ble_eq_true rfl)
  rw [lg_entry_eq]
  generalize (lg_sl ([.ref mm, .int a0, .int a1, .int a2, .int a3, .int a4]) ++ List.replicate (6 - (lg_sl ([.ref mm, .int a0, .int a1, .int a2, .int a3, .int a4])).length) Slot.unset).toArray = ls at hl ⊢
  have hl : lv_has ls 6 [(0, .ref mm), (1, .int a0), (2, .int a1), (3, .int a2), (4, .int a3), (5, .int a4)] := hl
  refine W_absQ (fun Q hQ => ?_)
  refine W.eq (g2 := F0 m 0 ls []) rfl ?_
  have h := hf
  unfold f_X7_errorOfThing at h
  refine lv_iload_n hx hb dX7_errorOfThing_0 rfl (lv_at hl 1 rfl) ?_
  refine lv_iload_n hx hb dX7_errorOfThing_1 rfl (lv_at hl 2 rfl) ?_
  obtain ⟨r1, hcr1, h⟩ := bn_sp h
  have hPc := hP.sub (ws' := []) [] rfl
  have hDc := hD.sub (ws' := []) [] (by decide) rfl
  have hFc := va_free (wc := []) hD hS hA [] rfl
  refine va_calli (va_runS (As := [.int a0, .int a1]) (rest := []) ⟨hx, hb, hml, hown, hts⟩ (m_X7_isPlace l D cI cC cZ cR  _  a0 a1   r1 hcr1) (va_cwS 2 hts gX7_errorOfThing_X7_isPlace rfl rfl rfl (by decide +kernel) ⟨Nat.le_of_ble_eq_true rfl, Nat.le_of_ble_eq_true rfl⟩) (cPc_ps hPc hK hDc) rfl rfl hl.1 rfl (lv_room (Nat.le_of_ble_eq_true rfl)) dX7_errorOfThing_2 ⟨Nat.le_of_ble_eq_true rfl, Nat.le_of_ble_eq_true rfl⟩) hS (fun q _ h => hFc q h) hFc (fun xq u t H1 locs ht hvm hw hB hz1 hk1 hS => ?_)
  rw [hw]
  obtain ⟨hP1, hD1⟩ := hB
  rw [ht] at hP1
  obtain ⟨hP, hD⟩ := va_join (wr := [(mm, .inr (7, [.ref sc, .ref cm, .ref hh, .ref sla, .ref pd, .ref rd])), (sc, .inr (5, [.ref sea, .ref th, .ref pi, .int tm, .int ps, .int ft, .int fk])), (sea, .inl (cI, 4, .inl se)), (th, .inr (6, [.int mn, .ref th1, .ref th2, .ref th3, .ref th4, .ref th5, .ref th6, .ref th7, .ref th8, .ref th9])), (th1, .inl (cI, 8, .inl ln)), (th2, .inl (cI, 8, .inl hi)), (th3, .inl (cI, 8, .inl wi)), (th4, .inl (cI, 8, .inl br)), (th5, .inl (cI, 8, .inl sp)), (th6, .inl (cI, 8, .inl si)), (th7, .inl (cI, 8, .inl le)), (th8, .inl (cI, 8, .inl un)), (th9, .inl (cI, 8, .inl ul)), (pi, .inr (3, [.ref pia])), (pia, .inl (cI, 384, .inl px)), (cm, .inr (0, [.ref cm1, .ref cm2, .ref cm3])), (cm1, .inl (cI, 24, .inl lea)), (cm2, .inl (cI, 24, .inl upr)), (cm3, .inl (cI, 25, .inl ris)), (pd, .inr (2, [.ref pda, .int pl])), (pda, .inl (cC, 80, .inl tx)), (rd, .inr (4, [.ref pd, .int at_, .int kd, .ref rda])), (rda, .inl (cI, 7, .inl va))]) (w1 := []) hP hD [] [0, 1, 2, 3, 4, 5, 6, 7, 8, 9, 10, 11, 12, 13, 14, 15, 16, 17, 18, 19, 20, 21, 22] rfl rfl (by decide) (by decide) hk1 hFc hP1 hD1
  generalize H1 = H at hP hS ⊢
  have hP : va_P D vwCl (ws_main cI cC cZ cR mm sc sea th th1 th2 th3 th4 th5 th6 th7 th8 th9 pi pia cm cm1 cm2 cm3 pd pda rd rda hh sla se mn ln hi wi br sp si le un ul px tm ps ft fk lea upr ris pl tx at_ kd va) H := hP
  have hD : va_D A (ws_main cI cC cZ cR mm sc sea th th1 th2 th3 th4 th5 th6 th7 th8 th9 pi pia cm cm1 cm2 cm3 pd pda rd rda hh sla se mn ln hi wi br sp si le un ul px tm ps ft fk lea upr ris pl tx at_ kd va) := hD
  refine lv_if_eq (tgt := 40) hx hb dX7_errorOfThing_5 (by decide) (fun c9 => ?_) (fun c9 => ?_)
  · replace h := br_p c9 h
    refine lv_bipush (v := (-2)) hx hb dX7_errorOfThing_40 (by decide) ?_
    have e9 := Option.some.inj h
    subst e9
    rw [hQ]
    exact W.iret (v := (-2)) hx hb hr (fun t ht hW => ⟨⟨(-2), (), rfl, rfl, by rw [ht]; exact hP, hD⟩, hS.F ht⟩) hS.2.2 dX7_errorOfThing_42
  · replace h := br_n c9 h
    refine lv_iload_n hx hb dX7_errorOfThing_8 rfl (lv_at hl 3 rfl) ?_
    refine lv_iconst (v := 1) hx hb dX7_errorOfThing_9 (by decide) ?_
    refine lv_bipush (v := 16) hx hb dX7_errorOfThing_10 (by decide) ?_
    obtain ⟨r2, hcr2, h⟩ := bn_sp h
    have hPc := hP.sub (ws' := []) [] rfl
    have hDc := hD.sub (ws' := []) [] (by decide) rfl
    have hFc := va_free (wc := []) hD hS hA [] rfl
    refine va_calli (va_runS (As := [.int a2, .int 1, .int 16]) (rest := []) ⟨hx, hb, hml, hown, hts⟩ (m_X7_within l D cI cC cZ cR  _  a2 1 16   r2 hcr2) (va_cwS 3 hts gX7_errorOfThing_X7_within rfl rfl rfl (by decide +kernel) ⟨Nat.le_of_ble_eq_true rfl, Nat.le_of_ble_eq_true rfl⟩) (cPc_ps hPc hK hDc) rfl rfl hl.1 rfl (lv_room (Nat.le_of_ble_eq_true rfl)) dX7_errorOfThing_12 ⟨Nat.le_of_ble_eq_true rfl, Nat.le_of_ble_eq_true rfl⟩) hS (fun q _ h => hFc q h) hFc (fun xq u t H1 locs ht hvm hw hB hz1 hk1 hS => ?_)
    rw [hw]
    obtain ⟨hP1, hD1⟩ := hB
    rw [ht] at hP1
    obtain ⟨hP, hD⟩ := va_join (wr := [(mm, .inr (7, [.ref sc, .ref cm, .ref hh, .ref sla, .ref pd, .ref rd])), (sc, .inr (5, [.ref sea, .ref th, .ref pi, .int tm, .int ps, .int ft, .int fk])), (sea, .inl (cI, 4, .inl se)), (th, .inr (6, [.int mn, .ref th1, .ref th2, .ref th3, .ref th4, .ref th5, .ref th6, .ref th7, .ref th8, .ref th9])), (th1, .inl (cI, 8, .inl ln)), (th2, .inl (cI, 8, .inl hi)), (th3, .inl (cI, 8, .inl wi)), (th4, .inl (cI, 8, .inl br)), (th5, .inl (cI, 8, .inl sp)), (th6, .inl (cI, 8, .inl si)), (th7, .inl (cI, 8, .inl le)), (th8, .inl (cI, 8, .inl un)), (th9, .inl (cI, 8, .inl ul)), (pi, .inr (3, [.ref pia])), (pia, .inl (cI, 384, .inl px)), (cm, .inr (0, [.ref cm1, .ref cm2, .ref cm3])), (cm1, .inl (cI, 24, .inl lea)), (cm2, .inl (cI, 24, .inl upr)), (cm3, .inl (cI, 25, .inl ris)), (pd, .inr (2, [.ref pda, .int pl])), (pda, .inl (cC, 80, .inl tx)), (rd, .inr (4, [.ref pd, .int at_, .int kd, .ref rda])), (rda, .inl (cI, 7, .inl va))]) (w1 := []) hP hD [] [0, 1, 2, 3, 4, 5, 6, 7, 8, 9, 10, 11, 12, 13, 14, 15, 16, 17, 18, 19, 20, 21, 22] rfl rfl (by decide) (by decide) hk1 hFc hP1 hD1
    generalize H1 = H at hP hS ⊢
    have hP : va_P D vwCl (ws_main cI cC cZ cR mm sc sea th th1 th2 th3 th4 th5 th6 th7 th8 th9 pi pia cm cm1 cm2 cm3 pd pda rd rda hh sla se mn ln hi wi br sp si le un ul px tm ps ft fk lea upr ris pl tx at_ kd va) H := hP
    have hD : va_D A (ws_main cI cC cZ cR mm sc sea th th1 th2 th3 th4 th5 th6 th7 th8 th9 pi pia cm cm1 cm2 cm3 pd pda rd rda hh sla se mn ln hi wi br sp si le un ul px tm ps ft fk lea upr ris pl tx at_ kd va) := hD
    refine lv_if_eq (tgt := 40) hx hb dX7_errorOfThing_15 (by decide) (fun c8 => ?_) (fun c8 => ?_)
    · replace h := br_p c8 h
      refine lv_bipush (v := (-2)) hx hb dX7_errorOfThing_40 (by decide) ?_
      have e9 := Option.some.inj h
      subst e9
      rw [hQ]
      exact W.iret (v := (-2)) hx hb hr (fun t ht hW => ⟨⟨(-2), (), rfl, rfl, by rw [ht]; exact hP, hD⟩, hS.F ht⟩) hS.2.2 dX7_errorOfThing_42
    · replace h := br_n c8 h
      refine lv_iload hx hb dX7_errorOfThing_18 (lv_at hl 4 rfl) ?_
      refine lv_iconst (v := 1) hx hb dX7_errorOfThing_20 (by decide) ?_
      refine lv_bipush (v := 24) hx hb dX7_errorOfThing_21 (by decide) ?_
      obtain ⟨r3, hcr3, h⟩ := bn_sp h
      have hPc := hP.sub (ws' := []) [] rfl
      have hDc := hD.sub (ws' := []) [] (by decide) rfl
      have hFc := va_free (wc := []) hD hS hA [] rfl
      refine va_calli (va_runS (As := [.int a3, .int 1, .int 24]) (rest := []) ⟨hx, hb, hml, hown, hts⟩ (m_X7_within l D cI cC cZ cR  _  a3 1 24   r3 hcr3) (va_cwS 3 hts gX7_errorOfThing_X7_within rfl rfl rfl (by decide +kernel) ⟨Nat.le_of_ble_eq_true rfl, Nat.le_of_ble_eq_true rfl⟩) (cPc_ps hPc hK hDc) rfl rfl hl.1 rfl (lv_room (Nat.le_of_ble_eq_true rfl)) dX7_errorOfThing_23 ⟨Nat.le_of_ble_eq_true rfl, Nat.le_of_ble_eq_true rfl⟩) hS (fun q _ h => hFc q h) hFc (fun xq u t H1 locs ht hvm hw hB hz1 hk1 hS => ?_)
      rw [hw]
      obtain ⟨hP1, hD1⟩ := hB
      rw [ht] at hP1
      obtain ⟨hP, hD⟩ := va_join (wr := [(mm, .inr (7, [.ref sc, .ref cm, .ref hh, .ref sla, .ref pd, .ref rd])), (sc, .inr (5, [.ref sea, .ref th, .ref pi, .int tm, .int ps, .int ft, .int fk])), (sea, .inl (cI, 4, .inl se)), (th, .inr (6, [.int mn, .ref th1, .ref th2, .ref th3, .ref th4, .ref th5, .ref th6, .ref th7, .ref th8, .ref th9])), (th1, .inl (cI, 8, .inl ln)), (th2, .inl (cI, 8, .inl hi)), (th3, .inl (cI, 8, .inl wi)), (th4, .inl (cI, 8, .inl br)), (th5, .inl (cI, 8, .inl sp)), (th6, .inl (cI, 8, .inl si)), (th7, .inl (cI, 8, .inl le)), (th8, .inl (cI, 8, .inl un)), (th9, .inl (cI, 8, .inl ul)), (pi, .inr (3, [.ref pia])), (pia, .inl (cI, 384, .inl px)), (cm, .inr (0, [.ref cm1, .ref cm2, .ref cm3])), (cm1, .inl (cI, 24, .inl lea)), (cm2, .inl (cI, 24, .inl upr)), (cm3, .inl (cI, 25, .inl ris)), (pd, .inr (2, [.ref pda, .int pl])), (pda, .inl (cC, 80, .inl tx)), (rd, .inr (4, [.ref pd, .int at_, .int kd, .ref rda])), (rda, .inl (cI, 7, .inl va))]) (w1 := []) hP hD [] [0, 1, 2, 3, 4, 5, 6, 7, 8, 9, 10, 11, 12, 13, 14, 15, 16, 17, 18, 19, 20, 21, 22] rfl rfl (by decide) (by decide) hk1 hFc hP1 hD1
      generalize H1 = H at hP hS ⊢
      have hP : va_P D vwCl (ws_main cI cC cZ cR mm sc sea th th1 th2 th3 th4 th5 th6 th7 th8 th9 pi pia cm cm1 cm2 cm3 pd pda rd rda hh sla se mn ln hi wi br sp si le un ul px tm ps ft fk lea upr ris pl tx at_ kd va) H := hP
      have hD : va_D A (ws_main cI cC cZ cR mm sc sea th th1 th2 th3 th4 th5 th6 th7 th8 th9 pi pia cm cm1 cm2 cm3 pd pda rd rda hh sla se mn ln hi wi br sp si le un ul px tm ps ft fk lea upr ris pl tx at_ kd va) := hD
      refine lv_if_eq (tgt := 40) hx hb dX7_errorOfThing_26 (by decide) (fun c7 => ?_) (fun c7 => ?_)
      · replace h := br_p c7 h
        refine lv_bipush (v := (-2)) hx hb dX7_errorOfThing_40 (by decide) ?_
        have e9 := Option.some.inj h
        subst e9
        rw [hQ]
        exact W.iret (v := (-2)) hx hb hr (fun t ht hW => ⟨⟨(-2), (), rfl, rfl, by rw [ht]; exact hP, hD⟩, hS.F ht⟩) hS.2.2 dX7_errorOfThing_42
      · replace h := br_n c7 h
        refine lv_iload hx hb dX7_errorOfThing_29 (lv_at hl 5 rfl) ?_
        refine lv_iconst (v := 1) hx hb dX7_errorOfThing_31 (by decide) ?_
        refine lv_bipush (v := 9) hx hb dX7_errorOfThing_32 (by decide) ?_
        obtain ⟨r4, hcr4, h⟩ := bn_sp h
        have hPc := hP.sub (ws' := []) [] rfl
        have hDc := hD.sub (ws' := []) [] (by decide) rfl
        have hFc := va_free (wc := []) hD hS hA [] rfl
        refine va_calli (va_runS (As := [.int a4, .int 1, .int 9]) (rest := []) ⟨hx, hb, hml, hown, hts⟩ (m_X7_within l D cI cC cZ cR  _  a4 1 9   r4 hcr4) (va_cwS 3 hts gX7_errorOfThing_X7_within rfl rfl rfl (by decide +kernel) ⟨Nat.le_of_ble_eq_true rfl, Nat.le_of_ble_eq_true rfl⟩) (cPc_ps hPc hK hDc) rfl rfl hl.1 rfl (lv_room (Nat.le_of_ble_eq_true rfl)) dX7_errorOfThing_34 ⟨Nat.le_of_ble_eq_true rfl, Nat.le_of_ble_eq_true rfl⟩) hS (fun q _ h => hFc q h) hFc (fun xq u t H1 locs ht hvm hw hB hz1 hk1 hS => ?_)
        rw [hw]
        obtain ⟨hP1, hD1⟩ := hB
        rw [ht] at hP1
        obtain ⟨hP, hD⟩ := va_join (wr := [(mm, .inr (7, [.ref sc, .ref cm, .ref hh, .ref sla, .ref pd, .ref rd])), (sc, .inr (5, [.ref sea, .ref th, .ref pi, .int tm, .int ps, .int ft, .int fk])), (sea, .inl (cI, 4, .inl se)), (th, .inr (6, [.int mn, .ref th1, .ref th2, .ref th3, .ref th4, .ref th5, .ref th6, .ref th7, .ref th8, .ref th9])), (th1, .inl (cI, 8, .inl ln)), (th2, .inl (cI, 8, .inl hi)), (th3, .inl (cI, 8, .inl wi)), (th4, .inl (cI, 8, .inl br)), (th5, .inl (cI, 8, .inl sp)), (th6, .inl (cI, 8, .inl si)), (th7, .inl (cI, 8, .inl le)), (th8, .inl (cI, 8, .inl un)), (th9, .inl (cI, 8, .inl ul)), (pi, .inr (3, [.ref pia])), (pia, .inl (cI, 384, .inl px)), (cm, .inr (0, [.ref cm1, .ref cm2, .ref cm3])), (cm1, .inl (cI, 24, .inl lea)), (cm2, .inl (cI, 24, .inl upr)), (cm3, .inl (cI, 25, .inl ris)), (pd, .inr (2, [.ref pda, .int pl])), (pda, .inl (cC, 80, .inl tx)), (rd, .inr (4, [.ref pd, .int at_, .int kd, .ref rda])), (rda, .inl (cI, 7, .inl va))]) (w1 := []) hP hD [] [0, 1, 2, 3, 4, 5, 6, 7, 8, 9, 10, 11, 12, 13, 14, 15, 16, 17, 18, 19, 20, 21, 22] rfl rfl (by decide) (by decide) hk1 hFc hP1 hD1
        generalize H1 = H at hP hS ⊢
        have hP : va_P D vwCl (ws_main cI cC cZ cR mm sc sea th th1 th2 th3 th4 th5 th6 th7 th8 th9 pi pia cm cm1 cm2 cm3 pd pda rd rda hh sla se mn ln hi wi br sp si le un ul px tm ps ft fk lea upr ris pl tx at_ kd va) H := hP
        have hD : va_D A (ws_main cI cC cZ cR mm sc sea th th1 th2 th3 th4 th5 th6 th7 th8 th9 pi pia cm cm1 cm2 cm3 pd pda rd rda hh sla se mn ln hi wi br sp si le un ul px tm ps ft fk lea upr ris pl tx at_ kd va) := hD
        refine lv_if_ne (tgt := 43) hx hb dX7_errorOfThing_37 (by decide) (fun c6 => ?_) (fun c6 => ?_)
        · replace h := br_p c6 h
          refine lv_aload_n hx hb dX7_errorOfThing_43 rfl (lv_at hl 0 rfl) ?_
          refine va_get (D := D) (ci := 7) (v := .ref sc) (C := RX7) (T := TX7) (N := 6) hx hb hts uX7_errorOfThing_X7 hown hK.1 hP 0 rfl rfl 0 (by decide) (hts _ kX7_errorOfThing_1) (fun _ h9 => h9) rfl dX7_errorOfThing_44 ?_
          refine va_get (D := D) (ci := 5) (v := .ref th) (C := RX5) (T := TX5) (N := 7) hx hb hts uX7_errorOfThing_X5 hown hK.1 hP 1 rfl rfl 1 (by decide) (hts _ kX7_errorOfThing_3) (fun _ h9 => h9) rfl dX7_errorOfThing_47 ?_
          refine va_get (D := D) (ci := 6) (v := .int mn) (C := RX6) (T := TX6) (N := 10) hx hb hts uX7_errorOfThing_X6 hown hK.1 hP 3 rfl rfl 0 (by decide) (hts _ kX7_errorOfThing_5) (fun _ h9 => h9) rfl dX7_errorOfThing_50 ?_
          refine lv_bipush (v := 8) hx hb dX7_errorOfThing_53 (by decide) ?_
          refine lv_icmp_ge (tgt := 62) hx hb dX7_errorOfThing_55 (by decide) (fun c5 => ?_) (fun c5 => ?_)
          · replace h := br_p c5 h
            refine lv_bipush (v := (-4)) hx hb dX7_errorOfThing_62 (by decide) ?_
            have e9 := Option.some.inj h
            subst e9
            rw [hQ]
            exact W.iret (v := (-4)) hx hb hr (fun t ht hW => ⟨⟨(-4), (), rfl, rfl, by rw [ht]; exact hP, hD⟩, hS.F ht⟩) hS.2.2 dX7_errorOfThing_64
          · replace h := br_n c5 h
            refine lv_iconst (v := 0) hx hb dX7_errorOfThing_58 (by decide) ?_
            refine lv_goto (tgt := 64) hx hb dX7_errorOfThing_59 (by decide) ?_
            have e9 := Option.some.inj h
            subst e9
            rw [hQ]
            exact W.iret (v := 0) hx hb hr (fun t ht hW => ⟨⟨0, (), rfl, rfl, by rw [ht]; exact hP, hD⟩, hS.F ht⟩) hS.2.2 dX7_errorOfThing_64
        · replace h := br_n (not_not_intro c6) h
          refine lv_bipush (v := (-2)) hx hb dX7_errorOfThing_40 (by decide) ?_
          have e9 := Option.some.inj h
          subst e9
          rw [hQ]
          exact W.iret (v := (-2)) hx hb hr (fun t ht hW => ⟨⟨(-2), (), rfl, rfl, by rw [ht]; exact hP, hD⟩, hS.F ht⟩) hS.2.2 dX7_errorOfThing_42
-- LeaningLines.errorOfFlash
abbrev OUT_X7_errorOfFlash : Type := Int32
def f_X7_errorOfFlash (a0 : Int32) (a1 : Int32) : Option OUT_X7_errorOfFlash :=
  bn (f_X7_within a0 0 99) (fun r1 => (if r1 = 0 then some ((-2)) else bn (f_X7_within a1 1 20) (fun r2 => (if r2 = 0 then some ((-2)) else some (0)))))
abbrev R_X7_errorOfFlash : Room := { frames := 1, cells := 0, slots := 0, locals := 22 }
set_option maxHeartbeats 4000000 in
set_option maxRecDepth 100000 in
theorem m_X7_errorOfFlash (l : Launch) (D : va_G) (cI cC cZ cR : ClassId) (mm sc sea th th1 th2 th3 th4 th5 th6 th7 th8 th9 pi pia cm cm1 cm2 cm3 pd pda rd rda hh sla : Nat) (sz : Nat) (se : Nat → Int32) (mn : Int32) (ln : Nat → Int32) (hi : Nat → Int32) (wi : Nat → Int32) (br : Nat → Int32) (sp : Nat → Int32) (si : Nat → Int32) (le : Nat → Int32) (un : Nat → Int32) (ul : Nat → Int32) (px : Nat → Int32) (tm : Int32) (ps : Int32) (ft : Int32) (fk : Int32) (lea : Nat → Int32) (upr : Nat → Int32) (ris : Nat → Int32) (pl : Int32) (tx : Nat → Int32) (at_ : Int32) (kd : Int32) (va : Nat → Int32)  (a0 : Int32) (a1 : Int32)   (r : OUT_X7_errorOfFlash) (hf : f_X7_errorOfFlash a0 a1 = some r) : Met l yX7_errorOfFlash wsX7_errorOfFlash R_X7_errorOfFlash (cPc D cI cC cZ cR [.ref mm, .int a0, .int a1] sz (ws_main cI cC cZ cR mm sc sea th th1 th2 th3 th4 th5 th6 th7 th8 th9 pi pia cm cm1 cm2 cm3 pd pda rd rda hh sla se mn ln hi wi br sp si le un ul px tm ps ft fk lea upr ris pl tx at_ kd va)) (cQi D (ws_main cI cC cZ cR mm sc sea th th1 th2 th3 th4 th5 th6 th7 th8 th9 pi pia cm cm1 cm2 cm3 pd pda rd rda hh sla se mn ln hi wi br sp si le un ul px tm ps ft fk lea upr ris pl tx at_ kd va) (va_A (ws_main cI cC cZ cR mm sc sea th th1 th2 th3 th4 th5 th6 th7 th8 th9 pi pia cm cm1 cm2 cm3 pd pda rd rda hh sla se mn ln hi wi br sp si le un ul px tm ps ft fk lea upr ris pl tx at_ kd va) sz) r) 0 0 (va_A (ws_main cI cC cZ cR mm sc sea th th1 th2 th3 th4 th5 th6 th7 th8 th9 pi pia cm cm1 cm2 cm3 pd pda rd rda hh sla se mn ln hi wi br sp si le un ul px tm ps ft fk lea upr ris pl tx at_ kd va) sz) := by
  refine Met.ofW (cc := cX7_errorOfFlash) (maxL := 3) (ret := (some .int)) (by decide) rfl ?_
  intro p e s m args below meth c s₁ B hml hv
  obtain ⟨rfl, hsz, hP, hK, hD0⟩ := hv
  have hx := B.exec
  have hb := B.bytes
  have hr := B.returns
  have hts := atoms_spec (ws := wsX7_errorOfFlash) B.pre
  have hown : s.vm.findClass RX7 = some m.cls := findClass_of_methodNamed B.named
  have hlocks := B.notSynchronized
  subst hsz
  have hD := hD0.self (sz := s.heap.size)
  generalize hAe : va_A (ws_main cI cC cZ cR mm sc sea th th1 th2 th3 th4 th5 th6 th7 th8 th9 pi pia cm cm1 cm2 cm3 pd pda rd rda hh sla se mn ln hi wi br sp si le un ul px tm ps ft fk lea upr ris pl tx at_ kd va) s.heap.size = A at hD ⊢
  skip
  have hA : ∀ q : Nat, s.heap.size ≤ q → A q := fun q h => by rw [← hAe]; exact Or.inr h
  have hS : va_S A s.heap s.heap [] := va_S.rf
  have hl := lv_entry ([.ref mm, .int a0, .int a1]) (n := 3) (Nat.le_of_ble_eq_true rfl)
  rw [lg_entry_eq]
  generalize (lg_sl ([.ref mm, .int a0, .int a1]) ++ List.replicate (3 - (lg_sl ([.ref mm, .int a0, .int a1])).length) Slot.unset).toArray = ls at hl ⊢
  have hl : lv_has ls 3 [(0, .ref mm), (1, .int a0), (2, .int a1)] := hl
  refine W_absQ (fun Q hQ => ?_)
  refine W.eq (g2 := F0 m 0 ls []) rfl ?_
  have h := hf
  unfold f_X7_errorOfFlash at h
  refine lv_iload_n hx hb dX7_errorOfFlash_0 rfl (lv_at hl 1 rfl) ?_
  refine lv_iconst (v := 0) hx hb dX7_errorOfFlash_1 (by decide) ?_
  refine lv_bipush (v := 99) hx hb dX7_errorOfFlash_2 (by decide) ?_
  obtain ⟨r1, hcr1, h⟩ := bn_sp h
  have hPc := hP.sub (ws' := []) [] rfl
  have hDc := hD.sub (ws' := []) [] (by decide) rfl
  have hFc := va_free (wc := []) hD hS hA [] rfl
  refine va_calli (va_runS (As := [.int a0, .int 0, .int 99]) (rest := []) ⟨hx, hb, hml, hown, hts⟩ (m_X7_within l D cI cC cZ cR  _  a0 0 99   r1 hcr1) (va_cwS 3 hts gX7_errorOfFlash_X7_within rfl rfl rfl (by decide +kernel) ⟨Nat.le_of_ble_eq_true rfl, Nat.le_of_ble_eq_true rfl⟩) (cPc_ps hPc hK hDc) rfl rfl hl.1 rfl (lv_room (Nat.le_of_ble_eq_true rfl)) dX7_errorOfFlash_4 ⟨Nat.le_of_ble_eq_true rfl, Nat.le_of_ble_eq_true rfl⟩) hS (fun q _ h => hFc q h) hFc (fun xq u t H1 locs ht hvm hw hB hz1 hk1 hS => ?_)
  rw [hw]
  obtain ⟨hP1, hD1⟩ := hB
  rw [ht] at hP1
  obtain ⟨hP, hD⟩ := va_join (wr := [(mm, .inr (7, [.ref sc, .ref cm, .ref hh, .ref sla, .ref pd, .ref rd])), (sc, .inr (5, [.ref sea, .ref th, .ref pi, .int tm, .int ps, .int ft, .int fk])), (sea, .inl (cI, 4, .inl se)), (th, .inr (6, [.int mn, .ref th1, .ref th2, .ref th3, .ref th4, .ref th5, .ref th6, .ref th7, .ref th8, .ref th9])), (th1, .inl (cI, 8, .inl ln)), (th2, .inl (cI, 8, .inl hi)), (th3, .inl (cI, 8, .inl wi)), (th4, .inl (cI, 8, .inl br)), (th5, .inl (cI, 8, .inl sp)), (th6, .inl (cI, 8, .inl si)), (th7, .inl (cI, 8, .inl le)), (th8, .inl (cI, 8, .inl un)), (th9, .inl (cI, 8, .inl ul)), (pi, .inr (3, [.ref pia])), (pia, .inl (cI, 384, .inl px)), (cm, .inr (0, [.ref cm1, .ref cm2, .ref cm3])), (cm1, .inl (cI, 24, .inl lea)), (cm2, .inl (cI, 24, .inl upr)), (cm3, .inl (cI, 25, .inl ris)), (pd, .inr (2, [.ref pda, .int pl])), (pda, .inl (cC, 80, .inl tx)), (rd, .inr (4, [.ref pd, .int at_, .int kd, .ref rda])), (rda, .inl (cI, 7, .inl va))]) (w1 := []) hP hD [] [0, 1, 2, 3, 4, 5, 6, 7, 8, 9, 10, 11, 12, 13, 14, 15, 16, 17, 18, 19, 20, 21, 22] rfl rfl (by decide) (by decide) hk1 hFc hP1 hD1
  generalize H1 = H at hP hS ⊢
  have hP : va_P D vwCl (ws_main cI cC cZ cR mm sc sea th th1 th2 th3 th4 th5 th6 th7 th8 th9 pi pia cm cm1 cm2 cm3 pd pda rd rda hh sla se mn ln hi wi br sp si le un ul px tm ps ft fk lea upr ris pl tx at_ kd va) H := hP
  have hD : va_D A (ws_main cI cC cZ cR mm sc sea th th1 th2 th3 th4 th5 th6 th7 th8 th9 pi pia cm cm1 cm2 cm3 pd pda rd rda hh sla se mn ln hi wi br sp si le un ul px tm ps ft fk lea upr ris pl tx at_ kd va) := hD
  refine lv_if_eq (tgt := 24) hx hb dX7_errorOfFlash_7 (by decide) (fun c4 => ?_) (fun c4 => ?_)
  · replace h := br_p c4 h
    refine lv_bipush (v := (-2)) hx hb dX7_errorOfFlash_24 (by decide) ?_
    have e9 := Option.some.inj h
    subst e9
    rw [hQ]
    exact W.iret (v := (-2)) hx hb hr (fun t ht hW => ⟨⟨(-2), (), rfl, rfl, by rw [ht]; exact hP, hD⟩, hS.F ht⟩) hS.2.2 dX7_errorOfFlash_26
  · replace h := br_n c4 h
    refine lv_iload_n hx hb dX7_errorOfFlash_10 rfl (lv_at hl 2 rfl) ?_
    refine lv_iconst (v := 1) hx hb dX7_errorOfFlash_11 (by decide) ?_
    refine lv_bipush (v := 20) hx hb dX7_errorOfFlash_12 (by decide) ?_
    obtain ⟨r2, hcr2, h⟩ := bn_sp h
    have hPc := hP.sub (ws' := []) [] rfl
    have hDc := hD.sub (ws' := []) [] (by decide) rfl
    have hFc := va_free (wc := []) hD hS hA [] rfl
    refine va_calli (va_runS (As := [.int a1, .int 1, .int 20]) (rest := []) ⟨hx, hb, hml, hown, hts⟩ (m_X7_within l D cI cC cZ cR  _  a1 1 20   r2 hcr2) (va_cwS 3 hts gX7_errorOfFlash_X7_within rfl rfl rfl (by decide +kernel) ⟨Nat.le_of_ble_eq_true rfl, Nat.le_of_ble_eq_true rfl⟩) (cPc_ps hPc hK hDc) rfl rfl hl.1 rfl (lv_room (Nat.le_of_ble_eq_true rfl)) dX7_errorOfFlash_14 ⟨Nat.le_of_ble_eq_true rfl, Nat.le_of_ble_eq_true rfl⟩) hS (fun q _ h => hFc q h) hFc (fun xq u t H1 locs ht hvm hw hB hz1 hk1 hS => ?_)
    rw [hw]
    obtain ⟨hP1, hD1⟩ := hB
    rw [ht] at hP1
    obtain ⟨hP, hD⟩ := va_join (wr := [(mm, .inr (7, [.ref sc, .ref cm, .ref hh, .ref sla, .ref pd, .ref rd])), (sc, .inr (5, [.ref sea, .ref th, .ref pi, .int tm, .int ps, .int ft, .int fk])), (sea, .inl (cI, 4, .inl se)), (th, .inr (6, [.int mn, .ref th1, .ref th2, .ref th3, .ref th4, .ref th5, .ref th6, .ref th7, .ref th8, .ref th9])), (th1, .inl (cI, 8, .inl ln)), (th2, .inl (cI, 8, .inl hi)), (th3, .inl (cI, 8, .inl wi)), (th4, .inl (cI, 8, .inl br)), (th5, .inl (cI, 8, .inl sp)), (th6, .inl (cI, 8, .inl si)), (th7, .inl (cI, 8, .inl le)), (th8, .inl (cI, 8, .inl un)), (th9, .inl (cI, 8, .inl ul)), (pi, .inr (3, [.ref pia])), (pia, .inl (cI, 384, .inl px)), (cm, .inr (0, [.ref cm1, .ref cm2, .ref cm3])), (cm1, .inl (cI, 24, .inl lea)), (cm2, .inl (cI, 24, .inl upr)), (cm3, .inl (cI, 25, .inl ris)), (pd, .inr (2, [.ref pda, .int pl])), (pda, .inl (cC, 80, .inl tx)), (rd, .inr (4, [.ref pd, .int at_, .int kd, .ref rda])), (rda, .inl (cI, 7, .inl va))]) (w1 := []) hP hD [] [0, 1, 2, 3, 4, 5, 6, 7, 8, 9, 10, 11, 12, 13, 14, 15, 16, 17, 18, 19, 20, 21, 22] rfl rfl (by decide) (by decide) hk1 hFc hP1 hD1
    generalize H1 = H at hP hS ⊢
    have hP : va_P D vwCl (ws_main cI cC cZ cR mm sc sea th th1 th2 th3 th4 th5 th6 th7 th8 th9 pi pia cm cm1 cm2 cm3 pd pda rd rda hh sla se mn ln hi wi br sp si le un ul px tm ps ft fk lea upr ris pl tx at_ kd va) H := hP
    have hD : va_D A (ws_main cI cC cZ cR mm sc sea th th1 th2 th3 th4 th5 th6 th7 th8 th9 pi pia cm cm1 cm2 cm3 pd pda rd rda hh sla se mn ln hi wi br sp si le un ul px tm ps ft fk lea upr ris pl tx at_ kd va) := hD
    refine lv_if_eq (tgt := 24) hx hb dX7_errorOfFlash_17 (by decide) (fun c3 => ?_) (fun c3 => ?_)
    · replace h := br_p c3 h
      refine lv_bipush (v := (-2)) hx hb dX7_errorOfFlash_24 (by decide) ?_
      have e9 := Option.some.inj h
      subst e9
      rw [hQ]
      exact W.iret (v := (-2)) hx hb hr (fun t ht hW => ⟨⟨(-2), (), rfl, rfl, by rw [ht]; exact hP, hD⟩, hS.F ht⟩) hS.2.2 dX7_errorOfFlash_26
    · replace h := br_n c3 h
      refine lv_iconst (v := 0) hx hb dX7_errorOfFlash_20 (by decide) ?_
      refine lv_goto (tgt := 26) hx hb dX7_errorOfFlash_21 (by decide) ?_
      have e9 := Option.some.inj h
      subst e9
      rw [hQ]
      exact W.iret (v := 0) hx hb hr (fun t ht hW => ⟨⟨0, (), rfl, rfl, by rw [ht]; exact hP, hD⟩, hS.F ht⟩) hS.2.2 dX7_errorOfFlash_26
-- LeaningLines.errorOfPass
abbrev OUT_X7_errorOfPass : Type := Int32
def f_X7_errorOfPass (tm : Int32) (a0 : Int32) : Option OUT_X7_errorOfPass :=
  bn (f_X7_within a0 1 99) (fun r1 => (if ¬ r1 = 0 then (if 9999 < (tm + a0) then some ((-5)) else some (0)) else some ((-2))))
theorem uX7_errorOfPass_X7 : ∀ w ∈ wsX70, w ∈ wsX7_errorOfPass := by decide +kernel
theorem kX7_errorOfPass_1 : Cond.fieldLink RX7 10 "LeaningLines" "scene" "LLeaningLines$Scene;" ∈ wsX7_errorOfPass := by decide +kernel
theorem uX7_errorOfPass_X5 : ∀ w ∈ wsX50, w ∈ wsX7_errorOfPass := by decide +kernel
theorem kX7_errorOfPass_3 : Cond.fieldLink RX7 76 "LeaningLines$Scene" "time" "I" ∈ wsX7_errorOfPass := by decide +kernel
abbrev R_X7_errorOfPass : Room := { frames := 1, cells := 0, slots := 0, locals := 22 }
set_option maxHeartbeats 4000000 in
set_option maxRecDepth 100000 in
theorem m_X7_errorOfPass (l : Launch) (D : va_G) (cI cC cZ cR : ClassId) (mm sc sea th th1 th2 th3 th4 th5 th6 th7 th8 th9 pi pia cm cm1 cm2 cm3 pd pda rd rda hh sla : Nat) (sz : Nat) (se : Nat → Int32) (mn : Int32) (ln : Nat → Int32) (hi : Nat → Int32) (wi : Nat → Int32) (br : Nat → Int32) (sp : Nat → Int32) (si : Nat → Int32) (le : Nat → Int32) (un : Nat → Int32) (ul : Nat → Int32) (px : Nat → Int32) (tm : Int32) (ps : Int32) (ft : Int32) (fk : Int32) (lea : Nat → Int32) (upr : Nat → Int32) (ris : Nat → Int32) (pl : Int32) (tx : Nat → Int32) (at_ : Int32) (kd : Int32) (va : Nat → Int32)  (a0 : Int32)   (r : OUT_X7_errorOfPass) (hf : f_X7_errorOfPass tm a0 = some r) : Met l yX7_errorOfPass wsX7_errorOfPass R_X7_errorOfPass (cPc D cI cC cZ cR [.ref mm, .int a0] sz (ws_main cI cC cZ cR mm sc sea th th1 th2 th3 th4 th5 th6 th7 th8 th9 pi pia cm cm1 cm2 cm3 pd pda rd rda hh sla se mn ln hi wi br sp si le un ul px tm ps ft fk lea upr ris pl tx at_ kd va)) (cQi D (ws_main cI cC cZ cR mm sc sea th th1 th2 th3 th4 th5 th6 th7 th8 th9 pi pia cm cm1 cm2 cm3 pd pda rd rda hh sla se mn ln hi wi br sp si le un ul px tm ps ft fk lea upr ris pl tx at_ kd va) (va_A (ws_main cI cC cZ cR mm sc sea th th1 th2 th3 th4 th5 th6 th7 th8 th9 pi pia cm cm1 cm2 cm3 pd pda rd rda hh sla se mn ln hi wi br sp si le un ul px tm ps ft fk lea upr ris pl tx at_ kd va) sz) r) 0 0 (va_A (ws_main cI cC cZ cR mm sc sea th th1 th2 th3 th4 th5 th6 th7 th8 th9 pi pia cm cm1 cm2 cm3 pd pda rd rda hh sla se mn ln hi wi br sp si le un ul px tm ps ft fk lea upr ris pl tx at_ kd va) sz) := by
  refine Met.ofW (cc := cX7_errorOfPass) (maxL := 2) (ret := (some .int)) (by decide) rfl ?_
  intro p e s m args below meth c s₁ B hml hv
  obtain ⟨rfl, hsz, hP, hK, hD0⟩ := hv
  have hx := B.exec
  have hb := B.bytes
  have hr := B.returns
  have hts := atoms_spec (ws := wsX7_errorOfPass) B.pre
  have hown : s.vm.findClass RX7 = some m.cls := findClass_of_methodNamed B.named
  have hlocks := B.notSynchronized
  subst hsz
  have hD := hD0.self (sz := s.heap.size)
  generalize hAe : va_A (ws_main cI cC cZ cR mm sc sea th th1 th2 th3 th4 th5 th6 th7 th8 th9 pi pia cm cm1 cm2 cm3 pd pda rd rda hh sla se mn ln hi wi br sp si le un ul px tm ps ft fk lea upr ris pl tx at_ kd va) s.heap.size = A at hD ⊢
  skip
  have hA : ∀ q : Nat, s.heap.size ≤ q → A q := fun q h => by rw [← hAe]; exact Or.inr h
  have hS : va_S A s.heap s.heap [] := va_S.rf
  have hl := lv_entry ([.ref mm, .int a0]) (n := 2) (Nat.le_of_ble_eq_true rfl)
  rw [lg_entry_eq]
  generalize (lg_sl ([.ref mm, .int a0]) ++ List.replicate (2 - (lg_sl ([.ref mm, .int a0])).length) Slot.unset).toArray = ls at hl ⊢
  have hl : lv_has ls 2 [(0, .ref mm), (1, .int a0)] := hl
  refine W_absQ (fun Q hQ => ?_)
  refine W.eq (g2 := F0 m 0 ls []) rfl ?_
  have h := hf
  unfold f_X7_errorOfPass at h
  refine lv_iload_n hx hb dX7_errorOfPass_0 rfl (lv_at hl 1 rfl) ?_
  refine lv_iconst (v := 1) hx hb dX7_errorOfPass_1 (by decide) ?_
  refine lv_bipush (v := 99) hx hb dX7_errorOfPass_2 (by decide) ?_
  obtain ⟨r1, hcr1, h⟩ := bn_sp h
  have hPc := hP.sub (ws' := []) [] rfl
  have hDc := hD.sub (ws' := []) [] (by decide) rfl
  have hFc := va_free (wc := []) hD hS hA [] rfl
  refine va_calli (va_runS (As := [.int a0, .int 1, .int 99]) (rest := []) ⟨hx, hb, hml, hown, hts⟩ (m_X7_within l D cI cC cZ cR  _  a0 1 99   r1 hcr1) (va_cwS 3 hts gX7_errorOfPass_X7_within rfl rfl rfl (by decide +kernel) ⟨Nat.le_of_ble_eq_true rfl, Nat.le_of_ble_eq_true rfl⟩) (cPc_ps hPc hK hDc) rfl rfl hl.1 rfl (lv_room (Nat.le_of_ble_eq_true rfl)) dX7_errorOfPass_4 ⟨Nat.le_of_ble_eq_true rfl, Nat.le_of_ble_eq_true rfl⟩) hS (fun q _ h => hFc q h) hFc (fun xq u t H1 locs ht hvm hw hB hz1 hk1 hS => ?_)
  rw [hw]
  obtain ⟨hP1, hD1⟩ := hB
  rw [ht] at hP1
  obtain ⟨hP, hD⟩ := va_join (wr := [(mm, .inr (7, [.ref sc, .ref cm, .ref hh, .ref sla, .ref pd, .ref rd])), (sc, .inr (5, [.ref sea, .ref th, .ref pi, .int tm, .int ps, .int ft, .int fk])), (sea, .inl (cI, 4, .inl se)), (th, .inr (6, [.int mn, .ref th1, .ref th2, .ref th3, .ref th4, .ref th5, .ref th6, .ref th7, .ref th8, .ref th9])), (th1, .inl (cI, 8, .inl ln)), (th2, .inl (cI, 8, .inl hi)), (th3, .inl (cI, 8, .inl wi)), (th4, .inl (cI, 8, .inl br)), (th5, .inl (cI, 8, .inl sp)), (th6, .inl (cI, 8, .inl si)), (th7, .inl (cI, 8, .inl le)), (th8, .inl (cI, 8, .inl un)), (th9, .inl (cI, 8, .inl ul)), (pi, .inr (3, [.ref pia])), (pia, .inl (cI, 384, .inl px)), (cm, .inr (0, [.ref cm1, .ref cm2, .ref cm3])), (cm1, .inl (cI, 24, .inl lea)), (cm2, .inl (cI, 24, .inl upr)), (cm3, .inl (cI, 25, .inl ris)), (pd, .inr (2, [.ref pda, .int pl])), (pda, .inl (cC, 80, .inl tx)), (rd, .inr (4, [.ref pd, .int at_, .int kd, .ref rda])), (rda, .inl (cI, 7, .inl va))]) (w1 := []) hP hD [] [0, 1, 2, 3, 4, 5, 6, 7, 8, 9, 10, 11, 12, 13, 14, 15, 16, 17, 18, 19, 20, 21, 22] rfl rfl (by decide) (by decide) hk1 hFc hP1 hD1
  generalize H1 = H at hP hS ⊢
  have hP : va_P D vwCl (ws_main cI cC cZ cR mm sc sea th th1 th2 th3 th4 th5 th6 th7 th8 th9 pi pia cm cm1 cm2 cm3 pd pda rd rda hh sla se mn ln hi wi br sp si le un ul px tm ps ft fk lea upr ris pl tx at_ kd va) H := hP
  have hD : va_D A (ws_main cI cC cZ cR mm sc sea th th1 th2 th3 th4 th5 th6 th7 th8 th9 pi pia cm cm1 cm2 cm3 pd pda rd rda hh sla se mn ln hi wi br sp si le un ul px tm ps ft fk lea upr ris pl tx at_ kd va) := hD
  refine lv_if_ne (tgt := 13) hx hb dX7_errorOfPass_7 (by decide) (fun c3 => ?_) (fun c3 => ?_)
  · replace h := br_p c3 h
    refine lv_aload_n hx hb dX7_errorOfPass_13 rfl (lv_at hl 0 rfl) ?_
    refine va_get (D := D) (ci := 7) (v := .ref sc) (C := RX7) (T := TX7) (N := 6) hx hb hts uX7_errorOfPass_X7 hown hK.1 hP 0 rfl rfl 0 (by decide) (hts _ kX7_errorOfPass_1) (fun _ h9 => h9) rfl dX7_errorOfPass_14 ?_
    refine va_get (D := D) (ci := 5) (v := .int tm) (C := RX5) (T := TX5) (N := 7) hx hb hts uX7_errorOfPass_X5 hown hK.1 hP 1 rfl rfl 3 (by decide) (hts _ kX7_errorOfPass_3) (fun _ h9 => h9) rfl dX7_errorOfPass_17 ?_
    refine lv_iload_n hx hb dX7_errorOfPass_20 rfl (lv_at hl 1 rfl) ?_
    refine lv_iadd hx hb dX7_errorOfPass_21 ?_
    refine lv_sipush (v := 9999) hx hb dX7_errorOfPass_22 (by decide) ?_
    refine lv_icmp_gt (tgt := 32) hx hb dX7_errorOfPass_25 (by decide) (fun c2 => ?_) (fun c2 => ?_)
    · replace h := br_p c2 h
      refine lv_bipush (v := (-5)) hx hb dX7_errorOfPass_32 (by decide) ?_
      have e9 := Option.some.inj h
      subst e9
      rw [hQ]
      exact W.iret (v := (-5)) hx hb hr (fun t ht hW => ⟨⟨(-5), (), rfl, rfl, by rw [ht]; exact hP, hD⟩, hS.F ht⟩) hS.2.2 dX7_errorOfPass_34
    · replace h := br_n c2 h
      refine lv_iconst (v := 0) hx hb dX7_errorOfPass_28 (by decide) ?_
      refine lv_goto (tgt := 34) hx hb dX7_errorOfPass_29 (by decide) ?_
      have e9 := Option.some.inj h
      subst e9
      rw [hQ]
      exact W.iret (v := 0) hx hb hr (fun t ht hW => ⟨⟨0, (), rfl, rfl, by rw [ht]; exact hP, hD⟩, hS.F ht⟩) hS.2.2 dX7_errorOfPass_34
  · replace h := br_n (not_not_intro c3) h
    refine lv_bipush (v := (-2)) hx hb dX7_errorOfPass_10 (by decide) ?_
    have e9 := Option.some.inj h
    subst e9
    rw [hQ]
    exact W.iret (v := (-2)) hx hb hr (fun t ht hW => ⟨⟨(-2), (), rfl, rfl, by rw [ht]; exact hP, hD⟩, hS.F ht⟩) hS.2.2 dX7_errorOfPass_12
-- LeaningLines.errorOfShoot
abbrev OUT_X7_errorOfShoot : Type := Int32
def f_X7_errorOfShoot (se : Nat → Int32) (tm : Int32) : Option OUT_X7_errorOfShoot :=
  bn (f_X5_endOfPicture se tm) (fun r1 => (if 9999 < r1 then some ((-5)) else some (0)))
theorem uX7_errorOfShoot_X7 : ∀ w ∈ wsX70, w ∈ wsX7_errorOfShoot := by decide +kernel
theorem kX7_errorOfShoot_1 : Cond.fieldLink RX7 10 "LeaningLines" "scene" "LLeaningLines$Scene;" ∈ wsX7_errorOfShoot := by decide +kernel
abbrev R_X7_errorOfShoot : Room := { frames := 2, cells := 0, slots := 0, locals := 41 }
set_option maxHeartbeats 4000000 in
set_option maxRecDepth 100000 in
theorem m_X7_errorOfShoot (l : Launch) (D : va_G) (cI cC cZ cR : ClassId) (mm sc sea th th1 th2 th3 th4 th5 th6 th7 th8 th9 pi pia cm cm1 cm2 cm3 pd pda rd rda hh sla : Nat) (sz : Nat) (se : Nat → Int32) (mn : Int32) (ln : Nat → Int32) (hi : Nat → Int32) (wi : Nat → Int32) (br : Nat → Int32) (sp : Nat → Int32) (si : Nat → Int32) (le : Nat → Int32) (un : Nat → Int32) (ul : Nat → Int32) (px : Nat → Int32) (tm : Int32) (ps : Int32) (ft : Int32) (fk : Int32) (lea : Nat → Int32) (upr : Nat → Int32) (ris : Nat → Int32) (pl : Int32) (tx : Nat → Int32) (at_ : Int32) (kd : Int32) (va : Nat → Int32)     (r : OUT_X7_errorOfShoot) (hf : f_X7_errorOfShoot se tm = some r) : Met l yX7_errorOfShoot wsX7_errorOfShoot R_X7_errorOfShoot (cPc D cI cC cZ cR [.ref mm] sz (ws_main cI cC cZ cR mm sc sea th th1 th2 th3 th4 th5 th6 th7 th8 th9 pi pia cm cm1 cm2 cm3 pd pda rd rda hh sla se mn ln hi wi br sp si le un ul px tm ps ft fk lea upr ris pl tx at_ kd va)) (cQi D (ws_main cI cC cZ cR mm sc sea th th1 th2 th3 th4 th5 th6 th7 th8 th9 pi pia cm cm1 cm2 cm3 pd pda rd rda hh sla se mn ln hi wi br sp si le un ul px tm ps ft fk lea upr ris pl tx at_ kd va) (va_A (ws_main cI cC cZ cR mm sc sea th th1 th2 th3 th4 th5 th6 th7 th8 th9 pi pia cm cm1 cm2 cm3 pd pda rd rda hh sla se mn ln hi wi br sp si le un ul px tm ps ft fk lea upr ris pl tx at_ kd va) sz) r) 0 0 (va_A (ws_main cI cC cZ cR mm sc sea th th1 th2 th3 th4 th5 th6 th7 th8 th9 pi pia cm cm1 cm2 cm3 pd pda rd rda hh sla se mn ln hi wi br sp si le un ul px tm ps ft fk lea upr ris pl tx at_ kd va) sz) := by
  refine Met.ofW (cc := cX7_errorOfShoot) (maxL := 1) (ret := (some .int)) (by decide) rfl ?_
  intro p e s m args below meth c s₁ B hml hv
  obtain ⟨rfl, hsz, hP, hK, hD0⟩ := hv
  have hx := B.exec
  have hb := B.bytes
  have hr := B.returns
  have hts := atoms_spec (ws := wsX7_errorOfShoot) B.pre
  have hown : s.vm.findClass RX7 = some m.cls := findClass_of_methodNamed B.named
  have hlocks := B.notSynchronized
  subst hsz
  have hD := hD0.self (sz := s.heap.size)
  generalize hAe : va_A (ws_main cI cC cZ cR mm sc sea th th1 th2 th3 th4 th5 th6 th7 th8 th9 pi pia cm cm1 cm2 cm3 pd pda rd rda hh sla se mn ln hi wi br sp si le un ul px tm ps ft fk lea upr ris pl tx at_ kd va) s.heap.size = A at hD ⊢
  skip
  have hA : ∀ q : Nat, s.heap.size ≤ q → A q := fun q h => by rw [← hAe]; exact Or.inr h
  have hS : va_S A s.heap s.heap [] := va_S.rf
  have hl := lv_entry ([.ref mm]) (n := 1) (Nat.le_of_ble_eq_true rfl)
  rw [lg_entry_eq]
  generalize (lg_sl ([.ref mm]) ++ List.replicate (1 - (lg_sl ([.ref mm])).length) Slot.unset).toArray = ls at hl ⊢
  have hl : lv_has ls 1 [(0, .ref mm)] := hl
  refine W_absQ (fun Q hQ => ?_)
  refine W.eq (g2 := F0 m 0 ls []) rfl ?_
  have h := hf
  unfold f_X7_errorOfShoot at h
  refine lv_aload_n hx hb dX7_errorOfShoot_0 rfl (lv_at hl 0 rfl) ?_
  refine va_get (D := D) (ci := 7) (v := .ref sc) (C := RX7) (T := TX7) (N := 6) hx hb hts uX7_errorOfShoot_X7 hown hK.1 hP 0 rfl rfl 0 (by decide) (hts _ kX7_errorOfShoot_1) (fun _ h9 => h9) rfl dX7_errorOfShoot_1 ?_
  obtain ⟨r1, hcr1, h⟩ := bn_sp h
  have hPc := hP.sub (ws' := (ws_scene cI cC cZ cR sc sea th th1 th2 th3 th4 th5 th6 th7 th8 th9 pi pia se mn ln hi wi br sp si le un ul px tm ps ft fk)) [1, 2, 3, 4, 5, 6, 7, 8, 9, 10, 11, 12, 13, 14] rfl
  have hDc := hD.sub (ws' := (ws_scene cI cC cZ cR sc sea th th1 th2 th3 th4 th5 th6 th7 th8 th9 pi pia se mn ln hi wi br sp si le un ul px tm ps ft fk)) [1, 2, 3, 4, 5, 6, 7, 8, 9, 10, 11, 12, 13, 14] (by decide) rfl
  have hFc := va_free (wc := (ws_scene cI cC cZ cR sc sea th th1 th2 th3 th4 th5 th6 th7 th8 th9 pi pia se mn ln hi wi br sp si le un ul px tm ps ft fk)) hD hS hA [1, 2, 3, 4, 5, 6, 7, 8, 9, 10, 11, 12, 13, 14] rfl
  refine va_calli (va_runV (As := []) (rest := []) ⟨hx, hb, hml, hown, hts⟩ (m_X5_endOfPicture l D cI cC cZ cR sc sea th th1 th2 th3 th4 th5 th6 th7 th8 th9 pi pia _ se mn ln hi wi br sp si le un ul px tm ps ft fk    r1 hcr1) (cwV 0 hts gX7_errorOfShoot_X5_endOfPicture rfl rfl rfl (by decide +kernel) ⟨Nat.le_of_ble_eq_true rfl, Nat.le_of_ble_eq_true rfl⟩) (cPc_pv hPc hK hDc (ci := 5) (q0 := 0) rfl rfl) rfl rfl hl.1 rfl (lv_room (Nat.le_of_ble_eq_true rfl)) dX7_errorOfShoot_4 ⟨Nat.le_of_ble_eq_true rfl, Nat.le_of_ble_eq_true rfl⟩) hS (fun q _ h => hFc q h) hFc (fun xq u t H1 locs ht hvm hw hB hz1 hk1 hS => ?_)
  rw [hw]
  obtain ⟨hP1, hD1⟩ := hB
  rw [ht] at hP1
  obtain ⟨hP, hD⟩ := va_join (wr := [(mm, .inr (7, [.ref sc, .ref cm, .ref hh, .ref sla, .ref pd, .ref rd])), (cm, .inr (0, [.ref cm1, .ref cm2, .ref cm3])), (cm1, .inl (cI, 24, .inl lea)), (cm2, .inl (cI, 24, .inl upr)), (cm3, .inl (cI, 25, .inl ris)), (pd, .inr (2, [.ref pda, .int pl])), (pda, .inl (cC, 80, .inl tx)), (rd, .inr (4, [.ref pd, .int at_, .int kd, .ref rda])), (rda, .inl (cI, 7, .inl va))]) (w1 := (ws_scene cI cC cZ cR sc sea th th1 th2 th3 th4 th5 th6 th7 th8 th9 pi pia se mn ln hi wi br sp si le un ul px tm ps ft fk)) hP hD [1, 2, 3, 4, 5, 6, 7, 8, 9, 10, 11, 12, 13, 14] [0, 15, 16, 17, 18, 19, 20, 21, 22] rfl rfl (by decide) (by decide) hk1 hFc hP1 hD1
  have hP := hP.sub (ws' := (ws_main cI cC cZ cR mm sc sea th th1 th2 th3 th4 th5 th6 th7 th8 th9 pi pia cm cm1 cm2 cm3 pd pda rd rda hh sla se mn ln hi wi br sp si le un ul px tm ps ft fk lea upr ris pl tx at_ kd va)) [0, 9, 10, 11, 12, 13, 14, 15, 16, 17, 18, 19, 20, 21, 22, 1, 2, 3, 4, 5, 6, 7, 8] rfl
  have hD := hD.sub (ws' := (ws_main cI cC cZ cR mm sc sea th th1 th2 th3 th4 th5 th6 th7 th8 th9 pi pia cm cm1 cm2 cm3 pd pda rd rda hh sla se mn ln hi wi br sp si le un ul px tm ps ft fk lea upr ris pl tx at_ kd va)) [0, 9, 10, 11, 12, 13, 14, 15, 16, 17, 18, 19, 20, 21, 22, 1, 2, 3, 4, 5, 6, 7, 8] (by decide) rfl
  generalize H1 = H at hP hS ⊢
  refine lv_sipush (v := 9999) hx hb dX7_errorOfShoot_7 (by decide) ?_
  refine lv_icmp_gt (tgt := 17) hx hb dX7_errorOfShoot_10 (by decide) (fun c2 => ?_) (fun c2 => ?_)
  · replace h := br_p c2 h
    refine lv_bipush (v := (-5)) hx hb dX7_errorOfShoot_17 (by decide) ?_
    have e9 := Option.some.inj h
    subst e9
    rw [hQ]
    exact W.iret (v := (-5)) hx hb hr (fun t ht hW => ⟨⟨(-5), (), rfl, rfl, by rw [ht]; exact hP, hD⟩, hS.F ht⟩) hS.2.2 dX7_errorOfShoot_19
  · replace h := br_n c2 h
    refine lv_iconst (v := 0) hx hb dX7_errorOfShoot_13 (by decide) ?_
    refine lv_goto (tgt := 19) hx hb dX7_errorOfShoot_14 (by decide) ?_
    have e9 := Option.some.inj h
    subst e9
    rw [hQ]
    exact W.iret (v := 0) hx hb hr (fun t ht hW => ⟨⟨0, (), rfl, rfl, by rw [ht]; exact hP, hD⟩, hS.F ht⟩) hS.2.2 dX7_errorOfShoot_19
-- LeaningLines.of
abbrev OUT_X7_of : Type := Int32
def f_X7_of (mn : Int32) (ln : Nat → Int32) (hi : Nat → Int32) (wi : Nat → Int32) (br : Nat → Int32) (sp : Nat → Int32) (si : Nat → Int32) (le : Nat → Int32) (un : Nat → Int32) (ul : Nat → Int32) (tm : Int32) (a0 : Int32) (a1 : Int32) : Option OUT_X7_of :=
  bn (f_X7_isThing mn a0) (fun r1 => (if ¬ r1 = 0 then (if a1 = 0 then gd a0 8 (some (ln a0.toNatClampNeg)) else (if a1 = 1 then bn (f_X6_leftAt mn sp si le un ul a0 tm) (fun r3 => some (r3 + 1000)) else (if a1 = 2 then gd a0 8 (some (hi a0.toNatClampNeg)) else (if a1 = 3 then gd a0 8 (some (wi a0.toNatClampNeg)) else (if a1 = 4 then gd a0 8 (some (br a0.toNatClampNeg)) else (if a1 = 5 then gd a0 8 (some ((sp a0.toNatClampNeg) + 100)) else (if a1 = 6 then gd a0 8 (some (un a0.toNatClampNeg)) else (if a1 = 7 then bn (f_X6_speedWithAllUnder mn sp un a0) (fun r10 => some (r10 + 1000)) else some ((-2)))))))))) else some ((-1))))
theorem uX7_of_X7 : ∀ w ∈ wsX70, w ∈ wsX7_of := by decide +kernel
theorem kX7_of_1 : Cond.fieldLink RX7 10 "LeaningLines" "scene" "LLeaningLines$Scene;" ∈ wsX7_of := by decide +kernel
theorem uX7_of_X5 : ∀ w ∈ wsX50, w ∈ wsX7_of := by decide +kernel
theorem kX7_of_3 : Cond.fieldLink RX7 72 "LeaningLines$Scene" "things" "LLeaningLines$Things;" ∈ wsX7_of := by decide +kernel
theorem uX7_of_X6 : ∀ w ∈ wsX60, w ∈ wsX7_of := by decide +kernel
theorem kX7_of_5 : Cond.fieldLink RX7 138 "LeaningLines$Things" "line" "[I" ∈ wsX7_of := by decide +kernel
theorem kX7_of_6 : Cond.fieldLink RX7 76 "LeaningLines$Scene" "time" "I" ∈ wsX7_of := by decide +kernel
theorem kX7_of_7 : Cond.fieldLink RX7 144 "LeaningLines$Things" "high" "[I" ∈ wsX7_of := by decide +kernel
theorem kX7_of_8 : Cond.fieldLink RX7 147 "LeaningLines$Things" "wide" "[I" ∈ wsX7_of := by decide +kernel
theorem kX7_of_9 : Cond.fieldLink RX7 150 "LeaningLines$Things" "brightness" "[I" ∈ wsX7_of := by decide +kernel
theorem kX7_of_10 : Cond.fieldLink RX7 93 "LeaningLines$Things" "speed" "[I" ∈ wsX7_of := by decide +kernel
theorem kX7_of_11 : Cond.fieldLink RX7 96 "LeaningLines$Things" "under" "[I" ∈ wsX7_of := by decide +kernel
abbrev R_X7_of : Room := { frames := 2, cells := 0, slots := 0, locals := 47 }
set_option maxHeartbeats 4000000 in
set_option maxRecDepth 100000 in
theorem m_X7_of (l : Launch) (D : va_G) (cI cC cZ cR : ClassId) (mm sc sea th th1 th2 th3 th4 th5 th6 th7 th8 th9 pi pia cm cm1 cm2 cm3 pd pda rd rda hh sla : Nat) (sz : Nat) (se : Nat → Int32) (mn : Int32) (ln : Nat → Int32) (hi : Nat → Int32) (wi : Nat → Int32) (br : Nat → Int32) (sp : Nat → Int32) (si : Nat → Int32) (le : Nat → Int32) (un : Nat → Int32) (ul : Nat → Int32) (px : Nat → Int32) (tm : Int32) (ps : Int32) (ft : Int32) (fk : Int32) (lea : Nat → Int32) (upr : Nat → Int32) (ris : Nat → Int32) (pl : Int32) (tx : Nat → Int32) (at_ : Int32) (kd : Int32) (va : Nat → Int32)  (a0 : Int32) (a1 : Int32)   (r : OUT_X7_of) (hf : f_X7_of mn ln hi wi br sp si le un ul tm a0 a1 = some r) : Met l yX7_of wsX7_of R_X7_of (cPc D cI cC cZ cR [.ref mm, .int a0, .int a1] sz (ws_main cI cC cZ cR mm sc sea th th1 th2 th3 th4 th5 th6 th7 th8 th9 pi pia cm cm1 cm2 cm3 pd pda rd rda hh sla se mn ln hi wi br sp si le un ul px tm ps ft fk lea upr ris pl tx at_ kd va)) (cQi D (ws_main cI cC cZ cR mm sc sea th th1 th2 th3 th4 th5 th6 th7 th8 th9 pi pia cm cm1 cm2 cm3 pd pda rd rda hh sla se mn ln hi wi br sp si le un ul px tm ps ft fk lea upr ris pl tx at_ kd va) (va_A (ws_main cI cC cZ cR mm sc sea th th1 th2 th3 th4 th5 th6 th7 th8 th9 pi pia cm cm1 cm2 cm3 pd pda rd rda hh sla se mn ln hi wi br sp si le un ul px tm ps ft fk lea upr ris pl tx at_ kd va) sz) r) 0 0 (va_A (ws_main cI cC cZ cR mm sc sea th th1 th2 th3 th4 th5 th6 th7 th8 th9 pi pia cm cm1 cm2 cm3 pd pda rd rda hh sla se mn ln hi wi br sp si le un ul px tm ps ft fk lea upr ris pl tx at_ kd va) sz) := by
  refine Met.ofW (cc := cX7_of) (maxL := 4) (ret := (some .int)) (by decide) rfl ?_
  intro p e s m args below meth c s₁ B hml hv
  obtain ⟨rfl, hsz, hP, hK, hD0⟩ := hv
  have hx := B.exec
  have hb := B.bytes
  have hr := B.returns
  have hts := atoms_spec (ws := wsX7_of) B.pre
  have hown : s.vm.findClass RX7 = some m.cls := findClass_of_methodNamed B.named
  have hlocks := B.notSynchronized
  subst hsz
  have hD := hD0.self (sz := s.heap.size)
  generalize hAe : va_A (ws_main cI cC cZ cR mm sc sea th th1 th2 th3 th4 th5 th6 th7 th8 th9 pi pia cm cm1 cm2 cm3 pd pda rd rda hh sla se mn ln hi wi br sp si le un ul px tm ps ft fk lea upr ris pl tx at_ kd va) s.heap.size = A at hD ⊢
  skip
  have hA : ∀ q : Nat, s.heap.size ≤ q → A q := fun q h => by rw [← hAe]; exact Or.inr h
  have hS : va_S A s.heap s.heap [] := va_S.rf
  have hl := lv_entry ([.ref mm, .int a0, .int a1]) (n := 4) (Nat.le_of_ble_eq_true rfl)
  rw [lg_entry_eq]
  generalize (lg_sl ([.ref mm, .int a0, .int a1]) ++ List.replicate (4 - (lg_sl ([.ref mm, .int a0, .int a1])).length) Slot.unset).toArray = ls at hl ⊢
  have hl : lv_has ls 4 [(0, .ref mm), (1, .int a0), (2, .int a1)] := hl
  refine W_absQ (fun Q hQ => ?_)
  refine W.eq (g2 := F0 m 0 ls []) rfl ?_
  have h := hf
  unfold f_X7_of at h
  refine lv_aload_n hx hb dX7_of_0 rfl (lv_at hl 0 rfl) ?_
  refine lv_iload_n hx hb dX7_of_1 rfl (lv_at hl 1 rfl) ?_
  obtain ⟨r1, hcr1, h⟩ := bn_sp h
  have hPc := hP.sub (ws' := (ws_main cI cC cZ cR mm sc sea th th1 th2 th3 th4 th5 th6 th7 th8 th9 pi pia cm cm1 cm2 cm3 pd pda rd rda hh sla se mn ln hi wi br sp si le un ul px tm ps ft fk lea upr ris pl tx at_ kd va)) [0, 1, 2, 3, 4, 5, 6, 7, 8, 9, 10, 11, 12, 13, 14, 15, 16, 17, 18, 19, 20, 21, 22] rfl
  have hDc := hD.sub (ws' := (ws_main cI cC cZ cR mm sc sea th th1 th2 th3 th4 th5 th6 th7 th8 th9 pi pia cm cm1 cm2 cm3 pd pda rd rda hh sla se mn ln hi wi br sp si le un ul px tm ps ft fk lea upr ris pl tx at_ kd va)) [0, 1, 2, 3, 4, 5, 6, 7, 8, 9, 10, 11, 12, 13, 14, 15, 16, 17, 18, 19, 20, 21, 22] (by decide) rfl
  have hFc := va_free (wc := (ws_main cI cC cZ cR mm sc sea th th1 th2 th3 th4 th5 th6 th7 th8 th9 pi pia cm cm1 cm2 cm3 pd pda rd rda hh sla se mn ln hi wi br sp si le un ul px tm ps ft fk lea upr ris pl tx at_ kd va)) hD hS hA [0, 1, 2, 3, 4, 5, 6, 7, 8, 9, 10, 11, 12, 13, 14, 15, 16, 17, 18, 19, 20, 21, 22] rfl
  refine va_calli (va_runV (As := [.int a0]) (rest := []) ⟨hx, hb, hml, hown, hts⟩ (m_X7_isThing l D cI cC cZ cR mm sc sea th th1 th2 th3 th4 th5 th6 th7 th8 th9 pi pia cm cm1 cm2 cm3 pd pda rd rda hh sla _ se mn ln hi wi br sp si le un ul px tm ps ft fk lea upr ris pl tx at_ kd va a0   r1 hcr1) (cwV 1 hts gX7_of_X7_isThing rfl rfl rfl (by decide +kernel) ⟨Nat.le_of_ble_eq_true rfl, Nat.le_of_ble_eq_true rfl⟩) (cPc_pv hPc hK hDc (ci := 7) (q0 := 0) rfl rfl) rfl rfl hl.1 rfl (lv_room (Nat.le_of_ble_eq_true rfl)) dX7_of_2 ⟨Nat.le_of_ble_eq_true rfl, Nat.le_of_ble_eq_true rfl⟩) hS (fun q _ h => hFc q h) hFc (fun xq u t H1 locs ht hvm hw hB hz1 hk1 hS => ?_)
  rw [hw]
  obtain ⟨hP1, hD1⟩ := hB
  rw [ht] at hP1
  obtain ⟨hP, hD⟩ := va_join (wr := []) (w1 := (ws_main cI cC cZ cR mm sc sea th th1 th2 th3 th4 th5 th6 th7 th8 th9 pi pia cm cm1 cm2 cm3 pd pda rd rda hh sla se mn ln hi wi br sp si le un ul px tm ps ft fk lea upr ris pl tx at_ kd va)) hP hD [0, 1, 2, 3, 4, 5, 6, 7, 8, 9, 10, 11, 12, 13, 14, 15, 16, 17, 18, 19, 20, 21, 22] [] rfl rfl (by decide) (by decide) hk1 hFc hP1 hD1
  generalize H1 = H at hP hS ⊢
  have hP : va_P D vwCl (ws_main cI cC cZ cR mm sc sea th th1 th2 th3 th4 th5 th6 th7 th8 th9 pi pia cm cm1 cm2 cm3 pd pda rd rda hh sla se mn ln hi wi br sp si le un ul px tm ps ft fk lea upr ris pl tx at_ kd va) H := hP
  have hD : va_D A (ws_main cI cC cZ cR mm sc sea th th1 th2 th3 th4 th5 th6 th7 th8 th9 pi pia cm cm1 cm2 cm3 pd pda rd rda hh sla se mn ln hi wi br sp si le un ul px tm ps ft fk lea upr ris pl tx at_ kd va) := hD
  refine lv_if_ne (tgt := 10) hx hb dX7_of_5 (by decide) (fun c12 => ?_) (fun c12 => ?_)
  · replace h := br_p c12 h
    refine lv_aload_n hx hb dX7_of_10 rfl (lv_at hl 0 rfl) ?_
    refine va_get (D := D) (ci := 7) (v := .ref sc) (C := RX7) (T := TX7) (N := 6) hx hb hts uX7_of_X7 hown hK.1 hP 0 rfl rfl 0 (by decide) (hts _ kX7_of_1) (fun _ h9 => h9) rfl dX7_of_11 ?_
    refine va_get (D := D) (ci := 5) (v := .ref th) (C := RX5) (T := TX5) (N := 7) hx hb hts uX7_of_X5 hown hK.1 hP 1 rfl rfl 1 (by decide) (hts _ kX7_of_3) (fun _ h9 => h9) rfl dX7_of_14 ?_
    refine lv_astore_n (lv' := [(3, .ref th), (0, .ref mm), (1, .int a0), (2, .int a1)]) hx hb dX7_of_17 rfl hl (by decide) rfl (fun ls hl => ?_)
    refine lv_iload_n hx hb dX7_of_18 rfl (lv_at hl 3 rfl) ?_
    by_cases c2 : a1 = 0
    · replace h := br_p c2 h
      refine lv_tableIn (tgt := 64) hx hb dX7_of_19 (by rw [c2]; decide) (by rw [c2]; decide) (by rw [c2]; rfl) (by decide) ?_
      refine lv_aload_n hx hb dX7_of_64 rfl (lv_at hl 0 rfl) ?_
      refine va_get (D := D) (ci := 6) (v := .ref th1) (C := RX6) (T := TX6) (N := 10) hx hb hts uX7_of_X6 hown hK.1 hP 3 rfl rfl 1 (by decide) (hts _ kX7_of_5) (fun _ h9 => h9) rfl dX7_of_65 ?_
      refine lv_iload_n hx hb dX7_of_68 rfl (lv_at hl 2 rfl) ?_
      obtain ⟨hin, h⟩ := gd_sp h
      refine va_iald (D := D) hx hb hK.1 hP 4 0 rfl rfl hin dX7_of_69 ?_
      have e9 := Option.some.inj h
      subst e9
      rw [hQ]
      exact W.iret (v := ln a0.toNatClampNeg) hx hb hr (fun t ht hW => ⟨⟨ln a0.toNatClampNeg, (), rfl, rfl, by rw [ht]; exact hP, hD⟩, hS.F ht⟩) hS.2.2 dX7_of_70
    · replace h := br_n c2 h
      by_cases c4 : a1 = 1
      · replace h := br_p c4 h
        refine lv_tableIn (tgt := 71) hx hb dX7_of_19 (by rw [c4]; decide) (by rw [c4]; decide) (by rw [c4]; rfl) (by decide) ?_
        refine lv_aload_n hx hb dX7_of_71 rfl (lv_at hl 0 rfl) ?_
        refine lv_iload_n hx hb dX7_of_72 rfl (lv_at hl 2 rfl) ?_
        refine lv_aload_n hx hb dX7_of_73 rfl (lv_at hl 1 rfl) ?_
        refine va_get (D := D) (ci := 7) (v := .ref sc) (C := RX7) (T := TX7) (N := 6) hx hb hts uX7_of_X7 hown hK.1 hP 0 rfl rfl 0 (by decide) (hts _ kX7_of_1) (fun _ h9 => h9) rfl dX7_of_74 ?_
        refine va_get (D := D) (ci := 5) (v := .int tm) (C := RX5) (T := TX5) (N := 7) hx hb hts uX7_of_X5 hown hK.1 hP 1 rfl rfl 3 (by decide) (hts _ kX7_of_6) (fun _ h9 => h9) rfl dX7_of_77 ?_
        obtain ⟨r3, hcr3, h⟩ := bn_sp h
        have hPc := hP.sub (ws' := (ws_things cI cC cZ cR th th1 th2 th3 th4 th5 th6 th7 th8 th9 mn ln hi wi br sp si le un ul)) [3, 4, 5, 6, 7, 8, 9, 10, 11, 12] rfl
        have hDc := hD.sub (ws' := (ws_things cI cC cZ cR th th1 th2 th3 th4 th5 th6 th7 th8 th9 mn ln hi wi br sp si le un ul)) [3, 4, 5, 6, 7, 8, 9, 10, 11, 12] (by decide) rfl
        have hFc := va_free (wc := (ws_things cI cC cZ cR th th1 th2 th3 th4 th5 th6 th7 th8 th9 mn ln hi wi br sp si le un ul)) hD hS hA [3, 4, 5, 6, 7, 8, 9, 10, 11, 12] rfl
        refine va_calli (va_runV (As := [.int a0, .int tm]) (rest := []) ⟨hx, hb, hml, hown, hts⟩ (m_X6_leftAt l D cI cC cZ cR th th1 th2 th3 th4 th5 th6 th7 th8 th9 _ mn ln hi wi br sp si le un ul a0 tm   r3 hcr3) (cwV 2 hts gX7_of_X6_leftAt rfl rfl rfl (by decide +kernel) ⟨Nat.le_of_ble_eq_true rfl, Nat.le_of_ble_eq_true rfl⟩) (cPc_pv hPc hK hDc (ci := 6) (q0 := 0) rfl rfl) rfl rfl hl.1 rfl (lv_room (Nat.le_of_ble_eq_true rfl)) dX7_of_80 ⟨Nat.le_of_ble_eq_true rfl, Nat.le_of_ble_eq_true rfl⟩) hS (fun q _ h => hFc q h) hFc (fun xq u t H1 locs ht hvm hw hB hz1 hk1 hS => ?_)
        rw [hw]
        obtain ⟨hP1, hD1⟩ := hB
        rw [ht] at hP1
        obtain ⟨hP, hD⟩ := va_join (wr := [(mm, .inr (7, [.ref sc, .ref cm, .ref hh, .ref sla, .ref pd, .ref rd])), (sc, .inr (5, [.ref sea, .ref th, .ref pi, .int tm, .int ps, .int ft, .int fk])), (sea, .inl (cI, 4, .inl se)), (pi, .inr (3, [.ref pia])), (pia, .inl (cI, 384, .inl px)), (cm, .inr (0, [.ref cm1, .ref cm2, .ref cm3])), (cm1, .inl (cI, 24, .inl lea)), (cm2, .inl (cI, 24, .inl upr)), (cm3, .inl (cI, 25, .inl ris)), (pd, .inr (2, [.ref pda, .int pl])), (pda, .inl (cC, 80, .inl tx)), (rd, .inr (4, [.ref pd, .int at_, .int kd, .ref rda])), (rda, .inl (cI, 7, .inl va))]) (w1 := (ws_things cI cC cZ cR th th1 th2 th3 th4 th5 th6 th7 th8 th9 mn ln hi wi br sp si le un ul)) hP hD [3, 4, 5, 6, 7, 8, 9, 10, 11, 12] [0, 1, 2, 13, 14, 15, 16, 17, 18, 19, 20, 21, 22] rfl rfl (by decide) (by decide) hk1 hFc hP1 hD1
        have hP := hP.sub (ws' := (ws_main cI cC cZ cR mm sc sea th th1 th2 th3 th4 th5 th6 th7 th8 th9 pi pia cm cm1 cm2 cm3 pd pda rd rda hh sla se mn ln hi wi br sp si le un ul px tm ps ft fk lea upr ris pl tx at_ kd va)) [0, 1, 2, 13, 14, 15, 16, 17, 18, 19, 20, 21, 22, 3, 4, 5, 6, 7, 8, 9, 10, 11, 12] rfl
        have hD := hD.sub (ws' := (ws_main cI cC cZ cR mm sc sea th th1 th2 th3 th4 th5 th6 th7 th8 th9 pi pia cm cm1 cm2 cm3 pd pda rd rda hh sla se mn ln hi wi br sp si le un ul px tm ps ft fk lea upr ris pl tx at_ kd va)) [0, 1, 2, 13, 14, 15, 16, 17, 18, 19, 20, 21, 22, 3, 4, 5, 6, 7, 8, 9, 10, 11, 12] (by decide) rfl
        generalize H1 = H at hP hS ⊢
        refine lv_sipush (v := 1000) hx hb dX7_of_83 (by decide) ?_
        refine lv_iadd hx hb dX7_of_86 ?_
        have e9 := Option.some.inj h
        subst e9
        rw [hQ]
        exact W.iret (v := r3 + 1000) hx hb hr (fun t ht hW => ⟨⟨r3 + 1000, (), rfl, rfl, by rw [ht]; exact hP, hD⟩, hS.F ht⟩) hS.2.2 dX7_of_87
      · replace h := br_n c4 h
        by_cases c5 : a1 = 2
        · replace h := br_p c5 h
          refine lv_tableIn (tgt := 88) hx hb dX7_of_19 (by rw [c5]; decide) (by rw [c5]; decide) (by rw [c5]; rfl) (by decide) ?_
          refine lv_aload_n hx hb dX7_of_88 rfl (lv_at hl 0 rfl) ?_
          refine va_get (D := D) (ci := 6) (v := .ref th2) (C := RX6) (T := TX6) (N := 10) hx hb hts uX7_of_X6 hown hK.1 hP 3 rfl rfl 2 (by decide) (hts _ kX7_of_7) (fun _ h9 => h9) rfl dX7_of_89 ?_
          refine lv_iload_n hx hb dX7_of_92 rfl (lv_at hl 2 rfl) ?_
          obtain ⟨hin, h⟩ := gd_sp h
          refine va_iald (D := D) hx hb hK.1 hP 5 0 rfl rfl hin dX7_of_93 ?_
          have e9 := Option.some.inj h
          subst e9
          rw [hQ]
          exact W.iret (v := hi a0.toNatClampNeg) hx hb hr (fun t ht hW => ⟨⟨hi a0.toNatClampNeg, (), rfl, rfl, by rw [ht]; exact hP, hD⟩, hS.F ht⟩) hS.2.2 dX7_of_94
        · replace h := br_n c5 h
          by_cases c6 : a1 = 3
          · replace h := br_p c6 h
            refine lv_tableIn (tgt := 95) hx hb dX7_of_19 (by rw [c6]; decide) (by rw [c6]; decide) (by rw [c6]; rfl) (by decide) ?_
            refine lv_aload_n hx hb dX7_of_95 rfl (lv_at hl 0 rfl) ?_
            refine va_get (D := D) (ci := 6) (v := .ref th3) (C := RX6) (T := TX6) (N := 10) hx hb hts uX7_of_X6 hown hK.1 hP 3 rfl rfl 3 (by decide) (hts _ kX7_of_8) (fun _ h9 => h9) rfl dX7_of_96 ?_
            refine lv_iload_n hx hb dX7_of_99 rfl (lv_at hl 2 rfl) ?_
            obtain ⟨hin, h⟩ := gd_sp h
            refine va_iald (D := D) hx hb hK.1 hP 6 0 rfl rfl hin dX7_of_100 ?_
            have e9 := Option.some.inj h
            subst e9
            rw [hQ]
            exact W.iret (v := wi a0.toNatClampNeg) hx hb hr (fun t ht hW => ⟨⟨wi a0.toNatClampNeg, (), rfl, rfl, by rw [ht]; exact hP, hD⟩, hS.F ht⟩) hS.2.2 dX7_of_101
          · replace h := br_n c6 h
            by_cases c7 : a1 = 4
            · replace h := br_p c7 h
              refine lv_tableIn (tgt := 102) hx hb dX7_of_19 (by rw [c7]; decide) (by rw [c7]; decide) (by rw [c7]; rfl) (by decide) ?_
              refine lv_aload_n hx hb dX7_of_102 rfl (lv_at hl 0 rfl) ?_
              refine va_get (D := D) (ci := 6) (v := .ref th4) (C := RX6) (T := TX6) (N := 10) hx hb hts uX7_of_X6 hown hK.1 hP 3 rfl rfl 4 (by decide) (hts _ kX7_of_9) (fun _ h9 => h9) rfl dX7_of_103 ?_
              refine lv_iload_n hx hb dX7_of_106 rfl (lv_at hl 2 rfl) ?_
              obtain ⟨hin, h⟩ := gd_sp h
              refine va_iald (D := D) hx hb hK.1 hP 7 0 rfl rfl hin dX7_of_107 ?_
              have e9 := Option.some.inj h
              subst e9
              rw [hQ]
              exact W.iret (v := br a0.toNatClampNeg) hx hb hr (fun t ht hW => ⟨⟨br a0.toNatClampNeg, (), rfl, rfl, by rw [ht]; exact hP, hD⟩, hS.F ht⟩) hS.2.2 dX7_of_108
            · replace h := br_n c7 h
              by_cases c8 : a1 = 5
              · replace h := br_p c8 h
                refine lv_tableIn (tgt := 109) hx hb dX7_of_19 (by rw [c8]; decide) (by rw [c8]; decide) (by rw [c8]; rfl) (by decide) ?_
                refine lv_aload_n hx hb dX7_of_109 rfl (lv_at hl 0 rfl) ?_
                refine va_get (D := D) (ci := 6) (v := .ref th5) (C := RX6) (T := TX6) (N := 10) hx hb hts uX7_of_X6 hown hK.1 hP 3 rfl rfl 5 (by decide) (hts _ kX7_of_10) (fun _ h9 => h9) rfl dX7_of_110 ?_
                refine lv_iload_n hx hb dX7_of_113 rfl (lv_at hl 2 rfl) ?_
                obtain ⟨hin, h⟩ := gd_sp h
                refine va_iald (D := D) hx hb hK.1 hP 8 0 rfl rfl hin dX7_of_114 ?_
                refine lv_bipush (v := 100) hx hb dX7_of_115 (by decide) ?_
                refine lv_iadd hx hb dX7_of_117 ?_
                have e9 := Option.some.inj h
                subst e9
                rw [hQ]
                exact W.iret (v := (sp a0.toNatClampNeg) + 100) hx hb hr (fun t ht hW => ⟨⟨(sp a0.toNatClampNeg) + 100, (), rfl, rfl, by rw [ht]; exact hP, hD⟩, hS.F ht⟩) hS.2.2 dX7_of_118
              · replace h := br_n c8 h
                by_cases c9 : a1 = 6
                · replace h := br_p c9 h
                  refine lv_tableIn (tgt := 119) hx hb dX7_of_19 (by rw [c9]; decide) (by rw [c9]; decide) (by rw [c9]; rfl) (by decide) ?_
                  refine lv_aload_n hx hb dX7_of_119 rfl (lv_at hl 0 rfl) ?_
                  refine va_get (D := D) (ci := 6) (v := .ref th8) (C := RX6) (T := TX6) (N := 10) hx hb hts uX7_of_X6 hown hK.1 hP 3 rfl rfl 8 (by decide) (hts _ kX7_of_11) (fun _ h9 => h9) rfl dX7_of_120 ?_
                  refine lv_iload_n hx hb dX7_of_123 rfl (lv_at hl 2 rfl) ?_
                  obtain ⟨hin, h⟩ := gd_sp h
                  refine va_iald (D := D) hx hb hK.1 hP 11 0 rfl rfl hin dX7_of_124 ?_
                  have e9 := Option.some.inj h
                  subst e9
                  rw [hQ]
                  exact W.iret (v := un a0.toNatClampNeg) hx hb hr (fun t ht hW => ⟨⟨un a0.toNatClampNeg, (), rfl, rfl, by rw [ht]; exact hP, hD⟩, hS.F ht⟩) hS.2.2 dX7_of_125
                · replace h := br_n c9 h
                  by_cases c11 : a1 = 7
                  · replace h := br_p c11 h
                    refine lv_tableIn (tgt := 126) hx hb dX7_of_19 (by rw [c11]; decide) (by rw [c11]; decide) (by rw [c11]; rfl) (by decide) ?_
                    refine lv_aload_n hx hb dX7_of_126 rfl (lv_at hl 0 rfl) ?_
                    refine lv_iload_n hx hb dX7_of_127 rfl (lv_at hl 2 rfl) ?_
                    obtain ⟨r10, hcr10, h⟩ := bn_sp h
                    have hPc := hP.sub (ws' := (ws_things cI cC cZ cR th th1 th2 th3 th4 th5 th6 th7 th8 th9 mn ln hi wi br sp si le un ul)) [3, 4, 5, 6, 7, 8, 9, 10, 11, 12] rfl
                    have hDc := hD.sub (ws' := (ws_things cI cC cZ cR th th1 th2 th3 th4 th5 th6 th7 th8 th9 mn ln hi wi br sp si le un ul)) [3, 4, 5, 6, 7, 8, 9, 10, 11, 12] (by decide) rfl
                    have hFc := va_free (wc := (ws_things cI cC cZ cR th th1 th2 th3 th4 th5 th6 th7 th8 th9 mn ln hi wi br sp si le un ul)) hD hS hA [3, 4, 5, 6, 7, 8, 9, 10, 11, 12] rfl
                    refine va_calli (va_runV (As := [.int a0]) (rest := []) ⟨hx, hb, hml, hown, hts⟩ (m_X6_speedWithAllUnder l D cI cC cZ cR th th1 th2 th3 th4 th5 th6 th7 th8 th9 _ mn ln hi wi br sp si le un ul a0   r10 hcr10) (cwV 1 hts gX7_of_X6_speedWithAllUnder rfl rfl rfl (by decide +kernel) ⟨Nat.le_of_ble_eq_true rfl, Nat.le_of_ble_eq_true rfl⟩) (cPc_pv hPc hK hDc (ci := 6) (q0 := 0) rfl rfl) rfl rfl hl.1 rfl (lv_room (Nat.le_of_ble_eq_true rfl)) dX7_of_128 ⟨Nat.le_of_ble_eq_true rfl, Nat.le_of_ble_eq_true rfl⟩) hS (fun q _ h => hFc q h) hFc (fun xq u t H1 locs ht hvm hw hB hz1 hk1 hS => ?_)
                    rw [hw]
                    obtain ⟨hP1, hD1⟩ := hB
                    rw [ht] at hP1
                    obtain ⟨hP, hD⟩ := va_join (wr := [(mm, .inr (7, [.ref sc, .ref cm, .ref hh, .ref sla, .ref pd, .ref rd])), (sc, .inr (5, [.ref sea, .ref th, .ref pi, .int tm, .int ps, .int ft, .int fk])), (sea, .inl (cI, 4, .inl se)), (pi, .inr (3, [.ref pia])), (pia, .inl (cI, 384, .inl px)), (cm, .inr (0, [.ref cm1, .ref cm2, .ref cm3])), (cm1, .inl (cI, 24, .inl lea)), (cm2, .inl (cI, 24, .inl upr)), (cm3, .inl (cI, 25, .inl ris)), (pd, .inr (2, [.ref pda, .int pl])), (pda, .inl (cC, 80, .inl tx)), (rd, .inr (4, [.ref pd, .int at_, .int kd, .ref rda])), (rda, .inl (cI, 7, .inl va))]) (w1 := (ws_things cI cC cZ cR th th1 th2 th3 th4 th5 th6 th7 th8 th9 mn ln hi wi br sp si le un ul)) hP hD [3, 4, 5, 6, 7, 8, 9, 10, 11, 12] [0, 1, 2, 13, 14, 15, 16, 17, 18, 19, 20, 21, 22] rfl rfl (by decide) (by decide) hk1 hFc hP1 hD1
                    have hP := hP.sub (ws' := (ws_main cI cC cZ cR mm sc sea th th1 th2 th3 th4 th5 th6 th7 th8 th9 pi pia cm cm1 cm2 cm3 pd pda rd rda hh sla se mn ln hi wi br sp si le un ul px tm ps ft fk lea upr ris pl tx at_ kd va)) [0, 1, 2, 13, 14, 15, 16, 17, 18, 19, 20, 21, 22, 3, 4, 5, 6, 7, 8, 9, 10, 11, 12] rfl
                    have hD := hD.sub (ws' := (ws_main cI cC cZ cR mm sc sea th th1 th2 th3 th4 th5 th6 th7 th8 th9 pi pia cm cm1 cm2 cm3 pd pda rd rda hh sla se mn ln hi wi br sp si le un ul px tm ps ft fk lea upr ris pl tx at_ kd va)) [0, 1, 2, 13, 14, 15, 16, 17, 18, 19, 20, 21, 22, 3, 4, 5, 6, 7, 8, 9, 10, 11, 12] (by decide) rfl
                    generalize H1 = H at hP hS ⊢
                    refine lv_sipush (v := 1000) hx hb dX7_of_131 (by decide) ?_
                    refine lv_iadd hx hb dX7_of_134 ?_
                    have e9 := Option.some.inj h
                    subst e9
                    rw [hQ]
                    exact W.iret (v := r10 + 1000) hx hb hr (fun t ht hW => ⟨⟨r10 + 1000, (), rfl, rfl, by rw [ht]; exact hP, hD⟩, hS.F ht⟩) hS.2.2 dX7_of_135
                  · replace h := br_n c11 h
                    refine lv_tableOut (tgt := 136) hx hb dX7_of_19 (sw_out8 (fun e => c2 (Int32.toInt_inj.mp (e.trans (by decide)))) (fun e => c4 (Int32.toInt_inj.mp (e.trans (by decide)))) (fun e => c5 (Int32.toInt_inj.mp (e.trans (by decide)))) (fun e => c6 (Int32.toInt_inj.mp (e.trans (by decide)))) (fun e => c7 (Int32.toInt_inj.mp (e.trans (by decide)))) (fun e => c8 (Int32.toInt_inj.mp (e.trans (by decide)))) (fun e => c9 (Int32.toInt_inj.mp (e.trans (by decide)))) (fun e => c11 (Int32.toInt_inj.mp (e.trans (by decide))))) (by decide) ?_
                    refine lv_bipush (v := (-2)) hx hb dX7_of_136 (by decide) ?_
                    have e9 := Option.some.inj h
                    subst e9
                    rw [hQ]
                    exact W.iret (v := (-2)) hx hb hr (fun t ht hW => ⟨⟨(-2), (), rfl, rfl, by rw [ht]; exact hP, hD⟩, hS.F ht⟩) hS.2.2 dX7_of_138
  · replace h := br_n (not_not_intro c12) h
    refine lv_iconst (v := (-1)) hx hb dX7_of_8 (by decide) ?_
    have e9 := Option.some.inj h
    subst e9
    rw [hQ]
    exact W.iret (v := (-1)) hx hb hr (fun t ht hW => ⟨⟨(-1), (), rfl, rfl, by rw [ht]; exact hP, hD⟩, hS.F ht⟩) hS.2.2 dX7_of_9
-- LeaningLines.pixel
abbrev OUT_X7_pixel : Type := Int32
def f_X7_pixel (px : Nat → Int32) (a0 : Int32) (a1 : Int32) : Option OUT_X7_pixel :=
  bn (f_X7_isPlace a0 a1) (fun r1 => (if ¬ r1 = 0 then bn (f_X3_pixelAt px a0 a1) (fun r2 => some (r2)) else some ((-1))))
theorem uX7_pixel_X7 : ∀ w ∈ wsX70, w ∈ wsX7_pixel := by decide +kernel
theorem kX7_pixel_1 : Cond.fieldLink RX7 10 "LeaningLines" "scene" "LLeaningLines$Scene;" ∈ wsX7_pixel := by decide +kernel
theorem uX7_pixel_X5 : ∀ w ∈ wsX50, w ∈ wsX7_pixel := by decide +kernel
theorem kX7_pixel_3 : Cond.fieldLink RX7 129 "LeaningLines$Scene" "picture" "LLeaningLines$Picture;" ∈ wsX7_pixel := by decide +kernel
abbrev R_X7_pixel : Room := { frames := 2, cells := 0, slots := 0, locals := 43 }
set_option maxHeartbeats 4000000 in
set_option maxRecDepth 100000 in
theorem m_X7_pixel (l : Launch) (D : va_G) (cI cC cZ cR : ClassId) (mm sc sea th th1 th2 th3 th4 th5 th6 th7 th8 th9 pi pia cm cm1 cm2 cm3 pd pda rd rda hh sla : Nat) (sz : Nat) (se : Nat → Int32) (mn : Int32) (ln : Nat → Int32) (hi : Nat → Int32) (wi : Nat → Int32) (br : Nat → Int32) (sp : Nat → Int32) (si : Nat → Int32) (le : Nat → Int32) (un : Nat → Int32) (ul : Nat → Int32) (px : Nat → Int32) (tm : Int32) (ps : Int32) (ft : Int32) (fk : Int32) (lea : Nat → Int32) (upr : Nat → Int32) (ris : Nat → Int32) (pl : Int32) (tx : Nat → Int32) (at_ : Int32) (kd : Int32) (va : Nat → Int32)  (a0 : Int32) (a1 : Int32)   (r : OUT_X7_pixel) (hf : f_X7_pixel px a0 a1 = some r) : Met l yX7_pixel wsX7_pixel R_X7_pixel (cPc D cI cC cZ cR [.ref mm, .int a0, .int a1] sz (ws_main cI cC cZ cR mm sc sea th th1 th2 th3 th4 th5 th6 th7 th8 th9 pi pia cm cm1 cm2 cm3 pd pda rd rda hh sla se mn ln hi wi br sp si le un ul px tm ps ft fk lea upr ris pl tx at_ kd va)) (cQi D (ws_main cI cC cZ cR mm sc sea th th1 th2 th3 th4 th5 th6 th7 th8 th9 pi pia cm cm1 cm2 cm3 pd pda rd rda hh sla se mn ln hi wi br sp si le un ul px tm ps ft fk lea upr ris pl tx at_ kd va) (va_A (ws_main cI cC cZ cR mm sc sea th th1 th2 th3 th4 th5 th6 th7 th8 th9 pi pia cm cm1 cm2 cm3 pd pda rd rda hh sla se mn ln hi wi br sp si le un ul px tm ps ft fk lea upr ris pl tx at_ kd va) sz) r) 0 0 (va_A (ws_main cI cC cZ cR mm sc sea th th1 th2 th3 th4 th5 th6 th7 th8 th9 pi pia cm cm1 cm2 cm3 pd pda rd rda hh sla se mn ln hi wi br sp si le un ul px tm ps ft fk lea upr ris pl tx at_ kd va) sz) := by
  refine Met.ofW (cc := cX7_pixel) (maxL := 3) (ret := (some .int)) (by decide) rfl ?_
  intro p e s m args below meth c s₁ B hml hv
  obtain ⟨rfl, hsz, hP, hK, hD0⟩ := hv
  have hx := B.exec
  have hb := B.bytes
  have hr := B.returns
  have hts := atoms_spec (ws := wsX7_pixel) B.pre
  have hown : s.vm.findClass RX7 = some m.cls := findClass_of_methodNamed B.named
  have hlocks := B.notSynchronized
  subst hsz
  have hD := hD0.self (sz := s.heap.size)
  generalize hAe : va_A (ws_main cI cC cZ cR mm sc sea th th1 th2 th3 th4 th5 th6 th7 th8 th9 pi pia cm cm1 cm2 cm3 pd pda rd rda hh sla se mn ln hi wi br sp si le un ul px tm ps ft fk lea upr ris pl tx at_ kd va) s.heap.size = A at hD ⊢
  skip
  have hA : ∀ q : Nat, s.heap.size ≤ q → A q := fun q h => by rw [← hAe]; exact Or.inr h
  have hS : va_S A s.heap s.heap [] := va_S.rf
  have hl := lv_entry ([.ref mm, .int a0, .int a1]) (n := 3) (Nat.le_of_ble_eq_true rfl)
  rw [lg_entry_eq]
  generalize (lg_sl ([.ref mm, .int a0, .int a1]) ++ List.replicate (3 - (lg_sl ([.ref mm, .int a0, .int a1])).length) Slot.unset).toArray = ls at hl ⊢
  have hl : lv_has ls 3 [(0, .ref mm), (1, .int a0), (2, .int a1)] := hl
  refine W_absQ (fun Q hQ => ?_)
  refine W.eq (g2 := F0 m 0 ls []) rfl ?_
  have h := hf
  unfold f_X7_pixel at h
  refine lv_iload_n hx hb dX7_pixel_0 rfl (lv_at hl 1 rfl) ?_
  refine lv_iload_n hx hb dX7_pixel_1 rfl (lv_at hl 2 rfl) ?_
  obtain ⟨r1, hcr1, h⟩ := bn_sp h
  have hPc := hP.sub (ws' := []) [] rfl
  have hDc := hD.sub (ws' := []) [] (by decide) rfl
  have hFc := va_free (wc := []) hD hS hA [] rfl
  refine va_calli (va_runS (As := [.int a0, .int a1]) (rest := []) ⟨hx, hb, hml, hown, hts⟩ (m_X7_isPlace l D cI cC cZ cR  _  a0 a1   r1 hcr1) (va_cwS 2 hts gX7_pixel_X7_isPlace rfl rfl rfl (by decide +kernel) ⟨Nat.le_of_ble_eq_true rfl, Nat.le_of_ble_eq_true rfl⟩) (cPc_ps hPc hK hDc) rfl rfl hl.1 rfl (lv_room (Nat.le_of_ble_eq_true rfl)) dX7_pixel_2 ⟨Nat.le_of_ble_eq_true rfl, Nat.le_of_ble_eq_true rfl⟩) hS (fun q _ h => hFc q h) hFc (fun xq u t H1 locs ht hvm hw hB hz1 hk1 hS => ?_)
  rw [hw]
  obtain ⟨hP1, hD1⟩ := hB
  rw [ht] at hP1
  obtain ⟨hP, hD⟩ := va_join (wr := [(mm, .inr (7, [.ref sc, .ref cm, .ref hh, .ref sla, .ref pd, .ref rd])), (sc, .inr (5, [.ref sea, .ref th, .ref pi, .int tm, .int ps, .int ft, .int fk])), (sea, .inl (cI, 4, .inl se)), (th, .inr (6, [.int mn, .ref th1, .ref th2, .ref th3, .ref th4, .ref th5, .ref th6, .ref th7, .ref th8, .ref th9])), (th1, .inl (cI, 8, .inl ln)), (th2, .inl (cI, 8, .inl hi)), (th3, .inl (cI, 8, .inl wi)), (th4, .inl (cI, 8, .inl br)), (th5, .inl (cI, 8, .inl sp)), (th6, .inl (cI, 8, .inl si)), (th7, .inl (cI, 8, .inl le)), (th8, .inl (cI, 8, .inl un)), (th9, .inl (cI, 8, .inl ul)), (pi, .inr (3, [.ref pia])), (pia, .inl (cI, 384, .inl px)), (cm, .inr (0, [.ref cm1, .ref cm2, .ref cm3])), (cm1, .inl (cI, 24, .inl lea)), (cm2, .inl (cI, 24, .inl upr)), (cm3, .inl (cI, 25, .inl ris)), (pd, .inr (2, [.ref pda, .int pl])), (pda, .inl (cC, 80, .inl tx)), (rd, .inr (4, [.ref pd, .int at_, .int kd, .ref rda])), (rda, .inl (cI, 7, .inl va))]) (w1 := []) hP hD [] [0, 1, 2, 3, 4, 5, 6, 7, 8, 9, 10, 11, 12, 13, 14, 15, 16, 17, 18, 19, 20, 21, 22] rfl rfl (by decide) (by decide) hk1 hFc hP1 hD1
  generalize H1 = H at hP hS ⊢
  have hP : va_P D vwCl (ws_main cI cC cZ cR mm sc sea th th1 th2 th3 th4 th5 th6 th7 th8 th9 pi pia cm cm1 cm2 cm3 pd pda rd rda hh sla se mn ln hi wi br sp si le un ul px tm ps ft fk lea upr ris pl tx at_ kd va) H := hP
  have hD : va_D A (ws_main cI cC cZ cR mm sc sea th th1 th2 th3 th4 th5 th6 th7 th8 th9 pi pia cm cm1 cm2 cm3 pd pda rd rda hh sla se mn ln hi wi br sp si le un ul px tm ps ft fk lea upr ris pl tx at_ kd va) := hD
  refine lv_if_ne (tgt := 10) hx hb dX7_pixel_5 (by decide) (fun c3 => ?_) (fun c3 => ?_)
  · replace h := br_p c3 h
    refine lv_aload_n hx hb dX7_pixel_10 rfl (lv_at hl 0 rfl) ?_
    refine va_get (D := D) (ci := 7) (v := .ref sc) (C := RX7) (T := TX7) (N := 6) hx hb hts uX7_pixel_X7 hown hK.1 hP 0 rfl rfl 0 (by decide) (hts _ kX7_pixel_1) (fun _ h9 => h9) rfl dX7_pixel_11 ?_
    refine va_get (D := D) (ci := 5) (v := .ref pi) (C := RX5) (T := TX5) (N := 7) hx hb hts uX7_pixel_X5 hown hK.1 hP 1 rfl rfl 2 (by decide) (hts _ kX7_pixel_3) (fun _ h9 => h9) rfl dX7_pixel_14 ?_
    refine lv_iload_n hx hb dX7_pixel_17 rfl (lv_at hl 1 rfl) ?_
    refine lv_iload_n hx hb dX7_pixel_18 rfl (lv_at hl 2 rfl) ?_
    obtain ⟨r2, hcr2, h⟩ := bn_sp h
    have hPc := hP.sub (ws' := (ws_picture cI cC cZ cR pi pia px)) [13, 14] rfl
    have hDc := hD.sub (ws' := (ws_picture cI cC cZ cR pi pia px)) [13, 14] (by decide) rfl
    have hFc := va_free (wc := (ws_picture cI cC cZ cR pi pia px)) hD hS hA [13, 14] rfl
    refine va_calli (va_runV (As := [.int a0, .int a1]) (rest := []) ⟨hx, hb, hml, hown, hts⟩ (m_X3_pixelAt l D cI cC cZ cR pi pia _ px a0 a1   r2 hcr2) (cwV 2 hts gX7_pixel_X3_pixelAt rfl rfl rfl (by decide +kernel) ⟨Nat.le_of_ble_eq_true rfl, Nat.le_of_ble_eq_true rfl⟩) (cPc_pv hPc hK hDc (ci := 3) (q0 := 0) rfl rfl) rfl rfl hl.1 rfl (lv_room (Nat.le_of_ble_eq_true rfl)) dX7_pixel_19 ⟨Nat.le_of_ble_eq_true rfl, Nat.le_of_ble_eq_true rfl⟩) hS (fun q _ h => hFc q h) hFc (fun xq u t H1 locs ht hvm hw hB hz1 hk1 hS => ?_)
    rw [hw]
    obtain ⟨hP1, hD1⟩ := hB
    rw [ht] at hP1
    obtain ⟨hP, hD⟩ := va_join (wr := [(mm, .inr (7, [.ref sc, .ref cm, .ref hh, .ref sla, .ref pd, .ref rd])), (sc, .inr (5, [.ref sea, .ref th, .ref pi, .int tm, .int ps, .int ft, .int fk])), (sea, .inl (cI, 4, .inl se)), (th, .inr (6, [.int mn, .ref th1, .ref th2, .ref th3, .ref th4, .ref th5, .ref th6, .ref th7, .ref th8, .ref th9])), (th1, .inl (cI, 8, .inl ln)), (th2, .inl (cI, 8, .inl hi)), (th3, .inl (cI, 8, .inl wi)), (th4, .inl (cI, 8, .inl br)), (th5, .inl (cI, 8, .inl sp)), (th6, .inl (cI, 8, .inl si)), (th7, .inl (cI, 8, .inl le)), (th8, .inl (cI, 8, .inl un)), (th9, .inl (cI, 8, .inl ul)), (cm, .inr (0, [.ref cm1, .ref cm2, .ref cm3])), (cm1, .inl (cI, 24, .inl lea)), (cm2, .inl (cI, 24, .inl upr)), (cm3, .inl (cI, 25, .inl ris)), (pd, .inr (2, [.ref pda, .int pl])), (pda, .inl (cC, 80, .inl tx)), (rd, .inr (4, [.ref pd, .int at_, .int kd, .ref rda])), (rda, .inl (cI, 7, .inl va))]) (w1 := (ws_picture cI cC cZ cR pi pia px)) hP hD [13, 14] [0, 1, 2, 3, 4, 5, 6, 7, 8, 9, 10, 11, 12, 15, 16, 17, 18, 19, 20, 21, 22] rfl rfl (by decide) (by decide) hk1 hFc hP1 hD1
    have hP := hP.sub (ws' := (ws_main cI cC cZ cR mm sc sea th th1 th2 th3 th4 th5 th6 th7 th8 th9 pi pia cm cm1 cm2 cm3 pd pda rd rda hh sla se mn ln hi wi br sp si le un ul px tm ps ft fk lea upr ris pl tx at_ kd va)) [0, 1, 2, 3, 4, 5, 6, 7, 8, 9, 10, 11, 12, 21, 22, 13, 14, 15, 16, 17, 18, 19, 20] rfl
    have hD := hD.sub (ws' := (ws_main cI cC cZ cR mm sc sea th th1 th2 th3 th4 th5 th6 th7 th8 th9 pi pia cm cm1 cm2 cm3 pd pda rd rda hh sla se mn ln hi wi br sp si le un ul px tm ps ft fk lea upr ris pl tx at_ kd va)) [0, 1, 2, 3, 4, 5, 6, 7, 8, 9, 10, 11, 12, 21, 22, 13, 14, 15, 16, 17, 18, 19, 20] (by decide) rfl
    generalize H1 = H at hP hS ⊢
    have e9 := Option.some.inj h
    subst e9
    rw [hQ]
    exact W.iret (v := r2) hx hb hr (fun t ht hW => ⟨⟨r2, (), rfl, rfl, by rw [ht]; exact hP, hD⟩, hS.F ht⟩) hS.2.2 dX7_pixel_22
  · replace h := br_n (not_not_intro c3) h
    refine lv_iconst (v := (-1)) hx hb dX7_pixel_8 (by decide) ?_
    have e9 := Option.some.inj h
    subst e9
    rw [hQ]
    exact W.iret (v := (-1)) hx hb hr (fun t ht hW => ⟨⟨(-1), (), rfl, rfl, by rw [ht]; exact hP, hD⟩, hS.F ht⟩) hS.2.2 dX7_pixel_9
-- LeaningLines.joined
abbrev OUT_X7_joined : Type := Int32
def f_X7_joined_L48 (px : Nat → Int32) (a1 : Int32) (x3 : Int32) (k : Int32 → Int32 → Option OUT_X7_joined) : Nat → Int32 → Int32 → Option OUT_X7_joined
  | 0 => fun _ _ => none
  | n + 1 => fun v7 v8 => (if x3 ≤ v8 then k v7 v8 else bn (f_X3_pixelAt px v8 a1) (fun r9 => bd (v7 + r9) (fun x10 => bd (v8 + 1) (fun x11 => f_X7_joined_L48 px a1 x3 k n x10 x11))))
theorem f_X7_joined_L48_s (px : Nat → Int32) (a1 : Int32) (x3 : Int32) (k : Int32 → Int32 → Option OUT_X7_joined) (n : Nat) (v7 : Int32) (v8 : Int32) : f_X7_joined_L48 px a1 x3 k (n + 1) v7 v8 = ((if x3 ≤ v8 then k v7 v8 else bn (f_X3_pixelAt px v8 a1) (fun r9 => bd (v7 + r9) (fun x10 => bd (v8 + 1) (fun x11 => f_X7_joined_L48 px a1 x3 k n x10 x11))))) := rfl
def f_X7_joined (se : Nat → Int32) (px : Nat → Int32) (a0 : Int32) (a1 : Int32) : Option OUT_X7_joined :=
  gd 3 4 (bd (se (3 : Int32).toNatClampNeg) (fun x1 => bn (f_X7_isPlace a0 a1) (fun r2 => (if r2 = 0 then some ((-1)) else (if (a0 * x1) < 16 then bd (if (a0 * x1) + x1 < 16 then (a0 * x1) + x1 else 16) (fun x3 => bd (a0 * x1) (fun x4 => f_X7_joined_L48 px a1 x3 (fun (w13 : Int32) (w14 : Int32) => some (w13)) 4000 0 x4)) else some ((-1)))))))
theorem uX7_joined_X7 : ∀ w ∈ wsX70, w ∈ wsX7_joined := by decide +kernel
theorem kX7_joined_1 : Cond.fieldLink RX7 10 "LeaningLines" "scene" "LLeaningLines$Scene;" ∈ wsX7_joined := by decide +kernel
theorem uX7_joined_X5 : ∀ w ∈ wsX50, w ∈ wsX7_joined := by decide +kernel
theorem kX7_joined_3 : Cond.fieldLink RX7 65 "LeaningLines$Scene" "settings" "[I" ∈ wsX7_joined := by decide +kernel
theorem kX7_joined_4 : Cond.methodLink RX7 162 Lib.Math.min.name ∈ wsX7_joined := by decide +kernel
theorem kX7_joined_5 : Cond.static Lib.Math.min.name ∈ wsX7_joined := by decide +kernel
theorem kX7_joined_6 : Cond.initialized "java/lang/Math" ∈ wsX7_joined := by decide +kernel
theorem kX7_joined_7 : Cond.code Lib.Math.min.name Lib.Math.min.code 2 (some .int) ∈ wsX7_joined := by decide +kernel
theorem kX7_joined_8 : Cond.fieldLink RX7 129 "LeaningLines$Scene" "picture" "LLeaningLines$Picture;" ∈ wsX7_joined := by decide +kernel
abbrev R_X7_joined : Room := { frames := 2, cells := 0, slots := 0, locals := 43 }
set_option maxHeartbeats 4000000 in
set_option maxRecDepth 100000 in
theorem m_X7_joined (l : Launch) (D : va_G) (cI cC cZ cR : ClassId) (mm sc sea th th1 th2 th3 th4 th5 th6 th7 th8 th9 pi pia cm cm1 cm2 cm3 pd pda rd rda hh sla : Nat) (sz : Nat) (se : Nat → Int32) (mn : Int32) (ln : Nat → Int32) (hi : Nat → Int32) (wi : Nat → Int32) (br : Nat → Int32) (sp : Nat → Int32) (si : Nat → Int32) (le : Nat → Int32) (un : Nat → Int32) (ul : Nat → Int32) (px : Nat → Int32) (tm : Int32) (ps : Int32) (ft : Int32) (fk : Int32) (lea : Nat → Int32) (upr : Nat → Int32) (ris : Nat → Int32) (pl : Int32) (tx : Nat → Int32) (at_ : Int32) (kd : Int32) (va : Nat → Int32)  (a0 : Int32) (a1 : Int32)   (r : OUT_X7_joined) (hf : f_X7_joined se px a0 a1 = some r) : Met l yX7_joined wsX7_joined R_X7_joined (cPc D cI cC cZ cR [.ref mm, .int a0, .int a1] sz (ws_main cI cC cZ cR mm sc sea th th1 th2 th3 th4 th5 th6 th7 th8 th9 pi pia cm cm1 cm2 cm3 pd pda rd rda hh sla se mn ln hi wi br sp si le un ul px tm ps ft fk lea upr ris pl tx at_ kd va)) (cQi D (ws_main cI cC cZ cR mm sc sea th th1 th2 th3 th4 th5 th6 th7 th8 th9 pi pia cm cm1 cm2 cm3 pd pda rd rda hh sla se mn ln hi wi br sp si le un ul px tm ps ft fk lea upr ris pl tx at_ kd va) (va_A (ws_main cI cC cZ cR mm sc sea th th1 th2 th3 th4 th5 th6 th7 th8 th9 pi pia cm cm1 cm2 cm3 pd pda rd rda hh sla se mn ln hi wi br sp si le un ul px tm ps ft fk lea upr ris pl tx at_ kd va) sz) r) 0 0 (va_A (ws_main cI cC cZ cR mm sc sea th th1 th2 th3 th4 th5 th6 th7 th8 th9 pi pia cm cm1 cm2 cm3 pd pda rd rda hh sla se mn ln hi wi br sp si le un ul px tm ps ft fk lea upr ris pl tx at_ kd va) sz) := by
  refine Met.ofW (cc := cX7_joined) (maxL := 7) (ret := (some .int)) (by decide) rfl ?_
  intro p e s m args below meth c s₁ B hml hv
  obtain ⟨rfl, hsz, hP, hK, hD0⟩ := hv
  have hx := B.exec
  have hb := B.bytes
  have hr := B.returns
  have hts := atoms_spec (ws := wsX7_joined) B.pre
  have hown : s.vm.findClass RX7 = some m.cls := findClass_of_methodNamed B.named
  have hlocks := B.notSynchronized
  subst hsz
  have hD := hD0.self (sz := s.heap.size)
  generalize hAe : va_A (ws_main cI cC cZ cR mm sc sea th th1 th2 th3 th4 th5 th6 th7 th8 th9 pi pia cm cm1 cm2 cm3 pd pda rd rda hh sla se mn ln hi wi br sp si le un ul px tm ps ft fk lea upr ris pl tx at_ kd va) s.heap.size = A at hD ⊢
  skip
  have hA : ∀ q : Nat, s.heap.size ≤ q → A q := fun q h => by rw [← hAe]; exact Or.inr h
  have hS : va_S A s.heap s.heap [] := va_S.rf
  have hl := lv_entry ([.ref mm, .int a0, .int a1]) (n := 7) (Nat.le_of_ble_eq_true rfl)
  rw [lg_entry_eq]
  generalize (lg_sl ([.ref mm, .int a0, .int a1]) ++ List.replicate (7 - (lg_sl ([.ref mm, .int a0, .int a1])).length) Slot.unset).toArray = ls at hl ⊢
  have hl : lv_has ls 7 [(0, .ref mm), (1, .int a0), (2, .int a1)] := hl
  refine W_absQ (fun Q hQ => ?_)
  refine W.eq (g2 := F0 m 0 ls []) rfl ?_
  have h := hf
  unfold f_X7_joined at h
  refine lv_aload_n hx hb dX7_joined_0 rfl (lv_at hl 0 rfl) ?_
  refine va_get (D := D) (ci := 7) (v := .ref sc) (C := RX7) (T := TX7) (N := 6) hx hb hts uX7_joined_X7 hown hK.1 hP 0 rfl rfl 0 (by decide) (hts _ kX7_joined_1) (fun _ h9 => h9) rfl dX7_joined_1 ?_
  refine va_get (D := D) (ci := 5) (v := .ref sea) (C := RX5) (T := TX5) (N := 7) hx hb hts uX7_joined_X5 hown hK.1 hP 1 rfl rfl 0 (by decide) (hts _ kX7_joined_3) (fun _ h9 => h9) rfl dX7_joined_4 ?_
  refine lv_iconst (v := 3) hx hb dX7_joined_7 (by decide) ?_
  obtain ⟨hin, h⟩ := gd_sp h
  refine va_iald (D := D) hx hb hK.1 hP 2 0 rfl rfl hin dX7_joined_8 ?_
  refine lv_topi (fun x1 ex1 => ?_)
  replace h := bd_s2 h ex1
  refine lv_istore_n (lv' := [(3, .int x1), (0, .ref mm), (1, .int a0), (2, .int a1)]) hx hb dX7_joined_9 rfl hl (by decide) rfl (fun ls hl => ?_)
  refine lv_iload_n hx hb dX7_joined_10 rfl (lv_at hl 2 rfl) ?_
  refine lv_iload_n hx hb dX7_joined_11 rfl (lv_at hl 3 rfl) ?_
  obtain ⟨r2, hcr2, h⟩ := bn_sp h
  have hPc := hP.sub (ws' := []) [] rfl
  have hDc := hD.sub (ws' := []) [] (by decide) rfl
  have hFc := va_free (wc := []) hD hS hA [] rfl
  refine va_calli (va_runS (As := [.int a0, .int a1]) (rest := []) ⟨hx, hb, hml, hown, hts⟩ (m_X7_isPlace l D cI cC cZ cR  _  a0 a1   r2 hcr2) (va_cwS 2 hts gX7_joined_X7_isPlace rfl rfl rfl (by decide +kernel) ⟨Nat.le_of_ble_eq_true rfl, Nat.le_of_ble_eq_true rfl⟩) (cPc_ps hPc hK hDc) rfl rfl hl.1 rfl (lv_room (Nat.le_of_ble_eq_true rfl)) dX7_joined_12 ⟨Nat.le_of_ble_eq_true rfl, Nat.le_of_ble_eq_true rfl⟩) hS (fun q _ h => hFc q h) hFc (fun xq u t H1 locs ht hvm hw hB hz1 hk1 hS => ?_)
  rw [hw]
  obtain ⟨hP1, hD1⟩ := hB
  rw [ht] at hP1
  obtain ⟨hP, hD⟩ := va_join (wr := [(mm, .inr (7, [.ref sc, .ref cm, .ref hh, .ref sla, .ref pd, .ref rd])), (sc, .inr (5, [.ref sea, .ref th, .ref pi, .int tm, .int ps, .int ft, .int fk])), (sea, .inl (cI, 4, .inl se)), (th, .inr (6, [.int mn, .ref th1, .ref th2, .ref th3, .ref th4, .ref th5, .ref th6, .ref th7, .ref th8, .ref th9])), (th1, .inl (cI, 8, .inl ln)), (th2, .inl (cI, 8, .inl hi)), (th3, .inl (cI, 8, .inl wi)), (th4, .inl (cI, 8, .inl br)), (th5, .inl (cI, 8, .inl sp)), (th6, .inl (cI, 8, .inl si)), (th7, .inl (cI, 8, .inl le)), (th8, .inl (cI, 8, .inl un)), (th9, .inl (cI, 8, .inl ul)), (pi, .inr (3, [.ref pia])), (pia, .inl (cI, 384, .inl px)), (cm, .inr (0, [.ref cm1, .ref cm2, .ref cm3])), (cm1, .inl (cI, 24, .inl lea)), (cm2, .inl (cI, 24, .inl upr)), (cm3, .inl (cI, 25, .inl ris)), (pd, .inr (2, [.ref pda, .int pl])), (pda, .inl (cC, 80, .inl tx)), (rd, .inr (4, [.ref pd, .int at_, .int kd, .ref rda])), (rda, .inl (cI, 7, .inl va))]) (w1 := []) hP hD [] [0, 1, 2, 3, 4, 5, 6, 7, 8, 9, 10, 11, 12, 13, 14, 15, 16, 17, 18, 19, 20, 21, 22] rfl rfl (by decide) (by decide) hk1 hFc hP1 hD1
  generalize H1 = H at hP hS ⊢
  have hP : va_P D vwCl (ws_main cI cC cZ cR mm sc sea th th1 th2 th3 th4 th5 th6 th7 th8 th9 pi pia cm cm1 cm2 cm3 pd pda rd rda hh sla se mn ln hi wi br sp si le un ul px tm ps ft fk lea upr ris pl tx at_ kd va) H := hP
  have hD : va_D A (ws_main cI cC cZ cR mm sc sea th th1 th2 th3 th4 th5 th6 th7 th8 th9 pi pia cm cm1 cm2 cm3 pd pda rd rda hh sla se mn ln hi wi br sp si le un ul px tm ps ft fk lea upr ris pl tx at_ kd va) := hD
  refine lv_if_eq (tgt := 26) hx hb dX7_joined_15 (by decide) (fun c16 => ?_) (fun c16 => ?_)
  · replace h := br_p c16 h
    refine lv_iconst (v := (-1)) hx hb dX7_joined_26 (by decide) ?_
    have e9 := Option.some.inj h
    subst e9
    rw [hQ]
    exact W.iret (v := (-1)) hx hb hr (fun t ht hW => ⟨⟨(-1), (), rfl, rfl, by rw [ht]; exact hP, hD⟩, hS.F ht⟩) hS.2.2 dX7_joined_27
  · replace h := br_n c16 h
    refine lv_iload_n hx hb dX7_joined_18 rfl (lv_at hl 2 rfl) ?_
    refine lv_iload_n hx hb dX7_joined_19 rfl (lv_at hl 0 rfl) ?_
    refine lv_imul hx hb dX7_joined_20 ?_
    refine lv_bipush (v := 16) hx hb dX7_joined_21 (by decide) ?_
    refine lv_icmp_lt (tgt := 28) hx hb dX7_joined_23 (by decide) (fun c15 => ?_) (fun c15 => ?_)
    · replace h := br_p c15 h
      refine lv_bipush (v := 16) hx hb dX7_joined_28 (by decide) ?_
      refine lv_iload_n hx hb dX7_joined_30 rfl (lv_at hl 2 rfl) ?_
      refine lv_iload_n hx hb dX7_joined_31 rfl (lv_at hl 0 rfl) ?_
      refine lv_imul hx hb dX7_joined_32 ?_
      refine lv_iload_n hx hb dX7_joined_33 rfl (lv_at hl 0 rfl) ?_
      refine lv_iadd hx hb dX7_joined_34 ?_
      refine va_mmin hx hb (by rw [hml]; exact hl.1.symm) hown (hts _ kX7_joined_4) (hts _ kX7_joined_5) (hts _ kX7_joined_6) (hts _ kX7_joined_7) (Nat.le_of_ble_eq_true rfl) (Nat.le_of_ble_eq_true rfl) (Nat.le_of_ble_eq_true rfl) (Nat.le_of_ble_eq_true rfl) dX7_joined_35 ?_
      refine lv_topi (fun x3 ex3 => ?_)
      replace h := bd_s2 h ex3
      refine lv_istore (lv' := [(4, .int x3), (3, .int x1), (0, .ref mm), (1, .int a0), (2, .int a1)]) hx hb dX7_joined_38 hl (by decide) rfl (fun ls hl => ?_)
      refine lv_iconst (v := 0) hx hb dX7_joined_40 (by decide) ?_
      refine lv_istore (lv' := [(5, .int 0), (4, .int x3), (3, .int x1), (0, .ref mm), (1, .int a0), (2, .int a1)]) hx hb dX7_joined_41 hl (by decide) rfl (fun ls hl => ?_)
      refine lv_iload_n hx hb dX7_joined_43 rfl (lv_at hl 4 rfl) ?_
      refine lv_iload_n hx hb dX7_joined_44 rfl (lv_at hl 2 rfl) ?_
      refine lv_imul hx hb dX7_joined_45 ?_
      refine lv_topi (fun x4 ex4 => ?_)
      replace h := bd_s2 h ex4
      refine lv_istore (lv' := [(6, .int x4), (5, .int 0), (4, .int x3), (3, .int x1), (0, .ref mm), (1, .int a0), (2, .int a1)]) hx hb dX7_joined_46 hl (by decide) rfl (fun ls hl => ?_)
      have L48 : ∀ (k : Int32 → Int32 → Option OUT_X7_joined), (∀ (w13 : Int32) (w14 : Int32) (H : Heap) (locs : List Loc) (ls : Array Slot), k w13 w14 = some r → va_P D vwCl (ws_main cI cC cZ cR mm sc sea th th1 th2 th3 th4 th5 th6 th7 th8 th9 pi pia cm cm1 cm2 cm3 pd pda rd rda hh sla se mn ln hi wi br sp si le un ul px tm ps ft fk lea upr ris pl tx at_ kd va) H → va_D A (ws_main cI cC cZ cR mm sc sea th th1 th2 th3 th4 th5 th6 th7 th8 th9 pi pia cm cm1 cm2 cm3 pd pda rd rda hh sla se mn ln hi wi br sp si le un ul px tm ps ft fk lea upr ris pl tx at_ kd va) → va_S A s.heap H locs → lv_has ls 7 [(0, .ref mm), (1, .int a0), (2, .int a1), (3, .int x1), (4, .int x3), (5, .int w13), (6, .int w14)] → W p l e R_X7_joined s m ([.ref mm, .int a0, .int a1] : List Value).toArray below meth c H locs 0 0 Q (F0 m 79 ls [])) → ∀ (n : Nat) (v7 : Int32) (v8 : Int32) (H : Heap) (locs : List Loc) (ls : Array Slot), f_X7_joined_L48 px a1 x3 k n v7 v8 = some r → va_P D vwCl (ws_main cI cC cZ cR mm sc sea th th1 th2 th3 th4 th5 th6 th7 th8 th9 pi pia cm cm1 cm2 cm3 pd pda rd rda hh sla se mn ln hi wi br sp si le un ul px tm ps ft fk lea upr ris pl tx at_ kd va) H → va_D A (ws_main cI cC cZ cR mm sc sea th th1 th2 th3 th4 th5 th6 th7 th8 th9 pi pia cm cm1 cm2 cm3 pd pda rd rda hh sla se mn ln hi wi br sp si le un ul px tm ps ft fk lea upr ris pl tx at_ kd va) → va_S A s.heap H locs → lv_has ls 7 [(0, .ref mm), (1, .int a0), (2, .int a1), (3, .int x1), (4, .int x3), (5, .int v7), (6, .int v8)] → W p l e R_X7_joined s m ([.ref mm, .int a0, .int a1] : List Value).toArray below meth c H locs 0 0 Q (F0 m 48 ls []) := by
        intro k K n
        induction n with
        | zero => intro v7 v8 H locs ls h; exact no_sm h
        | succ n ih =>
          intro v7 v8 H locs ls h hP hD hS hl
          rw [f_X7_joined_L48_s] at h
          refine lv_iload hx hb dX7_joined_48 (lv_at hl 6 rfl) ?_
          refine lv_iload hx hb dX7_joined_50 (lv_at hl 4 rfl) ?_
          refine lv_icmp_ge (tgt := 79) hx hb dX7_joined_52 (by decide) (fun c12 => ?_) (fun c12 => ?_)
          · replace h := br_p c12 h
            exact K _ _ _ _ _ h hP hD hS (lv_sub hl [0, 1, 2, 3, 4, 5, 6] rfl)
          · replace h := br_n c12 h
            refine lv_iload hx hb dX7_joined_55 (lv_at hl 5 rfl) ?_
            refine lv_aload_n hx hb dX7_joined_57 rfl (lv_at hl 0 rfl) ?_
            refine va_get (D := D) (ci := 7) (v := .ref sc) (C := RX7) (T := TX7) (N := 6) hx hb hts uX7_joined_X7 hown hK.1 hP 0 rfl rfl 0 (by decide) (hts _ kX7_joined_1) (fun _ h9 => h9) rfl dX7_joined_58 ?_
            refine va_get (D := D) (ci := 5) (v := .ref pi) (C := RX5) (T := TX5) (N := 7) hx hb hts uX7_joined_X5 hown hK.1 hP 1 rfl rfl 2 (by decide) (hts _ kX7_joined_8) (fun _ h9 => h9) rfl dX7_joined_61 ?_
            refine lv_iload hx hb dX7_joined_64 (lv_at hl 6 rfl) ?_
            refine lv_iload_n hx hb dX7_joined_66 rfl (lv_at hl 2 rfl) ?_
            obtain ⟨r9, hcr9, h⟩ := bn_sp h
            have hPc := hP.sub (ws' := (ws_picture cI cC cZ cR pi pia px)) [13, 14] rfl
            have hDc := hD.sub (ws' := (ws_picture cI cC cZ cR pi pia px)) [13, 14] (by decide) rfl
            have hFc := va_free (wc := (ws_picture cI cC cZ cR pi pia px)) hD hS hA [13, 14] rfl
            refine va_calli (va_runV (As := [.int v8, .int a1]) (rest := [.int v7]) ⟨hx, hb, hml, hown, hts⟩ (m_X3_pixelAt l D cI cC cZ cR pi pia _ px v8 a1   r9 hcr9) (cwV 2 hts gX7_joined_X3_pixelAt rfl rfl rfl (by decide +kernel) ⟨Nat.le_of_ble_eq_true rfl, Nat.le_of_ble_eq_true rfl⟩) (cPc_pv hPc hK hDc (ci := 3) (q0 := 0) rfl rfl) rfl rfl hl.1 rfl (lv_room (Nat.le_of_ble_eq_true rfl)) dX7_joined_67 ⟨Nat.le_of_ble_eq_true rfl, Nat.le_of_ble_eq_true rfl⟩) hS (fun q _ h => hFc q h) hFc (fun xq u t H1 locs ht hvm hw hB hz1 hk1 hS => ?_)
            rw [hw]
            obtain ⟨hP1, hD1⟩ := hB
            rw [ht] at hP1
            obtain ⟨hP, hD⟩ := va_join (wr := [(mm, .inr (7, [.ref sc, .ref cm, .ref hh, .ref sla, .ref pd, .ref rd])), (sc, .inr (5, [.ref sea, .ref th, .ref pi, .int tm, .int ps, .int ft, .int fk])), (sea, .inl (cI, 4, .inl se)), (th, .inr (6, [.int mn, .ref th1, .ref th2, .ref th3, .ref th4, .ref th5, .ref th6, .ref th7, .ref th8, .ref th9])), (th1, .inl (cI, 8, .inl ln)), (th2, .inl (cI, 8, .inl hi)), (th3, .inl (cI, 8, .inl wi)), (th4, .inl (cI, 8, .inl br)), (th5, .inl (cI, 8, .inl sp)), (th6, .inl (cI, 8, .inl si)), (th7, .inl (cI, 8, .inl le)), (th8, .inl (cI, 8, .inl un)), (th9, .inl (cI, 8, .inl ul)), (cm, .inr (0, [.ref cm1, .ref cm2, .ref cm3])), (cm1, .inl (cI, 24, .inl lea)), (cm2, .inl (cI, 24, .inl upr)), (cm3, .inl (cI, 25, .inl ris)), (pd, .inr (2, [.ref pda, .int pl])), (pda, .inl (cC, 80, .inl tx)), (rd, .inr (4, [.ref pd, .int at_, .int kd, .ref rda])), (rda, .inl (cI, 7, .inl va))]) (w1 := (ws_picture cI cC cZ cR pi pia px)) hP hD [13, 14] [0, 1, 2, 3, 4, 5, 6, 7, 8, 9, 10, 11, 12, 15, 16, 17, 18, 19, 20, 21, 22] rfl rfl (by decide) (by decide) hk1 hFc hP1 hD1
            have hP := hP.sub (ws' := (ws_main cI cC cZ cR mm sc sea th th1 th2 th3 th4 th5 th6 th7 th8 th9 pi pia cm cm1 cm2 cm3 pd pda rd rda hh sla se mn ln hi wi br sp si le un ul px tm ps ft fk lea upr ris pl tx at_ kd va)) [0, 1, 2, 3, 4, 5, 6, 7, 8, 9, 10, 11, 12, 21, 22, 13, 14, 15, 16, 17, 18, 19, 20] rfl
            have hD := hD.sub (ws' := (ws_main cI cC cZ cR mm sc sea th th1 th2 th3 th4 th5 th6 th7 th8 th9 pi pia cm cm1 cm2 cm3 pd pda rd rda hh sla se mn ln hi wi br sp si le un ul px tm ps ft fk lea upr ris pl tx at_ kd va)) [0, 1, 2, 3, 4, 5, 6, 7, 8, 9, 10, 11, 12, 21, 22, 13, 14, 15, 16, 17, 18, 19, 20] (by decide) rfl
            generalize H1 = H at hP hS ⊢
            refine lv_iadd hx hb dX7_joined_70 ?_
            refine lv_topi (fun x10 ex10 => ?_)
            replace h := bd_s2 h ex10
            refine lv_istore (lv' := [(5, .int x10), (0, .ref mm), (1, .int a0), (2, .int a1), (3, .int x1), (4, .int x3), (6, .int v8)]) hx hb dX7_joined_71 hl (by decide) rfl (fun ls hl => ?_)
            obtain ⟨x11, ex11, h⟩ := bd_sp h
            refine lv_iinc (v := x11) (lv' := [(6, .int x11), (5, .int x10), (0, .ref mm), (1, .int a0), (2, .int a1), (3, .int x1), (4, .int x3)]) hx hb dX7_joined_73 hl (k := 6) rfl (by rw [ex11]; rfl) (by decide) rfl (fun ls hl => ?_)
            refine lv_goto (tgt := 48) hx hb dX7_joined_76 (by decide) ?_
            exact ih _ _ _ _ _ h hP hD hS (lv_sub hl [2, 3, 4, 5, 6, 1, 0] rfl)
      refine L48 _ (fun w13 w14 H locs ls h hP hD hS hl => ?_) 4000 0 x4 _ _ _ h hP hD hS (lv_sub hl [4, 5, 6, 3, 2, 1, 0] rfl)
      refine lv_iload hx hb dX7_joined_79 (lv_at hl 5 rfl) ?_
      have e9 := Option.some.inj h
      subst e9
      rw [hQ]
      exact W.iret (v := w13) hx hb hr (fun t ht hW => ⟨⟨w13, (), rfl, rfl, by rw [ht]; exact hP, hD⟩, hS.F ht⟩) hS.2.2 dX7_joined_81
    · replace h := br_n c15 h
      refine lv_iconst (v := (-1)) hx hb dX7_joined_26 (by decide) ?_
      have e9 := Option.some.inj h
      subst e9
      rw [hQ]
      exact W.iret (v := (-1)) hx hb hr (fun t ht hW => ⟨⟨(-1), (), rfl, rfl, by rw [ht]; exact hP, hD⟩, hS.F ht⟩) hS.2.2 dX7_joined_27
-- LeaningLines.ofLine
abbrev OUT_X7_ofLine : Type := Int32
def f_X7_ofLine (px : Nat → Int32) (a0 : Int32) (a1 : Int32) : Option OUT_X7_ofLine :=
  bn (f_X7_within a0 0 15) (fun r1 => (if ¬ r1 = 0 then (if a1 = 0 then bn (f_X3_columnsNotDark px a0) (fun r2 => some (r2)) else (if a1 = 1 then bn (f_X3_sumOfLine px a0) (fun r4 => some (r4)) else (if a1 = 2 then bn (f_X3_leftmostNotDark px a0) (fun r6 => some (r6)) else some ((-2))))) else some ((-1))))
theorem uX7_ofLine_X7 : ∀ w ∈ wsX70, w ∈ wsX7_ofLine := by decide +kernel
theorem kX7_ofLine_1 : Cond.fieldLink RX7 10 "LeaningLines" "scene" "LLeaningLines$Scene;" ∈ wsX7_ofLine := by decide +kernel
theorem uX7_ofLine_X5 : ∀ w ∈ wsX50, w ∈ wsX7_ofLine := by decide +kernel
theorem kX7_ofLine_3 : Cond.fieldLink RX7 129 "LeaningLines$Scene" "picture" "LLeaningLines$Picture;" ∈ wsX7_ofLine := by decide +kernel
abbrev R_X7_ofLine : Room := { frames := 2, cells := 0, slots := 0, locals := 45 }
set_option maxHeartbeats 4000000 in
set_option maxRecDepth 100000 in
theorem m_X7_ofLine (l : Launch) (D : va_G) (cI cC cZ cR : ClassId) (mm sc sea th th1 th2 th3 th4 th5 th6 th7 th8 th9 pi pia cm cm1 cm2 cm3 pd pda rd rda hh sla : Nat) (sz : Nat) (se : Nat → Int32) (mn : Int32) (ln : Nat → Int32) (hi : Nat → Int32) (wi : Nat → Int32) (br : Nat → Int32) (sp : Nat → Int32) (si : Nat → Int32) (le : Nat → Int32) (un : Nat → Int32) (ul : Nat → Int32) (px : Nat → Int32) (tm : Int32) (ps : Int32) (ft : Int32) (fk : Int32) (lea : Nat → Int32) (upr : Nat → Int32) (ris : Nat → Int32) (pl : Int32) (tx : Nat → Int32) (at_ : Int32) (kd : Int32) (va : Nat → Int32)  (a0 : Int32) (a1 : Int32)   (r : OUT_X7_ofLine) (hf : f_X7_ofLine px a0 a1 = some r) : Met l yX7_ofLine wsX7_ofLine R_X7_ofLine (cPc D cI cC cZ cR [.ref mm, .int a0, .int a1] sz (ws_main cI cC cZ cR mm sc sea th th1 th2 th3 th4 th5 th6 th7 th8 th9 pi pia cm cm1 cm2 cm3 pd pda rd rda hh sla se mn ln hi wi br sp si le un ul px tm ps ft fk lea upr ris pl tx at_ kd va)) (cQi D (ws_main cI cC cZ cR mm sc sea th th1 th2 th3 th4 th5 th6 th7 th8 th9 pi pia cm cm1 cm2 cm3 pd pda rd rda hh sla se mn ln hi wi br sp si le un ul px tm ps ft fk lea upr ris pl tx at_ kd va) (va_A (ws_main cI cC cZ cR mm sc sea th th1 th2 th3 th4 th5 th6 th7 th8 th9 pi pia cm cm1 cm2 cm3 pd pda rd rda hh sla se mn ln hi wi br sp si le un ul px tm ps ft fk lea upr ris pl tx at_ kd va) sz) r) 0 0 (va_A (ws_main cI cC cZ cR mm sc sea th th1 th2 th3 th4 th5 th6 th7 th8 th9 pi pia cm cm1 cm2 cm3 pd pda rd rda hh sla se mn ln hi wi br sp si le un ul px tm ps ft fk lea upr ris pl tx at_ kd va) sz) := by
  refine Met.ofW (cc := cX7_ofLine) (maxL := 3) (ret := (some .int)) (by decide) rfl ?_
  intro p e s m args below meth c s₁ B hml hv
  obtain ⟨rfl, hsz, hP, hK, hD0⟩ := hv
  have hx := B.exec
  have hb := B.bytes
  have hr := B.returns
  have hts := atoms_spec (ws := wsX7_ofLine) B.pre
  have hown : s.vm.findClass RX7 = some m.cls := findClass_of_methodNamed B.named
  have hlocks := B.notSynchronized
  subst hsz
  have hD := hD0.self (sz := s.heap.size)
  generalize hAe : va_A (ws_main cI cC cZ cR mm sc sea th th1 th2 th3 th4 th5 th6 th7 th8 th9 pi pia cm cm1 cm2 cm3 pd pda rd rda hh sla se mn ln hi wi br sp si le un ul px tm ps ft fk lea upr ris pl tx at_ kd va) s.heap.size = A at hD ⊢
  skip
  have hA : ∀ q : Nat, s.heap.size ≤ q → A q := fun q h => by rw [← hAe]; exact Or.inr h
  have hS : va_S A s.heap s.heap [] := va_S.rf
  have hl := lv_entry ([.ref mm, .int a0, .int a1]) (n := 3) (Nat.le_of_ble_eq_true rfl)
  rw [lg_entry_eq]
  generalize (lg_sl ([.ref mm, .int a0, .int a1]) ++ List.replicate (3 - (lg_sl ([.ref mm, .int a0, .int a1])).length) Slot.unset).toArray = ls at hl ⊢
  have hl : lv_has ls 3 [(0, .ref mm), (1, .int a0), (2, .int a1)] := hl
  refine W_absQ (fun Q hQ => ?_)
  refine W.eq (g2 := F0 m 0 ls []) rfl ?_
  have h := hf
  unfold f_X7_ofLine at h
  refine lv_iload_n hx hb dX7_ofLine_0 rfl (lv_at hl 1 rfl) ?_
  refine lv_iconst (v := 0) hx hb dX7_ofLine_1 (by decide) ?_
  refine lv_bipush (v := 15) hx hb dX7_ofLine_2 (by decide) ?_
  obtain ⟨r1, hcr1, h⟩ := bn_sp h
  have hPc := hP.sub (ws' := []) [] rfl
  have hDc := hD.sub (ws' := []) [] (by decide) rfl
  have hFc := va_free (wc := []) hD hS hA [] rfl
  refine va_calli (va_runS (As := [.int a0, .int 0, .int 15]) (rest := []) ⟨hx, hb, hml, hown, hts⟩ (m_X7_within l D cI cC cZ cR  _  a0 0 15   r1 hcr1) (va_cwS 3 hts gX7_ofLine_X7_within rfl rfl rfl (by decide +kernel) ⟨Nat.le_of_ble_eq_true rfl, Nat.le_of_ble_eq_true rfl⟩) (cPc_ps hPc hK hDc) rfl rfl hl.1 rfl (lv_room (Nat.le_of_ble_eq_true rfl)) dX7_ofLine_4 ⟨Nat.le_of_ble_eq_true rfl, Nat.le_of_ble_eq_true rfl⟩) hS (fun q _ h => hFc q h) hFc (fun xq u t H1 locs ht hvm hw hB hz1 hk1 hS => ?_)
  rw [hw]
  obtain ⟨hP1, hD1⟩ := hB
  rw [ht] at hP1
  obtain ⟨hP, hD⟩ := va_join (wr := [(mm, .inr (7, [.ref sc, .ref cm, .ref hh, .ref sla, .ref pd, .ref rd])), (sc, .inr (5, [.ref sea, .ref th, .ref pi, .int tm, .int ps, .int ft, .int fk])), (sea, .inl (cI, 4, .inl se)), (th, .inr (6, [.int mn, .ref th1, .ref th2, .ref th3, .ref th4, .ref th5, .ref th6, .ref th7, .ref th8, .ref th9])), (th1, .inl (cI, 8, .inl ln)), (th2, .inl (cI, 8, .inl hi)), (th3, .inl (cI, 8, .inl wi)), (th4, .inl (cI, 8, .inl br)), (th5, .inl (cI, 8, .inl sp)), (th6, .inl (cI, 8, .inl si)), (th7, .inl (cI, 8, .inl le)), (th8, .inl (cI, 8, .inl un)), (th9, .inl (cI, 8, .inl ul)), (pi, .inr (3, [.ref pia])), (pia, .inl (cI, 384, .inl px)), (cm, .inr (0, [.ref cm1, .ref cm2, .ref cm3])), (cm1, .inl (cI, 24, .inl lea)), (cm2, .inl (cI, 24, .inl upr)), (cm3, .inl (cI, 25, .inl ris)), (pd, .inr (2, [.ref pda, .int pl])), (pda, .inl (cC, 80, .inl tx)), (rd, .inr (4, [.ref pd, .int at_, .int kd, .ref rda])), (rda, .inl (cI, 7, .inl va))]) (w1 := []) hP hD [] [0, 1, 2, 3, 4, 5, 6, 7, 8, 9, 10, 11, 12, 13, 14, 15, 16, 17, 18, 19, 20, 21, 22] rfl rfl (by decide) (by decide) hk1 hFc hP1 hD1
  generalize H1 = H at hP hS ⊢
  have hP : va_P D vwCl (ws_main cI cC cZ cR mm sc sea th th1 th2 th3 th4 th5 th6 th7 th8 th9 pi pia cm cm1 cm2 cm3 pd pda rd rda hh sla se mn ln hi wi br sp si le un ul px tm ps ft fk lea upr ris pl tx at_ kd va) H := hP
  have hD : va_D A (ws_main cI cC cZ cR mm sc sea th th1 th2 th3 th4 th5 th6 th7 th8 th9 pi pia cm cm1 cm2 cm3 pd pda rd rda hh sla se mn ln hi wi br sp si le un ul px tm ps ft fk lea upr ris pl tx at_ kd va) := hD
  refine lv_if_ne (tgt := 12) hx hb dX7_ofLine_7 (by decide) (fun c8 => ?_) (fun c8 => ?_)
  · replace h := br_p c8 h
    refine lv_iload_n hx hb dX7_ofLine_12 rfl (lv_at hl 2 rfl) ?_
    by_cases c3 : a1 = 0
    · replace h := br_p c3 h
      refine lv_tableIn (tgt := 40) hx hb dX7_ofLine_13 (by rw [c3]; decide) (by rw [c3]; decide) (by rw [c3]; rfl) (by decide) ?_
      refine lv_aload_n hx hb dX7_ofLine_40 rfl (lv_at hl 0 rfl) ?_
      refine va_get (D := D) (ci := 7) (v := .ref sc) (C := RX7) (T := TX7) (N := 6) hx hb hts uX7_ofLine_X7 hown hK.1 hP 0 rfl rfl 0 (by decide) (hts _ kX7_ofLine_1) (fun _ h9 => h9) rfl dX7_ofLine_41 ?_
      refine va_get (D := D) (ci := 5) (v := .ref pi) (C := RX5) (T := TX5) (N := 7) hx hb hts uX7_ofLine_X5 hown hK.1 hP 1 rfl rfl 2 (by decide) (hts _ kX7_ofLine_3) (fun _ h9 => h9) rfl dX7_ofLine_44 ?_
      refine lv_iload_n hx hb dX7_ofLine_47 rfl (lv_at hl 1 rfl) ?_
      obtain ⟨r2, hcr2, h⟩ := bn_sp h
      have hPc := hP.sub (ws' := (ws_picture cI cC cZ cR pi pia px)) [13, 14] rfl
      have hDc := hD.sub (ws' := (ws_picture cI cC cZ cR pi pia px)) [13, 14] (by decide) rfl
      have hFc := va_free (wc := (ws_picture cI cC cZ cR pi pia px)) hD hS hA [13, 14] rfl
      refine va_calli (va_runV (As := [.int a0]) (rest := []) ⟨hx, hb, hml, hown, hts⟩ (m_X3_columnsNotDark l D cI cC cZ cR pi pia _ px a0   r2 hcr2) (cwV 1 hts gX7_ofLine_X3_columnsNotDark rfl rfl rfl (by decide +kernel) ⟨Nat.le_of_ble_eq_true rfl, Nat.le_of_ble_eq_true rfl⟩) (cPc_pv hPc hK hDc (ci := 3) (q0 := 0) rfl rfl) rfl rfl hl.1 rfl (lv_room (Nat.le_of_ble_eq_true rfl)) dX7_ofLine_48 ⟨Nat.le_of_ble_eq_true rfl, Nat.le_of_ble_eq_true rfl⟩) hS (fun q _ h => hFc q h) hFc (fun xq u t H1 locs ht hvm hw hB hz1 hk1 hS => ?_)
      rw [hw]
      obtain ⟨hP1, hD1⟩ := hB
      rw [ht] at hP1
      obtain ⟨hP, hD⟩ := va_join (wr := [(mm, .inr (7, [.ref sc, .ref cm, .ref hh, .ref sla, .ref pd, .ref rd])), (sc, .inr (5, [.ref sea, .ref th, .ref pi, .int tm, .int ps, .int ft, .int fk])), (sea, .inl (cI, 4, .inl se)), (th, .inr (6, [.int mn, .ref th1, .ref th2, .ref th3, .ref th4, .ref th5, .ref th6, .ref th7, .ref th8, .ref th9])), (th1, .inl (cI, 8, .inl ln)), (th2, .inl (cI, 8, .inl hi)), (th3, .inl (cI, 8, .inl wi)), (th4, .inl (cI, 8, .inl br)), (th5, .inl (cI, 8, .inl sp)), (th6, .inl (cI, 8, .inl si)), (th7, .inl (cI, 8, .inl le)), (th8, .inl (cI, 8, .inl un)), (th9, .inl (cI, 8, .inl ul)), (cm, .inr (0, [.ref cm1, .ref cm2, .ref cm3])), (cm1, .inl (cI, 24, .inl lea)), (cm2, .inl (cI, 24, .inl upr)), (cm3, .inl (cI, 25, .inl ris)), (pd, .inr (2, [.ref pda, .int pl])), (pda, .inl (cC, 80, .inl tx)), (rd, .inr (4, [.ref pd, .int at_, .int kd, .ref rda])), (rda, .inl (cI, 7, .inl va))]) (w1 := (ws_picture cI cC cZ cR pi pia px)) hP hD [13, 14] [0, 1, 2, 3, 4, 5, 6, 7, 8, 9, 10, 11, 12, 15, 16, 17, 18, 19, 20, 21, 22] rfl rfl (by decide) (by decide) hk1 hFc hP1 hD1
      have hP := hP.sub (ws' := (ws_main cI cC cZ cR mm sc sea th th1 th2 th3 th4 th5 th6 th7 th8 th9 pi pia cm cm1 cm2 cm3 pd pda rd rda hh sla se mn ln hi wi br sp si le un ul px tm ps ft fk lea upr ris pl tx at_ kd va)) [0, 1, 2, 3, 4, 5, 6, 7, 8, 9, 10, 11, 12, 21, 22, 13, 14, 15, 16, 17, 18, 19, 20] rfl
      have hD := hD.sub (ws' := (ws_main cI cC cZ cR mm sc sea th th1 th2 th3 th4 th5 th6 th7 th8 th9 pi pia cm cm1 cm2 cm3 pd pda rd rda hh sla se mn ln hi wi br sp si le un ul px tm ps ft fk lea upr ris pl tx at_ kd va)) [0, 1, 2, 3, 4, 5, 6, 7, 8, 9, 10, 11, 12, 21, 22, 13, 14, 15, 16, 17, 18, 19, 20] (by decide) rfl
      generalize H1 = H at hP hS ⊢
      have e9 := Option.some.inj h
      subst e9
      rw [hQ]
      exact W.iret (v := r2) hx hb hr (fun t ht hW => ⟨⟨r2, (), rfl, rfl, by rw [ht]; exact hP, hD⟩, hS.F ht⟩) hS.2.2 dX7_ofLine_51
    · replace h := br_n c3 h
      by_cases c5 : a1 = 1
      · replace h := br_p c5 h
        refine lv_tableIn (tgt := 52) hx hb dX7_ofLine_13 (by rw [c5]; decide) (by rw [c5]; decide) (by rw [c5]; rfl) (by decide) ?_
        refine lv_aload_n hx hb dX7_ofLine_52 rfl (lv_at hl 0 rfl) ?_
        refine va_get (D := D) (ci := 7) (v := .ref sc) (C := RX7) (T := TX7) (N := 6) hx hb hts uX7_ofLine_X7 hown hK.1 hP 0 rfl rfl 0 (by decide) (hts _ kX7_ofLine_1) (fun _ h9 => h9) rfl dX7_ofLine_53 ?_
        refine va_get (D := D) (ci := 5) (v := .ref pi) (C := RX5) (T := TX5) (N := 7) hx hb hts uX7_ofLine_X5 hown hK.1 hP 1 rfl rfl 2 (by decide) (hts _ kX7_ofLine_3) (fun _ h9 => h9) rfl dX7_ofLine_56 ?_
        refine lv_iload_n hx hb dX7_ofLine_59 rfl (lv_at hl 1 rfl) ?_
        obtain ⟨r4, hcr4, h⟩ := bn_sp h
        have hPc := hP.sub (ws' := (ws_picture cI cC cZ cR pi pia px)) [13, 14] rfl
        have hDc := hD.sub (ws' := (ws_picture cI cC cZ cR pi pia px)) [13, 14] (by decide) rfl
        have hFc := va_free (wc := (ws_picture cI cC cZ cR pi pia px)) hD hS hA [13, 14] rfl
        refine va_calli (va_runV (As := [.int a0]) (rest := []) ⟨hx, hb, hml, hown, hts⟩ (m_X3_sumOfLine l D cI cC cZ cR pi pia _ px a0   r4 hcr4) (cwV 1 hts gX7_ofLine_X3_sumOfLine rfl rfl rfl (by decide +kernel) ⟨Nat.le_of_ble_eq_true rfl, Nat.le_of_ble_eq_true rfl⟩) (cPc_pv hPc hK hDc (ci := 3) (q0 := 0) rfl rfl) rfl rfl hl.1 rfl (lv_room (Nat.le_of_ble_eq_true rfl)) dX7_ofLine_60 ⟨Nat.le_of_ble_eq_true rfl, Nat.le_of_ble_eq_true rfl⟩) hS (fun q _ h => hFc q h) hFc (fun xq u t H1 locs ht hvm hw hB hz1 hk1 hS => ?_)
        rw [hw]
        obtain ⟨hP1, hD1⟩ := hB
        rw [ht] at hP1
        obtain ⟨hP, hD⟩ := va_join (wr := [(mm, .inr (7, [.ref sc, .ref cm, .ref hh, .ref sla, .ref pd, .ref rd])), (sc, .inr (5, [.ref sea, .ref th, .ref pi, .int tm, .int ps, .int ft, .int fk])), (sea, .inl (cI, 4, .inl se)), (th, .inr (6, [.int mn, .ref th1, .ref th2, .ref th3, .ref th4, .ref th5, .ref th6, .ref th7, .ref th8, .ref th9])), (th1, .inl (cI, 8, .inl ln)), (th2, .inl (cI, 8, .inl hi)), (th3, .inl (cI, 8, .inl wi)), (th4, .inl (cI, 8, .inl br)), (th5, .inl (cI, 8, .inl sp)), (th6, .inl (cI, 8, .inl si)), (th7, .inl (cI, 8, .inl le)), (th8, .inl (cI, 8, .inl un)), (th9, .inl (cI, 8, .inl ul)), (cm, .inr (0, [.ref cm1, .ref cm2, .ref cm3])), (cm1, .inl (cI, 24, .inl lea)), (cm2, .inl (cI, 24, .inl upr)), (cm3, .inl (cI, 25, .inl ris)), (pd, .inr (2, [.ref pda, .int pl])), (pda, .inl (cC, 80, .inl tx)), (rd, .inr (4, [.ref pd, .int at_, .int kd, .ref rda])), (rda, .inl (cI, 7, .inl va))]) (w1 := (ws_picture cI cC cZ cR pi pia px)) hP hD [13, 14] [0, 1, 2, 3, 4, 5, 6, 7, 8, 9, 10, 11, 12, 15, 16, 17, 18, 19, 20, 21, 22] rfl rfl (by decide) (by decide) hk1 hFc hP1 hD1
        have hP := hP.sub (ws' := (ws_main cI cC cZ cR mm sc sea th th1 th2 th3 th4 th5 th6 th7 th8 th9 pi pia cm cm1 cm2 cm3 pd pda rd rda hh sla se mn ln hi wi br sp si le un ul px tm ps ft fk lea upr ris pl tx at_ kd va)) [0, 1, 2, 3, 4, 5, 6, 7, 8, 9, 10, 11, 12, 21, 22, 13, 14, 15, 16, 17, 18, 19, 20] rfl
        have hD := hD.sub (ws' := (ws_main cI cC cZ cR mm sc sea th th1 th2 th3 th4 th5 th6 th7 th8 th9 pi pia cm cm1 cm2 cm3 pd pda rd rda hh sla se mn ln hi wi br sp si le un ul px tm ps ft fk lea upr ris pl tx at_ kd va)) [0, 1, 2, 3, 4, 5, 6, 7, 8, 9, 10, 11, 12, 21, 22, 13, 14, 15, 16, 17, 18, 19, 20] (by decide) rfl
        generalize H1 = H at hP hS ⊢
        have e9 := Option.some.inj h
        subst e9
        rw [hQ]
        exact W.iret (v := r4) hx hb hr (fun t ht hW => ⟨⟨r4, (), rfl, rfl, by rw [ht]; exact hP, hD⟩, hS.F ht⟩) hS.2.2 dX7_ofLine_63
      · replace h := br_n c5 h
        by_cases c7 : a1 = 2
        · replace h := br_p c7 h
          refine lv_tableIn (tgt := 64) hx hb dX7_ofLine_13 (by rw [c7]; decide) (by rw [c7]; decide) (by rw [c7]; rfl) (by decide) ?_
          refine lv_aload_n hx hb dX7_ofLine_64 rfl (lv_at hl 0 rfl) ?_
          refine va_get (D := D) (ci := 7) (v := .ref sc) (C := RX7) (T := TX7) (N := 6) hx hb hts uX7_ofLine_X7 hown hK.1 hP 0 rfl rfl 0 (by decide) (hts _ kX7_ofLine_1) (fun _ h9 => h9) rfl dX7_ofLine_65 ?_
          refine va_get (D := D) (ci := 5) (v := .ref pi) (C := RX5) (T := TX5) (N := 7) hx hb hts uX7_ofLine_X5 hown hK.1 hP 1 rfl rfl 2 (by decide) (hts _ kX7_ofLine_3) (fun _ h9 => h9) rfl dX7_ofLine_68 ?_
          refine lv_iload_n hx hb dX7_ofLine_71 rfl (lv_at hl 1 rfl) ?_
          obtain ⟨r6, hcr6, h⟩ := bn_sp h
          have hPc := hP.sub (ws' := (ws_picture cI cC cZ cR pi pia px)) [13, 14] rfl
          have hDc := hD.sub (ws' := (ws_picture cI cC cZ cR pi pia px)) [13, 14] (by decide) rfl
          have hFc := va_free (wc := (ws_picture cI cC cZ cR pi pia px)) hD hS hA [13, 14] rfl
          refine va_calli (va_runV (As := [.int a0]) (rest := []) ⟨hx, hb, hml, hown, hts⟩ (m_X3_leftmostNotDark l D cI cC cZ cR pi pia _ px a0   r6 hcr6) (cwV 1 hts gX7_ofLine_X3_leftmostNotDark rfl rfl rfl (by decide +kernel) ⟨Nat.le_of_ble_eq_true rfl, Nat.le_of_ble_eq_true rfl⟩) (cPc_pv hPc hK hDc (ci := 3) (q0 := 0) rfl rfl) rfl rfl hl.1 rfl (lv_room (Nat.le_of_ble_eq_true rfl)) dX7_ofLine_72 ⟨Nat.le_of_ble_eq_true rfl, Nat.le_of_ble_eq_true rfl⟩) hS (fun q _ h => hFc q h) hFc (fun xq u t H1 locs ht hvm hw hB hz1 hk1 hS => ?_)
          rw [hw]
          obtain ⟨hP1, hD1⟩ := hB
          rw [ht] at hP1
          obtain ⟨hP, hD⟩ := va_join (wr := [(mm, .inr (7, [.ref sc, .ref cm, .ref hh, .ref sla, .ref pd, .ref rd])), (sc, .inr (5, [.ref sea, .ref th, .ref pi, .int tm, .int ps, .int ft, .int fk])), (sea, .inl (cI, 4, .inl se)), (th, .inr (6, [.int mn, .ref th1, .ref th2, .ref th3, .ref th4, .ref th5, .ref th6, .ref th7, .ref th8, .ref th9])), (th1, .inl (cI, 8, .inl ln)), (th2, .inl (cI, 8, .inl hi)), (th3, .inl (cI, 8, .inl wi)), (th4, .inl (cI, 8, .inl br)), (th5, .inl (cI, 8, .inl sp)), (th6, .inl (cI, 8, .inl si)), (th7, .inl (cI, 8, .inl le)), (th8, .inl (cI, 8, .inl un)), (th9, .inl (cI, 8, .inl ul)), (cm, .inr (0, [.ref cm1, .ref cm2, .ref cm3])), (cm1, .inl (cI, 24, .inl lea)), (cm2, .inl (cI, 24, .inl upr)), (cm3, .inl (cI, 25, .inl ris)), (pd, .inr (2, [.ref pda, .int pl])), (pda, .inl (cC, 80, .inl tx)), (rd, .inr (4, [.ref pd, .int at_, .int kd, .ref rda])), (rda, .inl (cI, 7, .inl va))]) (w1 := (ws_picture cI cC cZ cR pi pia px)) hP hD [13, 14] [0, 1, 2, 3, 4, 5, 6, 7, 8, 9, 10, 11, 12, 15, 16, 17, 18, 19, 20, 21, 22] rfl rfl (by decide) (by decide) hk1 hFc hP1 hD1
          have hP := hP.sub (ws' := (ws_main cI cC cZ cR mm sc sea th th1 th2 th3 th4 th5 th6 th7 th8 th9 pi pia cm cm1 cm2 cm3 pd pda rd rda hh sla se mn ln hi wi br sp si le un ul px tm ps ft fk lea upr ris pl tx at_ kd va)) [0, 1, 2, 3, 4, 5, 6, 7, 8, 9, 10, 11, 12, 21, 22, 13, 14, 15, 16, 17, 18, 19, 20] rfl
          have hD := hD.sub (ws' := (ws_main cI cC cZ cR mm sc sea th th1 th2 th3 th4 th5 th6 th7 th8 th9 pi pia cm cm1 cm2 cm3 pd pda rd rda hh sla se mn ln hi wi br sp si le un ul px tm ps ft fk lea upr ris pl tx at_ kd va)) [0, 1, 2, 3, 4, 5, 6, 7, 8, 9, 10, 11, 12, 21, 22, 13, 14, 15, 16, 17, 18, 19, 20] (by decide) rfl
          generalize H1 = H at hP hS ⊢
          have e9 := Option.some.inj h
          subst e9
          rw [hQ]
          exact W.iret (v := r6) hx hb hr (fun t ht hW => ⟨⟨r6, (), rfl, rfl, by rw [ht]; exact hP, hD⟩, hS.F ht⟩) hS.2.2 dX7_ofLine_75
        · replace h := br_n c7 h
          refine lv_tableOut (tgt := 76) hx hb dX7_ofLine_13 (sw_out3 (fun e => c3 (Int32.toInt_inj.mp (e.trans (by decide)))) (fun e => c5 (Int32.toInt_inj.mp (e.trans (by decide)))) (fun e => c7 (Int32.toInt_inj.mp (e.trans (by decide))))) (by decide) ?_
          refine lv_bipush (v := (-2)) hx hb dX7_ofLine_76 (by decide) ?_
          have e9 := Option.some.inj h
          subst e9
          rw [hQ]
          exact W.iret (v := (-2)) hx hb hr (fun t ht hW => ⟨⟨(-2), (), rfl, rfl, by rw [ht]; exact hP, hD⟩, hS.F ht⟩) hS.2.2 dX7_ofLine_78
  · replace h := br_n (not_not_intro c8) h
    refine lv_iconst (v := (-1)) hx hb dX7_ofLine_10 (by decide) ?_
    have e9 := Option.some.inj h
    subst e9
    rw [hQ]
    exact W.iret (v := (-1)) hx hb hr (fun t ht hW => ⟨⟨(-1), (), rfl, rfl, by rw [ht]; exact hP, hD⟩, hS.F ht⟩) hS.2.2 dX7_ofLine_11
-- LeaningLines.count
abbrev OUT_X7_count : Type := Int32
def f_X7_count (se : Nat → Int32) (mn : Int32) (px : Nat → Int32) (tm : Int32) (ps : Int32) (ft : Int32) (fk : Int32) (pl : Int32) (hm : Int32) (a0 : Int32) : Option OUT_X7_count :=
  (if a0 = 0 then some (tm) else (if a0 = 1 then some (mn) else (if a0 = 2 then some (ps) else (if a0 = 3 then bn (f_X3_darkLines px) (fun r4 => some (r4)) else (if a0 = 4 then bn (f_X3_brightest px) (fun r6 => some (r6)) else (if a0 = 5 then bn (f_X3_bands px) (fun r8 => some (r8)) else (if a0 = 6 then some (ft) else (if a0 = 7 then some (fk) else (if a0 = 8 then gd 0 4 (some (se (0 : Int32).toNatClampNeg)) else (if a0 = 9 then gd 1 4 (some (se (1 : Int32).toNatClampNeg)) else (if a0 = 10 then gd 2 4 (some (se (2 : Int32).toNatClampNeg)) else (if a0 = 11 then gd 3 4 (some (se (3 : Int32).toNatClampNeg)) else (if a0 = 12 then some (pl) else (if a0 = 13 then some (hm) else some ((-2))))))))))))))))
theorem uX7_count_X7 : ∀ w ∈ wsX70, w ∈ wsX7_count := by decide +kernel
theorem kX7_count_1 : Cond.fieldLink RX7 10 "LeaningLines" "scene" "LLeaningLines$Scene;" ∈ wsX7_count := by decide +kernel
theorem uX7_count_X5 : ∀ w ∈ wsX50, w ∈ wsX7_count := by decide +kernel
theorem kX7_count_3 : Cond.fieldLink RX7 76 "LeaningLines$Scene" "time" "I" ∈ wsX7_count := by decide +kernel
theorem kX7_count_4 : Cond.fieldLink RX7 72 "LeaningLines$Scene" "things" "LLeaningLines$Things;" ∈ wsX7_count := by decide +kernel
theorem uX7_count_X6 : ∀ w ∈ wsX60, w ∈ wsX7_count := by decide +kernel
theorem kX7_count_6 : Cond.fieldLink RX7 176 "LeaningLines$Things" "many" "I" ∈ wsX7_count := by decide +kernel
theorem kX7_count_7 : Cond.fieldLink RX7 179 "LeaningLines$Scene" "pictures" "I" ∈ wsX7_count := by decide +kernel
theorem kX7_count_8 : Cond.fieldLink RX7 129 "LeaningLines$Scene" "picture" "LLeaningLines$Picture;" ∈ wsX7_count := by decide +kernel
theorem kX7_count_9 : Cond.fieldLink RX7 115 "LeaningLines$Scene" "flashTime" "I" ∈ wsX7_count := by decide +kernel
theorem kX7_count_10 : Cond.fieldLink RX7 191 "LeaningLines$Scene" "flashTicks" "I" ∈ wsX7_count := by decide +kernel
theorem kX7_count_11 : Cond.fieldLink RX7 65 "LeaningLines$Scene" "settings" "[I" ∈ wsX7_count := by decide +kernel
theorem kX7_count_12 : Cond.fieldLink RX7 37 "LeaningLines" "pad" "LLeaningLines$Pad;" ∈ wsX7_count := by decide +kernel
theorem uX7_count_X2 : ∀ w ∈ wsX20, w ∈ wsX7_count := by decide +kernel
theorem kX7_count_14 : Cond.fieldLink RX7 194 "LeaningLines$Pad" "length" "I" ∈ wsX7_count := by decide +kernel
theorem kX7_count_15 : Cond.fieldLink RX7 26 "LeaningLines" "history" "LLeaningLines$History;" ∈ wsX7_count := by decide +kernel
theorem uX7_count_X1 : ∀ w ∈ wsX10, w ∈ wsX7_count := by decide +kernel
theorem kX7_count_17 : Cond.fieldLink RX7 197 "LeaningLines$History" "many" "I" ∈ wsX7_count := by decide +kernel
abbrev R_X7_count : Room := { frames := 3, cells := 0, slots := 0, locals := 67 }
set_option maxHeartbeats 4000000 in
set_option maxRecDepth 100000 in
theorem m_X7_count (l : Launch) (D : va_G) (cI cC cZ cR : ClassId) (mm sc sea th th1 th2 th3 th4 th5 th6 th7 th8 th9 pi pia cm cm1 cm2 cm3 pd pda rd rda hh hst sla : Nat) (sz : Nat) (se : Nat → Int32) (mn : Int32) (ln : Nat → Int32) (hi : Nat → Int32) (wi : Nat → Int32) (br : Nat → Int32) (sp : Nat → Int32) (si : Nat → Int32) (le : Nat → Int32) (un : Nat → Int32) (ul : Nat → Int32) (px : Nat → Int32) (tm : Int32) (ps : Int32) (ft : Int32) (fk : Int32) (lea : Nat → Int32) (upr : Nat → Int32) (ris : Nat → Int32) (pl : Int32) (tx : Nat → Int32) (at_ : Int32) (kd : Int32) (va : Nat → Int32) (nx : Int32) (hm : Int32) (hfu : Nat → Option Nat) (a0 : Int32)   (r : OUT_X7_count) (hf : f_X7_count se mn px tm ps ft fk pl hm a0 = some r) : Met l yX7_count wsX7_count R_X7_count (cPc D cI cC cZ cR [.ref mm, .int a0] sz (ws_mainH cI cC cZ cR mm sc sea th th1 th2 th3 th4 th5 th6 th7 th8 th9 pi pia cm cm1 cm2 cm3 pd pda rd rda hh hst sla se mn ln hi wi br sp si le un ul px tm ps ft fk lea upr ris pl tx at_ kd va nx hm hfu)) (cQi D (ws_mainH cI cC cZ cR mm sc sea th th1 th2 th3 th4 th5 th6 th7 th8 th9 pi pia cm cm1 cm2 cm3 pd pda rd rda hh hst sla se mn ln hi wi br sp si le un ul px tm ps ft fk lea upr ris pl tx at_ kd va nx hm hfu) (va_A (ws_mainH cI cC cZ cR mm sc sea th th1 th2 th3 th4 th5 th6 th7 th8 th9 pi pia cm cm1 cm2 cm3 pd pda rd rda hh hst sla se mn ln hi wi br sp si le un ul px tm ps ft fk lea upr ris pl tx at_ kd va nx hm hfu) sz) r) 0 0 (va_A (ws_mainH cI cC cZ cR mm sc sea th th1 th2 th3 th4 th5 th6 th7 th8 th9 pi pia cm cm1 cm2 cm3 pd pda rd rda hh hst sla se mn ln hi wi br sp si le un ul px tm ps ft fk lea upr ris pl tx at_ kd va nx hm hfu) sz) := by
  refine Met.ofW (cc := cX7_count) (maxL := 2) (ret := (some .int)) (by decide) rfl ?_
  intro p e s m args below meth c s₁ B hml hv
  obtain ⟨rfl, hsz, hP, hK, hD0⟩ := hv
  have hx := B.exec
  have hb := B.bytes
  have hr := B.returns
  have hts := atoms_spec (ws := wsX7_count) B.pre
  have hown : s.vm.findClass RX7 = some m.cls := findClass_of_methodNamed B.named
  have hlocks := B.notSynchronized
  subst hsz
  have hD := hD0.self (sz := s.heap.size)
  generalize hAe : va_A (ws_mainH cI cC cZ cR mm sc sea th th1 th2 th3 th4 th5 th6 th7 th8 th9 pi pia cm cm1 cm2 cm3 pd pda rd rda hh hst sla se mn ln hi wi br sp si le un ul px tm ps ft fk lea upr ris pl tx at_ kd va nx hm hfu) s.heap.size = A at hD ⊢
  skip
  have hA : ∀ q : Nat, s.heap.size ≤ q → A q := fun q h => by rw [← hAe]; exact Or.inr h
  have hS : va_S A s.heap s.heap [] := va_S.rf
  have hl := lv_entry ([.ref mm, .int a0]) (n := 2) (Nat.le_of_ble_eq_true rfl)
  rw [lg_entry_eq]
  generalize (lg_sl ([.ref mm, .int a0]) ++ List.replicate (2 - (lg_sl ([.ref mm, .int a0])).length) Slot.unset).toArray = ls at hl ⊢
  have hl : lv_has ls 2 [(0, .ref mm), (1, .int a0)] := hl
  refine W_absQ (fun Q hQ => ?_)
  refine W.eq (g2 := F0 m 0 ls []) rfl ?_
  have h := hf
  unfold f_X7_count at h
  refine lv_iload_n hx hb dX7_count_0 rfl (lv_at hl 1 rfl) ?_
  by_cases c1 : a0 = 0
  · replace h := br_p c1 h
    refine lv_tableIn (tgt := 72) hx hb dX7_count_1 (by rw [c1]; decide) (by rw [c1]; decide) (by rw [c1]; rfl) (by decide) ?_
    refine lv_aload_n hx hb dX7_count_72 rfl (lv_at hl 0 rfl) ?_
    refine va_get (D := D) (ci := 7) (v := .ref sc) (C := RX7) (T := TX7) (N := 6) hx hb hts uX7_count_X7 hown hK.1 hP 0 rfl rfl 0 (by decide) (hts _ kX7_count_1) (fun _ h9 => h9) rfl dX7_count_73 ?_
    refine va_get (D := D) (ci := 5) (v := .int tm) (C := RX5) (T := TX5) (N := 7) hx hb hts uX7_count_X5 hown hK.1 hP 1 rfl rfl 3 (by decide) (hts _ kX7_count_3) (fun _ h9 => h9) rfl dX7_count_76 ?_
    have e9 := Option.some.inj h
    subst e9
    rw [hQ]
    exact W.iret (v := tm) hx hb hr (fun t ht hW => ⟨⟨tm, (), rfl, rfl, by rw [ht]; exact hP, hD⟩, hS.F ht⟩) hS.2.2 dX7_count_79
  · replace h := br_n c1 h
    by_cases c2 : a0 = 1
    · replace h := br_p c2 h
      refine lv_tableIn (tgt := 80) hx hb dX7_count_1 (by rw [c2]; decide) (by rw [c2]; decide) (by rw [c2]; rfl) (by decide) ?_
      refine lv_aload_n hx hb dX7_count_80 rfl (lv_at hl 0 rfl) ?_
      refine va_get (D := D) (ci := 7) (v := .ref sc) (C := RX7) (T := TX7) (N := 6) hx hb hts uX7_count_X7 hown hK.1 hP 0 rfl rfl 0 (by decide) (hts _ kX7_count_1) (fun _ h9 => h9) rfl dX7_count_81 ?_
      refine va_get (D := D) (ci := 5) (v := .ref th) (C := RX5) (T := TX5) (N := 7) hx hb hts uX7_count_X5 hown hK.1 hP 1 rfl rfl 1 (by decide) (hts _ kX7_count_4) (fun _ h9 => h9) rfl dX7_count_84 ?_
      refine va_get (D := D) (ci := 6) (v := .int mn) (C := RX6) (T := TX6) (N := 10) hx hb hts uX7_count_X6 hown hK.1 hP 3 rfl rfl 0 (by decide) (hts _ kX7_count_6) (fun _ h9 => h9) rfl dX7_count_87 ?_
      have e9 := Option.some.inj h
      subst e9
      rw [hQ]
      exact W.iret (v := mn) hx hb hr (fun t ht hW => ⟨⟨mn, (), rfl, rfl, by rw [ht]; exact hP, hD⟩, hS.F ht⟩) hS.2.2 dX7_count_90
    · replace h := br_n c2 h
      by_cases c3 : a0 = 2
      · replace h := br_p c3 h
        refine lv_tableIn (tgt := 91) hx hb dX7_count_1 (by rw [c3]; decide) (by rw [c3]; decide) (by rw [c3]; rfl) (by decide) ?_
        refine lv_aload_n hx hb dX7_count_91 rfl (lv_at hl 0 rfl) ?_
        refine va_get (D := D) (ci := 7) (v := .ref sc) (C := RX7) (T := TX7) (N := 6) hx hb hts uX7_count_X7 hown hK.1 hP 0 rfl rfl 0 (by decide) (hts _ kX7_count_1) (fun _ h9 => h9) rfl dX7_count_92 ?_
        refine va_get (D := D) (ci := 5) (v := .int ps) (C := RX5) (T := TX5) (N := 7) hx hb hts uX7_count_X5 hown hK.1 hP 1 rfl rfl 4 (by decide) (hts _ kX7_count_7) (fun _ h9 => h9) rfl dX7_count_95 ?_
        have e9 := Option.some.inj h
        subst e9
        rw [hQ]
        exact W.iret (v := ps) hx hb hr (fun t ht hW => ⟨⟨ps, (), rfl, rfl, by rw [ht]; exact hP, hD⟩, hS.F ht⟩) hS.2.2 dX7_count_98
      · replace h := br_n c3 h
        by_cases c5 : a0 = 3
        · replace h := br_p c5 h
          refine lv_tableIn (tgt := 99) hx hb dX7_count_1 (by rw [c5]; decide) (by rw [c5]; decide) (by rw [c5]; rfl) (by decide) ?_
          refine lv_aload_n hx hb dX7_count_99 rfl (lv_at hl 0 rfl) ?_
          refine va_get (D := D) (ci := 7) (v := .ref sc) (C := RX7) (T := TX7) (N := 6) hx hb hts uX7_count_X7 hown hK.1 hP 0 rfl rfl 0 (by decide) (hts _ kX7_count_1) (fun _ h9 => h9) rfl dX7_count_100 ?_
          refine va_get (D := D) (ci := 5) (v := .ref pi) (C := RX5) (T := TX5) (N := 7) hx hb hts uX7_count_X5 hown hK.1 hP 1 rfl rfl 2 (by decide) (hts _ kX7_count_8) (fun _ h9 => h9) rfl dX7_count_103 ?_
          obtain ⟨r4, hcr4, h⟩ := bn_sp h
          have hPc := hP.sub (ws' := (ws_picture cI cC cZ cR pi pia px)) [13, 14] rfl
          have hDc := hD.sub (ws' := (ws_picture cI cC cZ cR pi pia px)) [13, 14] (by decide) rfl
          have hFc := va_free (wc := (ws_picture cI cC cZ cR pi pia px)) hD hS hA [13, 14] rfl
          refine va_calli (va_runV (As := []) (rest := []) ⟨hx, hb, hml, hown, hts⟩ (m_X3_darkLines l D cI cC cZ cR pi pia _ px    r4 hcr4) (cwV 0 hts gX7_count_X3_darkLines rfl rfl rfl (by decide +kernel) ⟨Nat.le_of_ble_eq_true rfl, Nat.le_of_ble_eq_true rfl⟩) (cPc_pv hPc hK hDc (ci := 3) (q0 := 0) rfl rfl) rfl rfl hl.1 rfl (lv_room (Nat.le_of_ble_eq_true rfl)) dX7_count_106 ⟨Nat.le_of_ble_eq_true rfl, Nat.le_of_ble_eq_true rfl⟩) hS (fun q _ h => hFc q h) hFc (fun xq u t H1 locs ht hvm hw hB hz1 hk1 hS => ?_)
          rw [hw]
          obtain ⟨hP1, hD1⟩ := hB
          rw [ht] at hP1
          obtain ⟨hP, hD⟩ := va_join (wr := [(mm, .inr (7, [.ref sc, .ref cm, .ref hh, .ref sla, .ref pd, .ref rd])), (sc, .inr (5, [.ref sea, .ref th, .ref pi, .int tm, .int ps, .int ft, .int fk])), (sea, .inl (cI, 4, .inl se)), (th, .inr (6, [.int mn, .ref th1, .ref th2, .ref th3, .ref th4, .ref th5, .ref th6, .ref th7, .ref th8, .ref th9])), (th1, .inl (cI, 8, .inl ln)), (th2, .inl (cI, 8, .inl hi)), (th3, .inl (cI, 8, .inl wi)), (th4, .inl (cI, 8, .inl br)), (th5, .inl (cI, 8, .inl sp)), (th6, .inl (cI, 8, .inl si)), (th7, .inl (cI, 8, .inl le)), (th8, .inl (cI, 8, .inl un)), (th9, .inl (cI, 8, .inl ul)), (cm, .inr (0, [.ref cm1, .ref cm2, .ref cm3])), (cm1, .inl (cI, 24, .inl lea)), (cm2, .inl (cI, 24, .inl upr)), (cm3, .inl (cI, 25, .inl ris)), (pd, .inr (2, [.ref pda, .int pl])), (pda, .inl (cC, 80, .inl tx)), (rd, .inr (4, [.ref pd, .int at_, .int kd, .ref rda])), (rda, .inl (cI, 7, .inl va)), (hh, .inr (1, [.ref hst, .int nx, .int hm])), (hst, .inl (cR, 6, .inr (.inr (.inr (.inr hfu)))))]) (w1 := (ws_picture cI cC cZ cR pi pia px)) hP hD [13, 14] [0, 1, 2, 3, 4, 5, 6, 7, 8, 9, 10, 11, 12, 15, 16, 17, 18, 19, 20, 21, 22, 23, 24] rfl rfl (by decide) (by decide) hk1 hFc hP1 hD1
          have hP := hP.sub (ws' := (ws_mainH cI cC cZ cR mm sc sea th th1 th2 th3 th4 th5 th6 th7 th8 th9 pi pia cm cm1 cm2 cm3 pd pda rd rda hh hst sla se mn ln hi wi br sp si le un ul px tm ps ft fk lea upr ris pl tx at_ kd va nx hm hfu)) [0, 1, 2, 3, 4, 5, 6, 7, 8, 9, 10, 11, 12, 23, 24, 13, 14, 15, 16, 17, 18, 19, 20, 21, 22] rfl
          have hD := hD.sub (ws' := (ws_mainH cI cC cZ cR mm sc sea th th1 th2 th3 th4 th5 th6 th7 th8 th9 pi pia cm cm1 cm2 cm3 pd pda rd rda hh hst sla se mn ln hi wi br sp si le un ul px tm ps ft fk lea upr ris pl tx at_ kd va nx hm hfu)) [0, 1, 2, 3, 4, 5, 6, 7, 8, 9, 10, 11, 12, 23, 24, 13, 14, 15, 16, 17, 18, 19, 20, 21, 22] (by decide) rfl
          generalize H1 = H at hP hS ⊢
          have e9 := Option.some.inj h
          subst e9
          rw [hQ]
          exact W.iret (v := r4) hx hb hr (fun t ht hW => ⟨⟨r4, (), rfl, rfl, by rw [ht]; exact hP, hD⟩, hS.F ht⟩) hS.2.2 dX7_count_109
        · replace h := br_n c5 h
          by_cases c7 : a0 = 4
          · replace h := br_p c7 h
            refine lv_tableIn (tgt := 110) hx hb dX7_count_1 (by rw [c7]; decide) (by rw [c7]; decide) (by rw [c7]; rfl) (by decide) ?_
            refine lv_aload_n hx hb dX7_count_110 rfl (lv_at hl 0 rfl) ?_
            refine va_get (D := D) (ci := 7) (v := .ref sc) (C := RX7) (T := TX7) (N := 6) hx hb hts uX7_count_X7 hown hK.1 hP 0 rfl rfl 0 (by decide) (hts _ kX7_count_1) (fun _ h9 => h9) rfl dX7_count_111 ?_
            refine va_get (D := D) (ci := 5) (v := .ref pi) (C := RX5) (T := TX5) (N := 7) hx hb hts uX7_count_X5 hown hK.1 hP 1 rfl rfl 2 (by decide) (hts _ kX7_count_8) (fun _ h9 => h9) rfl dX7_count_114 ?_
            obtain ⟨r6, hcr6, h⟩ := bn_sp h
            have hPc := hP.sub (ws' := (ws_picture cI cC cZ cR pi pia px)) [13, 14] rfl
            have hDc := hD.sub (ws' := (ws_picture cI cC cZ cR pi pia px)) [13, 14] (by decide) rfl
            have hFc := va_free (wc := (ws_picture cI cC cZ cR pi pia px)) hD hS hA [13, 14] rfl
            refine va_calli (va_runV (As := []) (rest := []) ⟨hx, hb, hml, hown, hts⟩ (m_X3_brightest l D cI cC cZ cR pi pia _ px    r6 hcr6) (cwV 0 hts gX7_count_X3_brightest rfl rfl rfl (by decide +kernel) ⟨Nat.le_of_ble_eq_true rfl, Nat.le_of_ble_eq_true rfl⟩) (cPc_pv hPc hK hDc (ci := 3) (q0 := 0) rfl rfl) rfl rfl hl.1 rfl (lv_room (Nat.le_of_ble_eq_true rfl)) dX7_count_117 ⟨Nat.le_of_ble_eq_true rfl, Nat.le_of_ble_eq_true rfl⟩) hS (fun q _ h => hFc q h) hFc (fun xq u t H1 locs ht hvm hw hB hz1 hk1 hS => ?_)
            rw [hw]
            obtain ⟨hP1, hD1⟩ := hB
            rw [ht] at hP1
            obtain ⟨hP, hD⟩ := va_join (wr := [(mm, .inr (7, [.ref sc, .ref cm, .ref hh, .ref sla, .ref pd, .ref rd])), (sc, .inr (5, [.ref sea, .ref th, .ref pi, .int tm, .int ps, .int ft, .int fk])), (sea, .inl (cI, 4, .inl se)), (th, .inr (6, [.int mn, .ref th1, .ref th2, .ref th3, .ref th4, .ref th5, .ref th6, .ref th7, .ref th8, .ref th9])), (th1, .inl (cI, 8, .inl ln)), (th2, .inl (cI, 8, .inl hi)), (th3, .inl (cI, 8, .inl wi)), (th4, .inl (cI, 8, .inl br)), (th5, .inl (cI, 8, .inl sp)), (th6, .inl (cI, 8, .inl si)), (th7, .inl (cI, 8, .inl le)), (th8, .inl (cI, 8, .inl un)), (th9, .inl (cI, 8, .inl ul)), (cm, .inr (0, [.ref cm1, .ref cm2, .ref cm3])), (cm1, .inl (cI, 24, .inl lea)), (cm2, .inl (cI, 24, .inl upr)), (cm3, .inl (cI, 25, .inl ris)), (pd, .inr (2, [.ref pda, .int pl])), (pda, .inl (cC, 80, .inl tx)), (rd, .inr (4, [.ref pd, .int at_, .int kd, .ref rda])), (rda, .inl (cI, 7, .inl va)), (hh, .inr (1, [.ref hst, .int nx, .int hm])), (hst, .inl (cR, 6, .inr (.inr (.inr (.inr hfu)))))]) (w1 := (ws_picture cI cC cZ cR pi pia px)) hP hD [13, 14] [0, 1, 2, 3, 4, 5, 6, 7, 8, 9, 10, 11, 12, 15, 16, 17, 18, 19, 20, 21, 22, 23, 24] rfl rfl (by decide) (by decide) hk1 hFc hP1 hD1
            have hP := hP.sub (ws' := (ws_mainH cI cC cZ cR mm sc sea th th1 th2 th3 th4 th5 th6 th7 th8 th9 pi pia cm cm1 cm2 cm3 pd pda rd rda hh hst sla se mn ln hi wi br sp si le un ul px tm ps ft fk lea upr ris pl tx at_ kd va nx hm hfu)) [0, 1, 2, 3, 4, 5, 6, 7, 8, 9, 10, 11, 12, 23, 24, 13, 14, 15, 16, 17, 18, 19, 20, 21, 22] rfl
            have hD := hD.sub (ws' := (ws_mainH cI cC cZ cR mm sc sea th th1 th2 th3 th4 th5 th6 th7 th8 th9 pi pia cm cm1 cm2 cm3 pd pda rd rda hh hst sla se mn ln hi wi br sp si le un ul px tm ps ft fk lea upr ris pl tx at_ kd va nx hm hfu)) [0, 1, 2, 3, 4, 5, 6, 7, 8, 9, 10, 11, 12, 23, 24, 13, 14, 15, 16, 17, 18, 19, 20, 21, 22] (by decide) rfl
            generalize H1 = H at hP hS ⊢
            have e9 := Option.some.inj h
            subst e9
            rw [hQ]
            exact W.iret (v := r6) hx hb hr (fun t ht hW => ⟨⟨r6, (), rfl, rfl, by rw [ht]; exact hP, hD⟩, hS.F ht⟩) hS.2.2 dX7_count_120
          · replace h := br_n c7 h
            by_cases c9 : a0 = 5
            · replace h := br_p c9 h
              refine lv_tableIn (tgt := 121) hx hb dX7_count_1 (by rw [c9]; decide) (by rw [c9]; decide) (by rw [c9]; rfl) (by decide) ?_
              refine lv_aload_n hx hb dX7_count_121 rfl (lv_at hl 0 rfl) ?_
              refine va_get (D := D) (ci := 7) (v := .ref sc) (C := RX7) (T := TX7) (N := 6) hx hb hts uX7_count_X7 hown hK.1 hP 0 rfl rfl 0 (by decide) (hts _ kX7_count_1) (fun _ h9 => h9) rfl dX7_count_122 ?_
              refine va_get (D := D) (ci := 5) (v := .ref pi) (C := RX5) (T := TX5) (N := 7) hx hb hts uX7_count_X5 hown hK.1 hP 1 rfl rfl 2 (by decide) (hts _ kX7_count_8) (fun _ h9 => h9) rfl dX7_count_125 ?_
              obtain ⟨r8, hcr8, h⟩ := bn_sp h
              have hPc := hP.sub (ws' := (ws_picture cI cC cZ cR pi pia px)) [13, 14] rfl
              have hDc := hD.sub (ws' := (ws_picture cI cC cZ cR pi pia px)) [13, 14] (by decide) rfl
              have hFc := va_free (wc := (ws_picture cI cC cZ cR pi pia px)) hD hS hA [13, 14] rfl
              refine va_calli (va_runV (As := []) (rest := []) ⟨hx, hb, hml, hown, hts⟩ (m_X3_bands l D cI cC cZ cR pi pia _ px    r8 hcr8) (cwV 0 hts gX7_count_X3_bands rfl rfl rfl (by decide +kernel) ⟨Nat.le_of_ble_eq_true rfl, Nat.le_of_ble_eq_true rfl⟩) (cPc_pv hPc hK hDc (ci := 3) (q0 := 0) rfl rfl) rfl rfl hl.1 rfl (lv_room (Nat.le_of_ble_eq_true rfl)) dX7_count_128 ⟨Nat.le_of_ble_eq_true rfl, Nat.le_of_ble_eq_true rfl⟩) hS (fun q _ h => hFc q h) hFc (fun xq u t H1 locs ht hvm hw hB hz1 hk1 hS => ?_)
              rw [hw]
              obtain ⟨hP1, hD1⟩ := hB
              rw [ht] at hP1
              obtain ⟨hP, hD⟩ := va_join (wr := [(mm, .inr (7, [.ref sc, .ref cm, .ref hh, .ref sla, .ref pd, .ref rd])), (sc, .inr (5, [.ref sea, .ref th, .ref pi, .int tm, .int ps, .int ft, .int fk])), (sea, .inl (cI, 4, .inl se)), (th, .inr (6, [.int mn, .ref th1, .ref th2, .ref th3, .ref th4, .ref th5, .ref th6, .ref th7, .ref th8, .ref th9])), (th1, .inl (cI, 8, .inl ln)), (th2, .inl (cI, 8, .inl hi)), (th3, .inl (cI, 8, .inl wi)), (th4, .inl (cI, 8, .inl br)), (th5, .inl (cI, 8, .inl sp)), (th6, .inl (cI, 8, .inl si)), (th7, .inl (cI, 8, .inl le)), (th8, .inl (cI, 8, .inl un)), (th9, .inl (cI, 8, .inl ul)), (cm, .inr (0, [.ref cm1, .ref cm2, .ref cm3])), (cm1, .inl (cI, 24, .inl lea)), (cm2, .inl (cI, 24, .inl upr)), (cm3, .inl (cI, 25, .inl ris)), (pd, .inr (2, [.ref pda, .int pl])), (pda, .inl (cC, 80, .inl tx)), (rd, .inr (4, [.ref pd, .int at_, .int kd, .ref rda])), (rda, .inl (cI, 7, .inl va)), (hh, .inr (1, [.ref hst, .int nx, .int hm])), (hst, .inl (cR, 6, .inr (.inr (.inr (.inr hfu)))))]) (w1 := (ws_picture cI cC cZ cR pi pia px)) hP hD [13, 14] [0, 1, 2, 3, 4, 5, 6, 7, 8, 9, 10, 11, 12, 15, 16, 17, 18, 19, 20, 21, 22, 23, 24] rfl rfl (by decide) (by decide) hk1 hFc hP1 hD1
              have hP := hP.sub (ws' := (ws_mainH cI cC cZ cR mm sc sea th th1 th2 th3 th4 th5 th6 th7 th8 th9 pi pia cm cm1 cm2 cm3 pd pda rd rda hh hst sla se mn ln hi wi br sp si le un ul px tm ps ft fk lea upr ris pl tx at_ kd va nx hm hfu)) [0, 1, 2, 3, 4, 5, 6, 7, 8, 9, 10, 11, 12, 23, 24, 13, 14, 15, 16, 17, 18, 19, 20, 21, 22] rfl
              have hD := hD.sub (ws' := (ws_mainH cI cC cZ cR mm sc sea th th1 th2 th3 th4 th5 th6 th7 th8 th9 pi pia cm cm1 cm2 cm3 pd pda rd rda hh hst sla se mn ln hi wi br sp si le un ul px tm ps ft fk lea upr ris pl tx at_ kd va nx hm hfu)) [0, 1, 2, 3, 4, 5, 6, 7, 8, 9, 10, 11, 12, 23, 24, 13, 14, 15, 16, 17, 18, 19, 20, 21, 22] (by decide) rfl
              generalize H1 = H at hP hS ⊢
              have e9 := Option.some.inj h
              subst e9
              rw [hQ]
              exact W.iret (v := r8) hx hb hr (fun t ht hW => ⟨⟨r8, (), rfl, rfl, by rw [ht]; exact hP, hD⟩, hS.F ht⟩) hS.2.2 dX7_count_131
            · replace h := br_n c9 h
              by_cases c10 : a0 = 6
              · replace h := br_p c10 h
                refine lv_tableIn (tgt := 132) hx hb dX7_count_1 (by rw [c10]; decide) (by rw [c10]; decide) (by rw [c10]; rfl) (by decide) ?_
                refine lv_aload_n hx hb dX7_count_132 rfl (lv_at hl 0 rfl) ?_
                refine va_get (D := D) (ci := 7) (v := .ref sc) (C := RX7) (T := TX7) (N := 6) hx hb hts uX7_count_X7 hown hK.1 hP 0 rfl rfl 0 (by decide) (hts _ kX7_count_1) (fun _ h9 => h9) rfl dX7_count_133 ?_
                refine va_get (D := D) (ci := 5) (v := .int ft) (C := RX5) (T := TX5) (N := 7) hx hb hts uX7_count_X5 hown hK.1 hP 1 rfl rfl 5 (by decide) (hts _ kX7_count_9) (fun _ h9 => h9) rfl dX7_count_136 ?_
                have e9 := Option.some.inj h
                subst e9
                rw [hQ]
                exact W.iret (v := ft) hx hb hr (fun t ht hW => ⟨⟨ft, (), rfl, rfl, by rw [ht]; exact hP, hD⟩, hS.F ht⟩) hS.2.2 dX7_count_139
              · replace h := br_n c10 h
                by_cases c11 : a0 = 7
                · replace h := br_p c11 h
                  refine lv_tableIn (tgt := 140) hx hb dX7_count_1 (by rw [c11]; decide) (by rw [c11]; decide) (by rw [c11]; rfl) (by decide) ?_
                  refine lv_aload_n hx hb dX7_count_140 rfl (lv_at hl 0 rfl) ?_
                  refine va_get (D := D) (ci := 7) (v := .ref sc) (C := RX7) (T := TX7) (N := 6) hx hb hts uX7_count_X7 hown hK.1 hP 0 rfl rfl 0 (by decide) (hts _ kX7_count_1) (fun _ h9 => h9) rfl dX7_count_141 ?_
                  refine va_get (D := D) (ci := 5) (v := .int fk) (C := RX5) (T := TX5) (N := 7) hx hb hts uX7_count_X5 hown hK.1 hP 1 rfl rfl 6 (by decide) (hts _ kX7_count_10) (fun _ h9 => h9) rfl dX7_count_144 ?_
                  have e9 := Option.some.inj h
                  subst e9
                  rw [hQ]
                  exact W.iret (v := fk) hx hb hr (fun t ht hW => ⟨⟨fk, (), rfl, rfl, by rw [ht]; exact hP, hD⟩, hS.F ht⟩) hS.2.2 dX7_count_147
                · replace h := br_n c11 h
                  by_cases c12 : a0 = 8
                  · replace h := br_p c12 h
                    refine lv_tableIn (tgt := 148) hx hb dX7_count_1 (by rw [c12]; decide) (by rw [c12]; decide) (by rw [c12]; rfl) (by decide) ?_
                    refine lv_aload_n hx hb dX7_count_148 rfl (lv_at hl 0 rfl) ?_
                    refine va_get (D := D) (ci := 7) (v := .ref sc) (C := RX7) (T := TX7) (N := 6) hx hb hts uX7_count_X7 hown hK.1 hP 0 rfl rfl 0 (by decide) (hts _ kX7_count_1) (fun _ h9 => h9) rfl dX7_count_149 ?_
                    refine va_get (D := D) (ci := 5) (v := .ref sea) (C := RX5) (T := TX5) (N := 7) hx hb hts uX7_count_X5 hown hK.1 hP 1 rfl rfl 0 (by decide) (hts _ kX7_count_11) (fun _ h9 => h9) rfl dX7_count_152 ?_
                    refine lv_iconst (v := 0) hx hb dX7_count_155 (by decide) ?_
                    obtain ⟨hin, h⟩ := gd_sp h
                    refine va_iald (D := D) hx hb hK.1 hP 2 0 rfl rfl hin dX7_count_156 ?_
                    have e9 := Option.some.inj h
                    subst e9
                    rw [hQ]
                    exact W.iret (v := se (0 : Int32).toNatClampNeg) hx hb hr (fun t ht hW => ⟨⟨se (0 : Int32).toNatClampNeg, (), rfl, rfl, by rw [ht]; exact hP, hD⟩, hS.F ht⟩) hS.2.2 dX7_count_157
                  · replace h := br_n c12 h
                    by_cases c13 : a0 = 9
                    · replace h := br_p c13 h
                      refine lv_tableIn (tgt := 158) hx hb dX7_count_1 (by rw [c13]; decide) (by rw [c13]; decide) (by rw [c13]; rfl) (by decide) ?_
                      refine lv_aload_n hx hb dX7_count_158 rfl (lv_at hl 0 rfl) ?_
                      refine va_get (D := D) (ci := 7) (v := .ref sc) (C := RX7) (T := TX7) (N := 6) hx hb hts uX7_count_X7 hown hK.1 hP 0 rfl rfl 0 (by decide) (hts _ kX7_count_1) (fun _ h9 => h9) rfl dX7_count_159 ?_
                      refine va_get (D := D) (ci := 5) (v := .ref sea) (C := RX5) (T := TX5) (N := 7) hx hb hts uX7_count_X5 hown hK.1 hP 1 rfl rfl 0 (by decide) (hts _ kX7_count_11) (fun _ h9 => h9) rfl dX7_count_162 ?_
                      refine lv_iconst (v := 1) hx hb dX7_count_165 (by decide) ?_
                      obtain ⟨hin, h⟩ := gd_sp h
                      refine va_iald (D := D) hx hb hK.1 hP 2 0 rfl rfl hin dX7_count_166 ?_
                      have e9 := Option.some.inj h
                      subst e9
                      rw [hQ]
                      exact W.iret (v := se (1 : Int32).toNatClampNeg) hx hb hr (fun t ht hW => ⟨⟨se (1 : Int32).toNatClampNeg, (), rfl, rfl, by rw [ht]; exact hP, hD⟩, hS.F ht⟩) hS.2.2 dX7_count_167
                    · replace h := br_n c13 h
                      by_cases c14 : a0 = 10
                      · replace h := br_p c14 h
                        refine lv_tableIn (tgt := 168) hx hb dX7_count_1 (by rw [c14]; decide) (by rw [c14]; decide) (by rw [c14]; rfl) (by decide) ?_
                        refine lv_aload_n hx hb dX7_count_168 rfl (lv_at hl 0 rfl) ?_
                        refine va_get (D := D) (ci := 7) (v := .ref sc) (C := RX7) (T := TX7) (N := 6) hx hb hts uX7_count_X7 hown hK.1 hP 0 rfl rfl 0 (by decide) (hts _ kX7_count_1) (fun _ h9 => h9) rfl dX7_count_169 ?_
                        refine va_get (D := D) (ci := 5) (v := .ref sea) (C := RX5) (T := TX5) (N := 7) hx hb hts uX7_count_X5 hown hK.1 hP 1 rfl rfl 0 (by decide) (hts _ kX7_count_11) (fun _ h9 => h9) rfl dX7_count_172 ?_
                        refine lv_iconst (v := 2) hx hb dX7_count_175 (by decide) ?_
                        obtain ⟨hin, h⟩ := gd_sp h
                        refine va_iald (D := D) hx hb hK.1 hP 2 0 rfl rfl hin dX7_count_176 ?_
                        have e9 := Option.some.inj h
                        subst e9
                        rw [hQ]
                        exact W.iret (v := se (2 : Int32).toNatClampNeg) hx hb hr (fun t ht hW => ⟨⟨se (2 : Int32).toNatClampNeg, (), rfl, rfl, by rw [ht]; exact hP, hD⟩, hS.F ht⟩) hS.2.2 dX7_count_177
                      · replace h := br_n c14 h
                        by_cases c15 : a0 = 11
                        · replace h := br_p c15 h
                          refine lv_tableIn (tgt := 178) hx hb dX7_count_1 (by rw [c15]; decide) (by rw [c15]; decide) (by rw [c15]; rfl) (by decide) ?_
                          refine lv_aload_n hx hb dX7_count_178 rfl (lv_at hl 0 rfl) ?_
                          refine va_get (D := D) (ci := 7) (v := .ref sc) (C := RX7) (T := TX7) (N := 6) hx hb hts uX7_count_X7 hown hK.1 hP 0 rfl rfl 0 (by decide) (hts _ kX7_count_1) (fun _ h9 => h9) rfl dX7_count_179 ?_
                          refine va_get (D := D) (ci := 5) (v := .ref sea) (C := RX5) (T := TX5) (N := 7) hx hb hts uX7_count_X5 hown hK.1 hP 1 rfl rfl 0 (by decide) (hts _ kX7_count_11) (fun _ h9 => h9) rfl dX7_count_182 ?_
                          refine lv_iconst (v := 3) hx hb dX7_count_185 (by decide) ?_
                          obtain ⟨hin, h⟩ := gd_sp h
                          refine va_iald (D := D) hx hb hK.1 hP 2 0 rfl rfl hin dX7_count_186 ?_
                          have e9 := Option.some.inj h
                          subst e9
                          rw [hQ]
                          exact W.iret (v := se (3 : Int32).toNatClampNeg) hx hb hr (fun t ht hW => ⟨⟨se (3 : Int32).toNatClampNeg, (), rfl, rfl, by rw [ht]; exact hP, hD⟩, hS.F ht⟩) hS.2.2 dX7_count_187
                        · replace h := br_n c15 h
                          by_cases c16 : a0 = 12
                          · replace h := br_p c16 h
                            refine lv_tableIn (tgt := 188) hx hb dX7_count_1 (by rw [c16]; decide) (by rw [c16]; decide) (by rw [c16]; rfl) (by decide) ?_
                            refine lv_aload_n hx hb dX7_count_188 rfl (lv_at hl 0 rfl) ?_
                            refine va_get (D := D) (ci := 7) (v := .ref pd) (C := RX7) (T := TX7) (N := 6) hx hb hts uX7_count_X7 hown hK.1 hP 0 rfl rfl 4 (by decide) (hts _ kX7_count_12) (fun _ h9 => h9) rfl dX7_count_189 ?_
                            refine va_get (D := D) (ci := 2) (v := .int pl) (C := RX2) (T := TX2) (N := 2) hx hb hts uX7_count_X2 hown hK.1 hP 19 rfl rfl 1 (by decide) (hts _ kX7_count_14) (fun _ h9 => h9) rfl dX7_count_192 ?_
                            have e9 := Option.some.inj h
                            subst e9
                            rw [hQ]
                            exact W.iret (v := pl) hx hb hr (fun t ht hW => ⟨⟨pl, (), rfl, rfl, by rw [ht]; exact hP, hD⟩, hS.F ht⟩) hS.2.2 dX7_count_195
                          · replace h := br_n c16 h
                            by_cases c17 : a0 = 13
                            · replace h := br_p c17 h
                              refine lv_tableIn (tgt := 196) hx hb dX7_count_1 (by rw [c17]; decide) (by rw [c17]; decide) (by rw [c17]; rfl) (by decide) ?_
                              refine lv_aload_n hx hb dX7_count_196 rfl (lv_at hl 0 rfl) ?_
                              refine va_get (D := D) (ci := 7) (v := .ref hh) (C := RX7) (T := TX7) (N := 6) hx hb hts uX7_count_X7 hown hK.1 hP 0 rfl rfl 2 (by decide) (hts _ kX7_count_15) (fun _ h9 => h9) rfl dX7_count_197 ?_
                              refine va_get (D := D) (ci := 1) (v := .int hm) (C := RX1) (T := TX1) (N := 3) hx hb hts uX7_count_X1 hown hK.1 hP 23 rfl rfl 2 (by decide) (hts _ kX7_count_17) (fun _ h9 => h9) rfl dX7_count_200 ?_
                              have e9 := Option.some.inj h
                              subst e9
                              rw [hQ]
                              exact W.iret (v := hm) hx hb hr (fun t ht hW => ⟨⟨hm, (), rfl, rfl, by rw [ht]; exact hP, hD⟩, hS.F ht⟩) hS.2.2 dX7_count_203
                            · replace h := br_n c17 h
                              refine lv_tableOut (tgt := 204) hx hb dX7_count_1 (sw_out14 (fun e => c1 (Int32.toInt_inj.mp (e.trans (by decide)))) (fun e => c2 (Int32.toInt_inj.mp (e.trans (by decide)))) (fun e => c3 (Int32.toInt_inj.mp (e.trans (by decide)))) (fun e => c5 (Int32.toInt_inj.mp (e.trans (by decide)))) (fun e => c7 (Int32.toInt_inj.mp (e.trans (by decide)))) (fun e => c9 (Int32.toInt_inj.mp (e.trans (by decide)))) (fun e => c10 (Int32.toInt_inj.mp (e.trans (by decide)))) (fun e => c11 (Int32.toInt_inj.mp (e.trans (by decide)))) (fun e => c12 (Int32.toInt_inj.mp (e.trans (by decide)))) (fun e => c13 (Int32.toInt_inj.mp (e.trans (by decide)))) (fun e => c14 (Int32.toInt_inj.mp (e.trans (by decide)))) (fun e => c15 (Int32.toInt_inj.mp (e.trans (by decide)))) (fun e => c16 (Int32.toInt_inj.mp (e.trans (by decide)))) (fun e => c17 (Int32.toInt_inj.mp (e.trans (by decide))))) (by decide) ?_
                              refine lv_bipush (v := (-2)) hx hb dX7_count_204 (by decide) ?_
                              have e9 := Option.some.inj h
                              subst e9
                              rw [hQ]
                              exact W.iret (v := (-2)) hx hb hr (fun t ht hW => ⟨⟨(-2), (), rfl, rfl, by rw [ht]; exact hP, hD⟩, hS.F ht⟩) hS.2.2 dX7_count_206
