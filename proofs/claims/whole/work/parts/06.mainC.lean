
-- LeaningLines.carryOutThing
abbrev OUT_X7_carryOutThing : Type := Int32 × Int32 × (Nat → Int32) × (Nat → Int32) × (Nat → Int32) × (Nat → Int32) × (Nat → Int32) × (Nat → Int32) × (Nat → Int32) × (Nat → Int32) × (Nat → Int32)
def f_X7_carryOutThing (mn : Int32) (ln : Nat → Int32) (hi : Nat → Int32) (wi : Nat → Int32) (br : Nat → Int32) (sp : Nat → Int32) (si : Nat → Int32) (le : Nat → Int32) (un : Nat → Int32) (ul : Nat → Int32) (tm : Int32) (va : Nat → Int32) : Option OUT_X7_carryOutThing :=
  gd 5 7 (bd (va (5 : Int32).toNatClampNeg) (fun x1 => gd 6 7 (bd (va (6 : Int32).toNatClampNeg) (fun x2 => gd 0 7 (gd 1 7 (gd 2 7 (gd 3 7 (gd 4 7 (bn (f_X7_errorOfThing mn (va (0 : Int32).toNatClampNeg) (va (1 : Int32).toNatClampNeg) (va (2 : Int32).toNatClampNeg) (va (3 : Int32).toNatClampNeg) (va (4 : Int32).toNatClampNeg)) (fun r3 => (if r3 = 0 then bn (f_X7_isSpeed x1) (fun r4 => (if r4 = 0 then some (((-2), mn, ln, hi, wi, br, sp, si, le, un, ul)) else bn (f_X7_canRide mn x2) (fun r5 => (if ¬ r5 = 0 then gd 0 7 (gd 1 7 (gd 2 7 (gd 3 7 (gd 4 7 (bn (f_X6_add mn ln hi wi br sp si le un ul (va (0 : Int32).toNatClampNeg) (va (1 : Int32).toNatClampNeg) (va (2 : Int32).toNatClampNeg) (va (3 : Int32).toNatClampNeg) (va (4 : Int32).toNatClampNeg) tm) (fun r6 => bn (f_X6_comeAnew r6.2.1 r6.2.2.2.2.2.2.1 r6.2.2.2.2.2.2.2.1 r6.2.2.2.2.2.2.2.2.1 r6.2.2.2.2.2.2.2.2.2.1 r6.2.2.2.2.2.2.2.2.2.2 r6.1 x1 x2 tm) (fun r7 => some ((0, r6.2.1, r6.2.2.1, r6.2.2.2.1, r6.2.2.2.2.1, r6.2.2.2.2.2.1, r7.1, r7.2.1, r7.2.2.1, r7.2.2.2.1, r7.2.2.2.2))))))))) else some (((-2), mn, ln, hi, wi, br, sp, si, le, un, ul)))))) else some ((r3, mn, ln, hi, wi, br, sp, si, le, un, ul)))))))))))))
theorem uX7_carryOutThing_X7 : ∀ w ∈ wsX70, w ∈ wsX7_carryOutThing := by decide +kernel
theorem kX7_carryOutThing_1 : Cond.fieldLink RX7 46 "LeaningLines" "reader" "LLeaningLines$Reader;" ∈ wsX7_carryOutThing := by decide +kernel
theorem uX7_carryOutThing_X4 : ∀ w ∈ wsX40, w ∈ wsX7_carryOutThing := by decide +kernel
theorem kX7_carryOutThing_3 : Cond.fieldLink RX7 265 "LeaningLines$Reader" "values" "[I" ∈ wsX7_carryOutThing := by decide +kernel
theorem kX7_carryOutThing_4 : Cond.fieldLink RX7 10 "LeaningLines" "scene" "LLeaningLines$Scene;" ∈ wsX7_carryOutThing := by decide +kernel
theorem uX7_carryOutThing_X5 : ∀ w ∈ wsX50, w ∈ wsX7_carryOutThing := by decide +kernel
theorem kX7_carryOutThing_6 : Cond.fieldLink RX7 72 "LeaningLines$Scene" "things" "LLeaningLines$Things;" ∈ wsX7_carryOutThing := by decide +kernel
theorem uX7_carryOutThing_X6 : ∀ w ∈ wsX60, w ∈ wsX7_carryOutThing := by decide +kernel
theorem kX7_carryOutThing_8 : Cond.fieldLink RX7 176 "LeaningLines$Things" "many" "I" ∈ wsX7_carryOutThing := by decide +kernel
theorem kX7_carryOutThing_9 : Cond.fieldLink RX7 76 "LeaningLines$Scene" "time" "I" ∈ wsX7_carryOutThing := by decide +kernel
abbrev R_X7_carryOutThing : Room := { frames := 3, cells := 0, slots := 0, locals := 71 }
set_option maxHeartbeats 4000000 in
set_option maxRecDepth 100000 in
theorem m_X7_carryOutThing (l : Launch) (D : va_G) (cI cC cZ cR : ClassId) (mm sc sea th th1 th2 th3 th4 th5 th6 th7 th8 th9 pi pia cm cm1 cm2 cm3 pd pda rd rda hh sla : Nat) (sz : Nat) (se : Nat → Int32) (mn : Int32) (ln : Nat → Int32) (hi : Nat → Int32) (wi : Nat → Int32) (br : Nat → Int32) (sp : Nat → Int32) (si : Nat → Int32) (le : Nat → Int32) (un : Nat → Int32) (ul : Nat → Int32) (px : Nat → Int32) (tm : Int32) (ps : Int32) (ft : Int32) (fk : Int32) (lea : Nat → Int32) (upr : Nat → Int32) (ris : Nat → Int32) (pl : Int32) (tx : Nat → Int32) (at_ : Int32) (kd : Int32) (va : Nat → Int32)     (r : OUT_X7_carryOutThing) (hf : f_X7_carryOutThing mn ln hi wi br sp si le un ul tm va = some r) : Met l yX7_carryOutThing wsX7_carryOutThing R_X7_carryOutThing (cPc D cI cC cZ cR [.ref mm] sz (ws_main cI cC cZ cR mm sc sea th th1 th2 th3 th4 th5 th6 th7 th8 th9 pi pia cm cm1 cm2 cm3 pd pda rd rda hh sla se mn ln hi wi br sp si le un ul px tm ps ft fk lea upr ris pl tx at_ kd va)) (cQi D (ws_main cI cC cZ cR mm sc sea th th1 th2 th3 th4 th5 th6 th7 th8 th9 pi pia cm cm1 cm2 cm3 pd pda rd rda hh sla se r.2.1 r.2.2.1 r.2.2.2.1 r.2.2.2.2.1 r.2.2.2.2.2.1 r.2.2.2.2.2.2.1 r.2.2.2.2.2.2.2.1 r.2.2.2.2.2.2.2.2.1 r.2.2.2.2.2.2.2.2.2.1 r.2.2.2.2.2.2.2.2.2.2 px tm ps ft fk lea upr ris pl tx at_ kd va) (va_A (ws_main cI cC cZ cR mm sc sea th th1 th2 th3 th4 th5 th6 th7 th8 th9 pi pia cm cm1 cm2 cm3 pd pda rd rda hh sla se mn ln hi wi br sp si le un ul px tm ps ft fk lea upr ris pl tx at_ kd va) sz) r.1) 0 0 (va_A (ws_main cI cC cZ cR mm sc sea th th1 th2 th3 th4 th5 th6 th7 th8 th9 pi pia cm cm1 cm2 cm3 pd pda rd rda hh sla se mn ln hi wi br sp si le un ul px tm ps ft fk lea upr ris pl tx at_ kd va) sz) := by
  refine Met.ofW (cc := cX7_carryOutThing) (maxL := 7) (ret := (some .int)) (by decide) rfl ?_
  intro p e s m args below meth c s₁ B hml hv
  obtain ⟨rfl, hsz, hP, hK, hD0⟩ := hv
  have hx := B.exec
  have hb := B.bytes
  have hr := B.returns
  have hts := atoms_spec (ws := wsX7_carryOutThing) B.pre
  have hown : s.vm.findClass RX7 = some m.cls := findClass_of_methodNamed B.named
  have hlocks := B.notSynchronized
  subst hsz
  have hD := hD0.self (sz := s.heap.size)
  generalize hAe : va_A (ws_main cI cC cZ cR mm sc sea th th1 th2 th3 th4 th5 th6 th7 th8 th9 pi pia cm cm1 cm2 cm3 pd pda rd rda hh sla se mn ln hi wi br sp si le un ul px tm ps ft fk lea upr ris pl tx at_ kd va) s.heap.size = A at hD ⊢
  skip
  have hA : ∀ q : Nat, s.heap.size ≤ q → A q := fun q h => by rw [← hAe]; exact Or.inr h
  have hS : va_S A s.heap s.heap [] := va_S.rf
  have hl := lv_entry ([.ref mm]) (n := 7) (Nat.le_of_ble_eq_true rfl)
  rw [lg_entry_eq]
  generalize (lg_sl ([.ref mm]) ++ List.replicate (7 - (lg_sl ([.ref mm])).length) Slot.unset).toArray = ls at hl ⊢
  have hl : lv_has ls 7 [(0, .ref mm)] := hl
  refine W_absQ (fun Q hQ => ?_)
  refine W.eq (g2 := F0 m 0 ls []) rfl ?_
  have h := hf
  unfold f_X7_carryOutThing at h
  refine lv_aload_n hx hb dX7_carryOutThing_0 rfl (lv_at hl 0 rfl) ?_
  refine va_get (D := D) (ci := 7) (v := .ref rd) (C := RX7) (T := TX7) (N := 6) hx hb hts uX7_carryOutThing_X7 hown hK.1 hP 0 rfl rfl 5 (by decide) (hts _ kX7_carryOutThing_1) (fun _ h9 => h9) rfl dX7_carryOutThing_1 ?_
  refine va_get (D := D) (ci := 4) (v := .ref rda) (C := RX4) (T := TX4) (N := 4) hx hb hts uX7_carryOutThing_X4 hown hK.1 hP 21 rfl rfl 3 (by decide) (hts _ kX7_carryOutThing_3) (fun _ h9 => h9) rfl dX7_carryOutThing_4 ?_
  refine lv_astore_n (lv' := [(1, .ref rda), (0, .ref mm)]) hx hb dX7_carryOutThing_7 rfl hl (by decide) rfl (fun ls hl => ?_)
  refine lv_aload_n hx hb dX7_carryOutThing_8 rfl (lv_at hl 1 rfl) ?_
  refine va_get (D := D) (ci := 7) (v := .ref sc) (C := RX7) (T := TX7) (N := 6) hx hb hts uX7_carryOutThing_X7 hown hK.1 hP 0 rfl rfl 0 (by decide) (hts _ kX7_carryOutThing_4) (fun _ h9 => h9) rfl dX7_carryOutThing_9 ?_
  refine va_get (D := D) (ci := 5) (v := .ref th) (C := RX5) (T := TX5) (N := 7) hx hb hts uX7_carryOutThing_X5 hown hK.1 hP 1 rfl rfl 1 (by decide) (hts _ kX7_carryOutThing_6) (fun _ h9 => h9) rfl dX7_carryOutThing_12 ?_
  refine lv_astore_n (lv' := [(2, .ref th), (1, .ref rda), (0, .ref mm)]) hx hb dX7_carryOutThing_15 rfl hl (by decide) rfl (fun ls hl => ?_)
  refine lv_aload_n hx hb dX7_carryOutThing_16 rfl (lv_at hl 1 rfl) ?_
  refine lv_iconst (v := 5) hx hb dX7_carryOutThing_17 (by decide) ?_
  obtain ⟨hin, h⟩ := gd_sp h
  refine va_iald (D := D) hx hb hK.1 hP 22 0 rfl rfl hin dX7_carryOutThing_18 ?_
  refine lv_topi (fun x1 ex1 => ?_)
  replace h := bd_s2 h ex1
  refine lv_istore_n (lv' := [(3, .int x1), (2, .ref th), (1, .ref rda), (0, .ref mm)]) hx hb dX7_carryOutThing_19 rfl hl (by decide) rfl (fun ls hl => ?_)
  refine lv_aload_n hx hb dX7_carryOutThing_20 rfl (lv_at hl 2 rfl) ?_
  refine lv_bipush (v := 6) hx hb dX7_carryOutThing_21 (by decide) ?_
  obtain ⟨hin, h⟩ := gd_sp h
  refine va_iald (D := D) hx hb hK.1 hP 22 0 rfl rfl hin dX7_carryOutThing_23 ?_
  refine lv_topi (fun x2 ex2 => ?_)
  replace h := bd_s2 h ex2
  refine lv_istore (lv' := [(4, .int x2), (3, .int x1), (2, .ref th), (1, .ref rda), (0, .ref mm)]) hx hb dX7_carryOutThing_24 hl (by decide) rfl (fun ls hl => ?_)
  refine lv_aload_n hx hb dX7_carryOutThing_26 rfl (lv_at hl 4 rfl) ?_
  refine lv_aload_n hx hb dX7_carryOutThing_27 rfl (lv_at hl 3 rfl) ?_
  refine lv_iconst (v := 0) hx hb dX7_carryOutThing_28 (by decide) ?_
  obtain ⟨hin, h⟩ := gd_sp h
  refine va_iald (D := D) hx hb hK.1 hP 22 0 rfl rfl hin dX7_carryOutThing_29 ?_
  refine lv_aload_n hx hb dX7_carryOutThing_30 rfl (lv_at hl 3 rfl) ?_
  refine lv_iconst (v := 1) hx hb dX7_carryOutThing_31 (by decide) ?_
  obtain ⟨hin, h⟩ := gd_sp h
  refine va_iald (D := D) hx hb hK.1 hP 22 0 rfl rfl hin dX7_carryOutThing_32 ?_
  refine lv_aload_n hx hb dX7_carryOutThing_33 rfl (lv_at hl 3 rfl) ?_
  refine lv_iconst (v := 2) hx hb dX7_carryOutThing_34 (by decide) ?_
  obtain ⟨hin, h⟩ := gd_sp h
  refine va_iald (D := D) hx hb hK.1 hP 22 0 rfl rfl hin dX7_carryOutThing_35 ?_
  refine lv_aload_n hx hb dX7_carryOutThing_36 rfl (lv_at hl 3 rfl) ?_
  refine lv_iconst (v := 3) hx hb dX7_carryOutThing_37 (by decide) ?_
  obtain ⟨hin, h⟩ := gd_sp h
  refine va_iald (D := D) hx hb hK.1 hP 22 0 rfl rfl hin dX7_carryOutThing_38 ?_
  refine lv_aload_n hx hb dX7_carryOutThing_39 rfl (lv_at hl 3 rfl) ?_
  refine lv_iconst (v := 4) hx hb dX7_carryOutThing_40 (by decide) ?_
  obtain ⟨hin, h⟩ := gd_sp h
  refine va_iald (D := D) hx hb hK.1 hP 22 0 rfl rfl hin dX7_carryOutThing_41 ?_
  obtain ⟨r3, hcr3, h⟩ := bn_sp h
  have hPc := hP.sub (ws' := (ws_main cI cC cZ cR mm sc sea th th1 th2 th3 th4 th5 th6 th7 th8 th9 pi pia cm cm1 cm2 cm3 pd pda rd rda hh sla se mn ln hi wi br sp si le un ul px tm ps ft fk lea upr ris pl tx at_ kd va)) [0, 1, 2, 3, 4, 5, 6, 7, 8, 9, 10, 11, 12, 13, 14, 15, 16, 17, 18, 19, 20, 21, 22] rfl
  have hDc := hD.sub (ws' := (ws_main cI cC cZ cR mm sc sea th th1 th2 th3 th4 th5 th6 th7 th8 th9 pi pia cm cm1 cm2 cm3 pd pda rd rda hh sla se mn ln hi wi br sp si le un ul px tm ps ft fk lea upr ris pl tx at_ kd va)) [0, 1, 2, 3, 4, 5, 6, 7, 8, 9, 10, 11, 12, 13, 14, 15, 16, 17, 18, 19, 20, 21, 22] (by decide) rfl
  have hFc := va_free (wc := (ws_main cI cC cZ cR mm sc sea th th1 th2 th3 th4 th5 th6 th7 th8 th9 pi pia cm cm1 cm2 cm3 pd pda rd rda hh sla se mn ln hi wi br sp si le un ul px tm ps ft fk lea upr ris pl tx at_ kd va)) hD hS hA [0, 1, 2, 3, 4, 5, 6, 7, 8, 9, 10, 11, 12, 13, 14, 15, 16, 17, 18, 19, 20, 21, 22] rfl
  refine va_calli (va_runV (As := [.int (va (0 : Int32).toNatClampNeg), .int (va (1 : Int32).toNatClampNeg), .int (va (2 : Int32).toNatClampNeg), .int (va (3 : Int32).toNatClampNeg), .int (va (4 : Int32).toNatClampNeg)]) (rest := []) ⟨hx, hb, hml, hown, hts⟩ (m_X7_errorOfThing l D cI cC cZ cR mm sc sea th th1 th2 th3 th4 th5 th6 th7 th8 th9 pi pia cm cm1 cm2 cm3 pd pda rd rda hh sla _ se mn ln hi wi br sp si le un ul px tm ps ft fk lea upr ris pl tx at_ kd va (va (0 : Int32).toNatClampNeg) (va (1 : Int32).toNatClampNeg) (va (2 : Int32).toNatClampNeg) (va (3 : Int32).toNatClampNeg) (va (4 : Int32).toNatClampNeg)   r3 hcr3) (cwV 5 hts gX7_carryOutThing_X7_errorOfThing rfl rfl rfl (by decide +kernel) ⟨Nat.le_of_ble_eq_true rfl, Nat.le_of_ble_eq_true rfl⟩) (cPc_pv hPc hK hDc (ci := 7) (q0 := 0) rfl rfl) rfl rfl hl.1 rfl (lv_room (Nat.le_of_ble_eq_true rfl)) dX7_carryOutThing_42 ⟨Nat.le_of_ble_eq_true rfl, Nat.le_of_ble_eq_true rfl⟩) hS (fun q _ h => hFc q h) hFc (fun xq u t H1 locs ht hvm hw hB hz1 hk1 hS => ?_)
  rw [hw]
  obtain ⟨hP1, hD1⟩ := hB
  rw [ht] at hP1
  obtain ⟨hP, hD⟩ := va_join (wr := []) (w1 := (ws_main cI cC cZ cR mm sc sea th th1 th2 th3 th4 th5 th6 th7 th8 th9 pi pia cm cm1 cm2 cm3 pd pda rd rda hh sla se mn ln hi wi br sp si le un ul px tm ps ft fk lea upr ris pl tx at_ kd va)) hP hD [0, 1, 2, 3, 4, 5, 6, 7, 8, 9, 10, 11, 12, 13, 14, 15, 16, 17, 18, 19, 20, 21, 22] [] rfl rfl (by decide) (by decide) hk1 hFc hP1 hD1
  generalize H1 = H at hP hS ⊢
  have hP : va_P D vwCl (ws_main cI cC cZ cR mm sc sea th th1 th2 th3 th4 th5 th6 th7 th8 th9 pi pia cm cm1 cm2 cm3 pd pda rd rda hh sla se mn ln hi wi br sp si le un ul px tm ps ft fk lea upr ris pl tx at_ kd va) H := hP
  have hD : va_D A (ws_main cI cC cZ cR mm sc sea th th1 th2 th3 th4 th5 th6 th7 th8 th9 pi pia cm cm1 cm2 cm3 pd pda rd rda hh sla se mn ln hi wi br sp si le un ul px tm ps ft fk lea upr ris pl tx at_ kd va) := hD
  refine lv_istore (lv' := [(5, .int r3), (4, .int x2), (3, .int x1), (2, .ref th), (1, .ref rda), (0, .ref mm)]) hx hb dX7_carryOutThing_45 hl (by decide) rfl (fun ls hl => ?_)
  refine lv_iload hx hb dX7_carryOutThing_47 (lv_at hl 0 rfl) ?_
  refine lv_if_eq (tgt := 55) hx hb dX7_carryOutThing_49 (by decide) (fun c10 => ?_) (fun c10 => ?_)
  · replace h := br_p c10 h
    refine lv_iload_n hx hb dX7_carryOutThing_55 rfl (lv_at hl 2 rfl) ?_
    obtain ⟨r4, hcr4, h⟩ := bn_sp h
    have hPc := hP.sub (ws' := []) [] rfl
    have hDc := hD.sub (ws' := []) [] (by decide) rfl
    have hFc := va_free (wc := []) hD hS hA [] rfl
    refine va_calli (va_runS (As := [.int x1]) (rest := []) ⟨hx, hb, hml, hown, hts⟩ (m_X7_isSpeed l D cI cC cZ cR  _  x1   r4 hcr4) (va_cwS 1 hts gX7_carryOutThing_X7_isSpeed rfl rfl rfl (by decide +kernel) ⟨Nat.le_of_ble_eq_true rfl, Nat.le_of_ble_eq_true rfl⟩) (cPc_ps hPc hK hDc) rfl rfl hl.1 rfl (lv_room (Nat.le_of_ble_eq_true rfl)) dX7_carryOutThing_56 ⟨Nat.le_of_ble_eq_true rfl, Nat.le_of_ble_eq_true rfl⟩) hS (fun q _ h => hFc q h) hFc (fun xq u t H1 locs ht hvm hw hB hz1 hk1 hS => ?_)
    rw [hw]
    obtain ⟨hP1, hD1⟩ := hB
    rw [ht] at hP1
    obtain ⟨hP, hD⟩ := va_join (wr := [(mm, .inr (7, [.ref sc, .ref cm, .ref hh, .ref sla, .ref pd, .ref rd])), (sc, .inr (5, [.ref sea, .ref th, .ref pi, .int tm, .int ps, .int ft, .int fk])), (sea, .inl (cI, 4, .inl se)), (th, .inr (6, [.int mn, .ref th1, .ref th2, .ref th3, .ref th4, .ref th5, .ref th6, .ref th7, .ref th8, .ref th9])), (th1, .inl (cI, 8, .inl ln)), (th2, .inl (cI, 8, .inl hi)), (th3, .inl (cI, 8, .inl wi)), (th4, .inl (cI, 8, .inl br)), (th5, .inl (cI, 8, .inl sp)), (th6, .inl (cI, 8, .inl si)), (th7, .inl (cI, 8, .inl le)), (th8, .inl (cI, 8, .inl un)), (th9, .inl (cI, 8, .inl ul)), (pi, .inr (3, [.ref pia])), (pia, .inl (cI, 384, .inl px)), (cm, .inr (0, [.ref cm1, .ref cm2, .ref cm3])), (cm1, .inl (cI, 24, .inl lea)), (cm2, .inl (cI, 24, .inl upr)), (cm3, .inl (cI, 25, .inl ris)), (pd, .inr (2, [.ref pda, .int pl])), (pda, .inl (cC, 80, .inl tx)), (rd, .inr (4, [.ref pd, .int at_, .int kd, .ref rda])), (rda, .inl (cI, 7, .inl va))]) (w1 := []) hP hD [] [0, 1, 2, 3, 4, 5, 6, 7, 8, 9, 10, 11, 12, 13, 14, 15, 16, 17, 18, 19, 20, 21, 22] rfl rfl (by decide) (by decide) hk1 hFc hP1 hD1
    generalize H1 = H at hP hS ⊢
    have hP : va_P D vwCl (ws_main cI cC cZ cR mm sc sea th th1 th2 th3 th4 th5 th6 th7 th8 th9 pi pia cm cm1 cm2 cm3 pd pda rd rda hh sla se mn ln hi wi br sp si le un ul px tm ps ft fk lea upr ris pl tx at_ kd va) H := hP
    have hD : va_D A (ws_main cI cC cZ cR mm sc sea th th1 th2 th3 th4 th5 th6 th7 th8 th9 pi pia cm cm1 cm2 cm3 pd pda rd rda hh sla se mn ln hi wi br sp si le un ul px tm ps ft fk lea upr ris pl tx at_ kd va) := hD
    refine lv_if_eq (tgt := 74) hx hb dX7_carryOutThing_59 (by decide) (fun c9 => ?_) (fun c9 => ?_)
    · replace h := br_p c9 h
      refine lv_bipush (v := (-2)) hx hb dX7_carryOutThing_74 (by decide) ?_
      have e9 := Option.some.inj h
      subst e9
      rw [hQ]
      exact W.iret (v := (-2)) hx hb hr (fun t ht hW => ⟨⟨(-2), (), rfl, rfl, by rw [ht]; exact hP, hD⟩, hS.F ht⟩) hS.2.2 dX7_carryOutThing_76
    · replace h := br_n c9 h
      refine lv_aload_n hx hb dX7_carryOutThing_62 rfl (lv_at hl 3 rfl) ?_
      refine va_get (D := D) (ci := 6) (v := .int mn) (C := RX6) (T := TX6) (N := 10) hx hb hts uX7_carryOutThing_X6 hown hK.1 hP 3 rfl rfl 0 (by decide) (hts _ kX7_carryOutThing_8) (fun _ h9 => h9) rfl dX7_carryOutThing_63 ?_
      refine lv_iload hx hb dX7_carryOutThing_66 (lv_at hl 1 rfl) ?_
      obtain ⟨r5, hcr5, h⟩ := bn_sp h
      have hPc := hP.sub (ws' := []) [] rfl
      have hDc := hD.sub (ws' := []) [] (by decide) rfl
      have hFc := va_free (wc := []) hD hS hA [] rfl
      refine va_calli (va_runS (As := [.int mn, .int x2]) (rest := []) ⟨hx, hb, hml, hown, hts⟩ (m_X7_canRide l D cI cC cZ cR  _  mn x2   r5 hcr5) (va_cwS 2 hts gX7_carryOutThing_X7_canRide rfl rfl rfl (by decide +kernel) ⟨Nat.le_of_ble_eq_true rfl, Nat.le_of_ble_eq_true rfl⟩) (cPc_ps hPc hK hDc) rfl rfl hl.1 rfl (lv_room (Nat.le_of_ble_eq_true rfl)) dX7_carryOutThing_68 ⟨Nat.le_of_ble_eq_true rfl, Nat.le_of_ble_eq_true rfl⟩) hS (fun q _ h => hFc q h) hFc (fun xq u t H1 locs ht hvm hw hB hz1 hk1 hS => ?_)
      rw [hw]
      obtain ⟨hP1, hD1⟩ := hB
      rw [ht] at hP1
      obtain ⟨hP, hD⟩ := va_join (wr := [(mm, .inr (7, [.ref sc, .ref cm, .ref hh, .ref sla, .ref pd, .ref rd])), (sc, .inr (5, [.ref sea, .ref th, .ref pi, .int tm, .int ps, .int ft, .int fk])), (sea, .inl (cI, 4, .inl se)), (th, .inr (6, [.int mn, .ref th1, .ref th2, .ref th3, .ref th4, .ref th5, .ref th6, .ref th7, .ref th8, .ref th9])), (th1, .inl (cI, 8, .inl ln)), (th2, .inl (cI, 8, .inl hi)), (th3, .inl (cI, 8, .inl wi)), (th4, .inl (cI, 8, .inl br)), (th5, .inl (cI, 8, .inl sp)), (th6, .inl (cI, 8, .inl si)), (th7, .inl (cI, 8, .inl le)), (th8, .inl (cI, 8, .inl un)), (th9, .inl (cI, 8, .inl ul)), (pi, .inr (3, [.ref pia])), (pia, .inl (cI, 384, .inl px)), (cm, .inr (0, [.ref cm1, .ref cm2, .ref cm3])), (cm1, .inl (cI, 24, .inl lea)), (cm2, .inl (cI, 24, .inl upr)), (cm3, .inl (cI, 25, .inl ris)), (pd, .inr (2, [.ref pda, .int pl])), (pda, .inl (cC, 80, .inl tx)), (rd, .inr (4, [.ref pd, .int at_, .int kd, .ref rda])), (rda, .inl (cI, 7, .inl va))]) (w1 := []) hP hD [] [0, 1, 2, 3, 4, 5, 6, 7, 8, 9, 10, 11, 12, 13, 14, 15, 16, 17, 18, 19, 20, 21, 22] rfl rfl (by decide) (by decide) hk1 hFc hP1 hD1
      generalize H1 = H at hP hS ⊢
      have hP : va_P D vwCl (ws_main cI cC cZ cR mm sc sea th th1 th2 th3 th4 th5 th6 th7 th8 th9 pi pia cm cm1 cm2 cm3 pd pda rd rda hh sla se mn ln hi wi br sp si le un ul px tm ps ft fk lea upr ris pl tx at_ kd va) H := hP
      have hD : va_D A (ws_main cI cC cZ cR mm sc sea th th1 th2 th3 th4 th5 th6 th7 th8 th9 pi pia cm cm1 cm2 cm3 pd pda rd rda hh sla se mn ln hi wi br sp si le un ul px tm ps ft fk lea upr ris pl tx at_ kd va) := hD
      refine lv_if_ne (tgt := 77) hx hb dX7_carryOutThing_71 (by decide) (fun c8 => ?_) (fun c8 => ?_)
      · replace h := br_p c8 h
        refine lv_aload_n hx hb dX7_carryOutThing_77 rfl (lv_at hl 3 rfl) ?_
        refine lv_aload_n hx hb dX7_carryOutThing_78 rfl (lv_at hl 4 rfl) ?_
        refine lv_iconst (v := 0) hx hb dX7_carryOutThing_79 (by decide) ?_
        obtain ⟨hin, h⟩ := gd_sp h
        refine va_iald (D := D) hx hb hK.1 hP 22 0 rfl rfl hin dX7_carryOutThing_80 ?_
        refine lv_aload_n hx hb dX7_carryOutThing_81 rfl (lv_at hl 4 rfl) ?_
        refine lv_iconst (v := 1) hx hb dX7_carryOutThing_82 (by decide) ?_
        obtain ⟨hin, h⟩ := gd_sp h
        refine va_iald (D := D) hx hb hK.1 hP 22 0 rfl rfl hin dX7_carryOutThing_83 ?_
        refine lv_aload_n hx hb dX7_carryOutThing_84 rfl (lv_at hl 4 rfl) ?_
        refine lv_iconst (v := 2) hx hb dX7_carryOutThing_85 (by decide) ?_
        obtain ⟨hin, h⟩ := gd_sp h
        refine va_iald (D := D) hx hb hK.1 hP 22 0 rfl rfl hin dX7_carryOutThing_86 ?_
        refine lv_aload_n hx hb dX7_carryOutThing_87 rfl (lv_at hl 4 rfl) ?_
        refine lv_iconst (v := 3) hx hb dX7_carryOutThing_88 (by decide) ?_
        obtain ⟨hin, h⟩ := gd_sp h
        refine va_iald (D := D) hx hb hK.1 hP 22 0 rfl rfl hin dX7_carryOutThing_89 ?_
        refine lv_aload_n hx hb dX7_carryOutThing_90 rfl (lv_at hl 4 rfl) ?_
        refine lv_iconst (v := 4) hx hb dX7_carryOutThing_91 (by decide) ?_
        obtain ⟨hin, h⟩ := gd_sp h
        refine va_iald (D := D) hx hb hK.1 hP 22 0 rfl rfl hin dX7_carryOutThing_92 ?_
        refine lv_aload_n hx hb dX7_carryOutThing_93 rfl (lv_at hl 5 rfl) ?_
        refine va_get (D := D) (ci := 7) (v := .ref sc) (C := RX7) (T := TX7) (N := 6) hx hb hts uX7_carryOutThing_X7 hown hK.1 hP 0 rfl rfl 0 (by decide) (hts _ kX7_carryOutThing_4) (fun _ h9 => h9) rfl dX7_carryOutThing_94 ?_
        refine va_get (D := D) (ci := 5) (v := .int tm) (C := RX5) (T := TX5) (N := 7) hx hb hts uX7_carryOutThing_X5 hown hK.1 hP 1 rfl rfl 3 (by decide) (hts _ kX7_carryOutThing_9) (fun _ h9 => h9) rfl dX7_carryOutThing_97 ?_
        obtain ⟨r6, hcr6, h⟩ := bn_sp h
        have hPc := hP.sub (ws' := (ws_things cI cC cZ cR th th1 th2 th3 th4 th5 th6 th7 th8 th9 mn ln hi wi br sp si le un ul)) [3, 4, 5, 6, 7, 8, 9, 10, 11, 12] rfl
        have hDc := hD.sub (ws' := (ws_things cI cC cZ cR th th1 th2 th3 th4 th5 th6 th7 th8 th9 mn ln hi wi br sp si le un ul)) [3, 4, 5, 6, 7, 8, 9, 10, 11, 12] (by decide) rfl
        have hFc := va_free (wc := (ws_things cI cC cZ cR th th1 th2 th3 th4 th5 th6 th7 th8 th9 mn ln hi wi br sp si le un ul)) hD hS hA [3, 4, 5, 6, 7, 8, 9, 10, 11, 12] rfl
        refine va_calli (va_runV (As := [.int (va (0 : Int32).toNatClampNeg), .int (va (1 : Int32).toNatClampNeg), .int (va (2 : Int32).toNatClampNeg), .int (va (3 : Int32).toNatClampNeg), .int (va (4 : Int32).toNatClampNeg), .int tm]) (rest := []) ⟨hx, hb, hml, hown, hts⟩ (m_X6_add l D cI cC cZ cR th th1 th2 th3 th4 th5 th6 th7 th8 th9 _ mn ln hi wi br sp si le un ul (va (0 : Int32).toNatClampNeg) (va (1 : Int32).toNatClampNeg) (va (2 : Int32).toNatClampNeg) (va (3 : Int32).toNatClampNeg) (va (4 : Int32).toNatClampNeg) tm   r6 hcr6) (cwV 6 hts gX7_carryOutThing_X6_add rfl rfl rfl (by decide +kernel) ⟨Nat.le_of_ble_eq_true rfl, Nat.le_of_ble_eq_true rfl⟩) (cPc_pv hPc hK hDc (ci := 6) (q0 := 0) rfl rfl) rfl rfl hl.1 rfl (lv_room (Nat.le_of_ble_eq_true rfl)) dX7_carryOutThing_100 ⟨Nat.le_of_ble_eq_true rfl, Nat.le_of_ble_eq_true rfl⟩) hS (fun q _ h => hFc q h) hFc (fun xq u t H1 locs ht hvm hw hB hz1 hk1 hS => ?_)
        rw [hw]
        obtain ⟨hP1, hD1⟩ := hB
        rw [ht] at hP1
        obtain ⟨hP, hD⟩ := va_join (wr := [(mm, .inr (7, [.ref sc, .ref cm, .ref hh, .ref sla, .ref pd, .ref rd])), (sc, .inr (5, [.ref sea, .ref th, .ref pi, .int tm, .int ps, .int ft, .int fk])), (sea, .inl (cI, 4, .inl se)), (pi, .inr (3, [.ref pia])), (pia, .inl (cI, 384, .inl px)), (cm, .inr (0, [.ref cm1, .ref cm2, .ref cm3])), (cm1, .inl (cI, 24, .inl lea)), (cm2, .inl (cI, 24, .inl upr)), (cm3, .inl (cI, 25, .inl ris)), (pd, .inr (2, [.ref pda, .int pl])), (pda, .inl (cC, 80, .inl tx)), (rd, .inr (4, [.ref pd, .int at_, .int kd, .ref rda])), (rda, .inl (cI, 7, .inl va))]) (w1 := (ws_things cI cC cZ cR th th1 th2 th3 th4 th5 th6 th7 th8 th9 r6.2.1 r6.2.2.1 r6.2.2.2.1 r6.2.2.2.2.1 r6.2.2.2.2.2.1 r6.2.2.2.2.2.2.1 r6.2.2.2.2.2.2.2.1 r6.2.2.2.2.2.2.2.2.1 r6.2.2.2.2.2.2.2.2.2.1 r6.2.2.2.2.2.2.2.2.2.2)) hP hD [3, 4, 5, 6, 7, 8, 9, 10, 11, 12] [0, 1, 2, 13, 14, 15, 16, 17, 18, 19, 20, 21, 22] rfl rfl (by decide) (by decide) hk1 hFc hP1 hD1
        have hP := hP.sub (ws' := (ws_main cI cC cZ cR mm sc sea th th1 th2 th3 th4 th5 th6 th7 th8 th9 pi pia cm cm1 cm2 cm3 pd pda rd rda hh sla se r6.2.1 r6.2.2.1 r6.2.2.2.1 r6.2.2.2.2.1 r6.2.2.2.2.2.1 r6.2.2.2.2.2.2.1 r6.2.2.2.2.2.2.2.1 r6.2.2.2.2.2.2.2.2.1 r6.2.2.2.2.2.2.2.2.2.1 r6.2.2.2.2.2.2.2.2.2.2 px tm ps ft fk lea upr ris pl tx at_ kd va)) [0, 1, 2, 13, 14, 15, 16, 17, 18, 19, 20, 21, 22, 3, 4, 5, 6, 7, 8, 9, 10, 11, 12] rfl
        have hD := hD.sub (ws' := (ws_main cI cC cZ cR mm sc sea th th1 th2 th3 th4 th5 th6 th7 th8 th9 pi pia cm cm1 cm2 cm3 pd pda rd rda hh sla se r6.2.1 r6.2.2.1 r6.2.2.2.1 r6.2.2.2.2.1 r6.2.2.2.2.2.1 r6.2.2.2.2.2.2.1 r6.2.2.2.2.2.2.2.1 r6.2.2.2.2.2.2.2.2.1 r6.2.2.2.2.2.2.2.2.2.1 r6.2.2.2.2.2.2.2.2.2.2 px tm ps ft fk lea upr ris pl tx at_ kd va)) [0, 1, 2, 13, 14, 15, 16, 17, 18, 19, 20, 21, 22, 3, 4, 5, 6, 7, 8, 9, 10, 11, 12] (by decide) rfl
        generalize H1 = H at hP hS ⊢
        refine lv_istore (lv' := [(6, .int r6.1), (5, .int r3), (4, .int x2), (3, .int x1), (2, .ref th), (1, .ref rda), (0, .ref mm)]) hx hb dX7_carryOutThing_103 hl (by decide) rfl (fun ls hl => ?_)
        refine lv_aload_n hx hb dX7_carryOutThing_105 rfl (lv_at hl 4 rfl) ?_
        refine lv_iload hx hb dX7_carryOutThing_106 (lv_at hl 0 rfl) ?_
        refine lv_iload_n hx hb dX7_carryOutThing_108 rfl (lv_at hl 3 rfl) ?_
        refine lv_iload hx hb dX7_carryOutThing_109 (lv_at hl 2 rfl) ?_
        refine lv_aload_n hx hb dX7_carryOutThing_111 rfl (lv_at hl 6 rfl) ?_
        refine va_get (D := D) (ci := 7) (v := .ref sc) (C := RX7) (T := TX7) (N := 6) hx hb hts uX7_carryOutThing_X7 hown hK.1 hP 0 rfl rfl 0 (by decide) (hts _ kX7_carryOutThing_4) (fun _ h9 => h9) rfl dX7_carryOutThing_112 ?_
        refine va_get (D := D) (ci := 5) (v := .int tm) (C := RX5) (T := TX5) (N := 7) hx hb hts uX7_carryOutThing_X5 hown hK.1 hP 1 rfl rfl 3 (by decide) (hts _ kX7_carryOutThing_9) (fun _ h9 => h9) rfl dX7_carryOutThing_115 ?_
        obtain ⟨r7, hcr7, h⟩ := bn_sp h
        have hPc := hP.sub (ws' := (ws_things cI cC cZ cR th th1 th2 th3 th4 th5 th6 th7 th8 th9 r6.2.1 r6.2.2.1 r6.2.2.2.1 r6.2.2.2.2.1 r6.2.2.2.2.2.1 r6.2.2.2.2.2.2.1 r6.2.2.2.2.2.2.2.1 r6.2.2.2.2.2.2.2.2.1 r6.2.2.2.2.2.2.2.2.2.1 r6.2.2.2.2.2.2.2.2.2.2)) [3, 4, 5, 6, 7, 8, 9, 10, 11, 12] rfl
        have hDc := hD.sub (ws' := (ws_things cI cC cZ cR th th1 th2 th3 th4 th5 th6 th7 th8 th9 r6.2.1 r6.2.2.1 r6.2.2.2.1 r6.2.2.2.2.1 r6.2.2.2.2.2.1 r6.2.2.2.2.2.2.1 r6.2.2.2.2.2.2.2.1 r6.2.2.2.2.2.2.2.2.1 r6.2.2.2.2.2.2.2.2.2.1 r6.2.2.2.2.2.2.2.2.2.2)) [3, 4, 5, 6, 7, 8, 9, 10, 11, 12] (by decide) rfl
        have hFc := va_free (wc := (ws_things cI cC cZ cR th th1 th2 th3 th4 th5 th6 th7 th8 th9 r6.2.1 r6.2.2.1 r6.2.2.2.1 r6.2.2.2.2.1 r6.2.2.2.2.2.1 r6.2.2.2.2.2.2.1 r6.2.2.2.2.2.2.2.1 r6.2.2.2.2.2.2.2.2.1 r6.2.2.2.2.2.2.2.2.2.1 r6.2.2.2.2.2.2.2.2.2.2)) hD hS hA [3, 4, 5, 6, 7, 8, 9, 10, 11, 12] rfl
        refine va_callv (va_runV (As := [.int r6.1, .int x1, .int x2, .int tm]) (rest := []) ⟨hx, hb, hml, hown, hts⟩ (m_X6_comeAnew l D cI cC cZ cR th th1 th2 th3 th4 th5 th6 th7 th8 th9 _ r6.2.1 r6.2.2.1 r6.2.2.2.1 r6.2.2.2.2.1 r6.2.2.2.2.2.1 r6.2.2.2.2.2.2.1 r6.2.2.2.2.2.2.2.1 r6.2.2.2.2.2.2.2.2.1 r6.2.2.2.2.2.2.2.2.2.1 r6.2.2.2.2.2.2.2.2.2.2 r6.1 x1 x2 tm   r7 hcr7) (cwV 4 hts gX7_carryOutThing_X6_comeAnew rfl rfl rfl (by decide +kernel) ⟨Nat.le_of_ble_eq_true rfl, Nat.le_of_ble_eq_true rfl⟩) (cPc_pv hPc hK hDc (ci := 6) (q0 := 0) rfl rfl) rfl rfl hl.1 rfl (lv_room (Nat.le_of_ble_eq_true rfl)) dX7_carryOutThing_118 ⟨Nat.le_of_ble_eq_true rfl, Nat.le_of_ble_eq_true rfl⟩) hS (fun q _ h => hFc q h) hFc (fun u t H1 locs ht hvm hw hB hz1 hk1 hS => ?_)
        obtain ⟨hP1, hD1⟩ := hB
        rw [ht] at hP1
        obtain ⟨hP, hD⟩ := va_join (wr := [(mm, .inr (7, [.ref sc, .ref cm, .ref hh, .ref sla, .ref pd, .ref rd])), (sc, .inr (5, [.ref sea, .ref th, .ref pi, .int tm, .int ps, .int ft, .int fk])), (sea, .inl (cI, 4, .inl se)), (pi, .inr (3, [.ref pia])), (pia, .inl (cI, 384, .inl px)), (cm, .inr (0, [.ref cm1, .ref cm2, .ref cm3])), (cm1, .inl (cI, 24, .inl lea)), (cm2, .inl (cI, 24, .inl upr)), (cm3, .inl (cI, 25, .inl ris)), (pd, .inr (2, [.ref pda, .int pl])), (pda, .inl (cC, 80, .inl tx)), (rd, .inr (4, [.ref pd, .int at_, .int kd, .ref rda])), (rda, .inl (cI, 7, .inl va))]) (w1 := (ws_things cI cC cZ cR th th1 th2 th3 th4 th5 th6 th7 th8 th9 r6.2.1 r6.2.2.1 r6.2.2.2.1 r6.2.2.2.2.1 r6.2.2.2.2.2.1 r7.1 r7.2.1 r7.2.2.1 r7.2.2.2.1 r7.2.2.2.2)) hP hD [3, 4, 5, 6, 7, 8, 9, 10, 11, 12] [0, 1, 2, 13, 14, 15, 16, 17, 18, 19, 20, 21, 22] rfl rfl (by decide) (by decide) hk1 hFc hP1 hD1
        have hP := hP.sub (ws' := (ws_main cI cC cZ cR mm sc sea th th1 th2 th3 th4 th5 th6 th7 th8 th9 pi pia cm cm1 cm2 cm3 pd pda rd rda hh sla se r6.2.1 r6.2.2.1 r6.2.2.2.1 r6.2.2.2.2.1 r6.2.2.2.2.2.1 r7.1 r7.2.1 r7.2.2.1 r7.2.2.2.1 r7.2.2.2.2 px tm ps ft fk lea upr ris pl tx at_ kd va)) [0, 1, 2, 13, 14, 15, 16, 17, 18, 19, 20, 21, 22, 3, 4, 5, 6, 7, 8, 9, 10, 11, 12] rfl
        have hD := hD.sub (ws' := (ws_main cI cC cZ cR mm sc sea th th1 th2 th3 th4 th5 th6 th7 th8 th9 pi pia cm cm1 cm2 cm3 pd pda rd rda hh sla se r6.2.1 r6.2.2.1 r6.2.2.2.1 r6.2.2.2.2.1 r6.2.2.2.2.2.1 r7.1 r7.2.1 r7.2.2.1 r7.2.2.2.1 r7.2.2.2.2 px tm ps ft fk lea upr ris pl tx at_ kd va)) [0, 1, 2, 13, 14, 15, 16, 17, 18, 19, 20, 21, 22, 3, 4, 5, 6, 7, 8, 9, 10, 11, 12] (by decide) rfl
        generalize H1 = H at hP hS ⊢
        refine lv_iconst (v := 0) hx hb dX7_carryOutThing_121 (by decide) ?_
        have e9 := Option.some.inj h
        subst e9
        rw [hQ]
        exact W.iret (v := 0) hx hb hr (fun t ht hW => ⟨⟨0, (), rfl, rfl, by rw [ht]; exact hP, hD⟩, hS.F ht⟩) hS.2.2 dX7_carryOutThing_122
      · replace h := br_n (not_not_intro c8) h
        refine lv_bipush (v := (-2)) hx hb dX7_carryOutThing_74 (by decide) ?_
        have e9 := Option.some.inj h
        subst e9
        rw [hQ]
        exact W.iret (v := (-2)) hx hb hr (fun t ht hW => ⟨⟨(-2), (), rfl, rfl, by rw [ht]; exact hP, hD⟩, hS.F ht⟩) hS.2.2 dX7_carryOutThing_76
  · replace h := br_n c10 h
    refine lv_iload hx hb dX7_carryOutThing_52 (lv_at hl 0 rfl) ?_
    have e9 := Option.some.inj h
    subst e9
    rw [hQ]
    exact W.iret (v := r3) hx hb hr (fun t ht hW => ⟨⟨r3, (), rfl, rfl, by rw [ht]; exact hP, hD⟩, hS.F ht⟩) hS.2.2 dX7_carryOutThing_54
-- LeaningLines.carryOutFlash
abbrev OUT_X7_carryOutFlash : Type := Int32 × Int32 × Int32
def f_X7_carryOutFlash (tm : Int32) (ft : Int32) (fk : Int32) (va : Nat → Int32) : Option OUT_X7_carryOutFlash :=
  gd 0 7 (bd (va (0 : Int32).toNatClampNeg) (fun x1 => gd 1 7 (bd (va (1 : Int32).toNatClampNeg) (fun x2 => bn (f_X7_errorOfFlash x1 x2) (fun r3 => (if ¬ r3 = 0 then some ((r3, ft, fk)) else bn (f_X5_setFlash tm x1 x2) (fun r4 => some ((r3, r4.1, r4.2)))))))))
theorem uX7_carryOutFlash_X7 : ∀ w ∈ wsX70, w ∈ wsX7_carryOutFlash := by decide +kernel
theorem kX7_carryOutFlash_1 : Cond.fieldLink RX7 46 "LeaningLines" "reader" "LLeaningLines$Reader;" ∈ wsX7_carryOutFlash := by decide +kernel
theorem uX7_carryOutFlash_X4 : ∀ w ∈ wsX40, w ∈ wsX7_carryOutFlash := by decide +kernel
theorem kX7_carryOutFlash_3 : Cond.fieldLink RX7 265 "LeaningLines$Reader" "values" "[I" ∈ wsX7_carryOutFlash := by decide +kernel
theorem kX7_carryOutFlash_4 : Cond.fieldLink RX7 10 "LeaningLines" "scene" "LLeaningLines$Scene;" ∈ wsX7_carryOutFlash := by decide +kernel
abbrev R_X7_carryOutFlash : Room := { frames := 2, cells := 0, slots := 0, locals := 44 }
set_option maxHeartbeats 4000000 in
set_option maxRecDepth 100000 in
theorem m_X7_carryOutFlash (l : Launch) (D : va_G) (cI cC cZ cR : ClassId) (mm sc sea th th1 th2 th3 th4 th5 th6 th7 th8 th9 pi pia cm cm1 cm2 cm3 pd pda rd rda hh sla : Nat) (sz : Nat) (se : Nat → Int32) (mn : Int32) (ln : Nat → Int32) (hi : Nat → Int32) (wi : Nat → Int32) (br : Nat → Int32) (sp : Nat → Int32) (si : Nat → Int32) (le : Nat → Int32) (un : Nat → Int32) (ul : Nat → Int32) (px : Nat → Int32) (tm : Int32) (ps : Int32) (ft : Int32) (fk : Int32) (lea : Nat → Int32) (upr : Nat → Int32) (ris : Nat → Int32) (pl : Int32) (tx : Nat → Int32) (at_ : Int32) (kd : Int32) (va : Nat → Int32)     (r : OUT_X7_carryOutFlash) (hf : f_X7_carryOutFlash tm ft fk va = some r) : Met l yX7_carryOutFlash wsX7_carryOutFlash R_X7_carryOutFlash (cPc D cI cC cZ cR [.ref mm] sz (ws_main cI cC cZ cR mm sc sea th th1 th2 th3 th4 th5 th6 th7 th8 th9 pi pia cm cm1 cm2 cm3 pd pda rd rda hh sla se mn ln hi wi br sp si le un ul px tm ps ft fk lea upr ris pl tx at_ kd va)) (cQi D (ws_main cI cC cZ cR mm sc sea th th1 th2 th3 th4 th5 th6 th7 th8 th9 pi pia cm cm1 cm2 cm3 pd pda rd rda hh sla se mn ln hi wi br sp si le un ul px tm ps r.2.1 r.2.2 lea upr ris pl tx at_ kd va) (va_A (ws_main cI cC cZ cR mm sc sea th th1 th2 th3 th4 th5 th6 th7 th8 th9 pi pia cm cm1 cm2 cm3 pd pda rd rda hh sla se mn ln hi wi br sp si le un ul px tm ps ft fk lea upr ris pl tx at_ kd va) sz) r.1) 0 0 (va_A (ws_main cI cC cZ cR mm sc sea th th1 th2 th3 th4 th5 th6 th7 th8 th9 pi pia cm cm1 cm2 cm3 pd pda rd rda hh sla se mn ln hi wi br sp si le un ul px tm ps ft fk lea upr ris pl tx at_ kd va) sz) := by
  refine Met.ofW (cc := cX7_carryOutFlash) (maxL := 4) (ret := (some .int)) (by decide) rfl ?_
  intro p e s m args below meth c s₁ B hml hv
  obtain ⟨rfl, hsz, hP, hK, hD0⟩ := hv
  have hx := B.exec
  have hb := B.bytes
  have hr := B.returns
  have hts := atoms_spec (ws := wsX7_carryOutFlash) B.pre
  have hown : s.vm.findClass RX7 = some m.cls := findClass_of_methodNamed B.named
  have hlocks := B.notSynchronized
  subst hsz
  have hD := hD0.self (sz := s.heap.size)
  generalize hAe : va_A (ws_main cI cC cZ cR mm sc sea th th1 th2 th3 th4 th5 th6 th7 th8 th9 pi pia cm cm1 cm2 cm3 pd pda rd rda hh sla se mn ln hi wi br sp si le un ul px tm ps ft fk lea upr ris pl tx at_ kd va) s.heap.size = A at hD ⊢
  skip
  have hA : ∀ q : Nat, s.heap.size ≤ q → A q := fun q h => by rw [← hAe]; exact Or.inr h
  have hS : va_S A s.heap s.heap [] := va_S.rf
  have hl := lv_entry ([.ref mm]) (n := 4) (Nat.le_of_ble_eq_true rfl)
  rw [lg_entry_eq]
  generalize (lg_sl ([.ref mm]) ++ List.replicate (4 - (lg_sl ([.ref mm])).length) Slot.unset).toArray = ls at hl ⊢
  have hl : lv_has ls 4 [(0, .ref mm)] := hl
  refine W_absQ (fun Q hQ => ?_)
  refine W.eq (g2 := F0 m 0 ls []) rfl ?_
  have h := hf
  unfold f_X7_carryOutFlash at h
  refine lv_aload_n hx hb dX7_carryOutFlash_0 rfl (lv_at hl 0 rfl) ?_
  refine va_get (D := D) (ci := 7) (v := .ref rd) (C := RX7) (T := TX7) (N := 6) hx hb hts uX7_carryOutFlash_X7 hown hK.1 hP 0 rfl rfl 5 (by decide) (hts _ kX7_carryOutFlash_1) (fun _ h9 => h9) rfl dX7_carryOutFlash_1 ?_
  refine va_get (D := D) (ci := 4) (v := .ref rda) (C := RX4) (T := TX4) (N := 4) hx hb hts uX7_carryOutFlash_X4 hown hK.1 hP 21 rfl rfl 3 (by decide) (hts _ kX7_carryOutFlash_3) (fun _ h9 => h9) rfl dX7_carryOutFlash_4 ?_
  refine lv_iconst (v := 0) hx hb dX7_carryOutFlash_7 (by decide) ?_
  obtain ⟨hin, h⟩ := gd_sp h
  refine va_iald (D := D) hx hb hK.1 hP 22 0 rfl rfl hin dX7_carryOutFlash_8 ?_
  refine lv_topi (fun x1 ex1 => ?_)
  replace h := bd_s2 h ex1
  refine lv_istore_n (lv' := [(1, .int x1), (0, .ref mm)]) hx hb dX7_carryOutFlash_9 rfl hl (by decide) rfl (fun ls hl => ?_)
  refine lv_aload_n hx hb dX7_carryOutFlash_10 rfl (lv_at hl 1 rfl) ?_
  refine va_get (D := D) (ci := 7) (v := .ref rd) (C := RX7) (T := TX7) (N := 6) hx hb hts uX7_carryOutFlash_X7 hown hK.1 hP 0 rfl rfl 5 (by decide) (hts _ kX7_carryOutFlash_1) (fun _ h9 => h9) rfl dX7_carryOutFlash_11 ?_
  refine va_get (D := D) (ci := 4) (v := .ref rda) (C := RX4) (T := TX4) (N := 4) hx hb hts uX7_carryOutFlash_X4 hown hK.1 hP 21 rfl rfl 3 (by decide) (hts _ kX7_carryOutFlash_3) (fun _ h9 => h9) rfl dX7_carryOutFlash_14 ?_
  refine lv_iconst (v := 1) hx hb dX7_carryOutFlash_17 (by decide) ?_
  obtain ⟨hin, h⟩ := gd_sp h
  refine va_iald (D := D) hx hb hK.1 hP 22 0 rfl rfl hin dX7_carryOutFlash_18 ?_
  refine lv_topi (fun x2 ex2 => ?_)
  replace h := bd_s2 h ex2
  refine lv_istore_n (lv' := [(2, .int x2), (1, .int x1), (0, .ref mm)]) hx hb dX7_carryOutFlash_19 rfl hl (by decide) rfl (fun ls hl => ?_)
  refine lv_aload_n hx hb dX7_carryOutFlash_20 rfl (lv_at hl 2 rfl) ?_
  refine lv_iload_n hx hb dX7_carryOutFlash_21 rfl (lv_at hl 1 rfl) ?_
  refine lv_iload_n hx hb dX7_carryOutFlash_22 rfl (lv_at hl 0 rfl) ?_
  obtain ⟨r3, hcr3, h⟩ := bn_sp h
  have hPc := hP.sub (ws' := (ws_main cI cC cZ cR mm sc sea th th1 th2 th3 th4 th5 th6 th7 th8 th9 pi pia cm cm1 cm2 cm3 pd pda rd rda hh sla se mn ln hi wi br sp si le un ul px tm ps ft fk lea upr ris pl tx at_ kd va)) [0, 1, 2, 3, 4, 5, 6, 7, 8, 9, 10, 11, 12, 13, 14, 15, 16, 17, 18, 19, 20, 21, 22] rfl
  have hDc := hD.sub (ws' := (ws_main cI cC cZ cR mm sc sea th th1 th2 th3 th4 th5 th6 th7 th8 th9 pi pia cm cm1 cm2 cm3 pd pda rd rda hh sla se mn ln hi wi br sp si le un ul px tm ps ft fk lea upr ris pl tx at_ kd va)) [0, 1, 2, 3, 4, 5, 6, 7, 8, 9, 10, 11, 12, 13, 14, 15, 16, 17, 18, 19, 20, 21, 22] (by decide) rfl
  have hFc := va_free (wc := (ws_main cI cC cZ cR mm sc sea th th1 th2 th3 th4 th5 th6 th7 th8 th9 pi pia cm cm1 cm2 cm3 pd pda rd rda hh sla se mn ln hi wi br sp si le un ul px tm ps ft fk lea upr ris pl tx at_ kd va)) hD hS hA [0, 1, 2, 3, 4, 5, 6, 7, 8, 9, 10, 11, 12, 13, 14, 15, 16, 17, 18, 19, 20, 21, 22] rfl
  refine va_calli (va_runV (As := [.int x1, .int x2]) (rest := []) ⟨hx, hb, hml, hown, hts⟩ (m_X7_errorOfFlash l D cI cC cZ cR mm sc sea th th1 th2 th3 th4 th5 th6 th7 th8 th9 pi pia cm cm1 cm2 cm3 pd pda rd rda hh sla _ se mn ln hi wi br sp si le un ul px tm ps ft fk lea upr ris pl tx at_ kd va x1 x2   r3 hcr3) (cwV 2 hts gX7_carryOutFlash_X7_errorOfFlash rfl rfl rfl (by decide +kernel) ⟨Nat.le_of_ble_eq_true rfl, Nat.le_of_ble_eq_true rfl⟩) (cPc_pv hPc hK hDc (ci := 7) (q0 := 0) rfl rfl) rfl rfl hl.1 rfl (lv_room (Nat.le_of_ble_eq_true rfl)) dX7_carryOutFlash_23 ⟨Nat.le_of_ble_eq_true rfl, Nat.le_of_ble_eq_true rfl⟩) hS (fun q _ h => hFc q h) hFc (fun xq u t H1 locs ht hvm hw hB hz1 hk1 hS => ?_)
  rw [hw]
  obtain ⟨hP1, hD1⟩ := hB
  rw [ht] at hP1
  obtain ⟨hP, hD⟩ := va_join (wr := []) (w1 := (ws_main cI cC cZ cR mm sc sea th th1 th2 th3 th4 th5 th6 th7 th8 th9 pi pia cm cm1 cm2 cm3 pd pda rd rda hh sla se mn ln hi wi br sp si le un ul px tm ps ft fk lea upr ris pl tx at_ kd va)) hP hD [0, 1, 2, 3, 4, 5, 6, 7, 8, 9, 10, 11, 12, 13, 14, 15, 16, 17, 18, 19, 20, 21, 22] [] rfl rfl (by decide) (by decide) hk1 hFc hP1 hD1
  generalize H1 = H at hP hS ⊢
  have hP : va_P D vwCl (ws_main cI cC cZ cR mm sc sea th th1 th2 th3 th4 th5 th6 th7 th8 th9 pi pia cm cm1 cm2 cm3 pd pda rd rda hh sla se mn ln hi wi br sp si le un ul px tm ps ft fk lea upr ris pl tx at_ kd va) H := hP
  have hD : va_D A (ws_main cI cC cZ cR mm sc sea th th1 th2 th3 th4 th5 th6 th7 th8 th9 pi pia cm cm1 cm2 cm3 pd pda rd rda hh sla se mn ln hi wi br sp si le un ul px tm ps ft fk lea upr ris pl tx at_ kd va) := hD
  refine lv_istore_n (lv' := [(3, .int r3), (2, .int x2), (1, .int x1), (0, .ref mm)]) hx hb dX7_carryOutFlash_26 rfl hl (by decide) rfl (fun ls hl => ?_)
  refine lv_iload_n hx hb dX7_carryOutFlash_27 rfl (lv_at hl 0 rfl) ?_
  refine lv_if_ne (tgt := 40) hx hb dX7_carryOutFlash_28 (by decide) (fun c5 => ?_) (fun c5 => ?_)
  · replace h := br_p c5 h
    refine lv_iload_n hx hb dX7_carryOutFlash_40 rfl (lv_at hl 0 rfl) ?_
    have e9 := Option.some.inj h
    subst e9
    rw [hQ]
    exact W.iret (v := r3) hx hb hr (fun t ht hW => ⟨⟨r3, (), rfl, rfl, by rw [ht]; exact hP, hD⟩, hS.F ht⟩) hS.2.2 dX7_carryOutFlash_41
  · replace h := br_n (not_not_intro c5) h
    refine lv_aload_n hx hb dX7_carryOutFlash_31 rfl (lv_at hl 3 rfl) ?_
    refine va_get (D := D) (ci := 7) (v := .ref sc) (C := RX7) (T := TX7) (N := 6) hx hb hts uX7_carryOutFlash_X7 hown hK.1 hP 0 rfl rfl 0 (by decide) (hts _ kX7_carryOutFlash_4) (fun _ h9 => h9) rfl dX7_carryOutFlash_32 ?_
    refine lv_iload_n hx hb dX7_carryOutFlash_35 rfl (lv_at hl 2 rfl) ?_
    refine lv_iload_n hx hb dX7_carryOutFlash_36 rfl (lv_at hl 1 rfl) ?_
    obtain ⟨r4, hcr4, h⟩ := bn_sp h
    have hPc := hP.sub (ws' := (ws_scene cI cC cZ cR sc sea th th1 th2 th3 th4 th5 th6 th7 th8 th9 pi pia se mn ln hi wi br sp si le un ul px tm ps ft fk)) [1, 2, 3, 4, 5, 6, 7, 8, 9, 10, 11, 12, 13, 14] rfl
    have hDc := hD.sub (ws' := (ws_scene cI cC cZ cR sc sea th th1 th2 th3 th4 th5 th6 th7 th8 th9 pi pia se mn ln hi wi br sp si le un ul px tm ps ft fk)) [1, 2, 3, 4, 5, 6, 7, 8, 9, 10, 11, 12, 13, 14] (by decide) rfl
    have hFc := va_free (wc := (ws_scene cI cC cZ cR sc sea th th1 th2 th3 th4 th5 th6 th7 th8 th9 pi pia se mn ln hi wi br sp si le un ul px tm ps ft fk)) hD hS hA [1, 2, 3, 4, 5, 6, 7, 8, 9, 10, 11, 12, 13, 14] rfl
    refine va_callv (va_runV (As := [.int x1, .int x2]) (rest := []) ⟨hx, hb, hml, hown, hts⟩ (m_X5_setFlash l D cI cC cZ cR sc sea th th1 th2 th3 th4 th5 th6 th7 th8 th9 pi pia _ se mn ln hi wi br sp si le un ul px tm ps ft fk x1 x2   r4 hcr4) (cwV 2 hts gX7_carryOutFlash_X5_setFlash rfl rfl rfl (by decide +kernel) ⟨Nat.le_of_ble_eq_true rfl, Nat.le_of_ble_eq_true rfl⟩) (cPc_pv hPc hK hDc (ci := 5) (q0 := 0) rfl rfl) rfl rfl hl.1 rfl (lv_room (Nat.le_of_ble_eq_true rfl)) dX7_carryOutFlash_37 ⟨Nat.le_of_ble_eq_true rfl, Nat.le_of_ble_eq_true rfl⟩) hS (fun q _ h => hFc q h) hFc (fun u t H1 locs ht hvm hw hB hz1 hk1 hS => ?_)
    obtain ⟨hP1, hD1⟩ := hB
    rw [ht] at hP1
    obtain ⟨hP, hD⟩ := va_join (wr := [(mm, .inr (7, [.ref sc, .ref cm, .ref hh, .ref sla, .ref pd, .ref rd])), (cm, .inr (0, [.ref cm1, .ref cm2, .ref cm3])), (cm1, .inl (cI, 24, .inl lea)), (cm2, .inl (cI, 24, .inl upr)), (cm3, .inl (cI, 25, .inl ris)), (pd, .inr (2, [.ref pda, .int pl])), (pda, .inl (cC, 80, .inl tx)), (rd, .inr (4, [.ref pd, .int at_, .int kd, .ref rda])), (rda, .inl (cI, 7, .inl va))]) (w1 := (ws_scene cI cC cZ cR sc sea th th1 th2 th3 th4 th5 th6 th7 th8 th9 pi pia se mn ln hi wi br sp si le un ul px tm ps r4.1 r4.2)) hP hD [1, 2, 3, 4, 5, 6, 7, 8, 9, 10, 11, 12, 13, 14] [0, 15, 16, 17, 18, 19, 20, 21, 22] rfl rfl (by decide) (by decide) hk1 hFc hP1 hD1
    have hP := hP.sub (ws' := (ws_main cI cC cZ cR mm sc sea th th1 th2 th3 th4 th5 th6 th7 th8 th9 pi pia cm cm1 cm2 cm3 pd pda rd rda hh sla se mn ln hi wi br sp si le un ul px tm ps r4.1 r4.2 lea upr ris pl tx at_ kd va)) [0, 9, 10, 11, 12, 13, 14, 15, 16, 17, 18, 19, 20, 21, 22, 1, 2, 3, 4, 5, 6, 7, 8] rfl
    have hD := hD.sub (ws' := (ws_main cI cC cZ cR mm sc sea th th1 th2 th3 th4 th5 th6 th7 th8 th9 pi pia cm cm1 cm2 cm3 pd pda rd rda hh sla se mn ln hi wi br sp si le un ul px tm ps r4.1 r4.2 lea upr ris pl tx at_ kd va)) [0, 9, 10, 11, 12, 13, 14, 15, 16, 17, 18, 19, 20, 21, 22, 1, 2, 3, 4, 5, 6, 7, 8] (by decide) rfl
    generalize H1 = H at hP hS ⊢
    refine lv_iload_n hx hb dX7_carryOutFlash_40 rfl (lv_at hl 0 rfl) ?_
    have e9 := Option.some.inj h
    subst e9
    rw [hQ]
    exact W.iret (v := r3) hx hb hr (fun t ht hW => ⟨⟨r3, (), rfl, rfl, by rw [ht]; exact hP, hD⟩, hS.F ht⟩) hS.2.2 dX7_carryOutFlash_41
-- LeaningLines.carryOutPass
abbrev OUT_X7_carryOutPass : Type := Int32 × Int32
def f_X7_carryOutPass (tm : Int32) (va : Nat → Int32) : Option OUT_X7_carryOutPass :=
  gd 0 7 (bd (va (0 : Int32).toNatClampNeg) (fun x1 => bn (f_X7_errorOfPass tm x1) (fun r2 => (if ¬ r2 = 0 then some ((r2, tm)) else some ((r2, tm + x1))))))
theorem uX7_carryOutPass_X7 : ∀ w ∈ wsX70, w ∈ wsX7_carryOutPass := by decide +kernel
theorem kX7_carryOutPass_1 : Cond.fieldLink RX7 46 "LeaningLines" "reader" "LLeaningLines$Reader;" ∈ wsX7_carryOutPass := by decide +kernel
theorem uX7_carryOutPass_X4 : ∀ w ∈ wsX40, w ∈ wsX7_carryOutPass := by decide +kernel
theorem kX7_carryOutPass_3 : Cond.fieldLink RX7 265 "LeaningLines$Reader" "values" "[I" ∈ wsX7_carryOutPass := by decide +kernel
theorem kX7_carryOutPass_4 : Cond.fieldLink RX7 10 "LeaningLines" "scene" "LLeaningLines$Scene;" ∈ wsX7_carryOutPass := by decide +kernel
theorem uX7_carryOutPass_X5 : ∀ w ∈ wsX50, w ∈ wsX7_carryOutPass := by decide +kernel
theorem kX7_carryOutPass_6 : Cond.fieldLink RX7 76 "LeaningLines$Scene" "time" "I" ∈ wsX7_carryOutPass := by decide +kernel
abbrev R_X7_carryOutPass : Room := { frames := 2, cells := 0, slots := 0, locals := 43 }
set_option maxHeartbeats 4000000 in
set_option maxRecDepth 100000 in
theorem m_X7_carryOutPass (l : Launch) (D : va_G) (cI cC cZ cR : ClassId) (mm sc sea th th1 th2 th3 th4 th5 th6 th7 th8 th9 pi pia cm cm1 cm2 cm3 pd pda rd rda hh sla : Nat) (sz : Nat) (se : Nat → Int32) (mn : Int32) (ln : Nat → Int32) (hi : Nat → Int32) (wi : Nat → Int32) (br : Nat → Int32) (sp : Nat → Int32) (si : Nat → Int32) (le : Nat → Int32) (un : Nat → Int32) (ul : Nat → Int32) (px : Nat → Int32) (tm : Int32) (ps : Int32) (ft : Int32) (fk : Int32) (lea : Nat → Int32) (upr : Nat → Int32) (ris : Nat → Int32) (pl : Int32) (tx : Nat → Int32) (at_ : Int32) (kd : Int32) (va : Nat → Int32)     (r : OUT_X7_carryOutPass) (hf : f_X7_carryOutPass tm va = some r) : Met l yX7_carryOutPass wsX7_carryOutPass R_X7_carryOutPass (cPc D cI cC cZ cR [.ref mm] sz (ws_main cI cC cZ cR mm sc sea th th1 th2 th3 th4 th5 th6 th7 th8 th9 pi pia cm cm1 cm2 cm3 pd pda rd rda hh sla se mn ln hi wi br sp si le un ul px tm ps ft fk lea upr ris pl tx at_ kd va)) (cQi D (ws_main cI cC cZ cR mm sc sea th th1 th2 th3 th4 th5 th6 th7 th8 th9 pi pia cm cm1 cm2 cm3 pd pda rd rda hh sla se mn ln hi wi br sp si le un ul px r.2 ps ft fk lea upr ris pl tx at_ kd va) (va_A (ws_main cI cC cZ cR mm sc sea th th1 th2 th3 th4 th5 th6 th7 th8 th9 pi pia cm cm1 cm2 cm3 pd pda rd rda hh sla se mn ln hi wi br sp si le un ul px tm ps ft fk lea upr ris pl tx at_ kd va) sz) r.1) 0 0 (va_A (ws_main cI cC cZ cR mm sc sea th th1 th2 th3 th4 th5 th6 th7 th8 th9 pi pia cm cm1 cm2 cm3 pd pda rd rda hh sla se mn ln hi wi br sp si le un ul px tm ps ft fk lea upr ris pl tx at_ kd va) sz) := by
  refine Met.ofW (cc := cX7_carryOutPass) (maxL := 3) (ret := (some .int)) (by decide) rfl ?_
  intro p e s m args below meth c s₁ B hml hv
  obtain ⟨rfl, hsz, hP, hK, hD0⟩ := hv
  have hx := B.exec
  have hb := B.bytes
  have hr := B.returns
  have hts := atoms_spec (ws := wsX7_carryOutPass) B.pre
  have hown : s.vm.findClass RX7 = some m.cls := findClass_of_methodNamed B.named
  have hlocks := B.notSynchronized
  subst hsz
  have hD := hD0.self (sz := s.heap.size)
  generalize hAe : va_A (ws_main cI cC cZ cR mm sc sea th th1 th2 th3 th4 th5 th6 th7 th8 th9 pi pia cm cm1 cm2 cm3 pd pda rd rda hh sla se mn ln hi wi br sp si le un ul px tm ps ft fk lea upr ris pl tx at_ kd va) s.heap.size = A at hD ⊢
  skip
  have hA : ∀ q : Nat, s.heap.size ≤ q → A q := fun q h => by rw [← hAe]; exact Or.inr h
  have hS : va_S A s.heap s.heap [] := va_S.rf
  have hl := lv_entry ([.ref mm]) (n := 3) (Nat.le_of_ble_eq_true rfl)
  rw [lg_entry_eq]
  generalize (lg_sl ([.ref mm]) ++ List.replicate (3 - (lg_sl ([.ref mm])).length) Slot.unset).toArray = ls at hl ⊢
  have hl : lv_has ls 3 [(0, .ref mm)] := hl
  refine W_absQ (fun Q hQ => ?_)
  refine W.eq (g2 := F0 m 0 ls []) rfl ?_
  have h := hf
  unfold f_X7_carryOutPass at h
  refine lv_aload_n hx hb dX7_carryOutPass_0 rfl (lv_at hl 0 rfl) ?_
  refine va_get (D := D) (ci := 7) (v := .ref rd) (C := RX7) (T := TX7) (N := 6) hx hb hts uX7_carryOutPass_X7 hown hK.1 hP 0 rfl rfl 5 (by decide) (hts _ kX7_carryOutPass_1) (fun _ h9 => h9) rfl dX7_carryOutPass_1 ?_
  refine va_get (D := D) (ci := 4) (v := .ref rda) (C := RX4) (T := TX4) (N := 4) hx hb hts uX7_carryOutPass_X4 hown hK.1 hP 21 rfl rfl 3 (by decide) (hts _ kX7_carryOutPass_3) (fun _ h9 => h9) rfl dX7_carryOutPass_4 ?_
  refine lv_iconst (v := 0) hx hb dX7_carryOutPass_7 (by decide) ?_
  obtain ⟨hin, h⟩ := gd_sp h
  refine va_iald (D := D) hx hb hK.1 hP 22 0 rfl rfl hin dX7_carryOutPass_8 ?_
  refine lv_topi (fun x1 ex1 => ?_)
  replace h := bd_s2 h ex1
  refine lv_istore_n (lv' := [(1, .int x1), (0, .ref mm)]) hx hb dX7_carryOutPass_9 rfl hl (by decide) rfl (fun ls hl => ?_)
  refine lv_aload_n hx hb dX7_carryOutPass_10 rfl (lv_at hl 1 rfl) ?_
  refine lv_iload_n hx hb dX7_carryOutPass_11 rfl (lv_at hl 0 rfl) ?_
  obtain ⟨r2, hcr2, h⟩ := bn_sp h
  have hPc := hP.sub (ws' := (ws_main cI cC cZ cR mm sc sea th th1 th2 th3 th4 th5 th6 th7 th8 th9 pi pia cm cm1 cm2 cm3 pd pda rd rda hh sla se mn ln hi wi br sp si le un ul px tm ps ft fk lea upr ris pl tx at_ kd va)) [0, 1, 2, 3, 4, 5, 6, 7, 8, 9, 10, 11, 12, 13, 14, 15, 16, 17, 18, 19, 20, 21, 22] rfl
  have hDc := hD.sub (ws' := (ws_main cI cC cZ cR mm sc sea th th1 th2 th3 th4 th5 th6 th7 th8 th9 pi pia cm cm1 cm2 cm3 pd pda rd rda hh sla se mn ln hi wi br sp si le un ul px tm ps ft fk lea upr ris pl tx at_ kd va)) [0, 1, 2, 3, 4, 5, 6, 7, 8, 9, 10, 11, 12, 13, 14, 15, 16, 17, 18, 19, 20, 21, 22] (by decide) rfl
  have hFc := va_free (wc := (ws_main cI cC cZ cR mm sc sea th th1 th2 th3 th4 th5 th6 th7 th8 th9 pi pia cm cm1 cm2 cm3 pd pda rd rda hh sla se mn ln hi wi br sp si le un ul px tm ps ft fk lea upr ris pl tx at_ kd va)) hD hS hA [0, 1, 2, 3, 4, 5, 6, 7, 8, 9, 10, 11, 12, 13, 14, 15, 16, 17, 18, 19, 20, 21, 22] rfl
  refine va_calli (va_runV (As := [.int x1]) (rest := []) ⟨hx, hb, hml, hown, hts⟩ (m_X7_errorOfPass l D cI cC cZ cR mm sc sea th th1 th2 th3 th4 th5 th6 th7 th8 th9 pi pia cm cm1 cm2 cm3 pd pda rd rda hh sla _ se mn ln hi wi br sp si le un ul px tm ps ft fk lea upr ris pl tx at_ kd va x1   r2 hcr2) (cwV 1 hts gX7_carryOutPass_X7_errorOfPass rfl rfl rfl (by decide +kernel) ⟨Nat.le_of_ble_eq_true rfl, Nat.le_of_ble_eq_true rfl⟩) (cPc_pv hPc hK hDc (ci := 7) (q0 := 0) rfl rfl) rfl rfl hl.1 rfl (lv_room (Nat.le_of_ble_eq_true rfl)) dX7_carryOutPass_12 ⟨Nat.le_of_ble_eq_true rfl, Nat.le_of_ble_eq_true rfl⟩) hS (fun q _ h => hFc q h) hFc (fun xq u t H1 locs ht hvm hw hB hz1 hk1 hS => ?_)
  rw [hw]
  obtain ⟨hP1, hD1⟩ := hB
  rw [ht] at hP1
  obtain ⟨hP, hD⟩ := va_join (wr := []) (w1 := (ws_main cI cC cZ cR mm sc sea th th1 th2 th3 th4 th5 th6 th7 th8 th9 pi pia cm cm1 cm2 cm3 pd pda rd rda hh sla se mn ln hi wi br sp si le un ul px tm ps ft fk lea upr ris pl tx at_ kd va)) hP hD [0, 1, 2, 3, 4, 5, 6, 7, 8, 9, 10, 11, 12, 13, 14, 15, 16, 17, 18, 19, 20, 21, 22] [] rfl rfl (by decide) (by decide) hk1 hFc hP1 hD1
  generalize H1 = H at hP hS ⊢
  have hP : va_P D vwCl (ws_main cI cC cZ cR mm sc sea th th1 th2 th3 th4 th5 th6 th7 th8 th9 pi pia cm cm1 cm2 cm3 pd pda rd rda hh sla se mn ln hi wi br sp si le un ul px tm ps ft fk lea upr ris pl tx at_ kd va) H := hP
  have hD : va_D A (ws_main cI cC cZ cR mm sc sea th th1 th2 th3 th4 th5 th6 th7 th8 th9 pi pia cm cm1 cm2 cm3 pd pda rd rda hh sla se mn ln hi wi br sp si le un ul px tm ps ft fk lea upr ris pl tx at_ kd va) := hD
  refine lv_istore_n (lv' := [(2, .int r2), (1, .int x1), (0, .ref mm)]) hx hb dX7_carryOutPass_15 rfl hl (by decide) rfl (fun ls hl => ?_)
  refine lv_iload_n hx hb dX7_carryOutPass_16 rfl (lv_at hl 0 rfl) ?_
  refine lv_if_ne (tgt := 33) hx hb dX7_carryOutPass_17 (by decide) (fun c3 => ?_) (fun c3 => ?_)
  · replace h := br_p c3 h
    refine lv_iload_n hx hb dX7_carryOutPass_33 rfl (lv_at hl 0 rfl) ?_
    have e9 := Option.some.inj h
    subst e9
    rw [hQ]
    exact W.iret (v := r2) hx hb hr (fun t ht hW => ⟨⟨r2, (), rfl, rfl, by rw [ht]; exact hP, hD⟩, hS.F ht⟩) hS.2.2 dX7_carryOutPass_34
  · replace h := br_n (not_not_intro c3) h
    refine lv_aload_n hx hb dX7_carryOutPass_20 rfl (lv_at hl 2 rfl) ?_
    refine va_get (D := D) (ci := 7) (v := .ref sc) (C := RX7) (T := TX7) (N := 6) hx hb hts uX7_carryOutPass_X7 hown hK.1 hP 0 rfl rfl 0 (by decide) (hts _ kX7_carryOutPass_4) (fun _ h9 => h9) rfl dX7_carryOutPass_21 ?_
    refine lv_dup hx hb dX7_carryOutPass_24 rfl ?_
    refine va_get (D := D) (ci := 5) (v := .int tm) (C := RX5) (T := TX5) (N := 7) hx hb hts uX7_carryOutPass_X5 hown hK.1 hP 1 rfl rfl 3 (by decide) (hts _ kX7_carryOutPass_6) (fun _ h9 => h9) rfl dX7_carryOutPass_25 ?_
    refine lv_iload_n hx hb dX7_carryOutPass_28 rfl (lv_at hl 1 rfl) ?_
    refine lv_iadd hx hb dX7_carryOutPass_29 ?_
    refine va_put (D := D) (ci := 5) (v := .int (tm + x1)) (ty := .int) (C := RX5) (T := TX5) (N := 7) hx hb hts uX7_carryOutPass_X5 tyX5 tyX5_ok nmX5 hown hK.1 hP hD hS 1 rfl rfl 3 (by decide) (hts _ kX7_carryOutPass_6) (fun _ h9 => h9) rfl (by decide +kernel) rfl rfl (Nat.le_of_ble_eq_true rfl) dX7_carryOutPass_30 (fun H locs hP hD hS => ?_)
    have hP : va_P D vwCl (ws_main cI cC cZ cR mm sc sea th th1 th2 th3 th4 th5 th6 th7 th8 th9 pi pia cm cm1 cm2 cm3 pd pda rd rda hh sla se mn ln hi wi br sp si le un ul px (tm + x1) ps ft fk lea upr ris pl tx at_ kd va) H := hP
    have hD : va_D A (ws_main cI cC cZ cR mm sc sea th th1 th2 th3 th4 th5 th6 th7 th8 th9 pi pia cm cm1 cm2 cm3 pd pda rd rda hh sla se mn ln hi wi br sp si le un ul px (tm + x1) ps ft fk lea upr ris pl tx at_ kd va) := hD
    refine lv_iload_n hx hb dX7_carryOutPass_33 rfl (lv_at hl 0 rfl) ?_
    have e9 := Option.some.inj h
    subst e9
    rw [hQ]
    exact W.iret (v := r2) hx hb hr (fun t ht hW => ⟨⟨r2, (), rfl, rfl, by rw [ht]; exact hP, hD⟩, hS.F ht⟩) hS.2.2 dX7_carryOutPass_34
-- LeaningLines.carryOutOrder
abbrev OUT_X7_carryOutOrder : Type := Int32 × Int32 × Int32 × Int32 × Int32 × Int32 × (Nat → Int32) × (Nat → Int32) × (Nat → Int32) × (Nat → Int32) × (Nat → Int32) × (Nat → Int32) × (Nat → Int32) × (Nat → Int32) × (Nat → Int32) × (Nat → Int32) × (Nat → Int32) × (Nat → Int32)
def f_X7_carryOutOrder (se : Nat → Int32) (mn : Int32) (ln : Nat → Int32) (hi : Nat → Int32) (wi : Nat → Int32) (br : Nat → Int32) (sp : Nat → Int32) (si : Nat → Int32) (le : Nat → Int32) (un : Nat → Int32) (ul : Nat → Int32) (px : Nat → Int32) (tm : Int32) (ps : Int32) (ft : Int32) (fk : Int32) (lea : Nat → Int32) (ris : Nat → Int32) (kd : Int32) (va : Nat → Int32) : Option OUT_X7_carryOutOrder :=
  (if ¬ kd = 103 then (if ¬ kd = 102 then (if ¬ kd = 119 then bn (f_X7_errorOfShoot se tm) (fun r1 => (if ¬ r1 = 0 then some ((r1, tm, ps, ft, fk, mn, ln, hi, wi, br, sp, si, le, un, ul, px, lea, ris)) else bn (f_X0_takePicture lea ris se mn ln hi wi br sp si le un ul px tm ps ft fk) (fun r2 => some ((r1, r2.2.2.1, r2.2.2.2.1, ft, fk, mn, ln, hi, wi, br, sp, si, le, un, ul, r2.2.2.2.2, r2.1, r2.2.1))))) else bn (f_X7_carryOutPass tm va) (fun r4 => some ((r4.1, r4.2, ps, ft, fk, mn, ln, hi, wi, br, sp, si, le, un, ul, px, lea, ris)))) else bn (f_X7_carryOutFlash tm ft fk va) (fun r6 => some ((r6.1, tm, ps, r6.2.1, r6.2.2, mn, ln, hi, wi, br, sp, si, le, un, ul, px, lea, ris)))) else bn (f_X7_carryOutThing mn ln hi wi br sp si le un ul tm va) (fun r8 => some ((r8.1, tm, ps, ft, fk, r8.2.1, r8.2.2.1, r8.2.2.2.1, r8.2.2.2.2.1, r8.2.2.2.2.2.1, r8.2.2.2.2.2.2.1, r8.2.2.2.2.2.2.2.1, r8.2.2.2.2.2.2.2.2.1, r8.2.2.2.2.2.2.2.2.2.1, r8.2.2.2.2.2.2.2.2.2.2, px, lea, ris))))
theorem uX7_carryOutOrder_X7 : ∀ w ∈ wsX70, w ∈ wsX7_carryOutOrder := by decide +kernel
theorem kX7_carryOutOrder_1 : Cond.fieldLink RX7 46 "LeaningLines" "reader" "LLeaningLines$Reader;" ∈ wsX7_carryOutOrder := by decide +kernel
theorem uX7_carryOutOrder_X4 : ∀ w ∈ wsX40, w ∈ wsX7_carryOutOrder := by decide +kernel
theorem kX7_carryOutOrder_3 : Cond.fieldLink RX7 252 "LeaningLines$Reader" "kind" "C" ∈ wsX7_carryOutOrder := by decide +kernel
theorem kX7_carryOutOrder_4 : Cond.fieldLink RX7 19 "LeaningLines" "camera" "LLeaningLines$Camera;" ∈ wsX7_carryOutOrder := by decide +kernel
theorem kX7_carryOutOrder_5 : Cond.fieldLink RX7 10 "LeaningLines" "scene" "LLeaningLines$Scene;" ∈ wsX7_carryOutOrder := by decide +kernel
abbrev R_X7_carryOutOrder : Room := { frames := 5, cells := 0, slots := 0, locals := 121 }
set_option maxHeartbeats 4000000 in
set_option maxRecDepth 100000 in
theorem m_X7_carryOutOrder (l : Launch) (D : va_G) (cI cC cZ cR : ClassId) (mm sc sea th th1 th2 th3 th4 th5 th6 th7 th8 th9 pi pia cm cm1 cm2 cm3 pd pda rd rda hh sla : Nat) (sz : Nat) (se : Nat → Int32) (mn : Int32) (ln : Nat → Int32) (hi : Nat → Int32) (wi : Nat → Int32) (br : Nat → Int32) (sp : Nat → Int32) (si : Nat → Int32) (le : Nat → Int32) (un : Nat → Int32) (ul : Nat → Int32) (px : Nat → Int32) (tm : Int32) (ps : Int32) (ft : Int32) (fk : Int32) (lea : Nat → Int32) (upr : Nat → Int32) (ris : Nat → Int32) (pl : Int32) (tx : Nat → Int32) (at_ : Int32) (kd : Int32) (va : Nat → Int32)     (r : OUT_X7_carryOutOrder) (hf : f_X7_carryOutOrder se mn ln hi wi br sp si le un ul px tm ps ft fk lea ris kd va = some r) : Met l yX7_carryOutOrder wsX7_carryOutOrder R_X7_carryOutOrder (cPc D cI cC cZ cR [.ref mm] sz (ws_main cI cC cZ cR mm sc sea th th1 th2 th3 th4 th5 th6 th7 th8 th9 pi pia cm cm1 cm2 cm3 pd pda rd rda hh sla se mn ln hi wi br sp si le un ul px tm ps ft fk lea upr ris pl tx at_ kd va)) (cQi D (ws_main cI cC cZ cR mm sc sea th th1 th2 th3 th4 th5 th6 th7 th8 th9 pi pia cm cm1 cm2 cm3 pd pda rd rda hh sla se r.2.2.2.2.2.1 r.2.2.2.2.2.2.1 r.2.2.2.2.2.2.2.1 r.2.2.2.2.2.2.2.2.1 r.2.2.2.2.2.2.2.2.2.1 r.2.2.2.2.2.2.2.2.2.2.1 r.2.2.2.2.2.2.2.2.2.2.2.1 r.2.2.2.2.2.2.2.2.2.2.2.2.1 r.2.2.2.2.2.2.2.2.2.2.2.2.2.1 r.2.2.2.2.2.2.2.2.2.2.2.2.2.2.1 r.2.2.2.2.2.2.2.2.2.2.2.2.2.2.2.1 r.2.1 r.2.2.1 r.2.2.2.1 r.2.2.2.2.1 r.2.2.2.2.2.2.2.2.2.2.2.2.2.2.2.2.1 upr r.2.2.2.2.2.2.2.2.2.2.2.2.2.2.2.2.2 pl tx at_ kd va) (va_A (ws_main cI cC cZ cR mm sc sea th th1 th2 th3 th4 th5 th6 th7 th8 th9 pi pia cm cm1 cm2 cm3 pd pda rd rda hh sla se mn ln hi wi br sp si le un ul px tm ps ft fk lea upr ris pl tx at_ kd va) sz) r.1) 0 0 (va_A (ws_main cI cC cZ cR mm sc sea th th1 th2 th3 th4 th5 th6 th7 th8 th9 pi pia cm cm1 cm2 cm3 pd pda rd rda hh sla se mn ln hi wi br sp si le un ul px tm ps ft fk lea upr ris pl tx at_ kd va) sz) := by
  refine Met.ofW (cc := cX7_carryOutOrder) (maxL := 2) (ret := (some .int)) (by decide) rfl ?_
  intro p e s m args below meth c s₁ B hml hv
  obtain ⟨rfl, hsz, hP, hK, hD0⟩ := hv
  have hx := B.exec
  have hb := B.bytes
  have hr := B.returns
  have hts := atoms_spec (ws := wsX7_carryOutOrder) B.pre
  have hown : s.vm.findClass RX7 = some m.cls := findClass_of_methodNamed B.named
  have hlocks := B.notSynchronized
  subst hsz
  have hD := hD0.self (sz := s.heap.size)
  generalize hAe : va_A (ws_main cI cC cZ cR mm sc sea th th1 th2 th3 th4 th5 th6 th7 th8 th9 pi pia cm cm1 cm2 cm3 pd pda rd rda hh sla se mn ln hi wi br sp si le un ul px tm ps ft fk lea upr ris pl tx at_ kd va) s.heap.size = A at hD ⊢
  skip
  have hA : ∀ q : Nat, s.heap.size ≤ q → A q := fun q h => by rw [← hAe]; exact Or.inr h
  have hS : va_S A s.heap s.heap [] := va_S.rf
  have hl := lv_entry ([.ref mm]) (n := 2) (Nat.le_of_ble_eq_true rfl)
  rw [lg_entry_eq]
  generalize (lg_sl ([.ref mm]) ++ List.replicate (2 - (lg_sl ([.ref mm])).length) Slot.unset).toArray = ls at hl ⊢
  have hl : lv_has ls 2 [(0, .ref mm)] := hl
  refine W_absQ (fun Q hQ => ?_)
  refine W.eq (g2 := F0 m 0 ls []) rfl ?_
  have h := hf
  unfold f_X7_carryOutOrder at h
  refine lv_aload_n hx hb dX7_carryOutOrder_0 rfl (lv_at hl 0 rfl) ?_
  refine va_get (D := D) (ci := 7) (v := .ref rd) (C := RX7) (T := TX7) (N := 6) hx hb hts uX7_carryOutOrder_X7 hown hK.1 hP 0 rfl rfl 5 (by decide) (hts _ kX7_carryOutOrder_1) (fun _ h9 => h9) rfl dX7_carryOutOrder_1 ?_
  refine va_get (D := D) (ci := 4) (v := .int kd) (C := RX4) (T := TX4) (N := 4) hx hb hts uX7_carryOutOrder_X4 hown hK.1 hP 21 rfl rfl 2 (by decide) (hts _ kX7_carryOutOrder_3) (fun _ h9 => h9) rfl dX7_carryOutOrder_4 ?_
  refine lv_bipush (v := 103) hx hb dX7_carryOutOrder_7 (by decide) ?_
  refine lv_icmp_ne (tgt := 17) hx hb dX7_carryOutOrder_9 (by decide) (fun c9 => ?_) (fun c9 => ?_)
  · replace h := br_p c9 h
    refine lv_aload_n hx hb dX7_carryOutOrder_17 rfl (lv_at hl 0 rfl) ?_
    refine va_get (D := D) (ci := 7) (v := .ref rd) (C := RX7) (T := TX7) (N := 6) hx hb hts uX7_carryOutOrder_X7 hown hK.1 hP 0 rfl rfl 5 (by decide) (hts _ kX7_carryOutOrder_1) (fun _ h9 => h9) rfl dX7_carryOutOrder_18 ?_
    refine va_get (D := D) (ci := 4) (v := .int kd) (C := RX4) (T := TX4) (N := 4) hx hb hts uX7_carryOutOrder_X4 hown hK.1 hP 21 rfl rfl 2 (by decide) (hts _ kX7_carryOutOrder_3) (fun _ h9 => h9) rfl dX7_carryOutOrder_21 ?_
    refine lv_bipush (v := 102) hx hb dX7_carryOutOrder_24 (by decide) ?_
    refine lv_icmp_ne (tgt := 34) hx hb dX7_carryOutOrder_26 (by decide) (fun c7 => ?_) (fun c7 => ?_)
    · replace h := br_p c7 h
      refine lv_aload_n hx hb dX7_carryOutOrder_34 rfl (lv_at hl 0 rfl) ?_
      refine va_get (D := D) (ci := 7) (v := .ref rd) (C := RX7) (T := TX7) (N := 6) hx hb hts uX7_carryOutOrder_X7 hown hK.1 hP 0 rfl rfl 5 (by decide) (hts _ kX7_carryOutOrder_1) (fun _ h9 => h9) rfl dX7_carryOutOrder_35 ?_
      refine va_get (D := D) (ci := 4) (v := .int kd) (C := RX4) (T := TX4) (N := 4) hx hb hts uX7_carryOutOrder_X4 hown hK.1 hP 21 rfl rfl 2 (by decide) (hts _ kX7_carryOutOrder_3) (fun _ h9 => h9) rfl dX7_carryOutOrder_38 ?_
      refine lv_bipush (v := 119) hx hb dX7_carryOutOrder_41 (by decide) ?_
      refine lv_icmp_ne (tgt := 51) hx hb dX7_carryOutOrder_43 (by decide) (fun c5 => ?_) (fun c5 => ?_)
      · replace h := br_p c5 h
        refine lv_aload_n hx hb dX7_carryOutOrder_51 rfl (lv_at hl 0 rfl) ?_
        obtain ⟨r1, hcr1, h⟩ := bn_sp h
        have hPc := hP.sub (ws' := (ws_main cI cC cZ cR mm sc sea th th1 th2 th3 th4 th5 th6 th7 th8 th9 pi pia cm cm1 cm2 cm3 pd pda rd rda hh sla se mn ln hi wi br sp si le un ul px tm ps ft fk lea upr ris pl tx at_ kd va)) [0, 1, 2, 3, 4, 5, 6, 7, 8, 9, 10, 11, 12, 13, 14, 15, 16, 17, 18, 19, 20, 21, 22] rfl
        have hDc := hD.sub (ws' := (ws_main cI cC cZ cR mm sc sea th th1 th2 th3 th4 th5 th6 th7 th8 th9 pi pia cm cm1 cm2 cm3 pd pda rd rda hh sla se mn ln hi wi br sp si le un ul px tm ps ft fk lea upr ris pl tx at_ kd va)) [0, 1, 2, 3, 4, 5, 6, 7, 8, 9, 10, 11, 12, 13, 14, 15, 16, 17, 18, 19, 20, 21, 22] (by decide) rfl
        have hFc := va_free (wc := (ws_main cI cC cZ cR mm sc sea th th1 th2 th3 th4 th5 th6 th7 th8 th9 pi pia cm cm1 cm2 cm3 pd pda rd rda hh sla se mn ln hi wi br sp si le un ul px tm ps ft fk lea upr ris pl tx at_ kd va)) hD hS hA [0, 1, 2, 3, 4, 5, 6, 7, 8, 9, 10, 11, 12, 13, 14, 15, 16, 17, 18, 19, 20, 21, 22] rfl
        refine va_calli (va_runV (As := []) (rest := []) ⟨hx, hb, hml, hown, hts⟩ (m_X7_errorOfShoot l D cI cC cZ cR mm sc sea th th1 th2 th3 th4 th5 th6 th7 th8 th9 pi pia cm cm1 cm2 cm3 pd pda rd rda hh sla _ se mn ln hi wi br sp si le un ul px tm ps ft fk lea upr ris pl tx at_ kd va    r1 hcr1) (cwV 0 hts gX7_carryOutOrder_X7_errorOfShoot rfl rfl rfl (by decide +kernel) ⟨Nat.le_of_ble_eq_true rfl, Nat.le_of_ble_eq_true rfl⟩) (cPc_pv hPc hK hDc (ci := 7) (q0 := 0) rfl rfl) rfl rfl hl.1 rfl (lv_room (Nat.le_of_ble_eq_true rfl)) dX7_carryOutOrder_52 ⟨Nat.le_of_ble_eq_true rfl, Nat.le_of_ble_eq_true rfl⟩) hS (fun q _ h => hFc q h) hFc (fun xq u t H1 locs ht hvm hw hB hz1 hk1 hS => ?_)
        rw [hw]
        obtain ⟨hP1, hD1⟩ := hB
        rw [ht] at hP1
        obtain ⟨hP, hD⟩ := va_join (wr := []) (w1 := (ws_main cI cC cZ cR mm sc sea th th1 th2 th3 th4 th5 th6 th7 th8 th9 pi pia cm cm1 cm2 cm3 pd pda rd rda hh sla se mn ln hi wi br sp si le un ul px tm ps ft fk lea upr ris pl tx at_ kd va)) hP hD [0, 1, 2, 3, 4, 5, 6, 7, 8, 9, 10, 11, 12, 13, 14, 15, 16, 17, 18, 19, 20, 21, 22] [] rfl rfl (by decide) (by decide) hk1 hFc hP1 hD1
        generalize H1 = H at hP hS ⊢
        have hP : va_P D vwCl (ws_main cI cC cZ cR mm sc sea th th1 th2 th3 th4 th5 th6 th7 th8 th9 pi pia cm cm1 cm2 cm3 pd pda rd rda hh sla se mn ln hi wi br sp si le un ul px tm ps ft fk lea upr ris pl tx at_ kd va) H := hP
        have hD : va_D A (ws_main cI cC cZ cR mm sc sea th th1 th2 th3 th4 th5 th6 th7 th8 th9 pi pia cm cm1 cm2 cm3 pd pda rd rda hh sla se mn ln hi wi br sp si le un ul px tm ps ft fk lea upr ris pl tx at_ kd va) := hD
        refine lv_istore_n (lv' := [(1, .int r1), (0, .ref mm)]) hx hb dX7_carryOutOrder_55 rfl hl (by decide) rfl (fun ls hl => ?_)
        refine lv_iload_n hx hb dX7_carryOutOrder_56 rfl (lv_at hl 0 rfl) ?_
        refine lv_if_ne (tgt := 71) hx hb dX7_carryOutOrder_57 (by decide) (fun c3 => ?_) (fun c3 => ?_)
        · replace h := br_p c3 h
          refine lv_iload_n hx hb dX7_carryOutOrder_71 rfl (lv_at hl 0 rfl) ?_
          have e9 := Option.some.inj h
          subst e9
          rw [hQ]
          exact W.iret (v := r1) hx hb hr (fun t ht hW => ⟨⟨r1, (), rfl, rfl, by rw [ht]; exact hP, hD⟩, hS.F ht⟩) hS.2.2 dX7_carryOutOrder_72
        · replace h := br_n (not_not_intro c3) h
          refine lv_aload_n hx hb dX7_carryOutOrder_60 rfl (lv_at hl 1 rfl) ?_
          refine va_get (D := D) (ci := 7) (v := .ref cm) (C := RX7) (T := TX7) (N := 6) hx hb hts uX7_carryOutOrder_X7 hown hK.1 hP 0 rfl rfl 1 (by decide) (hts _ kX7_carryOutOrder_4) (fun _ h9 => h9) rfl dX7_carryOutOrder_61 ?_
          refine lv_aload_n hx hb dX7_carryOutOrder_64 rfl (lv_at hl 1 rfl) ?_
          refine va_get (D := D) (ci := 7) (v := .ref sc) (C := RX7) (T := TX7) (N := 6) hx hb hts uX7_carryOutOrder_X7 hown hK.1 hP 0 rfl rfl 0 (by decide) (hts _ kX7_carryOutOrder_5) (fun _ h9 => h9) rfl dX7_carryOutOrder_65 ?_
          obtain ⟨r2, hcr2, h⟩ := bn_sp h
          have hPc := hP.sub (ws' := (ws_camera_scene cI cC cZ cR cm cm1 cm2 cm3 sc sea th th1 th2 th3 th4 th5 th6 th7 th8 th9 pi pia lea upr ris se mn ln hi wi br sp si le un ul px tm ps ft fk)) [15, 16, 17, 18, 1, 2, 3, 4, 5, 6, 7, 8, 9, 10, 11, 12, 13, 14] rfl
          have hDc := hD.sub (ws' := (ws_camera_scene cI cC cZ cR cm cm1 cm2 cm3 sc sea th th1 th2 th3 th4 th5 th6 th7 th8 th9 pi pia lea upr ris se mn ln hi wi br sp si le un ul px tm ps ft fk)) [15, 16, 17, 18, 1, 2, 3, 4, 5, 6, 7, 8, 9, 10, 11, 12, 13, 14] (by decide) rfl
          have hFc := va_free (wc := (ws_camera_scene cI cC cZ cR cm cm1 cm2 cm3 sc sea th th1 th2 th3 th4 th5 th6 th7 th8 th9 pi pia lea upr ris se mn ln hi wi br sp si le un ul px tm ps ft fk)) hD hS hA [15, 16, 17, 18, 1, 2, 3, 4, 5, 6, 7, 8, 9, 10, 11, 12, 13, 14] rfl
          refine va_callv (va_runV (As := [.ref sc]) (rest := []) ⟨hx, hb, hml, hown, hts⟩ (m_X0_takePicture l D cI cC cZ cR cm cm1 cm2 cm3 sc sea th th1 th2 th3 th4 th5 th6 th7 th8 th9 pi pia _ lea upr ris se mn ln hi wi br sp si le un ul px tm ps ft fk    r2 hcr2) (cwV 1 hts gX7_carryOutOrder_X0_takePicture rfl rfl rfl (by decide +kernel) ⟨Nat.le_of_ble_eq_true rfl, Nat.le_of_ble_eq_true rfl⟩) (cPc_pv hPc hK hDc (ci := 0) (q0 := 0) rfl rfl) rfl rfl hl.1 rfl (lv_room (Nat.le_of_ble_eq_true rfl)) dX7_carryOutOrder_68 ⟨Nat.le_of_ble_eq_true rfl, Nat.le_of_ble_eq_true rfl⟩) hS (fun q _ h => hFc q h) hFc (fun u t H1 locs ht hvm hw hB hz1 hk1 hS => ?_)
          obtain ⟨hP1, hD1⟩ := hB
          rw [ht] at hP1
          obtain ⟨hP, hD⟩ := va_join (wr := [(mm, .inr (7, [.ref sc, .ref cm, .ref hh, .ref sla, .ref pd, .ref rd])), (pd, .inr (2, [.ref pda, .int pl])), (pda, .inl (cC, 80, .inl tx)), (rd, .inr (4, [.ref pd, .int at_, .int kd, .ref rda])), (rda, .inl (cI, 7, .inl va))]) (w1 := (ws_camera_scene cI cC cZ cR cm cm1 cm2 cm3 sc sea th th1 th2 th3 th4 th5 th6 th7 th8 th9 pi pia r2.1 upr r2.2.1 se mn ln hi wi br sp si le un ul r2.2.2.2.2 r2.2.2.1 r2.2.2.2.1 ft fk)) hP hD [15, 16, 17, 18, 1, 2, 3, 4, 5, 6, 7, 8, 9, 10, 11, 12, 13, 14] [0, 19, 20, 21, 22] rfl rfl (by decide) (by decide) hk1 hFc hP1 hD1
          have hP := hP.sub (ws' := (ws_main cI cC cZ cR mm sc sea th th1 th2 th3 th4 th5 th6 th7 th8 th9 pi pia cm cm1 cm2 cm3 pd pda rd rda hh sla se mn ln hi wi br sp si le un ul r2.2.2.2.2 r2.2.2.1 r2.2.2.2.1 ft fk r2.1 upr r2.2.1 pl tx at_ kd va)) [0, 9, 10, 11, 12, 13, 14, 15, 16, 17, 18, 19, 20, 21, 22, 5, 6, 7, 8, 1, 2, 3, 4] rfl
          have hD := hD.sub (ws' := (ws_main cI cC cZ cR mm sc sea th th1 th2 th3 th4 th5 th6 th7 th8 th9 pi pia cm cm1 cm2 cm3 pd pda rd rda hh sla se mn ln hi wi br sp si le un ul r2.2.2.2.2 r2.2.2.1 r2.2.2.2.1 ft fk r2.1 upr r2.2.1 pl tx at_ kd va)) [0, 9, 10, 11, 12, 13, 14, 15, 16, 17, 18, 19, 20, 21, 22, 5, 6, 7, 8, 1, 2, 3, 4] (by decide) rfl
          generalize H1 = H at hP hS ⊢
          refine lv_iload_n hx hb dX7_carryOutOrder_71 rfl (lv_at hl 0 rfl) ?_
          have e9 := Option.some.inj h
          subst e9
          rw [hQ]
          exact W.iret (v := r1) hx hb hr (fun t ht hW => ⟨⟨r1, (), rfl, rfl, by rw [ht]; exact hP, hD⟩, hS.F ht⟩) hS.2.2 dX7_carryOutOrder_72
      · replace h := br_n (not_not_intro c5) h
        refine lv_aload_n hx hb dX7_carryOutOrder_46 rfl (lv_at hl 0 rfl) ?_
        obtain ⟨r4, hcr4, h⟩ := bn_sp h
        have hPc := hP.sub (ws' := (ws_main cI cC cZ cR mm sc sea th th1 th2 th3 th4 th5 th6 th7 th8 th9 pi pia cm cm1 cm2 cm3 pd pda rd rda hh sla se mn ln hi wi br sp si le un ul px tm ps ft fk lea upr ris pl tx at_ kd va)) [0, 1, 2, 3, 4, 5, 6, 7, 8, 9, 10, 11, 12, 13, 14, 15, 16, 17, 18, 19, 20, 21, 22] rfl
        have hDc := hD.sub (ws' := (ws_main cI cC cZ cR mm sc sea th th1 th2 th3 th4 th5 th6 th7 th8 th9 pi pia cm cm1 cm2 cm3 pd pda rd rda hh sla se mn ln hi wi br sp si le un ul px tm ps ft fk lea upr ris pl tx at_ kd va)) [0, 1, 2, 3, 4, 5, 6, 7, 8, 9, 10, 11, 12, 13, 14, 15, 16, 17, 18, 19, 20, 21, 22] (by decide) rfl
        have hFc := va_free (wc := (ws_main cI cC cZ cR mm sc sea th th1 th2 th3 th4 th5 th6 th7 th8 th9 pi pia cm cm1 cm2 cm3 pd pda rd rda hh sla se mn ln hi wi br sp si le un ul px tm ps ft fk lea upr ris pl tx at_ kd va)) hD hS hA [0, 1, 2, 3, 4, 5, 6, 7, 8, 9, 10, 11, 12, 13, 14, 15, 16, 17, 18, 19, 20, 21, 22] rfl
        refine va_calli (va_runV (As := []) (rest := []) ⟨hx, hb, hml, hown, hts⟩ (m_X7_carryOutPass l D cI cC cZ cR mm sc sea th th1 th2 th3 th4 th5 th6 th7 th8 th9 pi pia cm cm1 cm2 cm3 pd pda rd rda hh sla _ se mn ln hi wi br sp si le un ul px tm ps ft fk lea upr ris pl tx at_ kd va    r4 hcr4) (cwV 0 hts gX7_carryOutOrder_X7_carryOutPass rfl rfl rfl (by decide +kernel) ⟨Nat.le_of_ble_eq_true rfl, Nat.le_of_ble_eq_true rfl⟩) (cPc_pv hPc hK hDc (ci := 7) (q0 := 0) rfl rfl) rfl rfl hl.1 rfl (lv_room (Nat.le_of_ble_eq_true rfl)) dX7_carryOutOrder_47 ⟨Nat.le_of_ble_eq_true rfl, Nat.le_of_ble_eq_true rfl⟩) hS (fun q _ h => hFc q h) hFc (fun xq u t H1 locs ht hvm hw hB hz1 hk1 hS => ?_)
        rw [hw]
        obtain ⟨hP1, hD1⟩ := hB
        rw [ht] at hP1
        obtain ⟨hP, hD⟩ := va_join (wr := []) (w1 := (ws_main cI cC cZ cR mm sc sea th th1 th2 th3 th4 th5 th6 th7 th8 th9 pi pia cm cm1 cm2 cm3 pd pda rd rda hh sla se mn ln hi wi br sp si le un ul px r4.2 ps ft fk lea upr ris pl tx at_ kd va)) hP hD [0, 1, 2, 3, 4, 5, 6, 7, 8, 9, 10, 11, 12, 13, 14, 15, 16, 17, 18, 19, 20, 21, 22] [] rfl rfl (by decide) (by decide) hk1 hFc hP1 hD1
        generalize H1 = H at hP hS ⊢
        have hP : va_P D vwCl (ws_main cI cC cZ cR mm sc sea th th1 th2 th3 th4 th5 th6 th7 th8 th9 pi pia cm cm1 cm2 cm3 pd pda rd rda hh sla se mn ln hi wi br sp si le un ul px r4.2 ps ft fk lea upr ris pl tx at_ kd va) H := hP
        have hD : va_D A (ws_main cI cC cZ cR mm sc sea th th1 th2 th3 th4 th5 th6 th7 th8 th9 pi pia cm cm1 cm2 cm3 pd pda rd rda hh sla se mn ln hi wi br sp si le un ul px r4.2 ps ft fk lea upr ris pl tx at_ kd va) := hD
        have e9 := Option.some.inj h
        subst e9
        rw [hQ]
        exact W.iret (v := r4.1) hx hb hr (fun t ht hW => ⟨⟨r4.1, (), rfl, rfl, by rw [ht]; exact hP, hD⟩, hS.F ht⟩) hS.2.2 dX7_carryOutOrder_50
    · replace h := br_n (not_not_intro c7) h
      refine lv_aload_n hx hb dX7_carryOutOrder_29 rfl (lv_at hl 0 rfl) ?_
      obtain ⟨r6, hcr6, h⟩ := bn_sp h
      have hPc := hP.sub (ws' := (ws_main cI cC cZ cR mm sc sea th th1 th2 th3 th4 th5 th6 th7 th8 th9 pi pia cm cm1 cm2 cm3 pd pda rd rda hh sla se mn ln hi wi br sp si le un ul px tm ps ft fk lea upr ris pl tx at_ kd va)) [0, 1, 2, 3, 4, 5, 6, 7, 8, 9, 10, 11, 12, 13, 14, 15, 16, 17, 18, 19, 20, 21, 22] rfl
      have hDc := hD.sub (ws' := (ws_main cI cC cZ cR mm sc sea th th1 th2 th3 th4 th5 th6 th7 th8 th9 pi pia cm cm1 cm2 cm3 pd pda rd rda hh sla se mn ln hi wi br sp si le un ul px tm ps ft fk lea upr ris pl tx at_ kd va)) [0, 1, 2, 3, 4, 5, 6, 7, 8, 9, 10, 11, 12, 13, 14, 15, 16, 17, 18, 19, 20, 21, 22] (by decide) rfl
      have hFc := va_free (wc := (ws_main cI cC cZ cR mm sc sea th th1 th2 th3 th4 th5 th6 th7 th8 th9 pi pia cm cm1 cm2 cm3 pd pda rd rda hh sla se mn ln hi wi br sp si le un ul px tm ps ft fk lea upr ris pl tx at_ kd va)) hD hS hA [0, 1, 2, 3, 4, 5, 6, 7, 8, 9, 10, 11, 12, 13, 14, 15, 16, 17, 18, 19, 20, 21, 22] rfl
      refine va_calli (va_runV (As := []) (rest := []) ⟨hx, hb, hml, hown, hts⟩ (m_X7_carryOutFlash l D cI cC cZ cR mm sc sea th th1 th2 th3 th4 th5 th6 th7 th8 th9 pi pia cm cm1 cm2 cm3 pd pda rd rda hh sla _ se mn ln hi wi br sp si le un ul px tm ps ft fk lea upr ris pl tx at_ kd va    r6 hcr6) (cwV 0 hts gX7_carryOutOrder_X7_carryOutFlash rfl rfl rfl (by decide +kernel) ⟨Nat.le_of_ble_eq_true rfl, Nat.le_of_ble_eq_true rfl⟩) (cPc_pv hPc hK hDc (ci := 7) (q0 := 0) rfl rfl) rfl rfl hl.1 rfl (lv_room (Nat.le_of_ble_eq_true rfl)) dX7_carryOutOrder_30 ⟨Nat.le_of_ble_eq_true rfl, Nat.le_of_ble_eq_true rfl⟩) hS (fun q _ h => hFc q h) hFc (fun xq u t H1 locs ht hvm hw hB hz1 hk1 hS => ?_)
      rw [hw]
      obtain ⟨hP1, hD1⟩ := hB
      rw [ht] at hP1
      obtain ⟨hP, hD⟩ := va_join (wr := []) (w1 := (ws_main cI cC cZ cR mm sc sea th th1 th2 th3 th4 th5 th6 th7 th8 th9 pi pia cm cm1 cm2 cm3 pd pda rd rda hh sla se mn ln hi wi br sp si le un ul px tm ps r6.2.1 r6.2.2 lea upr ris pl tx at_ kd va)) hP hD [0, 1, 2, 3, 4, 5, 6, 7, 8, 9, 10, 11, 12, 13, 14, 15, 16, 17, 18, 19, 20, 21, 22] [] rfl rfl (by decide) (by decide) hk1 hFc hP1 hD1
      generalize H1 = H at hP hS ⊢
      have hP : va_P D vwCl (ws_main cI cC cZ cR mm sc sea th th1 th2 th3 th4 th5 th6 th7 th8 th9 pi pia cm cm1 cm2 cm3 pd pda rd rda hh sla se mn ln hi wi br sp si le un ul px tm ps r6.2.1 r6.2.2 lea upr ris pl tx at_ kd va) H := hP
      have hD : va_D A (ws_main cI cC cZ cR mm sc sea th th1 th2 th3 th4 th5 th6 th7 th8 th9 pi pia cm cm1 cm2 cm3 pd pda rd rda hh sla se mn ln hi wi br sp si le un ul px tm ps r6.2.1 r6.2.2 lea upr ris pl tx at_ kd va) := hD
      have e9 := Option.some.inj h
      subst e9
      rw [hQ]
      exact W.iret (v := r6.1) hx hb hr (fun t ht hW => ⟨⟨r6.1, (), rfl, rfl, by rw [ht]; exact hP, hD⟩, hS.F ht⟩) hS.2.2 dX7_carryOutOrder_33
  · replace h := br_n (not_not_intro c9) h
    refine lv_aload_n hx hb dX7_carryOutOrder_12 rfl (lv_at hl 0 rfl) ?_
    obtain ⟨r8, hcr8, h⟩ := bn_sp h
    have hPc := hP.sub (ws' := (ws_main cI cC cZ cR mm sc sea th th1 th2 th3 th4 th5 th6 th7 th8 th9 pi pia cm cm1 cm2 cm3 pd pda rd rda hh sla se mn ln hi wi br sp si le un ul px tm ps ft fk lea upr ris pl tx at_ kd va)) [0, 1, 2, 3, 4, 5, 6, 7, 8, 9, 10, 11, 12, 13, 14, 15, 16, 17, 18, 19, 20, 21, 22] rfl
    have hDc := hD.sub (ws' := (ws_main cI cC cZ cR mm sc sea th th1 th2 th3 th4 th5 th6 th7 th8 th9 pi pia cm cm1 cm2 cm3 pd pda rd rda hh sla se mn ln hi wi br sp si le un ul px tm ps ft fk lea upr ris pl tx at_ kd va)) [0, 1, 2, 3, 4, 5, 6, 7, 8, 9, 10, 11, 12, 13, 14, 15, 16, 17, 18, 19, 20, 21, 22] (by decide) rfl
    have hFc := va_free (wc := (ws_main cI cC cZ cR mm sc sea th th1 th2 th3 th4 th5 th6 th7 th8 th9 pi pia cm cm1 cm2 cm3 pd pda rd rda hh sla se mn ln hi wi br sp si le un ul px tm ps ft fk lea upr ris pl tx at_ kd va)) hD hS hA [0, 1, 2, 3, 4, 5, 6, 7, 8, 9, 10, 11, 12, 13, 14, 15, 16, 17, 18, 19, 20, 21, 22] rfl
    refine va_calli (va_runV (As := []) (rest := []) ⟨hx, hb, hml, hown, hts⟩ (m_X7_carryOutThing l D cI cC cZ cR mm sc sea th th1 th2 th3 th4 th5 th6 th7 th8 th9 pi pia cm cm1 cm2 cm3 pd pda rd rda hh sla _ se mn ln hi wi br sp si le un ul px tm ps ft fk lea upr ris pl tx at_ kd va    r8 hcr8) (cwV 0 hts gX7_carryOutOrder_X7_carryOutThing rfl rfl rfl (by decide +kernel) ⟨Nat.le_of_ble_eq_true rfl, Nat.le_of_ble_eq_true rfl⟩) (cPc_pv hPc hK hDc (ci := 7) (q0 := 0) rfl rfl) rfl rfl hl.1 rfl (lv_room (Nat.le_of_ble_eq_true rfl)) dX7_carryOutOrder_13 ⟨Nat.le_of_ble_eq_true rfl, Nat.le_of_ble_eq_true rfl⟩) hS (fun q _ h => hFc q h) hFc (fun xq u t H1 locs ht hvm hw hB hz1 hk1 hS => ?_)
    rw [hw]
    obtain ⟨hP1, hD1⟩ := hB
    rw [ht] at hP1
    obtain ⟨hP, hD⟩ := va_join (wr := []) (w1 := (ws_main cI cC cZ cR mm sc sea th th1 th2 th3 th4 th5 th6 th7 th8 th9 pi pia cm cm1 cm2 cm3 pd pda rd rda hh sla se r8.2.1 r8.2.2.1 r8.2.2.2.1 r8.2.2.2.2.1 r8.2.2.2.2.2.1 r8.2.2.2.2.2.2.1 r8.2.2.2.2.2.2.2.1 r8.2.2.2.2.2.2.2.2.1 r8.2.2.2.2.2.2.2.2.2.1 r8.2.2.2.2.2.2.2.2.2.2 px tm ps ft fk lea upr ris pl tx at_ kd va)) hP hD [0, 1, 2, 3, 4, 5, 6, 7, 8, 9, 10, 11, 12, 13, 14, 15, 16, 17, 18, 19, 20, 21, 22] [] rfl rfl (by decide) (by decide) hk1 hFc hP1 hD1
    generalize H1 = H at hP hS ⊢
    have hP : va_P D vwCl (ws_main cI cC cZ cR mm sc sea th th1 th2 th3 th4 th5 th6 th7 th8 th9 pi pia cm cm1 cm2 cm3 pd pda rd rda hh sla se r8.2.1 r8.2.2.1 r8.2.2.2.1 r8.2.2.2.2.1 r8.2.2.2.2.2.1 r8.2.2.2.2.2.2.1 r8.2.2.2.2.2.2.2.1 r8.2.2.2.2.2.2.2.2.1 r8.2.2.2.2.2.2.2.2.2.1 r8.2.2.2.2.2.2.2.2.2.2 px tm ps ft fk lea upr ris pl tx at_ kd va) H := hP
    have hD : va_D A (ws_main cI cC cZ cR mm sc sea th th1 th2 th3 th4 th5 th6 th7 th8 th9 pi pia cm cm1 cm2 cm3 pd pda rd rda hh sla se r8.2.1 r8.2.2.1 r8.2.2.2.1 r8.2.2.2.2.1 r8.2.2.2.2.2.1 r8.2.2.2.2.2.2.1 r8.2.2.2.2.2.2.2.1 r8.2.2.2.2.2.2.2.2.1 r8.2.2.2.2.2.2.2.2.2.1 r8.2.2.2.2.2.2.2.2.2.2 px tm ps ft fk lea upr ris pl tx at_ kd va) := hD
    have e9 := Option.some.inj h
    subst e9
    rw [hQ]
    exact W.iret (v := r8.1) hx hb hr (fun t ht hW => ⟨⟨r8.1, (), rfl, rfl, by rw [ht]; exact hP, hD⟩, hS.F ht⟩) hS.2.2 dX7_carryOutOrder_16
