abbrev ws_mainT (cI cC cZ cR : ClassId) (mm sc sea th th1 th2 th3 th4 th5 th6 th7 th8 th9 pi pia cm cm1 cm2 cm3 pd pda rd rda hh hst sla : Nat) (se : Nat → Int32) (mn : Int32) (ln : Nat → Int32) (hi : Nat → Int32) (wi : Nat → Int32) (br : Nat → Int32) (sp : Nat → Int32) (si : Nat → Int32) (le : Nat → Int32) (un : Nat → Int32) (ul : Nat → Int32) (px : Nat → Int32) (tm : Int32) (ps : Int32) (ft : Int32) (fk : Int32) (lea : Nat → Int32) (upr : Nat → Int32) (ris : Nat → Int32) (pl : Int32) (tx : Nat → Int32) (at_ : Int32) (kd : Int32) (va : Nat → Int32) (nx : Int32) (hm : Int32) (pr : Nat → Bool) (ad : Nat → Nat → Nat) : va_W := [(mm, .inr (7, [.ref sc, .ref cm, .ref hh, .ref sla, .ref pd, .ref rd])), (sc, .inr (5, [.ref sea, .ref th, .ref pi, .int tm, .int ps, .int ft, .int fk])), (sea, .inl (cI, 4, .inl se)), (th, .inr (6, [.int mn, .ref th1, .ref th2, .ref th3, .ref th4, .ref th5, .ref th6, .ref th7, .ref th8, .ref th9])), (th1, .inl (cI, 8, .inl ln)), (th2, .inl (cI, 8, .inl hi)), (th3, .inl (cI, 8, .inl wi)), (th4, .inl (cI, 8, .inl br)), (th5, .inl (cI, 8, .inl sp)), (th6, .inl (cI, 8, .inl si)), (th7, .inl (cI, 8, .inl le)), (th8, .inl (cI, 8, .inl un)), (th9, .inl (cI, 8, .inl ul)), (pi, .inr (3, [.ref pia])), (pia, .inl (cI, 384, .inl px)), (cm, .inr (0, [.ref cm1, .ref cm2, .ref cm3])), (cm1, .inl (cI, 24, .inl lea)), (cm2, .inl (cI, 24, .inl upr)), (cm3, .inl (cI, 25, .inl ris)), (pd, .inr (2, [.ref pda, .int pl])), (pda, .inl (cC, 80, .inl tx)), (rd, .inr (4, [.ref pd, .int at_, .int kd, .ref rda])), (rda, .inl (cI, 7, .inl va)), (hh, .inr (1, [.ref hst, .int nx, .int hm])), (hst, .inl (cR, 6, .inr (.inr (.inr (.inr (hfn pr ad))))))]
-- LeaningLines.set
abbrev OUT_X7_set : Type := Int32 × (Nat → Bool) × (Nat → SCV) × (Nat → Int32) × Int32 × Int32
def f_X7_set (se : Nat → Int32) (mn : Int32) (ln : Nat → Int32) (hi : Nat → Int32) (wi : Nat → Int32) (br : Nat → Int32) (sp : Nat → Int32) (si : Nat → Int32) (le : Nat → Int32) (un : Nat → Int32) (ul : Nat → Int32) (px : Nat → Int32) (tm : Int32) (ps : Int32) (ft : Int32) (fk : Int32) (nx : Int32) (hm : Int32) (pr : Nat → Bool) (sv : Nat → SCV) (a0 : Int32) (a1 : Int32) : Option OUT_X7_set :=
  bn (f_X7_within a0 0 3) (fun r1 => (if r1 = 0 then some (((-2), pr, sv, se, nx, hm)) else gd a0 4 (gd a0 4 (bn (f_X7_within a1 (fLe a0.toNatClampNeg) (fMo a0.toNatClampNeg)) (fun r4 => (if ¬ r4 = 0 then bn (f_X1_record nx hm se mn ln hi wi br sp si le un ul px tm ps ft fk pr sv) (fun r5 => gd a0 4 (bd (se a0.toNatClampNeg) (fun x7 => gd a0 4 (some ((x7, r5.1, r5.2.1, upd se a0.toNatClampNeg a1, r5.2.2.1, r5.2.2.2)))))) else some (((-2), pr, sv, se, nx, hm))))))))
theorem kX7_set_0 : Cond.fieldLink RX7 54 "LeaningLines" "LEAST_VALUES" "[I" ∈ wsX7_set := by decide +kernel
theorem kX7_set_1 : Cond.fieldLink RX7 58 "LeaningLines" "MOST_VALUES" "[I" ∈ wsX7_set := by decide +kernel
theorem uX7_set_X7 : ∀ w ∈ wsX70, w ∈ wsX7_set := by decide +kernel
theorem kX7_set_3 : Cond.fieldLink RX7 26 "LeaningLines" "history" "LLeaningLines$History;" ∈ wsX7_set := by decide +kernel
theorem kX7_set_4 : Cond.fieldLink RX7 10 "LeaningLines" "scene" "LLeaningLines$Scene;" ∈ wsX7_set := by decide +kernel
theorem uX7_set_X5 : ∀ w ∈ wsX50, w ∈ wsX7_set := by decide +kernel
theorem kX7_set_6 : Cond.fieldLink RX7 65 "LeaningLines$Scene" "settings" "[I" ∈ wsX7_set := by decide +kernel
abbrev R_X7_set : Room := { frames := 4, cells := 14, slots := 478, locals := 104 }
set_option maxHeartbeats 4000000 in
set_option maxRecDepth 100000 in
theorem m_X7_set (l : Launch) (D : va_G) (cI cC cZ cR : ClassId) (mm sc sea th th1 th2 th3 th4 th5 th6 th7 th8 th9 pi pia cm cm1 cm2 cm3 pd pda rd rda hh hst sla : Nat) (sz : Nat) (se : Nat → Int32) (mn : Int32) (ln : Nat → Int32) (hi : Nat → Int32) (wi : Nat → Int32) (br : Nat → Int32) (sp : Nat → Int32) (si : Nat → Int32) (le : Nat → Int32) (un : Nat → Int32) (ul : Nat → Int32) (px : Nat → Int32) (tm : Int32) (ps : Int32) (ft : Int32) (fk : Int32) (lea : Nat → Int32) (upr : Nat → Int32) (ris : Nat → Int32) (pl : Int32) (tx : Nat → Int32) (at_ : Int32) (kd : Int32) (va : Nat → Int32) (nx : Int32) (hm : Int32) (pr : Nat → Bool) (ad : Nat → Nat → Nat) (sv : Nat → SCV) (a0 : Int32) (a1 : Int32) (b0 : Nat)  (r : OUT_X7_set) (hf : f_X7_set se mn ln hi wi br sp si le un ul px tm ps ft fk nx hm pr sv a0 a1 = some r) : Met l yX7_set wsX7_set R_X7_set (cPcS D cI cC cZ cR b0 [.ref mm, .int a0, .int a1] sz ((ws_mainT cI cC cZ cR mm sc sea th th1 th2 th3 th4 th5 th6 th7 th8 th9 pi pia cm cm1 cm2 cm3 pd pda rd rda hh hst sla se mn ln hi wi br sp si le un ul px tm ps ft fk lea upr ris pl tx at_ kd va nx hm pr ad) ++ hwB cI cC cZ cR pr ad sv)) (va_Qi (fun (x : Int32) (_ : Nat → Nat → Nat) => x = r.1) (fun u t => va_P D vwCl (((ws_mainT cI cC cZ cR mm sc sea th th1 th2 th3 th4 th5 th6 th7 th8 th9 pi pia cm cm1 cm2 cm3 pd pda rd rda hh hst sla r.2.2.2.1 mn ln hi wi br sp si le un ul px tm ps ft fk lea upr ris pl tx at_ kd va r.2.2.2.2.1 r.2.2.2.2.2 r.2.1 u) ++ hwB cI cC cZ cR r.2.1 u r.2.2.1)) t.heap ∧ va_D (va_A ((ws_mainT cI cC cZ cR mm sc sea th th1 th2 th3 th4 th5 th6 th7 th8 th9 pi pia cm cm1 cm2 cm3 pd pda rd rda hh hst sla se mn ln hi wi br sp si le un ul px tm ps ft fk lea upr ris pl tx at_ kd va nx hm pr ad) ++ hwB cI cC cZ cR pr ad sv) sz) (((ws_mainT cI cC cZ cR mm sc sea th th1 th2 th3 th4 th5 th6 th7 th8 th9 pi pia cm cm1 cm2 cm3 pd pda rd rda hh hst sla r.2.2.2.1 mn ln hi wi br sp si le un ul px tm ps ft fk lea upr ris pl tx at_ kd va r.2.2.2.2.1 r.2.2.2.2.2 r.2.1 u) ++ hwB cI cC cZ cR r.2.1 u r.2.2.1))) (va_A ((ws_mainT cI cC cZ cR mm sc sea th th1 th2 th3 th4 th5 th6 th7 th8 th9 pi pia cm cm1 cm2 cm3 pd pda rd rda hh hst sla se mn ln hi wi br sp si le un ul px tm ps ft fk lea upr ris pl tx at_ kd va nx hm pr ad) ++ hwB cI cC cZ cR pr ad sv) sz)) 14 478 (va_A ((ws_mainT cI cC cZ cR mm sc sea th th1 th2 th3 th4 th5 th6 th7 th8 th9 pi pia cm cm1 cm2 cm3 pd pda rd rda hh hst sla se mn ln hi wi br sp si le un ul px tm ps ft fk lea upr ris pl tx at_ kd va nx hm pr ad) ++ hwB cI cC cZ cR pr ad sv) sz) := by
  refine Met.ofW (cc := cX7_set) (maxL := 4) (ret := (some .int)) (by decide) rfl ?_
  intro p e s m args below meth c s₁ B hml hv
  obtain ⟨rfl, hsz, hP, hK, hD0, hb0, hstt⟩ := hv
  have hx := B.exec
  have hb := B.bytes
  have hr := B.returns
  have hts := atoms_spec (ws := wsX7_set) B.pre
  have hown : s.vm.findClass RX7 = some m.cls := findClass_of_methodNamed B.named
  have hlocks := B.notSynchronized
  subst hsz
  have hD := hD0.self (sz := s.heap.size)
  generalize hAe : va_A ((ws_mainT cI cC cZ cR mm sc sea th th1 th2 th3 th4 th5 th6 th7 th8 th9 pi pia cm cm1 cm2 cm3 pd pda rd rda hh hst sla se mn ln hi wi br sp si le un ul px tm ps ft fk lea upr ris pl tx at_ kd va nx hm pr ad) ++ hwB cI cC cZ cR pr ad sv) s.heap.size = A at hD ⊢
  have hAb := hAb_of hAe hD0 hb0
  have hA : ∀ q : Nat, s.heap.size ≤ q → A q := fun q h => by rw [← hAe]; exact Or.inr h
  have hS : va_S A s.heap s.heap [] := va_S.rf
  have hl := lv_entry ([.ref mm, .int a0, .int a1]) (n := 4) (Nat.le_of_ble_eq_true rfl)
  rw [lg_entry_eq]
  generalize (lg_sl ([.ref mm, .int a0, .int a1]) ++ List.replicate (4 - (lg_sl ([.ref mm, .int a0, .int a1])).length) Slot.unset).toArray = ls at hl ⊢
  have hl : lv_has ls 4 [(0, .ref mm), (1, .int a0), (2, .int a1)] := hl
  refine W_absQ (fun Q hQ => ?_)
  refine W.eq (g2 := F0 m 0 ls []) rfl ?_
  have h := hf
  unfold f_X7_set at h
  refine lv_iload_n hx hb dX7_set_0 rfl (lv_at hl 1 rfl) ?_
  refine lv_iconst (v := 0) hx hb dX7_set_1 (by decide) ?_
  refine lv_iconst (v := 3) hx hb dX7_set_2 (by decide) ?_
  obtain ⟨r1, hcr1, h⟩ := bn_sp h
  have hPc := hP.sub (ws' := []) [] rfl
  have hDc := hD.sub (ws' := []) [] (by decide) rfl
  have hFc := va_free (wc := []) hD hS hA [] rfl
  refine va_calli (va_runS (As := [.int a0, .int 0, .int 3]) (rest := []) ⟨hx, hb, hml, hown, hts⟩ (m_X7_within l D cI cC cZ cR  _  a0 0 3   r1 hcr1) (va_cwS 3 hts gX7_set_X7_within rfl rfl rfl (by decide +kernel) ⟨Nat.le_of_ble_eq_true rfl, Nat.le_of_ble_eq_true rfl⟩) (cPc_ps hPc hK hDc) rfl rfl hl.1 rfl (lv_room (Nat.le_of_ble_eq_true rfl)) dX7_set_3 ⟨Nat.le_of_ble_eq_true rfl, Nat.le_of_ble_eq_true rfl⟩) hS (fun q _ h => hFc q h) hFc (fun xq u t H1 locs ht hvm hw hB hz1 hk1 hS => ?_)
  rw [hw]
  obtain ⟨hP1, hD1⟩ := hB
  rw [ht] at hP1
  obtain ⟨hP, hD⟩ := jT1 (R := [(mm, .inr (7, [.ref sc, .ref cm, .ref hh, .ref sla, .ref pd, .ref rd])), (sc, .inr (5, [.ref sea, .ref th, .ref pi, .int tm, .int ps, .int ft, .int fk])), (sea, .inl (cI, 4, .inl se)), (th, .inr (6, [.int mn, .ref th1, .ref th2, .ref th3, .ref th4, .ref th5, .ref th6, .ref th7, .ref th8, .ref th9])), (th1, .inl (cI, 8, .inl ln)), (th2, .inl (cI, 8, .inl hi)), (th3, .inl (cI, 8, .inl wi)), (th4, .inl (cI, 8, .inl br)), (th5, .inl (cI, 8, .inl sp)), (th6, .inl (cI, 8, .inl si)), (th7, .inl (cI, 8, .inl le)), (th8, .inl (cI, 8, .inl un)), (th9, .inl (cI, 8, .inl ul)), (pi, .inr (3, [.ref pia])), (pia, .inl (cI, 384, .inl px)), (cm, .inr (0, [.ref cm1, .ref cm2, .ref cm3])), (cm1, .inl (cI, 24, .inl lea)), (cm2, .inl (cI, 24, .inl upr)), (cm3, .inl (cI, 25, .inl ris)), (pd, .inr (2, [.ref pda, .int pl])), (pda, .inl (cC, 80, .inl tx)), (rd, .inr (4, [.ref pd, .int at_, .int kd, .ref rda])), (rda, .inl (cI, 7, .inl va)), (hh, .inr (1, [.ref hst, .int nx, .int hm])), (hst, .inl (cR, 6, .inr (.inr (.inr (.inr (hfn pr ad))))))]) (w1 := []) hP hD [] [0, 1, 2, 3, 4, 5, 6, 7, 8, 9, 10, 11, 12, 13, 14, 15, 16, 17, 18, 19, 20, 21, 22, 23, 24] rfl rfl (by decide) (by decide) hk1 hFc hP1 hD1
  generalize H1 = H at hP hS ⊢
  have hP : va_P D vwCl ((ws_mainT cI cC cZ cR mm sc sea th th1 th2 th3 th4 th5 th6 th7 th8 th9 pi pia cm cm1 cm2 cm3 pd pda rd rda hh hst sla se mn ln hi wi br sp si le un ul px tm ps ft fk lea upr ris pl tx at_ kd va nx hm pr ad) ++ hwB cI cC cZ cR pr ad sv) H := hP
  have hD : va_D A ((ws_mainT cI cC cZ cR mm sc sea th th1 th2 th3 th4 th5 th6 th7 th8 th9 pi pia cm cm1 cm2 cm3 pd pda rd rda hh hst sla se mn ln hi wi br sp si le un ul px tm ps ft fk lea upr ris pl tx at_ kd va nx hm pr ad) ++ hwB cI cC cZ cR pr ad sv) := hD
  refine lv_if_eq (tgt := 26) hx hb dX7_set_6 (by decide) (fun c9 => ?_) (fun c9 => ?_)
  · replace h := br_p c9 h
    refine lv_bipush (v := (-2)) hx hb dX7_set_26 (by decide) ?_
    have e9 := Option.some.inj h
    subst e9
    rw [hQ]
    refine W.widen (k := 14) (n := 478) (by decide) (by decide) ?_
    exact W.iret (v := (-2)) hx hb hr (fun t ht hW => ⟨⟨(-2), ad, rfl, rfl, by rw [ht]; exact hP, hD⟩, hS.F ht⟩) hS.2.2 dX7_set_28
  · replace h := br_n c9 h
    refine lv_iload_n hx hb dX7_set_9 rfl (lv_at hl 2 rfl) ?_
    obtain ⟨t2, zt2, yt2⟩ := hstt.2.1
    refine va_gets hx hb (zt2.narrow hAb) hS hown (hts _ kX7_set_0) (fun _ h9 => h9) dX7_set_10 ?_
    refine lv_iload_n hx hb dX7_set_13 rfl (lv_at hl 1 rfl) ?_
    obtain ⟨hin, h⟩ := gd_sp h
    refine va_ti hx hb (yt2.narrow hAb) hS hin (v := .int (fLe a0.toNatClampNeg)) rfl dX7_set_14 ?_
    obtain ⟨t3, zt3, yt3⟩ := hstt.2.2
    refine va_gets hx hb (zt3.narrow hAb) hS hown (hts _ kX7_set_1) (fun _ h9 => h9) dX7_set_15 ?_
    refine lv_iload_n hx hb dX7_set_18 rfl (lv_at hl 1 rfl) ?_
    obtain ⟨hin, h⟩ := gd_sp h
    refine va_ti hx hb (yt3.narrow hAb) hS hin (v := .int (fMo a0.toNatClampNeg)) rfl dX7_set_19 ?_
    obtain ⟨r4, hcr4, h⟩ := bn_sp h
    have hPc := hP.sub (ws' := []) [] rfl
    have hDc := hD.sub (ws' := []) [] (by decide) rfl
    have hFc := va_free (wc := []) hD hS hA [] rfl
    refine va_calli (va_runS (As := [.int a1, .int (fLe a0.toNatClampNeg), .int (fMo a0.toNatClampNeg)]) (rest := []) ⟨hx, hb, hml, hown, hts⟩ (m_X7_within l D cI cC cZ cR  _  a1 (fLe a0.toNatClampNeg) (fMo a0.toNatClampNeg)   r4 hcr4) (va_cwS 3 hts gX7_set_X7_within rfl rfl rfl (by decide +kernel) ⟨Nat.le_of_ble_eq_true rfl, Nat.le_of_ble_eq_true rfl⟩) (cPc_ps hPc hK hDc) rfl rfl hl.1 rfl (lv_room (Nat.le_of_ble_eq_true rfl)) dX7_set_20 ⟨Nat.le_of_ble_eq_true rfl, Nat.le_of_ble_eq_true rfl⟩) hS (fun q _ h => hFc q h) hFc (fun xq u t H1 locs ht hvm hw hB hz1 hk1 hS => ?_)
    rw [hw]
    obtain ⟨hP1, hD1⟩ := hB
    rw [ht] at hP1
    obtain ⟨hP, hD⟩ := jT1 (R := [(mm, .inr (7, [.ref sc, .ref cm, .ref hh, .ref sla, .ref pd, .ref rd])), (sc, .inr (5, [.ref sea, .ref th, .ref pi, .int tm, .int ps, .int ft, .int fk])), (sea, .inl (cI, 4, .inl se)), (th, .inr (6, [.int mn, .ref th1, .ref th2, .ref th3, .ref th4, .ref th5, .ref th6, .ref th7, .ref th8, .ref th9])), (th1, .inl (cI, 8, .inl ln)), (th2, .inl (cI, 8, .inl hi)), (th3, .inl (cI, 8, .inl wi)), (th4, .inl (cI, 8, .inl br)), (th5, .inl (cI, 8, .inl sp)), (th6, .inl (cI, 8, .inl si)), (th7, .inl (cI, 8, .inl le)), (th8, .inl (cI, 8, .inl un)), (th9, .inl (cI, 8, .inl ul)), (pi, .inr (3, [.ref pia])), (pia, .inl (cI, 384, .inl px)), (cm, .inr (0, [.ref cm1, .ref cm2, .ref cm3])), (cm1, .inl (cI, 24, .inl lea)), (cm2, .inl (cI, 24, .inl upr)), (cm3, .inl (cI, 25, .inl ris)), (pd, .inr (2, [.ref pda, .int pl])), (pda, .inl (cC, 80, .inl tx)), (rd, .inr (4, [.ref pd, .int at_, .int kd, .ref rda])), (rda, .inl (cI, 7, .inl va)), (hh, .inr (1, [.ref hst, .int nx, .int hm])), (hst, .inl (cR, 6, .inr (.inr (.inr (.inr (hfn pr ad))))))]) (w1 := []) hP hD [] [0, 1, 2, 3, 4, 5, 6, 7, 8, 9, 10, 11, 12, 13, 14, 15, 16, 17, 18, 19, 20, 21, 22, 23, 24] rfl rfl (by decide) (by decide) hk1 hFc hP1 hD1
    generalize H1 = H at hP hS ⊢
    have hP : va_P D vwCl ((ws_mainT cI cC cZ cR mm sc sea th th1 th2 th3 th4 th5 th6 th7 th8 th9 pi pia cm cm1 cm2 cm3 pd pda rd rda hh hst sla se mn ln hi wi br sp si le un ul px tm ps ft fk lea upr ris pl tx at_ kd va nx hm pr ad) ++ hwB cI cC cZ cR pr ad sv) H := hP
    have hD : va_D A ((ws_mainT cI cC cZ cR mm sc sea th th1 th2 th3 th4 th5 th6 th7 th8 th9 pi pia cm cm1 cm2 cm3 pd pda rd rda hh hst sla se mn ln hi wi br sp si le un ul px tm ps ft fk lea upr ris pl tx at_ kd va nx hm pr ad) ++ hwB cI cC cZ cR pr ad sv) := hD
    refine lv_if_ne (tgt := 29) hx hb dX7_set_23 (by decide) (fun c8 => ?_) (fun c8 => ?_)
    · replace h := br_p c8 h
      refine lv_aload_n hx hb dX7_set_29 rfl (lv_at hl 0 rfl) ?_
      refine va_get (D := D) (ci := 7) (v := .ref hh) (C := RX7) (T := TX7) (N := 6) hx hb hts uX7_set_X7 hown hK.1 hP 0 rfl rfl 2 (by decide) (hts _ kX7_set_3) (fun _ h9 => h9) rfl dX7_set_30 ?_
      refine lv_aload_n hx hb dX7_set_33 rfl (lv_at hl 0 rfl) ?_
      refine va_get (D := D) (ci := 7) (v := .ref sc) (C := RX7) (T := TX7) (N := 6) hx hb hts uX7_set_X7 hown hK.1 hP 0 rfl rfl 0 (by decide) (hts _ kX7_set_4) (fun _ h9 => h9) rfl dX7_set_34 ?_
      obtain ⟨r5, hcr5, h⟩ := bn_sp h
      have hPc := va_P_subT (X' := (ws_histT_scene cI cC cZ cR hh hst sc sea th th1 th2 th3 th4 th5 th6 th7 th8 th9 pi pia nx hm se mn ln hi wi br sp si le un ul px tm ps ft fk pr ad)) hP [23, 24, 1, 2, 3, 4, 5, 6, 7, 8, 9, 10, 11, 12, 13, 14] rfl
      have hDc := va_D_subT (X' := (ws_histT_scene cI cC cZ cR hh hst sc sea th th1 th2 th3 th4 th5 th6 th7 th8 th9 pi pia nx hm se mn ln hi wi br sp si le un ul px tm ps ft fk pr ad)) hD [23, 24, 1, 2, 3, 4, 5, 6, 7, 8, 9, 10, 11, 12, 13, 14] (by decide) rfl
      have hFc := va_freeT (wc := (ws_histT_scene cI cC cZ cR hh hst sc sea th th1 th2 th3 th4 th5 th6 th7 th8 th9 pi pia nx hm se mn ln hi wi br sp si le un ul px tm ps ft fk pr ad)) hD hS hA [23, 24, 1, 2, 3, 4, 5, 6, 7, 8, 9, 10, 11, 12, 13, 14] rfl
      refine va_callv (va_runV (As := [.ref sc]) (rest := []) ⟨hx, hb, hml, hown, hts⟩ (m_X1_record l D cI cC cZ cR hh hst sc sea th th1 th2 th3 th4 th5 th6 th7 th8 th9 pi pia _ nx hm se mn ln hi wi br sp si le un ul px tm ps ft fk pr ad sv  b0  r5 hcr5) (cwV 1 hts gX7_set_X1_record rfl rfl rfl (by decide +kernel) ⟨Nat.le_of_ble_eq_true rfl, Nat.le_of_ble_eq_true rfl⟩) (cPcS_pv hPc hK hDc hAb hb0 hS hstt (ci := 1) (q0 := 0) rfl rfl) rfl rfl hl.1 rfl (lv_room (Nat.le_of_ble_eq_true rfl)) dX7_set_37 ⟨Nat.le_of_ble_eq_true rfl, Nat.le_of_ble_eq_true rfl⟩) hS (fun q _ h => hFc q h) hFc (fun u6 t H1 locs ht hvm hw hB hz1 hk1 hS => ?_)
      obtain ⟨hP1, hD1⟩ := hB
      rw [ht] at hP1
      obtain ⟨hP, hD⟩ := jT2 (R := [(mm, .inr (7, [.ref sc, .ref cm, .ref hh, .ref sla, .ref pd, .ref rd])), (cm, .inr (0, [.ref cm1, .ref cm2, .ref cm3])), (cm1, .inl (cI, 24, .inl lea)), (cm2, .inl (cI, 24, .inl upr)), (cm3, .inl (cI, 25, .inl ris)), (pd, .inr (2, [.ref pda, .int pl])), (pda, .inl (cC, 80, .inl tx)), (rd, .inr (4, [.ref pd, .int at_, .int kd, .ref rda])), (rda, .inl (cI, 7, .inl va))]) (w1 := (ws_histT_scene cI cC cZ cR hh hst sc sea th th1 th2 th3 th4 th5 th6 th7 th8 th9 pi pia r5.2.2.1 r5.2.2.2 se mn ln hi wi br sp si le un ul px tm ps ft fk r5.1 u6)) hP hD [23, 24, 1, 2, 3, 4, 5, 6, 7, 8, 9, 10, 11, 12, 13, 14] [0, 15, 16, 17, 18, 19, 20, 21, 22] rfl rfl (by decide) (by decide) hk1 hFc hP1 hD1
      have hP := va_P_subT (X' := (ws_mainT cI cC cZ cR mm sc sea th th1 th2 th3 th4 th5 th6 th7 th8 th9 pi pia cm cm1 cm2 cm3 pd pda rd rda hh hst sla se mn ln hi wi br sp si le un ul px tm ps ft fk lea upr ris pl tx at_ kd va r5.2.2.1 r5.2.2.2 r5.1 u6)) hP [0, 11, 12, 13, 14, 15, 16, 17, 18, 19, 20, 21, 22, 23, 24, 1, 2, 3, 4, 5, 6, 7, 8, 9, 10] rfl
      have hD := va_D_subT (X' := (ws_mainT cI cC cZ cR mm sc sea th th1 th2 th3 th4 th5 th6 th7 th8 th9 pi pia cm cm1 cm2 cm3 pd pda rd rda hh hst sla se mn ln hi wi br sp si le un ul px tm ps ft fk lea upr ris pl tx at_ kd va r5.2.2.1 r5.2.2.2 r5.1 u6)) hD [0, 11, 12, 13, 14, 15, 16, 17, 18, 19, 20, 21, 22, 23, 24, 1, 2, 3, 4, 5, 6, 7, 8, 9, 10] (by decide) rfl
      generalize H1 = H at hP hS ⊢
      refine lv_aload_n hx hb dX7_set_40 rfl (lv_at hl 0 rfl) ?_
      refine va_get (D := D) (ci := 7) (v := .ref sc) (C := RX7) (T := TX7) (N := 6) hx hb hts uX7_set_X7 hown hK.1 hP 0 rfl rfl 0 (by decide) (hts _ kX7_set_4) (fun _ h9 => h9) rfl dX7_set_41 ?_
      refine va_get (D := D) (ci := 5) (v := .ref sea) (C := RX5) (T := TX5) (N := 7) hx hb hts uX7_set_X5 hown hK.1 hP 1 rfl rfl 0 (by decide) (hts _ kX7_set_6) (fun _ h9 => h9) rfl dX7_set_44 ?_
      refine lv_iload_n hx hb dX7_set_47 rfl (lv_at hl 1 rfl) ?_
      obtain ⟨hin, h⟩ := gd_sp h
      refine va_iald (D := D) hx hb hK.1 hP 2 0 rfl rfl hin dX7_set_48 ?_
      refine lv_topi (fun x7 ex7 => ?_)
      replace h := bd_s2 h ex7
      refine lv_istore_n (lv' := [(3, .int x7), (0, .ref mm), (1, .int a0), (2, .int a1)]) hx hb dX7_set_49 rfl hl (by decide) rfl (fun ls hl => ?_)
      refine lv_aload_n hx hb dX7_set_50 rfl (lv_at hl 1 rfl) ?_
      refine va_get (D := D) (ci := 7) (v := .ref sc) (C := RX7) (T := TX7) (N := 6) hx hb hts uX7_set_X7 hown hK.1 hP 0 rfl rfl 0 (by decide) (hts _ kX7_set_4) (fun _ h9 => h9) rfl dX7_set_51 ?_
      refine va_get (D := D) (ci := 5) (v := .ref sea) (C := RX5) (T := TX5) (N := 7) hx hb hts uX7_set_X5 hown hK.1 hP 1 rfl rfl 0 (by decide) (hts _ kX7_set_6) (fun _ h9 => h9) rfl dX7_set_54 ?_
      refine lv_iload_n hx hb dX7_set_57 rfl (lv_at hl 2 rfl) ?_
      refine lv_iload_n hx hb dX7_set_58 rfl (lv_at hl 3 rfl) ?_
      obtain ⟨hin, h⟩ := gd_sp h
      refine va_iast (D := D) hx hb hK.1 hP hD hS 2 0 rfl rfl hin dX7_set_59 (fun H locs hP hD hS => ?_)
      have hP : va_P D vwCl ((ws_mainT cI cC cZ cR mm sc sea th th1 th2 th3 th4 th5 th6 th7 th8 th9 pi pia cm cm1 cm2 cm3 pd pda rd rda hh hst sla (upd se a0.toNatClampNeg a1) mn ln hi wi br sp si le un ul px tm ps ft fk lea upr ris pl tx at_ kd va r5.2.2.1 r5.2.2.2 r5.1 u6) ++ hwB cI cC cZ cR r5.1 u6 r5.2.1) H := hP
      have hD : va_D A ((ws_mainT cI cC cZ cR mm sc sea th th1 th2 th3 th4 th5 th6 th7 th8 th9 pi pia cm cm1 cm2 cm3 pd pda rd rda hh hst sla (upd se a0.toNatClampNeg a1) mn ln hi wi br sp si le un ul px tm ps ft fk lea upr ris pl tx at_ kd va r5.2.2.1 r5.2.2.2 r5.1 u6) ++ hwB cI cC cZ cR r5.1 u6 r5.2.1) := hD
      refine lv_iload_n hx hb dX7_set_60 rfl (lv_at hl 0 rfl) ?_
      have e9 := Option.some.inj h
      subst e9
      rw [hQ]
      exact W.iret (v := x7) hx hb hr (fun t ht hW => ⟨⟨x7, u6, rfl, rfl, by rw [ht]; exact hP, hD⟩, hS.F ht⟩) hS.2.2 dX7_set_61
    · replace h := br_n (not_not_intro c8) h
      refine lv_bipush (v := (-2)) hx hb dX7_set_26 (by decide) ?_
      have e9 := Option.some.inj h
      subst e9
      rw [hQ]
      refine W.widen (k := 14) (n := 478) (by decide) (by decide) ?_
      exact W.iret (v := (-2)) hx hb hr (fun t ht hW => ⟨⟨(-2), ad, rfl, rfl, by rw [ht]; exact hP, hD⟩, hS.F ht⟩) hS.2.2 dX7_set_28
-- LeaningLines.thing
abbrev OUT_X7_thing : Type := Int32 × (Nat → Bool) × (Nat → SCV) × Int32 × (Nat → Int32) × (Nat → Int32) × (Nat → Int32) × (Nat → Int32) × (Nat → Int32) × (Nat → Int32) × (Nat → Int32) × (Nat → Int32) × (Nat → Int32) × Int32 × Int32
def f_X7_thing (se : Nat → Int32) (mn : Int32) (ln : Nat → Int32) (hi : Nat → Int32) (wi : Nat → Int32) (br : Nat → Int32) (sp : Nat → Int32) (si : Nat → Int32) (le : Nat → Int32) (un : Nat → Int32) (ul : Nat → Int32) (px : Nat → Int32) (tm : Int32) (ps : Int32) (ft : Int32) (fk : Int32) (nx : Int32) (hm : Int32) (pr : Nat → Bool) (sv : Nat → SCV) (a0 : Int32) (a1 : Int32) (a2 : Int32) (a3 : Int32) (a4 : Int32) : Option OUT_X7_thing :=
  bn (f_X7_errorOfThing mn a0 a1 a2 a3 a4) (fun r1 => (if r1 = 0 then bn (f_X1_record nx hm se mn ln hi wi br sp si le un ul px tm ps ft fk pr sv) (fun r2 => bn (f_X6_add mn ln hi wi br sp si le un ul a0 a1 a2 a3 a4 tm) (fun r4 => some ((r4.1, r2.1, r2.2.1, r4.2.1, r4.2.2.1, r4.2.2.2.1, r4.2.2.2.2.1, r4.2.2.2.2.2.1, r4.2.2.2.2.2.2.1, r4.2.2.2.2.2.2.2.1, r4.2.2.2.2.2.2.2.2.1, r4.2.2.2.2.2.2.2.2.2.1, r4.2.2.2.2.2.2.2.2.2.2, r2.2.2.1, r2.2.2.2)))) else some ((r1, pr, sv, mn, ln, hi, wi, br, sp, si, le, un, ul, nx, hm))))
theorem uX7_thing_X7 : ∀ w ∈ wsX70, w ∈ wsX7_thing := by decide +kernel
theorem kX7_thing_1 : Cond.fieldLink RX7 26 "LeaningLines" "history" "LLeaningLines$History;" ∈ wsX7_thing := by decide +kernel
theorem kX7_thing_2 : Cond.fieldLink RX7 10 "LeaningLines" "scene" "LLeaningLines$Scene;" ∈ wsX7_thing := by decide +kernel
theorem uX7_thing_X5 : ∀ w ∈ wsX50, w ∈ wsX7_thing := by decide +kernel
theorem kX7_thing_4 : Cond.fieldLink RX7 72 "LeaningLines$Scene" "things" "LLeaningLines$Things;" ∈ wsX7_thing := by decide +kernel
theorem kX7_thing_5 : Cond.fieldLink RX7 76 "LeaningLines$Scene" "time" "I" ∈ wsX7_thing := by decide +kernel
abbrev R_X7_thing : Room := { frames := 4, cells := 14, slots := 478, locals := 104 }
set_option maxHeartbeats 4000000 in
set_option maxRecDepth 100000 in
theorem m_X7_thing (l : Launch) (D : va_G) (cI cC cZ cR : ClassId) (mm sc sea th th1 th2 th3 th4 th5 th6 th7 th8 th9 pi pia cm cm1 cm2 cm3 pd pda rd rda hh hst sla : Nat) (sz : Nat) (se : Nat → Int32) (mn : Int32) (ln : Nat → Int32) (hi : Nat → Int32) (wi : Nat → Int32) (br : Nat → Int32) (sp : Nat → Int32) (si : Nat → Int32) (le : Nat → Int32) (un : Nat → Int32) (ul : Nat → Int32) (px : Nat → Int32) (tm : Int32) (ps : Int32) (ft : Int32) (fk : Int32) (lea : Nat → Int32) (upr : Nat → Int32) (ris : Nat → Int32) (pl : Int32) (tx : Nat → Int32) (at_ : Int32) (kd : Int32) (va : Nat → Int32) (nx : Int32) (hm : Int32) (pr : Nat → Bool) (ad : Nat → Nat → Nat) (sv : Nat → SCV) (a0 : Int32) (a1 : Int32) (a2 : Int32) (a3 : Int32) (a4 : Int32) (b0 : Nat)  (r : OUT_X7_thing) (hf : f_X7_thing se mn ln hi wi br sp si le un ul px tm ps ft fk nx hm pr sv a0 a1 a2 a3 a4 = some r) : Met l yX7_thing wsX7_thing R_X7_thing (cPcS D cI cC cZ cR b0 [.ref mm, .int a0, .int a1, .int a2, .int a3, .int a4] sz ((ws_mainT cI cC cZ cR mm sc sea th th1 th2 th3 th4 th5 th6 th7 th8 th9 pi pia cm cm1 cm2 cm3 pd pda rd rda hh hst sla se mn ln hi wi br sp si le un ul px tm ps ft fk lea upr ris pl tx at_ kd va nx hm pr ad) ++ hwB cI cC cZ cR pr ad sv)) (va_Qi (fun (x : Int32) (_ : Nat → Nat → Nat) => x = r.1) (fun u t => va_P D vwCl (((ws_mainT cI cC cZ cR mm sc sea th th1 th2 th3 th4 th5 th6 th7 th8 th9 pi pia cm cm1 cm2 cm3 pd pda rd rda hh hst sla se r.2.2.2.1 r.2.2.2.2.1 r.2.2.2.2.2.1 r.2.2.2.2.2.2.1 r.2.2.2.2.2.2.2.1 r.2.2.2.2.2.2.2.2.1 r.2.2.2.2.2.2.2.2.2.1 r.2.2.2.2.2.2.2.2.2.2.1 r.2.2.2.2.2.2.2.2.2.2.2.1 r.2.2.2.2.2.2.2.2.2.2.2.2.1 px tm ps ft fk lea upr ris pl tx at_ kd va r.2.2.2.2.2.2.2.2.2.2.2.2.2.1 r.2.2.2.2.2.2.2.2.2.2.2.2.2.2 r.2.1 u) ++ hwB cI cC cZ cR r.2.1 u r.2.2.1)) t.heap ∧ va_D (va_A ((ws_mainT cI cC cZ cR mm sc sea th th1 th2 th3 th4 th5 th6 th7 th8 th9 pi pia cm cm1 cm2 cm3 pd pda rd rda hh hst sla se mn ln hi wi br sp si le un ul px tm ps ft fk lea upr ris pl tx at_ kd va nx hm pr ad) ++ hwB cI cC cZ cR pr ad sv) sz) (((ws_mainT cI cC cZ cR mm sc sea th th1 th2 th3 th4 th5 th6 th7 th8 th9 pi pia cm cm1 cm2 cm3 pd pda rd rda hh hst sla se r.2.2.2.1 r.2.2.2.2.1 r.2.2.2.2.2.1 r.2.2.2.2.2.2.1 r.2.2.2.2.2.2.2.1 r.2.2.2.2.2.2.2.2.1 r.2.2.2.2.2.2.2.2.2.1 r.2.2.2.2.2.2.2.2.2.2.1 r.2.2.2.2.2.2.2.2.2.2.2.1 r.2.2.2.2.2.2.2.2.2.2.2.2.1 px tm ps ft fk lea upr ris pl tx at_ kd va r.2.2.2.2.2.2.2.2.2.2.2.2.2.1 r.2.2.2.2.2.2.2.2.2.2.2.2.2.2 r.2.1 u) ++ hwB cI cC cZ cR r.2.1 u r.2.2.1))) (va_A ((ws_mainT cI cC cZ cR mm sc sea th th1 th2 th3 th4 th5 th6 th7 th8 th9 pi pia cm cm1 cm2 cm3 pd pda rd rda hh hst sla se mn ln hi wi br sp si le un ul px tm ps ft fk lea upr ris pl tx at_ kd va nx hm pr ad) ++ hwB cI cC cZ cR pr ad sv) sz)) 14 478 (va_A ((ws_mainT cI cC cZ cR mm sc sea th th1 th2 th3 th4 th5 th6 th7 th8 th9 pi pia cm cm1 cm2 cm3 pd pda rd rda hh hst sla se mn ln hi wi br sp si le un ul px tm ps ft fk lea upr ris pl tx at_ kd va nx hm pr ad) ++ hwB cI cC cZ cR pr ad sv) sz) := by
  refine Met.ofW (cc := cX7_thing) (maxL := 7) (ret := (some .int)) (by decide) rfl ?_
  intro p e s m args below meth c s₁ B hml hv
  obtain ⟨rfl, hsz, hP, hK, hD0, hb0, hstt⟩ := hv
  have hx := B.exec
  have hb := B.bytes
  have hr := B.returns
  have hts := atoms_spec (ws := wsX7_thing) B.pre
  have hown : s.vm.findClass RX7 = some m.cls := findClass_of_methodNamed B.named
  have hlocks := B.notSynchronized
  subst hsz
  have hD := hD0.self (sz := s.heap.size)
  generalize hAe : va_A ((ws_mainT cI cC cZ cR mm sc sea th th1 th2 th3 th4 th5 th6 th7 th8 th9 pi pia cm cm1 cm2 cm3 pd pda rd rda hh hst sla se mn ln hi wi br sp si le un ul px tm ps ft fk lea upr ris pl tx at_ kd va nx hm pr ad) ++ hwB cI cC cZ cR pr ad sv) s.heap.size = A at hD ⊢
  have hAb := hAb_of hAe hD0 hb0
  have hA : ∀ q : Nat, s.heap.size ≤ q → A q := fun q h => by rw [← hAe]; exact Or.inr h
  have hS : va_S A s.heap s.heap [] := va_S.rf
  have hl := lv_entry ([.ref mm, .int a0, .int a1, .int a2, .int a3, .int a4]) (n := 7) (Nat.le_of_ble_eq_true rfl)
  rw [lg_entry_eq]
  generalize (lg_sl ([.ref mm, .int a0, .int a1, .int a2, .int a3, .int a4]) ++ List.replicate (7 - (lg_sl ([.ref mm, .int a0, .int a1, .int a2, .int a3, .int a4])).length) Slot.unset).toArray = ls at hl ⊢
  have hl : lv_has ls 7 [(0, .ref mm), (1, .int a0), (2, .int a1), (3, .int a2), (4, .int a3), (5, .int a4)] := hl
  refine W_absQ (fun Q hQ => ?_)
  refine W.eq (g2 := F0 m 0 ls []) rfl ?_
  have h := hf
  unfold f_X7_thing at h
  refine lv_aload_n hx hb dX7_thing_0 rfl (lv_at hl 0 rfl) ?_
  refine lv_iload_n hx hb dX7_thing_1 rfl (lv_at hl 1 rfl) ?_
  refine lv_iload_n hx hb dX7_thing_2 rfl (lv_at hl 2 rfl) ?_
  refine lv_iload_n hx hb dX7_thing_3 rfl (lv_at hl 3 rfl) ?_
  refine lv_iload hx hb dX7_thing_4 (lv_at hl 4 rfl) ?_
  refine lv_iload hx hb dX7_thing_6 (lv_at hl 5 rfl) ?_
  obtain ⟨r1, hcr1, h⟩ := bn_sp h
  have hPc := hP.sub (ws' := (ws_main cI cC cZ cR mm sc sea th th1 th2 th3 th4 th5 th6 th7 th8 th9 pi pia cm cm1 cm2 cm3 pd pda rd rda hh sla se mn ln hi wi br sp si le un ul px tm ps ft fk lea upr ris pl tx at_ kd va)) [0, 1, 2, 3, 4, 5, 6, 7, 8, 9, 10, 11, 12, 13, 14, 15, 16, 17, 18, 19, 20, 21, 22] rfl
  have hDc := hD.sub (ws' := (ws_main cI cC cZ cR mm sc sea th th1 th2 th3 th4 th5 th6 th7 th8 th9 pi pia cm cm1 cm2 cm3 pd pda rd rda hh sla se mn ln hi wi br sp si le un ul px tm ps ft fk lea upr ris pl tx at_ kd va)) [0, 1, 2, 3, 4, 5, 6, 7, 8, 9, 10, 11, 12, 13, 14, 15, 16, 17, 18, 19, 20, 21, 22] (by decide) rfl
  have hFc := va_free (wc := (ws_main cI cC cZ cR mm sc sea th th1 th2 th3 th4 th5 th6 th7 th8 th9 pi pia cm cm1 cm2 cm3 pd pda rd rda hh sla se mn ln hi wi br sp si le un ul px tm ps ft fk lea upr ris pl tx at_ kd va)) hD hS hA [0, 1, 2, 3, 4, 5, 6, 7, 8, 9, 10, 11, 12, 13, 14, 15, 16, 17, 18, 19, 20, 21, 22] rfl
  refine va_calli (va_runV (As := [.int a0, .int a1, .int a2, .int a3, .int a4]) (rest := []) ⟨hx, hb, hml, hown, hts⟩ (m_X7_errorOfThing l D cI cC cZ cR mm sc sea th th1 th2 th3 th4 th5 th6 th7 th8 th9 pi pia cm cm1 cm2 cm3 pd pda rd rda hh sla _ se mn ln hi wi br sp si le un ul px tm ps ft fk lea upr ris pl tx at_ kd va a0 a1 a2 a3 a4   r1 hcr1) (cwV 5 hts gX7_thing_X7_errorOfThing rfl rfl rfl (by decide +kernel) ⟨Nat.le_of_ble_eq_true rfl, Nat.le_of_ble_eq_true rfl⟩) (cPc_pv hPc hK hDc (ci := 7) (q0 := 0) rfl rfl) rfl rfl hl.1 rfl (lv_room (Nat.le_of_ble_eq_true rfl)) dX7_thing_8 ⟨Nat.le_of_ble_eq_true rfl, Nat.le_of_ble_eq_true rfl⟩) hS (fun q _ h => hFc q h) hFc (fun xq u t H1 locs ht hvm hw hB hz1 hk1 hS => ?_)
  rw [hw]
  obtain ⟨hP1, hD1⟩ := hB
  rw [ht] at hP1
  obtain ⟨hP, hD⟩ := jT1 (R := [(hh, .inr (1, [.ref hst, .int nx, .int hm])), (hst, .inl (cR, 6, .inr (.inr (.inr (.inr (hfn pr ad))))))]) (w1 := (ws_main cI cC cZ cR mm sc sea th th1 th2 th3 th4 th5 th6 th7 th8 th9 pi pia cm cm1 cm2 cm3 pd pda rd rda hh sla se mn ln hi wi br sp si le un ul px tm ps ft fk lea upr ris pl tx at_ kd va)) hP hD [0, 1, 2, 3, 4, 5, 6, 7, 8, 9, 10, 11, 12, 13, 14, 15, 16, 17, 18, 19, 20, 21, 22] [23, 24] rfl rfl (by decide) (by decide) hk1 hFc hP1 hD1
  have hP := va_P_subT (X' := (ws_mainT cI cC cZ cR mm sc sea th th1 th2 th3 th4 th5 th6 th7 th8 th9 pi pia cm cm1 cm2 cm3 pd pda rd rda hh hst sla se mn ln hi wi br sp si le un ul px tm ps ft fk lea upr ris pl tx at_ kd va nx hm pr ad)) hP [2, 3, 4, 5, 6, 7, 8, 9, 10, 11, 12, 13, 14, 15, 16, 17, 18, 19, 20, 21, 22, 23, 24, 0, 1] rfl
  have hD := va_D_subT (X' := (ws_mainT cI cC cZ cR mm sc sea th th1 th2 th3 th4 th5 th6 th7 th8 th9 pi pia cm cm1 cm2 cm3 pd pda rd rda hh hst sla se mn ln hi wi br sp si le un ul px tm ps ft fk lea upr ris pl tx at_ kd va nx hm pr ad)) hD [2, 3, 4, 5, 6, 7, 8, 9, 10, 11, 12, 13, 14, 15, 16, 17, 18, 19, 20, 21, 22, 23, 24, 0, 1] (by decide) rfl
  generalize H1 = H at hP hS ⊢
  refine lv_istore (lv' := [(6, .int r1), (0, .ref mm), (1, .int a0), (2, .int a1), (3, .int a2), (4, .int a3), (5, .int a4)]) hx hb dX7_thing_11 hl (by decide) rfl (fun ls hl => ?_)
  refine lv_iload hx hb dX7_thing_13 (lv_at hl 0 rfl) ?_
  refine lv_if_eq (tgt := 21) hx hb dX7_thing_15 (by decide) (fun c5 => ?_) (fun c5 => ?_)
  · replace h := br_p c5 h
    refine lv_aload_n hx hb dX7_thing_21 rfl (lv_at hl 1 rfl) ?_
    refine va_get (D := D) (ci := 7) (v := .ref hh) (C := RX7) (T := TX7) (N := 6) hx hb hts uX7_thing_X7 hown hK.1 hP 0 rfl rfl 2 (by decide) (hts _ kX7_thing_1) (fun _ h9 => h9) rfl dX7_thing_22 ?_
    refine lv_aload_n hx hb dX7_thing_25 rfl (lv_at hl 1 rfl) ?_
    refine va_get (D := D) (ci := 7) (v := .ref sc) (C := RX7) (T := TX7) (N := 6) hx hb hts uX7_thing_X7 hown hK.1 hP 0 rfl rfl 0 (by decide) (hts _ kX7_thing_2) (fun _ h9 => h9) rfl dX7_thing_26 ?_
    obtain ⟨r2, hcr2, h⟩ := bn_sp h
    have hPc := va_P_subT (X' := (ws_histT_scene cI cC cZ cR hh hst sc sea th th1 th2 th3 th4 th5 th6 th7 th8 th9 pi pia nx hm se mn ln hi wi br sp si le un ul px tm ps ft fk pr ad)) hP [23, 24, 1, 2, 3, 4, 5, 6, 7, 8, 9, 10, 11, 12, 13, 14] rfl
    have hDc := va_D_subT (X' := (ws_histT_scene cI cC cZ cR hh hst sc sea th th1 th2 th3 th4 th5 th6 th7 th8 th9 pi pia nx hm se mn ln hi wi br sp si le un ul px tm ps ft fk pr ad)) hD [23, 24, 1, 2, 3, 4, 5, 6, 7, 8, 9, 10, 11, 12, 13, 14] (by decide) rfl
    have hFc := va_freeT (wc := (ws_histT_scene cI cC cZ cR hh hst sc sea th th1 th2 th3 th4 th5 th6 th7 th8 th9 pi pia nx hm se mn ln hi wi br sp si le un ul px tm ps ft fk pr ad)) hD hS hA [23, 24, 1, 2, 3, 4, 5, 6, 7, 8, 9, 10, 11, 12, 13, 14] rfl
    refine va_callv (va_runV (As := [.ref sc]) (rest := []) ⟨hx, hb, hml, hown, hts⟩ (m_X1_record l D cI cC cZ cR hh hst sc sea th th1 th2 th3 th4 th5 th6 th7 th8 th9 pi pia _ nx hm se mn ln hi wi br sp si le un ul px tm ps ft fk pr ad sv  b0  r2 hcr2) (cwV 1 hts gX7_thing_X1_record rfl rfl rfl (by decide +kernel) ⟨Nat.le_of_ble_eq_true rfl, Nat.le_of_ble_eq_true rfl⟩) (cPcS_pv hPc hK hDc hAb hb0 hS hstt (ci := 1) (q0 := 0) rfl rfl) rfl rfl hl.1 rfl (lv_room (Nat.le_of_ble_eq_true rfl)) dX7_thing_29 ⟨Nat.le_of_ble_eq_true rfl, Nat.le_of_ble_eq_true rfl⟩) hS (fun q _ h => hFc q h) hFc (fun u3 t H1 locs ht hvm hw hB hz1 hk1 hS => ?_)
    obtain ⟨hP1, hD1⟩ := hB
    rw [ht] at hP1
    obtain ⟨hP, hD⟩ := jT2 (R := [(mm, .inr (7, [.ref sc, .ref cm, .ref hh, .ref sla, .ref pd, .ref rd])), (cm, .inr (0, [.ref cm1, .ref cm2, .ref cm3])), (cm1, .inl (cI, 24, .inl lea)), (cm2, .inl (cI, 24, .inl upr)), (cm3, .inl (cI, 25, .inl ris)), (pd, .inr (2, [.ref pda, .int pl])), (pda, .inl (cC, 80, .inl tx)), (rd, .inr (4, [.ref pd, .int at_, .int kd, .ref rda])), (rda, .inl (cI, 7, .inl va))]) (w1 := (ws_histT_scene cI cC cZ cR hh hst sc sea th th1 th2 th3 th4 th5 th6 th7 th8 th9 pi pia r2.2.2.1 r2.2.2.2 se mn ln hi wi br sp si le un ul px tm ps ft fk r2.1 u3)) hP hD [23, 24, 1, 2, 3, 4, 5, 6, 7, 8, 9, 10, 11, 12, 13, 14] [0, 15, 16, 17, 18, 19, 20, 21, 22] rfl rfl (by decide) (by decide) hk1 hFc hP1 hD1
    have hP := va_P_subT (X' := (ws_mainT cI cC cZ cR mm sc sea th th1 th2 th3 th4 th5 th6 th7 th8 th9 pi pia cm cm1 cm2 cm3 pd pda rd rda hh hst sla se mn ln hi wi br sp si le un ul px tm ps ft fk lea upr ris pl tx at_ kd va r2.2.2.1 r2.2.2.2 r2.1 u3)) hP [0, 11, 12, 13, 14, 15, 16, 17, 18, 19, 20, 21, 22, 23, 24, 1, 2, 3, 4, 5, 6, 7, 8, 9, 10] rfl
    have hD := va_D_subT (X' := (ws_mainT cI cC cZ cR mm sc sea th th1 th2 th3 th4 th5 th6 th7 th8 th9 pi pia cm cm1 cm2 cm3 pd pda rd rda hh hst sla se mn ln hi wi br sp si le un ul px tm ps ft fk lea upr ris pl tx at_ kd va r2.2.2.1 r2.2.2.2 r2.1 u3)) hD [0, 11, 12, 13, 14, 15, 16, 17, 18, 19, 20, 21, 22, 23, 24, 1, 2, 3, 4, 5, 6, 7, 8, 9, 10] (by decide) rfl
    generalize H1 = H at hP hS ⊢
    refine lv_aload_n hx hb dX7_thing_32 rfl (lv_at hl 1 rfl) ?_
    refine va_get (D := D) (ci := 7) (v := .ref sc) (C := RX7) (T := TX7) (N := 6) hx hb hts uX7_thing_X7 hown hK.1 hP 0 rfl rfl 0 (by decide) (hts _ kX7_thing_2) (fun _ h9 => h9) rfl dX7_thing_33 ?_
    refine va_get (D := D) (ci := 5) (v := .ref th) (C := RX5) (T := TX5) (N := 7) hx hb hts uX7_thing_X5 hown hK.1 hP 1 rfl rfl 1 (by decide) (hts _ kX7_thing_4) (fun _ h9 => h9) rfl dX7_thing_36 ?_
    refine lv_iload_n hx hb dX7_thing_39 rfl (lv_at hl 2 rfl) ?_
    refine lv_iload_n hx hb dX7_thing_40 rfl (lv_at hl 3 rfl) ?_
    refine lv_iload_n hx hb dX7_thing_41 rfl (lv_at hl 4 rfl) ?_
    refine lv_iload hx hb dX7_thing_42 (lv_at hl 5 rfl) ?_
    refine lv_iload hx hb dX7_thing_44 (lv_at hl 6 rfl) ?_
    refine lv_aload_n hx hb dX7_thing_46 rfl (lv_at hl 1 rfl) ?_
    refine va_get (D := D) (ci := 7) (v := .ref sc) (C := RX7) (T := TX7) (N := 6) hx hb hts uX7_thing_X7 hown hK.1 hP 0 rfl rfl 0 (by decide) (hts _ kX7_thing_2) (fun _ h9 => h9) rfl dX7_thing_47 ?_
    refine va_get (D := D) (ci := 5) (v := .int tm) (C := RX5) (T := TX5) (N := 7) hx hb hts uX7_thing_X5 hown hK.1 hP 1 rfl rfl 3 (by decide) (hts _ kX7_thing_5) (fun _ h9 => h9) rfl dX7_thing_50 ?_
    obtain ⟨r4, hcr4, h⟩ := bn_sp h
    have hPc := hP.sub (ws' := (ws_things cI cC cZ cR th th1 th2 th3 th4 th5 th6 th7 th8 th9 mn ln hi wi br sp si le un ul)) [3, 4, 5, 6, 7, 8, 9, 10, 11, 12] rfl
    have hDc := hD.sub (ws' := (ws_things cI cC cZ cR th th1 th2 th3 th4 th5 th6 th7 th8 th9 mn ln hi wi br sp si le un ul)) [3, 4, 5, 6, 7, 8, 9, 10, 11, 12] (by decide) rfl
    have hFc := va_free (wc := (ws_things cI cC cZ cR th th1 th2 th3 th4 th5 th6 th7 th8 th9 mn ln hi wi br sp si le un ul)) hD hS hA [3, 4, 5, 6, 7, 8, 9, 10, 11, 12] rfl
    refine va_calli (va_runV (As := [.int a0, .int a1, .int a2, .int a3, .int a4, .int tm]) (rest := []) ⟨hx, hb, hml, hown, hts⟩ (m_X6_add l D cI cC cZ cR th th1 th2 th3 th4 th5 th6 th7 th8 th9 _ mn ln hi wi br sp si le un ul a0 a1 a2 a3 a4 tm   r4 hcr4) (cwV 6 hts gX7_thing_X6_add rfl rfl rfl (by decide +kernel) ⟨Nat.le_of_ble_eq_true rfl, Nat.le_of_ble_eq_true rfl⟩) (cPc_pv hPc hK hDc (ci := 6) (q0 := 0) rfl rfl) rfl rfl hl.1 rfl (lv_room (Nat.le_of_ble_eq_true rfl)) dX7_thing_53 ⟨Nat.le_of_ble_eq_true rfl, Nat.le_of_ble_eq_true rfl⟩) hS (fun q _ h => hFc q h) hFc (fun xq u t H1 locs ht hvm hw hB hz1 hk1 hS => ?_)
    rw [hw]
    obtain ⟨hP1, hD1⟩ := hB
    rw [ht] at hP1
    obtain ⟨hP, hD⟩ := jT1 (R := [(mm, .inr (7, [.ref sc, .ref cm, .ref hh, .ref sla, .ref pd, .ref rd])), (sc, .inr (5, [.ref sea, .ref th, .ref pi, .int tm, .int ps, .int ft, .int fk])), (sea, .inl (cI, 4, .inl se)), (pi, .inr (3, [.ref pia])), (pia, .inl (cI, 384, .inl px)), (cm, .inr (0, [.ref cm1, .ref cm2, .ref cm3])), (cm1, .inl (cI, 24, .inl lea)), (cm2, .inl (cI, 24, .inl upr)), (cm3, .inl (cI, 25, .inl ris)), (pd, .inr (2, [.ref pda, .int pl])), (pda, .inl (cC, 80, .inl tx)), (rd, .inr (4, [.ref pd, .int at_, .int kd, .ref rda])), (rda, .inl (cI, 7, .inl va)), (hh, .inr (1, [.ref hst, .int r2.2.2.1, .int r2.2.2.2])), (hst, .inl (cR, 6, .inr (.inr (.inr (.inr (hfn r2.1 u3))))))]) (w1 := (ws_things cI cC cZ cR th th1 th2 th3 th4 th5 th6 th7 th8 th9 r4.2.1 r4.2.2.1 r4.2.2.2.1 r4.2.2.2.2.1 r4.2.2.2.2.2.1 r4.2.2.2.2.2.2.1 r4.2.2.2.2.2.2.2.1 r4.2.2.2.2.2.2.2.2.1 r4.2.2.2.2.2.2.2.2.2.1 r4.2.2.2.2.2.2.2.2.2.2)) hP hD [3, 4, 5, 6, 7, 8, 9, 10, 11, 12] [0, 1, 2, 13, 14, 15, 16, 17, 18, 19, 20, 21, 22, 23, 24] rfl rfl (by decide) (by decide) hk1 hFc hP1 hD1
    have hP := va_P_subT (X' := (ws_mainT cI cC cZ cR mm sc sea th th1 th2 th3 th4 th5 th6 th7 th8 th9 pi pia cm cm1 cm2 cm3 pd pda rd rda hh hst sla se r4.2.1 r4.2.2.1 r4.2.2.2.1 r4.2.2.2.2.1 r4.2.2.2.2.2.1 r4.2.2.2.2.2.2.1 r4.2.2.2.2.2.2.2.1 r4.2.2.2.2.2.2.2.2.1 r4.2.2.2.2.2.2.2.2.2.1 r4.2.2.2.2.2.2.2.2.2.2 px tm ps ft fk lea upr ris pl tx at_ kd va r2.2.2.1 r2.2.2.2 r2.1 u3)) hP [0, 1, 2, 15, 16, 17, 18, 19, 20, 21, 22, 23, 24, 3, 4, 5, 6, 7, 8, 9, 10, 11, 12, 13, 14] rfl
    have hD := va_D_subT (X' := (ws_mainT cI cC cZ cR mm sc sea th th1 th2 th3 th4 th5 th6 th7 th8 th9 pi pia cm cm1 cm2 cm3 pd pda rd rda hh hst sla se r4.2.1 r4.2.2.1 r4.2.2.2.1 r4.2.2.2.2.1 r4.2.2.2.2.2.1 r4.2.2.2.2.2.2.1 r4.2.2.2.2.2.2.2.1 r4.2.2.2.2.2.2.2.2.1 r4.2.2.2.2.2.2.2.2.2.1 r4.2.2.2.2.2.2.2.2.2.2 px tm ps ft fk lea upr ris pl tx at_ kd va r2.2.2.1 r2.2.2.2 r2.1 u3)) hD [0, 1, 2, 15, 16, 17, 18, 19, 20, 21, 22, 23, 24, 3, 4, 5, 6, 7, 8, 9, 10, 11, 12, 13, 14] (by decide) rfl
    generalize H1 = H at hP hS ⊢
    have e9 := Option.some.inj h
    subst e9
    rw [hQ]
    exact W.iret (v := r4.1) hx hb hr (fun t ht hW => ⟨⟨r4.1, u3, rfl, rfl, by rw [ht]; exact hP, hD⟩, hS.F ht⟩) hS.2.2 dX7_thing_56
  · replace h := br_n c5 h
    refine lv_iload hx hb dX7_thing_18 (lv_at hl 0 rfl) ?_
    have e9 := Option.some.inj h
    subst e9
    rw [hQ]
    refine W.widen (k := 14) (n := 478) (by decide) (by decide) ?_
    exact W.iret (v := r1) hx hb hr (fun t ht hW => ⟨⟨r1, ad, rfl, rfl, by rw [ht]; exact hP, hD⟩, hS.F ht⟩) hS.2.2 dX7_thing_20
-- LeaningLines.speed
abbrev OUT_X7_speed : Type := Int32 × (Nat → Bool) × (Nat → SCV) × (Nat → Int32) × (Nat → Int32) × (Nat → Int32) × (Nat → Int32) × (Nat → Int32) × Int32 × Int32
def f_X7_speed (se : Nat → Int32) (mn : Int32) (ln : Nat → Int32) (hi : Nat → Int32) (wi : Nat → Int32) (br : Nat → Int32) (sp : Nat → Int32) (si : Nat → Int32) (le : Nat → Int32) (un : Nat → Int32) (ul : Nat → Int32) (px : Nat → Int32) (tm : Int32) (ps : Int32) (ft : Int32) (fk : Int32) (nx : Int32) (hm : Int32) (pr : Nat → Bool) (sv : Nat → SCV) (a0 : Int32) (a1 : Int32) : Option OUT_X7_speed :=
  bn (f_X7_isThing mn a0) (fun r1 => (if ¬ r1 = 0 then bn (f_X7_isSpeed a1) (fun r2 => (if ¬ r2 = 0 then bn (f_X1_record nx hm se mn ln hi wi br sp si le un ul px tm ps ft fk pr sv) (fun r3 => gd a0 8 (bd (sp a0.toNatClampNeg) (fun x5 => gd a0 8 (bn (f_X6_comeAnew mn sp si le un ul a0 a1 (un a0.toNatClampNeg) tm) (fun r6 => some ((x5 + 100, r3.1, r3.2.1, r6.1, r6.2.1, r6.2.2.1, r6.2.2.2.1, r6.2.2.2.2, r3.2.2.1, r3.2.2.2))))))) else some (((-2), pr, sv, sp, si, le, un, ul, nx, hm)))) else some (((-1), pr, sv, sp, si, le, un, ul, nx, hm))))
theorem uX7_speed_X7 : ∀ w ∈ wsX70, w ∈ wsX7_speed := by decide +kernel
theorem kX7_speed_1 : Cond.fieldLink RX7 26 "LeaningLines" "history" "LLeaningLines$History;" ∈ wsX7_speed := by decide +kernel
theorem kX7_speed_2 : Cond.fieldLink RX7 10 "LeaningLines" "scene" "LLeaningLines$Scene;" ∈ wsX7_speed := by decide +kernel
theorem uX7_speed_X5 : ∀ w ∈ wsX50, w ∈ wsX7_speed := by decide +kernel
theorem kX7_speed_4 : Cond.fieldLink RX7 72 "LeaningLines$Scene" "things" "LLeaningLines$Things;" ∈ wsX7_speed := by decide +kernel
theorem uX7_speed_X6 : ∀ w ∈ wsX60, w ∈ wsX7_speed := by decide +kernel
theorem kX7_speed_6 : Cond.fieldLink RX7 93 "LeaningLines$Things" "speed" "[I" ∈ wsX7_speed := by decide +kernel
theorem kX7_speed_7 : Cond.fieldLink RX7 96 "LeaningLines$Things" "under" "[I" ∈ wsX7_speed := by decide +kernel
theorem kX7_speed_8 : Cond.fieldLink RX7 76 "LeaningLines$Scene" "time" "I" ∈ wsX7_speed := by decide +kernel
abbrev R_X7_speed : Room := { frames := 4, cells := 14, slots := 478, locals := 104 }
set_option maxHeartbeats 4000000 in
set_option maxRecDepth 100000 in
theorem m_X7_speed (l : Launch) (D : va_G) (cI cC cZ cR : ClassId) (mm sc sea th th1 th2 th3 th4 th5 th6 th7 th8 th9 pi pia cm cm1 cm2 cm3 pd pda rd rda hh hst sla : Nat) (sz : Nat) (se : Nat → Int32) (mn : Int32) (ln : Nat → Int32) (hi : Nat → Int32) (wi : Nat → Int32) (br : Nat → Int32) (sp : Nat → Int32) (si : Nat → Int32) (le : Nat → Int32) (un : Nat → Int32) (ul : Nat → Int32) (px : Nat → Int32) (tm : Int32) (ps : Int32) (ft : Int32) (fk : Int32) (lea : Nat → Int32) (upr : Nat → Int32) (ris : Nat → Int32) (pl : Int32) (tx : Nat → Int32) (at_ : Int32) (kd : Int32) (va : Nat → Int32) (nx : Int32) (hm : Int32) (pr : Nat → Bool) (ad : Nat → Nat → Nat) (sv : Nat → SCV) (a0 : Int32) (a1 : Int32) (b0 : Nat)  (r : OUT_X7_speed) (hf : f_X7_speed se mn ln hi wi br sp si le un ul px tm ps ft fk nx hm pr sv a0 a1 = some r) : Met l yX7_speed wsX7_speed R_X7_speed (cPcS D cI cC cZ cR b0 [.ref mm, .int a0, .int a1] sz ((ws_mainT cI cC cZ cR mm sc sea th th1 th2 th3 th4 th5 th6 th7 th8 th9 pi pia cm cm1 cm2 cm3 pd pda rd rda hh hst sla se mn ln hi wi br sp si le un ul px tm ps ft fk lea upr ris pl tx at_ kd va nx hm pr ad) ++ hwB cI cC cZ cR pr ad sv)) (va_Qi (fun (x : Int32) (_ : Nat → Nat → Nat) => x = r.1) (fun u t => va_P D vwCl (((ws_mainT cI cC cZ cR mm sc sea th th1 th2 th3 th4 th5 th6 th7 th8 th9 pi pia cm cm1 cm2 cm3 pd pda rd rda hh hst sla se mn ln hi wi br r.2.2.2.1 r.2.2.2.2.1 r.2.2.2.2.2.1 r.2.2.2.2.2.2.1 r.2.2.2.2.2.2.2.1 px tm ps ft fk lea upr ris pl tx at_ kd va r.2.2.2.2.2.2.2.2.1 r.2.2.2.2.2.2.2.2.2 r.2.1 u) ++ hwB cI cC cZ cR r.2.1 u r.2.2.1)) t.heap ∧ va_D (va_A ((ws_mainT cI cC cZ cR mm sc sea th th1 th2 th3 th4 th5 th6 th7 th8 th9 pi pia cm cm1 cm2 cm3 pd pda rd rda hh hst sla se mn ln hi wi br sp si le un ul px tm ps ft fk lea upr ris pl tx at_ kd va nx hm pr ad) ++ hwB cI cC cZ cR pr ad sv) sz) (((ws_mainT cI cC cZ cR mm sc sea th th1 th2 th3 th4 th5 th6 th7 th8 th9 pi pia cm cm1 cm2 cm3 pd pda rd rda hh hst sla se mn ln hi wi br r.2.2.2.1 r.2.2.2.2.1 r.2.2.2.2.2.1 r.2.2.2.2.2.2.1 r.2.2.2.2.2.2.2.1 px tm ps ft fk lea upr ris pl tx at_ kd va r.2.2.2.2.2.2.2.2.1 r.2.2.2.2.2.2.2.2.2 r.2.1 u) ++ hwB cI cC cZ cR r.2.1 u r.2.2.1))) (va_A ((ws_mainT cI cC cZ cR mm sc sea th th1 th2 th3 th4 th5 th6 th7 th8 th9 pi pia cm cm1 cm2 cm3 pd pda rd rda hh hst sla se mn ln hi wi br sp si le un ul px tm ps ft fk lea upr ris pl tx at_ kd va nx hm pr ad) ++ hwB cI cC cZ cR pr ad sv) sz)) 14 478 (va_A ((ws_mainT cI cC cZ cR mm sc sea th th1 th2 th3 th4 th5 th6 th7 th8 th9 pi pia cm cm1 cm2 cm3 pd pda rd rda hh hst sla se mn ln hi wi br sp si le un ul px tm ps ft fk lea upr ris pl tx at_ kd va nx hm pr ad) ++ hwB cI cC cZ cR pr ad sv) sz) := by
  refine Met.ofW (cc := cX7_speed) (maxL := 4) (ret := (some .int)) (by decide) rfl ?_
  intro p e s m args below meth c s₁ B hml hv
  obtain ⟨rfl, hsz, hP, hK, hD0, hb0, hstt⟩ := hv
  have hx := B.exec
  have hb := B.bytes
  have hr := B.returns
  have hts := atoms_spec (ws := wsX7_speed) B.pre
  have hown : s.vm.findClass RX7 = some m.cls := findClass_of_methodNamed B.named
  have hlocks := B.notSynchronized
  subst hsz
  have hD := hD0.self (sz := s.heap.size)
  generalize hAe : va_A ((ws_mainT cI cC cZ cR mm sc sea th th1 th2 th3 th4 th5 th6 th7 th8 th9 pi pia cm cm1 cm2 cm3 pd pda rd rda hh hst sla se mn ln hi wi br sp si le un ul px tm ps ft fk lea upr ris pl tx at_ kd va nx hm pr ad) ++ hwB cI cC cZ cR pr ad sv) s.heap.size = A at hD ⊢
  have hAb := hAb_of hAe hD0 hb0
  have hA : ∀ q : Nat, s.heap.size ≤ q → A q := fun q h => by rw [← hAe]; exact Or.inr h
  have hS : va_S A s.heap s.heap [] := va_S.rf
  have hl := lv_entry ([.ref mm, .int a0, .int a1]) (n := 4) (Nat.le_of_ble_eq_true rfl)
  rw [lg_entry_eq]
  generalize (lg_sl ([.ref mm, .int a0, .int a1]) ++ List.replicate (4 - (lg_sl ([.ref mm, .int a0, .int a1])).length) Slot.unset).toArray = ls at hl ⊢
  have hl : lv_has ls 4 [(0, .ref mm), (1, .int a0), (2, .int a1)] := hl
  refine W_absQ (fun Q hQ => ?_)
  refine W.eq (g2 := F0 m 0 ls []) rfl ?_
  have h := hf
  unfold f_X7_speed at h
  refine lv_aload_n hx hb dX7_speed_0 rfl (lv_at hl 0 rfl) ?_
  refine lv_iload_n hx hb dX7_speed_1 rfl (lv_at hl 1 rfl) ?_
  obtain ⟨r1, hcr1, h⟩ := bn_sp h
  have hPc := hP.sub (ws' := (ws_main cI cC cZ cR mm sc sea th th1 th2 th3 th4 th5 th6 th7 th8 th9 pi pia cm cm1 cm2 cm3 pd pda rd rda hh sla se mn ln hi wi br sp si le un ul px tm ps ft fk lea upr ris pl tx at_ kd va)) [0, 1, 2, 3, 4, 5, 6, 7, 8, 9, 10, 11, 12, 13, 14, 15, 16, 17, 18, 19, 20, 21, 22] rfl
  have hDc := hD.sub (ws' := (ws_main cI cC cZ cR mm sc sea th th1 th2 th3 th4 th5 th6 th7 th8 th9 pi pia cm cm1 cm2 cm3 pd pda rd rda hh sla se mn ln hi wi br sp si le un ul px tm ps ft fk lea upr ris pl tx at_ kd va)) [0, 1, 2, 3, 4, 5, 6, 7, 8, 9, 10, 11, 12, 13, 14, 15, 16, 17, 18, 19, 20, 21, 22] (by decide) rfl
  have hFc := va_free (wc := (ws_main cI cC cZ cR mm sc sea th th1 th2 th3 th4 th5 th6 th7 th8 th9 pi pia cm cm1 cm2 cm3 pd pda rd rda hh sla se mn ln hi wi br sp si le un ul px tm ps ft fk lea upr ris pl tx at_ kd va)) hD hS hA [0, 1, 2, 3, 4, 5, 6, 7, 8, 9, 10, 11, 12, 13, 14, 15, 16, 17, 18, 19, 20, 21, 22] rfl
  refine va_calli (va_runV (As := [.int a0]) (rest := []) ⟨hx, hb, hml, hown, hts⟩ (m_X7_isThing l D cI cC cZ cR mm sc sea th th1 th2 th3 th4 th5 th6 th7 th8 th9 pi pia cm cm1 cm2 cm3 pd pda rd rda hh sla _ se mn ln hi wi br sp si le un ul px tm ps ft fk lea upr ris pl tx at_ kd va a0   r1 hcr1) (cwV 1 hts gX7_speed_X7_isThing rfl rfl rfl (by decide +kernel) ⟨Nat.le_of_ble_eq_true rfl, Nat.le_of_ble_eq_true rfl⟩) (cPc_pv hPc hK hDc (ci := 7) (q0 := 0) rfl rfl) rfl rfl hl.1 rfl (lv_room (Nat.le_of_ble_eq_true rfl)) dX7_speed_2 ⟨Nat.le_of_ble_eq_true rfl, Nat.le_of_ble_eq_true rfl⟩) hS (fun q _ h => hFc q h) hFc (fun xq u t H1 locs ht hvm hw hB hz1 hk1 hS => ?_)
  rw [hw]
  obtain ⟨hP1, hD1⟩ := hB
  rw [ht] at hP1
  obtain ⟨hP, hD⟩ := jT1 (R := [(hh, .inr (1, [.ref hst, .int nx, .int hm])), (hst, .inl (cR, 6, .inr (.inr (.inr (.inr (hfn pr ad))))))]) (w1 := (ws_main cI cC cZ cR mm sc sea th th1 th2 th3 th4 th5 th6 th7 th8 th9 pi pia cm cm1 cm2 cm3 pd pda rd rda hh sla se mn ln hi wi br sp si le un ul px tm ps ft fk lea upr ris pl tx at_ kd va)) hP hD [0, 1, 2, 3, 4, 5, 6, 7, 8, 9, 10, 11, 12, 13, 14, 15, 16, 17, 18, 19, 20, 21, 22] [23, 24] rfl rfl (by decide) (by decide) hk1 hFc hP1 hD1
  have hP := va_P_subT (X' := (ws_mainT cI cC cZ cR mm sc sea th th1 th2 th3 th4 th5 th6 th7 th8 th9 pi pia cm cm1 cm2 cm3 pd pda rd rda hh hst sla se mn ln hi wi br sp si le un ul px tm ps ft fk lea upr ris pl tx at_ kd va nx hm pr ad)) hP [2, 3, 4, 5, 6, 7, 8, 9, 10, 11, 12, 13, 14, 15, 16, 17, 18, 19, 20, 21, 22, 23, 24, 0, 1] rfl
  have hD := va_D_subT (X' := (ws_mainT cI cC cZ cR mm sc sea th th1 th2 th3 th4 th5 th6 th7 th8 th9 pi pia cm cm1 cm2 cm3 pd pda rd rda hh hst sla se mn ln hi wi br sp si le un ul px tm ps ft fk lea upr ris pl tx at_ kd va nx hm pr ad)) hD [2, 3, 4, 5, 6, 7, 8, 9, 10, 11, 12, 13, 14, 15, 16, 17, 18, 19, 20, 21, 22, 23, 24, 0, 1] (by decide) rfl
  generalize H1 = H at hP hS ⊢
  refine lv_if_ne (tgt := 10) hx hb dX7_speed_5 (by decide) (fun c8 => ?_) (fun c8 => ?_)
  · replace h := br_p c8 h
    refine lv_iload_n hx hb dX7_speed_10 rfl (lv_at hl 2 rfl) ?_
    obtain ⟨r2, hcr2, h⟩ := bn_sp h
    have hPc := hP.sub (ws' := []) [] rfl
    have hDc := hD.sub (ws' := []) [] (by decide) rfl
    have hFc := va_free (wc := []) hD hS hA [] rfl
    refine va_calli (va_runS (As := [.int a1]) (rest := []) ⟨hx, hb, hml, hown, hts⟩ (m_X7_isSpeed l D cI cC cZ cR  _  a1   r2 hcr2) (va_cwS 1 hts gX7_speed_X7_isSpeed rfl rfl rfl (by decide +kernel) ⟨Nat.le_of_ble_eq_true rfl, Nat.le_of_ble_eq_true rfl⟩) (cPc_ps hPc hK hDc) rfl rfl hl.1 rfl (lv_room (Nat.le_of_ble_eq_true rfl)) dX7_speed_11 ⟨Nat.le_of_ble_eq_true rfl, Nat.le_of_ble_eq_true rfl⟩) hS (fun q _ h => hFc q h) hFc (fun xq u t H1 locs ht hvm hw hB hz1 hk1 hS => ?_)
    rw [hw]
    obtain ⟨hP1, hD1⟩ := hB
    rw [ht] at hP1
    obtain ⟨hP, hD⟩ := jT1 (R := [(mm, .inr (7, [.ref sc, .ref cm, .ref hh, .ref sla, .ref pd, .ref rd])), (sc, .inr (5, [.ref sea, .ref th, .ref pi, .int tm, .int ps, .int ft, .int fk])), (sea, .inl (cI, 4, .inl se)), (th, .inr (6, [.int mn, .ref th1, .ref th2, .ref th3, .ref th4, .ref th5, .ref th6, .ref th7, .ref th8, .ref th9])), (th1, .inl (cI, 8, .inl ln)), (th2, .inl (cI, 8, .inl hi)), (th3, .inl (cI, 8, .inl wi)), (th4, .inl (cI, 8, .inl br)), (th5, .inl (cI, 8, .inl sp)), (th6, .inl (cI, 8, .inl si)), (th7, .inl (cI, 8, .inl le)), (th8, .inl (cI, 8, .inl un)), (th9, .inl (cI, 8, .inl ul)), (pi, .inr (3, [.ref pia])), (pia, .inl (cI, 384, .inl px)), (cm, .inr (0, [.ref cm1, .ref cm2, .ref cm3])), (cm1, .inl (cI, 24, .inl lea)), (cm2, .inl (cI, 24, .inl upr)), (cm3, .inl (cI, 25, .inl ris)), (pd, .inr (2, [.ref pda, .int pl])), (pda, .inl (cC, 80, .inl tx)), (rd, .inr (4, [.ref pd, .int at_, .int kd, .ref rda])), (rda, .inl (cI, 7, .inl va)), (hh, .inr (1, [.ref hst, .int nx, .int hm])), (hst, .inl (cR, 6, .inr (.inr (.inr (.inr (hfn pr ad))))))]) (w1 := []) hP hD [] [0, 1, 2, 3, 4, 5, 6, 7, 8, 9, 10, 11, 12, 13, 14, 15, 16, 17, 18, 19, 20, 21, 22, 23, 24] rfl rfl (by decide) (by decide) hk1 hFc hP1 hD1
    generalize H1 = H at hP hS ⊢
    have hP : va_P D vwCl ((ws_mainT cI cC cZ cR mm sc sea th th1 th2 th3 th4 th5 th6 th7 th8 th9 pi pia cm cm1 cm2 cm3 pd pda rd rda hh hst sla se mn ln hi wi br sp si le un ul px tm ps ft fk lea upr ris pl tx at_ kd va nx hm pr ad) ++ hwB cI cC cZ cR pr ad sv) H := hP
    have hD : va_D A ((ws_mainT cI cC cZ cR mm sc sea th th1 th2 th3 th4 th5 th6 th7 th8 th9 pi pia cm cm1 cm2 cm3 pd pda rd rda hh hst sla se mn ln hi wi br sp si le un ul px tm ps ft fk lea upr ris pl tx at_ kd va nx hm pr ad) ++ hwB cI cC cZ cR pr ad sv) := hD
    refine lv_if_ne (tgt := 20) hx hb dX7_speed_14 (by decide) (fun c7 => ?_) (fun c7 => ?_)
    · replace h := br_p c7 h
      refine lv_aload_n hx hb dX7_speed_20 rfl (lv_at hl 0 rfl) ?_
      refine va_get (D := D) (ci := 7) (v := .ref hh) (C := RX7) (T := TX7) (N := 6) hx hb hts uX7_speed_X7 hown hK.1 hP 0 rfl rfl 2 (by decide) (hts _ kX7_speed_1) (fun _ h9 => h9) rfl dX7_speed_21 ?_
      refine lv_aload_n hx hb dX7_speed_24 rfl (lv_at hl 0 rfl) ?_
      refine va_get (D := D) (ci := 7) (v := .ref sc) (C := RX7) (T := TX7) (N := 6) hx hb hts uX7_speed_X7 hown hK.1 hP 0 rfl rfl 0 (by decide) (hts _ kX7_speed_2) (fun _ h9 => h9) rfl dX7_speed_25 ?_
      obtain ⟨r3, hcr3, h⟩ := bn_sp h
      have hPc := va_P_subT (X' := (ws_histT_scene cI cC cZ cR hh hst sc sea th th1 th2 th3 th4 th5 th6 th7 th8 th9 pi pia nx hm se mn ln hi wi br sp si le un ul px tm ps ft fk pr ad)) hP [23, 24, 1, 2, 3, 4, 5, 6, 7, 8, 9, 10, 11, 12, 13, 14] rfl
      have hDc := va_D_subT (X' := (ws_histT_scene cI cC cZ cR hh hst sc sea th th1 th2 th3 th4 th5 th6 th7 th8 th9 pi pia nx hm se mn ln hi wi br sp si le un ul px tm ps ft fk pr ad)) hD [23, 24, 1, 2, 3, 4, 5, 6, 7, 8, 9, 10, 11, 12, 13, 14] (by decide) rfl
      have hFc := va_freeT (wc := (ws_histT_scene cI cC cZ cR hh hst sc sea th th1 th2 th3 th4 th5 th6 th7 th8 th9 pi pia nx hm se mn ln hi wi br sp si le un ul px tm ps ft fk pr ad)) hD hS hA [23, 24, 1, 2, 3, 4, 5, 6, 7, 8, 9, 10, 11, 12, 13, 14] rfl
      refine va_callv (va_runV (As := [.ref sc]) (rest := []) ⟨hx, hb, hml, hown, hts⟩ (m_X1_record l D cI cC cZ cR hh hst sc sea th th1 th2 th3 th4 th5 th6 th7 th8 th9 pi pia _ nx hm se mn ln hi wi br sp si le un ul px tm ps ft fk pr ad sv  b0  r3 hcr3) (cwV 1 hts gX7_speed_X1_record rfl rfl rfl (by decide +kernel) ⟨Nat.le_of_ble_eq_true rfl, Nat.le_of_ble_eq_true rfl⟩) (cPcS_pv hPc hK hDc hAb hb0 hS hstt (ci := 1) (q0 := 0) rfl rfl) rfl rfl hl.1 rfl (lv_room (Nat.le_of_ble_eq_true rfl)) dX7_speed_28 ⟨Nat.le_of_ble_eq_true rfl, Nat.le_of_ble_eq_true rfl⟩) hS (fun q _ h => hFc q h) hFc (fun u4 t H1 locs ht hvm hw hB hz1 hk1 hS => ?_)
      obtain ⟨hP1, hD1⟩ := hB
      rw [ht] at hP1
      obtain ⟨hP, hD⟩ := jT2 (R := [(mm, .inr (7, [.ref sc, .ref cm, .ref hh, .ref sla, .ref pd, .ref rd])), (cm, .inr (0, [.ref cm1, .ref cm2, .ref cm3])), (cm1, .inl (cI, 24, .inl lea)), (cm2, .inl (cI, 24, .inl upr)), (cm3, .inl (cI, 25, .inl ris)), (pd, .inr (2, [.ref pda, .int pl])), (pda, .inl (cC, 80, .inl tx)), (rd, .inr (4, [.ref pd, .int at_, .int kd, .ref rda])), (rda, .inl (cI, 7, .inl va))]) (w1 := (ws_histT_scene cI cC cZ cR hh hst sc sea th th1 th2 th3 th4 th5 th6 th7 th8 th9 pi pia r3.2.2.1 r3.2.2.2 se mn ln hi wi br sp si le un ul px tm ps ft fk r3.1 u4)) hP hD [23, 24, 1, 2, 3, 4, 5, 6, 7, 8, 9, 10, 11, 12, 13, 14] [0, 15, 16, 17, 18, 19, 20, 21, 22] rfl rfl (by decide) (by decide) hk1 hFc hP1 hD1
      have hP := va_P_subT (X' := (ws_mainT cI cC cZ cR mm sc sea th th1 th2 th3 th4 th5 th6 th7 th8 th9 pi pia cm cm1 cm2 cm3 pd pda rd rda hh hst sla se mn ln hi wi br sp si le un ul px tm ps ft fk lea upr ris pl tx at_ kd va r3.2.2.1 r3.2.2.2 r3.1 u4)) hP [0, 11, 12, 13, 14, 15, 16, 17, 18, 19, 20, 21, 22, 23, 24, 1, 2, 3, 4, 5, 6, 7, 8, 9, 10] rfl
      have hD := va_D_subT (X' := (ws_mainT cI cC cZ cR mm sc sea th th1 th2 th3 th4 th5 th6 th7 th8 th9 pi pia cm cm1 cm2 cm3 pd pda rd rda hh hst sla se mn ln hi wi br sp si le un ul px tm ps ft fk lea upr ris pl tx at_ kd va r3.2.2.1 r3.2.2.2 r3.1 u4)) hD [0, 11, 12, 13, 14, 15, 16, 17, 18, 19, 20, 21, 22, 23, 24, 1, 2, 3, 4, 5, 6, 7, 8, 9, 10] (by decide) rfl
      generalize H1 = H at hP hS ⊢
      refine lv_aload_n hx hb dX7_speed_31 rfl (lv_at hl 0 rfl) ?_
      refine va_get (D := D) (ci := 7) (v := .ref sc) (C := RX7) (T := TX7) (N := 6) hx hb hts uX7_speed_X7 hown hK.1 hP 0 rfl rfl 0 (by decide) (hts _ kX7_speed_2) (fun _ h9 => h9) rfl dX7_speed_32 ?_
      refine va_get (D := D) (ci := 5) (v := .ref th) (C := RX5) (T := TX5) (N := 7) hx hb hts uX7_speed_X5 hown hK.1 hP 1 rfl rfl 1 (by decide) (hts _ kX7_speed_4) (fun _ h9 => h9) rfl dX7_speed_35 ?_
      refine va_get (D := D) (ci := 6) (v := .ref th5) (C := RX6) (T := TX6) (N := 10) hx hb hts uX7_speed_X6 hown hK.1 hP 3 rfl rfl 5 (by decide) (hts _ kX7_speed_6) (fun _ h9 => h9) rfl dX7_speed_38 ?_
      refine lv_iload_n hx hb dX7_speed_41 rfl (lv_at hl 1 rfl) ?_
      obtain ⟨hin, h⟩ := gd_sp h
      refine va_iald (D := D) hx hb hK.1 hP 8 0 rfl rfl hin dX7_speed_42 ?_
      refine lv_topi (fun x5 ex5 => ?_)
      replace h := bd_s2 h ex5
      refine lv_istore_n (lv' := [(3, .int x5), (0, .ref mm), (1, .int a0), (2, .int a1)]) hx hb dX7_speed_43 rfl hl (by decide) rfl (fun ls hl => ?_)
      refine lv_aload_n hx hb dX7_speed_44 rfl (lv_at hl 1 rfl) ?_
      refine va_get (D := D) (ci := 7) (v := .ref sc) (C := RX7) (T := TX7) (N := 6) hx hb hts uX7_speed_X7 hown hK.1 hP 0 rfl rfl 0 (by decide) (hts _ kX7_speed_2) (fun _ h9 => h9) rfl dX7_speed_45 ?_
      refine va_get (D := D) (ci := 5) (v := .ref th) (C := RX5) (T := TX5) (N := 7) hx hb hts uX7_speed_X5 hown hK.1 hP 1 rfl rfl 1 (by decide) (hts _ kX7_speed_4) (fun _ h9 => h9) rfl dX7_speed_48 ?_
      refine lv_iload_n hx hb dX7_speed_51 rfl (lv_at hl 2 rfl) ?_
      refine lv_iload_n hx hb dX7_speed_52 rfl (lv_at hl 3 rfl) ?_
      refine lv_aload_n hx hb dX7_speed_53 rfl (lv_at hl 1 rfl) ?_
      refine va_get (D := D) (ci := 7) (v := .ref sc) (C := RX7) (T := TX7) (N := 6) hx hb hts uX7_speed_X7 hown hK.1 hP 0 rfl rfl 0 (by decide) (hts _ kX7_speed_2) (fun _ h9 => h9) rfl dX7_speed_54 ?_
      refine va_get (D := D) (ci := 5) (v := .ref th) (C := RX5) (T := TX5) (N := 7) hx hb hts uX7_speed_X5 hown hK.1 hP 1 rfl rfl 1 (by decide) (hts _ kX7_speed_4) (fun _ h9 => h9) rfl dX7_speed_57 ?_
      refine va_get (D := D) (ci := 6) (v := .ref th8) (C := RX6) (T := TX6) (N := 10) hx hb hts uX7_speed_X6 hown hK.1 hP 3 rfl rfl 8 (by decide) (hts _ kX7_speed_7) (fun _ h9 => h9) rfl dX7_speed_60 ?_
      refine lv_iload_n hx hb dX7_speed_63 rfl (lv_at hl 2 rfl) ?_
      obtain ⟨hin, h⟩ := gd_sp h
      refine va_iald (D := D) hx hb hK.1 hP 11 0 rfl rfl hin dX7_speed_64 ?_
      refine lv_aload_n hx hb dX7_speed_65 rfl (lv_at hl 1 rfl) ?_
      refine va_get (D := D) (ci := 7) (v := .ref sc) (C := RX7) (T := TX7) (N := 6) hx hb hts uX7_speed_X7 hown hK.1 hP 0 rfl rfl 0 (by decide) (hts _ kX7_speed_2) (fun _ h9 => h9) rfl dX7_speed_66 ?_
      refine va_get (D := D) (ci := 5) (v := .int tm) (C := RX5) (T := TX5) (N := 7) hx hb hts uX7_speed_X5 hown hK.1 hP 1 rfl rfl 3 (by decide) (hts _ kX7_speed_8) (fun _ h9 => h9) rfl dX7_speed_69 ?_
      obtain ⟨r6, hcr6, h⟩ := bn_sp h
      have hPc := hP.sub (ws' := (ws_things cI cC cZ cR th th1 th2 th3 th4 th5 th6 th7 th8 th9 mn ln hi wi br sp si le un ul)) [3, 4, 5, 6, 7, 8, 9, 10, 11, 12] rfl
      have hDc := hD.sub (ws' := (ws_things cI cC cZ cR th th1 th2 th3 th4 th5 th6 th7 th8 th9 mn ln hi wi br sp si le un ul)) [3, 4, 5, 6, 7, 8, 9, 10, 11, 12] (by decide) rfl
      have hFc := va_free (wc := (ws_things cI cC cZ cR th th1 th2 th3 th4 th5 th6 th7 th8 th9 mn ln hi wi br sp si le un ul)) hD hS hA [3, 4, 5, 6, 7, 8, 9, 10, 11, 12] rfl
      refine va_callv (va_runV (As := [.int a0, .int a1, .int (un a0.toNatClampNeg), .int tm]) (rest := []) ⟨hx, hb, hml, hown, hts⟩ (m_X6_comeAnew l D cI cC cZ cR th th1 th2 th3 th4 th5 th6 th7 th8 th9 _ mn ln hi wi br sp si le un ul a0 a1 (un a0.toNatClampNeg) tm   r6 hcr6) (cwV 4 hts gX7_speed_X6_comeAnew rfl rfl rfl (by decide +kernel) ⟨Nat.le_of_ble_eq_true rfl, Nat.le_of_ble_eq_true rfl⟩) (cPc_pv hPc hK hDc (ci := 6) (q0 := 0) rfl rfl) rfl rfl hl.1 rfl (lv_room (Nat.le_of_ble_eq_true rfl)) dX7_speed_72 ⟨Nat.le_of_ble_eq_true rfl, Nat.le_of_ble_eq_true rfl⟩) hS (fun q _ h => hFc q h) hFc (fun u t H1 locs ht hvm hw hB hz1 hk1 hS => ?_)
      obtain ⟨hP1, hD1⟩ := hB
      rw [ht] at hP1
      obtain ⟨hP, hD⟩ := jT1 (R := [(mm, .inr (7, [.ref sc, .ref cm, .ref hh, .ref sla, .ref pd, .ref rd])), (sc, .inr (5, [.ref sea, .ref th, .ref pi, .int tm, .int ps, .int ft, .int fk])), (sea, .inl (cI, 4, .inl se)), (pi, .inr (3, [.ref pia])), (pia, .inl (cI, 384, .inl px)), (cm, .inr (0, [.ref cm1, .ref cm2, .ref cm3])), (cm1, .inl (cI, 24, .inl lea)), (cm2, .inl (cI, 24, .inl upr)), (cm3, .inl (cI, 25, .inl ris)), (pd, .inr (2, [.ref pda, .int pl])), (pda, .inl (cC, 80, .inl tx)), (rd, .inr (4, [.ref pd, .int at_, .int kd, .ref rda])), (rda, .inl (cI, 7, .inl va)), (hh, .inr (1, [.ref hst, .int r3.2.2.1, .int r3.2.2.2])), (hst, .inl (cR, 6, .inr (.inr (.inr (.inr (hfn r3.1 u4))))))]) (w1 := (ws_things cI cC cZ cR th th1 th2 th3 th4 th5 th6 th7 th8 th9 mn ln hi wi br r6.1 r6.2.1 r6.2.2.1 r6.2.2.2.1 r6.2.2.2.2)) hP hD [3, 4, 5, 6, 7, 8, 9, 10, 11, 12] [0, 1, 2, 13, 14, 15, 16, 17, 18, 19, 20, 21, 22, 23, 24] rfl rfl (by decide) (by decide) hk1 hFc hP1 hD1
      have hP := va_P_subT (X' := (ws_mainT cI cC cZ cR mm sc sea th th1 th2 th3 th4 th5 th6 th7 th8 th9 pi pia cm cm1 cm2 cm3 pd pda rd rda hh hst sla se mn ln hi wi br r6.1 r6.2.1 r6.2.2.1 r6.2.2.2.1 r6.2.2.2.2 px tm ps ft fk lea upr ris pl tx at_ kd va r3.2.2.1 r3.2.2.2 r3.1 u4)) hP [0, 1, 2, 15, 16, 17, 18, 19, 20, 21, 22, 23, 24, 3, 4, 5, 6, 7, 8, 9, 10, 11, 12, 13, 14] rfl
      have hD := va_D_subT (X' := (ws_mainT cI cC cZ cR mm sc sea th th1 th2 th3 th4 th5 th6 th7 th8 th9 pi pia cm cm1 cm2 cm3 pd pda rd rda hh hst sla se mn ln hi wi br r6.1 r6.2.1 r6.2.2.1 r6.2.2.2.1 r6.2.2.2.2 px tm ps ft fk lea upr ris pl tx at_ kd va r3.2.2.1 r3.2.2.2 r3.1 u4)) hD [0, 1, 2, 15, 16, 17, 18, 19, 20, 21, 22, 23, 24, 3, 4, 5, 6, 7, 8, 9, 10, 11, 12, 13, 14] (by decide) rfl
      generalize H1 = H at hP hS ⊢
      refine lv_iload_n hx hb dX7_speed_75 rfl (lv_at hl 0 rfl) ?_
      refine lv_bipush (v := 100) hx hb dX7_speed_76 (by decide) ?_
      refine lv_iadd hx hb dX7_speed_78 ?_
      have e9 := Option.some.inj h
      subst e9
      rw [hQ]
      exact W.iret (v := x5 + 100) hx hb hr (fun t ht hW => ⟨⟨x5 + 100, u4, rfl, rfl, by rw [ht]; exact hP, hD⟩, hS.F ht⟩) hS.2.2 dX7_speed_79
    · replace h := br_n (not_not_intro c7) h
      refine lv_bipush (v := (-2)) hx hb dX7_speed_17 (by decide) ?_
      have e9 := Option.some.inj h
      subst e9
      rw [hQ]
      refine W.widen (k := 14) (n := 478) (by decide) (by decide) ?_
      exact W.iret (v := (-2)) hx hb hr (fun t ht hW => ⟨⟨(-2), ad, rfl, rfl, by rw [ht]; exact hP, hD⟩, hS.F ht⟩) hS.2.2 dX7_speed_19
  · replace h := br_n (not_not_intro c8) h
    refine lv_iconst (v := (-1)) hx hb dX7_speed_8 (by decide) ?_
    have e9 := Option.some.inj h
    subst e9
    rw [hQ]
    refine W.widen (k := 14) (n := 478) (by decide) (by decide) ?_
    exact W.iret (v := (-1)) hx hb hr (fun t ht hW => ⟨⟨(-1), ad, rfl, rfl, by rw [ht]; exact hP, hD⟩, hS.F ht⟩) hS.2.2 dX7_speed_9
-- LeaningLines.ride
abbrev OUT_X7_ride : Type := Int32 × (Nat → Bool) × (Nat → SCV) × (Nat → Int32) × (Nat → Int32) × (Nat → Int32) × (Nat → Int32) × (Nat → Int32) × Int32 × Int32
def f_X7_ride (se : Nat → Int32) (mn : Int32) (ln : Nat → Int32) (hi : Nat → Int32) (wi : Nat → Int32) (br : Nat → Int32) (sp : Nat → Int32) (si : Nat → Int32) (le : Nat → Int32) (un : Nat → Int32) (ul : Nat → Int32) (px : Nat → Int32) (tm : Int32) (ps : Int32) (ft : Int32) (fk : Int32) (nx : Int32) (hm : Int32) (pr : Nat → Bool) (sv : Nat → SCV) (a0 : Int32) (a1 : Int32) : Option OUT_X7_ride :=
  bn (f_X7_isThing mn a0) (fun r1 => (if ¬ r1 = 0 then bn (f_X7_canRide a0 a1) (fun r2 => (if ¬ r2 = 0 then bn (f_X1_record nx hm se mn ln hi wi br sp si le un ul px tm ps ft fk pr sv) (fun r3 => gd a0 8 (bd (un a0.toNatClampNeg) (fun x5 => gd a0 8 (bn (f_X6_comeAnew mn sp si le un ul a0 (sp a0.toNatClampNeg) a1 tm) (fun r6 => some ((x5, r3.1, r3.2.1, r6.1, r6.2.1, r6.2.2.1, r6.2.2.2.1, r6.2.2.2.2, r3.2.2.1, r3.2.2.2))))))) else some (((-2), pr, sv, sp, si, le, un, ul, nx, hm)))) else some (((-1), pr, sv, sp, si, le, un, ul, nx, hm))))
theorem uX7_ride_X7 : ∀ w ∈ wsX70, w ∈ wsX7_ride := by decide +kernel
theorem kX7_ride_1 : Cond.fieldLink RX7 26 "LeaningLines" "history" "LLeaningLines$History;" ∈ wsX7_ride := by decide +kernel
theorem kX7_ride_2 : Cond.fieldLink RX7 10 "LeaningLines" "scene" "LLeaningLines$Scene;" ∈ wsX7_ride := by decide +kernel
theorem uX7_ride_X5 : ∀ w ∈ wsX50, w ∈ wsX7_ride := by decide +kernel
theorem kX7_ride_4 : Cond.fieldLink RX7 72 "LeaningLines$Scene" "things" "LLeaningLines$Things;" ∈ wsX7_ride := by decide +kernel
theorem uX7_ride_X6 : ∀ w ∈ wsX60, w ∈ wsX7_ride := by decide +kernel
theorem kX7_ride_6 : Cond.fieldLink RX7 96 "LeaningLines$Things" "under" "[I" ∈ wsX7_ride := by decide +kernel
theorem kX7_ride_7 : Cond.fieldLink RX7 93 "LeaningLines$Things" "speed" "[I" ∈ wsX7_ride := by decide +kernel
theorem kX7_ride_8 : Cond.fieldLink RX7 76 "LeaningLines$Scene" "time" "I" ∈ wsX7_ride := by decide +kernel
abbrev R_X7_ride : Room := { frames := 4, cells := 14, slots := 478, locals := 104 }
set_option maxHeartbeats 4000000 in
set_option maxRecDepth 100000 in
theorem m_X7_ride (l : Launch) (D : va_G) (cI cC cZ cR : ClassId) (mm sc sea th th1 th2 th3 th4 th5 th6 th7 th8 th9 pi pia cm cm1 cm2 cm3 pd pda rd rda hh hst sla : Nat) (sz : Nat) (se : Nat → Int32) (mn : Int32) (ln : Nat → Int32) (hi : Nat → Int32) (wi : Nat → Int32) (br : Nat → Int32) (sp : Nat → Int32) (si : Nat → Int32) (le : Nat → Int32) (un : Nat → Int32) (ul : Nat → Int32) (px : Nat → Int32) (tm : Int32) (ps : Int32) (ft : Int32) (fk : Int32) (lea : Nat → Int32) (upr : Nat → Int32) (ris : Nat → Int32) (pl : Int32) (tx : Nat → Int32) (at_ : Int32) (kd : Int32) (va : Nat → Int32) (nx : Int32) (hm : Int32) (pr : Nat → Bool) (ad : Nat → Nat → Nat) (sv : Nat → SCV) (a0 : Int32) (a1 : Int32) (b0 : Nat)  (r : OUT_X7_ride) (hf : f_X7_ride se mn ln hi wi br sp si le un ul px tm ps ft fk nx hm pr sv a0 a1 = some r) : Met l yX7_ride wsX7_ride R_X7_ride (cPcS D cI cC cZ cR b0 [.ref mm, .int a0, .int a1] sz ((ws_mainT cI cC cZ cR mm sc sea th th1 th2 th3 th4 th5 th6 th7 th8 th9 pi pia cm cm1 cm2 cm3 pd pda rd rda hh hst sla se mn ln hi wi br sp si le un ul px tm ps ft fk lea upr ris pl tx at_ kd va nx hm pr ad) ++ hwB cI cC cZ cR pr ad sv)) (va_Qi (fun (x : Int32) (_ : Nat → Nat → Nat) => x = r.1) (fun u t => va_P D vwCl (((ws_mainT cI cC cZ cR mm sc sea th th1 th2 th3 th4 th5 th6 th7 th8 th9 pi pia cm cm1 cm2 cm3 pd pda rd rda hh hst sla se mn ln hi wi br r.2.2.2.1 r.2.2.2.2.1 r.2.2.2.2.2.1 r.2.2.2.2.2.2.1 r.2.2.2.2.2.2.2.1 px tm ps ft fk lea upr ris pl tx at_ kd va r.2.2.2.2.2.2.2.2.1 r.2.2.2.2.2.2.2.2.2 r.2.1 u) ++ hwB cI cC cZ cR r.2.1 u r.2.2.1)) t.heap ∧ va_D (va_A ((ws_mainT cI cC cZ cR mm sc sea th th1 th2 th3 th4 th5 th6 th7 th8 th9 pi pia cm cm1 cm2 cm3 pd pda rd rda hh hst sla se mn ln hi wi br sp si le un ul px tm ps ft fk lea upr ris pl tx at_ kd va nx hm pr ad) ++ hwB cI cC cZ cR pr ad sv) sz) (((ws_mainT cI cC cZ cR mm sc sea th th1 th2 th3 th4 th5 th6 th7 th8 th9 pi pia cm cm1 cm2 cm3 pd pda rd rda hh hst sla se mn ln hi wi br r.2.2.2.1 r.2.2.2.2.1 r.2.2.2.2.2.1 r.2.2.2.2.2.2.1 r.2.2.2.2.2.2.2.1 px tm ps ft fk lea upr ris pl tx at_ kd va r.2.2.2.2.2.2.2.2.1 r.2.2.2.2.2.2.2.2.2 r.2.1 u) ++ hwB cI cC cZ cR r.2.1 u r.2.2.1))) (va_A ((ws_mainT cI cC cZ cR mm sc sea th th1 th2 th3 th4 th5 th6 th7 th8 th9 pi pia cm cm1 cm2 cm3 pd pda rd rda hh hst sla se mn ln hi wi br sp si le un ul px tm ps ft fk lea upr ris pl tx at_ kd va nx hm pr ad) ++ hwB cI cC cZ cR pr ad sv) sz)) 14 478 (va_A ((ws_mainT cI cC cZ cR mm sc sea th th1 th2 th3 th4 th5 th6 th7 th8 th9 pi pia cm cm1 cm2 cm3 pd pda rd rda hh hst sla se mn ln hi wi br sp si le un ul px tm ps ft fk lea upr ris pl tx at_ kd va nx hm pr ad) ++ hwB cI cC cZ cR pr ad sv) sz) := by
  refine Met.ofW (cc := cX7_ride) (maxL := 4) (ret := (some .int)) (by decide) rfl ?_
  intro p e s m args below meth c s₁ B hml hv
  obtain ⟨rfl, hsz, hP, hK, hD0, hb0, hstt⟩ := hv
  have hx := B.exec
  have hb := B.bytes
  have hr := B.returns
  have hts := atoms_spec (ws := wsX7_ride) B.pre
  have hown : s.vm.findClass RX7 = some m.cls := findClass_of_methodNamed B.named
  have hlocks := B.notSynchronized
  subst hsz
  have hD := hD0.self (sz := s.heap.size)
  generalize hAe : va_A ((ws_mainT cI cC cZ cR mm sc sea th th1 th2 th3 th4 th5 th6 th7 th8 th9 pi pia cm cm1 cm2 cm3 pd pda rd rda hh hst sla se mn ln hi wi br sp si le un ul px tm ps ft fk lea upr ris pl tx at_ kd va nx hm pr ad) ++ hwB cI cC cZ cR pr ad sv) s.heap.size = A at hD ⊢
  have hAb := hAb_of hAe hD0 hb0
  have hA : ∀ q : Nat, s.heap.size ≤ q → A q := fun q h => by rw [← hAe]; exact Or.inr h
  have hS : va_S A s.heap s.heap [] := va_S.rf
  have hl := lv_entry ([.ref mm, .int a0, .int a1]) (n := 4) (Nat.le_of_ble_eq_true rfl)
  rw [lg_entry_eq]
  generalize (lg_sl ([.ref mm, .int a0, .int a1]) ++ List.replicate (4 - (lg_sl ([.ref mm, .int a0, .int a1])).length) Slot.unset).toArray = ls at hl ⊢
  have hl : lv_has ls 4 [(0, .ref mm), (1, .int a0), (2, .int a1)] := hl
  refine W_absQ (fun Q hQ => ?_)
  refine W.eq (g2 := F0 m 0 ls []) rfl ?_
  have h := hf
  unfold f_X7_ride at h
  refine lv_aload_n hx hb dX7_ride_0 rfl (lv_at hl 0 rfl) ?_
  refine lv_iload_n hx hb dX7_ride_1 rfl (lv_at hl 1 rfl) ?_
  obtain ⟨r1, hcr1, h⟩ := bn_sp h
  have hPc := hP.sub (ws' := (ws_main cI cC cZ cR mm sc sea th th1 th2 th3 th4 th5 th6 th7 th8 th9 pi pia cm cm1 cm2 cm3 pd pda rd rda hh sla se mn ln hi wi br sp si le un ul px tm ps ft fk lea upr ris pl tx at_ kd va)) [0, 1, 2, 3, 4, 5, 6, 7, 8, 9, 10, 11, 12, 13, 14, 15, 16, 17, 18, 19, 20, 21, 22] rfl
  have hDc := hD.sub (ws' := (ws_main cI cC cZ cR mm sc sea th th1 th2 th3 th4 th5 th6 th7 th8 th9 pi pia cm cm1 cm2 cm3 pd pda rd rda hh sla se mn ln hi wi br sp si le un ul px tm ps ft fk lea upr ris pl tx at_ kd va)) [0, 1, 2, 3, 4, 5, 6, 7, 8, 9, 10, 11, 12, 13, 14, 15, 16, 17, 18, 19, 20, 21, 22] (by decide) rfl
  have hFc := va_free (wc := (ws_main cI cC cZ cR mm sc sea th th1 th2 th3 th4 th5 th6 th7 th8 th9 pi pia cm cm1 cm2 cm3 pd pda rd rda hh sla se mn ln hi wi br sp si le un ul px tm ps ft fk lea upr ris pl tx at_ kd va)) hD hS hA [0, 1, 2, 3, 4, 5, 6, 7, 8, 9, 10, 11, 12, 13, 14, 15, 16, 17, 18, 19, 20, 21, 22] rfl
  refine va_calli (va_runV (As := [.int a0]) (rest := []) ⟨hx, hb, hml, hown, hts⟩ (m_X7_isThing l D cI cC cZ cR mm sc sea th th1 th2 th3 th4 th5 th6 th7 th8 th9 pi pia cm cm1 cm2 cm3 pd pda rd rda hh sla _ se mn ln hi wi br sp si le un ul px tm ps ft fk lea upr ris pl tx at_ kd va a0   r1 hcr1) (cwV 1 hts gX7_ride_X7_isThing rfl rfl rfl (by decide +kernel) ⟨Nat.le_of_ble_eq_true rfl, Nat.le_of_ble_eq_true rfl⟩) (cPc_pv hPc hK hDc (ci := 7) (q0 := 0) rfl rfl) rfl rfl hl.1 rfl (lv_room (Nat.le_of_ble_eq_true rfl)) dX7_ride_2 ⟨Nat.le_of_ble_eq_true rfl, Nat.le_of_ble_eq_true rfl⟩) hS (fun q _ h => hFc q h) hFc (fun xq u t H1 locs ht hvm hw hB hz1 hk1 hS => ?_)
  rw [hw]
  obtain ⟨hP1, hD1⟩ := hB
  rw [ht] at hP1
  obtain ⟨hP, hD⟩ := jT1 (R := [(hh, .inr (1, [.ref hst, .int nx, .int hm])), (hst, .inl (cR, 6, .inr (.inr (.inr (.inr (hfn pr ad))))))]) (w1 := (ws_main cI cC cZ cR mm sc sea th th1 th2 th3 th4 th5 th6 th7 th8 th9 pi pia cm cm1 cm2 cm3 pd pda rd rda hh sla se mn ln hi wi br sp si le un ul px tm ps ft fk lea upr ris pl tx at_ kd va)) hP hD [0, 1, 2, 3, 4, 5, 6, 7, 8, 9, 10, 11, 12, 13, 14, 15, 16, 17, 18, 19, 20, 21, 22] [23, 24] rfl rfl (by decide) (by decide) hk1 hFc hP1 hD1
  have hP := va_P_subT (X' := (ws_mainT cI cC cZ cR mm sc sea th th1 th2 th3 th4 th5 th6 th7 th8 th9 pi pia cm cm1 cm2 cm3 pd pda rd rda hh hst sla se mn ln hi wi br sp si le un ul px tm ps ft fk lea upr ris pl tx at_ kd va nx hm pr ad)) hP [2, 3, 4, 5, 6, 7, 8, 9, 10, 11, 12, 13, 14, 15, 16, 17, 18, 19, 20, 21, 22, 23, 24, 0, 1] rfl
  have hD := va_D_subT (X' := (ws_mainT cI cC cZ cR mm sc sea th th1 th2 th3 th4 th5 th6 th7 th8 th9 pi pia cm cm1 cm2 cm3 pd pda rd rda hh hst sla se mn ln hi wi br sp si le un ul px tm ps ft fk lea upr ris pl tx at_ kd va nx hm pr ad)) hD [2, 3, 4, 5, 6, 7, 8, 9, 10, 11, 12, 13, 14, 15, 16, 17, 18, 19, 20, 21, 22, 23, 24, 0, 1] (by decide) rfl
  generalize H1 = H at hP hS ⊢
  refine lv_if_ne (tgt := 10) hx hb dX7_ride_5 (by decide) (fun c8 => ?_) (fun c8 => ?_)
  · replace h := br_p c8 h
    refine lv_iload_n hx hb dX7_ride_10 rfl (lv_at hl 1 rfl) ?_
    refine lv_iload_n hx hb dX7_ride_11 rfl (lv_at hl 2 rfl) ?_
    obtain ⟨r2, hcr2, h⟩ := bn_sp h
    have hPc := hP.sub (ws' := []) [] rfl
    have hDc := hD.sub (ws' := []) [] (by decide) rfl
    have hFc := va_free (wc := []) hD hS hA [] rfl
    refine va_calli (va_runS (As := [.int a0, .int a1]) (rest := []) ⟨hx, hb, hml, hown, hts⟩ (m_X7_canRide l D cI cC cZ cR  _  a0 a1   r2 hcr2) (va_cwS 2 hts gX7_ride_X7_canRide rfl rfl rfl (by decide +kernel) ⟨Nat.le_of_ble_eq_true rfl, Nat.le_of_ble_eq_true rfl⟩) (cPc_ps hPc hK hDc) rfl rfl hl.1 rfl (lv_room (Nat.le_of_ble_eq_true rfl)) dX7_ride_12 ⟨Nat.le_of_ble_eq_true rfl, Nat.le_of_ble_eq_true rfl⟩) hS (fun q _ h => hFc q h) hFc (fun xq u t H1 locs ht hvm hw hB hz1 hk1 hS => ?_)
    rw [hw]
    obtain ⟨hP1, hD1⟩ := hB
    rw [ht] at hP1
    obtain ⟨hP, hD⟩ := jT1 (R := [(mm, .inr (7, [.ref sc, .ref cm, .ref hh, .ref sla, .ref pd, .ref rd])), (sc, .inr (5, [.ref sea, .ref th, .ref pi, .int tm, .int ps, .int ft, .int fk])), (sea, .inl (cI, 4, .inl se)), (th, .inr (6, [.int mn, .ref th1, .ref th2, .ref th3, .ref th4, .ref th5, .ref th6, .ref th7, .ref th8, .ref th9])), (th1, .inl (cI, 8, .inl ln)), (th2, .inl (cI, 8, .inl hi)), (th3, .inl (cI, 8, .inl wi)), (th4, .inl (cI, 8, .inl br)), (th5, .inl (cI, 8, .inl sp)), (th6, .inl (cI, 8, .inl si)), (th7, .inl (cI, 8, .inl le)), (th8, .inl (cI, 8, .inl un)), (th9, .inl (cI, 8, .inl ul)), (pi, .inr (3, [.ref pia])), (pia, .inl (cI, 384, .inl px)), (cm, .inr (0, [.ref cm1, .ref cm2, .ref cm3])), (cm1, .inl (cI, 24, .inl lea)), (cm2, .inl (cI, 24, .inl upr)), (cm3, .inl (cI, 25, .inl ris)), (pd, .inr (2, [.ref pda, .int pl])), (pda, .inl (cC, 80, .inl tx)), (rd, .inr (4, [.ref pd, .int at_, .int kd, .ref rda])), (rda, .inl (cI, 7, .inl va)), (hh, .inr (1, [.ref hst, .int nx, .int hm])), (hst, .inl (cR, 6, .inr (.inr (.inr (.inr (hfn pr ad))))))]) (w1 := []) hP hD [] [0, 1, 2, 3, 4, 5, 6, 7, 8, 9, 10, 11, 12, 13, 14, 15, 16, 17, 18, 19, 20, 21, 22, 23, 24] rfl rfl (by decide) (by decide) hk1 hFc hP1 hD1
    generalize H1 = H at hP hS ⊢
    have hP : va_P D vwCl ((ws_mainT cI cC cZ cR mm sc sea th th1 th2 th3 th4 th5 th6 th7 th8 th9 pi pia cm cm1 cm2 cm3 pd pda rd rda hh hst sla se mn ln hi wi br sp si le un ul px tm ps ft fk lea upr ris pl tx at_ kd va nx hm pr ad) ++ hwB cI cC cZ cR pr ad sv) H := hP
    have hD : va_D A ((ws_mainT cI cC cZ cR mm sc sea th th1 th2 th3 th4 th5 th6 th7 th8 th9 pi pia cm cm1 cm2 cm3 pd pda rd rda hh hst sla se mn ln hi wi br sp si le un ul px tm ps ft fk lea upr ris pl tx at_ kd va nx hm pr ad) ++ hwB cI cC cZ cR pr ad sv) := hD
    refine lv_if_ne (tgt := 21) hx hb dX7_ride_15 (by decide) (fun c7 => ?_) (fun c7 => ?_)
    · replace h := br_p c7 h
      refine lv_aload_n hx hb dX7_ride_21 rfl (lv_at hl 0 rfl) ?_
      refine va_get (D := D) (ci := 7) (v := .ref hh) (C := RX7) (T := TX7) (N := 6) hx hb hts uX7_ride_X7 hown hK.1 hP 0 rfl rfl 2 (by decide) (hts _ kX7_ride_1) (fun _ h9 => h9) rfl dX7_ride_22 ?_
      refine lv_aload_n hx hb dX7_ride_25 rfl (lv_at hl 0 rfl) ?_
      refine va_get (D := D) (ci := 7) (v := .ref sc) (C := RX7) (T := TX7) (N := 6) hx hb hts uX7_ride_X7 hown hK.1 hP 0 rfl rfl 0 (by decide) (hts _ kX7_ride_2) (fun _ h9 => h9) rfl dX7_ride_26 ?_
      obtain ⟨r3, hcr3, h⟩ := bn_sp h
      have hPc := va_P_subT (X' := (ws_histT_scene cI cC cZ cR hh hst sc sea th th1 th2 th3 th4 th5 th6 th7 th8 th9 pi pia nx hm se mn ln hi wi br sp si le un ul px tm ps ft fk pr ad)) hP [23, 24, 1, 2, 3, 4, 5, 6, 7, 8, 9, 10, 11, 12, 13, 14] rfl
      have hDc := va_D_subT (X' := (ws_histT_scene cI cC cZ cR hh hst sc sea th th1 th2 th3 th4 th5 th6 th7 th8 th9 pi pia nx hm se mn ln hi wi br sp si le un ul px tm ps ft fk pr ad)) hD [23, 24, 1, 2, 3, 4, 5, 6, 7, 8, 9, 10, 11, 12, 13, 14] (by decide) rfl
      have hFc := va_freeT (wc := (ws_histT_scene cI cC cZ cR hh hst sc sea th th1 th2 th3 th4 th5 th6 th7 th8 th9 pi pia nx hm se mn ln hi wi br sp si le un ul px tm ps ft fk pr ad)) hD hS hA [23, 24, 1, 2, 3, 4, 5, 6, 7, 8, 9, 10, 11, 12, 13, 14] rfl
      refine va_callv (va_runV (As := [.ref sc]) (rest := []) ⟨hx, hb, hml, hown, hts⟩ (m_X1_record l D cI cC cZ cR hh hst sc sea th th1 th2 th3 th4 th5 th6 th7 th8 th9 pi pia _ nx hm se mn ln hi wi br sp si le un ul px tm ps ft fk pr ad sv  b0  r3 hcr3) (cwV 1 hts gX7_ride_X1_record rfl rfl rfl (by decide +kernel) ⟨Nat.le_of_ble_eq_true rfl, Nat.le_of_ble_eq_true rfl⟩) (cPcS_pv hPc hK hDc hAb hb0 hS hstt (ci := 1) (q0 := 0) rfl rfl) rfl rfl hl.1 rfl (lv_room (Nat.le_of_ble_eq_true rfl)) dX7_ride_29 ⟨Nat.le_of_ble_eq_true rfl, Nat.le_of_ble_eq_true rfl⟩) hS (fun q _ h => hFc q h) hFc (fun u4 t H1 locs ht hvm hw hB hz1 hk1 hS => ?_)
      obtain ⟨hP1, hD1⟩ := hB
      rw [ht] at hP1
      obtain ⟨hP, hD⟩ := jT2 (R := [(mm, .inr (7, [.ref sc, .ref cm, .ref hh, .ref sla, .ref pd, .ref rd])), (cm, .inr (0, [.ref cm1, .ref cm2, .ref cm3])), (cm1, .inl (cI, 24, .inl lea)), (cm2, .inl (cI, 24, .inl upr)), (cm3, .inl (cI, 25, .inl ris)), (pd, .inr (2, [.ref pda, .int pl])), (pda, .inl (cC, 80, .inl tx)), (rd, .inr (4, [.ref pd, .int at_, .int kd, .ref rda])), (rda, .inl (cI, 7, .inl va))]) (w1 := (ws_histT_scene cI cC cZ cR hh hst sc sea th th1 th2 th3 th4 th5 th6 th7 th8 th9 pi pia r3.2.2.1 r3.2.2.2 se mn ln hi wi br sp si le un ul px tm ps ft fk r3.1 u4)) hP hD [23, 24, 1, 2, 3, 4, 5, 6, 7, 8, 9, 10, 11, 12, 13, 14] [0, 15, 16, 17, 18, 19, 20, 21, 22] rfl rfl (by decide) (by decide) hk1 hFc hP1 hD1
      have hP := va_P_subT (X' := (ws_mainT cI cC cZ cR mm sc sea th th1 th2 th3 th4 th5 th6 th7 th8 th9 pi pia cm cm1 cm2 cm3 pd pda rd rda hh hst sla se mn ln hi wi br sp si le un ul px tm ps ft fk lea upr ris pl tx at_ kd va r3.2.2.1 r3.2.2.2 r3.1 u4)) hP [0, 11, 12, 13, 14, 15, 16, 17, 18, 19, 20, 21, 22, 23, 24, 1, 2, 3, 4, 5, 6, 7, 8, 9, 10] rfl
      have hD := va_D_subT (X' := (ws_mainT cI cC cZ cR mm sc sea th th1 th2 th3 th4 th5 th6 th7 th8 th9 pi pia cm cm1 cm2 cm3 pd pda rd rda hh hst sla se mn ln hi wi br sp si le un ul px tm ps ft fk lea upr ris pl tx at_ kd va r3.2.2.1 r3.2.2.2 r3.1 u4)) hD [0, 11, 12, 13, 14, 15, 16, 17, 18, 19, 20, 21, 22, 23, 24, 1, 2, 3, 4, 5, 6, 7, 8, 9, 10] (by decide) rfl
      generalize H1 = H at hP hS ⊢
      refine lv_aload_n hx hb dX7_ride_32 rfl (lv_at hl 0 rfl) ?_
      refine va_get (D := D) (ci := 7) (v := .ref sc) (C := RX7) (T := TX7) (N := 6) hx hb hts uX7_ride_X7 hown hK.1 hP 0 rfl rfl 0 (by decide) (hts _ kX7_ride_2) (fun _ h9 => h9) rfl dX7_ride_33 ?_
      refine va_get (D := D) (ci := 5) (v := .ref th) (C := RX5) (T := TX5) (N := 7) hx hb hts uX7_ride_X5 hown hK.1 hP 1 rfl rfl 1 (by decide) (hts _ kX7_ride_4) (fun _ h9 => h9) rfl dX7_ride_36 ?_
      refine va_get (D := D) (ci := 6) (v := .ref th8) (C := RX6) (T := TX6) (N := 10) hx hb hts uX7_ride_X6 hown hK.1 hP 3 rfl rfl 8 (by decide) (hts _ kX7_ride_6) (fun _ h9 => h9) rfl dX7_ride_39 ?_
      refine lv_iload_n hx hb dX7_ride_42 rfl (lv_at hl 1 rfl) ?_
      obtain ⟨hin, h⟩ := gd_sp h
      refine va_iald (D := D) hx hb hK.1 hP 11 0 rfl rfl hin dX7_ride_43 ?_
      refine lv_topi (fun x5 ex5 => ?_)
      replace h := bd_s2 h ex5
      refine lv_istore_n (lv' := [(3, .int x5), (0, .ref mm), (1, .int a0), (2, .int a1)]) hx hb dX7_ride_44 rfl hl (by decide) rfl (fun ls hl => ?_)
      refine lv_aload_n hx hb dX7_ride_45 rfl (lv_at hl 1 rfl) ?_
      refine va_get (D := D) (ci := 7) (v := .ref sc) (C := RX7) (T := TX7) (N := 6) hx hb hts uX7_ride_X7 hown hK.1 hP 0 rfl rfl 0 (by decide) (hts _ kX7_ride_2) (fun _ h9 => h9) rfl dX7_ride_46 ?_
      refine va_get (D := D) (ci := 5) (v := .ref th) (C := RX5) (T := TX5) (N := 7) hx hb hts uX7_ride_X5 hown hK.1 hP 1 rfl rfl 1 (by decide) (hts _ kX7_ride_4) (fun _ h9 => h9) rfl dX7_ride_49 ?_
      refine lv_iload_n hx hb dX7_ride_52 rfl (lv_at hl 2 rfl) ?_
      refine lv_aload_n hx hb dX7_ride_53 rfl (lv_at hl 1 rfl) ?_
      refine va_get (D := D) (ci := 7) (v := .ref sc) (C := RX7) (T := TX7) (N := 6) hx hb hts uX7_ride_X7 hown hK.1 hP 0 rfl rfl 0 (by decide) (hts _ kX7_ride_2) (fun _ h9 => h9) rfl dX7_ride_54 ?_
      refine va_get (D := D) (ci := 5) (v := .ref th) (C := RX5) (T := TX5) (N := 7) hx hb hts uX7_ride_X5 hown hK.1 hP 1 rfl rfl 1 (by decide) (hts _ kX7_ride_4) (fun _ h9 => h9) rfl dX7_ride_57 ?_
      refine va_get (D := D) (ci := 6) (v := .ref th5) (C := RX6) (T := TX6) (N := 10) hx hb hts uX7_ride_X6 hown hK.1 hP 3 rfl rfl 5 (by decide) (hts _ kX7_ride_7) (fun _ h9 => h9) rfl dX7_ride_60 ?_
      refine lv_iload_n hx hb dX7_ride_63 rfl (lv_at hl 2 rfl) ?_
      obtain ⟨hin, h⟩ := gd_sp h
      refine va_iald (D := D) hx hb hK.1 hP 8 0 rfl rfl hin dX7_ride_64 ?_
      refine lv_iload_n hx hb dX7_ride_65 rfl (lv_at hl 3 rfl) ?_
      refine lv_aload_n hx hb dX7_ride_66 rfl (lv_at hl 1 rfl) ?_
      refine va_get (D := D) (ci := 7) (v := .ref sc) (C := RX7) (T := TX7) (N := 6) hx hb hts uX7_ride_X7 hown hK.1 hP 0 rfl rfl 0 (by decide) (hts _ kX7_ride_2) (fun _ h9 => h9) rfl dX7_ride_67 ?_
      refine va_get (D := D) (ci := 5) (v := .int tm) (C := RX5) (T := TX5) (N := 7) hx hb hts uX7_ride_X5 hown hK.1 hP 1 rfl rfl 3 (by decide) (hts _ kX7_ride_8) (fun _ h9 => h9) rfl dX7_ride_70 ?_
      obtain ⟨r6, hcr6, h⟩ := bn_sp h
      have hPc := hP.sub (ws' := (ws_things cI cC cZ cR th th1 th2 th3 th4 th5 th6 th7 th8 th9 mn ln hi wi br sp si le un ul)) [3, 4, 5, 6, 7, 8, 9, 10, 11, 12] rfl
      have hDc := hD.sub (ws' := (ws_things cI cC cZ cR th th1 th2 th3 th4 th5 th6 th7 th8 th9 mn ln hi wi br sp si le un ul)) [3, 4, 5, 6, 7, 8, 9, 10, 11, 12] (by decide) rfl
      have hFc := va_free (wc := (ws_things cI cC cZ cR th th1 th2 th3 th4 th5 th6 th7 th8 th9 mn ln hi wi br sp si le un ul)) hD hS hA [3, 4, 5, 6, 7, 8, 9, 10, 11, 12] rfl
      refine va_callv (va_runV (As := [.int a0, .int (sp a0.toNatClampNeg), .int a1, .int tm]) (rest := []) ⟨hx, hb, hml, hown, hts⟩ (m_X6_comeAnew l D cI cC cZ cR th th1 th2 th3 th4 th5 th6 th7 th8 th9 _ mn ln hi wi br sp si le un ul a0 (sp a0.toNatClampNeg) a1 tm   r6 hcr6) (cwV 4 hts gX7_ride_X6_comeAnew rfl rfl rfl (by decide +kernel) ⟨Nat.le_of_ble_eq_true rfl, Nat.le_of_ble_eq_true rfl⟩) (cPc_pv hPc hK hDc (ci := 6) (q0 := 0) rfl rfl) rfl rfl hl.1 rfl (lv_room (Nat.le_of_ble_eq_true rfl)) dX7_ride_73 ⟨Nat.le_of_ble_eq_true rfl, Nat.le_of_ble_eq_true rfl⟩) hS (fun q _ h => hFc q h) hFc (fun u t H1 locs ht hvm hw hB hz1 hk1 hS => ?_)
      obtain ⟨hP1, hD1⟩ := hB
      rw [ht] at hP1
      obtain ⟨hP, hD⟩ := jT1 (R := [(mm, .inr (7, [.ref sc, .ref cm, .ref hh, .ref sla, .ref pd, .ref rd])), (sc, .inr (5, [.ref sea, .ref th, .ref pi, .int tm, .int ps, .int ft, .int fk])), (sea, .inl (cI, 4, .inl se)), (pi, .inr (3, [.ref pia])), (pia, .inl (cI, 384, .inl px)), (cm, .inr (0, [.ref cm1, .ref cm2, .ref cm3])), (cm1, .inl (cI, 24, .inl lea)), (cm2, .inl (cI, 24, .inl upr)), (cm3, .inl (cI, 25, .inl ris)), (pd, .inr (2, [.ref pda, .int pl])), (pda, .inl (cC, 80, .inl tx)), (rd, .inr (4, [.ref pd, .int at_, .int kd, .ref rda])), (rda, .inl (cI, 7, .inl va)), (hh, .inr (1, [.ref hst, .int r3.2.2.1, .int r3.2.2.2])), (hst, .inl (cR, 6, .inr (.inr (.inr (.inr (hfn r3.1 u4))))))]) (w1 := (ws_things cI cC cZ cR th th1 th2 th3 th4 th5 th6 th7 th8 th9 mn ln hi wi br r6.1 r6.2.1 r6.2.2.1 r6.2.2.2.1 r6.2.2.2.2)) hP hD [3, 4, 5, 6, 7, 8, 9, 10, 11, 12] [0, 1, 2, 13, 14, 15, 16, 17, 18, 19, 20, 21, 22, 23, 24] rfl rfl (by decide) (by decide) hk1 hFc hP1 hD1
      have hP := va_P_subT (X' := (ws_mainT cI cC cZ cR mm sc sea th th1 th2 th3 th4 th5 th6 th7 th8 th9 pi pia cm cm1 cm2 cm3 pd pda rd rda hh hst sla se mn ln hi wi br r6.1 r6.2.1 r6.2.2.1 r6.2.2.2.1 r6.2.2.2.2 px tm ps ft fk lea upr ris pl tx at_ kd va r3.2.2.1 r3.2.2.2 r3.1 u4)) hP [0, 1, 2, 15, 16, 17, 18, 19, 20, 21, 22, 23, 24, 3, 4, 5, 6, 7, 8, 9, 10, 11, 12, 13, 14] rfl
      have hD := va_D_subT (X' := (ws_mainT cI cC cZ cR mm sc sea th th1 th2 th3 th4 th5 th6 th7 th8 th9 pi pia cm cm1 cm2 cm3 pd pda rd rda hh hst sla se mn ln hi wi br r6.1 r6.2.1 r6.2.2.1 r6.2.2.2.1 r6.2.2.2.2 px tm ps ft fk lea upr ris pl tx at_ kd va r3.2.2.1 r3.2.2.2 r3.1 u4)) hD [0, 1, 2, 15, 16, 17, 18, 19, 20, 21, 22, 23, 24, 3, 4, 5, 6, 7, 8, 9, 10, 11, 12, 13, 14] (by decide) rfl
      generalize H1 = H at hP hS ⊢
      refine lv_iload_n hx hb dX7_ride_76 rfl (lv_at hl 0 rfl) ?_
      have e9 := Option.some.inj h
      subst e9
      rw [hQ]
      exact W.iret (v := x5) hx hb hr (fun t ht hW => ⟨⟨x5, u4, rfl, rfl, by rw [ht]; exact hP, hD⟩, hS.F ht⟩) hS.2.2 dX7_ride_77
    · replace h := br_n (not_not_intro c7) h
      refine lv_bipush (v := (-2)) hx hb dX7_ride_18 (by decide) ?_
      have e9 := Option.some.inj h
      subst e9
      rw [hQ]
      refine W.widen (k := 14) (n := 478) (by decide) (by decide) ?_
      exact W.iret (v := (-2)) hx hb hr (fun t ht hW => ⟨⟨(-2), ad, rfl, rfl, by rw [ht]; exact hP, hD⟩, hS.F ht⟩) hS.2.2 dX7_ride_20
  · replace h := br_n (not_not_intro c8) h
    refine lv_iconst (v := (-1)) hx hb dX7_ride_8 (by decide) ?_
    have e9 := Option.some.inj h
    subst e9
    rw [hQ]
    refine W.widen (k := 14) (n := 478) (by decide) (by decide) ?_
    exact W.iret (v := (-1)) hx hb hr (fun t ht hW => ⟨⟨(-1), ad, rfl, rfl, by rw [ht]; exact hP, hD⟩, hS.F ht⟩) hS.2.2 dX7_ride_9
