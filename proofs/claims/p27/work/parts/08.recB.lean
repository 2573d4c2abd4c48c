abbrev ws_mainTS_scene (cI cC cZ cR : ClassId) (mm sc sea th th1 th2 th3 th4 th5 th6 th7 th8 th9 pi pia cm cm1 cm2 cm3 pd pda rd rda hh hst sla bsc bsea bth bth1 bth2 bth3 bth4 bth5 bth6 bth7 bth8 bth9 bpi bpia : Nat) (se : Nat → Int32) (mn : Int32) (ln : Nat → Int32) (hi : Nat → Int32) (wi : Nat → Int32) (br : Nat → Int32) (sp : Nat → Int32) (si : Nat → Int32) (le : Nat → Int32) (un : Nat → Int32) (ul : Nat → Int32) (px : Nat → Int32) (tm : Int32) (ps : Int32) (ft : Int32) (fk : Int32) (lea : Nat → Int32) (upr : Nat → Int32) (ris : Nat → Int32) (pl : Int32) (tx : Nat → Int32) (at_ : Int32) (kd : Int32) (va : Nat → Int32) (nx : Int32) (hm : Int32) (bse : Nat → Int32) (bmn : Int32) (bln : Nat → Int32) (bhi : Nat → Int32) (bwi : Nat → Int32) (bbr : Nat → Int32) (bsp : Nat → Int32) (bsi : Nat → Int32) (ble : Nat → Int32) (bun : Nat → Int32) (bul : Nat → Int32) (bpx : Nat → Int32) (btm : Int32) (bps : Int32) (bft : Int32) (bfk : Int32) (sfu : Nat → Option Nat) (pr : Nat → Bool) (ad : Nat → Nat → Nat) : va_W := [(mm, .inr (7, [.ref sc, .ref cm, .ref hh, .ref sla, .ref pd, .ref rd])), (sc, .inr (5, [.ref sea, .ref th, .ref pi, .int tm, .int ps, .int ft, .int fk])), (sea, .inl (cI, 4, .inl se)), (th, .inr (6, [.int mn, .ref th1, .ref th2, .ref th3, .ref th4, .ref th5, .ref th6, .ref th7, .ref th8, .ref th9])), (th1, .inl (cI, 8, .inl ln)), (th2, .inl (cI, 8, .inl hi)), (th3, .inl (cI, 8, .inl wi)), (th4, .inl (cI, 8, .inl br)), (th5, .inl (cI, 8, .inl sp)), (th6, .inl (cI, 8, .inl si)), (th7, .inl (cI, 8, .inl le)), (th8, .inl (cI, 8, .inl un)), (th9, .inl (cI, 8, .inl ul)), (pi, .inr (3, [.ref pia])), (pia, .inl (cI, 384, .inl px)), (cm, .inr (0, [.ref cm1, .ref cm2, .ref cm3])), (cm1, .inl (cI, 24, .inl lea)), (cm2, .inl (cI, 24, .inl upr)), (cm3, .inl (cI, 25, .inl ris)), (pd, .inr (2, [.ref pda, .int pl])), (pda, .inl (cC, 80, .inl tx)), (rd, .inr (4, [.ref pd, .int at_, .int kd, .ref rda])), (rda, .inl (cI, 7, .inl va)), (hh, .inr (1, [.ref hst, .int nx, .int hm])), (hst, .inl (cR, 6, .inr (.inr (.inr (.inr (hfn pr ad)))))), (sla, .inl (cR, 2, .inr (.inr (.inr (.inr sfu))))), (bsc, .inr (5, [.ref bsea, .ref bth, .ref bpi, .int btm, .int bps, .int bft, .int bfk])), (bsea, .inl (cI, 4, .inl bse)), (bth, .inr (6, [.int bmn, .ref bth1, .ref bth2, .ref bth3, .ref bth4, .ref bth5, .ref bth6, .ref bth7, .ref bth8, .ref bth9])), (bth1, .inl (cI, 8, .inl bln)), (bth2, .inl (cI, 8, .inl bhi)), (bth3, .inl (cI, 8, .inl bwi)), (bth4, .inl (cI, 8, .inl bbr)), (bth5, .inl (cI, 8, .inl bsp)), (bth6, .inl (cI, 8, .inl bsi)), (bth7, .inl (cI, 8, .inl ble)), (bth8, .inl (cI, 8, .inl bun)), (bth9, .inl (cI, 8, .inl bul)), (bpi, .inr (3, [.ref bpia])), (bpia, .inl (cI, 384, .inl bpx))]
-- LeaningLines.flash
abbrev OUT_X7_flash : Type := Int32 × (Nat → Bool) × (Nat → SCV) × Int32 × Int32 × Int32 × Int32
def f_X7_flash (se : Nat → Int32) (mn : Int32) (ln : Nat → Int32) (hi : Nat → Int32) (wi : Nat → Int32) (br : Nat → Int32) (sp : Nat → Int32) (si : Nat → Int32) (le : Nat → Int32) (un : Nat → Int32) (ul : Nat → Int32) (px : Nat → Int32) (tm : Int32) (ps : Int32) (ft : Int32) (fk : Int32) (nx : Int32) (hm : Int32) (pr : Nat → Bool) (sv : Nat → SCV) (a0 : Int32) (a1 : Int32) : Option OUT_X7_flash :=
  bn (f_X7_errorOfFlash a0 a1) (fun r1 => (if r1 = 0 then bn (f_X1_record nx hm se mn ln hi wi br sp si le un ul px tm ps ft fk pr sv) (fun r2 => bn (f_X5_setFlash tm a0 a1) (fun r4 => some ((r4.1, r2.1, r2.2.1, r4.1, r4.2, r2.2.2.1, r2.2.2.2)))) else some ((r1, pr, sv, ft, fk, nx, hm))))
theorem uX7_flash_X7 : ∀ w ∈ wsX70, w ∈ wsX7_flash := by decide +kernel
theorem kX7_flash_1 : Cond.fieldLink RX7 26 "LeaningLines" "history" "LLeaningLines$History;" ∈ wsX7_flash := by decide +kernel
theorem kX7_flash_2 : Cond.fieldLink RX7 10 "LeaningLines" "scene" "LLeaningLines$Scene;" ∈ wsX7_flash := by decide +kernel
theorem uX7_flash_X5 : ∀ w ∈ wsX50, w ∈ wsX7_flash := by decide +kernel
theorem kX7_flash_4 : Cond.fieldLink RX7 115 "LeaningLines$Scene" "flashTime" "I" ∈ wsX7_flash := by decide +kernel
abbrev R_X7_flash : Room := { frames := 4, cells := 14, slots := 478, locals := 104 }
set_option maxHeartbeats 4000000 in
set_option maxRecDepth 100000 in
theorem m_X7_flash (l : Launch) (D : va_G) (cI cC cZ cR : ClassId) (mm sc sea th th1 th2 th3 th4 th5 th6 th7 th8 th9 pi pia cm cm1 cm2 cm3 pd pda rd rda hh hst sla : Nat) (sz : Nat) (se : Nat → Int32) (mn : Int32) (ln : Nat → Int32) (hi : Nat → Int32) (wi : Nat → Int32) (br : Nat → Int32) (sp : Nat → Int32) (si : Nat → Int32) (le : Nat → Int32) (un : Nat → Int32) (ul : Nat → Int32) (px : Nat → Int32) (tm : Int32) (ps : Int32) (ft : Int32) (fk : Int32) (lea : Nat → Int32) (upr : Nat → Int32) (ris : Nat → Int32) (pl : Int32) (tx : Nat → Int32) (at_ : Int32) (kd : Int32) (va : Nat → Int32) (nx : Int32) (hm : Int32) (pr : Nat → Bool) (ad : Nat → Nat → Nat) (sv : Nat → SCV) (a0 : Int32) (a1 : Int32) (b0 : Nat)  (r : OUT_X7_flash) (hf : f_X7_flash se mn ln hi wi br sp si le un ul px tm ps ft fk nx hm pr sv a0 a1 = some r) : Met l yX7_flash wsX7_flash R_X7_flash (cPcS D cI cC cZ cR b0 [.ref mm, .int a0, .int a1] sz ((ws_mainT cI cC cZ cR mm sc sea th th1 th2 th3 th4 th5 th6 th7 th8 th9 pi pia cm cm1 cm2 cm3 pd pda rd rda hh hst sla se mn ln hi wi br sp si le un ul px tm ps ft fk lea upr ris pl tx at_ kd va nx hm pr ad) ++ hwB cI cC cZ cR pr ad sv)) (va_Qi (fun (x : Int32) (_ : Nat → Nat → Nat) => x = r.1) (fun u t => va_P D vwCl (((ws_mainT cI cC cZ cR mm sc sea th th1 th2 th3 th4 th5 th6 th7 th8 th9 pi pia cm cm1 cm2 cm3 pd pda rd rda hh hst sla se mn ln hi wi br sp si le un ul px tm ps r.2.2.2.1 r.2.2.2.2.1 lea upr ris pl tx at_ kd va r.2.2.2.2.2.1 r.2.2.2.2.2.2 r.2.1 u) ++ hwB cI cC cZ cR r.2.1 u r.2.2.1)) t.heap ∧ va_D (va_A ((ws_mainT cI cC cZ cR mm sc sea th th1 th2 th3 th4 th5 th6 th7 th8 th9 pi pia cm cm1 cm2 cm3 pd pda rd rda hh hst sla se mn ln hi wi br sp si le un ul px tm ps ft fk lea upr ris pl tx at_ kd va nx hm pr ad) ++ hwB cI cC cZ cR pr ad sv) sz) (((ws_mainT cI cC cZ cR mm sc sea th th1 th2 th3 th4 th5 th6 th7 th8 th9 pi pia cm cm1 cm2 cm3 pd pda rd rda hh hst sla se mn ln hi wi br sp si le un ul px tm ps r.2.2.2.1 r.2.2.2.2.1 lea upr ris pl tx at_ kd va r.2.2.2.2.2.1 r.2.2.2.2.2.2 r.2.1 u) ++ hwB cI cC cZ cR r.2.1 u r.2.2.1))) (va_A ((ws_mainT cI cC cZ cR mm sc sea th th1 th2 th3 th4 th5 th6 th7 th8 th9 pi pia cm cm1 cm2 cm3 pd pda rd rda hh hst sla se mn ln hi wi br sp si le un ul px tm ps ft fk lea upr ris pl tx at_ kd va nx hm pr ad) ++ hwB cI cC cZ cR pr ad sv) sz)) 14 478 (va_A ((ws_mainT cI cC cZ cR mm sc sea th th1 th2 th3 th4 th5 th6 th7 th8 th9 pi pia cm cm1 cm2 cm3 pd pda rd rda hh hst sla se mn ln hi wi br sp si le un ul px tm ps ft fk lea upr ris pl tx at_ kd va nx hm pr ad) ++ hwB cI cC cZ cR pr ad sv) sz) := by
  refine Met.ofW (cc := cX7_flash) (maxL := 4) (ret := (some .int)) (by decide) rfl ?_
  intro p e s m args below meth c s₁ B hml hv
  obtain ⟨rfl, hsz, hP, hK, hD0, hb0, hstt⟩ := hv
  have hx := B.exec
  have hb := B.bytes
  have hr := B.returns
  have hts := atoms_spec (ws := wsX7_flash) B.pre
  have hown : s.vm.findClass RX7 = some m.cls := findClass_of_methodNamed B.named
  have hlocks := B.notSynchronized
  subst hsz
  have hD := hD0.self (sz := s.heap.size)
  generalize hAe : va_A ((ws_mainT cI cC cZ cR mm sc sea th th1 th2 th3 th4 th5 th6 th7 th8 th9 pi pia cm cm1 cm2 cm3 pd pda rd rda hh hst sla se mn ln hi wi br sp si le un ul px tm ps ft fk lea upr ris pl tx at_ kd va nx hm pr ad) ++ hwB cI cC cZ cR pr ad sv) s.heap.size = A at hD ⊢
  have hAb := hAb_of hAe hD0 hb0
  have hA : ∀ q : Nat, s.heap.size ≤ q → A q := fun q h => by rw [← hAe]; exact Or.inr h
  have hS : va_S A s.heap s.heap [] := va_S.rf
  have hl := lv_entry ([.ref mm, .int a0, .int a1]) (n := 4) (Nat.le_of_ble_eq_true rfl)
  rw [lg_entry_eq]
  generalize (lg_sl ([.ref mm, .int a0, .int a1]) ++ List.replicate (4 - (lg_sl ([.ref mm, .int a0, .int a1])).length) Slot.unset).toArray = ls at hl ⊢
  have hl : lv_has ls 4 [(0, .ref mm), (1, .int a0), (2, .int a1)] := hl
  refine W_absQ (fun Q hQ => ?_)
  refine W.eq (g2 := F0 m 0 ls []) rfl ?_
  have h := hf
  unfold f_X7_flash at h
  refine lv_aload_n hx hb dX7_flash_0 rfl (lv_at hl 0 rfl) ?_
  refine lv_iload_n hx hb dX7_flash_1 rfl (lv_at hl 1 rfl) ?_
  refine lv_iload_n hx hb dX7_flash_2 rfl (lv_at hl 2 rfl) ?_
  obtain ⟨r1, hcr1, h⟩ := bn_sp h
  have hPc := hP.sub (ws' := (ws_main cI cC cZ cR mm sc sea th th1 th2 th3 th4 th5 th6 th7 th8 th9 pi pia cm cm1 cm2 cm3 pd pda rd rda hh sla se mn ln hi wi br sp si le un ul px tm ps ft fk lea upr ris pl tx at_ kd va)) [0, 1, 2, 3, 4, 5, 6, 7, 8, 9, 10, 11, 12, 13, 14, 15, 16, 17, 18, 19, 20, 21, 22] rfl
  have hDc := hD.sub (ws' := (ws_main cI cC cZ cR mm sc sea th th1 th2 th3 th4 th5 th6 th7 th8 th9 pi pia cm cm1 cm2 cm3 pd pda rd rda hh sla se mn ln hi wi br sp si le un ul px tm ps ft fk lea upr ris pl tx at_ kd va)) [0, 1, 2, 3, 4, 5, 6, 7, 8, 9, 10, 11, 12, 13, 14, 15, 16, 17, 18, 19, 20, 21, 22] (by decide) rfl
  have hFc := va_free (wc := (ws_main cI cC cZ cR mm sc sea th th1 th2 th3 th4 th5 th6 th7 th8 th9 pi pia cm cm1 cm2 cm3 pd pda rd rda hh sla se mn ln hi wi br sp si le un ul px tm ps ft fk lea upr ris pl tx at_ kd va)) hD hS hA [0, 1, 2, 3, 4, 5, 6, 7, 8, 9, 10, 11, 12, 13, 14, 15, 16, 17, 18, 19, 20, 21, 22] rfl
  refine va_calli (va_runV (As := [.int a0, .int a1]) (rest := []) ⟨hx, hb, hml, hown, hts⟩ (m_X7_errorOfFlash l D cI cC cZ cR mm sc sea th th1 th2 th3 th4 th5 th6 th7 th8 th9 pi pia cm cm1 cm2 cm3 pd pda rd rda hh sla _ se mn ln hi wi br sp si le un ul px tm ps ft fk lea upr ris pl tx at_ kd va a0 a1   r1 hcr1) (cwV 2 hts gX7_flash_X7_errorOfFlash rfl rfl rfl (by decide +kernel) ⟨Nat.le_of_ble_eq_true rfl, Nat.le_of_ble_eq_true rfl⟩) (cPc_pv hPc hK hDc (ci := 7) (q0 := 0) rfl rfl) rfl rfl hl.1 rfl (lv_room (Nat.le_of_ble_eq_true rfl)) dX7_flash_3 ⟨Nat.le_of_ble_eq_true rfl, Nat.le_of_ble_eq_true rfl⟩) hS (fun q _ h => hFc q h) hFc (fun xq u t H1 locs ht hvm hw hB hz1 hk1 hS => ?_)
  rw [hw]
  obtain ⟨hP1, hD1⟩ := hB
  rw [ht] at hP1
  obtain ⟨hP, hD⟩ := jT1 (R := [(hh, .inr (1, [.ref hst, .int nx, .int hm])), (hst, .inl (cR, 6, .inr (.inr (.inr (.inr (hfn pr ad))))))]) (w1 := (ws_main cI cC cZ cR mm sc sea th th1 th2 th3 th4 th5 th6 th7 th8 th9 pi pia cm cm1 cm2 cm3 pd pda rd rda hh sla se mn ln hi wi br sp si le un ul px tm ps ft fk lea upr ris pl tx at_ kd va)) hP hD [0, 1, 2, 3, 4, 5, 6, 7, 8, 9, 10, 11, 12, 13, 14, 15, 16, 17, 18, 19, 20, 21, 22] [23, 24] rfl rfl (by decide) (by decide) hk1 hFc hP1 hD1
  have hP := va_P_subT (X' := (ws_mainT cI cC cZ cR mm sc sea th th1 th2 th3 th4 th5 th6 th7 th8 th9 pi pia cm cm1 cm2 cm3 pd pda rd rda hh hst sla se mn ln hi wi br sp si le un ul px tm ps ft fk lea upr ris pl tx at_ kd va nx hm pr ad)) hP [2, 3, 4, 5, 6, 7, 8, 9, 10, 11, 12, 13, 14, 15, 16, 17, 18, 19, 20, 21, 22, 23, 24, 0, 1] rfl
  have hD := va_D_subT (X' := (ws_mainT cI cC cZ cR mm sc sea th th1 th2 th3 th4 th5 th6 th7 th8 th9 pi pia cm cm1 cm2 cm3 pd pda rd rda hh hst sla se mn ln hi wi br sp si le un ul px tm ps ft fk lea upr ris pl tx at_ kd va nx hm pr ad)) hD [2, 3, 4, 5, 6, 7, 8, 9, 10, 11, 12, 13, 14, 15, 16, 17, 18, 19, 20, 21, 22, 23, 24, 0, 1] (by decide) rfl
  generalize H1 = H at hP hS ⊢
  refine lv_istore_n (lv' := [(3, .int r1), (0, .ref mm), (1, .int a0), (2, .int a1)]) hx hb dX7_flash_6 rfl hl (by decide) rfl (fun ls hl => ?_)
  refine lv_iload_n hx hb dX7_flash_7 rfl (lv_at hl 0 rfl) ?_
  refine lv_if_eq (tgt := 13) hx hb dX7_flash_8 (by decide) (fun c5 => ?_) (fun c5 => ?_)
  · replace h := br_p c5 h
    refine lv_aload_n hx hb dX7_flash_13 rfl (lv_at hl 1 rfl) ?_
    refine va_get (D := D) (ci := 7) (v := .ref hh) (C := RX7) (T := TX7) (N := 6) hx hb hts uX7_flash_X7 hown hK.1 hP 0 rfl rfl 2 (by decide) (hts _ kX7_flash_1) (fun _ h9 => h9) rfl dX7_flash_14 ?_
    refine lv_aload_n hx hb dX7_flash_17 rfl (lv_at hl 1 rfl) ?_
    refine va_get (D := D) (ci := 7) (v := .ref sc) (C := RX7) (T := TX7) (N := 6) hx hb hts uX7_flash_X7 hown hK.1 hP 0 rfl rfl 0 (by decide) (hts _ kX7_flash_2) (fun _ h9 => h9) rfl dX7_flash_18 ?_
    obtain ⟨r2, hcr2, h⟩ := bn_sp h
    have hPc := va_P_subT (X' := (ws_histT_scene cI cC cZ cR hh hst sc sea th th1 th2 th3 th4 th5 th6 th7 th8 th9 pi pia nx hm se mn ln hi wi br sp si le un ul px tm ps ft fk pr ad)) hP [23, 24, 1, 2, 3, 4, 5, 6, 7, 8, 9, 10, 11, 12, 13, 14] rfl
    have hDc := va_D_subT (X' := (ws_histT_scene cI cC cZ cR hh hst sc sea th th1 th2 th3 th4 th5 th6 th7 th8 th9 pi pia nx hm se mn ln hi wi br sp si le un ul px tm ps ft fk pr ad)) hD [23, 24, 1, 2, 3, 4, 5, 6, 7, 8, 9, 10, 11, 12, 13, 14] (by decide) rfl
    have hFc := va_freeT (wc := (ws_histT_scene cI cC cZ cR hh hst sc sea th th1 th2 th3 th4 th5 th6 th7 th8 th9 pi pia nx hm se mn ln hi wi br sp si le un ul px tm ps ft fk pr ad)) hD hS hA [23, 24, 1, 2, 3, 4, 5, 6, 7, 8, 9, 10, 11, 12, 13, 14] rfl
    refine va_callv (va_runV (As := [.ref sc]) (rest := []) ⟨hx, hb, hml, hown, hts⟩ (m_X1_record l D cI cC cZ cR hh hst sc sea th th1 th2 th3 th4 th5 th6 th7 th8 th9 pi pia _ nx hm se mn ln hi wi br sp si le un ul px tm ps ft fk pr ad sv  b0  r2 hcr2) (cwV 1 hts gX7_flash_X1_record rfl rfl rfl (by decide +kernel) ⟨Nat.le_of_ble_eq_true rfl, Nat.le_of_ble_eq_true rfl⟩) (cPcS_pv hPc hK hDc hAb hb0 hS hstt (ci := 1) (q0 := 0) rfl rfl) rfl rfl hl.1 rfl (lv_room (Nat.le_of_ble_eq_true rfl)) dX7_flash_21 ⟨Nat.le_of_ble_eq_true rfl, Nat.le_of_ble_eq_true rfl⟩) hS (fun q _ h => hFc q h) hFc (fun u3 t H1 locs ht hvm hw hB hz1 hk1 hS => ?_)
    obtain ⟨hP1, hD1⟩ := hB
    rw [ht] at hP1
    obtain ⟨hP, hD⟩ := jT2 (R := [(mm, .inr (7, [.ref sc, .ref cm, .ref hh, .ref sla, .ref pd, .ref rd])), (cm, .inr (0, [.ref cm1, .ref cm2, .ref cm3])), (cm1, .inl (cI, 24, .inl lea)), (cm2, .inl (cI, 24, .inl upr)), (cm3, .inl (cI, 25, .inl ris)), (pd, .inr (2, [.ref pda, .int pl])), (pda, .inl (cC, 80, .inl tx)), (rd, .inr (4, [.ref pd, .int at_, .int kd, .ref rda])), (rda, .inl (cI, 7, .inl va))]) (w1 := (ws_histT_scene cI cC cZ cR hh hst sc sea th th1 th2 th3 th4 th5 th6 th7 th8 th9 pi pia r2.2.2.1 r2.2.2.2 se mn ln hi wi br sp si le un ul px tm ps ft fk r2.1 u3)) hP hD [23, 24, 1, 2, 3, 4, 5, 6, 7, 8, 9, 10, 11, 12, 13, 14] [0, 15, 16, 17, 18, 19, 20, 21, 22] rfl rfl (by decide) (by decide) hk1 hFc hP1 hD1
    have hP := va_P_subT (X' := (ws_mainT cI cC cZ cR mm sc sea th th1 th2 th3 th4 th5 th6 th7 th8 th9 pi pia cm cm1 cm2 cm3 pd pda rd rda hh hst sla se mn ln hi wi br sp si le un ul px tm ps ft fk lea upr ris pl tx at_ kd va r2.2.2.1 r2.2.2.2 r2.1 u3)) hP [0, 11, 12, 13, 14, 15, 16, 17, 18, 19, 20, 21, 22, 23, 24, 1, 2, 3, 4, 5, 6, 7, 8, 9, 10] rfl
    have hD := va_D_subT (X' := (ws_mainT cI cC cZ cR mm sc sea th th1 th2 th3 th4 th5 th6 th7 th8 th9 pi pia cm cm1 cm2 cm3 pd pda rd rda hh hst sla se mn ln hi wi br sp si le un ul px tm ps ft fk lea upr ris pl tx at_ kd va r2.2.2.1 r2.2.2.2 r2.1 u3)) hD [0, 11, 12, 13, 14, 15, 16, 17, 18, 19, 20, 21, 22, 23, 24, 1, 2, 3, 4, 5, 6, 7, 8, 9, 10] (by decide) rfl
    generalize H1 = H at hP hS ⊢
    refine lv_aload_n hx hb dX7_flash_24 rfl (lv_at hl 1 rfl) ?_
    refine va_get (D := D) (ci := 7) (v := .ref sc) (C := RX7) (T := TX7) (N := 6) hx hb hts uX7_flash_X7 hown hK.1 hP 0 rfl rfl 0 (by decide) (hts _ kX7_flash_2) (fun _ h9 => h9) rfl dX7_flash_25 ?_
    refine lv_iload_n hx hb dX7_flash_28 rfl (lv_at hl 2 rfl) ?_
    refine lv_iload_n hx hb dX7_flash_29 rfl (lv_at hl 3 rfl) ?_
    obtain ⟨r4, hcr4, h⟩ := bn_sp h
    have hPc := hP.sub (ws' := (ws_scene cI cC cZ cR sc sea th th1 th2 th3 th4 th5 th6 th7 th8 th9 pi pia se mn ln hi wi br sp si le un ul px tm ps ft fk)) [1, 2, 3, 4, 5, 6, 7, 8, 9, 10, 11, 12, 13, 14] rfl
    have hDc := hD.sub (ws' := (ws_scene cI cC cZ cR sc sea th th1 th2 th3 th4 th5 th6 th7 th8 th9 pi pia se mn ln hi wi br sp si le un ul px tm ps ft fk)) [1, 2, 3, 4, 5, 6, 7, 8, 9, 10, 11, 12, 13, 14] (by decide) rfl
    have hFc := va_free (wc := (ws_scene cI cC cZ cR sc sea th th1 th2 th3 th4 th5 th6 th7 th8 th9 pi pia se mn ln hi wi br sp si le un ul px tm ps ft fk)) hD hS hA [1, 2, 3, 4, 5, 6, 7, 8, 9, 10, 11, 12, 13, 14] rfl
    refine va_callv (va_runV (As := [.int a0, .int a1]) (rest := []) ⟨hx, hb, hml, hown, hts⟩ (m_X5_setFlash l D cI cC cZ cR sc sea th th1 th2 th3 th4 th5 th6 th7 th8 th9 pi pia _ se mn ln hi wi br sp si le un ul px tm ps ft fk a0 a1   r4 hcr4) (cwV 2 hts gX7_flash_X5_setFlash rfl rfl rfl (by decide +kernel) ⟨Nat.le_of_ble_eq_true rfl, Nat.le_of_ble_eq_true rfl⟩) (cPc_pv hPc hK hDc (ci := 5) (q0 := 0) rfl rfl) rfl rfl hl.1 rfl (lv_room (Nat.le_of_ble_eq_true rfl)) dX7_flash_30 ⟨Nat.le_of_ble_eq_true rfl, Nat.le_of_ble_eq_true rfl⟩) hS (fun q _ h => hFc q h) hFc (fun u t H1 locs ht hvm hw hB hz1 hk1 hS => ?_)
    obtain ⟨hP1, hD1⟩ := hB
    rw [ht] at hP1
    obtain ⟨hP, hD⟩ := jT1 (R := [(mm, .inr (7, [.ref sc, .ref cm, .ref hh, .ref sla, .ref pd, .ref rd])), (cm, .inr (0, [.ref cm1, .ref cm2, .ref cm3])), (cm1, .inl (cI, 24, .inl lea)), (cm2, .inl (cI, 24, .inl upr)), (cm3, .inl (cI, 25, .inl ris)), (pd, .inr (2, [.ref pda, .int pl])), (pda, .inl (cC, 80, .inl tx)), (rd, .inr (4, [.ref pd, .int at_, .int kd, .ref rda])), (rda, .inl (cI, 7, .inl va)), (hh, .inr (1, [.ref hst, .int r2.2.2.1, .int r2.2.2.2])), (hst, .inl (cR, 6, .inr (.inr (.inr (.inr (hfn r2.1 u3))))))]) (w1 := (ws_scene cI cC cZ cR sc sea th th1 th2 th3 th4 th5 th6 th7 th8 th9 pi pia se mn ln hi wi br sp si le un ul px tm ps r4.1 r4.2)) hP hD [1, 2, 3, 4, 5, 6, 7, 8, 9, 10, 11, 12, 13, 14] [0, 15, 16, 17, 18, 19, 20, 21, 22, 23, 24] rfl rfl (by decide) (by decide) hk1 hFc hP1 hD1
    have hP := va_P_subT (X' := (ws_mainT cI cC cZ cR mm sc sea th th1 th2 th3 th4 th5 th6 th7 th8 th9 pi pia cm cm1 cm2 cm3 pd pda rd rda hh hst sla se mn ln hi wi br sp si le un ul px tm ps r4.1 r4.2 lea upr ris pl tx at_ kd va r2.2.2.1 r2.2.2.2 r2.1 u3)) hP [0, 11, 12, 13, 14, 15, 16, 17, 18, 19, 20, 21, 22, 23, 24, 1, 2, 3, 4, 5, 6, 7, 8, 9, 10] rfl
    have hD := va_D_subT (X' := (ws_mainT cI cC cZ cR mm sc sea th th1 th2 th3 th4 th5 th6 th7 th8 th9 pi pia cm cm1 cm2 cm3 pd pda rd rda hh hst sla se mn ln hi wi br sp si le un ul px tm ps r4.1 r4.2 lea upr ris pl tx at_ kd va r2.2.2.1 r2.2.2.2 r2.1 u3)) hD [0, 11, 12, 13, 14, 15, 16, 17, 18, 19, 20, 21, 22, 23, 24, 1, 2, 3, 4, 5, 6, 7, 8, 9, 10] (by decide) rfl
    generalize H1 = H at hP hS ⊢
    refine lv_aload_n hx hb dX7_flash_33 rfl (lv_at hl 1 rfl) ?_
    refine va_get (D := D) (ci := 7) (v := .ref sc) (C := RX7) (T := TX7) (N := 6) hx hb hts uX7_flash_X7 hown hK.1 hP 0 rfl rfl 0 (by decide) (hts _ kX7_flash_2) (fun _ h9 => h9) rfl dX7_flash_34 ?_
    refine va_get (D := D) (ci := 5) (v := .int r4.1) (C := RX5) (T := TX5) (N := 7) hx hb hts uX7_flash_X5 hown hK.1 hP 1 rfl rfl 5 (by decide) (hts _ kX7_flash_4) (fun _ h9 => h9) rfl dX7_flash_37 ?_
    have e9 := Option.some.inj h
    subst e9
    rw [hQ]
    exact W.iret (v := r4.1) hx hb hr (fun t ht hW => ⟨⟨r4.1, u3, rfl, rfl, by rw [ht]; exact hP, hD⟩, hS.F ht⟩) hS.2.2 dX7_flash_40
  · replace h := br_n c5 h
    refine lv_iload_n hx hb dX7_flash_11 rfl (lv_at hl 0 rfl) ?_
    have e9 := Option.some.inj h
    subst e9
    rw [hQ]
    refine W.widen (k := 14) (n := 478) (by decide) (by decide) ?_
    exact W.iret (v := r1) hx hb hr (fun t ht hW => ⟨⟨r1, ad, rfl, rfl, by rw [ht]; exact hP, hD⟩, hS.F ht⟩) hS.2.2 dX7_flash_12
-- LeaningLines.pass
abbrev OUT_X7_pass : Type := Int32 × (Nat → Bool) × (Nat → SCV) × Int32 × Int32 × Int32
def f_X7_pass (se : Nat → Int32) (mn : Int32) (ln : Nat → Int32) (hi : Nat → Int32) (wi : Nat → Int32) (br : Nat → Int32) (sp : Nat → Int32) (si : Nat → Int32) (le : Nat → Int32) (un : Nat → Int32) (ul : Nat → Int32) (px : Nat → Int32) (tm : Int32) (ps : Int32) (ft : Int32) (fk : Int32) (nx : Int32) (hm : Int32) (pr : Nat → Bool) (sv : Nat → SCV) (a0 : Int32) : Option OUT_X7_pass :=
  bn (f_X7_errorOfPass tm a0) (fun r1 => (if r1 = 0 then bn (f_X1_record nx hm se mn ln hi wi br sp si le un ul px tm ps ft fk pr sv) (fun r2 => some ((tm + a0, r2.1, r2.2.1, tm + a0, r2.2.2.1, r2.2.2.2))) else some ((r1, pr, sv, tm, nx, hm))))
theorem uX7_pass_X7 : ∀ w ∈ wsX70, w ∈ wsX7_pass := by decide +kernel
theorem kX7_pass_1 : Cond.fieldLink RX7 26 "LeaningLines" "history" "LLeaningLines$History;" ∈ wsX7_pass := by decide +kernel
theorem kX7_pass_2 : Cond.fieldLink RX7 10 "LeaningLines" "scene" "LLeaningLines$Scene;" ∈ wsX7_pass := by decide +kernel
theorem uX7_pass_X5 : ∀ w ∈ wsX50, w ∈ wsX7_pass := by decide +kernel
theorem kX7_pass_4 : Cond.fieldLink RX7 76 "LeaningLines$Scene" "time" "I" ∈ wsX7_pass := by decide +kernel
abbrev R_X7_pass : Room := { frames := 4, cells := 14, slots := 478, locals := 104 }
set_option maxHeartbeats 4000000 in
set_option maxRecDepth 100000 in
theorem m_X7_pass (l : Launch) (D : va_G) (cI cC cZ cR : ClassId) (mm sc sea th th1 th2 th3 th4 th5 th6 th7 th8 th9 pi pia cm cm1 cm2 cm3 pd pda rd rda hh hst sla : Nat) (sz : Nat) (se : Nat → Int32) (mn : Int32) (ln : Nat → Int32) (hi : Nat → Int32) (wi : Nat → Int32) (br : Nat → Int32) (sp : Nat → Int32) (si : Nat → Int32) (le : Nat → Int32) (un : Nat → Int32) (ul : Nat → Int32) (px : Nat → Int32) (tm : Int32) (ps : Int32) (ft : Int32) (fk : Int32) (lea : Nat → Int32) (upr : Nat → Int32) (ris : Nat → Int32) (pl : Int32) (tx : Nat → Int32) (at_ : Int32) (kd : Int32) (va : Nat → Int32) (nx : Int32) (hm : Int32) (pr : Nat → Bool) (ad : Nat → Nat → Nat) (sv : Nat → SCV) (a0 : Int32) (b0 : Nat)  (r : OUT_X7_pass) (hf : f_X7_pass se mn ln hi wi br sp si le un ul px tm ps ft fk nx hm pr sv a0 = some r) : Met l yX7_pass wsX7_pass R_X7_pass (cPcS D cI cC cZ cR b0 [.ref mm, .int a0] sz ((ws_mainT cI cC cZ cR mm sc sea th th1 th2 th3 th4 th5 th6 th7 th8 th9 pi pia cm cm1 cm2 cm3 pd pda rd rda hh hst sla se mn ln hi wi br sp si le un ul px tm ps ft fk lea upr ris pl tx at_ kd va nx hm pr ad) ++ hwB cI cC cZ cR pr ad sv)) (va_Qi (fun (x : Int32) (_ : Nat → Nat → Nat) => x = r.1) (fun u t => va_P D vwCl (((ws_mainT cI cC cZ cR mm sc sea th th1 th2 th3 th4 th5 th6 th7 th8 th9 pi pia cm cm1 cm2 cm3 pd pda rd rda hh hst sla se mn ln hi wi br sp si le un ul px r.2.2.2.1 ps ft fk lea upr ris pl tx at_ kd va r.2.2.2.2.1 r.2.2.2.2.2 r.2.1 u) ++ hwB cI cC cZ cR r.2.1 u r.2.2.1)) t.heap ∧ va_D (va_A ((ws_mainT cI cC cZ cR mm sc sea th th1 th2 th3 th4 th5 th6 th7 th8 th9 pi pia cm cm1 cm2 cm3 pd pda rd rda hh hst sla se mn ln hi wi br sp si le un ul px tm ps ft fk lea upr ris pl tx at_ kd va nx hm pr ad) ++ hwB cI cC cZ cR pr ad sv) sz) (((ws_mainT cI cC cZ cR mm sc sea th th1 th2 th3 th4 th5 th6 th7 th8 th9 pi pia cm cm1 cm2 cm3 pd pda rd rda hh hst sla se mn ln hi wi br sp si le un ul px r.2.2.2.1 ps ft fk lea upr ris pl tx at_ kd va r.2.2.2.2.1 r.2.2.2.2.2 r.2.1 u) ++ hwB cI cC cZ cR r.2.1 u r.2.2.1))) (va_A ((ws_mainT cI cC cZ cR mm sc sea th th1 th2 th3 th4 th5 th6 th7 th8 th9 pi pia cm cm1 cm2 cm3 pd pda rd rda hh hst sla se mn ln hi wi br sp si le un ul px tm ps ft fk lea upr ris pl tx at_ kd va nx hm pr ad) ++ hwB cI cC cZ cR pr ad sv) sz)) 14 478 (va_A ((ws_mainT cI cC cZ cR mm sc sea th th1 th2 th3 th4 th5 th6 th7 th8 th9 pi pia cm cm1 cm2 cm3 pd pda rd rda hh hst sla se mn ln hi wi br sp si le un ul px tm ps ft fk lea upr ris pl tx at_ kd va nx hm pr ad) ++ hwB cI cC cZ cR pr ad sv) sz) := by
  refine Met.ofW (cc := cX7_pass) (maxL := 3) (ret := (some .int)) (by decide) rfl ?_
  intro p e s m args below meth c s₁ B hml hv
  obtain ⟨rfl, hsz, hP, hK, hD0, hb0, hstt⟩ := hv
  have hx := B.exec
  have hb := B.bytes
  have hr := B.returns
  have hts := atoms_spec (ws := wsX7_pass) B.pre
  have hown : s.vm.findClass RX7 = some m.cls := findClass_of_methodNamed B.named
  have hlocks := B.notSynchronized
  subst hsz
  have hD := hD0.self (sz := s.heap.size)
  generalize hAe : va_A ((ws_mainT cI cC cZ cR mm sc sea th th1 th2 th3 th4 th5 th6 th7 th8 th9 pi pia cm cm1 cm2 cm3 pd pda rd rda hh hst sla se mn ln hi wi br sp si le un ul px tm ps ft fk lea upr ris pl tx at_ kd va nx hm pr ad) ++ hwB cI cC cZ cR pr ad sv) s.heap.size = A at hD ⊢
  have hAb := hAb_of hAe hD0 hb0
  have hA : ∀ q : Nat, s.heap.size ≤ q → A q := fun q h => by rw [← hAe]; exact Or.inr h
  have hS : va_S A s.heap s.heap [] := va_S.rf
  have hl := lv_entry ([.ref mm, .int a0]) (n := 3) (Nat.le_of_ble_eq_true rfl)
  rw [lg_entry_eq]
  generalize (lg_sl ([.ref mm, .int a0]) ++ List.replicate (3 - (lg_sl ([.ref mm, .int a0])).length) Slot.unset).toArray = ls at hl ⊢
  have hl : lv_has ls 3 [(0, .ref mm), (1, .int a0)] := hl
  refine W_absQ (fun Q hQ => ?_)
  refine W.eq (g2 := F0 m 0 ls []) rfl ?_
  have h := hf
  unfold f_X7_pass at h
  refine lv_aload_n hx hb dX7_pass_0 rfl (lv_at hl 0 rfl) ?_
  refine lv_iload_n hx hb dX7_pass_1 rfl (lv_at hl 1 rfl) ?_
  obtain ⟨r1, hcr1, h⟩ := bn_sp h
  have hPc := hP.sub (ws' := (ws_main cI cC cZ cR mm sc sea th th1 th2 th3 th4 th5 th6 th7 th8 th9 pi pia cm cm1 cm2 cm3 pd pda rd rda hh sla se mn ln hi wi br sp si le un ul px tm ps ft fk lea upr ris pl tx at_ kd va)) [0, 1, 2, 3, 4, 5, 6, 7, 8, 9, 10, 11, 12, 13, 14, 15, 16, 17, 18, 19, 20, 21, 22] rfl
  have hDc := hD.sub (ws' := (ws_main cI cC cZ cR mm sc sea th th1 th2 th3 th4 th5 th6 th7 th8 th9 pi pia cm cm1 cm2 cm3 pd pda rd rda hh sla se mn ln hi wi br sp si le un ul px tm ps ft fk lea upr ris pl tx at_ kd va)) [0, 1, 2, 3, 4, 5, 6, 7, 8, 9, 10, 11, 12, 13, 14, 15, 16, 17, 18, 19, 20, 21, 22] (by decide) rfl
  have hFc := va_free (wc := (ws_main cI cC cZ cR mm sc sea th th1 th2 th3 th4 th5 th6 th7 th8 th9 pi pia cm cm1 cm2 cm3 pd pda rd rda hh sla se mn ln hi wi br sp si le un ul px tm ps ft fk lea upr ris pl tx at_ kd va)) hD hS hA [0, 1, 2, 3, 4, 5, 6, 7, 8, 9, 10, 11, 12, 13, 14, 15, 16, 17, 18, 19, 20, 21, 22] rfl
  refine va_calli (va_runV (As := [.int a0]) (rest := []) ⟨hx, hb, hml, hown, hts⟩ (m_X7_errorOfPass l D cI cC cZ cR mm sc sea th th1 th2 th3 th4 th5 th6 th7 th8 th9 pi pia cm cm1 cm2 cm3 pd pda rd rda hh sla _ se mn ln hi wi br sp si le un ul px tm ps ft fk lea upr ris pl tx at_ kd va a0   r1 hcr1) (cwV 1 hts gX7_pass_X7_errorOfPass rfl rfl rfl (by decide +kernel) ⟨Nat.le_of_ble_eq_true rfl, Nat.le_of_ble_eq_true rfl⟩) (cPc_pv hPc hK hDc (ci := 7) (q0 := 0) rfl rfl) rfl rfl hl.1 rfl (lv_room (Nat.le_of_ble_eq_true rfl)) dX7_pass_2 ⟨Nat.le_of_ble_eq_true rfl, Nat.le_of_ble_eq_true rfl⟩) hS (fun q _ h => hFc q h) hFc (fun xq u t H1 locs ht hvm hw hB hz1 hk1 hS => ?_)
  rw [hw]
  obtain ⟨hP1, hD1⟩ := hB
  rw [ht] at hP1
  obtain ⟨hP, hD⟩ := jT1 (R := [(hh, .inr (1, [.ref hst, .int nx, .int hm])), (hst, .inl (cR, 6, .inr (.inr (.inr (.inr (hfn pr ad))))))]) (w1 := (ws_main cI cC cZ cR mm sc sea th th1 th2 th3 th4 th5 th6 th7 th8 th9 pi pia cm cm1 cm2 cm3 pd pda rd rda hh sla se mn ln hi wi br sp si le un ul px tm ps ft fk lea upr ris pl tx at_ kd va)) hP hD [0, 1, 2, 3, 4, 5, 6, 7, 8, 9, 10, 11, 12, 13, 14, 15, 16, 17, 18, 19, 20, 21, 22] [23, 24] rfl rfl (by decide) (by decide) hk1 hFc hP1 hD1
  have hP := va_P_subT (X' := (ws_mainT cI cC cZ cR mm sc sea th th1 th2 th3 th4 th5 th6 th7 th8 th9 pi pia cm cm1 cm2 cm3 pd pda rd rda hh hst sla se mn ln hi wi br sp si le un ul px tm ps ft fk lea upr ris pl tx at_ kd va nx hm pr ad)) hP [2, 3, 4, 5, 6, 7, 8, 9, 10, 11, 12, 13, 14, 15, 16, 17, 18, 19, 20, 21, 22, 23, 24, 0, 1] rfl
  have hD := va_D_subT (X' := (ws_mainT cI cC cZ cR mm sc sea th th1 th2 th3 th4 th5 th6 th7 th8 th9 pi pia cm cm1 cm2 cm3 pd pda rd rda hh hst sla se mn ln hi wi br sp si le un ul px tm ps ft fk lea upr ris pl tx at_ kd va nx hm pr ad)) hD [2, 3, 4, 5, 6, 7, 8, 9, 10, 11, 12, 13, 14, 15, 16, 17, 18, 19, 20, 21, 22, 23, 24, 0, 1] (by decide) rfl
  generalize H1 = H at hP hS ⊢
  refine lv_istore_n (lv' := [(2, .int r1), (0, .ref mm), (1, .int a0)]) hx hb dX7_pass_5 rfl hl (by decide) rfl (fun ls hl => ?_)
  refine lv_iload_n hx hb dX7_pass_6 rfl (lv_at hl 0 rfl) ?_
  refine lv_if_eq (tgt := 12) hx hb dX7_pass_7 (by decide) (fun c4 => ?_) (fun c4 => ?_)
  · replace h := br_p c4 h
    refine lv_aload_n hx hb dX7_pass_12 rfl (lv_at hl 1 rfl) ?_
    refine va_get (D := D) (ci := 7) (v := .ref hh) (C := RX7) (T := TX7) (N := 6) hx hb hts uX7_pass_X7 hown hK.1 hP 0 rfl rfl 2 (by decide) (hts _ kX7_pass_1) (fun _ h9 => h9) rfl dX7_pass_13 ?_
    refine lv_aload_n hx hb dX7_pass_16 rfl (lv_at hl 1 rfl) ?_
    refine va_get (D := D) (ci := 7) (v := .ref sc) (C := RX7) (T := TX7) (N := 6) hx hb hts uX7_pass_X7 hown hK.1 hP 0 rfl rfl 0 (by decide) (hts _ kX7_pass_2) (fun _ h9 => h9) rfl dX7_pass_17 ?_
    obtain ⟨r2, hcr2, h⟩ := bn_sp h
    have hPc := va_P_subT (X' := (ws_histT_scene cI cC cZ cR hh hst sc sea th th1 th2 th3 th4 th5 th6 th7 th8 th9 pi pia nx hm se mn ln hi wi br sp si le un ul px tm ps ft fk pr ad)) hP [23, 24, 1, 2, 3, 4, 5, 6, 7, 8, 9, 10, 11, 12, 13, 14] rfl
    have hDc := va_D_subT (X' := (ws_histT_scene cI cC cZ cR hh hst sc sea th th1 th2 th3 th4 th5 th6 th7 th8 th9 pi pia nx hm se mn ln hi wi br sp si le un ul px tm ps ft fk pr ad)) hD [23, 24, 1, 2, 3, 4, 5, 6, 7, 8, 9, 10, 11, 12, 13, 14] (by decide) rfl
    have hFc := va_freeT (wc := (ws_histT_scene cI cC cZ cR hh hst sc sea th th1 th2 th3 th4 th5 th6 th7 th8 th9 pi pia nx hm se mn ln hi wi br sp si le un ul px tm ps ft fk pr ad)) hD hS hA [23, 24, 1, 2, 3, 4, 5, 6, 7, 8, 9, 10, 11, 12, 13, 14] rfl
    refine va_callv (va_runV (As := [.ref sc]) (rest := []) ⟨hx, hb, hml, hown, hts⟩ (m_X1_record l D cI cC cZ cR hh hst sc sea th th1 th2 th3 th4 th5 th6 th7 th8 th9 pi pia _ nx hm se mn ln hi wi br sp si le un ul px tm ps ft fk pr ad sv  b0  r2 hcr2) (cwV 1 hts gX7_pass_X1_record rfl rfl rfl (by decide +kernel) ⟨Nat.le_of_ble_eq_true rfl, Nat.le_of_ble_eq_true rfl⟩) (cPcS_pv hPc hK hDc hAb hb0 hS hstt (ci := 1) (q0 := 0) rfl rfl) rfl rfl hl.1 rfl (lv_room (Nat.le_of_ble_eq_true rfl)) dX7_pass_20 ⟨Nat.le_of_ble_eq_true rfl, Nat.le_of_ble_eq_true rfl⟩) hS (fun q _ h => hFc q h) hFc (fun u3 t H1 locs ht hvm hw hB hz1 hk1 hS => ?_)
    obtain ⟨hP1, hD1⟩ := hB
    rw [ht] at hP1
    obtain ⟨hP, hD⟩ := jT2 (R := [(mm, .inr (7, [.ref sc, .ref cm, .ref hh, .ref sla, .ref pd, .ref rd])), (cm, .inr (0, [.ref cm1, .ref cm2, .ref cm3])), (cm1, .inl (cI, 24, .inl lea)), (cm2, .inl (cI, 24, .inl upr)), (cm3, .inl (cI, 25, .inl ris)), (pd, .inr (2, [.ref pda, .int pl])), (pda, .inl (cC, 80, .inl tx)), (rd, .inr (4, [.ref pd, .int at_, .int kd, .ref rda])), (rda, .inl (cI, 7, .inl va))]) (w1 := (ws_histT_scene cI cC cZ cR hh hst sc sea th th1 th2 th3 th4 th5 th6 th7 th8 th9 pi pia r2.2.2.1 r2.2.2.2 se mn ln hi wi br sp si le un ul px tm ps ft fk r2.1 u3)) hP hD [23, 24, 1, 2, 3, 4, 5, 6, 7, 8, 9, 10, 11, 12, 13, 14] [0, 15, 16, 17, 18, 19, 20, 21, 22] rfl rfl (by decide) (by decide) hk1 hFc hP1 hD1
    have hP := va_P_subT (X' := (ws_mainT cI cC cZ cR mm sc sea th th1 th2 th3 th4 th5 th6 th7 th8 th9 pi pia cm cm1 cm2 cm3 pd pda rd rda hh hst sla se mn ln hi wi br sp si le un ul px tm ps ft fk lea upr ris pl tx at_ kd va r2.2.2.1 r2.2.2.2 r2.1 u3)) hP [0, 11, 12, 13, 14, 15, 16, 17, 18, 19, 20, 21, 22, 23, 24, 1, 2, 3, 4, 5, 6, 7, 8, 9, 10] rfl
    have hD := va_D_subT (X' := (ws_mainT cI cC cZ cR mm sc sea th th1 th2 th3 th4 th5 th6 th7 th8 th9 pi pia cm cm1 cm2 cm3 pd pda rd rda hh hst sla se mn ln hi wi br sp si le un ul px tm ps ft fk lea upr ris pl tx at_ kd va r2.2.2.1 r2.2.2.2 r2.1 u3)) hD [0, 11, 12, 13, 14, 15, 16, 17, 18, 19, 20, 21, 22, 23, 24, 1, 2, 3, 4, 5, 6, 7, 8, 9, 10] (by decide) rfl
    generalize H1 = H at hP hS ⊢
    refine lv_aload_n hx hb dX7_pass_23 rfl (lv_at hl 1 rfl) ?_
    refine va_get (D := D) (ci := 7) (v := .ref sc) (C := RX7) (T := TX7) (N := 6) hx hb hts uX7_pass_X7 hown hK.1 hP 0 rfl rfl 0 (by decide) (hts _ kX7_pass_2) (fun _ h9 => h9) rfl dX7_pass_24 ?_
    refine lv_dup hx hb dX7_pass_27 rfl ?_
    refine va_get (D := D) (ci := 5) (v := .int tm) (C := RX5) (T := TX5) (N := 7) hx hb hts uX7_pass_X5 hown hK.1 hP 1 rfl rfl 3 (by decide) (hts _ kX7_pass_4) (fun _ h9 => h9) rfl dX7_pass_28 ?_
    refine lv_iload_n hx hb dX7_pass_31 rfl (lv_at hl 2 rfl) ?_
    refine lv_iadd hx hb dX7_pass_32 ?_
    refine va_put (D := D) (ci := 5) (v := .int (tm + a0)) (ty := .int) (C := RX5) (T := TX5) (N := 7) hx hb hts uX7_pass_X5 tyX5 tyX5_ok nmX5 hown hK.1 hP hD hS 1 rfl rfl 3 (by decide) (hts _ kX7_pass_4) (fun _ h9 => h9) rfl (by decide +kernel) rfl rfl (Nat.le_of_ble_eq_true rfl) dX7_pass_33 (fun H locs hP hD hS => ?_)
    have hP : va_P D vwCl ((ws_mainT cI cC cZ cR mm sc sea th th1 th2 th3 th4 th5 th6 th7 th8 th9 pi pia cm cm1 cm2 cm3 pd pda rd rda hh hst sla se mn ln hi wi br sp si le un ul px (tm + a0) ps ft fk lea upr ris pl tx at_ kd va r2.2.2.1 r2.2.2.2 r2.1 u3) ++ hwB cI cC cZ cR r2.1 u3 r2.2.1) H := hP
    have hD : va_D A ((ws_mainT cI cC cZ cR mm sc sea th th1 th2 th3 th4 th5 th6 th7 th8 th9 pi pia cm cm1 cm2 cm3 pd pda rd rda hh hst sla se mn ln hi wi br sp si le un ul px (tm + a0) ps ft fk lea upr ris pl tx at_ kd va r2.2.2.1 r2.2.2.2 r2.1 u3) ++ hwB cI cC cZ cR r2.1 u3 r2.2.1) := hD
    refine lv_aload_n hx hb dX7_pass_36 rfl (lv_at hl 1 rfl) ?_
    refine va_get (D := D) (ci := 7) (v := .ref sc) (C := RX7) (T := TX7) (N := 6) hx hb hts uX7_pass_X7 hown hK.1 hP 0 rfl rfl 0 (by decide) (hts _ kX7_pass_2) (fun _ h9 => h9) rfl dX7_pass_37 ?_
    refine va_get (D := D) (ci := 5) (v := .int (tm + a0)) (C := RX5) (T := TX5) (N := 7) hx hb hts uX7_pass_X5 hown hK.1 hP 1 rfl rfl 3 (by decide) (hts _ kX7_pass_4) (fun _ h9 => h9) rfl dX7_pass_40 ?_
    have e9 := Option.some.inj h
    subst e9
    rw [hQ]
    exact W.iret (v := tm + a0) hx hb hr (fun t ht hW => ⟨⟨tm + a0, u3, rfl, rfl, by rw [ht]; exact hP, hD⟩, hS.F ht⟩) hS.2.2 dX7_pass_43
  · replace h := br_n c4 h
    refine lv_iload_n hx hb dX7_pass_10 rfl (lv_at hl 0 rfl) ?_
    have e9 := Option.some.inj h
    subst e9
    rw [hQ]
    refine W.widen (k := 14) (n := 478) (by decide) (by decide) ?_
    exact W.iret (v := r1) hx hb hr (fun t ht hW => ⟨⟨r1, ad, rfl, rfl, by rw [ht]; exact hP, hD⟩, hS.F ht⟩) hS.2.2 dX7_pass_11
-- LeaningLines.shoot
abbrev OUT_X7_shoot : Type := Int32 × (Nat → Bool) × (Nat → SCV) × Int32 × Int32 × (Nat → Int32) × (Nat → Int32) × (Nat → Int32) × Int32 × Int32
def f_X7_shoot (se : Nat → Int32) (mn : Int32) (ln : Nat → Int32) (hi : Nat → Int32) (wi : Nat → Int32) (br : Nat → Int32) (sp : Nat → Int32) (si : Nat → Int32) (le : Nat → Int32) (un : Nat → Int32) (ul : Nat → Int32) (px : Nat → Int32) (tm : Int32) (ps : Int32) (ft : Int32) (fk : Int32) (lea : Nat → Int32) (ris : Nat → Int32) (nx : Int32) (hm : Int32) (pr : Nat → Bool) (sv : Nat → SCV) : Option OUT_X7_shoot :=
  bn (f_X7_errorOfShoot se tm) (fun r1 => (if r1 = 0 then bn (f_X1_record nx hm se mn ln hi wi br sp si le un ul px tm ps ft fk pr sv) (fun r2 => bn (f_X0_takePicture lea ris se mn ln hi wi br sp si le un ul px tm ps ft fk) (fun r4 => bn (f_X3_sumOfAll r4.2.2.2.2) (fun r5 => some ((r5, r2.1, r2.2.1, r4.2.2.1, r4.2.2.2.1, r4.2.2.2.2, r4.1, r4.2.1, r2.2.2.1, r2.2.2.2))))) else some ((r1, pr, sv, tm, ps, px, lea, ris, nx, hm))))
theorem uX7_shoot_X7 : ∀ w ∈ wsX70, w ∈ wsX7_shoot := by decide +kernel
theorem kX7_shoot_1 : Cond.fieldLink RX7 26 "LeaningLines" "history" "LLeaningLines$History;" ∈ wsX7_shoot := by decide +kernel
theorem kX7_shoot_2 : Cond.fieldLink RX7 10 "LeaningLines" "scene" "LLeaningLines$Scene;" ∈ wsX7_shoot := by decide +kernel
theorem kX7_shoot_3 : Cond.fieldLink RX7 19 "LeaningLines" "camera" "LLeaningLines$Camera;" ∈ wsX7_shoot := by decide +kernel
theorem uX7_shoot_X5 : ∀ w ∈ wsX50, w ∈ wsX7_shoot := by decide +kernel
theorem kX7_shoot_5 : Cond.fieldLink RX7 129 "LeaningLines$Scene" "picture" "LLeaningLines$Picture;" ∈ wsX7_shoot := by decide +kernel
abbrev R_X7_shoot : Room := { frames := 5, cells := 14, slots := 478, locals := 121 }
set_option maxHeartbeats 4000000 in
set_option maxRecDepth 100000 in
theorem m_X7_shoot (l : Launch) (D : va_G) (cI cC cZ cR : ClassId) (mm sc sea th th1 th2 th3 th4 th5 th6 th7 th8 th9 pi pia cm cm1 cm2 cm3 pd pda rd rda hh hst sla : Nat) (sz : Nat) (se : Nat → Int32) (mn : Int32) (ln : Nat → Int32) (hi : Nat → Int32) (wi : Nat → Int32) (br : Nat → Int32) (sp : Nat → Int32) (si : Nat → Int32) (le : Nat → Int32) (un : Nat → Int32) (ul : Nat → Int32) (px : Nat → Int32) (tm : Int32) (ps : Int32) (ft : Int32) (fk : Int32) (lea : Nat → Int32) (upr : Nat → Int32) (ris : Nat → Int32) (pl : Int32) (tx : Nat → Int32) (at_ : Int32) (kd : Int32) (va : Nat → Int32) (nx : Int32) (hm : Int32) (pr : Nat → Bool) (ad : Nat → Nat → Nat) (sv : Nat → SCV)  (b0 : Nat)  (r : OUT_X7_shoot) (hf : f_X7_shoot se mn ln hi wi br sp si le un ul px tm ps ft fk lea ris nx hm pr sv = some r) : Met l yX7_shoot wsX7_shoot R_X7_shoot (cPcS D cI cC cZ cR b0 [.ref mm] sz ((ws_mainT cI cC cZ cR mm sc sea th th1 th2 th3 th4 th5 th6 th7 th8 th9 pi pia cm cm1 cm2 cm3 pd pda rd rda hh hst sla se mn ln hi wi br sp si le un ul px tm ps ft fk lea upr ris pl tx at_ kd va nx hm pr ad) ++ hwB cI cC cZ cR pr ad sv)) (va_Qi (fun (x : Int32) (_ : Nat → Nat → Nat) => x = r.1) (fun u t => va_P D vwCl (((ws_mainT cI cC cZ cR mm sc sea th th1 th2 th3 th4 th5 th6 th7 th8 th9 pi pia cm cm1 cm2 cm3 pd pda rd rda hh hst sla se mn ln hi wi br sp si le un ul r.2.2.2.2.2.1 r.2.2.2.1 r.2.2.2.2.1 ft fk r.2.2.2.2.2.2.1 upr r.2.2.2.2.2.2.2.1 pl tx at_ kd va r.2.2.2.2.2.2.2.2.1 r.2.2.2.2.2.2.2.2.2 r.2.1 u) ++ hwB cI cC cZ cR r.2.1 u r.2.2.1)) t.heap ∧ va_D (va_A ((ws_mainT cI cC cZ cR mm sc sea th th1 th2 th3 th4 th5 th6 th7 th8 th9 pi pia cm cm1 cm2 cm3 pd pda rd rda hh hst sla se mn ln hi wi br sp si le un ul px tm ps ft fk lea upr ris pl tx at_ kd va nx hm pr ad) ++ hwB cI cC cZ cR pr ad sv) sz) (((ws_mainT cI cC cZ cR mm sc sea th th1 th2 th3 th4 th5 th6 th7 th8 th9 pi pia cm cm1 cm2 cm3 pd pda rd rda hh hst sla se mn ln hi wi br sp si le un ul r.2.2.2.2.2.1 r.2.2.2.1 r.2.2.2.2.1 ft fk r.2.2.2.2.2.2.1 upr r.2.2.2.2.2.2.2.1 pl tx at_ kd va r.2.2.2.2.2.2.2.2.1 r.2.2.2.2.2.2.2.2.2 r.2.1 u) ++ hwB cI cC cZ cR r.2.1 u r.2.2.1))) (va_A ((ws_mainT cI cC cZ cR mm sc sea th th1 th2 th3 th4 th5 th6 th7 th8 th9 pi pia cm cm1 cm2 cm3 pd pda rd rda hh hst sla se mn ln hi wi br sp si le un ul px tm ps ft fk lea upr ris pl tx at_ kd va nx hm pr ad) ++ hwB cI cC cZ cR pr ad sv) sz)) 14 478 (va_A ((ws_mainT cI cC cZ cR mm sc sea th th1 th2 th3 th4 th5 th6 th7 th8 th9 pi pia cm cm1 cm2 cm3 pd pda rd rda hh hst sla se mn ln hi wi br sp si le un ul px tm ps ft fk lea upr ris pl tx at_ kd va nx hm pr ad) ++ hwB cI cC cZ cR pr ad sv) sz) := by
  refine Met.ofW (cc := cX7_shoot) (maxL := 2) (ret := (some .int)) (by decide) rfl ?_
  intro p e s m args below meth c s₁ B hml hv
  obtain ⟨rfl, hsz, hP, hK, hD0, hb0, hstt⟩ := hv
  have hx := B.exec
  have hb := B.bytes
  have hr := B.returns
  have hts := atoms_spec (ws := wsX7_shoot) B.pre
  have hown : s.vm.findClass RX7 = some m.cls := findClass_of_methodNamed B.named
  have hlocks := B.notSynchronized
  subst hsz
  have hD := hD0.self (sz := s.heap.size)
  generalize hAe : va_A ((ws_mainT cI cC cZ cR mm sc sea th th1 th2 th3 th4 th5 th6 th7 th8 th9 pi pia cm cm1 cm2 cm3 pd pda rd rda hh hst sla se mn ln hi wi br sp si le un ul px tm ps ft fk lea upr ris pl tx at_ kd va nx hm pr ad) ++ hwB cI cC cZ cR pr ad sv) s.heap.size = A at hD ⊢
  have hAb := hAb_of hAe hD0 hb0
  have hA : ∀ q : Nat, s.heap.size ≤ q → A q := fun q h => by rw [← hAe]; exact Or.inr h
  have hS : va_S A s.heap s.heap [] := va_S.rf
  have hl := lv_entry ([.ref mm]) (n := 2) (Nat.le_of_ble_eq_true rfl)
  rw [lg_entry_eq]
  generalize (lg_sl ([.ref mm]) ++ List.replicate (2 - (lg_sl ([.ref mm])).length) Slot.unset).toArray = ls at hl ⊢
  have hl : lv_has ls 2 [(0, .ref mm)] := hl
  refine W_absQ (fun Q hQ => ?_)
  refine W.eq (g2 := F0 m 0 ls []) rfl ?_
  have h := hf
  unfold f_X7_shoot at h
  refine lv_aload_n hx hb dX7_shoot_0 rfl (lv_at hl 0 rfl) ?_
  obtain ⟨r1, hcr1, h⟩ := bn_sp h
  have hPc := hP.sub (ws' := (ws_main cI cC cZ cR mm sc sea th th1 th2 th3 th4 th5 th6 th7 th8 th9 pi pia cm cm1 cm2 cm3 pd pda rd rda hh sla se mn ln hi wi br sp si le un ul px tm ps ft fk lea upr ris pl tx at_ kd va)) [0, 1, 2, 3, 4, 5, 6, 7, 8, 9, 10, 11, 12, 13, 14, 15, 16, 17, 18, 19, 20, 21, 22] rfl
  have hDc := hD.sub (ws' := (ws_main cI cC cZ cR mm sc sea th th1 th2 th3 th4 th5 th6 th7 th8 th9 pi pia cm cm1 cm2 cm3 pd pda rd rda hh sla se mn ln hi wi br sp si le un ul px tm ps ft fk lea upr ris pl tx at_ kd va)) [0, 1, 2, 3, 4, 5, 6, 7, 8, 9, 10, 11, 12, 13, 14, 15, 16, 17, 18, 19, 20, 21, 22] (by decide) rfl
  have hFc := va_free (wc := (ws_main cI cC cZ cR mm sc sea th th1 th2 th3 th4 th5 th6 th7 th8 th9 pi pia cm cm1 cm2 cm3 pd pda rd rda hh sla se mn ln hi wi br sp si le un ul px tm ps ft fk lea upr ris pl tx at_ kd va)) hD hS hA [0, 1, 2, 3, 4, 5, 6, 7, 8, 9, 10, 11, 12, 13, 14, 15, 16, 17, 18, 19, 20, 21, 22] rfl
  refine va_calli (va_runV (As := []) (rest := []) ⟨hx, hb, hml, hown, hts⟩ (m_X7_errorOfShoot l D cI cC cZ cR mm sc sea th th1 th2 th3 th4 th5 th6 th7 th8 th9 pi pia cm cm1 cm2 cm3 pd pda rd rda hh sla _ se mn ln hi wi br sp si le un ul px tm ps ft fk lea upr ris pl tx at_ kd va    r1 hcr1) (cwV 0 hts gX7_shoot_X7_errorOfShoot rfl rfl rfl (by decide +kernel) ⟨Nat.le_of_ble_eq_true rfl, Nat.le_of_ble_eq_true rfl⟩) (cPc_pv hPc hK hDc (ci := 7) (q0 := 0) rfl rfl) rfl rfl hl.1 rfl (lv_room (Nat.le_of_ble_eq_true rfl)) dX7_shoot_1 ⟨Nat.le_of_ble_eq_true rfl, Nat.le_of_ble_eq_true rfl⟩) hS (fun q _ h => hFc q h) hFc (fun xq u t H1 locs ht hvm hw hB hz1 hk1 hS => ?_)
  rw [hw]
  obtain ⟨hP1, hD1⟩ := hB
  rw [ht] at hP1
  obtain ⟨hP, hD⟩ := jT1 (R := [(hh, .inr (1, [.ref hst, .int nx, .int hm])), (hst, .inl (cR, 6, .inr (.inr (.inr (.inr (hfn pr ad))))))]) (w1 := (ws_main cI cC cZ cR mm sc sea th th1 th2 th3 th4 th5 th6 th7 th8 th9 pi pia cm cm1 cm2 cm3 pd pda rd rda hh sla se mn ln hi wi br sp si le un ul px tm ps ft fk lea upr ris pl tx at_ kd va)) hP hD [0, 1, 2, 3, 4, 5, 6, 7, 8, 9, 10, 11, 12, 13, 14, 15, 16, 17, 18, 19, 20, 21, 22] [23, 24] rfl rfl (by decide) (by decide) hk1 hFc hP1 hD1
  have hP := va_P_subT (X' := (ws_mainT cI cC cZ cR mm sc sea th th1 th2 th3 th4 th5 th6 th7 th8 th9 pi pia cm cm1 cm2 cm3 pd pda rd rda hh hst sla se mn ln hi wi br sp si le un ul px tm ps ft fk lea upr ris pl tx at_ kd va nx hm pr ad)) hP [2, 3, 4, 5, 6, 7, 8, 9, 10, 11, 12, 13, 14, 15, 16, 17, 18, 19, 20, 21, 22, 23, 24, 0, 1] rfl
  have hD := va_D_subT (X' := (ws_mainT cI cC cZ cR mm sc sea th th1 th2 th3 th4 th5 th6 th7 th8 th9 pi pia cm cm1 cm2 cm3 pd pda rd rda hh hst sla se mn ln hi wi br sp si le un ul px tm ps ft fk lea upr ris pl tx at_ kd va nx hm pr ad)) hD [2, 3, 4, 5, 6, 7, 8, 9, 10, 11, 12, 13, 14, 15, 16, 17, 18, 19, 20, 21, 22, 23, 24, 0, 1] (by decide) rfl
  generalize H1 = H at hP hS ⊢
  refine lv_istore_n (lv' := [(1, .int r1), (0, .ref mm)]) hx hb dX7_shoot_4 rfl hl (by decide) rfl (fun ls hl => ?_)
  refine lv_iload_n hx hb dX7_shoot_5 rfl (lv_at hl 0 rfl) ?_
  refine lv_if_eq (tgt := 11) hx hb dX7_shoot_6 (by decide) (fun c6 => ?_) (fun c6 => ?_)
  · replace h := br_p c6 h
    refine lv_aload_n hx hb dX7_shoot_11 rfl (lv_at hl 1 rfl) ?_
    refine va_get (D := D) (ci := 7) (v := .ref hh) (C := RX7) (T := TX7) (N := 6) hx hb hts uX7_shoot_X7 hown hK.1 hP 0 rfl rfl 2 (by decide) (hts _ kX7_shoot_1) (fun _ h9 => h9) rfl dX7_shoot_12 ?_
    refine lv_aload_n hx hb dX7_shoot_15 rfl (lv_at hl 1 rfl) ?_
    refine va_get (D := D) (ci := 7) (v := .ref sc) (C := RX7) (T := TX7) (N := 6) hx hb hts uX7_shoot_X7 hown hK.1 hP 0 rfl rfl 0 (by decide) (hts _ kX7_shoot_2) (fun _ h9 => h9) rfl dX7_shoot_16 ?_
    obtain ⟨r2, hcr2, h⟩ := bn_sp h
    have hPc := va_P_subT (X' := (ws_histT_scene cI cC cZ cR hh hst sc sea th th1 th2 th3 th4 th5 th6 th7 th8 th9 pi pia nx hm se mn ln hi wi br sp si le un ul px tm ps ft fk pr ad)) hP [23, 24, 1, 2, 3, 4, 5, 6, 7, 8, 9, 10, 11, 12, 13, 14] rfl
    have hDc := va_D_subT (X' := (ws_histT_scene cI cC cZ cR hh hst sc sea th th1 th2 th3 th4 th5 th6 th7 th8 th9 pi pia nx hm se mn ln hi wi br sp si le un ul px tm ps ft fk pr ad)) hD [23, 24, 1, 2, 3, 4, 5, 6, 7, 8, 9, 10, 11, 12, 13, 14] (by decide) rfl
    have hFc := va_freeT (wc := (ws_histT_scene cI cC cZ cR hh hst sc sea th th1 th2 th3 th4 th5 th6 th7 th8 th9 pi pia nx hm se mn ln hi wi br sp si le un ul px tm ps ft fk pr ad)) hD hS hA [23, 24, 1, 2, 3, 4, 5, 6, 7, 8, 9, 10, 11, 12, 13, 14] rfl
    refine va_callv (va_runV (As := [.ref sc]) (rest := []) ⟨hx, hb, hml, hown, hts⟩ (m_X1_record l D cI cC cZ cR hh hst sc sea th th1 th2 th3 th4 th5 th6 th7 th8 th9 pi pia _ nx hm se mn ln hi wi br sp si le un ul px tm ps ft fk pr ad sv  b0  r2 hcr2) (cwV 1 hts gX7_shoot_X1_record rfl rfl rfl (by decide +kernel) ⟨Nat.le_of_ble_eq_true rfl, Nat.le_of_ble_eq_true rfl⟩) (cPcS_pv hPc hK hDc hAb hb0 hS hstt (ci := 1) (q0 := 0) rfl rfl) rfl rfl hl.1 rfl (lv_room (Nat.le_of_ble_eq_true rfl)) dX7_shoot_19 ⟨Nat.le_of_ble_eq_true rfl, Nat.le_of_ble_eq_true rfl⟩) hS (fun q _ h => hFc q h) hFc (fun u3 t H1 locs ht hvm hw hB hz1 hk1 hS => ?_)
    obtain ⟨hP1, hD1⟩ := hB
    rw [ht] at hP1
    obtain ⟨hP, hD⟩ := jT2 (R := [(mm, .inr (7, [.ref sc, .ref cm, .ref hh, .ref sla, .ref pd, .ref rd])), (cm, .inr (0, [.ref cm1, .ref cm2, .ref cm3])), (cm1, .inl (cI, 24, .inl lea)), (cm2, .inl (cI, 24, .inl upr)), (cm3, .inl (cI, 25, .inl ris)), (pd, .inr (2, [.ref pda, .int pl])), (pda, .inl (cC, 80, .inl tx)), (rd, .inr (4, [.ref pd, .int at_, .int kd, .ref rda])), (rda, .inl (cI, 7, .inl va))]) (w1 := (ws_histT_scene cI cC cZ cR hh hst sc sea th th1 th2 th3 th4 th5 th6 th7 th8 th9 pi pia r2.2.2.1 r2.2.2.2 se mn ln hi wi br sp si le un ul px tm ps ft fk r2.1 u3)) hP hD [23, 24, 1, 2, 3, 4, 5, 6, 7, 8, 9, 10, 11, 12, 13, 14] [0, 15, 16, 17, 18, 19, 20, 21, 22] rfl rfl (by decide) (by decide) hk1 hFc hP1 hD1
    have hP := va_P_subT (X' := (ws_mainT cI cC cZ cR mm sc sea th th1 th2 th3 th4 th5 th6 th7 th8 th9 pi pia cm cm1 cm2 cm3 pd pda rd rda hh hst sla se mn ln hi wi br sp si le un ul px tm ps ft fk lea upr ris pl tx at_ kd va r2.2.2.1 r2.2.2.2 r2.1 u3)) hP [0, 11, 12, 13, 14, 15, 16, 17, 18, 19, 20, 21, 22, 23, 24, 1, 2, 3, 4, 5, 6, 7, 8, 9, 10] rfl
    have hD := va_D_subT (X' := (ws_mainT cI cC cZ cR mm sc sea th th1 th2 th3 th4 th5 th6 th7 th8 th9 pi pia cm cm1 cm2 cm3 pd pda rd rda hh hst sla se mn ln hi wi br sp si le un ul px tm ps ft fk lea upr ris pl tx at_ kd va r2.2.2.1 r2.2.2.2 r2.1 u3)) hD [0, 11, 12, 13, 14, 15, 16, 17, 18, 19, 20, 21, 22, 23, 24, 1, 2, 3, 4, 5, 6, 7, 8, 9, 10] (by decide) rfl
    generalize H1 = H at hP hS ⊢
    refine lv_aload_n hx hb dX7_shoot_22 rfl (lv_at hl 1 rfl) ?_
    refine va_get (D := D) (ci := 7) (v := .ref cm) (C := RX7) (T := TX7) (N := 6) hx hb hts uX7_shoot_X7 hown hK.1 hP 0 rfl rfl 1 (by decide) (hts _ kX7_shoot_3) (fun _ h9 => h9) rfl dX7_shoot_23 ?_
    refine lv_aload_n hx hb dX7_shoot_26 rfl (lv_at hl 1 rfl) ?_
    refine va_get (D := D) (ci := 7) (v := .ref sc) (C := RX7) (T := TX7) (N := 6) hx hb hts uX7_shoot_X7 hown hK.1 hP 0 rfl rfl 0 (by decide) (hts _ kX7_shoot_2) (fun _ h9 => h9) rfl dX7_shoot_27 ?_
    obtain ⟨r4, hcr4, h⟩ := bn_sp h
    have hPc := hP.sub (ws' := (ws_camera_scene cI cC cZ cR cm cm1 cm2 cm3 sc sea th th1 th2 th3 th4 th5 th6 th7 th8 th9 pi pia lea upr ris se mn ln hi wi br sp si le un ul px tm ps ft fk)) [15, 16, 17, 18, 1, 2, 3, 4, 5, 6, 7, 8, 9, 10, 11, 12, 13, 14] rfl
    have hDc := hD.sub (ws' := (ws_camera_scene cI cC cZ cR cm cm1 cm2 cm3 sc sea th th1 th2 th3 th4 th5 th6 th7 th8 th9 pi pia lea upr ris se mn ln hi wi br sp si le un ul px tm ps ft fk)) [15, 16, 17, 18, 1, 2, 3, 4, 5, 6, 7, 8, 9, 10, 11, 12, 13, 14] (by decide) rfl
    have hFc := va_free (wc := (ws_camera_scene cI cC cZ cR cm cm1 cm2 cm3 sc sea th th1 th2 th3 th4 th5 th6 th7 th8 th9 pi pia lea upr ris se mn ln hi wi br sp si le un ul px tm ps ft fk)) hD hS hA [15, 16, 17, 18, 1, 2, 3, 4, 5, 6, 7, 8, 9, 10, 11, 12, 13, 14] rfl
    refine va_callv (va_runV (As := [.ref sc]) (rest := []) ⟨hx, hb, hml, hown, hts⟩ (m_X0_takePicture l D cI cC cZ cR cm cm1 cm2 cm3 sc sea th th1 th2 th3 th4 th5 th6 th7 th8 th9 pi pia _ lea upr ris se mn ln hi wi br sp si le un ul px tm ps ft fk    r4 hcr4) (cwV 1 hts gX7_shoot_X0_takePicture rfl rfl rfl (by decide +kernel) ⟨Nat.le_of_ble_eq_true rfl, Nat.le_of_ble_eq_true rfl⟩) (cPc_pv hPc hK hDc (ci := 0) (q0 := 0) rfl rfl) rfl rfl hl.1 rfl (lv_room (Nat.le_of_ble_eq_true rfl)) dX7_shoot_30 ⟨Nat.le_of_ble_eq_true rfl, Nat.le_of_ble_eq_true rfl⟩) hS (fun q _ h => hFc q h) hFc (fun u t H1 locs ht hvm hw hB hz1 hk1 hS => ?_)
    obtain ⟨hP1, hD1⟩ := hB
    rw [ht] at hP1
    obtain ⟨hP, hD⟩ := jT1 (R := [(mm, .inr (7, [.ref sc, .ref cm, .ref hh, .ref sla, .ref pd, .ref rd])), (pd, .inr (2, [.ref pda, .int pl])), (pda, .inl (cC, 80, .inl tx)), (rd, .inr (4, [.ref pd, .int at_, .int kd, .ref rda])), (rda, .inl (cI, 7, .inl va)), (hh, .inr (1, [.ref hst, .int r2.2.2.1, .int r2.2.2.2])), (hst, .inl (cR, 6, .inr (.inr (.inr (.inr (hfn r2.1 u3))))))]) (w1 := (ws_camera_scene cI cC cZ cR cm cm1 cm2 cm3 sc sea th th1 th2 th3 th4 th5 th6 th7 th8 th9 pi pia r4.1 upr r4.2.1 se mn ln hi wi br sp si le un ul r4.2.2.2.2 r4.2.2.1 r4.2.2.2.1 ft fk)) hP hD [15, 16, 17, 18, 1, 2, 3, 4, 5, 6, 7, 8, 9, 10, 11, 12, 13, 14] [0, 19, 20, 21, 22, 23, 24] rfl rfl (by decide) (by decide) hk1 hFc hP1 hD1
    have hP := va_P_subT (X' := (ws_mainT cI cC cZ cR mm sc sea th th1 th2 th3 th4 th5 th6 th7 th8 th9 pi pia cm cm1 cm2 cm3 pd pda rd rda hh hst sla se mn ln hi wi br sp si le un ul r4.2.2.2.2 r4.2.2.1 r4.2.2.2.1 ft fk r4.1 upr r4.2.1 pl tx at_ kd va r2.2.2.1 r2.2.2.2 r2.1 u3)) hP [0, 11, 12, 13, 14, 15, 16, 17, 18, 19, 20, 21, 22, 23, 24, 7, 8, 9, 10, 1, 2, 3, 4, 5, 6] rfl
    have hD := va_D_subT (X' := (ws_mainT cI cC cZ cR mm sc sea th th1 th2 th3 th4 th5 th6 th7 th8 th9 pi pia cm cm1 cm2 cm3 pd pda rd rda hh hst sla se mn ln hi wi br sp si le un ul r4.2.2.2.2 r4.2.2.1 r4.2.2.2.1 ft fk r4.1 upr r4.2.1 pl tx at_ kd va r2.2.2.1 r2.2.2.2 r2.1 u3)) hD [0, 11, 12, 13, 14, 15, 16, 17, 18, 19, 20, 21, 22, 23, 24, 7, 8, 9, 10, 1, 2, 3, 4, 5, 6] (by decide) rfl
    generalize H1 = H at hP hS ⊢
    refine lv_aload_n hx hb dX7_shoot_33 rfl (lv_at hl 1 rfl) ?_
    refine va_get (D := D) (ci := 7) (v := .ref sc) (C := RX7) (T := TX7) (N := 6) hx hb hts uX7_shoot_X7 hown hK.1 hP 0 rfl rfl 0 (by decide) (hts _ kX7_shoot_2) (fun _ h9 => h9) rfl dX7_shoot_34 ?_
    refine va_get (D := D) (ci := 5) (v := .ref pi) (C := RX5) (T := TX5) (N := 7) hx hb hts uX7_shoot_X5 hown hK.1 hP 1 rfl rfl 2 (by decide) (hts _ kX7_shoot_5) (fun _ h9 => h9) rfl dX7_shoot_37 ?_
    obtain ⟨r5, hcr5, h⟩ := bn_sp h
    have hPc := hP.sub (ws' := (ws_picture cI cC cZ cR pi pia r4.2.2.2.2)) [13, 14] rfl
    have hDc := hD.sub (ws' := (ws_picture cI cC cZ cR pi pia r4.2.2.2.2)) [13, 14] (by decide) rfl
    have hFc := va_free (wc := (ws_picture cI cC cZ cR pi pia r4.2.2.2.2)) hD hS hA [13, 14] rfl
    refine va_calli (va_runV (As := []) (rest := []) ⟨hx, hb, hml, hown, hts⟩ (m_X3_sumOfAll l D cI cC cZ cR pi pia _ r4.2.2.2.2    r5 hcr5) (cwV 0 hts gX7_shoot_X3_sumOfAll rfl rfl rfl (by decide +kernel) ⟨Nat.le_of_ble_eq_true rfl, Nat.le_of_ble_eq_true rfl⟩) (cPc_pv hPc hK hDc (ci := 3) (q0 := 0) rfl rfl) rfl rfl hl.1 rfl (lv_room (Nat.le_of_ble_eq_true rfl)) dX7_shoot_40 ⟨Nat.le_of_ble_eq_true rfl, Nat.le_of_ble_eq_true rfl⟩) hS (fun q _ h => hFc q h) hFc (fun xq u t H1 locs ht hvm hw hB hz1 hk1 hS => ?_)
    rw [hw]
    obtain ⟨hP1, hD1⟩ := hB
    rw [ht] at hP1
    obtain ⟨hP, hD⟩ := jT1 (R := [(mm, .inr (7, [.ref sc, .ref cm, .ref hh, .ref sla, .ref pd, .ref rd])), (sc, .inr (5, [.ref sea, .ref th, .ref pi, .int r4.2.2.1, .int r4.2.2.2.1, .int ft, .int fk])), (sea, .inl (cI, 4, .inl se)), (th, .inr (6, [.int mn, .ref th1, .ref th2, .ref th3, .ref th4, .ref th5, .ref th6, .ref th7, .ref th8, .ref th9])), (th1, .inl (cI, 8, .inl ln)), (th2, .inl (cI, 8, .inl hi)), (th3, .inl (cI, 8, .inl wi)), (th4, .inl (cI, 8, .inl br)), (th5, .inl (cI, 8, .inl sp)), (th6, .inl (cI, 8, .inl si)), (th7, .inl (cI, 8, .inl le)), (th8, .inl (cI, 8, .inl un)), (th9, .inl (cI, 8, .inl ul)), (cm, .inr (0, [.ref cm1, .ref cm2, .ref cm3])), (cm1, .inl (cI, 24, .inl r4.1)), (cm2, .inl (cI, 24, .inl upr)), (cm3, .inl (cI, 25, .inl r4.2.1)), (pd, .inr (2, [.ref pda, .int pl])), (pda, .inl (cC, 80, .inl tx)), (rd, .inr (4, [.ref pd, .int at_, .int kd, .ref rda])), (rda, .inl (cI, 7, .inl va)), (hh, .inr (1, [.ref hst, .int r2.2.2.1, .int r2.2.2.2])), (hst, .inl (cR, 6, .inr (.inr (.inr (.inr (hfn r2.1 u3))))))]) (w1 := (ws_picture cI cC cZ cR pi pia r4.2.2.2.2)) hP hD [13, 14] [0, 1, 2, 3, 4, 5, 6, 7, 8, 9, 10, 11, 12, 15, 16, 17, 18, 19, 20, 21, 22, 23, 24] rfl rfl (by decide) (by decide) hk1 hFc hP1 hD1
    have hP := va_P_subT (X' := (ws_mainT cI cC cZ cR mm sc sea th th1 th2 th3 th4 th5 th6 th7 th8 th9 pi pia cm cm1 cm2 cm3 pd pda rd rda hh hst sla se mn ln hi wi br sp si le un ul r4.2.2.2.2 r4.2.2.1 r4.2.2.2.1 ft fk r4.1 upr r4.2.1 pl tx at_ kd va r2.2.2.1 r2.2.2.2 r2.1 u3)) hP [0, 1, 2, 3, 4, 5, 6, 7, 8, 9, 10, 11, 12, 23, 24, 13, 14, 15, 16, 17, 18, 19, 20, 21, 22] rfl
    have hD := va_D_subT (X' := (ws_mainT cI cC cZ cR mm sc sea th th1 th2 th3 th4 th5 th6 th7 th8 th9 pi pia cm cm1 cm2 cm3 pd pda rd rda hh hst sla se mn ln hi wi br sp si le un ul r4.2.2.2.2 r4.2.2.1 r4.2.2.2.1 ft fk r4.1 upr r4.2.1 pl tx at_ kd va r2.2.2.1 r2.2.2.2 r2.1 u3)) hD [0, 1, 2, 3, 4, 5, 6, 7, 8, 9, 10, 11, 12, 23, 24, 13, 14, 15, 16, 17, 18, 19, 20, 21, 22] (by decide) rfl
    generalize H1 = H at hP hS ⊢
    have e9 := Option.some.inj h
    subst e9
    rw [hQ]
    exact W.iret (v := r5) hx hb hr (fun t ht hW => ⟨⟨r5, u3, rfl, rfl, by rw [ht]; exact hP, hD⟩, hS.F ht⟩) hS.2.2 dX7_shoot_43
  · replace h := br_n c6 h
    refine lv_iload_n hx hb dX7_shoot_9 rfl (lv_at hl 0 rfl) ?_
    have e9 := Option.some.inj h
    subst e9
    rw [hQ]
    refine W.widen (k := 14) (n := 478) (by decide) (by decide) ?_
    exact W.iret (v := r1) hx hb hr (fun t ht hW => ⟨⟨r1, ad, rfl, rfl, by rw [ht]; exact hP, hD⟩, hS.F ht⟩) hS.2.2 dX7_shoot_10
-- LeaningLines.restore
abbrev OUT_X7_restore_a : Type := Int32 × (Nat → Bool) × (Nat → SCV) × Int32 × Int32 × Int32 × Int32 × (Nat → Int32) × Int32 × (Nat → Int32) × (Nat → Int32) × (Nat → Int32) × (Nat → Int32) × (Nat → Int32) × (Nat → Int32) × (Nat → Int32) × (Nat → Int32) × (Nat → Int32) × (Nat → Int32) × Int32 × Int32
def f_X7_restore_a (se : Nat → Int32) (mn : Int32) (ln : Nat → Int32) (hi : Nat → Int32) (wi : Nat → Int32) (br : Nat → Int32) (sp : Nat → Int32) (si : Nat → Int32) (le : Nat → Int32) (un : Nat → Int32) (ul : Nat → Int32) (px : Nat → Int32) (tm : Int32) (ps : Int32) (ft : Int32) (fk : Int32) (nx : Int32) (hm : Int32) (bse : Nat → Int32) (bmn : Int32) (bln : Nat → Int32) (bhi : Nat → Int32) (bwi : Nat → Int32) (bbr : Nat → Int32) (bsp : Nat → Int32) (bsi : Nat → Int32) (ble : Nat → Int32) (bun : Nat → Int32) (bul : Nat → Int32) (bpx : Nat → Int32) (btm : Int32) (bps : Int32) (bft : Int32) (bfk : Int32) (pr : Nat → Bool) (sv : Nat → SCV) (a0 : Int32) : Option OUT_X7_restore_a :=
  bn (f_X7_within a0 0 1) (fun r1 => (if ¬ r1 = 0 then gd a0 2 (bn (f_X1_record nx hm se mn ln hi wi br sp si le un ul px tm ps ft fk pr sv) (fun r2 => bn (f_X5_copyFrom se ln hi wi br sp si le un ul px bse bmn bln bhi bwi bbr bsp bsi ble bun bul bpx btm bps bft bfk) (fun r4 => some ((r4.2.2.2.2.2.1, r2.1, r2.2.1, r4.1, r4.2.1, r4.2.2.1, r4.2.2.2.1, r4.2.2.2.2.1, r4.2.2.2.2.2.1, r4.2.2.2.2.2.2.1, r4.2.2.2.2.2.2.2.1, r4.2.2.2.2.2.2.2.2.1, r4.2.2.2.2.2.2.2.2.2.1, r4.2.2.2.2.2.2.2.2.2.2.1, r4.2.2.2.2.2.2.2.2.2.2.2.1, r4.2.2.2.2.2.2.2.2.2.2.2.2.1, r4.2.2.2.2.2.2.2.2.2.2.2.2.2.1, r4.2.2.2.2.2.2.2.2.2.2.2.2.2.2.1, r4.2.2.2.2.2.2.2.2.2.2.2.2.2.2.2, r2.2.2.1, r2.2.2.2))))) else none))
theorem uX7_restore_a_X7 : ∀ w ∈ wsX70, w ∈ wsX7_restore := by decide +kernel
theorem kX7_restore_a_1 : Cond.fieldLink RX7 30 "LeaningLines" "slots" "[LLeaningLines$Scene;" ∈ wsX7_restore := by decide +kernel
theorem kX7_restore_a_2 : Cond.fieldLink RX7 26 "LeaningLines" "history" "LLeaningLines$History;" ∈ wsX7_restore := by decide +kernel
theorem kX7_restore_a_3 : Cond.fieldLink RX7 10 "LeaningLines" "scene" "LLeaningLines$Scene;" ∈ wsX7_restore := by decide +kernel
theorem uX7_restore_a_X5 : ∀ w ∈ wsX50, w ∈ wsX7_restore := by decide +kernel
theorem kX7_restore_a_5 : Cond.fieldLink RX7 72 "LeaningLines$Scene" "things" "LLeaningLines$Things;" ∈ wsX7_restore := by decide +kernel
theorem uX7_restore_a_X6 : ∀ w ∈ wsX60, w ∈ wsX7_restore := by decide +kernel
theorem kX7_restore_a_7 : Cond.fieldLink RX7 176 "LeaningLines$Things" "many" "I" ∈ wsX7_restore := by decide +kernel
abbrev R_X7_restore_a : Room := { frames := 5, cells := 14, slots := 478, locals := 140 }
set_option maxHeartbeats 4000000 in
set_option maxRecDepth 100000 in
theorem m_X7_restore_a (l : Launch) (D : va_G) (cI cC cZ cR : ClassId) (mm sc sea th th1 th2 th3 th4 th5 th6 th7 th8 th9 pi pia cm cm1 cm2 cm3 pd pda rd rda hh hst sla bsc bsea bth bth1 bth2 bth3 bth4 bth5 bth6 bth7 bth8 bth9 bpi bpia : Nat) (sz : Nat) (se : Nat → Int32) (mn : Int32) (ln : Nat → Int32) (hi : Nat → Int32) (wi : Nat → Int32) (br : Nat → Int32) (sp : Nat → Int32) (si : Nat → Int32) (le : Nat → Int32) (un : Nat → Int32) (ul : Nat → Int32) (px : Nat → Int32) (tm : Int32) (ps : Int32) (ft : Int32) (fk : Int32) (lea : Nat → Int32) (upr : Nat → Int32) (ris : Nat → Int32) (pl : Int32) (tx : Nat → Int32) (at_ : Int32) (kd : Int32) (va : Nat → Int32) (nx : Int32) (hm : Int32) (bse : Nat → Int32) (bmn : Int32) (bln : Nat → Int32) (bhi : Nat → Int32) (bwi : Nat → Int32) (bbr : Nat → Int32) (bsp : Nat → Int32) (bsi : Nat → Int32) (ble : Nat → Int32) (bun : Nat → Int32) (bul : Nat → Int32) (bpx : Nat → Int32) (btm : Int32) (bps : Int32) (bft : Int32) (bfk : Int32) (sfu : Nat → Option Nat) (pr : Nat → Bool) (ad : Nat → Nat → Nat) (sv : Nat → SCV) (a0 : Int32) (b0 : Nat) (hq : sfu a0.toNatClampNeg = some bsc) (r : OUT_X7_restore_a) (hf : f_X7_restore_a se mn ln hi wi br sp si le un ul px tm ps ft fk nx hm bse bmn bln bhi bwi bbr bsp bsi ble bun bul bpx btm bps bft bfk pr sv a0 = some r) : Met l yX7_restore wsX7_restore R_X7_restore_a (cPcS D cI cC cZ cR b0 [.ref mm, .int a0] sz ((ws_mainTS_scene cI cC cZ cR mm sc sea th th1 th2 th3 th4 th5 th6 th7 th8 th9 pi pia cm cm1 cm2 cm3 pd pda rd rda hh hst sla bsc bsea bth bth1 bth2 bth3 bth4 bth5 bth6 bth7 bth8 bth9 bpi bpia se mn ln hi wi br sp si le un ul px tm ps ft fk lea upr ris pl tx at_ kd va nx hm bse bmn bln bhi bwi bbr bsp bsi ble bun bul bpx btm bps bft bfk sfu pr ad) ++ hwB cI cC cZ cR pr ad sv)) (va_Qi (fun (x : Int32) (_ : Nat → Nat → Nat) => x = r.1) (fun u t => va_P D vwCl (((ws_mainTS_scene cI cC cZ cR mm sc sea th th1 th2 th3 th4 th5 th6 th7 th8 th9 pi pia cm cm1 cm2 cm3 pd pda rd rda hh hst sla bsc bsea bth bth1 bth2 bth3 bth4 bth5 bth6 bth7 bth8 bth9 bpi bpia r.2.2.2.2.2.2.2.1 r.2.2.2.2.2.2.2.2.1 r.2.2.2.2.2.2.2.2.2.1 r.2.2.2.2.2.2.2.2.2.2.1 r.2.2.2.2.2.2.2.2.2.2.2.1 r.2.2.2.2.2.2.2.2.2.2.2.2.1 r.2.2.2.2.2.2.2.2.2.2.2.2.2.1 r.2.2.2.2.2.2.2.2.2.2.2.2.2.2.1 r.2.2.2.2.2.2.2.2.2.2.2.2.2.2.2.1 r.2.2.2.2.2.2.2.2.2.2.2.2.2.2.2.2.1 r.2.2.2.2.2.2.2.2.2.2.2.2.2.2.2.2.2.1 r.2.2.2.2.2.2.2.2.2.2.2.2.2.2.2.2.2.2.1 r.2.2.2.1 r.2.2.2.2.1 r.2.2.2.2.2.1 r.2.2.2.2.2.2.1 lea upr ris pl tx at_ kd va r.2.2.2.2.2.2.2.2.2.2.2.2.2.2.2.2.2.2.2.1 r.2.2.2.2.2.2.2.2.2.2.2.2.2.2.2.2.2.2.2.2 bse bmn bln bhi bwi bbr bsp bsi ble bun bul bpx btm bps bft bfk sfu r.2.1 u) ++ hwB cI cC cZ cR r.2.1 u r.2.2.1)) t.heap ∧ va_D (va_A ((ws_mainTS_scene cI cC cZ cR mm sc sea th th1 th2 th3 th4 th5 th6 th7 th8 th9 pi pia cm cm1 cm2 cm3 pd pda rd rda hh hst sla bsc bsea bth bth1 bth2 bth3 bth4 bth5 bth6 bth7 bth8 bth9 bpi bpia se mn ln hi wi br sp si le un ul px tm ps ft fk lea upr ris pl tx at_ kd va nx hm bse bmn bln bhi bwi bbr bsp bsi ble bun bul bpx btm bps bft bfk sfu pr ad) ++ hwB cI cC cZ cR pr ad sv) sz) (((ws_mainTS_scene cI cC cZ cR mm sc sea th th1 th2 th3 th4 th5 th6 th7 th8 th9 pi pia cm cm1 cm2 cm3 pd pda rd rda hh hst sla bsc bsea bth bth1 bth2 bth3 bth4 bth5 bth6 bth7 bth8 bth9 bpi bpia r.2.2.2.2.2.2.2.1 r.2.2.2.2.2.2.2.2.1 r.2.2.2.2.2.2.2.2.2.1 r.2.2.2.2.2.2.2.2.2.2.1 r.2.2.2.2.2.2.2.2.2.2.2.1 r.2.2.2.2.2.2.2.2.2.2.2.2.1 r.2.2.2.2.2.2.2.2.2.2.2.2.2.1 r.2.2.2.2.2.2.2.2.2.2.2.2.2.2.1 r.2.2.2.2.2.2.2.2.2.2.2.2.2.2.2.1 r.2.2.2.2.2.2.2.2.2.2.2.2.2.2.2.2.1 r.2.2.2.2.2.2.2.2.2.2.2.2.2.2.2.2.2.1 r.2.2.2.2.2.2.2.2.2.2.2.2.2.2.2.2.2.2.1 r.2.2.2.1 r.2.2.2.2.1 r.2.2.2.2.2.1 r.2.2.2.2.2.2.1 lea upr ris pl tx at_ kd va r.2.2.2.2.2.2.2.2.2.2.2.2.2.2.2.2.2.2.2.1 r.2.2.2.2.2.2.2.2.2.2.2.2.2.2.2.2.2.2.2.2 bse bmn bln bhi bwi bbr bsp bsi ble bun bul bpx btm bps bft bfk sfu r.2.1 u) ++ hwB cI cC cZ cR r.2.1 u r.2.2.1))) (va_A ((ws_mainTS_scene cI cC cZ cR mm sc sea th th1 th2 th3 th4 th5 th6 th7 th8 th9 pi pia cm cm1 cm2 cm3 pd pda rd rda hh hst sla bsc bsea bth bth1 bth2 bth3 bth4 bth5 bth6 bth7 bth8 bth9 bpi bpia se mn ln hi wi br sp si le un ul px tm ps ft fk lea upr ris pl tx at_ kd va nx hm bse bmn bln bhi bwi bbr bsp bsi ble bun bul bpx btm bps bft bfk sfu pr ad) ++ hwB cI cC cZ cR pr ad sv) sz)) 14 478 (va_A ((ws_mainTS_scene cI cC cZ cR mm sc sea th th1 th2 th3 th4 th5 th6 th7 th8 th9 pi pia cm cm1 cm2 cm3 pd pda rd rda hh hst sla bsc bsea bth bth1 bth2 bth3 bth4 bth5 bth6 bth7 bth8 bth9 bpi bpia se mn ln hi wi br sp si le un ul px tm ps ft fk lea upr ris pl tx at_ kd va nx hm bse bmn bln bhi bwi bbr bsp bsi ble bun bul bpx btm bps bft bfk sfu pr ad) ++ hwB cI cC cZ cR pr ad sv) sz) := by
  refine Met.ofW (cc := cX7_restore) (maxL := 3) (ret := (some .int)) (by decide) rfl ?_
  intro p e s m args below meth c s₁ B hml hv
  obtain ⟨rfl, hsz, hP, hK, hD0, hb0, hstt⟩ := hv
  have hx := B.exec
  have hb := B.bytes
  have hr := B.returns
  have hts := atoms_spec (ws := wsX7_restore) B.pre
  have hown : s.vm.findClass RX7 = some m.cls := findClass_of_methodNamed B.named
  have hlocks := B.notSynchronized
  subst hsz
  have hD := hD0.self (sz := s.heap.size)
  generalize hAe : va_A ((ws_mainTS_scene cI cC cZ cR mm sc sea th th1 th2 th3 th4 th5 th6 th7 th8 th9 pi pia cm cm1 cm2 cm3 pd pda rd rda hh hst sla bsc bsea bth bth1 bth2 bth3 bth4 bth5 bth6 bth7 bth8 bth9 bpi bpia se mn ln hi wi br sp si le un ul px tm ps ft fk lea upr ris pl tx at_ kd va nx hm bse bmn bln bhi bwi bbr bsp bsi ble bun bul bpx btm bps bft bfk sfu pr ad) ++ hwB cI cC cZ cR pr ad sv) s.heap.size = A at hD ⊢
  have hAb := hAb_of hAe hD0 hb0
  have hA : ∀ q : Nat, s.heap.size ≤ q → A q := fun q h => by rw [← hAe]; exact Or.inr h
  have hS : va_S A s.heap s.heap [] := va_S.rf
  have hl := lv_entry ([.ref mm, .int a0]) (n := 3) (Nat.le_of_ble_eq_true rfl)
  rw [lg_entry_eq]
  generalize (lg_sl ([.ref mm, .int a0]) ++ List.replicate (3 - (lg_sl ([.ref mm, .int a0])).length) Slot.unset).toArray = ls at hl ⊢
  have hl : lv_has ls 3 [(0, .ref mm), (1, .int a0)] := hl
  refine W_absQ (fun Q hQ => ?_)
  refine W.eq (g2 := F0 m 0 ls []) rfl ?_
  have h := hf
  unfold f_X7_restore_a at h
  refine lv_iload_n hx hb dX7_restore_0 rfl (lv_at hl 1 rfl) ?_
  refine lv_iconst (v := 0) hx hb dX7_restore_1 (by decide) ?_
  refine lv_iconst (v := 1) hx hb dX7_restore_2 (by decide) ?_
  obtain ⟨r1, hcr1, h⟩ := bn_sp h
  have hPc := hP.sub (ws' := []) [] rfl
  have hDc := hD.sub (ws' := []) [] (by decide) rfl
  have hFc := va_free (wc := []) hD hS hA [] rfl
  refine va_calli (va_runS (As := [.int a0, .int 0, .int 1]) (rest := []) ⟨hx, hb, hml, hown, hts⟩ (m_X7_within l D cI cC cZ cR  _  a0 0 1   r1 hcr1) (va_cwS 3 hts gX7_restore_X7_within rfl rfl rfl (by decide +kernel) ⟨Nat.le_of_ble_eq_true rfl, Nat.le_of_ble_eq_true rfl⟩) (cPc_ps hPc hK hDc) rfl rfl hl.1 rfl (lv_room (Nat.le_of_ble_eq_true rfl)) dX7_restore_3 ⟨Nat.le_of_ble_eq_true rfl, Nat.le_of_ble_eq_true rfl⟩) hS (fun q _ h => hFc q h) hFc (fun xq u t H1 locs ht hvm hw hB hz1 hk1 hS => ?_)
  rw [hw]
  obtain ⟨hP1, hD1⟩ := hB
  rw [ht] at hP1
  obtain ⟨hP, hD⟩ := jT1 (R := [(mm, .inr (7, [.ref sc, .ref cm, .ref hh, .ref sla, .ref pd, .ref rd])), (sc, .inr (5, [.ref sea, .ref th, .ref pi, .int tm, .int ps, .int ft, .int fk])), (sea, .inl (cI, 4, .inl se)), (th, .inr (6, [.int mn, .ref th1, .ref th2, .ref th3, .ref th4, .ref th5, .ref th6, .ref th7, .ref th8, .ref th9])), (th1, .inl (cI, 8, .inl ln)), (th2, .inl (cI, 8, .inl hi)), (th3, .inl (cI, 8, .inl wi)), (th4, .inl (cI, 8, .inl br)), (th5, .inl (cI, 8, .inl sp)), (th6, .inl (cI, 8, .inl si)), (th7, .inl (cI, 8, .inl le)), (th8, .inl (cI, 8, .inl un)), (th9, .inl (cI, 8, .inl ul)), (pi, .inr (3, [.ref pia])), (pia, .inl (cI, 384, .inl px)), (cm, .inr (0, [.ref cm1, .ref cm2, .ref cm3])), (cm1, .inl (cI, 24, .inl lea)), (cm2, .inl (cI, 24, .inl upr)), (cm3, .inl (cI, 25, .inl ris)), (pd, .inr (2, [.ref pda, .int pl])), (pda, .inl (cC, 80, .inl tx)), (rd, .inr (4, [.ref pd, .int at_, .int kd, .ref rda])), (rda, .inl (cI, 7, .inl va)), (hh, .inr (1, [.ref hst, .int nx, .int hm])), (hst, .inl (cR, 6, .inr (.inr (.inr (.inr (hfn pr ad)))))), (sla, .inl (cR, 2, .inr (.inr (.inr (.inr sfu))))), (bsc, .inr (5, [.ref bsea, .ref bth, .ref bpi, .int btm, .int bps, .int bft, .int bfk])), (bsea, .inl (cI, 4, .inl bse)), (bth, .inr (6, [.int bmn, .ref bth1, .ref bth2, .ref bth3, .ref bth4, .ref bth5, .ref bth6, .ref bth7, .ref bth8, .ref bth9])), (bth1, .inl (cI, 8, .inl bln)), (bth2, .inl (cI, 8, .inl bhi)), (bth3, .inl (cI, 8, .inl bwi)), (bth4, .inl (cI, 8, .inl bbr)), (bth5, .inl (cI, 8, .inl bsp)), (bth6, .inl (cI, 8, .inl bsi)), (bth7, .inl (cI, 8, .inl ble)), (bth8, .inl (cI, 8, .inl bun)), (bth9, .inl (cI, 8, .inl bul)), (bpi, .inr (3, [.ref bpia])), (bpia, .inl (cI, 384, .inl bpx))]) (w1 := []) hP hD [] [0, 1, 2, 3, 4, 5, 6, 7, 8, 9, 10, 11, 12, 13, 14, 15, 16, 17, 18, 19, 20, 21, 22, 23, 24, 25, 26, 27, 28, 29, 30, 31, 32, 33, 34, 35, 36, 37, 38, 39] rfl rfl (by decide) (by decide) hk1 hFc hP1 hD1
  generalize H1 = H at hP hS ⊢
  have hP : va_P D vwCl ((ws_mainTS_scene cI cC cZ cR mm sc sea th th1 th2 th3 th4 th5 th6 th7 th8 th9 pi pia cm cm1 cm2 cm3 pd pda rd rda hh hst sla bsc bsea bth bth1 bth2 bth3 bth4 bth5 bth6 bth7 bth8 bth9 bpi bpia se mn ln hi wi br sp si le un ul px tm ps ft fk lea upr ris pl tx at_ kd va nx hm bse bmn bln bhi bwi bbr bsp bsi ble bun bul bpx btm bps bft bfk sfu pr ad) ++ hwB cI cC cZ cR pr ad sv) H := hP
  have hD : va_D A ((ws_mainTS_scene cI cC cZ cR mm sc sea th th1 th2 th3 th4 th5 th6 th7 th8 th9 pi pia cm cm1 cm2 cm3 pd pda rd rda hh hst sla bsc bsea bth bth1 bth2 bth3 bth4 bth5 bth6 bth7 bth8 bth9 bpi bpia se mn ln hi wi br sp si le un ul px tm ps ft fk lea upr ris pl tx at_ kd va nx hm bse bmn bln bhi bwi bbr bsp bsi ble bun bul bpx btm bps bft bfk sfu pr ad) ++ hwB cI cC cZ cR pr ad sv) := hD
  refine lv_if_ne (tgt := 12) hx hb dX7_restore_6 (by decide) (fun c5 => ?_) (fun c5 => ?_)
  · replace h := br_p c5 h
    refine lv_aload_n hx hb dX7_restore_12 rfl (lv_at hl 0 rfl) ?_
    refine va_get (D := D) (ci := 7) (v := .ref sla) (C := RX7) (T := TX7) (N := 6) hx hb hts uX7_restore_a_X7 hown hK.1 hP 0 rfl rfl 3 (by decide) (hts _ kX7_restore_a_1) (fun _ h9 => h9) rfl dX7_restore_13 ?_
    refine lv_iload_n hx hb dX7_restore_16 rfl (lv_at hl 1 rfl) ?_
    obtain ⟨hin, h⟩ := gd_sp h
    refine va_aldq (D := D) hx hb hK.1 hP 25 3 rfl rfl hin dX7_restore_17 ?_
    refine W.eq (g2 := F0 m 18 ls [.ref bsc]) (by rw [hq]; rfl) ?_
    refine lv_astore_n (lv' := [(2, .ref bsc), (0, .ref mm), (1, .int a0)]) hx hb dX7_restore_18 rfl hl (by decide) rfl (fun ls hl => ?_)
    refine lv_aload_n hx hb dX7_restore_19 rfl (lv_at hl 0 rfl) ?_
    refine lv_ifnonnull (tgt := 26) hx hb dX7_restore_20 (by decide) ?_
    refine lv_aload_n hx hb dX7_restore_26 rfl (lv_at hl 1 rfl) ?_
    refine va_get (D := D) (ci := 7) (v := .ref hh) (C := RX7) (T := TX7) (N := 6) hx hb hts uX7_restore_a_X7 hown hK.1 hP 0 rfl rfl 2 (by decide) (hts _ kX7_restore_a_2) (fun _ h9 => h9) rfl dX7_restore_27 ?_
    refine lv_aload_n hx hb dX7_restore_30 rfl (lv_at hl 1 rfl) ?_
    refine va_get (D := D) (ci := 7) (v := .ref sc) (C := RX7) (T := TX7) (N := 6) hx hb hts uX7_restore_a_X7 hown hK.1 hP 0 rfl rfl 0 (by decide) (hts _ kX7_restore_a_3) (fun _ h9 => h9) rfl dX7_restore_31 ?_
    obtain ⟨r2, hcr2, h⟩ := bn_sp h
    have hPc := va_P_subT (X' := (ws_histT_scene cI cC cZ cR hh hst sc sea th th1 th2 th3 th4 th5 th6 th7 th8 th9 pi pia nx hm se mn ln hi wi br sp si le un ul px tm ps ft fk pr ad)) hP [23, 24, 1, 2, 3, 4, 5, 6, 7, 8, 9, 10, 11, 12, 13, 14] rfl
    have hDc := va_D_subT (X' := (ws_histT_scene cI cC cZ cR hh hst sc sea th th1 th2 th3 th4 th5 th6 th7 th8 th9 pi pia nx hm se mn ln hi wi br sp si le un ul px tm ps ft fk pr ad)) hD [23, 24, 1, 2, 3, 4, 5, 6, 7, 8, 9, 10, 11, 12, 13, 14] (by decide) rfl
    have hFc := va_freeT (wc := (ws_histT_scene cI cC cZ cR hh hst sc sea th th1 th2 th3 th4 th5 th6 th7 th8 th9 pi pia nx hm se mn ln hi wi br sp si le un ul px tm ps ft fk pr ad)) hD hS hA [23, 24, 1, 2, 3, 4, 5, 6, 7, 8, 9, 10, 11, 12, 13, 14] rfl
    refine va_callv (va_runV (As := [.ref sc]) (rest := []) ⟨hx, hb, hml, hown, hts⟩ (m_X1_record l D cI cC cZ cR hh hst sc sea th th1 th2 th3 th4 th5 th6 th7 th8 th9 pi pia _ nx hm se mn ln hi wi br sp si le un ul px tm ps ft fk pr ad sv  b0  r2 hcr2) (cwV 1 hts gX7_restore_X1_record rfl rfl rfl (by decide +kernel) ⟨Nat.le_of_ble_eq_true rfl, Nat.le_of_ble_eq_true rfl⟩) (cPcS_pv hPc hK hDc hAb hb0 hS hstt (ci := 1) (q0 := 0) rfl rfl) rfl rfl hl.1 rfl (lv_room (Nat.le_of_ble_eq_true rfl)) dX7_restore_34 ⟨Nat.le_of_ble_eq_true rfl, Nat.le_of_ble_eq_true rfl⟩) hS (fun q _ h => hFc q h) hFc (fun u3 t H1 locs ht hvm hw hB hz1 hk1 hS => ?_)
    obtain ⟨hP1, hD1⟩ := hB
    rw [ht] at hP1
    obtain ⟨hP, hD⟩ := jT2 (R := [(mm, .inr (7, [.ref sc, .ref cm, .ref hh, .ref sla, .ref pd, .ref rd])), (cm, .inr (0, [.ref cm1, .ref cm2, .ref cm3])), (cm1, .inl (cI, 24, .inl lea)), (cm2, .inl (cI, 24, .inl upr)), (cm3, .inl (cI, 25, .inl ris)), (pd, .inr (2, [.ref pda, .int pl])), (pda, .inl (cC, 80, .inl tx)), (rd, .inr (4, [.ref pd, .int at_, .int kd, .ref rda])), (rda, .inl (cI, 7, .inl va)), (sla, .inl (cR, 2, .inr (.inr (.inr (.inr sfu))))), (bsc, .inr (5, [.ref bsea, .ref bth, .ref bpi, .int btm, .int bps, .int bft, .int bfk])), (bsea, .inl (cI, 4, .inl bse)), (bth, .inr (6, [.int bmn, .ref bth1, .ref bth2, .ref bth3, .ref bth4, .ref bth5, .ref bth6, .ref bth7, .ref bth8, .ref bth9])), (bth1, .inl (cI, 8, .inl bln)), (bth2, .inl (cI, 8, .inl bhi)), (bth3, .inl (cI, 8, .inl bwi)), (bth4, .inl (cI, 8, .inl bbr)), (bth5, .inl (cI, 8, .inl bsp)), (bth6, .inl (cI, 8, .inl bsi)), (bth7, .inl (cI, 8, .inl ble)), (bth8, .inl (cI, 8, .inl bun)), (bth9, .inl (cI, 8, .inl bul)), (bpi, .inr (3, [.ref bpia])), (bpia, .inl (cI, 384, .inl bpx))]) (w1 := (ws_histT_scene cI cC cZ cR hh hst sc sea th th1 th2 th3 th4 th5 th6 th7 th8 th9 pi pia r2.2.2.1 r2.2.2.2 se mn ln hi wi br sp si le un ul px tm ps ft fk r2.1 u3)) hP hD [23, 24, 1, 2, 3, 4, 5, 6, 7, 8, 9, 10, 11, 12, 13, 14] [0, 15, 16, 17, 18, 19, 20, 21, 22, 25, 26, 27, 28, 29, 30, 31, 32, 33, 34, 35, 36, 37, 38, 39] rfl rfl (by decide) (by decide) hk1 hFc hP1 hD1
    have hP := va_P_subT (X' := (ws_mainTS_scene cI cC cZ cR mm sc sea th th1 th2 th3 th4 th5 th6 th7 th8 th9 pi pia cm cm1 cm2 cm3 pd pda rd rda hh hst sla bsc bsea bth bth1 bth2 bth3 bth4 bth5 bth6 bth7 bth8 bth9 bpi bpia se mn ln hi wi br sp si le un ul px tm ps ft fk lea upr ris pl tx at_ kd va r2.2.2.1 r2.2.2.2 bse bmn bln bhi bwi bbr bsp bsi ble bun bul bpx btm bps bft bfk sfu r2.1 u3)) hP [0, 26, 27, 28, 29, 30, 31, 32, 33, 34, 35, 36, 37, 38, 39, 1, 2, 3, 4, 5, 6, 7, 8, 24, 25, 9, 10, 11, 12, 13, 14, 15, 16, 17, 18, 19, 20, 21, 22, 23] rfl
    have hD := va_D_subT (X' := (ws_mainTS_scene cI cC cZ cR mm sc sea th th1 th2 th3 th4 th5 th6 th7 th8 th9 pi pia cm cm1 cm2 cm3 pd pda rd rda hh hst sla bsc bsea bth bth1 bth2 bth3 bth4 bth5 bth6 bth7 bth8 bth9 bpi bpia se mn ln hi wi br sp si le un ul px tm ps ft fk lea upr ris pl tx at_ kd va r2.2.2.1 r2.2.2.2 bse bmn bln bhi bwi bbr bsp bsi ble bun bul bpx btm bps bft bfk sfu r2.1 u3)) hD [0, 26, 27, 28, 29, 30, 31, 32, 33, 34, 35, 36, 37, 38, 39, 1, 2, 3, 4, 5, 6, 7, 8, 24, 25, 9, 10, 11, 12, 13, 14, 15, 16, 17, 18, 19, 20, 21, 22, 23] (by decide) rfl
    generalize H1 = H at hP hS ⊢
    refine lv_aload_n hx hb dX7_restore_37 rfl (lv_at hl 1 rfl) ?_
    refine va_get (D := D) (ci := 7) (v := .ref sc) (C := RX7) (T := TX7) (N := 6) hx hb hts uX7_restore_a_X7 hown hK.1 hP 0 rfl rfl 0 (by decide) (hts _ kX7_restore_a_3) (fun _ h9 => h9) rfl dX7_restore_38 ?_
    refine lv_aload_n hx hb dX7_restore_41 rfl (lv_at hl 0 rfl) ?_
    obtain ⟨r4, hcr4, h⟩ := bn_sp h
    have hPc := hP.sub (ws' := (ws_scene_scene cI cC cZ cR sc sea th th1 th2 th3 th4 th5 th6 th7 th8 th9 pi pia bsc bsea bth bth1 bth2 bth3 bth4 bth5 bth6 bth7 bth8 bth9 bpi bpia se mn ln hi wi br sp si le un ul px tm ps ft fk bse bmn bln bhi bwi bbr bsp bsi ble bun bul bpx btm bps bft bfk)) [1, 2, 3, 4, 5, 6, 7, 8, 9, 10, 11, 12, 13, 14, 26, 27, 28, 29, 30, 31, 32, 33, 34, 35, 36, 37, 38, 39] rfl
    have hDc := hD.sub (ws' := (ws_scene_scene cI cC cZ cR sc sea th th1 th2 th3 th4 th5 th6 th7 th8 th9 pi pia bsc bsea bth bth1 bth2 bth3 bth4 bth5 bth6 bth7 bth8 bth9 bpi bpia se mn ln hi wi br sp si le un ul px tm ps ft fk bse bmn bln bhi bwi bbr bsp bsi ble bun bul bpx btm bps bft bfk)) [1, 2, 3, 4, 5, 6, 7, 8, 9, 10, 11, 12, 13, 14, 26, 27, 28, 29, 30, 31, 32, 33, 34, 35, 36, 37, 38, 39] (by decide) rfl
    have hFc := va_free (wc := (ws_scene_scene cI cC cZ cR sc sea th th1 th2 th3 th4 th5 th6 th7 th8 th9 pi pia bsc bsea bth bth1 bth2 bth3 bth4 bth5 bth6 bth7 bth8 bth9 bpi bpia se mn ln hi wi br sp si le un ul px tm ps ft fk bse bmn bln bhi bwi bbr bsp bsi ble bun bul bpx btm bps bft bfk)) hD hS hA [1, 2, 3, 4, 5, 6, 7, 8, 9, 10, 11, 12, 13, 14, 26, 27, 28, 29, 30, 31, 32, 33, 34, 35, 36, 37, 38, 39] rfl
    refine va_callv (va_runV (As := [.ref bsc]) (rest := []) ⟨hx, hb, hml, hown, hts⟩ (m_X5_copyFrom l D cI cC cZ cR sc sea th th1 th2 th3 th4 th5 th6 th7 th8 th9 pi pia bsc bsea bth bth1 bth2 bth3 bth4 bth5 bth6 bth7 bth8 bth9 bpi bpia _ se mn ln hi wi br sp si le un ul px tm ps ft fk bse bmn bln bhi bwi bbr bsp bsi ble bun bul bpx btm bps bft bfk    r4 hcr4) (cwV 1 hts gX7_restore_X5_copyFrom rfl rfl rfl (by decide +kernel) ⟨Nat.le_of_ble_eq_true rfl, Nat.le_of_ble_eq_true rfl⟩) (cPc_pv hPc hK hDc (ci := 5) (q0 := 0) rfl rfl) rfl rfl hl.1 rfl (lv_room (Nat.le_of_ble_eq_true rfl)) dX7_restore_42 ⟨Nat.le_of_ble_eq_true rfl, Nat.le_of_ble_eq_true rfl⟩) hS (fun q _ h => hFc q h) hFc (fun u t H1 locs ht hvm hw hB hz1 hk1 hS => ?_)
    obtain ⟨hP1, hD1⟩ := hB
    rw [ht] at hP1
    obtain ⟨hP, hD⟩ := jT1 (R := [(mm, .inr (7, [.ref sc, .ref cm, .ref hh, .ref sla, .ref pd, .ref rd])), (cm, .inr (0, [.ref cm1, .ref cm2, .ref cm3])), (cm1, .inl (cI, 24, .inl lea)), (cm2, .inl (cI, 24, .inl upr)), (cm3, .inl (cI, 25, .inl ris)), (pd, .inr (2, [.ref pda, .int pl])), (pda, .inl (cC, 80, .inl tx)), (rd, .inr (4, [.ref pd, .int at_, .int kd, .ref rda])), (rda, .inl (cI, 7, .inl va)), (hh, .inr (1, [.ref hst, .int r2.2.2.1, .int r2.2.2.2])), (hst, .inl (cR, 6, .inr (.inr (.inr (.inr (hfn r2.1 u3)))))), (sla, .inl (cR, 2, .inr (.inr (.inr (.inr sfu)))))]) (w1 := (ws_scene_scene cI cC cZ cR sc sea th th1 th2 th3 th4 th5 th6 th7 th8 th9 pi pia bsc bsea bth bth1 bth2 bth3 bth4 bth5 bth6 bth7 bth8 bth9 bpi bpia r4.2.2.2.2.1 r4.2.2.2.2.2.1 r4.2.2.2.2.2.2.1 r4.2.2.2.2.2.2.2.1 r4.2.2.2.2.2.2.2.2.1 r4.2.2.2.2.2.2.2.2.2.1 r4.2.2.2.2.2.2.2.2.2.2.1 r4.2.2.2.2.2.2.2.2.2.2.2.1 r4.2.2.2.2.2.2.2.2.2.2.2.2.1 r4.2.2.2.2.2.2.2.2.2.2.2.2.2.1 r4.2.2.2.2.2.2.2.2.2.2.2.2.2.2.1 r4.2.2.2.2.2.2.2.2.2.2.2.2.2.2.2 r4.1 r4.2.1 r4.2.2.1 r4.2.2.2.1 bse bmn bln bhi bwi bbr bsp bsi ble bun bul bpx btm bps bft bfk)) hP hD [1, 2, 3, 4, 5, 6, 7, 8, 9, 10, 11, 12, 13, 14, 26, 27, 28, 29, 30, 31, 32, 33, 34, 35, 36, 37, 38, 39] [0, 15, 16, 17, 18, 19, 20, 21, 22, 23, 24, 25] rfl rfl (by decide) (by decide) hk1 hFc hP1 hD1
    have hP := va_P_subT (X' := (ws_mainTS_scene cI cC cZ cR mm sc sea th th1 th2 th3 th4 th5 th6 th7 th8 th9 pi pia cm cm1 cm2 cm3 pd pda rd rda hh hst sla bsc bsea bth bth1 bth2 bth3 bth4 bth5 bth6 bth7 bth8 bth9 bpi bpia r4.2.2.2.2.1 r4.2.2.2.2.2.1 r4.2.2.2.2.2.2.1 r4.2.2.2.2.2.2.2.1 r4.2.2.2.2.2.2.2.2.1 r4.2.2.2.2.2.2.2.2.2.1 r4.2.2.2.2.2.2.2.2.2.2.1 r4.2.2.2.2.2.2.2.2.2.2.2.1 r4.2.2.2.2.2.2.2.2.2.2.2.2.1 r4.2.2.2.2.2.2.2.2.2.2.2.2.2.1 r4.2.2.2.2.2.2.2.2.2.2.2.2.2.2.1 r4.2.2.2.2.2.2.2.2.2.2.2.2.2.2.2 r4.1 r4.2.1 r4.2.2.1 r4.2.2.2.1 lea upr ris pl tx at_ kd va r2.2.2.1 r2.2.2.2 bse bmn bln bhi bwi bbr bsp bsi ble bun bul bpx btm bps bft bfk sfu r2.1 u3)) hP [0, 12, 13, 14, 15, 16, 17, 18, 19, 20, 21, 22, 23, 24, 25, 1, 2, 3, 4, 5, 6, 7, 8, 9, 10, 11, 26, 27, 28, 29, 30, 31, 32, 33, 34, 35, 36, 37, 38, 39] rfl
    have hD := va_D_subT (X' := (ws_mainTS_scene cI cC cZ cR mm sc sea th th1 th2 th3 th4 th5 th6 th7 th8 th9 pi pia cm cm1 cm2 cm3 pd pda rd rda hh hst sla bsc bsea bth bth1 bth2 bth3 bth4 bth5 bth6 bth7 bth8 bth9 bpi bpia r4.2.2.2.2.1 r4.2.2.2.2.2.1 r4.2.2.2.2.2.2.1 r4.2.2.2.2.2.2.2.1 r4.2.2.2.2.2.2.2.2.1 r4.2.2.2.2.2.2.2.2.2.1 r4.2.2.2.2.2.2.2.2.2.2.1 r4.2.2.2.2.2.2.2.2.2.2.2.1 r4.2.2.2.2.2.2.2.2.2.2.2.2.1 r4.2.2.2.2.2.2.2.2.2.2.2.2.2.1 r4.2.2.2.2.2.2.2.2.2.2.2.2.2.2.1 r4.2.2.2.2.2.2.2.2.2.2.2.2.2.2.2 r4.1 r4.2.1 r4.2.2.1 r4.2.2.2.1 lea upr ris pl tx at_ kd va r2.2.2.1 r2.2.2.2 bse bmn bln bhi bwi bbr bsp bsi ble bun bul bpx btm bps bft bfk sfu r2.1 u3)) hD [0, 12, 13, 14, 15, 16, 17, 18, 19, 20, 21, 22, 23, 24, 25, 1, 2, 3, 4, 5, 6, 7, 8, 9, 10, 11, 26, 27, 28, 29, 30, 31, 32, 33, 34, 35, 36, 37, 38, 39] (by decide) rfl
    generalize H1 = H at hP hS ⊢
    refine lv_aload_n hx hb dX7_restore_45 rfl (lv_at hl 1 rfl) ?_
    refine va_get (D := D) (ci := 7) (v := .ref sc) (C := RX7) (T := TX7) (N := 6) hx hb hts uX7_restore_a_X7 hown hK.1 hP 0 rfl rfl 0 (by decide) (hts _ kX7_restore_a_3) (fun _ h9 => h9) rfl dX7_restore_46 ?_
    refine va_get (D := D) (ci := 5) (v := .ref th) (C := RX5) (T := TX5) (N := 7) hx hb hts uX7_restore_a_X5 hown hK.1 hP 1 rfl rfl 1 (by decide) (hts _ kX7_restore_a_5) (fun _ h9 => h9) rfl dX7_restore_49 ?_
    refine va_get (D := D) (ci := 6) (v := .int r4.2.2.2.2.2.1) (C := RX6) (T := TX6) (N := 10) hx hb hts uX7_restore_a_X6 hown hK.1 hP 3 rfl rfl 0 (by decide) (hts _ kX7_restore_a_7) (fun _ h9 => h9) rfl dX7_restore_52 ?_
    have e9 := Option.some.inj h
    subst e9
    rw [hQ]
    exact W.iret (v := r4.2.2.2.2.2.1) hx hb hr (fun t ht hW => ⟨⟨r4.2.2.2.2.2.1, u3, rfl, rfl, by rw [ht]; exact hP, hD⟩, hS.F ht⟩) hS.2.2 dX7_restore_55
  · replace h := br_n (not_not_intro c5) h
    exact no_sm h
